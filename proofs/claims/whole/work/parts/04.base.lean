/-! base: a world changed in place; contracts of one form; one lemma for each kind of call. E: what a run never changes: where the classes and slots lie (E.1), the classes of the arrays (E.2.1: 0 int[], 1 boolean[], 2 int[][]), the static tables (E.2.2) -/
def k_upd : va_W → List Nat → va_W → va_W
  | ws, i :: is, v :: vs => k_upd (ws.set i v) is vs
  | ws, [], _ => ws
  | ws, _ :: _, [] => ws
theorem k_upd_at : ∀ (is : List Nat) (vs ws : va_W) (k : Nat) (q : Nat × va_E), is.length = vs.length → (k_upd ws is vs)[k]? = some q → (∃ j : Nat, is[j]? = some k ∧ vs[j]? = some q) ∨ (ws[k]? = some q ∧ k ∉ is)
  | [], [], ws, k, q, _, h => Or.inr ⟨h, List.not_mem_nil⟩
  | [], _ :: _, _, _, _, hl, _ => by simp at hl
  | _ :: _, [], _, _, _, hl, _ => by simp at hl
  | i :: is, v :: vs, ws, k, q, hl, h => by
    have h' : (k_upd (ws.set i v) is vs)[k]? = some q := h
    rcases k_upd_at is vs (ws.set i v) k q (by simpa using hl) h' with ⟨j, h1, h2⟩ | ⟨h1, h2⟩
    · exact Or.inl ⟨j + 1, by simpa using h1, by simpa using h2⟩
    · by_cases hk : k = i
      · subst hk
        have hlt : k < ws.length := by
          have := (List.getElem?_eq_some_iff.mp h1).1
          simpa using this
        rw [List.getElem?_set_self hlt] at h1
        exact Or.inl ⟨0, rfl, by simpa using h1⟩
      · rw [List.getElem?_set_ne (Ne.symm hk)] at h1
        exact Or.inr ⟨h1, by simp [hk, h2]⟩
theorem k_frame {A : Nat → Prop} {D : va_G} {cl : List vw_C} {ws cin cout : va_W} {H H1 : Heap} {isC : List Nat} (hP : va_P D cl ws H) (hD : va_D A ws) (hC : isC.map (fun i => ws[i]?) = cin.map some) (ho : cout.map Prod.fst = cin.map Prod.fst)
    (hk : ∀ q : Nat, q < H.size → ¬ va_A cin H.size q → H1[q]? = H[q]?) (hP1 : va_P D cl cout H1) : va_P D cl (k_upd ws isC cout) H1 ∧ va_D A (k_upd ws isC cout) := by
  have hl1 : isC.length = cin.length := by simpa using congrArg List.length hC
  have hl2 : cout.length = cin.length := by simpa using congrArg List.length ho
  have at1 : ∀ (k : Nat) (q : Nat × va_E), (k_upd ws isC cout)[k]? = some q → ∃ q0 : Nat × va_E, ws[k]? = some q0 ∧ q0.1 = q.1 := by
    intro k q h
    rcases k_upd_at isC cout ws k q (by omega) h with ⟨j, h1, h2⟩ | ⟨h1, h2⟩
    · have hj : j < cin.length := by
        have := (List.getElem?_eq_some_iff.mp h2).1
        omega
      have h3 : cin[j]? = some cin[j] := List.getElem?_eq_getElem hj
      obtain ⟨i, h4, h5⟩ := va_in_of isC hC h3
      have hik : i = k := Option.some.inj (h4.symm.trans h1)
      subst hik
      refine ⟨_, h5, ?_⟩
      have h6 : (cout.map Prod.fst)[j]? = (cin.map Prod.fst)[j]? := by rw [ho]
      rw [List.getElem?_map, List.getElem?_map, h2, h3] at h6
      exact (Option.some.inj h6).symm
    · exact ⟨q, h1, rfl⟩
  refine ⟨fun k q h => ?_, fun i j x y hx hy hxy => ?_, fun k q h => ?_⟩
  · rcases k_upd_at isC cout ws k q (by omega) h with ⟨j, h1, h2⟩ | ⟨h1, h2⟩
    · exact hP1 j q h2
    · refine (hP k q h1).kept (hk q.1 (hP k q h1).lt ?_)
      intro hA
      rcases hA with ⟨k2, e, h3⟩ | h3
      · obtain ⟨i, h4, h5⟩ := va_in_of isC hC h3
        have := hD.1 k i q (q.1, e) h1 h5 rfl
        subst this
        exact h2 (List.mem_of_getElem? h4)
      · have := (hP k q h1).lt
        omega
  · obtain ⟨x0, g1, g2⟩ := at1 i x hx
    obtain ⟨y0, g3, g4⟩ := at1 j y hy
    exact hD.1 i j x0 y0 g1 g3 (by rw [g2, g4]; exact hxy)
  · obtain ⟨x0, g1, g2⟩ := at1 k q h
    rw [← g2]
    exact hD.2 k x0 g1
theorem k_pick {D : va_G} {cl : List vw_C} {ws cin : va_W} {H : Heap} {isC : List Nat} (hP : va_P D cl ws H) (hC : isC.map (fun i => ws[i]?) = cin.map some) : va_P D cl cin H := by
  intro k q h
  obtain ⟨i, -, h2⟩ := va_in_of isC hC h
  exact hP i q h2
/-! contracts of three forms (pure, void, int), their proofs' beginning and end -/
abbrev kE : Type := va_G × (Nat → ClassId) × (Nat → Nat)
abbrev kY (E : kE) : List (ClassId × FieldType) := [(E.2.1 0, .int), (E.2.1 1, .boolean), (E.2.1 2, .array .int)]
def kTA (j : Nat) : Int32 := ([0, 2, 2, 2, 2, 2, 2, 2, 3, 3, -1, 2, -1, -1, -1, -1, 2, 2, 2, 2, 2, 1, 2, 2, 2, 1, 2, 2, 2, 2, -1, -1] : List Int32).getD j 0
def kTB (j : Nat) : Int32 := ([1, 1, 2, 2, -1, -1, 1, 2, 0, 0, 0, 0, -1, -1, -1, -1] : List Int32).getD j 0
def kNest : List Cond := [.methodLinkNest "WideStack" 9 ⟨"WideStack$Program", "<init>", "()V"⟩ "WideStack", .methodLinkNest "WideStack" 18 ⟨"WideStack$Run", "<init>", "()V"⟩ "WideStack", .methodLinkNest "WideStack$Run" 9 ⟨"WideStack$Stack", "<init>", "()V"⟩ "WideStack", .methodLinkNest "WideStack$Run" 18 ⟨"WideStack$Store", "<init>", "()V"⟩ "WideStack", .methodLinkNest "WideStack$Run" 25 ⟨"WideStack$Calculator", "<init>", "()V"⟩ "WideStack", .methodLinkNest "WideStack$Calculator" 9 ⟨"WideStack$Divider", "<init>", "()V"⟩ "WideStack"]
def va_AOA (t : FieldType) (U : State) : Prop := (Cond.arrayOver (.array t)).before #[] U = true
theorem va_AOA.use {t : FieldType} {A : Array Value} {U : State} (h : va_AOA t U) : (Cond.arrayOver (.array t)).before A U = true := h
theorem k_over {s U : State} (hW : s.WarmedH U.vm) (h : (Cond.arrayOver (.array .int)).before #[] s = true) : (Cond.arrayOver (.array .int)).before #[] U = true := by
  have h1 : (Cond.arrayOver (.array .int)).before #[] (s.setVm U.vm) = true := Cond.before_shiftedOver (State.Shifted.of_warmed hW) _ rfl h
  exact h1
/-- what a run never changes, beside the classes: the two tables of Instructions, the links among nest mates, the class of int[][] -/
def kG (E : kE) (A : Nat → Prop) (U : State) : Prop :=
  (va_Z "WideStack$Instructions" "NEEDED_FROM_00" "[I" (.ref (E.2.2 0)) A U U.heap ∧ va_T .int (E.2.2 0) 32 (fun j => .int (kTA j)) A U U.heap) ∧
  (va_Z "WideStack$Instructions" "NEEDED_FROM_50" "[I" (.ref (E.2.2 1)) A U U.heap ∧ va_T .int (E.2.2 1) 16 (fun j => .int (kTB j)) A U U.heap) ∧
  (∀ w ∈ kNest, va_Nw w U) ∧ ((Cond.arrayOver (.array .int)).before #[] U = true)
theorem kG.moved {E : kE} {A B : Nat → Prop} {s U : State} {H : Heap} {locs : List Loc} (h : kG E A s) (hS : va_S A s.heap H locs) (hU : U.heap = H) (hvm : s.vm.Alike U.vm) (hN : ∀ w ∈ kNest, va_Nw w s → va_Nw w U) (hO : (Cond.arrayOver (.array .int)).before #[] s = true → (Cond.arrayOver (.array .int)).before #[] U = true) (hAB : ∀ q, B q → A q) : kG E B U := by
  obtain ⟨⟨a1, a2⟩, ⟨b1, b2⟩, c1, c2⟩ := h
  subst hU
  exact ⟨⟨((a1.kept hS.2.1).moved hvm).narrow hAB, ((a2.kept hS.2.1).moved hvm).narrow hAB⟩, ⟨((b1.kept hS.2.1).moved hvm).narrow hAB, ((b2.kept hS.2.1).moved hvm).narrow hAB⟩, fun w hw => hN w hw (c1 w hw), hO c2⟩
theorem kG.call {E : kE} {A B : Nat → Prop} {s U : State} {H : Heap} {locs : List Loc} (h : kG E A s) (hS : va_S A s.heap H locs) (hU : U.heap = H) (hW : s.WarmedH U.vm) (hAB : ∀ q, B q → A q) : kG E B U := by
  refine kG.moved h hS hU hW.alike (fun w hw hz => ?_) (fun hz => ?_) hAB
  · simp only [kNest, List.mem_cons, List.not_mem_nil, or_false] at hw
    rcases hw with rfl | rfl | rfl | rfl | rfl | rfl <;> exact va_Nw.warmM hW hz
  · exact k_over hW hz
theorem kG.calling {E : kE} {A : Nat → Prop} {U : State} {g : JFrame} {mk : MethodId} {a : Array Value} (h : kG E A U) : kG E A (U.calling g mk a) :=
  kG.moved (s := U) (U := U.calling g mk a) (H := U.heap) (locs := []) h va_S.rf rfl (Vm.Alike.refl U.vm) (fun w hw hz => by
    simp only [kNest, List.mem_cons, List.not_mem_nil, or_false] at hw
    rcases hw with rfl | rfl | rfl | rfl | rfl | rfl <;> exact va_Nw.same rfl rfl hz) (fun hz => hz) (fun _ h => h)
def kIn (E : kE) (cin : va_W) (sz : Nat) (U : State) : Prop := U.heap.size = sz ∧ va_P E.1 vwCl cin U.heap ∧ va_K E.1 vwCl (kY E) U ∧ va_D (fun _ => True) cin ∧ kG E (va_A cin sz) U
theorem kIn.blind {E : kE} {cin : va_W} {sz : Nat} {av : List Value} : FrameBlind (va_Pc av (kIn E cin sz)) := by
  intro a U g mk q
  obtain ⟨q0, q1, qP, qK, qD, qG⟩ := q
  exact ⟨q0, q1, qP, va_K.moved (u := U) (U := U.calling g mk a) (Vm.Alike.refl U.vm) qK, qD, kG.calling qG⟩
/-- a pure method: an int by the cells, nothing changes -/
def Kp (l : Launch) (y : MethodName) (wy : List Cond) (rm : Room) (E : kE) (av : List Value) (cin : va_W) (post : Int32 → Prop) : Prop :=
  ∀ sz : Nat, Met l y wy rm (va_Pc av (kIn E cin sz)) (vp_Si post) 0 0 (fun _ => False)
/-- a void method that changes its cells' contents -/
def Kv (l : Launch) (y : MethodName) (wy : List Cond) (rm : Room) (E : kE) (av : List Value) (cin : va_W) {S : Type} (post : S → Prop) (cout : S → va_W) : Prop :=
  ∀ sz : Nat, Met l y wy rm (va_Pc av (kIn E cin sz)) (va_Qv post (fun u t => va_P E.1 vwCl (cout u) t.heap) (va_A cin sz)) 0 0 (va_A cin sz)
/-- .. and answers an int -/
def Ki (l : Launch) (y : MethodName) (wy : List Cond) (rm : Room) (E : kE) (av : List Value) (cin : va_W) {S : Type} (post : Int32 → S → Prop) (cout : S → va_W) : Prop :=
  ∀ sz : Nat, Met l y wy rm (va_Pc av (kIn E cin sz)) (va_Qi post (fun u t => va_P E.1 vwCl (cout u) t.heap) (va_A cin sz)) 0 0 (va_A cin sz)
section KS
variable {l : Launch} {y : MethodName} {rm : Room} {E : kE} {av : List Value} {cin : va_W} {cc : ByteArray} {maxL : Nat}
theorem Kp.ofI {post : Int32 → Prop} (hy : plainName y.cls = true) (hn : (lg_sl av).length ≤ maxL)
    (body : ∀ (p : Program) (e : Env) (s : State) (m : MethodId) (args : Array Value) (below : List Frame) (meth : Method) (c : Code) (A : Nat → Prop) (ls : Array Slot) (Q : State → Prop), p.tables.exec = Jvm.exec → c.code = cc → (∀ w ∈ kT, w.before args s = true) → s.vm.findClass y.cls = some m.cls → c.maxLocals = maxL →
      va_K E.1 vwCl (kY E) s → kG E A s → (∀ q : Nat, s.heap.size ≤ q → A q) → va_P E.1 vwCl cin s.heap → va_D A cin → va_S A s.heap s.heap [] → lv_has ls maxL (lv_args 0 av) →
      (∀ (pc : Nat) (ls : Array Slot) (v : Int32), decode cc pc = .ok (.ireturn, 1) → post v → W p l e rm s m args below meth c s.heap [] 0 0 Q (F0 m pc ls [.int v])) →
      W p l e rm s m args below meth c s.heap [] 0 0 Q (F0 m 0 ls [])) : Kp l y (kW y cc maxL (some .int)) rm E av cin post := by
  intro sz
  refine Met.ofW (cc := cc) (maxL := maxL) (ret := some .int) hy rfl ?_
  intro p e s m args below meth c s₁ B hml hv
  obtain ⟨rfl, hsz, hP, hK, hD0, hG⟩ := hv
  subst hsz
  have hl := lv_entry av (n := maxL) hn
  rw [lg_entry_eq]
  exact body p e s m _ below meth c (va_A cin s.heap.size) _ _ B.exec B.bytes (fun w h => atoms_spec (ws := kW y cc maxL _) B.pre w (List.mem_cons_of_mem _ h)) (findClass_of_methodNamed B.named) hml hK hG (fun q h => Or.inr h) hP hD0.self va_S.rf hl (fun pc ls v hdg hp => W.iret (v := v) B.exec B.bytes B.returns (fun t ht _ => ⟨v, rfl, hp, ht⟩) (fun q h => by cases h) hdg B.notSynchronized)
theorem Kp.ofZ {post : Int32 → Prop} (hy : plainName y.cls = true) (hn : (lg_sl av).length ≤ maxL)
    (body : ∀ (p : Program) (e : Env) (s : State) (m : MethodId) (args : Array Value) (below : List Frame) (meth : Method) (c : Code) (A : Nat → Prop) (ls : Array Slot) (Q : State → Prop), p.tables.exec = Jvm.exec → c.code = cc → (∀ w ∈ kT, w.before args s = true) → s.vm.findClass y.cls = some m.cls → c.maxLocals = maxL →
      va_K E.1 vwCl (kY E) s → kG E A s → (∀ q : Nat, s.heap.size ≤ q → A q) → va_P E.1 vwCl cin s.heap → va_D A cin → va_S A s.heap s.heap [] → lv_has ls maxL (lv_args 0 av) →
      (∀ (pc : Nat) (ls : Array Slot) (v : Int32), decode cc pc = .ok (.ireturn, 1) → narrow .boolean (.int v) = .int v → post v → W p l e rm s m args below meth c s.heap [] 0 0 Q (F0 m pc ls [.int v])) →
      W p l e rm s m args below meth c s.heap [] 0 0 Q (F0 m 0 ls [])) : Kp l y (kW y cc maxL (some .boolean)) rm E av cin post := by
  intro sz
  refine Met.ofW (cc := cc) (maxL := maxL) (ret := some .boolean) hy rfl ?_
  intro p e s m args below meth c s₁ B hml hv
  obtain ⟨rfl, hsz, hP, hK, hD0, hG⟩ := hv
  subst hsz
  have hl := lv_entry av (n := maxL) hn
  rw [lg_entry_eq]
  exact body p e s m _ below meth c (va_A cin s.heap.size) _ _ B.exec B.bytes (fun w h => atoms_spec (ws := kW y cc maxL _) B.pre w (List.mem_cons_of_mem _ h)) (findClass_of_methodNamed B.named) hml hK hG (fun q h => Or.inr h) hP hD0.self va_S.rf hl (fun pc ls v hdg hn hp => W.zret (v := v) B.exec B.bytes B.returns hn (fun t ht _ => ⟨v, rfl, hp, ht⟩) (fun q h => by cases h) hdg B.notSynchronized)
theorem Kv.ofW {S : Type} {post : S → Prop} {cout : S → va_W} (hy : plainName y.cls = true) (hn : (lg_sl av).length ≤ maxL)
    (body : ∀ (p : Program) (e : Env) (s : State) (m : MethodId) (args : Array Value) (below : List Frame) (meth : Method) (c : Code) (A : Nat → Prop) (ls : Array Slot) (Q : State → Prop), p.tables.exec = Jvm.exec → c.code = cc → (∀ w ∈ kT, w.before args s = true) → s.vm.findClass y.cls = some m.cls → c.maxLocals = maxL →
      va_K E.1 vwCl (kY E) s → kG E A s → (∀ q : Nat, s.heap.size ≤ q → A q) → va_P E.1 vwCl cin s.heap → va_D A cin → va_S A s.heap s.heap [] → lv_has ls maxL (lv_args 0 av) →
      (∀ (pc : Nat) (ls : Array Slot) (H : Heap) (locs : List Loc) (u : S), decode cc pc = .ok (.return_, 1) → post u → va_P E.1 vwCl (cout u) H → va_S A s.heap H locs → W p l e rm s m args below meth c H locs 0 0 Q (F0 m pc ls [])) →
      W p l e rm s m args below meth c s.heap [] 0 0 Q (F0 m 0 ls [])) : Kv l y (kW y cc maxL (none)) rm E av cin post cout := by
  intro sz
  refine Met.ofW (cc := cc) (maxL := maxL) (ret := none) hy rfl ?_
  intro p e s m args below meth c s₁ B hml hv
  obtain ⟨rfl, hsz, hP, hK, hD0, hG⟩ := hv
  subst hsz
  have hl := lv_entry av (n := maxL) hn
  rw [lg_entry_eq]
  exact body p e s m _ below meth c (va_A cin s.heap.size) _ _ B.exec B.bytes (fun w h => atoms_spec (ws := kW y cc maxL _) B.pre w (List.mem_cons_of_mem _ h)) (findClass_of_methodNamed B.named) hml hK hG (fun q h => Or.inr h) hP hD0.self va_S.rf hl (fun pc ls H locs u hdg hp hP hS => W.vret B.exec B.bytes B.returns (fun t ht _ => ⟨⟨u, rfl, hp, by show va_P E.1 vwCl (cout u) t.heap; rw [ht]; exact hP⟩, hS.F ht⟩) hS.2.2 hdg B.notSynchronized)
theorem Ki.ofI {S : Type} {post : Int32 → S → Prop} {cout : S → va_W} (hy : plainName y.cls = true) (hn : (lg_sl av).length ≤ maxL)
    (body : ∀ (p : Program) (e : Env) (s : State) (m : MethodId) (args : Array Value) (below : List Frame) (meth : Method) (c : Code) (A : Nat → Prop) (ls : Array Slot) (Q : State → Prop), p.tables.exec = Jvm.exec → c.code = cc → (∀ w ∈ kT, w.before args s = true) → s.vm.findClass y.cls = some m.cls → c.maxLocals = maxL →
      va_K E.1 vwCl (kY E) s → kG E A s → (∀ q : Nat, s.heap.size ≤ q → A q) → va_P E.1 vwCl cin s.heap → va_D A cin → va_S A s.heap s.heap [] → lv_has ls maxL (lv_args 0 av) →
      (∀ (pc : Nat) (ls : Array Slot) (H : Heap) (locs : List Loc) (v : Int32) (u : S), decode cc pc = .ok (.ireturn, 1) → post v u → va_P E.1 vwCl (cout u) H → va_S A s.heap H locs → W p l e rm s m args below meth c H locs 0 0 Q (F0 m pc ls [.int v])) →
      W p l e rm s m args below meth c s.heap [] 0 0 Q (F0 m 0 ls [])) : Ki l y (kW y cc maxL (some .int)) rm E av cin post cout := by
  intro sz
  refine Met.ofW (cc := cc) (maxL := maxL) (ret := some .int) hy rfl ?_
  intro p e s m args below meth c s₁ B hml hv
  obtain ⟨rfl, hsz, hP, hK, hD0, hG⟩ := hv
  subst hsz
  have hl := lv_entry av (n := maxL) hn
  rw [lg_entry_eq]
  exact body p e s m _ below meth c (va_A cin s.heap.size) _ _ B.exec B.bytes (fun w h => atoms_spec (ws := kW y cc maxL _) B.pre w (List.mem_cons_of_mem _ h)) (findClass_of_methodNamed B.named) hml hK hG (fun q h => Or.inr h) hP hD0.self va_S.rf hl (fun pc ls H locs v u hdg hp hP hS => W.iret (v := v) B.exec B.bytes B.returns (fun t ht _ => ⟨⟨v, u, rfl, hp, by show va_P E.1 vwCl (cout u) t.heap; rw [ht]; exact hP⟩, hS.F ht⟩) hS.2.2 hdg B.notSynchronized)
theorem Ki.ofZ {S : Type} {post : Int32 → S → Prop} {cout : S → va_W} (hy : plainName y.cls = true) (hn : (lg_sl av).length ≤ maxL)
    (body : ∀ (p : Program) (e : Env) (s : State) (m : MethodId) (args : Array Value) (below : List Frame) (meth : Method) (c : Code) (A : Nat → Prop) (ls : Array Slot) (Q : State → Prop), p.tables.exec = Jvm.exec → c.code = cc → (∀ w ∈ kT, w.before args s = true) → s.vm.findClass y.cls = some m.cls → c.maxLocals = maxL →
      va_K E.1 vwCl (kY E) s → kG E A s → (∀ q : Nat, s.heap.size ≤ q → A q) → va_P E.1 vwCl cin s.heap → va_D A cin → va_S A s.heap s.heap [] → lv_has ls maxL (lv_args 0 av) →
      (∀ (pc : Nat) (ls : Array Slot) (H : Heap) (locs : List Loc) (v : Int32) (u : S), decode cc pc = .ok (.ireturn, 1) → narrow .boolean (.int v) = .int v → post v u → va_P E.1 vwCl (cout u) H → va_S A s.heap H locs → W p l e rm s m args below meth c H locs 0 0 Q (F0 m pc ls [.int v])) →
      W p l e rm s m args below meth c s.heap [] 0 0 Q (F0 m 0 ls [])) : Ki l y (kW y cc maxL (some .boolean)) rm E av cin post cout := by
  intro sz
  refine Met.ofW (cc := cc) (maxL := maxL) (ret := some .boolean) hy rfl ?_
  intro p e s m args below meth c s₁ B hml hv
  obtain ⟨rfl, hsz, hP, hK, hD0, hG⟩ := hv
  subst hsz
  have hl := lv_entry av (n := maxL) hn
  rw [lg_entry_eq]
  exact body p e s m _ below meth c (va_A cin s.heap.size) _ _ B.exec B.bytes (fun w h => atoms_spec (ws := kW y cc maxL _) B.pre w (List.mem_cons_of_mem _ h)) (findClass_of_methodNamed B.named) hml hK hG (fun q h => Or.inr h) hP hD0.self va_S.rf hl (fun pc ls H locs v u hdg hn hp hP hS => W.zret (v := v) B.exec B.bytes B.returns hn (fun t ht _ => ⟨⟨v, u, rfl, hp, by show va_P E.1 vwCl (cout u) t.heap; rw [ht]; exact hP⟩, hS.F ht⟩) hS.2.2 hdg B.notSynchronized)
end KS
/-! contracts' calls -/
def kb (b : Bool) : Int32 := match b with
  | true => 1
  | false => 0
theorem kb_nar (b : Bool) : narrow .boolean (.int (kb b)) = .int (kb b) := by cases b <;> decide
section KC
variable {p : Program} {l : Launch} {e : Env} {R : Room} {s : State} {m : MethodId} {args : Array Value} {below : List Frame} {meth : Method} {c : Code} {H : Heap} {locs : List Loc} {cells slots : Nat} {Q : State → Prop}
variable {cc : ByteArray} {pc : Nat} {ls : Array Slot} {rest st0 : List Value} {E : kE} {A : Nat → Prop} {ws cin : va_W} {isC : List Nat} {av : List Value}
theorem k_top {x y : Int32} (h : x = y) (kk : W p l e R s m args below meth c H locs cells slots Q (F0 m pc ls (.int y :: rest))) : W p l e R s m args below meth c H locs cells slots Q (F0 m pc ls (.int x :: rest)) := by
  subst h
  exact kk
theorem k_topl {x y : Int64} (h : x = y) (kk : W p l e R s m args below meth c H locs cells slots Q (F0 m pc ls (.long y :: rest))) : W p l e R s m args below meth c H locs cells slots Q (F0 m pc ls (.long x :: rest)) := by
  subst h
  exact kk
theorem k_preS (hK : va_K E.1 vwCl (kY E) s) (hG : kG E A s) (hA : ∀ q : Nat, s.heap.size ≤ q → A q) (hP : va_P E.1 vwCl ws H) (hD : va_D A ws) (hS : va_S A s.heap H locs) (hC : isC.map (fun i => ws[i]?) = cin.map some) (hn : va_nd isC = true) : PreS s H (va_Pc av (kIn E cin H.size)) av :=
  ⟨kIn.blind, fun U hU hW => ⟨rfl, by rw [hU], by rw [hU]; exact k_pick hP hC, va_K.moved hW.alike hK, (hD.sub isC hn hC).weaken (fun _ _ _ _ => trivial), kG.call hG hS hU hW (va_free hD hS hA isC hC)⟩⟩
theorem k_preV {b ci r0 : Nat} {C : String} {T : u_T} {N : Nat} {fs As : List Value} (hK : va_K E.1 vwCl (kY E) s) (hG : kG E A s) (hA : ∀ q : Nat, s.heap.size ≤ q → A q) (hP : va_P E.1 vwCl ws H) (hD : va_D A ws) (hS : va_S A s.heap H locs) (hC : isC.map (fun i => ws[i]?) = cin.map some) (hn : va_nd isC = true) (he : ws[r0]? = some (b, .inr (ci, fs))) (hc : vwCl[ci]? = some (C, T, N)) : PreV s H C b (va_Pc (.ref b :: As) (kIn E cin H.size)) As := by
  obtain ⟨h1, h2⟩ := k_preS (av := .ref b :: As) hK hG hA hP hD hS hC hn
  exact ⟨h1, va_recv hK hP hc he, h2⟩
/-- behind a pure call -/
theorem k_rp {a : Array Value} {post : Int32 → Prop} (hr : va_Run p l e R s m args below meth c H locs cells slots 0 0 (F0 m pc ls st0) rest (vp_Si post a) (fun _ => False))
    (kk : ∀ r : Int32, post r → W p l e R s m args below meth c H locs cells slots Q (F0 m (pc + 3) ls (.int r :: rest))) : W p l e R s m args below meth c H locs cells slots Q (F0 m pc ls st0) := by
  intro T hT X
  obtain ⟨v, st₀, t, T', L, h0, X', hL, e1, -, ⟨r, hv, hp, hh⟩, st⟩ := hr T hT X
  cases hv
  obtain ⟨t2, a1, b1⟩ := kk r hp T' (by rw [e1, hh, h0]) (Stand.forget X' (fun q h => (hL q h).elim))
  exact ⟨t2, st t2 a1, b1⟩
theorem k_rv {a : Array Value} {S : Type} {post : S → Prop} {cout : S → va_W} (hr : va_Run p l e R s m args below meth c H locs cells slots 0 0 (F0 m pc ls st0) rest (va_Qv post (fun u t => va_P E.1 vwCl (cout u) t.heap) (va_A cin H.size) a) (va_A cin H.size))
    (hA : ∀ q : Nat, s.heap.size ≤ q → A q) (hP : va_P E.1 vwCl ws H) (hD : va_D A ws) (hS : va_S A s.heap H locs) (hC : isC.map (fun i => ws[i]?) = cin.map some) (ho : ∀ u, (cout u).map Prod.fst = cin.map Prod.fst)
    (kk : ∀ (u : S) (H1 : Heap) (locs1 : List Loc), post u → va_P E.1 vwCl (k_upd ws isC (cout u)) H1 → va_D A (k_upd ws isC (cout u)) → va_S A s.heap H1 locs1 → W p l e R s m args below meth c H1 locs1 cells slots Q (F0 m (pc + 3) ls rest)) : W p l e R s m args below meth c H locs cells slots Q (F0 m pc ls st0) := by
  refine va_callv hr hS (fun q _ h => va_free hD hS hA isC hC q h) (va_free hD hS hA isC hC) (fun u t H1 locs1 ht hvm hp hB hz hk hS1 => ?_)
  have hB' : va_P E.1 vwCl (cout u) H1 := by rw [← ht]; exact hB
  obtain ⟨h1, h2⟩ := k_frame hP hD hC (ho u) hk hB'
  exact kk u H1 locs1 hp h1 h2 hS1
theorem k_ri {a : Array Value} {S : Type} {post : Int32 → S → Prop} {cout : S → va_W} (hr : va_Run p l e R s m args below meth c H locs cells slots 0 0 (F0 m pc ls st0) rest (va_Qi post (fun u t => va_P E.1 vwCl (cout u) t.heap) (va_A cin H.size) a) (va_A cin H.size))
    (hA : ∀ q : Nat, s.heap.size ≤ q → A q) (hP : va_P E.1 vwCl ws H) (hD : va_D A ws) (hS : va_S A s.heap H locs) (hC : isC.map (fun i => ws[i]?) = cin.map some) (ho : ∀ u, (cout u).map Prod.fst = cin.map Prod.fst)
    (kk : ∀ (r : Int32) (u : S) (H1 : Heap) (locs1 : List Loc), post r u → va_P E.1 vwCl (k_upd ws isC (cout u)) H1 → va_D A (k_upd ws isC (cout u)) → va_S A s.heap H1 locs1 → W p l e R s m args below meth c H1 locs1 cells slots Q (F0 m (pc + 3) ls (.int r :: rest))) : W p l e R s m args below meth c H locs cells slots Q (F0 m pc ls st0) := by
  refine va_calli hr hS (fun q _ h => va_free hD hS hA isC hC q h) (va_free hD hS hA isC hC) (fun r u t H1 locs1 ht hvm hp hB hz hk hS1 => ?_)
  have hB' : va_P E.1 vwCl (cout u) H1 := by rw [← ht]; exact hB
  obtain ⟨h1, h2⟩ := k_frame hP hD hC (ho u) hk hB'
  exact kk r u H1 locs1 hp h1 h2 hS1
end KC
section KW
variable {R : Room} {s : State} {args : Array Value} {own C : String} {index maxL mc ms : Nat} {y : MethodName} {bytes : ByteArray} {ret : Option FieldType} {rm : Room}
theorem k_cwS (n : Nat) (hts : ∀ w ∈ kT, w.before args s = true) (h1 : Cond.methodLink own index y ∈ kT) (h2 : Cond.static y ∈ kT) (h3 : Cond.initialized y.cls ∈ kT) (h4 : Cond.code y bytes maxL ret ∈ kT)
    (hd : y.cls ≠ "java/lang/invoke/MethodHandle" ∧ y.cls ≠ "java/lang/invoke/VarHandle" ∧ (parseMethodDescriptor y.desc).map (fun d => d.parameters.length) = some n) (hR : rm.frames + 1 ≤ R.frames ∧ 8 + (maxL + 11) + rm.locals ≤ R.locals) (hrc : rm.cells = mc := by rfl) (hrs : rm.slots = ms := by rfl) :
    CallB R s args own index y bytes maxL ret (kW y bytes maxL ret) rm mc ms n ∧ (Cond.static y).before args s = true :=
  ⟨callB_of n hts (kW_good h4) rfl hrc hrs (hts _ h3) (hts _ h1) hd hR, hts _ h2⟩
theorem k_cwV (n : Nat) (hts : ∀ w ∈ kT, w.before args s = true) (h1 : Cond.methodLink own index y ∈ kT) (h2 : Cond.instanceMethod y ∈ kT) (h5 : Cond.selects C y y ∈ kT) (h3 : Cond.initialized y.cls ∈ kT) (h4 : Cond.code y bytes maxL ret ∈ kT)
    (hd : y.cls ≠ "java/lang/invoke/MethodHandle" ∧ y.cls ≠ "java/lang/invoke/VarHandle" ∧ (parseMethodDescriptor y.desc).map (fun d => d.parameters.length) = some n) (hR : rm.frames + 1 ≤ R.frames ∧ 8 + (maxL + 11) + rm.locals ≤ R.locals) (hrc : rm.cells = mc := by rfl) (hrs : rm.slots = ms := by rfl) :
    CallW R s args own C index y bytes maxL ret (kW y bytes maxL ret) rm mc ms n :=
  ⟨callB_of n hts (kW_good h4) rfl hrc hrs (hts _ h3) (hts _ h1) hd hR, hts _ h2, hts _ h5⟩
end KW
section KD
variable {p : Program} {l : Launch} {e : Env} {R : Room} {s : State} {m : MethodId} {args : Array Value} {below : List Frame} {meth : Method} {c : Code} {H : Heap} {locs : List Loc} {cells slots : Nat} {Q : State → Prop}
variable {cc bytes : ByteArray} {pc nL maxL n index : Nat} {ls : Array Slot} {rest st0 : List Value} {E : kE} {A : Nat → Prop} {ws cin : va_W} {As : List Value} {Ts wy : List Cond} {own : String} {y : MethodName} {rm : Room} {ret : Option FieldType}
theorem k_Sp {post : Int32 → Prop} (X : CallFix p m c cc nL s args Ts own) (hM : Kp l y wy rm E As cin post) (cw : CallB R s args own index y bytes maxL ret wy rm 0 0 n ∧ (Cond.static y).before args s = true) (hK : va_K E.1 vwCl (kY E) s) (hG : kG E A s) (hA : ∀ q : Nat, s.heap.size ≤ q → A q) (hP : va_P E.1 vwCl ws H) (hD : va_D A ws) (hS : va_S A s.heap H locs) (isC : List Nat) (hC : isC.map (fun i => ws[i]?) = cin.map some) (hn : va_nd isC = true) (hlen : As.length = n) (hsz : ls.size = nL) (hst : st0 = As.reverse ++ rest) (hW : (rest.map fun v => v.category).sum ≤ 8) (hdg : decode cc pc = .ok (.invokestatic index, 3)) (hcs : cells ≤ R.cells ∧ slots ≤ R.slots)
    (kk : ∀ r : Int32, post r → W p l e R s m args below meth c H locs cells slots Q (F0 m (pc + 3) ls (.int r :: rest))) : W p l e R s m args below meth c H locs cells slots Q (F0 m pc ls st0) :=
  k_rp (va_runS (g := F0 m pc ls st0) (As := As) (rest := rest) X (hM H.size) cw (k_preS hK hG hA hP hD hS hC hn) rfl hlen hsz hst (lv_room hW) hdg hcs) kk
theorem k_Sv {S : Type} {post : S → Prop} {cout : S → va_W} (X : CallFix p m c cc nL s args Ts own) (hM : Kv l y wy rm E As cin post cout) (cw : CallB R s args own index y bytes maxL ret wy rm 0 0 n ∧ (Cond.static y).before args s = true) (hK : va_K E.1 vwCl (kY E) s) (hG : kG E A s) (hA : ∀ q : Nat, s.heap.size ≤ q → A q) (hP : va_P E.1 vwCl ws H) (hD : va_D A ws) (hS : va_S A s.heap H locs) (isC : List Nat) (hC : isC.map (fun i => ws[i]?) = cin.map some) (hn : va_nd isC = true) (ho : ∀ u, (cout u).map Prod.fst = cin.map Prod.fst) (hlen : As.length = n) (hsz : ls.size = nL) (hst : st0 = As.reverse ++ rest) (hW : (rest.map fun v => v.category).sum ≤ 8) (hdg : decode cc pc = .ok (.invokestatic index, 3)) (hcs : cells ≤ R.cells ∧ slots ≤ R.slots)
    (kk : ∀ (u : S) (H1 : Heap) (locs1 : List Loc), post u → va_P E.1 vwCl (k_upd ws isC (cout u)) H1 → va_D A (k_upd ws isC (cout u)) → va_S A s.heap H1 locs1 → W p l e R s m args below meth c H1 locs1 cells slots Q (F0 m (pc + 3) ls rest)) : W p l e R s m args below meth c H locs cells slots Q (F0 m pc ls st0) :=
  k_rv (va_runS (g := F0 m pc ls st0) (As := As) (rest := rest) X (hM H.size) cw (k_preS hK hG hA hP hD hS hC hn) rfl hlen hsz hst (lv_room hW) hdg hcs) hA hP hD hS hC ho kk
theorem k_Si {S : Type} {post : Int32 → S → Prop} {cout : S → va_W} (X : CallFix p m c cc nL s args Ts own) (hM : Ki l y wy rm E As cin post cout) (cw : CallB R s args own index y bytes maxL ret wy rm 0 0 n ∧ (Cond.static y).before args s = true) (hK : va_K E.1 vwCl (kY E) s) (hG : kG E A s) (hA : ∀ q : Nat, s.heap.size ≤ q → A q) (hP : va_P E.1 vwCl ws H) (hD : va_D A ws) (hS : va_S A s.heap H locs) (isC : List Nat) (hC : isC.map (fun i => ws[i]?) = cin.map some) (hn : va_nd isC = true) (ho : ∀ u, (cout u).map Prod.fst = cin.map Prod.fst) (hlen : As.length = n) (hsz : ls.size = nL) (hst : st0 = As.reverse ++ rest) (hW : (rest.map fun v => v.category).sum ≤ 8) (hdg : decode cc pc = .ok (.invokestatic index, 3)) (hcs : cells ≤ R.cells ∧ slots ≤ R.slots)
    (kk : ∀ (r : Int32) (u : S) (H1 : Heap) (locs1 : List Loc), post r u → va_P E.1 vwCl (k_upd ws isC (cout u)) H1 → va_D A (k_upd ws isC (cout u)) → va_S A s.heap H1 locs1 → W p l e R s m args below meth c H1 locs1 cells slots Q (F0 m (pc + 3) ls (.int r :: rest))) : W p l e R s m args below meth c H locs cells slots Q (F0 m pc ls st0) :=
  k_ri (va_runS (g := F0 m pc ls st0) (As := As) (rest := rest) X (hM H.size) cw (k_preS hK hG hA hP hD hS hC hn) rfl hlen hsz hst (lv_room hW) hdg hcs) hA hP hD hS hC ho kk
theorem k_Vp {b ci : Nat} {C : String} {T : u_T} {N : Nat} {fs : List Value} {post : Int32 → Prop} (X : CallFix p m c cc nL s args Ts own) (hM : Kp l y wy rm E (.ref b :: As) cin post) (cw : CallW R s args own C index y bytes maxL ret wy rm 0 0 n) (hK : va_K E.1 vwCl (kY E) s) (hG : kG E A s) (hA : ∀ q : Nat, s.heap.size ≤ q → A q) (hP : va_P E.1 vwCl ws H) (hD : va_D A ws) (hS : va_S A s.heap H locs) (isC : List Nat) (hC : isC.map (fun i => ws[i]?) = cin.map some) (hn : va_nd isC = true) (r0 : Nat) (he : ws[r0]? = some (b, .inr (ci, fs))) (hc : vwCl[ci]? = some (C, T, N)) (hlen : As.length = n) (hsz : ls.size = nL) (hst : st0 = As.reverse ++ .ref b :: rest) (hW : (rest.map fun v => v.category).sum ≤ 8) (hdg : decode cc pc = .ok (.invokevirtual index, 3)) (hcs : cells ≤ R.cells ∧ slots ≤ R.slots)
    (kk : ∀ r : Int32, post r → W p l e R s m args below meth c H locs cells slots Q (F0 m (pc + 3) ls (.int r :: rest))) : W p l e R s m args below meth c H locs cells slots Q (F0 m pc ls st0) :=
  k_rp (va_runV (g := F0 m pc ls st0) (As := As) (rest := rest) X (hM H.size) cw (k_preV (r0 := r0) (ci := ci) hK hG hA hP hD hS hC hn he hc) rfl hlen hsz hst (lv_room hW) hdg hcs) kk
theorem k_Vv {b ci : Nat} {C : String} {T : u_T} {N : Nat} {fs : List Value} {S : Type} {post : S → Prop} {cout : S → va_W} (X : CallFix p m c cc nL s args Ts own) (hM : Kv l y wy rm E (.ref b :: As) cin post cout) (cw : CallW R s args own C index y bytes maxL ret wy rm 0 0 n) (hK : va_K E.1 vwCl (kY E) s) (hG : kG E A s) (hA : ∀ q : Nat, s.heap.size ≤ q → A q) (hP : va_P E.1 vwCl ws H) (hD : va_D A ws) (hS : va_S A s.heap H locs) (isC : List Nat) (hC : isC.map (fun i => ws[i]?) = cin.map some) (hn : va_nd isC = true) (r0 : Nat) (he : ws[r0]? = some (b, .inr (ci, fs))) (hc : vwCl[ci]? = some (C, T, N)) (ho : ∀ u, (cout u).map Prod.fst = cin.map Prod.fst) (hlen : As.length = n) (hsz : ls.size = nL) (hst : st0 = As.reverse ++ .ref b :: rest) (hW : (rest.map fun v => v.category).sum ≤ 8) (hdg : decode cc pc = .ok (.invokevirtual index, 3)) (hcs : cells ≤ R.cells ∧ slots ≤ R.slots)
    (kk : ∀ (u : S) (H1 : Heap) (locs1 : List Loc), post u → va_P E.1 vwCl (k_upd ws isC (cout u)) H1 → va_D A (k_upd ws isC (cout u)) → va_S A s.heap H1 locs1 → W p l e R s m args below meth c H1 locs1 cells slots Q (F0 m (pc + 3) ls rest)) : W p l e R s m args below meth c H locs cells slots Q (F0 m pc ls st0) :=
  k_rv (va_runV (g := F0 m pc ls st0) (As := As) (rest := rest) X (hM H.size) cw (k_preV (r0 := r0) (ci := ci) hK hG hA hP hD hS hC hn he hc) rfl hlen hsz hst (lv_room hW) hdg hcs) hA hP hD hS hC ho kk
theorem k_Vi {b ci : Nat} {C : String} {T : u_T} {N : Nat} {fs : List Value} {S : Type} {post : Int32 → S → Prop} {cout : S → va_W} (X : CallFix p m c cc nL s args Ts own) (hM : Ki l y wy rm E (.ref b :: As) cin post cout) (cw : CallW R s args own C index y bytes maxL ret wy rm 0 0 n) (hK : va_K E.1 vwCl (kY E) s) (hG : kG E A s) (hA : ∀ q : Nat, s.heap.size ≤ q → A q) (hP : va_P E.1 vwCl ws H) (hD : va_D A ws) (hS : va_S A s.heap H locs) (isC : List Nat) (hC : isC.map (fun i => ws[i]?) = cin.map some) (hn : va_nd isC = true) (r0 : Nat) (he : ws[r0]? = some (b, .inr (ci, fs))) (hc : vwCl[ci]? = some (C, T, N)) (ho : ∀ u, (cout u).map Prod.fst = cin.map Prod.fst) (hlen : As.length = n) (hsz : ls.size = nL) (hst : st0 = As.reverse ++ .ref b :: rest) (hW : (rest.map fun v => v.category).sum ≤ 8) (hdg : decode cc pc = .ok (.invokevirtual index, 3)) (hcs : cells ≤ R.cells ∧ slots ≤ R.slots)
    (kk : ∀ (r : Int32) (u : S) (H1 : Heap) (locs1 : List Loc), post r u → va_P E.1 vwCl (k_upd ws isC (cout u)) H1 → va_D A (k_upd ws isC (cout u)) → va_S A s.heap H1 locs1 → W p l e R s m args below meth c H1 locs1 cells slots Q (F0 m (pc + 3) ls (.int r :: rest))) : W p l e R s m args below meth c H locs cells slots Q (F0 m pc ls st0) :=
  k_ri (va_runV (g := F0 m pc ls st0) (As := As) (rest := rest) X (hM H.size) cw (k_preV (r0 := r0) (ci := ci) hK hG hA hP hD hS hC hn he hc) rfl hlen hsz hst (lv_room hW) hdg hcs) hA hP hD hS hC ho kk
end KD
/-! arrays by natural indices; ends of methods -/
section KA
variable {p : Program} {l : Launch} {e : Env} {R : Room} {s : State} {m : MethodId} {args : Array Value} {below : List Frame} {meth : Method} {c : Code} {H : Heap} {locs : List Loc} {cells slots : Nat} {Q : State → Prop}
variable {cc : ByteArray} {pc : Nat} {ls : Array Slot} {rest : List Value} {E : kE} {A : Nat → Prop} {ws : va_W} {a : Nat}
theorem k_iald (hexec : p.tables.exec = Jvm.exec) (hb : c.code = cc) (hK : va_K E.1 vwCl (kY E) s) (hP : va_P E.1 vwCl ws H) (q0 : Nat) {n : Nat} {f : Nat → Int32} (ha : ws[q0]? = some (a, .inl (E.2.1 0, n, .inl f))) {i : Nat} (hi : i < n) (hn : n < 2 ^ 31) (hdg : decode cc pc = .ok (.iaload, 1))
    (kk : W p l e R s m args below meth c H locs cells slots Q (F0 m (pc + 1) ls (.int (f i) :: rest))) : W p l e R s m args below meth c H locs cells slots Q (F0 m pc ls (.int (nI i) :: .ref a :: rest)) := by
  refine va_iald hexec hb hK hP q0 0 ha rfl (vp_in_nI hi hn) hdg ?_
  rw [nI_clamp (Nat.lt_trans hi hn)]
  exact kk
theorem k_zald (hexec : p.tables.exec = Jvm.exec) (hb : c.code = cc) (hK : va_K E.1 vwCl (kY E) s) (hP : va_P E.1 vwCl ws H) (q0 : Nat) {n : Nat} {f : Nat → Int32} (ha : ws[q0]? = some (a, .inl (E.2.1 1, n, .inl f))) {i : Nat} (hi : i < n) (hn : n < 2 ^ 31) (hdg : decode cc pc = .ok (.baload, 1))
    (kk : W p l e R s m args below meth c H locs cells slots Q (F0 m (pc + 1) ls (.int (f i) :: rest))) : W p l e R s m args below meth c H locs cells slots Q (F0 m pc ls (.int (nI i) :: .ref a :: rest)) := by
  refine va_zald hexec hb hK hP q0 1 ha rfl (vp_in_nI hi hn) hdg ?_
  rw [nI_clamp (Nat.lt_trans hi hn)]
  exact kk
theorem k_iast (hexec : p.tables.exec = Jvm.exec) (hb : c.code = cc) (hK : va_K E.1 vwCl (kY E) s) (hP : va_P E.1 vwCl ws H) (hD : va_D A ws) (hS : va_S A s.heap H locs) (q0 : Nat) {n : Nat} {f : Nat → Int32} (ha : ws[q0]? = some (a, .inl (E.2.1 0, n, .inl f))) {i : Nat} {x : Int32} (hi : i < n) (hn : n < 2 ^ 31) (hdg : decode cc pc = .ok (.iastore, 1))
    (kk : ∀ (H1 : Heap) (locs1 : List Loc), va_P E.1 vwCl (ws.set q0 (a, .inl (E.2.1 0, n, .inl (upd f i x)))) H1 → va_D A (ws.set q0 (a, .inl (E.2.1 0, n, .inl (upd f i x)))) → va_S A s.heap H1 locs1 → W p l e R s m args below meth c H1 locs1 cells slots Q (F0 m (pc + 1) ls rest)) : W p l e R s m args below meth c H locs cells slots Q (F0 m pc ls (.int x :: .int (nI i) :: .ref a :: rest)) := by
  refine va_iast hexec hb hK hP hD hS q0 0 ha rfl (vp_in_nI hi hn) hdg (fun H1 locs1 h1 h2 h3 => ?_)
  rw [nI_clamp (Nat.lt_trans hi hn)] at h1 h2
  exact kk H1 locs1 h1 h2 h3
end KA
theorem k_inc (i : Nat) : nI i + Int32.ofInt 1 = nI (i + 1) := by
  rw [show Int32.ofInt 1 = (1 : Int32) from by decide]
  exact nI_1 i
theorem k_dec (i : Nat) : nI (i + 1) + Int32.ofInt (-1) = nI i := by
  rw [show Int32.ofInt (-1) = (-1 : Int32) from by decide]
  exact pk_m1 i
/-! branches on natural numbers -/
section KN
variable {p : Program} {l : Launch} {e : Env} {R : Room} {s : State} {m : MethodId} {args : Array Value} {below : List Frame} {meth : Method} {c : Code} {H : Heap} {locs : List Loc} {cells slots : Nat} {Q : State → Prop}
variable {cc : ByteArray} {pc : Nat} {ls : Array Slot} {rest : List Value}
theorem kn_ge (hexec : p.tables.exec = Jvm.exec) (hb : c.code = cc) {a b : Nat} {off : Int} {tgt : Nat} (ha : a < 2 ^ 31) (hb2 : b < 2 ^ 31) (hdg : decode cc pc = .ok (.if_icmp .ge off, 3)) (ht : (pc : Int) + off = (tgt : Int)) (kt : b ≤ a → W p l e R s m args below meth c H locs cells slots Q (F0 m tgt ls rest)) (kf : a < b → W p l e R s m args below meth c H locs cells slots Q (F0 m (pc + 3) ls rest)) : W p l e R s m args below meth c H locs cells slots Q (F0 m pc ls (.int (nI b) :: .int (nI a) :: rest)) :=
  lv_icmp_ge hexec hb hdg ht (fun h => kt ((nI_leI hb2 ha).mp h)) (fun h => kf (Nat.lt_of_not_le (fun q => h ((nI_leI hb2 ha).mpr q))))
theorem kn_lt (hexec : p.tables.exec = Jvm.exec) (hb : c.code = cc) {a b : Nat} {off : Int} {tgt : Nat} (ha : a < 2 ^ 31) (hb2 : b < 2 ^ 31) (hdg : decode cc pc = .ok (.if_icmp .lt off, 3)) (ht : (pc : Int) + off = (tgt : Int)) (kt : a < b → W p l e R s m args below meth c H locs cells slots Q (F0 m tgt ls rest)) (kf : b ≤ a → W p l e R s m args below meth c H locs cells slots Q (F0 m (pc + 3) ls rest)) : W p l e R s m args below meth c H locs cells slots Q (F0 m pc ls (.int (nI b) :: .int (nI a) :: rest)) :=
  lv_icmp_lt hexec hb hdg ht (fun h => kt ((nI_ltI ha hb2).mp h)) (fun h => kf (Nat.le_of_not_lt (fun q => h ((nI_ltI ha hb2).mpr q))))
theorem kn_gt (hexec : p.tables.exec = Jvm.exec) (hb : c.code = cc) {a b : Nat} {off : Int} {tgt : Nat} (ha : a < 2 ^ 31) (hb2 : b < 2 ^ 31) (hdg : decode cc pc = .ok (.if_icmp .gt off, 3)) (ht : (pc : Int) + off = (tgt : Int)) (kt : b < a → W p l e R s m args below meth c H locs cells slots Q (F0 m tgt ls rest)) (kf : a ≤ b → W p l e R s m args below meth c H locs cells slots Q (F0 m (pc + 3) ls rest)) : W p l e R s m args below meth c H locs cells slots Q (F0 m pc ls (.int (nI b) :: .int (nI a) :: rest)) :=
  lv_icmp_gt hexec hb hdg ht (fun h => kt ((nI_ltI hb2 ha).mp h)) (fun h => kf (Nat.le_of_not_lt (fun q => h ((nI_ltI hb2 ha).mpr q))))
theorem kn_le (hexec : p.tables.exec = Jvm.exec) (hb : c.code = cc) {a b : Nat} {off : Int} {tgt : Nat} (ha : a < 2 ^ 31) (hb2 : b < 2 ^ 31) (hdg : decode cc pc = .ok (.if_icmp .le off, 3)) (ht : (pc : Int) + off = (tgt : Int)) (kt : a ≤ b → W p l e R s m args below meth c H locs cells slots Q (F0 m tgt ls rest)) (kf : b < a → W p l e R s m args below meth c H locs cells slots Q (F0 m (pc + 3) ls rest)) : W p l e R s m args below meth c H locs cells slots Q (F0 m pc ls (.int (nI b) :: .int (nI a) :: rest)) :=
  lv_icmp_le hexec hb hdg ht (fun h => kt ((nI_leI ha hb2).mp h)) (fun h => kf (Nat.lt_of_not_le (fun q => h ((nI_leI ha hb2).mpr q))))
theorem kn_eq (hexec : p.tables.exec = Jvm.exec) (hb : c.code = cc) {a b : Nat} {off : Int} {tgt : Nat} (ha : a < 2 ^ 31) (hb2 : b < 2 ^ 31) (hdg : decode cc pc = .ok (.if_icmp .eq off, 3)) (ht : (pc : Int) + off = (tgt : Int)) (kt : a = b → W p l e R s m args below meth c H locs cells slots Q (F0 m tgt ls rest)) (kf : a ≠ b → W p l e R s m args below meth c H locs cells slots Q (F0 m (pc + 3) ls rest)) : W p l e R s m args below meth c H locs cells slots Q (F0 m pc ls (.int (nI b) :: .int (nI a) :: rest)) :=
  lv_icmp_eq hexec hb hdg ht (fun h => kt ((nI_eq ha hb2).mp h)) (fun h => kf (fun q => h ((nI_eq ha hb2).mpr q)))
theorem kn_ne (hexec : p.tables.exec = Jvm.exec) (hb : c.code = cc) {a b : Nat} {off : Int} {tgt : Nat} (ha : a < 2 ^ 31) (hb2 : b < 2 ^ 31) (hdg : decode cc pc = .ok (.if_icmp .ne off, 3)) (ht : (pc : Int) + off = (tgt : Int)) (kt : a ≠ b → W p l e R s m args below meth c H locs cells slots Q (F0 m tgt ls rest)) (kf : a = b → W p l e R s m args below meth c H locs cells slots Q (F0 m (pc + 3) ls rest)) : W p l e R s m args below meth c H locs cells slots Q (F0 m pc ls (.int (nI b) :: .int (nI a) :: rest)) :=
  lv_icmp_ne hexec hb hdg ht (fun h => kt (fun q => h ((nI_eq ha hb2).mpr q))) (fun h => kf ((nI_eq ha hb2).mp h))
theorem kn_z (a : Nat) (ha : a < 2 ^ 31) : nI a = 0 ↔ a = 0 := by
  have h := nI_eq ha (show 0 < 2 ^ 31 by decide)
  rw [nI_0] at h
  exact h
theorem kn_ifeq (hexec : p.tables.exec = Jvm.exec) (hb : c.code = cc) {a : Nat} {off : Int} {tgt : Nat} (ha : a < 2 ^ 31) (hdg : decode cc pc = .ok (.ifCond .eq off, 3)) (ht : (pc : Int) + off = (tgt : Int)) (kt : a = 0 → W p l e R s m args below meth c H locs cells slots Q (F0 m tgt ls rest)) (kf : a ≠ 0 → W p l e R s m args below meth c H locs cells slots Q (F0 m (pc + 3) ls rest)) : W p l e R s m args below meth c H locs cells slots Q (F0 m pc ls (.int (nI a) :: rest)) :=
  lv_if_eq hexec hb hdg ht (fun h => kt ((kn_z a ha).mp h)) (fun h => kf (fun q => h ((kn_z a ha).mpr q)))
theorem kn_ifne (hexec : p.tables.exec = Jvm.exec) (hb : c.code = cc) {a : Nat} {off : Int} {tgt : Nat} (ha : a < 2 ^ 31) (hdg : decode cc pc = .ok (.ifCond .ne off, 3)) (ht : (pc : Int) + off = (tgt : Int)) (kt : a ≠ 0 → W p l e R s m args below meth c H locs cells slots Q (F0 m tgt ls rest)) (kf : a = 0 → W p l e R s m args below meth c H locs cells slots Q (F0 m (pc + 3) ls rest)) : W p l e R s m args below meth c H locs cells slots Q (F0 m pc ls (.int (nI a) :: rest)) :=
  lv_if_ne hexec hb hdg ht (fun h => kt (fun q => h ((kn_z a ha).mpr q))) (fun h => kf ((kn_z a ha).mp h))
theorem kn_iflt (hexec : p.tables.exec = Jvm.exec) (hb : c.code = cc) {a : Nat} {off : Int} {tgt : Nat} (ha : a < 2 ^ 31) (hdg : decode cc pc = .ok (.ifCond .lt off, 3)) (ht : (pc : Int) + off = (tgt : Int)) (kf : W p l e R s m args below meth c H locs cells slots Q (F0 m (pc + 3) ls rest)) : W p l e R s m args below meth c H locs cells slots Q (F0 m pc ls (.int (nI a) :: rest)) :=
  lv_if_lt hexec hb hdg ht (fun h => absurd h (nI_pos ha)) (fun _ => kf)
theorem kn_ifge (hexec : p.tables.exec = Jvm.exec) (hb : c.code = cc) {a : Nat} {off : Int} {tgt : Nat} (ha : a < 2 ^ 31) (hdg : decode cc pc = .ok (.ifCond .ge off, 3)) (ht : (pc : Int) + off = (tgt : Int)) (kt : W p l e R s m args below meth c H locs cells slots Q (F0 m tgt ls rest)) : W p l e R s m args below meth c H locs cells slots Q (F0 m pc ls (.int (nI a) :: rest)) :=
  lv_if_ge hexec hb hdg ht (fun _ => kt) (fun h => absurd (nI_pos' ha) h)
theorem kn_ifgt (hexec : p.tables.exec = Jvm.exec) (hb : c.code = cc) {a : Nat} {off : Int} {tgt : Nat} (ha : a < 2 ^ 31) (hdg : decode cc pc = .ok (.ifCond .gt off, 3)) (ht : (pc : Int) + off = (tgt : Int)) (kt : 0 < a → W p l e R s m args below meth c H locs cells slots Q (F0 m tgt ls rest)) (kf : a = 0 → W p l e R s m args below meth c H locs cells slots Q (F0 m (pc + 3) ls rest)) : W p l e R s m args below meth c H locs cells slots Q (F0 m pc ls (.int (nI a) :: rest)) :=
  lv_if_gt hexec hb hdg ht (fun h => kt (by rw [← nI_0] at h; exact (nI_ltI (by decide) ha).mp h)) (fun h => kf (by rw [← nI_0] at h; have := mt (nI_ltI (show 0 < 2 ^ 31 by decide) ha).mpr h; omega))
theorem kn_ifle (hexec : p.tables.exec = Jvm.exec) (hb : c.code = cc) {a : Nat} {off : Int} {tgt : Nat} (ha : a < 2 ^ 31) (hdg : decode cc pc = .ok (.ifCond .le off, 3)) (ht : (pc : Int) + off = (tgt : Int)) (kt : a = 0 → W p l e R s m args below meth c H locs cells slots Q (F0 m tgt ls rest)) (kf : 0 < a → W p l e R s m args below meth c H locs cells slots Q (F0 m (pc + 3) ls rest)) : W p l e R s m args below meth c H locs cells slots Q (F0 m pc ls (.int (nI a) :: rest)) :=
  lv_if_le hexec hb hdg ht (fun h => kt (by rw [← nI_0] at h; have := (nI_leI ha (show 0 < 2 ^ 31 by decide)).mp h; omega)) (fun h => kf (by rw [← nI_0] at h; have := mt (nI_leI ha (show 0 < 2 ^ 31 by decide)).mpr h; omega))
end KN
