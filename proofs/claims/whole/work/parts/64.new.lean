/-! ===== BEGIN new T[n][m]: the outer array a place, the inner ones among the pooled ===== -/
/-- f, but v at every address of l -/
def vr_up {α : Type} (f : Nat → α) (l : List Nat) (v : α) : Nat → α := fun a => if a ∈ l then v else f a
theorem vr_up_in {α : Type} {f : Nat → α} {l : List Nat} {v : α} {a : Nat} (h : a ∈ l) : vr_up f l v a = v := if_pos h
theorem vr_up_ne {α : Type} {f : Nat → α} {l : List Nat} {v : α} {a : Nat} (h : a ∉ l) : vr_up f l v a = f a := if_neg h
theorem vr_rows {L l : List Nat} {f : Nat → va_E} {e : va_E} (h : ∀ a, a ∈ l → a ∉ L) : va_pl L f ++ l.map (fun a => (a, e)) = va_pl (L ++ l) (vr_up f l e) := by
  unfold va_pl
  rw [List.map_append]
  congr 1
  · apply List.map_congr_left
    intro a ha
    rw [vr_up_ne (fun q => h a q ha)]
  · apply List.map_congr_left
    intro a ha
    rw [vr_up_in ha]
theorem vr_lay {X rows : va_W} {x : Nat × va_E} {pl : va_W} {D : va_G} {cl : List vw_C} {H : Heap} (hP : va_P D cl (((X ++ pl) ++ [x]) ++ rows) H) : va_P D cl ((X ++ [x]) ++ (pl ++ rows)) H := by
  rw [List.append_assoc (X ++ pl)] at hP
  have h := va_P.swap hP
  rw [← List.append_assoc X] at h
  have h2 := va_P.swap h
  rw [List.append_assoc (X ++ [x])] at h2
  exact h2
theorem vr_layD {X rows : va_W} {x : Nat × va_E} {pl : va_W} {A : Nat → Prop} (hD : va_D A (((X ++ pl) ++ [x]) ++ rows)) : va_D A ((X ++ [x]) ++ (pl ++ rows)) := by
  rw [List.append_assoc (X ++ pl)] at hD
  have h := va_D.swap hD
  rw [← List.append_assoc X] at h
  have h2 := va_D.swap h
  rw [List.append_assoc (X ++ [x])] at h2
  exact h2
theorem vr_outer (c : ClassId) (N h0 : Nat) : ∀ i : Nat, Jvm.Free.Multi.outerC c N h0 i = arrV c N (fun j => va_rf (if j < i then some (h0 + 1 + j) else none))
  | 0 => by
    show ({ cls := c, slots := Array.replicate N .null, vm := .none } : Cell) = _
    rw [arrV_new]
    refine congrArg (arrV c N) (funext fun j => ?_)
    simp [va_rf]
  | i + 1 => by
    show (Jvm.Free.Multi.outerC c N h0 i).setSlot i (.ref (h0 + 1 + i)) = _
    rw [vr_outer c N h0 i, arrV_store]
    refine congrArg (arrV c N) (funext fun j => ?_)
    by_cases e : j = i
    · subst e
      simp [updV, va_rf]
    · by_cases h : j < i
      · simp [updV, e, h, Nat.lt_succ_of_lt h]
      · simp [updV, e, h, show ¬ j < i + 1 by omega]
section VGM
variable {p : Program} {l : Launch} {e : Env} {R : Room} {s : State} {m : MethodId} {args : Array Value} {below : List Frame} {meth : Method} {c : Code} {H : Heap} {locs : List Loc} {cells slots : Nat} {Q : State → Prop}
variable {cc : ByteArray} {pc : Nat} {ls : Array Slot} {rest : List Value} {D : va_G} {cl : List vw_C} {A : Nat → Prop} {a : Nat} {tys : List (ClassId × FieldType)} {ws : va_W} {H0 : Heap}
theorem va_mna {X : va_W} {L : List Nat} {f : Nat → va_E} {cc : ByteArray} (hexec : p.tables.exec = Jvm.exec) (hb : c.code = cc) {own : String} {index : Nat} {ty : FieldType} {cy : ClassId} (hown : s.vm.findClass own = some m.cls) (hclink : (Cond.classLink own index ("[" ++ (FieldType.array ty).toString)).before args s = true) (hover : va_AOA ty s) (harr : (Cond.arrayClass ty).before args s = true) (hcy : s.vm.findClass (FieldType.array ty).toString = some cy)
    (hK : va_K D cl tys s) (hP : va_P D cl (X ++ va_pl L f) H) (hD : va_D A (X ++ va_pl L f)) (hS : va_S A H0 H locs) (hA : ∀ q, H0.size ≤ q → A q) {n k : Int32} {N' K' : Nat} {z : vp_A} (hn : ¬ n < 0) (hk : ¬ k < 0) (hN : n.toNatClampNeg = N') (hM : k.toNatClampNeg = K')
    (hb1 : N' * 4 ≤ 536870912) (hb2 : K' * componentBytes ty ≤ 536870912) (hb3 : K' ≤ 536870912) (hdf : fits ty (defaultValue ty) = true) (hdd : (defaultValue ty).isDefault = true) (hcells : cells + (1 + N') ≤ R.cells) (hslots : slots + (N' + N' * K') ≤ R.slots) (hz : ∀ c : ClassId, Jvm.Free.Multi.innerC c K' (defaultValue ty) = vp_cell c z) (hdg : decode cc pc = .ok (.multianewarray index 2, 4))
    (kk : ∀ (q : Nat) (r : Nat → Nat) (cA : ClassId) (H1 : Heap), (∀ i j : Nat, i < N' → j < N' → r i = r j → i = j) → (∀ i : Nat, i < N' → r i ∉ L) → va_K D cl (tys ++ [(cA, .array ty)]) s →
      va_P D cl ((X ++ [(q, .inl (cA, N', .inr (.inr (.inr (.inr (fun i => if i < N' then some (r i) else none))))))]) ++ va_pl (L ++ (List.range N').map r) (vr_up f ((List.range N').map r) (.inl (cy, z)))) H1 → va_D A ((X ++ [(q, .inl (cA, N', .inr (.inr (.inr (.inr (fun i => if i < N' then some (r i) else none))))))]) ++ va_pl (L ++ (List.range N').map r) (vr_up f ((List.range N').map r) (.inl (cy, z)))) → va_S A H0 H1 locs →
      W p l e R s m args below meth c H1 locs (cells + 1 + N') (slots + N' + N' * K') Q (F0 m (pc + 4) ls (.ref q :: rest))) : W p l e R s m args below meth c H locs cells slots Q (F0 m pc ls (.int k :: .int n :: rest)) := by
  subst hN
  subst hM
  intro T hT Xs
  obtain ⟨vm₁, cA, comp, -, fA, fC, hO, -, X', step⟩ := Xs.multianewarray2F hexec hown hclink (va_AOA.use hover) harr (g := F0 m pc ls (.int k :: .int n :: rest)) rfl (by rw [hb]; exact hdg) rfl hn hk hb1 hb2 hb3 hdf hdd hcells hslots
  have ec : some cy = some comp := hcy.symm.trans fC
  cases ec
  generalize hF : Jvm.Free.Multi.fill (T.setVm vm₁) cA cy n.toNatClampNeg k.toNatClampNeg (defaultValue ty) n.toNatClampNeg = F at X' step
  have hTh : (T.setVm vm₁).heap = H := hT
  obtain ⟨f1, f2, -, -⟩ := Jvm.Free.Multi.fill_facts (T.setVm vm₁) cA cy n.toNatClampNeg k.toNatClampNeg (defaultValue ty) n.toNatClampNeg
  rw [hF, hTh] at f1 f2
  have hold : ∀ x : Nat, x < H.size → F.heap[x]? = H[x]? := fun x hx => by
    have := Jvm.Free.Multi.fill_old (T.setVm vm₁) cA cy n.toNatClampNeg k.toNatClampNeg (defaultValue ty) (a := x) (by rw [hTh]; exact hx) n.toNatClampNeg
    rw [hF, hTh] at this
    exact this
  have hrow : ∀ j : Nat, j < n.toNatClampNeg → F.heap[H.size + 1 + j]? = some (vp_cell cy z) := fun j hj => by
    have := Jvm.Free.Multi.fill_inner (T.setVm vm₁) cA cy n.toNatClampNeg k.toNatClampNeg (defaultValue ty) n.toNatClampNeg j hj
    rw [hF, hTh, hz] at this
    exact this
  have hout : Jvm.Free.Multi.outerC cA n.toNatClampNeg H.size n.toNatClampNeg = vp_cell cA (n.toNatClampNeg, .inr (.inr (.inr (.inr (fun i => if i < n.toNatClampNeg then some (H.size + 1 + i) else none))))) := by
    rw [vp_cell_q]
    exact vr_outer cA n.toNatClampNeg H.size n.toNatClampNeg
  rw [hout] at f2
  have hlt : ∀ a, a ∈ L → a < H.size := fun a ha => by
    obtain ⟨k9, hk9⟩ := va_pl_get (X := X) (f := f) ha
    exact (hP k9 _ hk9).lt
  have hnl : ∀ i : Nat, i < n.toNatClampNeg → H.size + 1 + i ∉ L := fun i _ h => by
    have := hlt _ h
    omega
  have hnm : ∀ a, a ∈ (List.range n.toNatClampNeg).map (fun i => H.size + 1 + i) → a ∉ L := fun a ha h => by
    obtain ⟨i, -, rfl⟩ := List.mem_map.mp ha
    have := hlt _ h
    omega
  have hP0 : va_P D cl (X ++ va_pl L f) F.heap := hP.kept (fun k9 x hx => hold x.1 ((hP k9 x hx).lt))
  have hP1 : va_P D cl ((X ++ va_pl L f) ++ [(H.size, .inl (cA, n.toNatClampNeg, .inr (.inr (.inr (.inr (fun i => if i < n.toNatClampNeg then some (H.size + 1 + i) else none))))))]) F.heap := hP0.app (fun k9 x hx => by
    have h0 : k9 < 1 := (List.getElem?_eq_some_iff.mp hx).1
    rw [show k9 = 0 by omega] at hx
    cases hx
    exact f2)
  have hP2 : va_P D cl (((X ++ va_pl L f) ++ [(H.size, .inl (cA, n.toNatClampNeg, .inr (.inr (.inr (.inr (fun i => if i < n.toNatClampNeg then some (H.size + 1 + i) else none))))))]) ++ ((List.range n.toNatClampNeg).map (fun i => H.size + 1 + i)).map (fun a => (a, .inl (cy, z)))) F.heap := hP1.app (fun k9 x hx => by
    obtain ⟨a, ha, rfl⟩ := List.mem_map.mp (List.mem_of_getElem? hx)
    obtain ⟨i, hi, rfl⟩ := List.mem_map.mp ha
    exact hrow i (List.mem_range.mp hi))
  have hD2 : va_D A (((X ++ va_pl L f) ++ [(H.size, .inl (cA, n.toNatClampNeg, .inr (.inr (.inr (.inr (fun i => if i < n.toNatClampNeg then some (H.size + 1 + i) else none))))))]) ++ ((List.range n.toNatClampNeg).map (fun i => H.size + 1 + i)).map (fun a => (a, .inl (cy, z)))) := by
    have hD1 := hD.push (e := .inl (cA, n.toNatClampNeg, .inr (.inr (.inr (.inr (fun i => if i < n.toNatClampNeg then some (H.size + 1 + i) else none)))))) hP rfl (hA _ hS.1)
    generalize hW1 : (X ++ va_pl L f) ++ [(H.size, .inl (cA, n.toNatClampNeg, .inr (.inr (.inr (.inr (fun i => if i < n.toNatClampNeg then some (H.size + 1 + i) else none))))))] = W1 at hD1 hP1 ⊢
    have hle : ∀ (k9 : Nat) (x : Nat × va_E), W1[k9]? = some x → x.1 ≤ H.size := fun k9 x hx => by
      rw [← hW1] at hx
      by_cases hl : k9 < (X ++ va_pl L f).length
      · rw [List.getElem?_append_left hl] at hx
        exact Nat.le_of_lt ((hP k9 x hx).lt)
      · rw [List.getElem?_append_right (by omega)] at hx
        have h0 : k9 - (X ++ va_pl L f).length < 1 := (List.getElem?_eq_some_iff.mp hx).1
        rw [show k9 - (X ++ va_pl L f).length = 0 by omega] at hx
        cases hx
        exact Nat.le_refl _
    have hr : ∀ (k9 : Nat) (x : Nat × va_E), (((List.range n.toNatClampNeg).map (fun i => H.size + 1 + i)).map (fun a => ((a, .inl (cy, z)) : Nat × va_E)))[k9]? = some x → x.1 = H.size + 1 + k9 := fun k9 x hx => by
      rw [List.getElem?_map, List.getElem?_map] at hx
      by_cases h9 : k9 < n.toNatClampNeg
      · rw [List.getElem?_range h9] at hx
        cases hx
        rfl
      · have hn0 : (List.range n.toNatClampNeg)[k9]? = none := List.getElem?_eq_none (by rw [List.length_range]; omega)
        rw [hn0] at hx
        cases hx
    refine ⟨fun i j x y hi hj hxy => ?_, fun k9 x hx => ?_⟩
    · by_cases h1 : i < W1.length <;> by_cases h2 : j < W1.length
      · rw [List.getElem?_append_left h1] at hi
        rw [List.getElem?_append_left h2] at hj
        exact hD1.1 i j x y hi hj hxy
      · rw [List.getElem?_append_left h1] at hi
        rw [List.getElem?_append_right (by omega)] at hj
        have := hle _ _ hi
        have := hr _ _ hj
        omega
      · rw [List.getElem?_append_right (by omega)] at hi
        rw [List.getElem?_append_left h2] at hj
        have := hle _ _ hj
        have := hr _ _ hi
        omega
      · rw [List.getElem?_append_right (by omega)] at hi hj
        have := hr _ _ hi
        have := hr _ _ hj
        omega
    · by_cases h1 : k9 < W1.length
      · rw [List.getElem?_append_left h1] at hx
        exact hD1.2 k9 x hx
      · rw [List.getElem?_append_right (by omega)] at hx
        have := hr _ _ hx
        exact hA _ (by have := hS.1; omega)
  have hAr : ArrOfT s cA (.array ty) := fun N9 z9 => by
    obtain ⟨-, k9, hk9, cm9, hkk9⟩ := (hO 0 0 0).1
    exact ⟨(fun q hq => by cases hq), k9, hk9, cm9, hkk9⟩
  have hK2 : va_K D cl (tys ++ [(cA, .array ty)]) s := ⟨hK.1, fun k9 x hx => by
    by_cases hl : k9 < tys.length
    · rw [List.getElem?_append_left hl] at hx
      exact hK.2 k9 x hx
    · rw [List.getElem?_append_right (by omega)] at hx
      have h0 : k9 - tys.length < 1 := (List.getElem?_eq_some_iff.mp hx).1
      rw [show k9 - tys.length = 0 by omega] at hx
      cases hx
      exact ⟨hAr, fA⟩⟩
  obtain ⟨t, a1, b1⟩ := kk H.size (fun i => H.size + 1 + i) cA F.heap (fun i j _ _ h => by have h9 : H.size + 1 + i = H.size + 1 + j := h; omega) hnl hK2 (by rw [← vr_rows hnm]; exact vr_lay hP2) (by rw [← vr_rows hnm]; exact vr_layD hD2) ⟨by rw [f1]; have := hS.1; omega, fun x h1 h2 => (hold x (Nat.lt_of_lt_of_le h1 hS.1)).trans (hS.2.1 x h1 h2), hS.2.2⟩ F rfl X'
  refine ⟨t, step t ?_, b1⟩
  have e : T.heap.size = H.size := by rw [hT]
  rw [e]
  exact a1
end VGM
/-! making: arrays of ints and booleans; contracts of constructors -/
section KM
variable {p : Program} {l : Launch} {e : Env} {R : Room} {s : State} {m : MethodId} {args : Array Value} {below : List Frame} {meth : Method} {c : Code} {H : Heap} {locs : List Loc} {cells slots : Nat} {Q : State → Prop}
variable {cc : ByteArray} {pc : Nat} {ls : Array Slot} {rest : List Value} {E : kE} {A : Nat → Prop} {ws : va_W}
theorem k_newI (hexec : p.tables.exec = Jvm.exec) (hb : c.code = cc) (harr : (Cond.arrayClass .int).before args s = true) (hK : va_K E.1 vwCl (kY E) s) (hP : va_P E.1 vwCl ws H) (hD : va_D A ws) (hS : va_S A s.heap H locs) (hA : ∀ q : Nat, s.heap.size ≤ q → A q)
    {N : Nat} (hN : N < 100000) (hcells : cells + 1 ≤ R.cells) (hslots : slots + N ≤ R.slots) (hdg : decode cc pc = .ok (.newarray .int, 2))
    (kk : ∀ (q : Nat) (H1 : Heap), va_P E.1 vwCl (ws ++ [(q, .inl (E.2.1 0, N, .inl (fun _ => 0)))]) H1 → va_D A (ws ++ [(q, .inl (E.2.1 0, N, .inl (fun _ => 0)))]) → va_S A s.heap H1 locs →
      W p l e R s m args below meth c H1 locs (cells + 1) (slots + N) Q (F0 m (pc + 2) ls (.ref q :: rest))) : W p l e R s m args below meth c H locs cells slots Q (F0 m pc ls (.int (nI N) :: rest)) := by
  refine va_newa (atype := .int) (ty := .int) (N' := N) (a0 := (N, .inl (fun _ => 0))) hexec hb harr rfl hK hP hD hS hA (fun _ => rfl) (nI_pos (by omega)) (nI_clamp (by omega)) (by show N * 4 ≤ _; omega) hcells hslots hdg (fun q cA H1 hK1 hP1 hD1 hS1 => ?_)
  have h0 : s.vm.findClass ("[" ++ (FieldType.int).toString) = some (E.2.1 0) := (hK.2 0 _ rfl).2
  have h1 : s.vm.findClass ("[" ++ (FieldType.int).toString) = some cA := (hK1.2 3 _ rfl).2
  have h2 : cA = E.2.1 0 := Option.some.inj (h1.symm.trans h0)
  subst h2
  exact kk q H1 hP1 hD1 hS1
theorem k_newZ (hexec : p.tables.exec = Jvm.exec) (hb : c.code = cc) (harr : (Cond.arrayClass .boolean).before args s = true) (hK : va_K E.1 vwCl (kY E) s) (hP : va_P E.1 vwCl ws H) (hD : va_D A ws) (hS : va_S A s.heap H locs) (hA : ∀ q : Nat, s.heap.size ≤ q → A q)
    {N : Nat} (hN : N < 100000) (hcells : cells + 1 ≤ R.cells) (hslots : slots + N ≤ R.slots) (hdg : decode cc pc = .ok (.newarray .boolean, 2))
    (kk : ∀ (q : Nat) (H1 : Heap), va_P E.1 vwCl (ws ++ [(q, .inl (E.2.1 1, N, .inl (fun _ => 0)))]) H1 → va_D A (ws ++ [(q, .inl (E.2.1 1, N, .inl (fun _ => 0)))]) → va_S A s.heap H1 locs →
      W p l e R s m args below meth c H1 locs (cells + 1) (slots + N) Q (F0 m (pc + 2) ls (.ref q :: rest))) : W p l e R s m args below meth c H locs cells slots Q (F0 m pc ls (.int (nI N) :: rest)) := by
  refine va_newa (atype := .boolean) (ty := .boolean) (N' := N) (a0 := (N, .inl (fun _ => 0))) hexec hb harr rfl hK hP hD hS hA (fun _ => rfl) (nI_pos (by omega)) (nI_clamp (by omega)) (by show N * 1 ≤ _; omega) hcells hslots hdg (fun q cA H1 hK1 hP1 hD1 hS1 => ?_)
  have h0 : s.vm.findClass ("[" ++ (FieldType.boolean).toString) = some (E.2.1 1) := (hK.2 1 _ rfl).2
  have h1 : s.vm.findClass ("[" ++ (FieldType.boolean).toString) = some cA := (hK1.2 3 _ rfl).2
  have h2 : cA = E.2.1 1 := Option.some.inj (h1.symm.trans h0)
  subst h2
  exact kk q H1 hP1 hD1 hS1
end KM
/-- a constructor: its object's cell (and what it was given) comes in; what it makes comes out beside it -/
def Kn (l : Launch) (y : MethodName) (wy : List Cond) (rm : Room) (E : kE) (av : List Value) (cin : va_W) (mc ms : Nat) {S : Type} (post : S → Prop) (cout : S → va_W) : Prop :=
  ∀ sz : Nat, Met l y wy rm (va_Pc av (kIn E cin sz)) (va_Qv post (fun u t => va_P E.1 vwCl (cout u) t.heap ∧ va_D (va_A cin sz) (cout u)) (va_A cin sz)) mc ms (va_A cin sz)
section KNs
variable {l : Launch} {y : MethodName} {rm : Room} {E : kE} {av : List Value} {cin : va_W} {cc : ByteArray} {maxL mc ms : Nat}
theorem Kn.ofW {S : Type} {post : S → Prop} {cout : S → va_W} (hy : plainName y.cls = true) (hn : (lg_sl av).length ≤ maxL)
    (body : ∀ (p : Program) (e : Env) (s : State) (m : MethodId) (args : Array Value) (below : List Frame) (meth : Method) (c : Code) (A : Nat → Prop) (ls : Array Slot) (Q : State → Prop), p.tables.exec = Jvm.exec → c.code = cc → (∀ w ∈ kT, w.before args s = true) → s.vm.findClass y.cls = some m.cls → c.maxLocals = maxL → meth.name = y.name →
      va_K E.1 vwCl (kY E) s → kG E A s → (∀ q : Nat, s.heap.size ≤ q → A q) → va_P E.1 vwCl cin s.heap → va_D A cin → va_S A s.heap s.heap [] → lv_has ls maxL (lv_args 0 av) →
      (∀ (pc : Nat) (ls : Array Slot) (H : Heap) (locs : List Loc) (u : S), decode cc pc = .ok (.return_, 1) → post u → va_P E.1 vwCl (cout u) H → va_D A (cout u) → va_S A s.heap H locs → W p l e rm s m args below meth c H locs mc ms Q (F0 m pc ls [])) →
      W p l e rm s m args below meth c s.heap [] 0 0 Q (F0 m 0 ls [])) : Kn l y (kW y cc maxL none) rm E av cin mc ms post cout := by
  intro sz
  refine Met.ofW (cc := cc) (maxL := maxL) (ret := none) hy rfl ?_
  intro p e s m args below meth c s₁ B hml hv
  obtain ⟨rfl, hsz, hP, hK, hD0, hG⟩ := hv
  subst hsz
  have hl := lv_entry av (n := maxL) hn
  rw [lg_entry_eq]
  exact body p e s m _ below meth c (va_A cin s.heap.size) _ _ B.exec B.bytes (fun w h => atoms_spec (ws := kW y cc maxL none) B.pre w (List.mem_cons_of_mem _ h)) (findClass_of_methodNamed B.named) hml (name_of_methodNamed B.named B.method).1 hK hG (fun q h => Or.inr h) hP hD0.self va_S.rf hl (fun pc ls H locs u hdg hp hP hD hS => W.vret B.exec B.bytes B.returns (fun t ht _ => ⟨⟨u, rfl, hp, by rw [ht]; exact hP, hD⟩, hS.F ht⟩) hS.2.2 hdg B.notSynchronized)
end KNs
section KO
variable {p : Program} {l : Launch} {e : Env} {R : Room} {s : State} {m : MethodId} {args : Array Value} {below : List Frame} {meth : Method} {c : Code} {H : Heap} {locs : List Loc} {cells slots : Nat} {Q : State → Prop}
variable {cc bytes : ByteArray} {pc nL maxL n index mc ms : Nat} {ls : Array Slot} {rest st0 : List Value} {E : kE} {A : Nat → Prop} {ws cin wr : va_W} {As : List Value} {Ts wy : List Cond} {own host : String} {y : MethodName} {rm : Room} {b : Nat}
theorem k_rn {a : Array Value} {S : Type} {post : S → Prop} {cout : S → va_W} (hr : va_Run p l e R s m args below meth c H locs cells slots mc ms (F0 m pc ls st0) rest (va_Qv post (fun u t => va_P E.1 vwCl (cout u) t.heap ∧ va_D (va_A cin H.size) (cout u)) (va_A cin H.size) a) (va_A cin H.size))
    (hA : ∀ q : Nat, s.heap.size ≤ q → A q) (hP : va_P E.1 vwCl ws H) (hD : va_D A ws) (hS : va_S A s.heap H locs) (isC isR : List Nat) (hC : isC.map (fun i => ws[i]?) = cin.map some) (hR : isR.map (fun i => ws[i]?) = wr.map some) (hn : va_nd isR = true) (hdis : ∀ i ∈ isR, i ∉ isC)
    (kk : ∀ (u : S) (H1 : Heap) (locs1 : List Loc), post u → va_P E.1 vwCl (wr ++ cout u) H1 → va_D A (wr ++ cout u) → va_S A s.heap H1 locs1 → W p l e R s m args below meth c H1 locs1 (cells + mc) (slots + ms) Q (F0 m (pc + 3) ls rest)) : W p l e R s m args below meth c H locs cells slots Q (F0 m pc ls st0) := by
  refine va_callv hr hS (fun q _ h => va_free hD hS hA isC hC q h) (va_free hD hS hA isC hC) (fun u t H1 locs1 ht hvm hp hB hz hk hS1 => ?_)
  obtain ⟨hB1, hB2⟩ := hB
  rw [ht] at hB1
  obtain ⟨h1, h2⟩ := va_join hP hD isC isR hC hR hn hdis hk (va_free hD hS hA isC hC) hB1 hB2
  exact kk u H1 locs1 hp h1 h2 hS1
theorem k_IN {S : Type} {post : S → Prop} {cout : S → va_W} (X : CallFix p m c cc nL s args Ts own) (hM : Kn l y wy rm E (.ref b :: As) cin mc ms post cout) (cw : va_CN R s args own index y host bytes maxL none wy rm mc ms n ∧ y.name = "<init>" ∧ (Cond.instanceMethod y).before args s = true) (hK : va_K E.1 vwCl (kY E) s) (hG : kG E A s) (hA : ∀ q : Nat, s.heap.size ≤ q → A q) (hP : va_P E.1 vwCl ws H) (hD : va_D A ws) (hS : va_S A s.heap H locs) (isC isR : List Nat) (hC : isC.map (fun i => ws[i]?) = cin.map some) (hn1 : va_nd isC = true) (hR : isR.map (fun i => ws[i]?) = wr.map some) (hn : va_nd isR = true) (hdis : ∀ i ∈ isR, i ∉ isC) (hlen : As.length = n) (hsz : ls.size = nL) (hst : st0 = As.reverse ++ .ref b :: rest) (hW : (rest.map fun v => v.category).sum ≤ 8) (hdg : decode cc pc = .ok (.invokespecial index, 3)) (hcs : cells + mc ≤ R.cells ∧ slots + ms ≤ R.slots)
    (kk : ∀ (u : S) (H1 : Heap) (locs1 : List Loc), post u → va_P E.1 vwCl (wr ++ cout u) H1 → va_D A (wr ++ cout u) → va_S A s.heap H1 locs1 → W p l e R s m args below meth c H1 locs1 (cells + mc) (slots + ms) Q (F0 m (pc + 3) ls rest)) : W p l e R s m args below meth c H locs cells slots Q (F0 m pc ls st0) :=
  k_rn (va_runIN (g := F0 m pc ls st0) (As := As) (rest := rest) X (hM H.size) cw (k_preS hK hG hA hP hD hS hC hn1) rfl hlen hsz hst (lv_room hW) hdg hcs) hA hP hD hS isC isR hC hR hn hdis kk
theorem k_II {S : Type} {post : S → Prop} {cout : S → va_W} (X : CallFix p m c cc nL s args Ts own) (hM : Kn l y wy rm E (.ref b :: As) cin mc ms post cout) (cw : CallB R s args own index y bytes maxL none wy rm mc ms n ∧ y.name = "<init>" ∧ (Cond.instanceMethod y).before args s = true) (hK : va_K E.1 vwCl (kY E) s) (hG : kG E A s) (hA : ∀ q : Nat, s.heap.size ≤ q → A q) (hP : va_P E.1 vwCl ws H) (hD : va_D A ws) (hS : va_S A s.heap H locs) (isC isR : List Nat) (hC : isC.map (fun i => ws[i]?) = cin.map some) (hn1 : va_nd isC = true) (hR : isR.map (fun i => ws[i]?) = wr.map some) (hn : va_nd isR = true) (hdis : ∀ i ∈ isR, i ∉ isC) (hlen : As.length = n) (hsz : ls.size = nL) (hst : st0 = As.reverse ++ .ref b :: rest) (hW : (rest.map fun v => v.category).sum ≤ 8) (hdg : decode cc pc = .ok (.invokespecial index, 3)) (hcs : cells + mc ≤ R.cells ∧ slots + ms ≤ R.slots)
    (kk : ∀ (u : S) (H1 : Heap) (locs1 : List Loc), post u → va_P E.1 vwCl (wr ++ cout u) H1 → va_D A (wr ++ cout u) → va_S A s.heap H1 locs1 → W p l e R s m args below meth c H1 locs1 (cells + mc) (slots + ms) Q (F0 m (pc + 3) ls rest)) : W p l e R s m args below meth c H locs cells slots Q (F0 m pc ls st0) :=
  k_rn (va_runI (g := F0 m pc ls st0) (As := As) (rest := rest) X (hM H.size) cw (k_preS hK hG hA hP hD hS hC hn1) rfl hlen hsz hst (lv_room hW) hdg hcs) hA hP hD hS isC isR hC hR hn hdis kk
end KO
/-! the stack's rows, made -/
theorem k_rows0 {E : kE} {r : Nat → Nat} {f : Nat → va_E} : va_pl ([] ++ (List.range 16).map r) (vr_up f ((List.range 16).map r) (.inl (E.2.1 0, 8, .inl (fun _ => 0)))) = k_rows E r (fun _ _ => 0) := by
  unfold va_pl k_rows
  rw [List.nil_append, List.map_map]
  apply List.map_congr_left
  intro i hi
  show (r i, vr_up f ((List.range 16).map r) (.inl (E.2.1 0, 8, .inl (fun _ => 0))) (r i)) = _
  rw [vr_up_in (List.mem_map_of_mem hi)]
section KMN
variable {p : Program} {l : Launch} {e : Env} {R : Room} {s : State} {m : MethodId} {args : Array Value} {below : List Frame} {meth : Method} {c : Code} {H : Heap} {locs : List Loc} {cells slots : Nat} {Q : State → Prop}
variable {cc : ByteArray} {pc : Nat} {ls : Array Slot} {rest : List Value} {E : kE} {A : Nat → Prop} {ws : va_W}
theorem k_mna (hexec : p.tables.exec = Jvm.exec) (hb : c.code = cc) {own : String} {index : Nat} (hown : s.vm.findClass own = some m.cls) (hclink : (Cond.classLink own index "[[I").before args s = true) (hG : kG E A s) (harr : (Cond.arrayClass .int).before args s = true) (hK : va_K E.1 vwCl (kY E) s) (hP : va_P E.1 vwCl ws H) (hD : va_D A ws) (hS : va_S A s.heap H locs) (hA : ∀ q : Nat, s.heap.size ≤ q → A q)
    (hcells : cells + (1 + 16) ≤ R.cells) (hslots : slots + (16 + 16 * 8) ≤ R.slots) (hdg : decode cc pc = .ok (.multianewarray index 2, 4))
    (kk : ∀ (q : Nat) (ra : Nat → Nat) (H1 : Heap), va_P E.1 vwCl ((ws ++ [(q, .inl (E.2.1 2, 16, .inr (.inr (.inr (.inr (fun i => if i < 16 then some (ra i) else none))))))]) ++ k_rows E ra (fun _ _ => 0)) H1 → va_D A ((ws ++ [(q, .inl (E.2.1 2, 16, .inr (.inr (.inr (.inr (fun i => if i < 16 then some (ra i) else none))))))]) ++ k_rows E ra (fun _ _ => 0)) → va_S A s.heap H1 locs →
      W p l e R s m args below meth c H1 locs (cells + 1 + 16) (slots + 16 + 16 * 8) Q (F0 m (pc + 4) ls (.ref q :: rest))) : W p l e R s m args below meth c H locs cells slots Q (F0 m pc ls (.int (nI 8) :: .int (nI 16) :: rest)) := by
  have hc0 : s.vm.findClass ("[" ++ (FieldType.int).toString) = some (E.2.1 0) := (hK.2 0 _ rfl).2
  have hc2 : s.vm.findClass ("[" ++ (FieldType.array .int).toString) = some (E.2.1 2) := (hK.2 2 _ rfl).2
  have hcl : (Cond.classLink own index ("[" ++ (FieldType.array .int).toString)).before args s = true := hclink
  have hnil : ∀ f : Nat → va_E, ws ++ va_pl [] f = ws := fun f => List.append_nil ws
  refine va_mna (X := ws) (L := []) (f := fun _ => .inl (E.2.1 0, 8, .inl (fun _ => 0))) (ty := .int) (cy := E.2.1 0) (n := nI 16) (k := nI 8) (N' := 16) (K' := 8) (z := (8, .inl (fun _ => 0))) hexec hb hown hcl hG.2.2.2 harr hc0 hK (by rw [hnil]; exact hP) (by rw [hnil]; exact hD) hS hA (by decide) (by decide) (by decide) (by decide) (by decide) (by decide) (by decide) rfl rfl hcells hslots (fun _ => rfl) hdg (fun q r cA H1 _ _ hK1 hP1 hD1 hS1 => ?_)
  have h1 : s.vm.findClass ("[" ++ (FieldType.array .int).toString) = some cA := (hK1.2 3 _ rfl).2
  have h2 : cA = E.2.1 2 := Option.some.inj (h1.symm.trans hc2)
  subst h2
  rw [k_rows0] at hP1 hD1
  exact kk q r H1 hP1 hD1 hS1
end KMN

abbrev y_Pr_init : MethodName := ⟨"WideStack$Program", "<init>", "()V"⟩
theorem d_Pr_init_0 : decode prog_6_method_1_code 0 = .ok (.aload_n 0, 1) := by decide +kernel
theorem d_Pr_init_1 : decode prog_6_method_1_code 1 = .ok (.invokespecial 1, 3) := by decide +kernel
theorem d_Pr_init_4 : decode prog_6_method_1_code 4 = .ok (.aload_n 0, 1) := by decide +kernel
theorem d_Pr_init_5 : decode prog_6_method_1_code 5 = .ok (.bipush 96, 2) := by decide +kernel
theorem d_Pr_init_7 : decode prog_6_method_1_code 7 = .ok (.newarray .int, 2) := by decide +kernel
theorem d_Pr_init_9 : decode prog_6_method_1_code 9 = .ok (.putfield 9, 3) := by decide +kernel
theorem d_Pr_init_12 : decode prog_6_method_1_code 12 = .ok (.aload_n 0, 1) := by decide +kernel
theorem d_Pr_init_13 : decode prog_6_method_1_code 13 = .ok (.bipush 96, 2) := by decide +kernel
theorem d_Pr_init_15 : decode prog_6_method_1_code 15 = .ok (.newarray .boolean, 2) := by decide +kernel
theorem d_Pr_init_17 : decode prog_6_method_1_code 17 = .ok (.putfield 13, 3) := by decide +kernel
theorem d_Pr_init_20 : decode prog_6_method_1_code 20 = .ok (.aload_n 0, 1) := by decide +kernel
theorem d_Pr_init_21 : decode prog_6_method_1_code 21 = .ok (.bipush 96, 2) := by decide +kernel
theorem d_Pr_init_23 : decode prog_6_method_1_code 23 = .ok (.newarray .int, 2) := by decide +kernel
theorem d_Pr_init_25 : decode prog_6_method_1_code 25 = .ok (.putfield 17, 3) := by decide +kernel
theorem d_Pr_init_28 : decode prog_6_method_1_code 28 = .ok (.aload_n 0, 1) := by decide +kernel
theorem d_Pr_init_29 : decode prog_6_method_1_code 29 = .ok (.iconst 0, 1) := by decide +kernel
theorem d_Pr_init_30 : decode prog_6_method_1_code 30 = .ok (.putfield 20, 3) := by decide +kernel
theorem d_Pr_init_33 : decode prog_6_method_1_code 33 = .ok (.aload_n 0, 1) := by decide +kernel
theorem d_Pr_init_34 : decode prog_6_method_1_code 34 = .ok (.iconst (-1), 1) := by decide +kernel
theorem d_Pr_init_35 : decode prog_6_method_1_code 35 = .ok (.putfield 24, 3) := by decide +kernel
theorem d_Pr_init_38 : decode prog_6_method_1_code 38 = .ok (.aload_n 0, 1) := by decide +kernel
theorem d_Pr_init_39 : decode prog_6_method_1_code 39 = .ok (.iconst 0, 1) := by decide +kernel
theorem d_Pr_init_40 : decode prog_6_method_1_code 40 = .ok (.putfield 27, 3) := by decide +kernel
theorem d_Pr_init_43 : decode prog_6_method_1_code 43 = .ok (.return_, 1) := by decide +kernel
def rm_c_n_Program : Room := { frames := 1, cells := 3, slots := 288, locals := 20 }
set_option maxHeartbeats 4000000 in
set_option maxRecDepth 100000 in
theorem c_n_Program (l : Launch) (E : kE) (q : Nat) : Kn l y_Pr_init (kW y_Pr_init prog_6_method_1_code 1 (none)) rm_c_n_Program E [.ref q] [(q, .inr (0, [.null, .null, .null, .int (nI 0), .int (nI 0), .int (nI 0)]))] 3 288 (S := Nat × Nat × Nat) (fun _ => True) (fun u => [(q, .inr (0, [.ref u.1, .ref u.2.1, .ref u.2.2, .int (nI 0), .int (-1), .int (nI 0)])), (u.1, .inl (E.2.1 0, 96, .inl (fun _ => 0))), (u.2.1, .inl (E.2.1 1, 96, .inl (fun _ => 0))), (u.2.2, .inl (E.2.1 0, 96, .inl (fun _ => 0)))]) := by
  refine Kn.ofW (cc := prog_6_method_1_code) (maxL := 1) (by decide) (Nat.le_of_ble_eq_true rfl) ?_
  intro p e s m args below meth c A ls Q hx hb hts hown hml hin hK hG hA hP hD hS hl hret
  have hl : lv_has ls 1 [(0, .ref q)] := hl
  refine lv_aload_n hx hb d_Pr_init_0 rfl (lv_at hl 0 rfl) ?_
  refine W.objInit hx hb hown (hts _ t_89) (hts _ t_82) (hts _ t_83) rfl (by rw [hml]; exact hl.1) rfl d_Pr_init_1 (Nat.le_of_ble_eq_true rfl) (Nat.le_of_ble_eq_true rfl) ?_
  refine lv_aload_n hx hb d_Pr_init_4 rfl (lv_at hl 0 rfl) ?_
  refine lv_bipush (v := nI 96) hx hb d_Pr_init_5 (by decide) ?_
  refine k_newI hx hb (hts _ t_109) hK hP hD hS hA (N := 96) (by decide) (Nat.le_of_ble_eq_true rfl) (Nat.le_of_ble_eq_true rfl) d_Pr_init_7 (fun n7 H hP hD hS => ?_)
  have hP : va_P E.1 vwCl [(q, .inr (0, [.null, .null, .null, .int (nI 0), .int (nI 0), .int (nI 0)])), (n7, .inl (E.2.1 0, 96, .inl (fun _ => 0)))] H := hP
  have hD : va_D A [(q, .inr (0, [.null, .null, .null, .int (nI 0), .int (nI 0), .int (nI 0)])), (n7, .inl (E.2.1 0, 96, .inl (fun _ => 0)))] := hD
  refine va_putF (D := E.1) (ci := 0) (v := .ref n7) (ty := .array (.int)) (C := "WideStack$Program") (T := T_Pr) (N := 6) hx hb hts in_Pr ty_Pr tyok_Pr nm_Pr hown hK hP hD hS 0 rfl rfl 0 (by decide) (hts _ t_90) (fun _ h9 => h9) rfl hin rfl (by decide +kernel) rfl rfl (Nat.le_of_ble_eq_true rfl) d_Pr_init_9 (fun H locs hP hD hS => ?_)
  have hP : va_P E.1 vwCl [(q, .inr (0, [.ref n7, .null, .null, .int (nI 0), .int (nI 0), .int (nI 0)])), (n7, .inl (E.2.1 0, 96, .inl (fun _ => 0)))] H := hP
  have hD : va_D A [(q, .inr (0, [.ref n7, .null, .null, .int (nI 0), .int (nI 0), .int (nI 0)])), (n7, .inl (E.2.1 0, 96, .inl (fun _ => 0)))] := hD
  refine lv_aload_n hx hb d_Pr_init_12 rfl (lv_at hl 0 rfl) ?_
  refine lv_bipush (v := nI 96) hx hb d_Pr_init_13 (by decide) ?_
  refine k_newZ hx hb (hts _ t_110) hK hP hD hS hA (N := 96) (by decide) (Nat.le_of_ble_eq_true rfl) (Nat.le_of_ble_eq_true rfl) d_Pr_init_15 (fun n15 H hP hD hS => ?_)
  have hP : va_P E.1 vwCl [(q, .inr (0, [.ref n7, .null, .null, .int (nI 0), .int (nI 0), .int (nI 0)])), (n7, .inl (E.2.1 0, 96, .inl (fun _ => 0))), (n15, .inl (E.2.1 1, 96, .inl (fun _ => 0)))] H := hP
  have hD : va_D A [(q, .inr (0, [.ref n7, .null, .null, .int (nI 0), .int (nI 0), .int (nI 0)])), (n7, .inl (E.2.1 0, 96, .inl (fun _ => 0))), (n15, .inl (E.2.1 1, 96, .inl (fun _ => 0)))] := hD
  refine va_putF (D := E.1) (ci := 0) (v := .ref n15) (ty := .array (.boolean)) (C := "WideStack$Program") (T := T_Pr) (N := 6) hx hb hts in_Pr ty_Pr tyok_Pr nm_Pr hown hK hP hD hS 0 rfl rfl 1 (by decide) (hts _ t_91) (fun _ h9 => h9) rfl hin rfl (by decide +kernel) rfl rfl (Nat.le_of_ble_eq_true rfl) d_Pr_init_17 (fun H locs hP hD hS => ?_)
  have hP : va_P E.1 vwCl [(q, .inr (0, [.ref n7, .ref n15, .null, .int (nI 0), .int (nI 0), .int (nI 0)])), (n7, .inl (E.2.1 0, 96, .inl (fun _ => 0))), (n15, .inl (E.2.1 1, 96, .inl (fun _ => 0)))] H := hP
  have hD : va_D A [(q, .inr (0, [.ref n7, .ref n15, .null, .int (nI 0), .int (nI 0), .int (nI 0)])), (n7, .inl (E.2.1 0, 96, .inl (fun _ => 0))), (n15, .inl (E.2.1 1, 96, .inl (fun _ => 0)))] := hD
  refine lv_aload_n hx hb d_Pr_init_20 rfl (lv_at hl 0 rfl) ?_
  refine lv_bipush (v := nI 96) hx hb d_Pr_init_21 (by decide) ?_
  refine k_newI hx hb (hts _ t_109) hK hP hD hS hA (N := 96) (by decide) (Nat.le_of_ble_eq_true rfl) (Nat.le_of_ble_eq_true rfl) d_Pr_init_23 (fun n23 H hP hD hS => ?_)
  have hP : va_P E.1 vwCl [(q, .inr (0, [.ref n7, .ref n15, .null, .int (nI 0), .int (nI 0), .int (nI 0)])), (n7, .inl (E.2.1 0, 96, .inl (fun _ => 0))), (n15, .inl (E.2.1 1, 96, .inl (fun _ => 0))), (n23, .inl (E.2.1 0, 96, .inl (fun _ => 0)))] H := hP
  have hD : va_D A [(q, .inr (0, [.ref n7, .ref n15, .null, .int (nI 0), .int (nI 0), .int (nI 0)])), (n7, .inl (E.2.1 0, 96, .inl (fun _ => 0))), (n15, .inl (E.2.1 1, 96, .inl (fun _ => 0))), (n23, .inl (E.2.1 0, 96, .inl (fun _ => 0)))] := hD
  refine va_putF (D := E.1) (ci := 0) (v := .ref n23) (ty := .array (.int)) (C := "WideStack$Program") (T := T_Pr) (N := 6) hx hb hts in_Pr ty_Pr tyok_Pr nm_Pr hown hK hP hD hS 0 rfl rfl 2 (by decide) (hts _ t_92) (fun _ h9 => h9) rfl hin rfl (by decide +kernel) rfl rfl (Nat.le_of_ble_eq_true rfl) d_Pr_init_25 (fun H locs hP hD hS => ?_)
  have hP : va_P E.1 vwCl [(q, .inr (0, [.ref n7, .ref n15, .ref n23, .int (nI 0), .int (nI 0), .int (nI 0)])), (n7, .inl (E.2.1 0, 96, .inl (fun _ => 0))), (n15, .inl (E.2.1 1, 96, .inl (fun _ => 0))), (n23, .inl (E.2.1 0, 96, .inl (fun _ => 0)))] H := hP
  have hD : va_D A [(q, .inr (0, [.ref n7, .ref n15, .ref n23, .int (nI 0), .int (nI 0), .int (nI 0)])), (n7, .inl (E.2.1 0, 96, .inl (fun _ => 0))), (n15, .inl (E.2.1 1, 96, .inl (fun _ => 0))), (n23, .inl (E.2.1 0, 96, .inl (fun _ => 0)))] := hD
  refine lv_aload_n hx hb d_Pr_init_28 rfl (lv_at hl 0 rfl) ?_
  refine lv_iconst (v := nI 0) hx hb d_Pr_init_29 (by decide) ?_
  refine va_put (D := E.1) (ci := 0) (v := .int (nI 0)) (ty := .int) (C := "WideStack$Program") (T := T_Pr) (N := 6) hx hb hts in_Pr ty_Pr tyok_Pr nm_Pr hown hK hP hD hS 0 rfl rfl 3 (by decide) (hts _ t_93) (fun _ h9 => h9) rfl (by decide +kernel) rfl rfl (Nat.le_of_ble_eq_true rfl) d_Pr_init_30 (fun H locs hP hD hS => ?_)
  have hP : va_P E.1 vwCl [(q, .inr (0, [.ref n7, .ref n15, .ref n23, .int (nI 0), .int (nI 0), .int (nI 0)])), (n7, .inl (E.2.1 0, 96, .inl (fun _ => 0))), (n15, .inl (E.2.1 1, 96, .inl (fun _ => 0))), (n23, .inl (E.2.1 0, 96, .inl (fun _ => 0)))] H := hP
  have hD : va_D A [(q, .inr (0, [.ref n7, .ref n15, .ref n23, .int (nI 0), .int (nI 0), .int (nI 0)])), (n7, .inl (E.2.1 0, 96, .inl (fun _ => 0))), (n15, .inl (E.2.1 1, 96, .inl (fun _ => 0))), (n23, .inl (E.2.1 0, 96, .inl (fun _ => 0)))] := hD
  refine lv_aload_n hx hb d_Pr_init_33 rfl (lv_at hl 0 rfl) ?_
  refine lv_iconst (v := -1) hx hb d_Pr_init_34 (by decide) ?_
  refine va_put (D := E.1) (ci := 0) (v := .int (-1)) (ty := .int) (C := "WideStack$Program") (T := T_Pr) (N := 6) hx hb hts in_Pr ty_Pr tyok_Pr nm_Pr hown hK hP hD hS 0 rfl rfl 4 (by decide) (hts _ t_94) (fun _ h9 => h9) rfl (by decide +kernel) rfl rfl (Nat.le_of_ble_eq_true rfl) d_Pr_init_35 (fun H locs hP hD hS => ?_)
  have hP : va_P E.1 vwCl [(q, .inr (0, [.ref n7, .ref n15, .ref n23, .int (nI 0), .int (-1), .int (nI 0)])), (n7, .inl (E.2.1 0, 96, .inl (fun _ => 0))), (n15, .inl (E.2.1 1, 96, .inl (fun _ => 0))), (n23, .inl (E.2.1 0, 96, .inl (fun _ => 0)))] H := hP
  have hD : va_D A [(q, .inr (0, [.ref n7, .ref n15, .ref n23, .int (nI 0), .int (-1), .int (nI 0)])), (n7, .inl (E.2.1 0, 96, .inl (fun _ => 0))), (n15, .inl (E.2.1 1, 96, .inl (fun _ => 0))), (n23, .inl (E.2.1 0, 96, .inl (fun _ => 0)))] := hD
  refine lv_aload_n hx hb d_Pr_init_38 rfl (lv_at hl 0 rfl) ?_
  refine lv_iconst (v := nI 0) hx hb d_Pr_init_39 (by decide) ?_
  refine va_put (D := E.1) (ci := 0) (v := .int (nI 0)) (ty := .int) (C := "WideStack$Program") (T := T_Pr) (N := 6) hx hb hts in_Pr ty_Pr tyok_Pr nm_Pr hown hK hP hD hS 0 rfl rfl 5 (by decide) (hts _ t_95) (fun _ h9 => h9) rfl (by decide +kernel) rfl rfl (Nat.le_of_ble_eq_true rfl) d_Pr_init_40 (fun H locs hP hD hS => ?_)
  have hP : va_P E.1 vwCl [(q, .inr (0, [.ref n7, .ref n15, .ref n23, .int (nI 0), .int (-1), .int (nI 0)])), (n7, .inl (E.2.1 0, 96, .inl (fun _ => 0))), (n15, .inl (E.2.1 1, 96, .inl (fun _ => 0))), (n23, .inl (E.2.1 0, 96, .inl (fun _ => 0)))] H := hP
  have hD : va_D A [(q, .inr (0, [.ref n7, .ref n15, .ref n23, .int (nI 0), .int (-1), .int (nI 0)])), (n7, .inl (E.2.1 0, 96, .inl (fun _ => 0))), (n15, .inl (E.2.1 1, 96, .inl (fun _ => 0))), (n23, .inl (E.2.1 0, 96, .inl (fun _ => 0)))] := hD
  exact hret _ ls _ _ (n7, n15, n23) d_Pr_init_43 trivial hP hD hS

abbrev y_So_init : MethodName := ⟨"WideStack$Store", "<init>", "()V"⟩
theorem d_So_init_0 : decode prog_9_method_1_code 0 = .ok (.aload_n 0, 1) := by decide +kernel
theorem d_So_init_1 : decode prog_9_method_1_code 1 = .ok (.invokespecial 1, 3) := by decide +kernel
theorem d_So_init_4 : decode prog_9_method_1_code 4 = .ok (.aload_n 0, 1) := by decide +kernel
theorem d_So_init_5 : decode prog_9_method_1_code 5 = .ok (.sipush 160, 3) := by decide +kernel
theorem d_So_init_8 : decode prog_9_method_1_code 8 = .ok (.newarray .int, 2) := by decide +kernel
theorem d_So_init_10 : decode prog_9_method_1_code 10 = .ok (.putfield 9, 3) := by decide +kernel
theorem d_So_init_13 : decode prog_9_method_1_code 13 = .ok (.aload_n 0, 1) := by decide +kernel
theorem d_So_init_14 : decode prog_9_method_1_code 14 = .ok (.iconst 0, 1) := by decide +kernel
theorem d_So_init_15 : decode prog_9_method_1_code 15 = .ok (.putfield 13, 3) := by decide +kernel
theorem d_So_init_18 : decode prog_9_method_1_code 18 = .ok (.return_, 1) := by decide +kernel
def rm_c_n_Store : Room := { frames := 1, cells := 1, slots := 160, locals := 20 }
set_option maxHeartbeats 4000000 in
set_option maxRecDepth 100000 in
theorem c_n_Store (l : Launch) (E : kE) (o : Nat) : Kn l y_So_init (kW y_So_init prog_9_method_1_code 1 (none)) rm_c_n_Store E [.ref o] [(o, .inr (2, [.null, .int (nI 0)]))] 1 160 (S := Nat) (fun _ => True) (fun u => [(o, .inr (2, [.ref u, .int (nI 0)])), (u, .inl (E.2.1 0, 160, .inl (fun _ => 0)))]) := by
  refine Kn.ofW (cc := prog_9_method_1_code) (maxL := 1) (by decide) (Nat.le_of_ble_eq_true rfl) ?_
  intro p e s m args below meth c A ls Q hx hb hts hown hml hin hK hG hA hP hD hS hl hret
  have hl : lv_has ls 1 [(0, .ref o)] := hl
  refine lv_aload_n hx hb d_So_init_0 rfl (lv_at hl 0 rfl) ?_
  refine W.objInit hx hb hown (hts _ t_140) (hts _ t_82) (hts _ t_83) rfl (by rw [hml]; exact hl.1) rfl d_So_init_1 (Nat.le_of_ble_eq_true rfl) (Nat.le_of_ble_eq_true rfl) ?_
  refine lv_aload_n hx hb d_So_init_4 rfl (lv_at hl 0 rfl) ?_
  refine lv_sipush (v := nI 160) hx hb d_So_init_5 (by decide) ?_
  refine k_newI hx hb (hts _ t_109) hK hP hD hS hA (N := 160) (by decide) (Nat.le_of_ble_eq_true rfl) (Nat.le_of_ble_eq_true rfl) d_So_init_8 (fun n8 H hP hD hS => ?_)
  have hP : va_P E.1 vwCl [(o, .inr (2, [.null, .int (nI 0)])), (n8, .inl (E.2.1 0, 160, .inl (fun _ => 0)))] H := hP
  have hD : va_D A [(o, .inr (2, [.null, .int (nI 0)])), (n8, .inl (E.2.1 0, 160, .inl (fun _ => 0)))] := hD
  refine va_putF (D := E.1) (ci := 2) (v := .ref n8) (ty := .array (.int)) (C := "WideStack$Store") (T := T_So) (N := 2) hx hb hts in_So ty_So tyok_So nm_So hown hK hP hD hS 0 rfl rfl 0 (by decide) (hts _ t_141) (fun _ h9 => h9) rfl hin rfl (by decide +kernel) rfl rfl (Nat.le_of_ble_eq_true rfl) d_So_init_10 (fun H locs hP hD hS => ?_)
  have hP : va_P E.1 vwCl [(o, .inr (2, [.ref n8, .int (nI 0)])), (n8, .inl (E.2.1 0, 160, .inl (fun _ => 0)))] H := hP
  have hD : va_D A [(o, .inr (2, [.ref n8, .int (nI 0)])), (n8, .inl (E.2.1 0, 160, .inl (fun _ => 0)))] := hD
  refine lv_aload_n hx hb d_So_init_13 rfl (lv_at hl 0 rfl) ?_
  refine lv_iconst (v := nI 0) hx hb d_So_init_14 (by decide) ?_
  refine va_put (D := E.1) (ci := 2) (v := .int (nI 0)) (ty := .int) (C := "WideStack$Store") (T := T_So) (N := 2) hx hb hts in_So ty_So tyok_So nm_So hown hK hP hD hS 0 rfl rfl 1 (by decide) (hts _ t_142) (fun _ h9 => h9) rfl (by decide +kernel) rfl rfl (Nat.le_of_ble_eq_true rfl) d_So_init_15 (fun H locs hP hD hS => ?_)
  have hP : va_P E.1 vwCl [(o, .inr (2, [.ref n8, .int (nI 0)])), (n8, .inl (E.2.1 0, 160, .inl (fun _ => 0)))] H := hP
  have hD : va_D A [(o, .inr (2, [.ref n8, .int (nI 0)])), (n8, .inl (E.2.1 0, 160, .inl (fun _ => 0)))] := hD
  exact hret _ ls _ _ n8 d_So_init_18 trivial hP hD hS

abbrev y_St_init : MethodName := ⟨"WideStack$Stack", "<init>", "()V"⟩
theorem d_St_init_0 : decode prog_8_method_1_code 0 = .ok (.aload_n 0, 1) := by decide +kernel
theorem d_St_init_1 : decode prog_8_method_1_code 1 = .ok (.invokespecial 1, 3) := by decide +kernel
theorem d_St_init_4 : decode prog_8_method_1_code 4 = .ok (.aload_n 0, 1) := by decide +kernel
theorem d_St_init_5 : decode prog_8_method_1_code 5 = .ok (.bipush 16, 2) := by decide +kernel
theorem d_St_init_7 : decode prog_8_method_1_code 7 = .ok (.bipush 8, 2) := by decide +kernel
theorem d_St_init_9 : decode prog_8_method_1_code 9 = .ok (.multianewarray 11 2, 4) := by decide +kernel
theorem d_St_init_13 : decode prog_8_method_1_code 13 = .ok (.putfield 13, 3) := by decide +kernel
theorem d_St_init_16 : decode prog_8_method_1_code 16 = .ok (.aload_n 0, 1) := by decide +kernel
theorem d_St_init_17 : decode prog_8_method_1_code 17 = .ok (.bipush 8, 2) := by decide +kernel
theorem d_St_init_19 : decode prog_8_method_1_code 19 = .ok (.newarray .int, 2) := by decide +kernel
theorem d_St_init_21 : decode prog_8_method_1_code 21 = .ok (.putfield 16, 3) := by decide +kernel
theorem d_St_init_24 : decode prog_8_method_1_code 24 = .ok (.aload_n 0, 1) := by decide +kernel
theorem d_St_init_25 : decode prog_8_method_1_code 25 = .ok (.iconst 0, 1) := by decide +kernel
theorem d_St_init_26 : decode prog_8_method_1_code 26 = .ok (.putfield 20, 3) := by decide +kernel
theorem d_St_init_29 : decode prog_8_method_1_code 29 = .ok (.return_, 1) := by decide +kernel
def rm_c_n_Stack : Room := { frames := 1, cells := 18, slots := 152, locals := 20 }
set_option maxHeartbeats 4000000 in
set_option maxRecDepth 100000 in
theorem c_n_Stack (l : Launch) (E : kE) (k : Nat) : Kn l y_St_init (kW y_St_init prog_8_method_1_code 1 (none)) rm_c_n_Stack E [.ref k] [(k, .inr (1, [.null, .null, .int (nI 0)]))] 18 152 (S := Nat × Nat × (Nat → Nat)) (fun _ => True) (fun u => ([(k, .inr (1, [.ref u.1, .ref u.2.1, .int (nI 0)])), (u.1, .inl (E.2.1 2, 16, .inr (.inr (.inr (.inr (fun i => if i < 16 then some (u.2.2 i) else none)))))), (u.2.1, .inl (E.2.1 0, 8, .inl (fun _ => 0)))] ++ k_rows E u.2.2 (fun _ _ => 0))) := by
  refine Kn.ofW (cc := prog_8_method_1_code) (maxL := 1) (by decide) (Nat.le_of_ble_eq_true rfl) ?_
  intro p e s m args below meth c A ls Q hx hb hts hown hml hin hK hG hA hP hD hS hl hret
  have hl : lv_has ls 1 [(0, .ref k)] := hl
  refine lv_aload_n hx hb d_St_init_0 rfl (lv_at hl 0 rfl) ?_
  refine W.objInit hx hb hown (hts _ t_122) (hts _ t_82) (hts _ t_83) rfl (by rw [hml]; exact hl.1) rfl d_St_init_1 (Nat.le_of_ble_eq_true rfl) (Nat.le_of_ble_eq_true rfl) ?_
  refine lv_aload_n hx hb d_St_init_4 rfl (lv_at hl 0 rfl) ?_
  refine lv_bipush (v := nI 16) hx hb d_St_init_5 (by decide) ?_
  refine lv_bipush (v := nI 8) hx hb d_St_init_7 (by decide) ?_
  refine k_mna hx hb hown (hts _ t_123) hG (hts _ t_109) hK hP hD hS hA (Nat.le_of_ble_eq_true rfl) (Nat.le_of_ble_eq_true rfl) d_St_init_9 (fun kw ra H hP hD hS => ?_)
  have hP : va_P E.1 vwCl ([(k, .inr (1, [.null, .null, .int (nI 0)])), (kw, .inl (E.2.1 2, 16, .inr (.inr (.inr (.inr (fun i => if i < 16 then some (ra i) else none))))))] ++ k_rows E ra (fun _ _ => 0)) H := hP
  have hD : va_D A ([(k, .inr (1, [.null, .null, .int (nI 0)])), (kw, .inl (E.2.1 2, 16, .inr (.inr (.inr (.inr (fun i => if i < 16 then some (ra i) else none))))))] ++ k_rows E ra (fun _ _ => 0)) := hD
  refine va_putF (D := E.1) (ci := 1) (v := .ref kw) (ty := .array (.array (.int))) (C := "WideStack$Stack") (T := T_St) (N := 3) hx hb hts in_St ty_St tyok_St nm_St hown hK hP hD hS 0 rfl rfl 0 (by decide) (hts _ t_125) (fun _ h9 => h9) rfl hin rfl (by decide +kernel) rfl rfl (Nat.le_of_ble_eq_true rfl) d_St_init_13 (fun H locs hP hD hS => ?_)
  have hP : va_P E.1 vwCl ([(k, .inr (1, [.ref kw, .null, .int (nI 0)])), (kw, .inl (E.2.1 2, 16, .inr (.inr (.inr (.inr (fun i => if i < 16 then some (ra i) else none))))))] ++ k_rows E ra (fun _ _ => 0)) H := hP
  have hD : va_D A ([(k, .inr (1, [.ref kw, .null, .int (nI 0)])), (kw, .inl (E.2.1 2, 16, .inr (.inr (.inr (.inr (fun i => if i < 16 then some (ra i) else none))))))] ++ k_rows E ra (fun _ _ => 0)) := hD
  refine lv_aload_n hx hb d_St_init_16 rfl (lv_at hl 0 rfl) ?_
  refine lv_bipush (v := nI 8) hx hb d_St_init_17 (by decide) ?_
  refine k_newI hx hb (hts _ t_109) hK hP hD hS hA (N := 8) (by decide) (Nat.le_of_ble_eq_true rfl) (Nat.le_of_ble_eq_true rfl) d_St_init_19 (fun n19 H hP hD hS => ?_)
  have hP := va_P.swap hP
  have hD := va_D.swap hD
  have hP : va_P E.1 vwCl ([(k, .inr (1, [.ref kw, .null, .int (nI 0)])), (kw, .inl (E.2.1 2, 16, .inr (.inr (.inr (.inr (fun i => if i < 16 then some (ra i) else none)))))), (n19, .inl (E.2.1 0, 8, .inl (fun _ => 0)))] ++ k_rows E ra (fun _ _ => 0)) H := hP
  have hD : va_D A ([(k, .inr (1, [.ref kw, .null, .int (nI 0)])), (kw, .inl (E.2.1 2, 16, .inr (.inr (.inr (.inr (fun i => if i < 16 then some (ra i) else none)))))), (n19, .inl (E.2.1 0, 8, .inl (fun _ => 0)))] ++ k_rows E ra (fun _ _ => 0)) := hD
  refine va_putF (D := E.1) (ci := 1) (v := .ref n19) (ty := .array (.int)) (C := "WideStack$Stack") (T := T_St) (N := 3) hx hb hts in_St ty_St tyok_St nm_St hown hK hP hD hS 0 rfl rfl 1 (by decide) (hts _ t_126) (fun _ h9 => h9) rfl hin rfl (by decide +kernel) rfl rfl (Nat.le_of_ble_eq_true rfl) d_St_init_21 (fun H locs hP hD hS => ?_)
  have hP : va_P E.1 vwCl ([(k, .inr (1, [.ref kw, .ref n19, .int (nI 0)])), (kw, .inl (E.2.1 2, 16, .inr (.inr (.inr (.inr (fun i => if i < 16 then some (ra i) else none)))))), (n19, .inl (E.2.1 0, 8, .inl (fun _ => 0)))] ++ k_rows E ra (fun _ _ => 0)) H := hP
  have hD : va_D A ([(k, .inr (1, [.ref kw, .ref n19, .int (nI 0)])), (kw, .inl (E.2.1 2, 16, .inr (.inr (.inr (.inr (fun i => if i < 16 then some (ra i) else none)))))), (n19, .inl (E.2.1 0, 8, .inl (fun _ => 0)))] ++ k_rows E ra (fun _ _ => 0)) := hD
  refine lv_aload_n hx hb d_St_init_24 rfl (lv_at hl 0 rfl) ?_
  refine lv_iconst (v := nI 0) hx hb d_St_init_25 (by decide) ?_
  refine va_put (D := E.1) (ci := 1) (v := .int (nI 0)) (ty := .int) (C := "WideStack$Stack") (T := T_St) (N := 3) hx hb hts in_St ty_St tyok_St nm_St hown hK hP hD hS 0 rfl rfl 2 (by decide) (hts _ t_127) (fun _ h9 => h9) rfl (by decide +kernel) rfl rfl (Nat.le_of_ble_eq_true rfl) d_St_init_26 (fun H locs hP hD hS => ?_)
  have hP : va_P E.1 vwCl ([(k, .inr (1, [.ref kw, .ref n19, .int (nI 0)])), (kw, .inl (E.2.1 2, 16, .inr (.inr (.inr (.inr (fun i => if i < 16 then some (ra i) else none)))))), (n19, .inl (E.2.1 0, 8, .inl (fun _ => 0)))] ++ k_rows E ra (fun _ _ => 0)) H := hP
  have hD : va_D A ([(k, .inr (1, [.ref kw, .ref n19, .int (nI 0)])), (kw, .inl (E.2.1 2, 16, .inr (.inr (.inr (.inr (fun i => if i < 16 then some (ra i) else none)))))), (n19, .inl (E.2.1 0, 8, .inl (fun _ => 0)))] ++ k_rows E ra (fun _ _ => 0)) := hD
  exact hret _ ls _ _ (kw, n19, ra) d_St_init_29 trivial hP hD hS

abbrev y_Di_init : MethodName := ⟨"WideStack$Divider", "<init>", "()V"⟩
theorem d_Di_init_0 : decode prog_4_method_1_code 0 = .ok (.aload_n 0, 1) := by decide +kernel
theorem d_Di_init_1 : decode prog_4_method_1_code 1 = .ok (.invokespecial 3, 3) := by decide +kernel
theorem d_Di_init_4 : decode prog_4_method_1_code 4 = .ok (.aload_n 0, 1) := by decide +kernel
theorem d_Di_init_5 : decode prog_4_method_1_code 5 = .ok (.bipush 16, 2) := by decide +kernel
theorem d_Di_init_7 : decode prog_4_method_1_code 7 = .ok (.newarray .int, 2) := by decide +kernel
theorem d_Di_init_9 : decode prog_4_method_1_code 9 = .ok (.putfield 11, 3) := by decide +kernel
theorem d_Di_init_12 : decode prog_4_method_1_code 12 = .ok (.aload_n 0, 1) := by decide +kernel
theorem d_Di_init_13 : decode prog_4_method_1_code 13 = .ok (.bipush 16, 2) := by decide +kernel
theorem d_Di_init_15 : decode prog_4_method_1_code 15 = .ok (.newarray .int, 2) := by decide +kernel
theorem d_Di_init_17 : decode prog_4_method_1_code 17 = .ok (.putfield 15, 3) := by decide +kernel
theorem d_Di_init_20 : decode prog_4_method_1_code 20 = .ok (.aload_n 0, 1) := by decide +kernel
theorem d_Di_init_21 : decode prog_4_method_1_code 21 = .ok (.bipush 8, 2) := by decide +kernel
theorem d_Di_init_23 : decode prog_4_method_1_code 23 = .ok (.newarray .int, 2) := by decide +kernel
theorem d_Di_init_25 : decode prog_4_method_1_code 25 = .ok (.putfield 18, 3) := by decide +kernel
theorem d_Di_init_28 : decode prog_4_method_1_code 28 = .ok (.return_, 1) := by decide +kernel
def rm_c_n_Divider : Room := { frames := 1, cells := 3, slots := 40, locals := 20 }
set_option maxHeartbeats 4000000 in
set_option maxRecDepth 100000 in
theorem c_n_Divider (l : Launch) (E : kE) (d : Nat) : Kn l y_Di_init (kW y_Di_init prog_4_method_1_code 1 (none)) rm_c_n_Divider E [.ref d] [(d, .inr (3, [.null, .null, .null]))] 3 40 (S := Nat × Nat × Nat) (fun _ => True) (fun u => [(d, .inr (3, [.ref u.1, .ref u.2.1, .ref u.2.2])), (u.1, .inl (E.2.1 0, 16, .inl (fun _ => 0))), (u.2.1, .inl (E.2.1 0, 16, .inl (fun _ => 0))), (u.2.2, .inl (E.2.1 0, 8, .inl (fun _ => 0)))]) := by
  refine Kn.ofW (cc := prog_4_method_1_code) (maxL := 1) (by decide) (Nat.le_of_ble_eq_true rfl) ?_
  intro p e s m args below meth c A ls Q hx hb hts hown hml hin hK hG hA hP hD hS hl hret
  have hl : lv_has ls 1 [(0, .ref d)] := hl
  refine lv_aload_n hx hb d_Di_init_0 rfl (lv_at hl 0 rfl) ?_
  refine W.objInit hx hb hown (hts _ t_159) (hts _ t_82) (hts _ t_83) rfl (by rw [hml]; exact hl.1) rfl d_Di_init_1 (Nat.le_of_ble_eq_true rfl) (Nat.le_of_ble_eq_true rfl) ?_
  refine lv_aload_n hx hb d_Di_init_4 rfl (lv_at hl 0 rfl) ?_
  refine lv_bipush (v := nI 16) hx hb d_Di_init_5 (by decide) ?_
  refine k_newI hx hb (hts _ t_109) hK hP hD hS hA (N := 16) (by decide) (Nat.le_of_ble_eq_true rfl) (Nat.le_of_ble_eq_true rfl) d_Di_init_7 (fun n7 H hP hD hS => ?_)
  have hP : va_P E.1 vwCl [(d, .inr (3, [.null, .null, .null])), (n7, .inl (E.2.1 0, 16, .inl (fun _ => 0)))] H := hP
  have hD : va_D A [(d, .inr (3, [.null, .null, .null])), (n7, .inl (E.2.1 0, 16, .inl (fun _ => 0)))] := hD
  refine va_putF (D := E.1) (ci := 3) (v := .ref n7) (ty := .array (.int)) (C := "WideStack$Divider") (T := T_Di) (N := 3) hx hb hts in_Di ty_Di tyok_Di nm_Di hown hK hP hD hS 0 rfl rfl 0 (by decide) (hts _ t_160) (fun _ h9 => h9) rfl hin rfl (by decide +kernel) rfl rfl (Nat.le_of_ble_eq_true rfl) d_Di_init_9 (fun H locs hP hD hS => ?_)
  have hP : va_P E.1 vwCl [(d, .inr (3, [.ref n7, .null, .null])), (n7, .inl (E.2.1 0, 16, .inl (fun _ => 0)))] H := hP
  have hD : va_D A [(d, .inr (3, [.ref n7, .null, .null])), (n7, .inl (E.2.1 0, 16, .inl (fun _ => 0)))] := hD
  refine lv_aload_n hx hb d_Di_init_12 rfl (lv_at hl 0 rfl) ?_
  refine lv_bipush (v := nI 16) hx hb d_Di_init_13 (by decide) ?_
  refine k_newI hx hb (hts _ t_109) hK hP hD hS hA (N := 16) (by decide) (Nat.le_of_ble_eq_true rfl) (Nat.le_of_ble_eq_true rfl) d_Di_init_15 (fun n15 H hP hD hS => ?_)
  have hP : va_P E.1 vwCl [(d, .inr (3, [.ref n7, .null, .null])), (n7, .inl (E.2.1 0, 16, .inl (fun _ => 0))), (n15, .inl (E.2.1 0, 16, .inl (fun _ => 0)))] H := hP
  have hD : va_D A [(d, .inr (3, [.ref n7, .null, .null])), (n7, .inl (E.2.1 0, 16, .inl (fun _ => 0))), (n15, .inl (E.2.1 0, 16, .inl (fun _ => 0)))] := hD
  refine va_putF (D := E.1) (ci := 3) (v := .ref n15) (ty := .array (.int)) (C := "WideStack$Divider") (T := T_Di) (N := 3) hx hb hts in_Di ty_Di tyok_Di nm_Di hown hK hP hD hS 0 rfl rfl 1 (by decide) (hts _ t_162) (fun _ h9 => h9) rfl hin rfl (by decide +kernel) rfl rfl (Nat.le_of_ble_eq_true rfl) d_Di_init_17 (fun H locs hP hD hS => ?_)
  have hP : va_P E.1 vwCl [(d, .inr (3, [.ref n7, .ref n15, .null])), (n7, .inl (E.2.1 0, 16, .inl (fun _ => 0))), (n15, .inl (E.2.1 0, 16, .inl (fun _ => 0)))] H := hP
  have hD : va_D A [(d, .inr (3, [.ref n7, .ref n15, .null])), (n7, .inl (E.2.1 0, 16, .inl (fun _ => 0))), (n15, .inl (E.2.1 0, 16, .inl (fun _ => 0)))] := hD
  refine lv_aload_n hx hb d_Di_init_20 rfl (lv_at hl 0 rfl) ?_
  refine lv_bipush (v := nI 8) hx hb d_Di_init_21 (by decide) ?_
  refine k_newI hx hb (hts _ t_109) hK hP hD hS hA (N := 8) (by decide) (Nat.le_of_ble_eq_true rfl) (Nat.le_of_ble_eq_true rfl) d_Di_init_23 (fun n23 H hP hD hS => ?_)
  have hP : va_P E.1 vwCl [(d, .inr (3, [.ref n7, .ref n15, .null])), (n7, .inl (E.2.1 0, 16, .inl (fun _ => 0))), (n15, .inl (E.2.1 0, 16, .inl (fun _ => 0))), (n23, .inl (E.2.1 0, 8, .inl (fun _ => 0)))] H := hP
  have hD : va_D A [(d, .inr (3, [.ref n7, .ref n15, .null])), (n7, .inl (E.2.1 0, 16, .inl (fun _ => 0))), (n15, .inl (E.2.1 0, 16, .inl (fun _ => 0))), (n23, .inl (E.2.1 0, 8, .inl (fun _ => 0)))] := hD
  refine va_putF (D := E.1) (ci := 3) (v := .ref n23) (ty := .array (.int)) (C := "WideStack$Divider") (T := T_Di) (N := 3) hx hb hts in_Di ty_Di tyok_Di nm_Di hown hK hP hD hS 0 rfl rfl 2 (by decide) (hts _ t_164) (fun _ h9 => h9) rfl hin rfl (by decide +kernel) rfl rfl (Nat.le_of_ble_eq_true rfl) d_Di_init_25 (fun H locs hP hD hS => ?_)
  have hP : va_P E.1 vwCl [(d, .inr (3, [.ref n7, .ref n15, .ref n23])), (n7, .inl (E.2.1 0, 16, .inl (fun _ => 0))), (n15, .inl (E.2.1 0, 16, .inl (fun _ => 0))), (n23, .inl (E.2.1 0, 8, .inl (fun _ => 0)))] H := hP
  have hD : va_D A [(d, .inr (3, [.ref n7, .ref n15, .ref n23])), (n7, .inl (E.2.1 0, 16, .inl (fun _ => 0))), (n15, .inl (E.2.1 0, 16, .inl (fun _ => 0))), (n23, .inl (E.2.1 0, 8, .inl (fun _ => 0)))] := hD
  exact hret _ ls _ _ (n7, n15, n23) d_Di_init_28 trivial hP hD hS

abbrev y_Ca_init : MethodName := ⟨"WideStack$Calculator", "<init>", "()V"⟩
theorem d_Ca_init_0 : decode prog_3_method_1_code 0 = .ok (.aload_n 0, 1) := by decide +kernel
theorem d_Ca_init_1 : decode prog_3_method_1_code 1 = .ok (.invokespecial 1, 3) := by decide +kernel
theorem d_Ca_init_4 : decode prog_3_method_1_code 4 = .ok (.aload_n 0, 1) := by decide +kernel
theorem d_Ca_init_5 : decode prog_3_method_1_code 5 = .ok (.new 7, 3) := by decide +kernel
theorem d_Ca_init_8 : decode prog_3_method_1_code 8 = .ok (.dup, 1) := by decide +kernel
theorem d_Ca_init_9 : decode prog_3_method_1_code 9 = .ok (.invokespecial 9, 3) := by decide +kernel
theorem d_Ca_init_12 : decode prog_3_method_1_code 12 = .ok (.putfield 10, 3) := by decide +kernel
theorem d_Ca_init_15 : decode prog_3_method_1_code 15 = .ok (.aload_n 0, 1) := by decide +kernel
theorem d_Ca_init_16 : decode prog_3_method_1_code 16 = .ok (.bipush 16, 2) := by decide +kernel
theorem d_Ca_init_18 : decode prog_3_method_1_code 18 = .ok (.newarray .int, 2) := by decide +kernel
theorem d_Ca_init_20 : decode prog_3_method_1_code 20 = .ok (.putfield 18, 3) := by decide +kernel
theorem d_Ca_init_23 : decode prog_3_method_1_code 23 = .ok (.aload_n 0, 1) := by decide +kernel
theorem d_Ca_init_24 : decode prog_3_method_1_code 24 = .ok (.bipush 8, 2) := by decide +kernel
theorem d_Ca_init_26 : decode prog_3_method_1_code 26 = .ok (.newarray .int, 2) := by decide +kernel
theorem d_Ca_init_28 : decode prog_3_method_1_code 28 = .ok (.putfield 22, 3) := by decide +kernel
theorem d_Ca_init_31 : decode prog_3_method_1_code 31 = .ok (.aload_n 0, 1) := by decide +kernel
theorem d_Ca_init_32 : decode prog_3_method_1_code 32 = .ok (.bipush 8, 2) := by decide +kernel
theorem d_Ca_init_34 : decode prog_3_method_1_code 34 = .ok (.newarray .int, 2) := by decide +kernel
theorem d_Ca_init_36 : decode prog_3_method_1_code 36 = .ok (.putfield 25, 3) := by decide +kernel
theorem d_Ca_init_39 : decode prog_3_method_1_code 39 = .ok (.return_, 1) := by decide +kernel
def rm_c_n_Calculator : Room := { frames := 2, cells := 7, slots := 75, locals := 40 }
set_option maxHeartbeats 4000000 in
set_option maxRecDepth 100000 in
theorem c_n_Calculator (l : Launch) (E : kE) (ca : Nat) : Kn l y_Ca_init (kW y_Ca_init prog_3_method_1_code 1 (none)) rm_c_n_Calculator E [.ref ca] [(ca, .inr (4, [.null, .null, .null, .null]))] 7 75 (S := Nat × (Nat × Nat × Nat) × Nat × Nat × Nat) (fun _ => True) (fun u => [(ca, .inr (4, [.ref u.1, .ref u.2.2.1, .ref u.2.2.2.1, .ref u.2.2.2.2])), (u.1, .inr (3, [.ref u.2.1.1, .ref u.2.1.2.1, .ref u.2.1.2.2])), (u.2.1.1, .inl (E.2.1 0, 16, .inl (fun _ => 0))), (u.2.1.2.1, .inl (E.2.1 0, 16, .inl (fun _ => 0))), (u.2.1.2.2, .inl (E.2.1 0, 8, .inl (fun _ => 0))), (u.2.2.1, .inl (E.2.1 0, 16, .inl (fun _ => 0))), (u.2.2.2.1, .inl (E.2.1 0, 8, .inl (fun _ => 0))), (u.2.2.2.2, .inl (E.2.1 0, 8, .inl (fun _ => 0)))]) := by
  refine Kn.ofW (cc := prog_3_method_1_code) (maxL := 1) (by decide) (Nat.le_of_ble_eq_true rfl) ?_
  intro p e s m args below meth c A ls Q hx hb hts hown hml hin hK hG hA hP hD hS hl hret
  have hl : lv_has ls 1 [(0, .ref ca)] := hl
  refine lv_aload_n hx hb d_Ca_init_0 rfl (lv_at hl 0 rfl) ?_
  refine W.objInit hx hb hown (hts _ t_153) (hts _ t_82) (hts _ t_83) rfl (by rw [hml]; exact hl.1) rfl d_Ca_init_1 (Nat.le_of_ble_eq_true rfl) (Nat.le_of_ble_eq_true rfl) ?_
  refine lv_aload_n hx hb d_Ca_init_4 rfl (lv_at hl 0 rfl) ?_
  refine va_new (ci := 3) (fs := [.null, .null, .null]) (C := "WideStack$Divider") (T := T_Di) (N := 3) hx hb hts in_Di ty_Di tyok_Di hown (hts _ t_154) (hts _ t_155) (hts _ t_68) hK hP hD hS hA rfl (fun j hj => by (rcases (by omega : j = 0 ∨ j = 1 ∨ j = 2) with rfl | rfl | rfl) <;> rfl) (Nat.le_of_ble_eq_true rfl) (Nat.le_of_ble_eq_true rfl) d_Ca_init_5 (fun n5 H hP hD hS => ?_)
  have hP : va_P E.1 vwCl [(ca, .inr (4, [.null, .null, .null, .null])), (n5, .inr (3, [.null, .null, .null]))] H := hP
  have hD : va_D A [(ca, .inr (4, [.null, .null, .null, .null])), (n5, .inr (3, [.null, .null, .null]))] := hD
  refine lv_dup hx hb d_Ca_init_8 rfl ?_
  refine k_IN (As := []) (rest := [.ref n5, .ref ca]) (wr := [(ca, .inr (4, [.null, .null, .null, .null]))]) ⟨hx, hb, hml, hown, hts⟩ (c_n_Divider l E n5) ⟨va_cnB (host := "WideStack") 0 hts (kW_good t_158) rfl rfl rfl (hG.2.2.1 _ (List.mem_of_getElem? (i := 5) rfl)) (hts _ t_68) (by decide +kernel) ⟨Nat.le_of_ble_eq_true rfl, Nat.le_of_ble_eq_true rfl⟩, rfl, hts _ t_157⟩ hK hG hA hP hD hS [1] [0] rfl rfl rfl (by decide) (by decide) rfl hl.1 rfl (Nat.le_of_ble_eq_true rfl) d_Ca_init_9 ⟨Nat.le_of_ble_eq_true rfl, Nat.le_of_ble_eq_true rfl⟩ (fun uD H locs hD_ hP hD hS => ?_)
  have hP : va_P E.1 vwCl [(ca, .inr (4, [.null, .null, .null, .null])), (n5, .inr (3, [.ref uD.1, .ref uD.2.1, .ref uD.2.2])), (uD.1, .inl (E.2.1 0, 16, .inl (fun _ => 0))), (uD.2.1, .inl (E.2.1 0, 16, .inl (fun _ => 0))), (uD.2.2, .inl (E.2.1 0, 8, .inl (fun _ => 0)))] H := hP
  have hD : va_D A [(ca, .inr (4, [.null, .null, .null, .null])), (n5, .inr (3, [.ref uD.1, .ref uD.2.1, .ref uD.2.2])), (uD.1, .inl (E.2.1 0, 16, .inl (fun _ => 0))), (uD.2.1, .inl (E.2.1 0, 16, .inl (fun _ => 0))), (uD.2.2, .inl (E.2.1 0, 8, .inl (fun _ => 0)))] := hD
  refine va_putF (D := E.1) (ci := 4) (v := .ref n5) (ty := .object "WideStack$Divider") (C := "WideStack$Calculator") (T := T_Ca) (N := 4) hx hb hts in_Ca ty_Ca tyok_Ca nm_Ca hown hK hP hD hS 0 rfl rfl 0 (by decide) (hts _ t_173) (fun _ h9 => h9) rfl hin rfl (by decide +kernel) rfl rfl (Nat.le_of_ble_eq_true rfl) d_Ca_init_12 (fun H locs hP hD hS => ?_)
  have hP : va_P E.1 vwCl [(ca, .inr (4, [.ref n5, .null, .null, .null])), (n5, .inr (3, [.ref uD.1, .ref uD.2.1, .ref uD.2.2])), (uD.1, .inl (E.2.1 0, 16, .inl (fun _ => 0))), (uD.2.1, .inl (E.2.1 0, 16, .inl (fun _ => 0))), (uD.2.2, .inl (E.2.1 0, 8, .inl (fun _ => 0)))] H := hP
  have hD : va_D A [(ca, .inr (4, [.ref n5, .null, .null, .null])), (n5, .inr (3, [.ref uD.1, .ref uD.2.1, .ref uD.2.2])), (uD.1, .inl (E.2.1 0, 16, .inl (fun _ => 0))), (uD.2.1, .inl (E.2.1 0, 16, .inl (fun _ => 0))), (uD.2.2, .inl (E.2.1 0, 8, .inl (fun _ => 0)))] := hD
  refine lv_aload_n hx hb d_Ca_init_15 rfl (lv_at hl 0 rfl) ?_
  refine lv_bipush (v := nI 16) hx hb d_Ca_init_16 (by decide) ?_
  refine k_newI hx hb (hts _ t_109) hK hP hD hS hA (N := 16) (by decide) (Nat.le_of_ble_eq_true rfl) (Nat.le_of_ble_eq_true rfl) d_Ca_init_18 (fun n18 H hP hD hS => ?_)
  have hP : va_P E.1 vwCl [(ca, .inr (4, [.ref n5, .null, .null, .null])), (n5, .inr (3, [.ref uD.1, .ref uD.2.1, .ref uD.2.2])), (uD.1, .inl (E.2.1 0, 16, .inl (fun _ => 0))), (uD.2.1, .inl (E.2.1 0, 16, .inl (fun _ => 0))), (uD.2.2, .inl (E.2.1 0, 8, .inl (fun _ => 0))), (n18, .inl (E.2.1 0, 16, .inl (fun _ => 0)))] H := hP
  have hD : va_D A [(ca, .inr (4, [.ref n5, .null, .null, .null])), (n5, .inr (3, [.ref uD.1, .ref uD.2.1, .ref uD.2.2])), (uD.1, .inl (E.2.1 0, 16, .inl (fun _ => 0))), (uD.2.1, .inl (E.2.1 0, 16, .inl (fun _ => 0))), (uD.2.2, .inl (E.2.1 0, 8, .inl (fun _ => 0))), (n18, .inl (E.2.1 0, 16, .inl (fun _ => 0)))] := hD
  refine va_putF (D := E.1) (ci := 4) (v := .ref n18) (ty := .array (.int)) (C := "WideStack$Calculator") (T := T_Ca) (N := 4) hx hb hts in_Ca ty_Ca tyok_Ca nm_Ca hown hK hP hD hS 0 rfl rfl 1 (by decide) (hts _ t_174) (fun _ h9 => h9) rfl hin rfl (by decide +kernel) rfl rfl (Nat.le_of_ble_eq_true rfl) d_Ca_init_20 (fun H locs hP hD hS => ?_)
  have hP : va_P E.1 vwCl [(ca, .inr (4, [.ref n5, .ref n18, .null, .null])), (n5, .inr (3, [.ref uD.1, .ref uD.2.1, .ref uD.2.2])), (uD.1, .inl (E.2.1 0, 16, .inl (fun _ => 0))), (uD.2.1, .inl (E.2.1 0, 16, .inl (fun _ => 0))), (uD.2.2, .inl (E.2.1 0, 8, .inl (fun _ => 0))), (n18, .inl (E.2.1 0, 16, .inl (fun _ => 0)))] H := hP
  have hD : va_D A [(ca, .inr (4, [.ref n5, .ref n18, .null, .null])), (n5, .inr (3, [.ref uD.1, .ref uD.2.1, .ref uD.2.2])), (uD.1, .inl (E.2.1 0, 16, .inl (fun _ => 0))), (uD.2.1, .inl (E.2.1 0, 16, .inl (fun _ => 0))), (uD.2.2, .inl (E.2.1 0, 8, .inl (fun _ => 0))), (n18, .inl (E.2.1 0, 16, .inl (fun _ => 0)))] := hD
  refine lv_aload_n hx hb d_Ca_init_23 rfl (lv_at hl 0 rfl) ?_
  refine lv_bipush (v := nI 8) hx hb d_Ca_init_24 (by decide) ?_
  refine k_newI hx hb (hts _ t_109) hK hP hD hS hA (N := 8) (by decide) (Nat.le_of_ble_eq_true rfl) (Nat.le_of_ble_eq_true rfl) d_Ca_init_26 (fun n26 H hP hD hS => ?_)
  have hP : va_P E.1 vwCl [(ca, .inr (4, [.ref n5, .ref n18, .null, .null])), (n5, .inr (3, [.ref uD.1, .ref uD.2.1, .ref uD.2.2])), (uD.1, .inl (E.2.1 0, 16, .inl (fun _ => 0))), (uD.2.1, .inl (E.2.1 0, 16, .inl (fun _ => 0))), (uD.2.2, .inl (E.2.1 0, 8, .inl (fun _ => 0))), (n18, .inl (E.2.1 0, 16, .inl (fun _ => 0))), (n26, .inl (E.2.1 0, 8, .inl (fun _ => 0)))] H := hP
  have hD : va_D A [(ca, .inr (4, [.ref n5, .ref n18, .null, .null])), (n5, .inr (3, [.ref uD.1, .ref uD.2.1, .ref uD.2.2])), (uD.1, .inl (E.2.1 0, 16, .inl (fun _ => 0))), (uD.2.1, .inl (E.2.1 0, 16, .inl (fun _ => 0))), (uD.2.2, .inl (E.2.1 0, 8, .inl (fun _ => 0))), (n18, .inl (E.2.1 0, 16, .inl (fun _ => 0))), (n26, .inl (E.2.1 0, 8, .inl (fun _ => 0)))] := hD
  refine va_putF (D := E.1) (ci := 4) (v := .ref n26) (ty := .array (.int)) (C := "WideStack$Calculator") (T := T_Ca) (N := 4) hx hb hts in_Ca ty_Ca tyok_Ca nm_Ca hown hK hP hD hS 0 rfl rfl 2 (by decide) (hts _ t_175) (fun _ h9 => h9) rfl hin rfl (by decide +kernel) rfl rfl (Nat.le_of_ble_eq_true rfl) d_Ca_init_28 (fun H locs hP hD hS => ?_)
  have hP : va_P E.1 vwCl [(ca, .inr (4, [.ref n5, .ref n18, .ref n26, .null])), (n5, .inr (3, [.ref uD.1, .ref uD.2.1, .ref uD.2.2])), (uD.1, .inl (E.2.1 0, 16, .inl (fun _ => 0))), (uD.2.1, .inl (E.2.1 0, 16, .inl (fun _ => 0))), (uD.2.2, .inl (E.2.1 0, 8, .inl (fun _ => 0))), (n18, .inl (E.2.1 0, 16, .inl (fun _ => 0))), (n26, .inl (E.2.1 0, 8, .inl (fun _ => 0)))] H := hP
  have hD : va_D A [(ca, .inr (4, [.ref n5, .ref n18, .ref n26, .null])), (n5, .inr (3, [.ref uD.1, .ref uD.2.1, .ref uD.2.2])), (uD.1, .inl (E.2.1 0, 16, .inl (fun _ => 0))), (uD.2.1, .inl (E.2.1 0, 16, .inl (fun _ => 0))), (uD.2.2, .inl (E.2.1 0, 8, .inl (fun _ => 0))), (n18, .inl (E.2.1 0, 16, .inl (fun _ => 0))), (n26, .inl (E.2.1 0, 8, .inl (fun _ => 0)))] := hD
  refine lv_aload_n hx hb d_Ca_init_31 rfl (lv_at hl 0 rfl) ?_
  refine lv_bipush (v := nI 8) hx hb d_Ca_init_32 (by decide) ?_
  refine k_newI hx hb (hts _ t_109) hK hP hD hS hA (N := 8) (by decide) (Nat.le_of_ble_eq_true rfl) (Nat.le_of_ble_eq_true rfl) d_Ca_init_34 (fun n34 H hP hD hS => ?_)
  have hP : va_P E.1 vwCl [(ca, .inr (4, [.ref n5, .ref n18, .ref n26, .null])), (n5, .inr (3, [.ref uD.1, .ref uD.2.1, .ref uD.2.2])), (uD.1, .inl (E.2.1 0, 16, .inl (fun _ => 0))), (uD.2.1, .inl (E.2.1 0, 16, .inl (fun _ => 0))), (uD.2.2, .inl (E.2.1 0, 8, .inl (fun _ => 0))), (n18, .inl (E.2.1 0, 16, .inl (fun _ => 0))), (n26, .inl (E.2.1 0, 8, .inl (fun _ => 0))), (n34, .inl (E.2.1 0, 8, .inl (fun _ => 0)))] H := hP
  have hD : va_D A [(ca, .inr (4, [.ref n5, .ref n18, .ref n26, .null])), (n5, .inr (3, [.ref uD.1, .ref uD.2.1, .ref uD.2.2])), (uD.1, .inl (E.2.1 0, 16, .inl (fun _ => 0))), (uD.2.1, .inl (E.2.1 0, 16, .inl (fun _ => 0))), (uD.2.2, .inl (E.2.1 0, 8, .inl (fun _ => 0))), (n18, .inl (E.2.1 0, 16, .inl (fun _ => 0))), (n26, .inl (E.2.1 0, 8, .inl (fun _ => 0))), (n34, .inl (E.2.1 0, 8, .inl (fun _ => 0)))] := hD
  refine va_putF (D := E.1) (ci := 4) (v := .ref n34) (ty := .array (.int)) (C := "WideStack$Calculator") (T := T_Ca) (N := 4) hx hb hts in_Ca ty_Ca tyok_Ca nm_Ca hown hK hP hD hS 0 rfl rfl 3 (by decide) (hts _ t_176) (fun _ h9 => h9) rfl hin rfl (by decide +kernel) rfl rfl (Nat.le_of_ble_eq_true rfl) d_Ca_init_36 (fun H locs hP hD hS => ?_)
  have hP : va_P E.1 vwCl [(ca, .inr (4, [.ref n5, .ref n18, .ref n26, .ref n34])), (n5, .inr (3, [.ref uD.1, .ref uD.2.1, .ref uD.2.2])), (uD.1, .inl (E.2.1 0, 16, .inl (fun _ => 0))), (uD.2.1, .inl (E.2.1 0, 16, .inl (fun _ => 0))), (uD.2.2, .inl (E.2.1 0, 8, .inl (fun _ => 0))), (n18, .inl (E.2.1 0, 16, .inl (fun _ => 0))), (n26, .inl (E.2.1 0, 8, .inl (fun _ => 0))), (n34, .inl (E.2.1 0, 8, .inl (fun _ => 0)))] H := hP
  have hD : va_D A [(ca, .inr (4, [.ref n5, .ref n18, .ref n26, .ref n34])), (n5, .inr (3, [.ref uD.1, .ref uD.2.1, .ref uD.2.2])), (uD.1, .inl (E.2.1 0, 16, .inl (fun _ => 0))), (uD.2.1, .inl (E.2.1 0, 16, .inl (fun _ => 0))), (uD.2.2, .inl (E.2.1 0, 8, .inl (fun _ => 0))), (n18, .inl (E.2.1 0, 16, .inl (fun _ => 0))), (n26, .inl (E.2.1 0, 8, .inl (fun _ => 0))), (n34, .inl (E.2.1 0, 8, .inl (fun _ => 0)))] := hD
  exact hret _ ls _ _ (n5, uD, n18, n26, n34) d_Ca_init_39 trivial (hP.sub [0, 1, 2, 3, 4, 5, 6, 7] rfl) (hD.sub [0, 1, 2, 3, 4, 5, 6, 7] rfl rfl) hS

