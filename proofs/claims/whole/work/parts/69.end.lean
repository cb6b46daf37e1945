def y_0 : rS := ((0, 0, 0, 0, 0, 0, 0, fun _ => 0, fun _ => 0), 0, fun _ => 0)
theorem okY_0 : okY y_0 := ⟨⟨⟨by show 0 ≤ 8; decide, by show 0 ≤ 9999; decide, by show 0 ≤ 200; decide, by show 0 ≤ 160; decide, rfl, by show 0 ≤ 16; decide, fun q => absurd q (Nat.lt_irrefl 0), fun _ => (by decide : (0 : Nat) < 256), fun _ => rfl⟩, fun q => absurd q (Nat.lt_irrefl 0), fun i hi => gv_is0.mpr (fun _ _ => rfl), fun _ => (by decide : (0 : Nat) < 65536)⟩, fun _ _ => rfl⟩
theorem lwI_0 {fh fM fb fg ff : Nat → Int32} {nb hm : Nat → Nat} (h : ∀ j, j < 129 → fh j = -1) : lwI false false false x_0 y_0 0 (fun _ => 0) nb (-1) (nI 0) fb fg ff (fun _ => 0) hm fh fM :=
  ⟨okX_0, okY_0, okP_0, okB_0, rfl, rfl, fun q => absurd q (by decide), fun _ => rfl, ⟨h, fun _ => Nat.zero_le _⟩, fun q => absurd q (by decide), fun _ _ => rfl⟩

set_option maxHeartbeats 4000000 in
set_option maxRecDepth 100000 in
theorem law_body {p : Program} {e : Env} {s : State} {m : MethodId} {args : Array Value} {below : List Frame} {meth : Method} {c : Code} (l : Launch) (E : kE) (A : Nat → Prop) (Q : State → Prop) {b L : Nat} {xs : Nat → Int32} (hL : L ≤ 2560) (hx : p.tables.exec = Jvm.exec) (hb : c.code = code) (hts : ∀ w ∈ kT, w.before args s = true) (hown : s.vm.findClass "WideStackLaw" = some m.cls) (hml : c.maxLocals = 4) (hK : va_K E.1 vwCl (kY E) s) (hG : kG E A s) (hA : ∀ q : Nat, s.heap.size ≤ q → A q) (hX : va_X b L xs s s.heap) (hbl : b < s.heap.size) (hbA : ¬ A b) (hret : ∀ (H : Heap) (locs : List Loc) (ls : Array Slot), va_S A s.heap H locs → W p l e room_1 s m args below meth c H locs 49 1936 Q (F0 m 430 ls [.int (nI 1)])) (hP : va_P E.1 vwCl [] s.heap) (hD : va_D A []) (hS : va_S A s.heap s.heap []) (ls : Array Slot) (hl : lv_has ls 4 [(0, .ref b)]) : W p l e room_1 s m args below meth c s.heap [] 0 0 Q (F0 m 0 ls []) := by
  refine va_new (ci := 7) (fs := [.null, .null, .null]) (C := "WideStack") (T := T_X) (N := 3) hx hb hts in_X ty_X tyok_X hown (hts _ t_76) (hts _ t_77) (hts _ t_62) hK hP hD hS hA rfl (fun j hj => by (rcases (by omega : j = 0 ∨ j = 1 ∨ j = 2) with rfl | rfl | rfl) <;> rfl) (Nat.le_of_ble_eq_true rfl) (Nat.le_of_ble_eq_true rfl) d_L_law_0 (fun n0 H hP hD hS => ?_)
  have hP : va_P E.1 vwCl [(n0, .inr (7, [.null, .null, .null]))] H := hP
  have hD : va_D A [(n0, .inr (7, [.null, .null, .null]))] := hD
  refine lv_dup hx hb d_L_law_3 rfl ?_
  refine k_II (As := []) (rest := [.ref n0]) (wr := []) ⟨hx, hb, hml, hown, hts⟩ (c_n_X l E n0) ⟨callB_of 0 hts (kW_good t_80) rfl rfl rfl (hts _ t_62) (hts _ t_78) (by decide +kernel) ⟨Nat.le_of_ble_eq_true rfl, Nat.le_of_ble_eq_true rfl⟩, rfl, hts _ t_79⟩ hK hG hA hP hD hS [0] [] rfl rfl rfl (by decide) (by decide) rfl hl.1 rfl (Nat.le_of_ble_eq_true rfl) d_L_law_4 ⟨Nat.le_of_ble_eq_true rfl, Nat.le_of_ble_eq_true rfl⟩ (fun uX H locs huX hP hD hS => ?_)
  have hP : va_P E.1 vwCl ([] ++ cW E (adX n0 uX.1) uX.2.1 false uX.2.2 (fun _ => 0) (fun _ => 0) x_0 0 (-1) (nI 0) (fun _ => 0) (fun _ => 0) (fun _ => 0)) H := hP
  have hD : va_D A ([] ++ cW E (adX n0 uX.1) uX.2.1 false uX.2.2 (fun _ => 0) (fun _ => 0) x_0 0 (-1) (nI 0) (fun _ => 0) (fun _ => 0) (fun _ => 0)) := hD
  refine lv_astore_n (lv' := [(1, .ref n0), (0, .ref b)]) hx hb d_L_law_7 rfl hl (by decide) rfl (fun ls hl => ?_)
  refine va_new (ci := 8) (fs := [.int (nI 0), .null, .int (kb false), .int (nI 0), .int (nI 0), .int (nI 0), .int (nI 0), .int (nI 0), .int (nI 0), .int (nI 0), .null, .null, .null, .null, .int (kb false)]) (C := "WideStackModel") (T := T_M) (N := 15) hx hb hts in_M ty_M tyok_M hown (hts _ t_741) (hts _ t_742) (hts _ t_71) hK hP hD hS hA rfl (fun j hj => by (rcases (by omega : j = 0 ∨ j = 1 ∨ j = 2 ∨ j = 3 ∨ j = 4 ∨ j = 5 ∨ j = 6 ∨ j = 7 ∨ j = 8 ∨ j = 9 ∨ j = 10 ∨ j = 11 ∨ j = 12 ∨ j = 13 ∨ j = 14) with rfl | rfl | rfl | rfl | rfl | rfl | rfl | rfl | rfl | rfl | rfl | rfl | rfl | rfl | rfl) <;> rfl) (Nat.le_of_ble_eq_true rfl) (Nat.le_of_ble_eq_true rfl) d_L_law_8 (fun n8 H hP hD hS => ?_)
  have hP := va_P.swap hP
  have hD := va_D.swap hD
  have hP : va_P E.1 vwCl ([(n8, .inr (8, [.int (nI 0), .null, .int (kb false), .int (nI 0), .int (nI 0), .int (nI 0), .int (nI 0), .int (nI 0), .int (nI 0), .int (nI 0), .null, .null, .null, .null, .int (kb false)]))] ++ cW E (adX n0 uX.1) uX.2.1 false uX.2.2 (fun _ => 0) (fun _ => 0) x_0 0 (-1) (nI 0) (fun _ => 0) (fun _ => 0) (fun _ => 0)) H := hP
  have hD : va_D A ([(n8, .inr (8, [.int (nI 0), .null, .int (kb false), .int (nI 0), .int (nI 0), .int (nI 0), .int (nI 0), .int (nI 0), .int (nI 0), .int (nI 0), .null, .null, .null, .null, .int (kb false)]))] ++ cW E (adX n0 uX.1) uX.2.1 false uX.2.2 (fun _ => 0) (fun _ => 0) x_0 0 (-1) (nI 0) (fun _ => 0) (fun _ => 0) (fun _ => 0)) := hD
  refine lv_dup hx hb d_L_law_11 rfl ?_
  refine k_II (As := []) (rest := [.ref n8]) (wr := ([] ++ cW E (adX n0 uX.1) uX.2.1 false uX.2.2 (fun _ => 0) (fun _ => 0) x_0 0 (-1) (nI 0) (fun _ => 0) (fun _ => 0) (fun _ => 0))) ⟨hx, hb, hml, hown, hts⟩ (c_n_M l E n8) ⟨callB_of 0 hts (kW_good t_745) rfl rfl rfl (hts _ t_71) (hts _ t_743) (by decide +kernel) ⟨Nat.le_of_ble_eq_true rfl, Nat.le_of_ble_eq_true rfl⟩, rfl, hts _ t_744⟩ hK hG hA hP hD hS [0] [1, 2, 3, 4, 5, 6, 7, 8, 9, 10, 11, 12, 13, 14, 15, 16, 17, 18, 19, 20, 21, 22, 23, 24, 25, 26, 27, 28, 29, 30, 31, 32, 33, 34, 35, 36, 37, 38, 39, 40, 41, 42, 43] rfl rfl rfl (by decide) (by decide) rfl hl.1 rfl (Nat.le_of_ble_eq_true rfl) d_L_law_12 ⟨Nat.le_of_ble_eq_true rfl, Nat.le_of_ble_eq_true rfl⟩ (fun uM H locs huM hP hD hS => ?_)
  have hP := va_P.swap hP
  have hD := va_D.swap hD
  have hP : va_P E.1 vwCl ([(n8, .inr (8, [.int (nI 0), .ref (uM 0), .int (kb false), .int (nI 0), .int (nI 0), .int (nI 0), .int (nI 0), .int (nI 0), .int (nI 0), .int (nI 0), .ref (uM 1), .ref (uM 2), .ref (uM 3), .ref (uM 4), .int (kb false)])), ((uM 0), .inl (E.2.1 0, 96, .inl (fun _ => 0))), ((uM 1), .inl (E.2.1 0, 160, .inl (fun _ => 0))), ((uM 2), .inl (E.2.1 0, 370, .inl (fun _ => 0))), ((uM 3), .inl (E.2.1 0, 144, .inl (fun _ => 0))), ((uM 4), .inl (E.2.1 1, 144, .inl (fun _ => 0)))] ++ cW E (adX n0 uX.1) uX.2.1 false uX.2.2 (fun _ => 0) (fun _ => 0) x_0 0 (-1) (nI 0) (fun _ => 0) (fun _ => 0) (fun _ => 0)) H := hP
  have hD : va_D A ([(n8, .inr (8, [.int (nI 0), .ref (uM 0), .int (kb false), .int (nI 0), .int (nI 0), .int (nI 0), .int (nI 0), .int (nI 0), .int (nI 0), .int (nI 0), .ref (uM 1), .ref (uM 2), .ref (uM 3), .ref (uM 4), .int (kb false)])), ((uM 0), .inl (E.2.1 0, 96, .inl (fun _ => 0))), ((uM 1), .inl (E.2.1 0, 160, .inl (fun _ => 0))), ((uM 2), .inl (E.2.1 0, 370, .inl (fun _ => 0))), ((uM 3), .inl (E.2.1 0, 144, .inl (fun _ => 0))), ((uM 4), .inl (E.2.1 1, 144, .inl (fun _ => 0)))] ++ cW E (adX n0 uX.1) uX.2.1 false uX.2.2 (fun _ => 0) (fun _ => 0) x_0 0 (-1) (nI 0) (fun _ => 0) (fun _ => 0) (fun _ => 0)) := hD
  refine lv_astore_n (lv' := [(2, .ref n8), (1, .ref n0), (0, .ref b)]) hx hb d_L_law_15 rfl hl (by decide) rfl (fun ls hl => ?_)
  refine lv_iconst (v := nI 0) hx hb d_L_law_16 (by decide) ?_
  refine lv_istore_n (lv' := [(3, .int (nI 0)), (2, .ref n8), (1, .ref n0), (0, .ref b)]) hx hb d_L_law_17 rfl hl (by decide) rfl (fun ls hl => ?_)
  exact law_loop l E A Q hL hx hb hts hown hml hK hG hA hX hbl hbA hret n8 (uM 0) (uM 1) (uM 2) (uM 3) (uM 4) (adX n0 uX.1) uX.2.1 L 0 false false false uX.2.2 (fun _ => 0) (fun _ => 0) x_0 0 (-1) (nI 0) (fun _ => 0) (fun _ => 0) (fun _ => 0) (fun _ => 0) (fun _ => 0) y_0 (fun _ => 0) (fun _ => 0) (fun _ => 0) (fun _ => 0) _ _ ls (by omega) ⟨lwI_0 huX, Nat.zero_le L⟩ (lv_sub hl [0, 3, 2, 1] rfl) hP hD hS

/-! THE CLAIM OUT OF ONE WALK OF THE LAW'S BODY. Your part is whole_start (and what it stands on); all else here is the same for every law, but numbers. -/
def R_law : String := "WideStackLaw"
def lw_P (b : Addr) (xs : List Int32) (args : Array Value) (s : State) : Prop := args = #[.ref b] ∧ s.IntsAt b xs ∧ xs.length ≤ 2560 ∧ (Jvm.Cond.and given_1 narrow_1).before args s = true
def lw_Q (_ : Array Value) (s : State) (o : Outcome) (t : State) : Prop := o = .returned (some (.int 1)) ∧ Framed s o t [] 600000 7302250
def lw_Z (below : List Frame) (a : Array Value) (s : State) : State → Prop := fun t => ∃ o, t.status = .running ∧ Ended t below o ∧ lw_Q a s o t
/-- the law's own end, with 1 on the stack, nothing written that was there before, its room as the claim has it -/
theorem lw_ret {p : Program} {l : Launch} {e : Env} {s : State} {m : MethodId} {below : List Frame} {meth : Method} {c : Code} {b : Nat} (hx : p.tables.exec = Jvm.exec) (hb : c.code = code) (hr : meth.sig.returnType = ret) (hlocks : meth.locks = false) {pc : Nat} {H : Heap} {ls : Array Slot} (hdg : decode code pc = .ok (.ireturn, 1)) : W p l e room_1 s m #[Value.ref b] below meth c H [] 600000 7302250 (lw_Z below #[Value.ref b] s) (F0 m pc ls [.int 1]) := by
  intro T hT X
  obtain ⟨fs, hret, hrun, hended, hW, hframe⟩ := X.leave (v := some (.int 1)) (hlocks := hlocks) (fun h => by rw [hr] at h; cases h)
  have hmeth' : T.vm.method? m = some meth := X.method'
  refine ⟨T.setFrames fs, ?_, .returned (some (.int 1)), hrun, hended, rfl, ⟨_, rfl⟩, hW, hframe⟩
  jvm_step X.here [X.here.top, hx, hb, hdg, hmeth', hr, ret, narrow_b1]
  (try refine ⟨rfl, ?_⟩); (try refine ⟨rfl, ?_⟩)
  first | (intro acts; rw [hret _ acts rfl rfl rfl]) | rw [hret _ _ rfl rfl rfl]
  exact Steps.refl _
/-- what holds at the law's entry: the machine, the code, the tables' words (any of lw_tbl by 'hts w (by decide +kernel)'), the script of L ints xs at the cell b, what the Statement gives of the start (any of its parts by flat_of_before) -/
def lw_At (p : Program) (s : State) (m : MethodId) (meth : Method) (c : Code) (b L : Nat) (xs : Nat → Int32) : Prop :=
  p.tables.exec = Jvm.exec ∧ c.code = code ∧ meth.sig.returnType = ret ∧ c.maxLocals = 4 ∧ s.vm.findClass R_law = some m.cls ∧ (∀ w ∈ lw_tbl, w.before #[Value.ref b] s = true) ∧ va_X b L xs s s.heap ∧ b < s.heap.size ∧ meth.locks = false ∧ (Jvm.Cond.and given_1 narrow_1).before #[Value.ref b] s = true
-- ===== YOUR PART BEGINS =====
/-- YOUR PART: from the entry, for every script of at most 2560 ints, the law comes to its end with true -/
theorem whole_start {p : Program} {e : Env} {s : State} {m : MethodId} {below : List Frame} {meth : Method} {c : Code} (l : Launch) {b L : Nat} {xs : Nat → Int32} (hL : L ≤ 2560) (C0 : lw_At p s m meth c b L xs) : W p l e room_1 s m #[Value.ref b] below meth c s.heap [] 0 0 (lw_Z below #[Value.ref b] s) (entryFrame m ([Value.ref b] : List Value).toArray 4) := by
  obtain ⟨hx, hb, hr, hml, hown, hts0, hX, hbl, hlocks, hgv⟩ := C0
  obtain ⟨E, hK, hG⟩ := E_start hts0 hgv
  have hl := lv_entry [Value.ref b] (n := 4) (Nat.le_of_ble_eq_true rfl)
  rw [lg_entry_eq]
  exact law_body l E (fun q => s.heap.size ≤ q) _ hL hx hb (fun w hw => hts0 w (kT_in hw)) hown hml hK hG (fun q h => h) hX hbl (Nat.not_le.mpr hbl) (fun H locs ls hS => va_forget (fun q hq => hS.2.2 q hq) (W.widen (k := 600000) (n := 7302250) (by decide) (by decide) (lw_ret hx hb hr hlocks d_L_law_430))) (fun k q h => by simp at h) ⟨fun i j x y h => by simp at h, fun k q h => by simp at h⟩ va_S.rf _ hl
-- ===== YOUR PART ENDS =====
set_option maxHeartbeats 4000000 in
theorem lw_walk (l : Launch) (b : Addr) (xs : List Int32) : MetFree l x (headSpec (Jvm.Cond.code x code maxLocals ret :: tables_1) room_1) (lw_P b xs) (fun _ _ _ _ _ => True) lw_Q := by
  refine MetFree.of_bodyS (code := code) (maxLocals := maxLocals) (ret := ret) (by decide) ?_ ?_
  · intro args s m h hn
    obtain ⟨meth, c, h1, h2, h3, h4, h5, h6, -, -⟩ := Cond.code_spec hn (atoms_spec (ws := Jvm.Cond.code x code maxLocals ret :: tables_1) h _ List.mem_cons_self)
    exact ⟨meth, c, h1, h2, h3, h4, h5, h6⟩
  · intro p e s m args below meth c s₁ B hml0 hP _
    obtain ⟨rfl, hx, hbd, hgv⟩ := hP
    obtain ⟨scr, harrAt, hlist, hof, hsmall⟩ := hx
    obtain ⟨hcb, hkn, -, -⟩ := State.arrayAt?_spec harrAt
    have hown : s.vm.findClass R_law = some m.cls := findClass_of_methodNamed B.named
    have hts0 : ∀ c ∈ (Jvm.Cond.code x code maxLocals ret :: tables_1), c.before #[Value.ref b] s = true := atoms_spec (ws := Jvm.Cond.code x code maxLocals ret :: tables_1) B.pre
    have hts : ∀ w ∈ lw_tbl, w.before #[Value.ref b] s = true := k2_hts_sels lw_privs (fun w hw => hts0 w (List.mem_cons_of_mem _ hw)) lw_privs_ok
    have hml : c.maxLocals = 4 := B.maxLocals_eq (hts0 _ List.mem_cons_self)
    have X₀ : Stand p l e room_1 s m #[Value.ref b] below meth c s₁ [] 0 0 := Stand.of_body B
    have hh0 : s₁.heap = s.heap := by rw [B.state]; rfl
    have hsz : scr.slots.size = xs.length := by rw [← Array.length_toList, hlist, List.length_map]
    have hval : ∀ j : Nat, j < xs.length → scr.slots[j]? = some (.int (xs.getD j 0)) := fun j hj => by
      rw [← Array.getElem?_toList, hlist]
      simp [hj]
    have hbl : b < s.heap.size := (Array.getElem?_eq_some_iff.mp hcb).1
    have hX : va_X b xs.length (fun j => xs.getD j 0) s s.heap := ⟨scr, hcb, hof, hkn, hsz, hval⟩
    have K : W p l e room_1 s m #[Value.ref b] below meth c s₁.heap [] 0 0 (lw_Z below #[Value.ref b] s) (entryFrame m ([Value.ref b] : List Value).toArray 4) := by
      rw [hh0]
      exact whole_start l hbd ⟨B.exec, B.bytes, B.returns, hml, hown, hts, hX, hbl, B.notSynchronized, hgv⟩
    obtain ⟨t, a1, o, b1, b2, b3⟩ := K s₁ rfl X₀
    exact ⟨t, o, a1, b1, b2, b3⟩
theorem lw_pre_spec {args : Array Value} {s : State} (h : (Jvm.Cond.and given_1 narrow_1).before args s = true) (hr : rest_1_c.before args s = true) : ∃ (b : Addr) (xs : List Int32), lw_P b xs args s := by
  have hs := flat_of_before _ h
  have hq := flat_of_before _ hr
  have hc : (Cond.count 1).before args s = true := hs _ (by decide +kernel)
  have harr : (Cond.arrayOf (.arg 0) .int).before args s = true := hs _ (by decide +kernel)
  have hle : (Cond.le (.length (.arg 0)) (.int 2560)).before args s = true := hs _ (by decide +kernel)
  have hlen : (Cond.isInt (.length (.arg 0))).before args s = true := hq _ (by decide +kernel)
  have hall : (Cond.all (.arg 0) (.isInt (.elem (.arg 0) (.index 0)))).before args s = true := hq _ (by decide +kernel)
  obtain ⟨b, xs, hb, hx⟩ := State.ints_of_pre rfl harr hlen hall
  have hsm : xs.length < 2 ^ 31 := hx.choose_spec.2.2.2
  have hev : (Term.length (.arg 0)).eval args s none [] s = some (.int xs.length.toInt32) := hx.length_eval hb
  have hv := Cond.le_ints hev (show (Term.int 2560).eval args s none [] s = some (.int 2560) from rfl)
  have hd : xs.length.toInt32 ≤ 2560 := by
    simpa [Cond.before, Cond.holds, hv] using hle
  have hN : xs.length ≤ 2560 := (Int32.ofNat_le_ofNat hsm (by decide)).mp (show Int32.ofNat xs.length ≤ Int32.ofNat 2560 from hd)
  exact ⟨b, xs, Cond.one_arg hc (show args[0]? = some (.ref b) from hb), hx, hN, h⟩
theorem lw_comes (l : Launch) : Comes l x (Jvm.Cond.code x code maxLocals ret :: tables_1) room_1 (fun tb e args s => Calls_1 tb e args s ∧ rest_1 tb e args s ∧ Pre_1 tb e args s)
    (fun _ _ args s o t => lw_Q args s o t) := by
  intro p e ha hc hk s m args below hf hfit hheap happ hpre
  obtain ⟨b, xs, hP⟩ := lw_pre_spec hpre.2.2 hpre.2.1
  obtain ⟨k, o, h1, h2, h3, hQ⟩ := lw_walk l b xs p e ha hc hk s m args below hf ((Spec.applies_iff_loose hf).mp happ).1 hP trivial
  exact ⟨k, o, h1, h2, h3, hQ⟩
theorem lw_frame {s t : State} {o : Outcome} {args : Array Value} (h : Framed s o t [] 600000 7302250) :
    Framed s o t (fieldLocs frame_1_writes args s ++ arrayLocs frame_1_arrays args s ++ staticLocs frame_1_statics s) 600000 7302250 := h
theorem lw_limb (L : Cond) (hL : ∀ (args : Array Value) (s t : State), L.after args s (.returned (some (.int 1))) t = true) :
    ArmFor flags0 classFile x code maxLocals ret World_1 tables_1 room_1 Calls_1 rest_1 Pre_1
      (fun tb e a s o t => postC L tb e a s o t ∧ Framed s o t (fieldLocs frame_1_writes a s ++ arrayLocs frame_1_arrays a s ++ staticLocs frame_1_statics s) 600000 7302250) := by
  intro l _ _ _ p e ha hc hk s m args below hf hfit hheap happ hpre
  obtain ⟨k, o, h1, h2, h3, rfl, hF⟩ := lw_comes l p e ha hc hk s m args below hf hfit hheap happ hpre
  exact ⟨k, _, h1, h2, h3, hL args s _, lw_frame hF⟩
theorem i_vc : Claimed_1_1 ∧ Claimed_1_2 := ⟨lw_limb limb_1_1 (fun args s t => by simp [limb_1_1, Cond.after, Cond.holds, Cond.value]), lw_limb limb_1_2 (fun args s t => Cond.after_iff.mpr (by
  first | (rw [show limb_1_2 = Cond.eq .result (.int 1) from rfl, Cond.eq_ints (x := 1) (y := 1) rfl rfl]; simp; done) | (simp [limb_1_2, Cond.value, Term.eval]; done)))⟩

