abbrev y_JA_fill : MethodName := ⟨"java/util/Arrays", "fill", "([II)V"⟩
theorem d_JA_fill_0 : decode prog_15_method_103_code 0 = .ok (.iconst 0, 1) := by decide +kernel
theorem d_JA_fill_1 : decode prog_15_method_103_code 1 = .ok (.istore_n 2, 1) := by decide +kernel
theorem d_JA_fill_2 : decode prog_15_method_103_code 2 = .ok (.aload_n 0, 1) := by decide +kernel
theorem d_JA_fill_3 : decode prog_15_method_103_code 3 = .ok (.arraylength, 1) := by decide +kernel
theorem d_JA_fill_4 : decode prog_15_method_103_code 4 = .ok (.istore_n 3, 1) := by decide +kernel
theorem d_JA_fill_5 : decode prog_15_method_103_code 5 = .ok (.iload_n 2, 1) := by decide +kernel
theorem d_JA_fill_6 : decode prog_15_method_103_code 6 = .ok (.iload_n 3, 1) := by decide +kernel
theorem d_JA_fill_7 : decode prog_15_method_103_code 7 = .ok (.if_icmp .ge 13, 3) := by decide +kernel
theorem d_JA_fill_10 : decode prog_15_method_103_code 10 = .ok (.aload_n 0, 1) := by decide +kernel
theorem d_JA_fill_11 : decode prog_15_method_103_code 11 = .ok (.iload_n 2, 1) := by decide +kernel
theorem d_JA_fill_12 : decode prog_15_method_103_code 12 = .ok (.iload_n 1, 1) := by decide +kernel
theorem d_JA_fill_13 : decode prog_15_method_103_code 13 = .ok (.iastore, 1) := by decide +kernel
theorem d_JA_fill_14 : decode prog_15_method_103_code 14 = .ok (.iinc 2 1, 3) := by decide +kernel
theorem d_JA_fill_17 : decode prog_15_method_103_code 17 = .ok (.goto (-12), 3) := by decide +kernel
theorem d_JA_fill_20 : decode prog_15_method_103_code 20 = .ok (.return_, 1) := by decide +kernel
def rm_c_fill : Room := { frames := 0, cells := 0, slots := 0, locals := 0 }
set_option maxHeartbeats 4000000 in
set_option maxRecDepth 100000 in
theorem c_fill (l : Launch) (E : kE) (a k : Nat) (f : Nat → Int32) (v : Int32) (hk : k < 100000) : Kv l y_JA_fill (kW y_JA_fill prog_15_method_103_code 4 (none)) rm_c_fill E [.ref a, .int v] [(a, .inl (E.2.1 0, k, .inl f))] (S := Nat → Int32) (fun u => ∀ j, j < k → u j = v) (fun u => [(a, .inl (E.2.1 0, k, .inl u))]) := by
  refine Kv.ofW (cc := prog_15_method_103_code) (maxL := 4) (by decide) (Nat.le_of_ble_eq_true rfl) ?_
  intro p e s m args below meth c A ls Q hx hb hts hown hml hK hG hA hP hD hS hl hret
  have hl : lv_has ls 4 [(0, .ref a), (1, .int v)] := hl
  refine lv_iconst (v := nI 0) hx hb d_JA_fill_0 (by decide) ?_
  refine lv_istore_n (lv' := [(2, .int (nI 0)), (0, .ref a), (1, .int v)]) hx hb d_JA_fill_1 rfl hl (by decide) rfl (fun ls hl => ?_)
  refine lv_aload_n hx hb d_JA_fill_2 rfl (lv_at hl 1 rfl) ?_
  refine va_alen (v := nI k) hx hb hK hP 0 0 rfl rfl rfl d_JA_fill_3 ?_
  refine lv_istore_n (lv' := [(3, .int (nI k)), (2, .int (nI 0)), (0, .ref a), (1, .int v)]) hx hb d_JA_fill_4 rfl hl (by decide) rfl (fun ls hl => ?_)
  have key5 : ∀ (n : Nat) (i : Nat) (t : Nat → Int32) (H : Heap) (locs : List Loc) (ls : Array Slot), i + n = k → (∀ j, j < i → t j = v) → lv_has ls 4 [(2, .int (nI i)), (3, .int (nI k)), (0, .ref a), (1, .int v)] → va_P E.1 vwCl [(a, .inl (E.2.1 0, k, .inl t))] H → va_D A [(a, .inl (E.2.1 0, k, .inl t))] → va_S A s.heap H locs → W p l e rm_c_fill s m args below meth c H locs 0 0 Q (F0 m 5 ls []) := by
    intro n
    induction n using Nat.strongRecOn with
    | ind n ih =>
      intro i t H locs ls hn hI hl hP hD hS
      refine lv_iload_n hx hb d_JA_fill_5 rfl (lv_at hl 0 rfl) ?_
      refine lv_iload_n hx hb d_JA_fill_6 rfl (lv_at hl 1 rfl) ?_
      refine kn_ge (tgt := 20) hx hb (by omega) (by omega) d_JA_fill_7 (by decide) (fun h7 => ?_) (fun h7 => ?_)
      · exact hret _ ls _ _ t d_JA_fill_20 (fun j hj => hI j (by omega)) hP hS
      · refine lv_aload_n hx hb d_JA_fill_10 rfl (lv_at hl 2 rfl) ?_
        refine lv_iload_n hx hb d_JA_fill_11 rfl (lv_at hl 0 rfl) ?_
        refine lv_iload_n hx hb d_JA_fill_12 rfl (lv_at hl 3 rfl) ?_
        refine k_iast hx hb hK hP hD hS 0 rfl (i := i) (by omega) (by omega) d_JA_fill_13 (fun H locs hP hD hS => ?_)
        have hP : va_P E.1 vwCl [(a, .inl (E.2.1 0, k, .inl (upd t i v)))] H := hP
        have hD : va_D A [(a, .inl (E.2.1 0, k, .inl (upd t i v)))] := hD
        refine lv_iinc (k := 0) (v := nI (i + 1)) (lv' := [(2, .int (nI (i + 1))), (3, .int (nI k)), (0, .ref a), (1, .int v)]) hx hb d_JA_fill_14 hl rfl (k_inc _) (by decide) rfl (fun ls hl => ?_)
        refine lv_goto (tgt := 5) hx hb d_JA_fill_17 (by decide) ?_
        exact ih (n - 1) (by omega) (i + 1) (upd t i v) _ _ ls (by omega) (fun j hj => if q : j = i then by subst q; exact pk_us else by rw [pk_un q]; exact hI j (by omega)) (lv_sub hl [0, 1, 2, 3] rfl) hP hD hS
  exact key5 k 0 f _ _ ls (by omega) (fun j hj => absurd hj (Nat.not_lt_zero j)) (lv_sub hl [1, 0, 2, 3] rfl) hP hD hS

abbrev y_Wo_makeZero : MethodName := ⟨"WideStack$Words", "makeZero", "([I)V"⟩
theorem d_Wo_makeZero_0 : decode prog_10_method_2_code 0 = .ok (.aload_n 0, 1) := by decide +kernel
theorem d_Wo_makeZero_1 : decode prog_10_method_2_code 1 = .ok (.iconst 0, 1) := by decide +kernel
theorem d_Wo_makeZero_2 : decode prog_10_method_2_code 2 = .ok (.invokestatic 7, 3) := by decide +kernel
theorem d_Wo_makeZero_5 : decode prog_10_method_2_code 5 = .ok (.return_, 1) := by decide +kernel
def rm_c_W_makeZero : Room := { frames := 1, cells := 0, slots := 0, locals := 23 }
set_option maxHeartbeats 4000000 in
set_option maxRecDepth 100000 in
theorem c_W_makeZero (l : Launch) (E : kE) (a : Nat) (f : Nat → Int32) : Kv l y_Wo_makeZero (kW y_Wo_makeZero prog_10_method_2_code 1 (none)) rm_c_W_makeZero E [.ref a] [(a, .inl (E.2.1 0, 8, .inl f))] (S := Nat → Int32) (fun u => ∀ j, j < 8 → u j = 0) (fun u => [(a, .inl (E.2.1 0, 8, .inl u))]) := by
  refine Kv.ofW (cc := prog_10_method_2_code) (maxL := 1) (by decide) (Nat.le_of_ble_eq_true rfl) ?_
  intro p e s m args below meth c A ls Q hx hb hts hown hml hK hG hA hP hD hS hl hret
  have hl : lv_has ls 1 [(0, .ref a)] := hl
  refine lv_aload_n hx hb d_Wo_makeZero_0 rfl (lv_at hl 0 rfl) ?_
  refine lv_iconst (v := nI 0) hx hb d_Wo_makeZero_1 (by decide) ?_
  refine k_Sv (As := [.ref a, .int (nI 0)]) (rest := []) ⟨hx, hb, hml, hown, hts⟩ (c_fill l E a 8 f (nI 0) (by decide)) (k_cwS 2 hts t_350 t_233 t_70 t_234 (by decide +kernel) ⟨Nat.le_of_ble_eq_true rfl, Nat.le_of_ble_eq_true rfl⟩) hK hG hA hP hD hS [0] rfl (by decide) (fun _ => rfl) rfl hl.1 rfl (Nat.le_of_ble_eq_true rfl) d_Wo_makeZero_2 ⟨Nat.zero_le _, Nat.zero_le _⟩ (fun u H locs hu hP hD hS => ?_)
  have hP : va_P E.1 vwCl [(a, .inl (E.2.1 0, 8, .inl u))] H := hP
  have hD : va_D A [(a, .inl (E.2.1 0, 8, .inl u))] := hD
  exact hret _ ls _ _ u d_Wo_makeZero_5 (fun j hj => (hu j hj).trans nI_0) hP hS

abbrev y_Wo_isZero : MethodName := ⟨"WideStack$Words", "isZero", "([I)Z"⟩
theorem d_Wo_isZero_0 : decode prog_10_method_6_code 0 = .ok (.iconst 0, 1) := by decide +kernel
theorem d_Wo_isZero_1 : decode prog_10_method_6_code 1 = .ok (.istore_n 1, 1) := by decide +kernel
theorem d_Wo_isZero_2 : decode prog_10_method_6_code 2 = .ok (.iload_n 1, 1) := by decide +kernel
theorem d_Wo_isZero_3 : decode prog_10_method_6_code 3 = .ok (.bipush 8, 2) := by decide +kernel
theorem d_Wo_isZero_5 : decode prog_10_method_6_code 5 = .ok (.if_icmp .ge 17, 3) := by decide +kernel
theorem d_Wo_isZero_8 : decode prog_10_method_6_code 8 = .ok (.aload_n 0, 1) := by decide +kernel
theorem d_Wo_isZero_9 : decode prog_10_method_6_code 9 = .ok (.iload_n 1, 1) := by decide +kernel
theorem d_Wo_isZero_10 : decode prog_10_method_6_code 10 = .ok (.iaload, 1) := by decide +kernel
theorem d_Wo_isZero_11 : decode prog_10_method_6_code 11 = .ok (.ifCond .eq 5, 3) := by decide +kernel
theorem d_Wo_isZero_14 : decode prog_10_method_6_code 14 = .ok (.iconst 0, 1) := by decide +kernel
theorem d_Wo_isZero_15 : decode prog_10_method_6_code 15 = .ok (.ireturn, 1) := by decide +kernel
theorem d_Wo_isZero_16 : decode prog_10_method_6_code 16 = .ok (.iinc 1 1, 3) := by decide +kernel
theorem d_Wo_isZero_19 : decode prog_10_method_6_code 19 = .ok (.goto (-17), 3) := by decide +kernel
theorem d_Wo_isZero_22 : decode prog_10_method_6_code 22 = .ok (.iconst 1, 1) := by decide +kernel
theorem d_Wo_isZero_23 : decode prog_10_method_6_code 23 = .ok (.ireturn, 1) := by decide +kernel
def rm_c_W_isZero : Room := { frames := 0, cells := 0, slots := 0, locals := 0 }
set_option maxHeartbeats 4000000 in
set_option maxRecDepth 100000 in
theorem c_W_isZero (l : Launch) (E : kE) (a : Nat) (f : Nat → Int32) : Kp l y_Wo_isZero (kW y_Wo_isZero prog_10_method_6_code 2 (some .boolean)) rm_c_W_isZero E [.ref a] [(a, .inl (E.2.1 0, 8, .inl f))] (fun r => r = kb (decide (wv f 8 = 0))) := by
  refine Kp.ofZ (cc := prog_10_method_6_code) (maxL := 2) (by decide) (Nat.le_of_ble_eq_true rfl) ?_
  intro p e s m args below meth c A ls Q hx hb hts hown hml hK hG hA hP hD hS hl hret
  have hl : lv_has ls 2 [(0, .ref a)] := hl
  refine lv_iconst (v := nI 0) hx hb d_Wo_isZero_0 (by decide) ?_
  refine lv_istore_n (lv' := [(1, .int (nI 0)), (0, .ref a)]) hx hb d_Wo_isZero_1 rfl hl (by decide) rfl (fun ls hl => ?_)
  have key2 : ∀ (n : Nat) (i : Nat) (ls : Array Slot), i + n = 8 → (∀ j, j < i → f j = 0) → lv_has ls 2 [(1, .int (nI i)), (0, .ref a)] → W p l e rm_c_W_isZero s m args below meth c s.heap [] 0 0 Q (F0 m 2 ls []) := by
    intro n
    induction n using Nat.strongRecOn with
    | ind n ih =>
      intro i ls hn hI hl
      refine lv_iload_n hx hb d_Wo_isZero_2 rfl (lv_at hl 0 rfl) ?_
      refine lv_bipush (v := nI 8) hx hb d_Wo_isZero_3 (by decide) ?_
      refine kn_ge (tgt := 22) hx hb (by omega) (by omega) d_Wo_isZero_5 (by decide) (fun h5 => ?_) (fun h5 => ?_)
      · refine lv_iconst (v := nI 1) hx hb d_Wo_isZero_22 (by decide) ?_
        exact hret _ ls _ d_Wo_isZero_23 (by decide) (by rw [decide_eq_true (wv_is0.mpr (fun j hj => hI j (by omega)))]; rfl)
      · refine lv_aload_n hx hb d_Wo_isZero_8 rfl (lv_at hl 1 rfl) ?_
        refine lv_iload_n hx hb d_Wo_isZero_9 rfl (lv_at hl 0 rfl) ?_
        refine k_iald hx hb hK hP 0 rfl (i := i) (by omega) (by omega) d_Wo_isZero_10 ?_
        refine lv_if_eq (tgt := 16) hx hb d_Wo_isZero_11 (by decide) (fun h11 => ?_) (fun h11 => ?_)
        · refine lv_iinc (k := 0) (v := nI (i + 1)) (lv' := [(1, .int (nI (i + 1))), (0, .ref a)]) hx hb d_Wo_isZero_16 hl rfl (k_inc _) (by decide) rfl (fun ls hl => ?_)
          refine lv_goto (tgt := 2) hx hb d_Wo_isZero_19 (by decide) ?_
          exact ih (n - 1) (by omega) (i + 1) ls (by omega) (fun j hj => if q : j = i then by subst q; assumption else by exact hI j (by omega)) (lv_sub hl [0, 1] rfl)
        · refine lv_iconst (v := nI 0) hx hb d_Wo_isZero_14 (by decide) ?_
          exact hret _ ls _ d_Wo_isZero_15 (by decide) (by rw [decide_eq_false (fun q => by have := wv_is0.mp q i (by omega); contradiction)]; rfl)
  exact key2 8 0 ls (by omega) (fun j hj => absurd hj (Nat.not_lt_zero j)) (lv_sub hl [0, 1] rfl)

abbrev y_Wo_and : MethodName := ⟨"WideStack$Words", "and", "([I[I[I)V"⟩
theorem d_Wo_and_0 : decode prog_10_method_16_code 0 = .ok (.iconst 0, 1) := by decide +kernel
theorem d_Wo_and_1 : decode prog_10_method_16_code 1 = .ok (.istore_n 3, 1) := by decide +kernel
theorem d_Wo_and_2 : decode prog_10_method_16_code 2 = .ok (.iload_n 3, 1) := by decide +kernel
theorem d_Wo_and_3 : decode prog_10_method_16_code 3 = .ok (.bipush 8, 2) := by decide +kernel
theorem d_Wo_and_5 : decode prog_10_method_16_code 5 = .ok (.if_icmp .ge 19, 3) := by decide +kernel
theorem d_Wo_and_8 : decode prog_10_method_16_code 8 = .ok (.aload_n 2, 1) := by decide +kernel
theorem d_Wo_and_9 : decode prog_10_method_16_code 9 = .ok (.iload_n 3, 1) := by decide +kernel
theorem d_Wo_and_10 : decode prog_10_method_16_code 10 = .ok (.aload_n 0, 1) := by decide +kernel
theorem d_Wo_and_11 : decode prog_10_method_16_code 11 = .ok (.iload_n 3, 1) := by decide +kernel
theorem d_Wo_and_12 : decode prog_10_method_16_code 12 = .ok (.iaload, 1) := by decide +kernel
theorem d_Wo_and_13 : decode prog_10_method_16_code 13 = .ok (.aload_n 1, 1) := by decide +kernel
theorem d_Wo_and_14 : decode prog_10_method_16_code 14 = .ok (.iload_n 3, 1) := by decide +kernel
theorem d_Wo_and_15 : decode prog_10_method_16_code 15 = .ok (.iaload, 1) := by decide +kernel
theorem d_Wo_and_16 : decode prog_10_method_16_code 16 = .ok (.iand, 1) := by decide +kernel
theorem d_Wo_and_17 : decode prog_10_method_16_code 17 = .ok (.iastore, 1) := by decide +kernel
theorem d_Wo_and_18 : decode prog_10_method_16_code 18 = .ok (.iinc 3 1, 3) := by decide +kernel
theorem d_Wo_and_21 : decode prog_10_method_16_code 21 = .ok (.goto (-19), 3) := by decide +kernel
theorem d_Wo_and_24 : decode prog_10_method_16_code 24 = .ok (.return_, 1) := by decide +kernel
def rm_c_W_and : Room := { frames := 0, cells := 0, slots := 0, locals := 0 }
set_option maxHeartbeats 4000000 in
set_option maxRecDepth 100000 in
theorem c_W_and (l : Launch) (E : kE) (a b t : Nat) (f x y : Nat → Int32) : Kv l y_Wo_and (kW y_Wo_and prog_10_method_16_code 4 (none)) rm_c_W_and E [.ref a, .ref b, .ref t] [(a, .inl (E.2.1 0, 8, .inl f)), (b, .inl (E.2.1 0, 8, .inl x)), (t, .inl (E.2.1 0, 8, .inl y))] (S := Nat → Int32) (fun u => ∀ j, j < 8 → u j = f j &&& x j) (fun u => [(a, .inl (E.2.1 0, 8, .inl f)), (b, .inl (E.2.1 0, 8, .inl x)), (t, .inl (E.2.1 0, 8, .inl u))]) := by
  refine Kv.ofW (cc := prog_10_method_16_code) (maxL := 4) (by decide) (Nat.le_of_ble_eq_true rfl) ?_
  intro p e s m args below meth c A ls Q hx hb hts hown hml hK hG hA hP hD hS hl hret
  have hl : lv_has ls 4 [(0, .ref a), (1, .ref b), (2, .ref t)] := hl
  refine lv_iconst (v := nI 0) hx hb d_Wo_and_0 (by decide) ?_
  refine lv_istore_n (lv' := [(3, .int (nI 0)), (0, .ref a), (1, .ref b), (2, .ref t)]) hx hb d_Wo_and_1 rfl hl (by decide) rfl (fun ls hl => ?_)
  have key2 : ∀ (n : Nat) (i : Nat) (z : Nat → Int32) (H : Heap) (locs : List Loc) (ls : Array Slot), i + n = 8 → (∀ j, j < i → z j = f j &&& x j) → lv_has ls 4 [(3, .int (nI i)), (0, .ref a), (1, .ref b), (2, .ref t)] → va_P E.1 vwCl [(a, .inl (E.2.1 0, 8, .inl f)), (b, .inl (E.2.1 0, 8, .inl x)), (t, .inl (E.2.1 0, 8, .inl z))] H → va_D A [(a, .inl (E.2.1 0, 8, .inl f)), (b, .inl (E.2.1 0, 8, .inl x)), (t, .inl (E.2.1 0, 8, .inl z))] → va_S A s.heap H locs → W p l e rm_c_W_and s m args below meth c H locs 0 0 Q (F0 m 2 ls []) := by
    intro n
    induction n using Nat.strongRecOn with
    | ind n ih =>
      intro i z H locs ls hn hI hl hP hD hS
      refine lv_iload_n hx hb d_Wo_and_2 rfl (lv_at hl 0 rfl) ?_
      refine lv_bipush (v := nI 8) hx hb d_Wo_and_3 (by decide) ?_
      refine kn_ge (tgt := 24) hx hb (by omega) (by omega) d_Wo_and_5 (by decide) (fun h5 => ?_) (fun h5 => ?_)
      · exact hret _ ls _ _ z d_Wo_and_24 (fun j hj => hI j (by omega)) hP hS
      · refine lv_aload_n hx hb d_Wo_and_8 rfl (lv_at hl 3 rfl) ?_
        refine lv_iload_n hx hb d_Wo_and_9 rfl (lv_at hl 0 rfl) ?_
        refine lv_aload_n hx hb d_Wo_and_10 rfl (lv_at hl 1 rfl) ?_
        refine lv_iload_n hx hb d_Wo_and_11 rfl (lv_at hl 0 rfl) ?_
        refine k_iald hx hb hK hP 0 rfl (i := i) (by omega) (by omega) d_Wo_and_12 ?_
        refine lv_aload_n hx hb d_Wo_and_13 rfl (lv_at hl 2 rfl) ?_
        refine lv_iload_n hx hb d_Wo_and_14 rfl (lv_at hl 0 rfl) ?_
        refine k_iald hx hb hK hP 1 rfl (i := i) (by omega) (by omega) d_Wo_and_15 ?_
        refine lv_iand hx hb d_Wo_and_16 ?_
        refine k_iast hx hb hK hP hD hS 2 rfl (i := i) (by omega) (by omega) d_Wo_and_17 (fun H locs hP hD hS => ?_)
        have hP : va_P E.1 vwCl [(a, .inl (E.2.1 0, 8, .inl f)), (b, .inl (E.2.1 0, 8, .inl x)), (t, .inl (E.2.1 0, 8, .inl (upd z i ((f i) &&& (x i)))))] H := hP
        have hD : va_D A [(a, .inl (E.2.1 0, 8, .inl f)), (b, .inl (E.2.1 0, 8, .inl x)), (t, .inl (E.2.1 0, 8, .inl (upd z i ((f i) &&& (x i)))))] := hD
        refine lv_iinc (k := 0) (v := nI (i + 1)) (lv' := [(3, .int (nI (i + 1))), (0, .ref a), (1, .ref b), (2, .ref t)]) hx hb d_Wo_and_18 hl rfl (k_inc _) (by decide) rfl (fun ls hl => ?_)
        refine lv_goto (tgt := 2) hx hb d_Wo_and_21 (by decide) ?_
        exact ih (n - 1) (by omega) (i + 1) (upd z i (f i &&& x i)) _ _ ls (by omega) (fun j hj => if q : j = i then by subst q; exact pk_us else by rw [pk_un q]; exact hI j (by omega)) (lv_sub hl [0, 1, 2, 3] rfl) hP hD hS
  exact key2 8 0 y _ _ ls (by omega) (fun j hj => absurd hj (Nat.not_lt_zero j)) (lv_sub hl [0, 1, 2, 3] rfl) hP hD hS

abbrev y_Wo_or : MethodName := ⟨"WideStack$Words", "or", "([I[I[I)V"⟩
theorem d_Wo_or_0 : decode prog_10_method_17_code 0 = .ok (.iconst 0, 1) := by decide +kernel
theorem d_Wo_or_1 : decode prog_10_method_17_code 1 = .ok (.istore_n 3, 1) := by decide +kernel
theorem d_Wo_or_2 : decode prog_10_method_17_code 2 = .ok (.iload_n 3, 1) := by decide +kernel
theorem d_Wo_or_3 : decode prog_10_method_17_code 3 = .ok (.bipush 8, 2) := by decide +kernel
theorem d_Wo_or_5 : decode prog_10_method_17_code 5 = .ok (.if_icmp .ge 19, 3) := by decide +kernel
theorem d_Wo_or_8 : decode prog_10_method_17_code 8 = .ok (.aload_n 2, 1) := by decide +kernel
theorem d_Wo_or_9 : decode prog_10_method_17_code 9 = .ok (.iload_n 3, 1) := by decide +kernel
theorem d_Wo_or_10 : decode prog_10_method_17_code 10 = .ok (.aload_n 0, 1) := by decide +kernel
theorem d_Wo_or_11 : decode prog_10_method_17_code 11 = .ok (.iload_n 3, 1) := by decide +kernel
theorem d_Wo_or_12 : decode prog_10_method_17_code 12 = .ok (.iaload, 1) := by decide +kernel
theorem d_Wo_or_13 : decode prog_10_method_17_code 13 = .ok (.aload_n 1, 1) := by decide +kernel
theorem d_Wo_or_14 : decode prog_10_method_17_code 14 = .ok (.iload_n 3, 1) := by decide +kernel
theorem d_Wo_or_15 : decode prog_10_method_17_code 15 = .ok (.iaload, 1) := by decide +kernel
theorem d_Wo_or_16 : decode prog_10_method_17_code 16 = .ok (.ior, 1) := by decide +kernel
theorem d_Wo_or_17 : decode prog_10_method_17_code 17 = .ok (.iastore, 1) := by decide +kernel
theorem d_Wo_or_18 : decode prog_10_method_17_code 18 = .ok (.iinc 3 1, 3) := by decide +kernel
theorem d_Wo_or_21 : decode prog_10_method_17_code 21 = .ok (.goto (-19), 3) := by decide +kernel
theorem d_Wo_or_24 : decode prog_10_method_17_code 24 = .ok (.return_, 1) := by decide +kernel
def rm_c_W_or : Room := { frames := 0, cells := 0, slots := 0, locals := 0 }
set_option maxHeartbeats 4000000 in
set_option maxRecDepth 100000 in
theorem c_W_or (l : Launch) (E : kE) (a b t : Nat) (f x y : Nat → Int32) : Kv l y_Wo_or (kW y_Wo_or prog_10_method_17_code 4 (none)) rm_c_W_or E [.ref a, .ref b, .ref t] [(a, .inl (E.2.1 0, 8, .inl f)), (b, .inl (E.2.1 0, 8, .inl x)), (t, .inl (E.2.1 0, 8, .inl y))] (S := Nat → Int32) (fun u => ∀ j, j < 8 → u j = f j ||| x j) (fun u => [(a, .inl (E.2.1 0, 8, .inl f)), (b, .inl (E.2.1 0, 8, .inl x)), (t, .inl (E.2.1 0, 8, .inl u))]) := by
  refine Kv.ofW (cc := prog_10_method_17_code) (maxL := 4) (by decide) (Nat.le_of_ble_eq_true rfl) ?_
  intro p e s m args below meth c A ls Q hx hb hts hown hml hK hG hA hP hD hS hl hret
  have hl : lv_has ls 4 [(0, .ref a), (1, .ref b), (2, .ref t)] := hl
  refine lv_iconst (v := nI 0) hx hb d_Wo_or_0 (by decide) ?_
  refine lv_istore_n (lv' := [(3, .int (nI 0)), (0, .ref a), (1, .ref b), (2, .ref t)]) hx hb d_Wo_or_1 rfl hl (by decide) rfl (fun ls hl => ?_)
  have key2 : ∀ (n : Nat) (i : Nat) (z : Nat → Int32) (H : Heap) (locs : List Loc) (ls : Array Slot), i + n = 8 → (∀ j, j < i → z j = f j ||| x j) → lv_has ls 4 [(3, .int (nI i)), (0, .ref a), (1, .ref b), (2, .ref t)] → va_P E.1 vwCl [(a, .inl (E.2.1 0, 8, .inl f)), (b, .inl (E.2.1 0, 8, .inl x)), (t, .inl (E.2.1 0, 8, .inl z))] H → va_D A [(a, .inl (E.2.1 0, 8, .inl f)), (b, .inl (E.2.1 0, 8, .inl x)), (t, .inl (E.2.1 0, 8, .inl z))] → va_S A s.heap H locs → W p l e rm_c_W_or s m args below meth c H locs 0 0 Q (F0 m 2 ls []) := by
    intro n
    induction n using Nat.strongRecOn with
    | ind n ih =>
      intro i z H locs ls hn hI hl hP hD hS
      refine lv_iload_n hx hb d_Wo_or_2 rfl (lv_at hl 0 rfl) ?_
      refine lv_bipush (v := nI 8) hx hb d_Wo_or_3 (by decide) ?_
      refine kn_ge (tgt := 24) hx hb (by omega) (by omega) d_Wo_or_5 (by decide) (fun h5 => ?_) (fun h5 => ?_)
      · exact hret _ ls _ _ z d_Wo_or_24 (fun j hj => hI j (by omega)) hP hS
      · refine lv_aload_n hx hb d_Wo_or_8 rfl (lv_at hl 3 rfl) ?_
        refine lv_iload_n hx hb d_Wo_or_9 rfl (lv_at hl 0 rfl) ?_
        refine lv_aload_n hx hb d_Wo_or_10 rfl (lv_at hl 1 rfl) ?_
        refine lv_iload_n hx hb d_Wo_or_11 rfl (lv_at hl 0 rfl) ?_
        refine k_iald hx hb hK hP 0 rfl (i := i) (by omega) (by omega) d_Wo_or_12 ?_
        refine lv_aload_n hx hb d_Wo_or_13 rfl (lv_at hl 2 rfl) ?_
        refine lv_iload_n hx hb d_Wo_or_14 rfl (lv_at hl 0 rfl) ?_
        refine k_iald hx hb hK hP 1 rfl (i := i) (by omega) (by omega) d_Wo_or_15 ?_
        refine lv_ior hx hb d_Wo_or_16 ?_
        refine k_iast hx hb hK hP hD hS 2 rfl (i := i) (by omega) (by omega) d_Wo_or_17 (fun H locs hP hD hS => ?_)
        have hP : va_P E.1 vwCl [(a, .inl (E.2.1 0, 8, .inl f)), (b, .inl (E.2.1 0, 8, .inl x)), (t, .inl (E.2.1 0, 8, .inl (upd z i ((f i) ||| (x i)))))] H := hP
        have hD : va_D A [(a, .inl (E.2.1 0, 8, .inl f)), (b, .inl (E.2.1 0, 8, .inl x)), (t, .inl (E.2.1 0, 8, .inl (upd z i ((f i) ||| (x i)))))] := hD
        refine lv_iinc (k := 0) (v := nI (i + 1)) (lv' := [(3, .int (nI (i + 1))), (0, .ref a), (1, .ref b), (2, .ref t)]) hx hb d_Wo_or_18 hl rfl (k_inc _) (by decide) rfl (fun ls hl => ?_)
        refine lv_goto (tgt := 2) hx hb d_Wo_or_21 (by decide) ?_
        exact ih (n - 1) (by omega) (i + 1) (upd z i (f i ||| x i)) _ _ ls (by omega) (fun j hj => if q : j = i then by subst q; exact pk_us else by rw [pk_un q]; exact hI j (by omega)) (lv_sub hl [0, 1, 2, 3] rfl) hP hD hS
  exact key2 8 0 y _ _ ls (by omega) (fun j hj => absurd hj (Nat.not_lt_zero j)) (lv_sub hl [0, 1, 2, 3] rfl) hP hD hS

abbrev y_Wo_exclusiveOr : MethodName := ⟨"WideStack$Words", "exclusiveOr", "([I[I[I)V"⟩
theorem d_Wo_exclusiveOr_0 : decode prog_10_method_18_code 0 = .ok (.iconst 0, 1) := by decide +kernel
theorem d_Wo_exclusiveOr_1 : decode prog_10_method_18_code 1 = .ok (.istore_n 3, 1) := by decide +kernel
theorem d_Wo_exclusiveOr_2 : decode prog_10_method_18_code 2 = .ok (.iload_n 3, 1) := by decide +kernel
theorem d_Wo_exclusiveOr_3 : decode prog_10_method_18_code 3 = .ok (.bipush 8, 2) := by decide +kernel
theorem d_Wo_exclusiveOr_5 : decode prog_10_method_18_code 5 = .ok (.if_icmp .ge 19, 3) := by decide +kernel
theorem d_Wo_exclusiveOr_8 : decode prog_10_method_18_code 8 = .ok (.aload_n 2, 1) := by decide +kernel
theorem d_Wo_exclusiveOr_9 : decode prog_10_method_18_code 9 = .ok (.iload_n 3, 1) := by decide +kernel
theorem d_Wo_exclusiveOr_10 : decode prog_10_method_18_code 10 = .ok (.aload_n 0, 1) := by decide +kernel
theorem d_Wo_exclusiveOr_11 : decode prog_10_method_18_code 11 = .ok (.iload_n 3, 1) := by decide +kernel
theorem d_Wo_exclusiveOr_12 : decode prog_10_method_18_code 12 = .ok (.iaload, 1) := by decide +kernel
theorem d_Wo_exclusiveOr_13 : decode prog_10_method_18_code 13 = .ok (.aload_n 1, 1) := by decide +kernel
theorem d_Wo_exclusiveOr_14 : decode prog_10_method_18_code 14 = .ok (.iload_n 3, 1) := by decide +kernel
theorem d_Wo_exclusiveOr_15 : decode prog_10_method_18_code 15 = .ok (.iaload, 1) := by decide +kernel
theorem d_Wo_exclusiveOr_16 : decode prog_10_method_18_code 16 = .ok (.ixor, 1) := by decide +kernel
theorem d_Wo_exclusiveOr_17 : decode prog_10_method_18_code 17 = .ok (.iastore, 1) := by decide +kernel
theorem d_Wo_exclusiveOr_18 : decode prog_10_method_18_code 18 = .ok (.iinc 3 1, 3) := by decide +kernel
theorem d_Wo_exclusiveOr_21 : decode prog_10_method_18_code 21 = .ok (.goto (-19), 3) := by decide +kernel
theorem d_Wo_exclusiveOr_24 : decode prog_10_method_18_code 24 = .ok (.return_, 1) := by decide +kernel
def rm_c_W_xor : Room := { frames := 0, cells := 0, slots := 0, locals := 0 }
set_option maxHeartbeats 4000000 in
set_option maxRecDepth 100000 in
theorem c_W_xor (l : Launch) (E : kE) (a b t : Nat) (f x y : Nat → Int32) : Kv l y_Wo_exclusiveOr (kW y_Wo_exclusiveOr prog_10_method_18_code 4 (none)) rm_c_W_xor E [.ref a, .ref b, .ref t] [(a, .inl (E.2.1 0, 8, .inl f)), (b, .inl (E.2.1 0, 8, .inl x)), (t, .inl (E.2.1 0, 8, .inl y))] (S := Nat → Int32) (fun u => ∀ j, j < 8 → u j = f j ^^^ x j) (fun u => [(a, .inl (E.2.1 0, 8, .inl f)), (b, .inl (E.2.1 0, 8, .inl x)), (t, .inl (E.2.1 0, 8, .inl u))]) := by
  refine Kv.ofW (cc := prog_10_method_18_code) (maxL := 4) (by decide) (Nat.le_of_ble_eq_true rfl) ?_
  intro p e s m args below meth c A ls Q hx hb hts hown hml hK hG hA hP hD hS hl hret
  have hl : lv_has ls 4 [(0, .ref a), (1, .ref b), (2, .ref t)] := hl
  refine lv_iconst (v := nI 0) hx hb d_Wo_exclusiveOr_0 (by decide) ?_
  refine lv_istore_n (lv' := [(3, .int (nI 0)), (0, .ref a), (1, .ref b), (2, .ref t)]) hx hb d_Wo_exclusiveOr_1 rfl hl (by decide) rfl (fun ls hl => ?_)
  have key2 : ∀ (n : Nat) (i : Nat) (z : Nat → Int32) (H : Heap) (locs : List Loc) (ls : Array Slot), i + n = 8 → (∀ j, j < i → z j = f j ^^^ x j) → lv_has ls 4 [(3, .int (nI i)), (0, .ref a), (1, .ref b), (2, .ref t)] → va_P E.1 vwCl [(a, .inl (E.2.1 0, 8, .inl f)), (b, .inl (E.2.1 0, 8, .inl x)), (t, .inl (E.2.1 0, 8, .inl z))] H → va_D A [(a, .inl (E.2.1 0, 8, .inl f)), (b, .inl (E.2.1 0, 8, .inl x)), (t, .inl (E.2.1 0, 8, .inl z))] → va_S A s.heap H locs → W p l e rm_c_W_xor s m args below meth c H locs 0 0 Q (F0 m 2 ls []) := by
    intro n
    induction n using Nat.strongRecOn with
    | ind n ih =>
      intro i z H locs ls hn hI hl hP hD hS
      refine lv_iload_n hx hb d_Wo_exclusiveOr_2 rfl (lv_at hl 0 rfl) ?_
      refine lv_bipush (v := nI 8) hx hb d_Wo_exclusiveOr_3 (by decide) ?_
      refine kn_ge (tgt := 24) hx hb (by omega) (by omega) d_Wo_exclusiveOr_5 (by decide) (fun h5 => ?_) (fun h5 => ?_)
      · exact hret _ ls _ _ z d_Wo_exclusiveOr_24 (fun j hj => hI j (by omega)) hP hS
      · refine lv_aload_n hx hb d_Wo_exclusiveOr_8 rfl (lv_at hl 3 rfl) ?_
        refine lv_iload_n hx hb d_Wo_exclusiveOr_9 rfl (lv_at hl 0 rfl) ?_
        refine lv_aload_n hx hb d_Wo_exclusiveOr_10 rfl (lv_at hl 1 rfl) ?_
        refine lv_iload_n hx hb d_Wo_exclusiveOr_11 rfl (lv_at hl 0 rfl) ?_
        refine k_iald hx hb hK hP 0 rfl (i := i) (by omega) (by omega) d_Wo_exclusiveOr_12 ?_
        refine lv_aload_n hx hb d_Wo_exclusiveOr_13 rfl (lv_at hl 2 rfl) ?_
        refine lv_iload_n hx hb d_Wo_exclusiveOr_14 rfl (lv_at hl 0 rfl) ?_
        refine k_iald hx hb hK hP 1 rfl (i := i) (by omega) (by omega) d_Wo_exclusiveOr_15 ?_
        refine lv_ixor hx hb d_Wo_exclusiveOr_16 ?_
        refine k_iast hx hb hK hP hD hS 2 rfl (i := i) (by omega) (by omega) d_Wo_exclusiveOr_17 (fun H locs hP hD hS => ?_)
        have hP : va_P E.1 vwCl [(a, .inl (E.2.1 0, 8, .inl f)), (b, .inl (E.2.1 0, 8, .inl x)), (t, .inl (E.2.1 0, 8, .inl (upd z i ((f i) ^^^ (x i)))))] H := hP
        have hD : va_D A [(a, .inl (E.2.1 0, 8, .inl f)), (b, .inl (E.2.1 0, 8, .inl x)), (t, .inl (E.2.1 0, 8, .inl (upd z i ((f i) ^^^ (x i)))))] := hD
        refine lv_iinc (k := 0) (v := nI (i + 1)) (lv' := [(3, .int (nI (i + 1))), (0, .ref a), (1, .ref b), (2, .ref t)]) hx hb d_Wo_exclusiveOr_18 hl rfl (k_inc _) (by decide) rfl (fun ls hl => ?_)
        refine lv_goto (tgt := 2) hx hb d_Wo_exclusiveOr_21 (by decide) ?_
        exact ih (n - 1) (by omega) (i + 1) (upd z i (f i ^^^ x i)) _ _ ls (by omega) (fun j hj => if q : j = i then by subst q; exact pk_us else by rw [pk_un q]; exact hI j (by omega)) (lv_sub hl [0, 1, 2, 3] rfl) hP hD hS
  exact key2 8 0 y _ _ ls (by omega) (fun j hj => absurd hj (Nat.not_lt_zero j)) (lv_sub hl [0, 1, 2, 3] rfl) hP hD hS

