abbrev y_Wo_copy : MethodName := ⟨"WideStack$Words", "copy", "([I[I)V"⟩
theorem d_Wo_copy_0 : decode prog_10_method_3_code 0 = .ok (.aload_n 0, 1) := by decide +kernel
theorem d_Wo_copy_1 : decode prog_10_method_3_code 1 = .ok (.iconst 0, 1) := by decide +kernel
theorem d_Wo_copy_2 : decode prog_10_method_3_code 2 = .ok (.aload_n 1, 1) := by decide +kernel
theorem d_Wo_copy_3 : decode prog_10_method_3_code 3 = .ok (.iconst 0, 1) := by decide +kernel
theorem d_Wo_copy_4 : decode prog_10_method_3_code 4 = .ok (.bipush 8, 2) := by decide +kernel
theorem d_Wo_copy_6 : decode prog_10_method_3_code 6 = .ok (.invokestatic 15, 3) := by decide +kernel
theorem d_Wo_copy_9 : decode prog_10_method_3_code 9 = .ok (.return_, 1) := by decide +kernel
def rm_c_W_copy : Room := { frames := 1, cells := 0, slots := 0, locals := 40 }
set_option maxHeartbeats 4000000 in
set_option maxRecDepth 100000 in
theorem c_W_copy (l : Launch) (E : kE) (a b na nb : Nat) (f x : Nat → Int32) (ha : 8 ≤ na) (hb8 : 8 ≤ nb) : Kv l y_Wo_copy (kW y_Wo_copy prog_10_method_3_code 2 (none)) rm_c_W_copy E [.ref a, .ref b] [(a, .inl (E.2.1 0, na, .inl f)), (b, .inl (E.2.1 0, nb, .inl x))] (S := Nat → Int32) (fun u => ∀ j, u j = if j < 8 then f j else x j) (fun u => [(a, .inl (E.2.1 0, na, .inl f)), (b, .inl (E.2.1 0, nb, .inl u))]) := by
  refine Kv.ofW (cc := prog_10_method_3_code) (maxL := 2) (by decide) (Nat.le_of_ble_eq_true rfl) ?_
  intro p e s m args below meth c A ls Q hx hb hts hown hml hK hG hA hP hD hS hl hret
  have hl : lv_has ls 2 [(0, .ref a), (1, .ref b)] := hl
  refine lv_aload_n hx hb d_Wo_copy_0 rfl (lv_at hl 0 rfl) ?_
  refine lv_iconst (v := nI 0) hx hb d_Wo_copy_1 (by decide) ?_
  refine lv_aload_n hx hb d_Wo_copy_2 rfl (lv_at hl 1 rfl) ?_
  refine lv_iconst (v := nI 0) hx hb d_Wo_copy_3 (by decide) ?_
  refine lv_bipush (v := nI 8) hx hb d_Wo_copy_4 (by decide) ?_
  refine va_copyi hx hb (hml.trans hl.1.symm) hown (hts _ t_316) (hts _ t_318) (hts _ t_317) (hts _ t_74) hK hP hD hS 0 1 0 0 rfl rfl rfl rfl rfl (nI_pos (by decide)) (nI_pos (by decide)) (nI_pos (by decide)) (by rw [nI_clamp (by decide), nI_clamp (by decide)]; omega) (by rw [nI_clamp (by decide), nI_clamp (by decide)]; omega) (fun _ _ => rfl) (Nat.le_of_ble_eq_true rfl) (by decide) d_Wo_copy_6 (fun H locs hP hD hS => ?_)
  rw [nI_clamp (by decide), nI_clamp (by decide)] at hP hD
  have hP : va_P E.1 vwCl [(a, .inl (E.2.1 0, na, .inl f)), (b, .inl (E.2.1 0, nb, .inl (va_cpy f x 0 0 8)))] H := hP
  have hD : va_D A [(a, .inl (E.2.1 0, na, .inl f)), (b, .inl (E.2.1 0, nb, .inl (va_cpy f x 0 0 8)))] := hD
  exact hret _ ls _ _ (va_cpy f x 0 0 8) d_Wo_copy_9 (fun j => if h : j < 8 then by rw [if_pos h, pk_cpy_in (Nat.zero_le _) (by omega)]; simp else by rw [if_neg h, pk_cpy_out (by omega)]) hP hS

abbrev y_Wo_setNumber : MethodName := ⟨"WideStack$Words", "setNumber", "([II)V"⟩
theorem d_Wo_setNumber_0 : decode prog_10_method_4_code 0 = .ok (.aload_n 0, 1) := by decide +kernel
theorem d_Wo_setNumber_1 : decode prog_10_method_4_code 1 = .ok (.invokestatic 21, 3) := by decide +kernel
theorem d_Wo_setNumber_4 : decode prog_10_method_4_code 4 = .ok (.aload_n 0, 1) := by decide +kernel
theorem d_Wo_setNumber_5 : decode prog_10_method_4_code 5 = .ok (.iconst 0, 1) := by decide +kernel
theorem d_Wo_setNumber_6 : decode prog_10_method_4_code 6 = .ok (.iload_n 1, 1) := by decide +kernel
theorem d_Wo_setNumber_7 : decode prog_10_method_4_code 7 = .ok (.iastore, 1) := by decide +kernel
theorem d_Wo_setNumber_8 : decode prog_10_method_4_code 8 = .ok (.return_, 1) := by decide +kernel
def rm_c_W_setNumber : Room := { frames := 2, cells := 0, slots := 0, locals := 43 }
set_option maxHeartbeats 4000000 in
set_option maxRecDepth 100000 in
theorem c_W_setNumber (l : Launch) (E : kE) (a : Nat) (f : Nat → Int32) (v : Int32) : Kv l y_Wo_setNumber (kW y_Wo_setNumber prog_10_method_4_code 2 (none)) rm_c_W_setNumber E [.ref a, .int v] [(a, .inl (E.2.1 0, 8, .inl f))] (S := Nat → Int32) (fun u => u 0 = v ∧ ∀ j, 0 < j → j < 8 → u j = 0) (fun u => [(a, .inl (E.2.1 0, 8, .inl u))]) := by
  refine Kv.ofW (cc := prog_10_method_4_code) (maxL := 2) (by decide) (Nat.le_of_ble_eq_true rfl) ?_
  intro p e s m args below meth c A ls Q hx hb hts hown hml hK hG hA hP hD hS hl hret
  have hl : lv_has ls 2 [(0, .ref a), (1, .int v)] := hl
  refine lv_aload_n hx hb d_Wo_setNumber_0 rfl (lv_at hl 0 rfl) ?_
  refine k_Sv (As := [.ref a]) (rest := []) ⟨hx, hb, hml, hown, hts⟩ (c_W_makeZero l E a f) (k_cwS 1 hts t_503 t_348 t_73 t_349 (by decide +kernel) ⟨Nat.le_of_ble_eq_true rfl, Nat.le_of_ble_eq_true rfl⟩) hK hG hA hP hD hS [0] rfl (by decide) (fun _ => rfl) rfl hl.1 rfl (Nat.le_of_ble_eq_true rfl) d_Wo_setNumber_1 ⟨Nat.zero_le _, Nat.zero_le _⟩ (fun u H locs hu hP hD hS => ?_)
  have hP : va_P E.1 vwCl [(a, .inl (E.2.1 0, 8, .inl u))] H := hP
  have hD : va_D A [(a, .inl (E.2.1 0, 8, .inl u))] := hD
  refine lv_aload_n hx hb d_Wo_setNumber_4 rfl (lv_at hl 0 rfl) ?_
  refine lv_iconst (v := nI 0) hx hb d_Wo_setNumber_5 (by decide) ?_
  refine lv_iload_n hx hb d_Wo_setNumber_6 rfl (lv_at hl 1 rfl) ?_
  refine k_iast hx hb hK hP hD hS 0 rfl (i := 0) (by omega) (by omega) d_Wo_setNumber_7 (fun H locs hP hD hS => ?_)
  have hP : va_P E.1 vwCl [(a, .inl (E.2.1 0, 8, .inl (upd u 0 v)))] H := hP
  have hD : va_D A [(a, .inl (E.2.1 0, 8, .inl (upd u 0 v)))] := hD
  exact hret _ ls _ _ (upd u 0 v) d_Wo_setNumber_8 ⟨pk_us, fun j h1 h2 => by rw [pk_un (by omega)]; exact hu j h2⟩ hP hS

abbrev y_Wo_setTruth : MethodName := ⟨"WideStack$Words", "setTruth", "([IZ)V"⟩
theorem d_Wo_setTruth_0 : decode prog_10_method_5_code 0 = .ok (.aload_n 0, 1) := by decide +kernel
theorem d_Wo_setTruth_1 : decode prog_10_method_5_code 1 = .ok (.iload_n 1, 1) := by decide +kernel
theorem d_Wo_setTruth_2 : decode prog_10_method_5_code 2 = .ok (.ifCond .eq 7, 3) := by decide +kernel
theorem d_Wo_setTruth_5 : decode prog_10_method_5_code 5 = .ok (.iconst 1, 1) := by decide +kernel
theorem d_Wo_setTruth_6 : decode prog_10_method_5_code 6 = .ok (.goto 4, 3) := by decide +kernel
theorem d_Wo_setTruth_9 : decode prog_10_method_5_code 9 = .ok (.iconst 0, 1) := by decide +kernel
theorem d_Wo_setTruth_10 : decode prog_10_method_5_code 10 = .ok (.invokestatic 25, 3) := by decide +kernel
theorem d_Wo_setTruth_13 : decode prog_10_method_5_code 13 = .ok (.return_, 1) := by decide +kernel
def rm_c_W_setTruth : Room := { frames := 3, cells := 0, slots := 0, locals := 64 }
set_option maxHeartbeats 4000000 in
set_option maxRecDepth 100000 in
theorem c_W_setTruth (l : Launch) (E : kE) (a : Nat) (f : Nat → Int32) (b : Bool) : Kv l y_Wo_setTruth (kW y_Wo_setTruth prog_10_method_5_code 2 (none)) rm_c_W_setTruth E [.ref a, .int (kb b)] [(a, .inl (E.2.1 0, 8, .inl f))] (S := Nat → Int32) (fun u => u 0 = kb b ∧ ∀ j, 0 < j → j < 8 → u j = 0) (fun u => [(a, .inl (E.2.1 0, 8, .inl u))]) := by
  refine Kv.ofW (cc := prog_10_method_5_code) (maxL := 2) (by decide) (Nat.le_of_ble_eq_true rfl) ?_
  intro p e s m args below meth c A ls Q hx hb hts hown hml hK hG hA hP hD hS hl hret
  have hl : lv_has ls 2 [(0, .ref a), (1, .int (kb b))] := hl
  refine lv_aload_n hx hb d_Wo_setTruth_0 rfl (lv_at hl 0 rfl) ?_
  refine lv_iload_n hx hb d_Wo_setTruth_1 rfl (lv_at hl 1 rfl) ?_
  refine lv_if_eq (tgt := 9) hx hb d_Wo_setTruth_2 (by decide) (fun h2 => ?_) (fun h2 => ?_)
  · refine lv_iconst (v := nI 0) hx hb d_Wo_setTruth_9 (by decide) ?_
    refine k_Sv (As := [.ref a, .int (nI 0)]) (rest := []) ⟨hx, hb, hml, hown, hts⟩ (c_W_setNumber l E a f (nI 0)) (k_cwS 2 hts t_597 t_501 t_73 t_502 (by decide +kernel) ⟨Nat.le_of_ble_eq_true rfl, Nat.le_of_ble_eq_true rfl⟩) hK hG hA hP hD hS [0] rfl (by decide) (fun _ => rfl) rfl hl.1 rfl (Nat.le_of_ble_eq_true rfl) d_Wo_setTruth_10 ⟨Nat.zero_le _, Nat.zero_le _⟩ (fun u H locs hu hP hD hS => ?_)
    have hP : va_P E.1 vwCl [(a, .inl (E.2.1 0, 8, .inl u))] H := hP
    have hD : va_D A [(a, .inl (E.2.1 0, 8, .inl u))] := hD
    exact hret _ ls _ _ u d_Wo_setTruth_13 ⟨hu.1.trans (by first | exact nI_0.trans h2.symm | (cases b <;> first | rfl | exact absurd rfl h2)), hu.2⟩ hP hS
  · refine lv_iconst (v := nI 1) hx hb d_Wo_setTruth_5 (by decide) ?_
    refine lv_goto (tgt := 10) hx hb d_Wo_setTruth_6 (by decide) ?_
    refine k_Sv (As := [.ref a, .int (nI 1)]) (rest := []) ⟨hx, hb, hml, hown, hts⟩ (c_W_setNumber l E a f (nI 1)) (k_cwS 2 hts t_597 t_501 t_73 t_502 (by decide +kernel) ⟨Nat.le_of_ble_eq_true rfl, Nat.le_of_ble_eq_true rfl⟩) hK hG hA hP hD hS [0] rfl (by decide) (fun _ => rfl) rfl hl.1 rfl (Nat.le_of_ble_eq_true rfl) d_Wo_setTruth_10 ⟨Nat.zero_le _, Nat.zero_le _⟩ (fun u H locs hu hP hD hS => ?_)
    have hP : va_P E.1 vwCl [(a, .inl (E.2.1 0, 8, .inl u))] H := hP
    have hD : va_D A [(a, .inl (E.2.1 0, 8, .inl u))] := hD
    exact hret _ ls _ _ u d_Wo_setTruth_13 ⟨hu.1.trans (by first | exact nI_0.trans h2.symm | (cases b <;> first | rfl | exact absurd rfl h2)), hu.2⟩ hP hS

abbrev y_Wo_isNegative : MethodName := ⟨"WideStack$Words", "isNegative", "([I)Z"⟩
theorem d_Wo_isNegative_0 : decode prog_10_method_7_code 0 = .ok (.aload_n 0, 1) := by decide +kernel
theorem d_Wo_isNegative_1 : decode prog_10_method_7_code 1 = .ok (.bipush 7, 2) := by decide +kernel
theorem d_Wo_isNegative_3 : decode prog_10_method_7_code 3 = .ok (.iaload, 1) := by decide +kernel
theorem d_Wo_isNegative_4 : decode prog_10_method_7_code 4 = .ok (.ifCond .ge 7, 3) := by decide +kernel
theorem d_Wo_isNegative_7 : decode prog_10_method_7_code 7 = .ok (.iconst 1, 1) := by decide +kernel
theorem d_Wo_isNegative_8 : decode prog_10_method_7_code 8 = .ok (.goto 4, 3) := by decide +kernel
theorem d_Wo_isNegative_11 : decode prog_10_method_7_code 11 = .ok (.iconst 0, 1) := by decide +kernel
theorem d_Wo_isNegative_12 : decode prog_10_method_7_code 12 = .ok (.ireturn, 1) := by decide +kernel
def rm_c_W_isNegative : Room := { frames := 0, cells := 0, slots := 0, locals := 0 }
set_option maxHeartbeats 4000000 in
set_option maxRecDepth 100000 in
theorem c_W_isNegative (l : Launch) (E : kE) (a na : Nat) (f : Nat → Int32) (ha : 8 ≤ na) (hb8 : na < 100) : Kp l y_Wo_isNegative (kW y_Wo_isNegative prog_10_method_7_code 1 (some .boolean)) rm_c_W_isNegative E [.ref a] [(a, .inl (E.2.1 0, na, .inl f))] (fun r => r = kb (m_isneg (wv f 8))) := by
  refine Kp.ofZ (cc := prog_10_method_7_code) (maxL := 1) (by decide) (Nat.le_of_ble_eq_true rfl) ?_
  intro p e s m args below meth c A ls Q hx hb hts hown hml hK hG hA hP hD hS hl hret
  have hl : lv_has ls 1 [(0, .ref a)] := hl
  refine lv_aload_n hx hb d_Wo_isNegative_0 rfl (lv_at hl 0 rfl) ?_
  refine lv_bipush (v := nI 7) hx hb d_Wo_isNegative_1 (by decide) ?_
  refine k_iald hx hb hK hP 0 rfl (i := 7) (by omega) (by omega) d_Wo_isNegative_3 ?_
  refine lv_if_ge (tgt := 11) hx hb d_Wo_isNegative_4 (by decide) (fun h4 => ?_) (fun h4 => ?_)
  · refine lv_iconst (v := nI 0) hx hb d_Wo_isNegative_11 (by decide) ?_
    first | exact hret _ ls _ d_Wo_isNegative_12 (by decide) (by rw [wv_neg, decide_eq_true (uw_nge0 h4)]; rfl) | exact hret _ ls _ d_Wo_isNegative_12 (by decide) (by rw [wv_neg, decide_eq_false (uw_ge0 h4)]; rfl)
  · refine lv_iconst (v := nI 1) hx hb d_Wo_isNegative_7 (by decide) ?_
    refine lv_goto (tgt := 12) hx hb d_Wo_isNegative_8 (by decide) ?_
    first | exact hret _ ls _ d_Wo_isNegative_12 (by decide) (by rw [wv_neg, decide_eq_true (uw_nge0 h4)]; rfl) | exact hret _ ls _ d_Wo_isNegative_12 (by decide) (by rw [wv_neg, decide_eq_false (uw_ge0 h4)]; rfl)

abbrev y_Wo_atMost : MethodName := ⟨"WideStack$Words", "atMost", "([II)I"⟩
theorem d_Wo_atMost_0 : decode prog_10_method_8_code 0 = .ok (.iconst 1, 1) := by decide +kernel
theorem d_Wo_atMost_1 : decode prog_10_method_8_code 1 = .ok (.istore_n 2, 1) := by decide +kernel
theorem d_Wo_atMost_2 : decode prog_10_method_8_code 2 = .ok (.iload_n 2, 1) := by decide +kernel
theorem d_Wo_atMost_3 : decode prog_10_method_8_code 3 = .ok (.bipush 8, 2) := by decide +kernel
theorem d_Wo_atMost_5 : decode prog_10_method_8_code 5 = .ok (.if_icmp .ge 17, 3) := by decide +kernel
theorem d_Wo_atMost_8 : decode prog_10_method_8_code 8 = .ok (.aload_n 0, 1) := by decide +kernel
theorem d_Wo_atMost_9 : decode prog_10_method_8_code 9 = .ok (.iload_n 2, 1) := by decide +kernel
theorem d_Wo_atMost_10 : decode prog_10_method_8_code 10 = .ok (.iaload, 1) := by decide +kernel
theorem d_Wo_atMost_11 : decode prog_10_method_8_code 11 = .ok (.ifCond .eq 5, 3) := by decide +kernel
theorem d_Wo_atMost_14 : decode prog_10_method_8_code 14 = .ok (.iload_n 1, 1) := by decide +kernel
theorem d_Wo_atMost_15 : decode prog_10_method_8_code 15 = .ok (.ireturn, 1) := by decide +kernel
theorem d_Wo_atMost_16 : decode prog_10_method_8_code 16 = .ok (.iinc 2 1, 3) := by decide +kernel
theorem d_Wo_atMost_19 : decode prog_10_method_8_code 19 = .ok (.goto (-17), 3) := by decide +kernel
theorem d_Wo_atMost_22 : decode prog_10_method_8_code 22 = .ok (.aload_n 0, 1) := by decide +kernel
theorem d_Wo_atMost_23 : decode prog_10_method_8_code 23 = .ok (.iconst 0, 1) := by decide +kernel
theorem d_Wo_atMost_24 : decode prog_10_method_8_code 24 = .ok (.iaload, 1) := by decide +kernel
theorem d_Wo_atMost_25 : decode prog_10_method_8_code 25 = .ok (.ifCond .lt 10, 3) := by decide +kernel
theorem d_Wo_atMost_28 : decode prog_10_method_8_code 28 = .ok (.aload_n 0, 1) := by decide +kernel
theorem d_Wo_atMost_29 : decode prog_10_method_8_code 29 = .ok (.iconst 0, 1) := by decide +kernel
theorem d_Wo_atMost_30 : decode prog_10_method_8_code 30 = .ok (.iaload, 1) := by decide +kernel
theorem d_Wo_atMost_31 : decode prog_10_method_8_code 31 = .ok (.iload_n 1, 1) := by decide +kernel
theorem d_Wo_atMost_32 : decode prog_10_method_8_code 32 = .ok (.if_icmp .le 7, 3) := by decide +kernel
theorem d_Wo_atMost_35 : decode prog_10_method_8_code 35 = .ok (.iload_n 1, 1) := by decide +kernel
theorem d_Wo_atMost_36 : decode prog_10_method_8_code 36 = .ok (.goto 6, 3) := by decide +kernel
theorem d_Wo_atMost_39 : decode prog_10_method_8_code 39 = .ok (.aload_n 0, 1) := by decide +kernel
theorem d_Wo_atMost_40 : decode prog_10_method_8_code 40 = .ok (.iconst 0, 1) := by decide +kernel
theorem d_Wo_atMost_41 : decode prog_10_method_8_code 41 = .ok (.iaload, 1) := by decide +kernel
theorem d_Wo_atMost_42 : decode prog_10_method_8_code 42 = .ok (.ireturn, 1) := by decide +kernel
def rm_c_W_atMost : Room := { frames := 0, cells := 0, slots := 0, locals := 0 }
set_option maxHeartbeats 4000000 in
set_option maxRecDepth 100000 in
theorem c_W_atMost (l : Launch) (E : kE) (a lim : Nat) (f : Nat → Int32) (hlim : lim < 2147483648) : Kp l y_Wo_atMost (kW y_Wo_atMost prog_10_method_8_code 3 (some .int)) rm_c_W_atMost E [.ref a, .int (nI lim)] [(a, .inl (E.2.1 0, 8, .inl f))] (fun r => r = nI (min (wv f 8) lim)) := by
  refine Kp.ofI (cc := prog_10_method_8_code) (maxL := 3) (by decide) (Nat.le_of_ble_eq_true rfl) ?_
  intro p e s m args below meth c A ls Q hx hb hts hown hml hK hG hA hP hD hS hl hret
  have hl : lv_has ls 3 [(0, .ref a), (1, .int (nI lim))] := hl
  refine lv_iconst (v := nI 1) hx hb d_Wo_atMost_0 (by decide) ?_
  refine lv_istore_n (lv' := [(2, .int (nI 1)), (0, .ref a), (1, .int (nI lim))]) hx hb d_Wo_atMost_1 rfl hl (by decide) rfl (fun ls hl => ?_)
  have key2 : ∀ (n : Nat) (i : Nat) (ls : Array Slot), i + n = 8 → (1 ≤ i ∧ ∀ j, 0 < j → j < i → f j = 0) → lv_has ls 3 [(2, .int (nI i)), (0, .ref a), (1, .int (nI lim))] → W p l e rm_c_W_atMost s m args below meth c s.heap [] 0 0 Q (F0 m 2 ls []) := by
    intro n
    induction n using Nat.strongRecOn with
    | ind n ih =>
      intro i ls hn hI hl
      refine lv_iload_n hx hb d_Wo_atMost_2 rfl (lv_at hl 0 rfl) ?_
      refine lv_bipush (v := nI 8) hx hb d_Wo_atMost_3 (by decide) ?_
      refine kn_ge (tgt := 22) hx hb (by omega) (by omega) d_Wo_atMost_5 (by decide) (fun h5 => ?_) (fun h5 => ?_)
      · refine lv_aload_n hx hb d_Wo_atMost_22 rfl (lv_at hl 1 rfl) ?_
        refine lv_iconst (v := nI 0) hx hb d_Wo_atMost_23 (by decide) ?_
        refine k_iald hx hb hK hP 0 rfl (i := 0) (by omega) (by omega) d_Wo_atMost_24 ?_
        refine lv_if_lt (tgt := 35) hx hb d_Wo_atMost_25 (by decide) (fun h25 => ?_) (fun h25 => ?_)
        · refine lv_iload_n hx hb d_Wo_atMost_35 rfl (lv_at hl 2 rfl) ?_
          refine lv_goto (tgt := 42) hx hb d_Wo_atMost_36 (by decide) ?_
          first | exact hret _ ls _ d_Wo_atMost_42 (wv_am1 (fun j a b => hI.2 j a (by omega)) hlim h25) | exact hret _ ls _ d_Wo_atMost_42 (wv_am2 (fun j a b => hI.2 j a (by omega)) hlim h25 h32) | exact hret _ ls _ d_Wo_atMost_42 (wv_am3 (fun j a b => hI.2 j a (by omega)) hlim h25 h32)
        · refine lv_aload_n hx hb d_Wo_atMost_28 rfl (lv_at hl 1 rfl) ?_
          refine lv_iconst (v := nI 0) hx hb d_Wo_atMost_29 (by decide) ?_
          refine k_iald hx hb hK hP 0 rfl (i := 0) (by omega) (by omega) d_Wo_atMost_30 ?_
          refine lv_iload_n hx hb d_Wo_atMost_31 rfl (lv_at hl 2 rfl) ?_
          refine lv_icmp_le (tgt := 39) hx hb d_Wo_atMost_32 (by decide) (fun h32 => ?_) (fun h32 => ?_)
          · refine lv_aload_n hx hb d_Wo_atMost_39 rfl (lv_at hl 1 rfl) ?_
            refine lv_iconst (v := nI 0) hx hb d_Wo_atMost_40 (by decide) ?_
            refine k_iald hx hb hK hP 0 rfl (i := 0) (by omega) (by omega) d_Wo_atMost_41 ?_
            first | exact hret _ ls _ d_Wo_atMost_42 (wv_am1 (fun j a b => hI.2 j a (by omega)) hlim h25) | exact hret _ ls _ d_Wo_atMost_42 (wv_am2 (fun j a b => hI.2 j a (by omega)) hlim h25 h32) | exact hret _ ls _ d_Wo_atMost_42 (wv_am3 (fun j a b => hI.2 j a (by omega)) hlim h25 h32)
          · refine lv_iload_n hx hb d_Wo_atMost_35 rfl (lv_at hl 2 rfl) ?_
            refine lv_goto (tgt := 42) hx hb d_Wo_atMost_36 (by decide) ?_
            first | exact hret _ ls _ d_Wo_atMost_42 (wv_am1 (fun j a b => hI.2 j a (by omega)) hlim h25) | exact hret _ ls _ d_Wo_atMost_42 (wv_am2 (fun j a b => hI.2 j a (by omega)) hlim h25 h32) | exact hret _ ls _ d_Wo_atMost_42 (wv_am3 (fun j a b => hI.2 j a (by omega)) hlim h25 h32)
      · refine lv_aload_n hx hb d_Wo_atMost_8 rfl (lv_at hl 1 rfl) ?_
        refine lv_iload_n hx hb d_Wo_atMost_9 rfl (lv_at hl 0 rfl) ?_
        refine k_iald hx hb hK hP 0 rfl (i := i) (by omega) (by omega) d_Wo_atMost_10 ?_
        refine lv_if_eq (tgt := 16) hx hb d_Wo_atMost_11 (by decide) (fun h11 => ?_) (fun h11 => ?_)
        · refine lv_iinc (k := 0) (v := nI (i + 1)) (lv' := [(2, .int (nI (i + 1))), (0, .ref a), (1, .int (nI lim))]) hx hb d_Wo_atMost_16 hl rfl (k_inc _) (by decide) rfl (fun ls hl => ?_)
          refine lv_goto (tgt := 2) hx hb d_Wo_atMost_19 (by decide) ?_
          exact ih (n - 1) (by omega) (i + 1) ls (by omega) ⟨by omega, fun j h1 h2 => if q : j = i then by subst q; assumption else by exact hI.2 j h1 (by omega)⟩ (lv_sub hl [0, 1, 2] rfl)
        · refine lv_iload_n hx hb d_Wo_atMost_14 rfl (lv_at hl 2 rfl) ?_
          exact hret _ ls _ d_Wo_atMost_15 (by rw [Nat.min_eq_right (by have := wv_big (f := f) (p := i) (by omega) (by omega) h11; rw [kK_eq] at this; omega)])
  exact key2 7 1 ls (by omega) ⟨Nat.le_refl 1, fun j h1 h2 => by omega⟩ (lv_sub hl [0, 1, 2] rfl)

abbrev y_Wo_order : MethodName := ⟨"WideStack$Words", "order", "([I[I)I"⟩
theorem d_Wo_order_0 : decode prog_10_method_9_code 0 = .ok (.bipush 7, 2) := by decide +kernel
theorem d_Wo_order_2 : decode prog_10_method_9_code 2 = .ok (.istore_n 2, 1) := by decide +kernel
theorem d_Wo_order_3 : decode prog_10_method_9_code 3 = .ok (.iload_n 2, 1) := by decide +kernel
theorem d_Wo_order_4 : decode prog_10_method_9_code 4 = .ok (.ifCond .lt 48, 3) := by decide +kernel
theorem d_Wo_order_7 : decode prog_10_method_9_code 7 = .ok (.aload_n 0, 1) := by decide +kernel
theorem d_Wo_order_8 : decode prog_10_method_9_code 8 = .ok (.iload_n 2, 1) := by decide +kernel
theorem d_Wo_order_9 : decode prog_10_method_9_code 9 = .ok (.iaload, 1) := by decide +kernel
theorem d_Wo_order_10 : decode prog_10_method_9_code 10 = .ok (.i2l, 1) := by decide +kernel
theorem d_Wo_order_11 : decode prog_10_method_9_code 11 = .ok (.ldc2_w 28, 3) := by decide +kernel
theorem d_Wo_order_14 : decode prog_10_method_9_code 14 = .ok (.land, 1) := by decide +kernel
theorem d_Wo_order_15 : decode prog_10_method_9_code 15 = .ok (.lstore_n 3, 1) := by decide +kernel
theorem d_Wo_order_16 : decode prog_10_method_9_code 16 = .ok (.aload_n 1, 1) := by decide +kernel
theorem d_Wo_order_17 : decode prog_10_method_9_code 17 = .ok (.iload_n 2, 1) := by decide +kernel
theorem d_Wo_order_18 : decode prog_10_method_9_code 18 = .ok (.iaload, 1) := by decide +kernel
theorem d_Wo_order_19 : decode prog_10_method_9_code 19 = .ok (.i2l, 1) := by decide +kernel
theorem d_Wo_order_20 : decode prog_10_method_9_code 20 = .ok (.ldc2_w 28, 3) := by decide +kernel
theorem d_Wo_order_23 : decode prog_10_method_9_code 23 = .ok (.land, 1) := by decide +kernel
theorem d_Wo_order_24 : decode prog_10_method_9_code 24 = .ok (.lstore 5, 2) := by decide +kernel
theorem d_Wo_order_26 : decode prog_10_method_9_code 26 = .ok (.lload_n 3, 1) := by decide +kernel
theorem d_Wo_order_27 : decode prog_10_method_9_code 27 = .ok (.lload 5, 2) := by decide +kernel
theorem d_Wo_order_29 : decode prog_10_method_9_code 29 = .ok (.lcmp, 1) := by decide +kernel
theorem d_Wo_order_30 : decode prog_10_method_9_code 30 = .ok (.ifCond .eq 16, 3) := by decide +kernel
theorem d_Wo_order_33 : decode prog_10_method_9_code 33 = .ok (.lload_n 3, 1) := by decide +kernel
theorem d_Wo_order_34 : decode prog_10_method_9_code 34 = .ok (.lload 5, 2) := by decide +kernel
theorem d_Wo_order_36 : decode prog_10_method_9_code 36 = .ok (.lcmp, 1) := by decide +kernel
theorem d_Wo_order_37 : decode prog_10_method_9_code 37 = .ok (.ifCond .ge 7, 3) := by decide +kernel
theorem d_Wo_order_40 : decode prog_10_method_9_code 40 = .ok (.iconst (-1), 1) := by decide +kernel
theorem d_Wo_order_41 : decode prog_10_method_9_code 41 = .ok (.goto 4, 3) := by decide +kernel
theorem d_Wo_order_44 : decode prog_10_method_9_code 44 = .ok (.iconst 1, 1) := by decide +kernel
theorem d_Wo_order_45 : decode prog_10_method_9_code 45 = .ok (.ireturn, 1) := by decide +kernel
theorem d_Wo_order_46 : decode prog_10_method_9_code 46 = .ok (.iinc 2 (-1), 3) := by decide +kernel
theorem d_Wo_order_49 : decode prog_10_method_9_code 49 = .ok (.goto (-46), 3) := by decide +kernel
theorem d_Wo_order_52 : decode prog_10_method_9_code 52 = .ok (.iconst 0, 1) := by decide +kernel
theorem d_Wo_order_53 : decode prog_10_method_9_code 53 = .ok (.ireturn, 1) := by decide +kernel
def rm_c_W_order : Room := { frames := 0, cells := 0, slots := 0, locals := 0 }
set_option maxHeartbeats 4000000 in
set_option maxRecDepth 100000 in
theorem c_W_order (l : Launch) (E : kE) (a b : Nat) (f x : Nat → Int32) : Kp l y_Wo_order (kW y_Wo_order prog_10_method_9_code 7 (some .int)) rm_c_W_order E [.ref a, .ref b] [(a, .inl (E.2.1 0, 8, .inl f)), (b, .inl (E.2.1 0, 8, .inl x))] (fun r => r = m_ord (wv f 8) (wv x 8)) := by
  refine Kp.ofI (cc := prog_10_method_9_code) (maxL := 7) (by decide) (Nat.le_of_ble_eq_true rfl) ?_
  intro p e s m args below meth c A ls Q hx hb hts hown hml hK hG hA hP hD hS hl hret
  have hl : lv_has ls 7 [(0, .ref a), (1, .ref b)] := hl
  refine lv_bipush (v := nI 7) hx hb d_Wo_order_0 (by decide) ?_
  refine lv_istore_n (lv' := [(2, .int (nI 7)), (0, .ref a), (1, .ref b)]) hx hb d_Wo_order_2 rfl hl (by decide) rfl (fun ls hl => ?_)
  have key3 : ∀ (n : Nat) (i : Nat) (ls : Array Slot), i = n ∧ i ≤ 8 → (∀ j, i ≤ j → j < 8 → f j = x j) → lv_has ls 7 [(2, .int (m1 i)), (0, .ref a), (1, .ref b)] → W p l e rm_c_W_order s m args below meth c s.heap [] 0 0 Q (F0 m 3 ls []) := by
    intro n
    induction n using Nat.strongRecOn with
    | ind n ih =>
      intro i ls hn hI hl
      rcases i with _ | k
      · have hl : lv_has ls 7 [(2, .int (-1)), (0, .ref a), (1, .ref b)] := hl
        refine lv_iload_n hx hb d_Wo_order_3 rfl (lv_at hl 0 rfl) ?_
        refine lv_if_lt (tgt := 52) hx hb d_Wo_order_4 (by decide) (fun h4 => ?_) (fun h4 => ?_)
        · refine lv_iconst (v := nI 0) hx hb d_Wo_order_52 (by decide) ?_
          exact hret _ ls _ d_Wo_order_53 (m_ord_eq (wv_congr (fun j hj => hI j (Nat.zero_le _) hj))).symm
        · exact absurd (by decide) h4
      · have hl : lv_has ls 7 [(2, .int (nI k)), (0, .ref a), (1, .ref b)] := hl
        refine lv_iload_n hx hb d_Wo_order_3 rfl (lv_at hl 0 rfl) ?_
        refine kn_iflt (tgt := 52) hx hb (by omega) d_Wo_order_4 (by decide) ?_
        refine lv_aload_n hx hb d_Wo_order_7 rfl (lv_at hl 1 rfl) ?_
        refine lv_iload_n hx hb d_Wo_order_8 rfl (lv_at hl 0 rfl) ?_
        refine k_iald hx hb hK hP 0 rfl (i := k) (by omega) (by omega) d_Wo_order_9 ?_
        refine lv_i2l (v := (f k).toInt64) hx hb d_Wo_order_10 rfl ?_
        refine lv_ldc2 (v := 4294967295) hx hb hown (hts _ t_515) d_Wo_order_11 ?_
        refine lv_land hx hb d_Wo_order_14 ?_
        refine k_topl (k_lo _) ?_
        refine lv_lstore_n (lv' := [(3, .long (lN (uw (f k)))), (2, .int (nI k)), (0, .ref a), (1, .ref b)]) hx hb d_Wo_order_15 rfl hl (by decide) rfl (fun ls hl => ?_)
        refine lv_aload_n hx hb d_Wo_order_16 rfl (lv_at hl 3 rfl) ?_
        refine lv_iload_n hx hb d_Wo_order_17 rfl (lv_at hl 1 rfl) ?_
        refine k_iald hx hb hK hP 1 rfl (i := k) (by omega) (by omega) d_Wo_order_18 ?_
        refine lv_i2l (v := (x k).toInt64) hx hb d_Wo_order_19 rfl ?_
        refine lv_ldc2 (v := 4294967295) hx hb hown (hts _ t_515) d_Wo_order_20 ?_
        refine lv_land hx hb d_Wo_order_23 ?_
        refine k_topl (k_lo _) ?_
        refine lv_lstore (lv' := [(5, .long (lN (uw (x k)))), (3, .long (lN (uw (f k)))), (2, .int (nI k)), (0, .ref a), (1, .ref b)]) hx hb d_Wo_order_24 hl (by decide) rfl (fun ls hl => ?_)
        refine lv_lload_n hx hb d_Wo_order_26 rfl (lv_at hl 1 rfl) ?_
        refine lv_lload hx hb d_Wo_order_27 (lv_at hl 0 rfl) ?_
        refine W.lcmp hx hb d_Wo_order_29 ?_
        refine lv_if_eq (tgt := 46) hx hb d_Wo_order_30 (by decide) (fun h30 => ?_) (fun h30 => ?_)
        · refine lv_iinc (k := 2) (v := m1 k) (lv' := [(2, .int (m1 k)), (5, .long (lN (uw (x k)))), (3, .long (lN (uw (f k)))), (0, .ref a), (1, .ref b)]) hx hb d_Wo_order_46 hl rfl (k_decm _) (by decide) rfl (fun ls hl => ?_)
          refine lv_goto (tgt := 3) hx hb d_Wo_order_49 (by decide) ?_
          exact ih k (by omega) k ls ⟨rfl, by omega⟩ (fun j h1 h2 => if q : j = k then by subst q; exact uw_inj ((k_cmp0 (uw_63 _) (uw_63 _)).mp h30) else by exact hI j (by omega) h2) (lv_sub hl [0, 3, 4] rfl)
        · refine lv_lload_n hx hb d_Wo_order_33 rfl (lv_at hl 1 rfl) ?_
          refine lv_lload hx hb d_Wo_order_34 (lv_at hl 0 rfl) ?_
          refine W.lcmp hx hb d_Wo_order_36 ?_
          refine lv_if_ge (tgt := 44) hx hb d_Wo_order_37 (by decide) (fun h37 => ?_) (fun h37 => ?_)
          · refine lv_iconst (v := nI 1) hx hb d_Wo_order_44 (by decide) ?_
            first | exact hret _ ls _ d_Wo_order_45 (m_ord_lt (wv_less (k := k) (by omega) (fun j a b => hI j (by omega) b) (Nat.lt_of_not_le (fun q => h37 ((k_cmpge (uw_63 _) (uw_63 _)).mpr q))))).symm | exact hret _ ls _ d_Wo_order_45 (m_ord_gt (wv_less (k := k) (by omega) (fun j a b => (hI j (by omega) b).symm) (Nat.lt_of_le_of_ne ((k_cmpge (uw_63 _) (uw_63 _)).mp h37) (fun q => h30 ((k_cmp0 (uw_63 _) (uw_63 _)).mpr q.symm))))).symm
          · refine lv_iconst (v := -1) hx hb d_Wo_order_40 (by decide) ?_
            refine lv_goto (tgt := 45) hx hb d_Wo_order_41 (by decide) ?_
            first | exact hret _ ls _ d_Wo_order_45 (m_ord_lt (wv_less (k := k) (by omega) (fun j a b => hI j (by omega) b) (Nat.lt_of_not_le (fun q => h37 ((k_cmpge (uw_63 _) (uw_63 _)).mpr q))))).symm | exact hret _ ls _ d_Wo_order_45 (m_ord_gt (wv_less (k := k) (by omega) (fun j a b => (hI j (by omega) b).symm) (Nat.lt_of_le_of_ne ((k_cmpge (uw_63 _) (uw_63 _)).mp h37) (fun q => h30 ((k_cmp0 (uw_63 _) (uw_63 _)).mpr q.symm))))).symm
  exact key3 8 8 ls ⟨rfl, Nat.le_refl 8⟩ (fun j h1 h2 => by omega) (lv_sub hl [0, 1, 2] rfl)

