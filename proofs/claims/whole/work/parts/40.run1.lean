/-! a run's numbers -/
def m_usedC (o A B : Nat) : Nat := if o = 81 ∨ o = 82 then min A 161 + 32 else if o = 83 then min A 161 + 1 else if o = 243 then (if B = 0 then 0 else min A 161 + min B 161) else 0
theorem m_usedC_le (o A B : Nat) : m_usedC o A B ≤ 322 := by
  unfold m_usedC
  split
  · omega
  · split
    · omega
    · split
      · split <;> omega
      · omega
theorem m_usedC_gt {o A B : Nat} : 160 < m_usedC o A B ↔ 160 < m_used o A B := by
  unfold m_usedC m_used
  by_cases h1 : o = 81 ∨ o = 82
  · rw [if_pos h1, if_pos h1]; omega
  · rw [if_neg h1, if_neg h1]
    by_cases h2 : o = 83
    · rw [if_pos h2, if_pos h2]; omega
    · rw [if_neg h2, if_neg h2]
      by_cases h3 : o = 243
      · rw [if_pos h3]
        by_cases h4 : B = 0
        · rw [if_pos h4, if_neg (by omega)]
        · rw [if_neg h4, if_pos ⟨h3, h4⟩]; omega
      · rw [if_neg h3, if_neg (by omega)]
theorem m_usedC_eq {o A B : Nat} (h : ¬ 160 < m_used o A B) : m_usedC o A B = m_used o A B := by
  revert h
  unfold m_usedC m_used
  by_cases h1 : o = 81 ∨ o = 82
  · rw [if_pos h1, if_pos h1]; omega
  · rw [if_neg h1, if_neg h1]
    by_cases h2 : o = 83
    · rw [if_pos h2, if_pos h2]; omega
    · rw [if_neg h2, if_neg h2]
      by_cases h3 : o = 243
      · rw [if_pos h3]
        by_cases h4 : B = 0
        · rw [if_pos h4, if_neg (by omega)]; omega
        · rw [if_neg h4, if_pos ⟨h3, h4⟩]; omega
      · rw [if_neg h3, if_neg (by omega)]; omega
theorem m_price_eq {o siz u : Nat} (hs : siz % 32 = 0) : m_cost o + 3 * ((u + 31) / 32 - siz / 32) = m_price o siz u := by
  unfold m_price m_grown
  split <;> omega
theorem m_grown_eq {siz u : Nat} (hs : siz % 32 = 0) : siz + 32 * ((u + 31) / 32 - siz / 32) = m_grown siz u := by
  unfold m_grown
  split <;> omega
theorem m_grown_32 {siz u : Nat} (hs : siz % 32 = 0) : m_grown siz u % 32 = 0 := by
  unfold m_grown
  split <;> omega
theorem m_grown_le {siz u : Nat} (hs : siz ≤ 160) (hu : u ≤ 160) : m_grown siz u ≤ 160 := by
  unfold m_grown
  split <;> omega
theorem m_cost_le (o : Nat) : m_cost o ≤ 10 := by
  unfold m_cost
  by_cases h1 : o = 0 ∨ o = 243
  · rw [if_pos h1]; omega
  rw [if_neg h1]
  by_cases h2 : o = 91
  · rw [if_pos h2]; omega
  rw [if_neg h2]
  by_cases h3 : o = 80 ∨ 88 ≤ o ∧ o ≤ 90
  · rw [if_pos h3]; omega
  rw [if_neg h3]
  by_cases h4 : o = 2 ∨ 4 ≤ o ∧ o ≤ 7 ∨ o = 11
  · rw [if_pos h4]; omega
  rw [if_neg h4]
  by_cases h5 : o = 8 ∨ o = 9 ∨ o = 86
  · rw [if_pos h5]; omega
  rw [if_neg h5]
  by_cases h6 : o = 87
  · rw [if_pos h6]; omega
  rw [if_neg h6]; omega
theorem m_takes_le : ∀ o, o < 256 → m_takes o ≤ 17 := by decide +kernel
theorem m_gives_le : ∀ o, o < 256 → m_gives o ≤ 17 := by decide +kernel
def m_fault (len : Nat) (b : Nat → Nat) (o gas siz hgt A B : Nat) : Nat :=
  if m_known o = false then 7 else if hgt < m_takes o then 5 else if 16 < hgt - m_takes o + m_gives o then 6 else if 160 < m_used o A B then 8 else if gas < m_price o siz (m_used o A B) then 4
  else if m_jumps o B && !m_marked len b A then 3 else 0
theorem m_marked_min {len : Nat} {b : Nat → Nat} {A : Nat} (hl : len ≤ 96) : m_marked len b (min A 96) = m_marked len b A := by
  by_cases h : A < 96
  · rw [Nat.min_eq_left (by omega)]
  · rw [Nat.min_eq_right (by omega)]
    unfold m_marked
    rw [decide_eq_false (show ¬ 96 < len by omega), decide_eq_false (show ¬ A < len by omega), Bool.false_and, Bool.false_and, Bool.false_and, Bool.false_and]
theorem m_in_marked {len : Nat} {b : Nat → Nat} {A : Nat} (hl : len ≤ 96) : (m_in (nI (min A 96)) len && m_marked len b (nI (min A 96)).toNatClampNeg) = m_marked len b A := by
  rw [nI_clamp (by omega), m_marked_min hl, m_in_nI (by omega) (by omega)]
  unfold m_marked
  by_cases h : A < len
  · rw [decide_eq_true (show min A 96 < len by omega), Bool.true_and]
  · rw [decide_eq_false h, Bool.false_and, Bool.false_and, Bool.and_false]

abbrev y_Ru_isStarted : MethodName := ⟨"WideStack$Run", "isStarted", "()Z"⟩
theorem d_Ru_isStarted_0 : decode prog_7_method_4_code 0 = .ok (.aload_n 0, 1) := by decide +kernel
theorem d_Ru_isStarted_1 : decode prog_7_method_4_code 1 = .ok (.getfield 45, 3) := by decide +kernel
theorem d_Ru_isStarted_4 : decode prog_7_method_4_code 4 = .ok (.ireturn, 1) := by decide +kernel
def rm_c_R_isStarted : Room := { frames := 0, cells := 0, slots := 0, locals := 0 }
set_option maxHeartbeats 4000000 in
set_option maxRecDepth 100000 in
theorem c_R_isStarted (l : Launch) (E : kE) (rn k o ca a b v t gas ctr en rf rc : Nat) (sb : Bool) : Kp l y_Ru_isStarted (kW y_Ru_isStarted prog_7_method_4_code 1 (some .boolean)) rm_c_R_isStarted E [.ref rn] [(rn, .inr (5, [.ref k, .ref o, .ref ca, .ref a, .ref b, .ref v, .ref t, .int (kb sb), .int (nI gas), .int (nI ctr), .int (nI en), .int (nI rf), .int (nI rc)]))] (fun r => r = kb sb) := by
  refine Kp.ofZ (cc := prog_7_method_4_code) (maxL := 1) (by decide) (Nat.le_of_ble_eq_true rfl) ?_
  intro p e s m args below meth c A ls Q hx hb hts hown hml hK hG hA hP hD hS hl hret
  have hl : lv_has ls 1 [(0, .ref rn)] := hl
  refine lv_aload_n hx hb d_Ru_isStarted_0 rfl (lv_at hl 0 rfl) ?_
  refine va_get (D := E.1) (ci := 5) (v := .int (kb sb)) (C := "WideStack$Run") (T := T_Ru) (N := 13) hx hb hts in_Ru hown hK hP 0 rfl rfl 7 (by decide) (hts _ t_193) (fun _ h9 => h9) rfl d_Ru_isStarted_1 ?_
  exact hret _ ls _ d_Ru_isStarted_4 (kb_nar sb) rfl

abbrev y_Ru_ending : MethodName := ⟨"WideStack$Run", "ending", "()I"⟩
theorem d_Ru_ending_0 : decode prog_7_method_5_code 0 = .ok (.aload_n 0, 1) := by decide +kernel
theorem d_Ru_ending_1 : decode prog_7_method_5_code 1 = .ok (.getfield 56, 3) := by decide +kernel
theorem d_Ru_ending_4 : decode prog_7_method_5_code 4 = .ok (.ireturn, 1) := by decide +kernel
def rm_c_R_ending : Room := { frames := 0, cells := 0, slots := 0, locals := 0 }
set_option maxHeartbeats 4000000 in
set_option maxRecDepth 100000 in
theorem c_R_ending (l : Launch) (E : kE) (rn k o ca a b v t gas ctr en rf rc : Nat) (sb : Bool) : Kp l y_Ru_ending (kW y_Ru_ending prog_7_method_5_code 1 (some .int)) rm_c_R_ending E [.ref rn] [(rn, .inr (5, [.ref k, .ref o, .ref ca, .ref a, .ref b, .ref v, .ref t, .int (kb sb), .int (nI gas), .int (nI ctr), .int (nI en), .int (nI rf), .int (nI rc)]))] (fun r => r = nI en) := by
  refine Kp.ofI (cc := prog_7_method_5_code) (maxL := 1) (by decide) (Nat.le_of_ble_eq_true rfl) ?_
  intro p e s m args below meth c A ls Q hx hb hts hown hml hK hG hA hP hD hS hl hret
  have hl : lv_has ls 1 [(0, .ref rn)] := hl
  refine lv_aload_n hx hb d_Ru_ending_0 rfl (lv_at hl 0 rfl) ?_
  refine va_get (D := E.1) (ci := 5) (v := .int (nI en)) (C := "WideStack$Run") (T := T_Ru) (N := 13) hx hb hts in_Ru hown hK hP 0 rfl rfl 10 (by decide) (hts _ t_196) (fun _ h9 => h9) rfl d_Ru_ending_1 ?_
  exact hret _ ls _ d_Ru_ending_4 rfl

abbrev y_Ru_words : MethodName := ⟨"WideStack$Run", "words", "()I"⟩
theorem d_Ru_words_0 : decode prog_7_method_6_code 0 = .ok (.aload_n 0, 1) := by decide +kernel
theorem d_Ru_words_1 : decode prog_7_method_6_code 1 = .ok (.getfield 10, 3) := by decide +kernel
theorem d_Ru_words_4 : decode prog_7_method_6_code 4 = .ok (.invokevirtual 73, 3) := by decide +kernel
theorem d_Ru_words_7 : decode prog_7_method_6_code 7 = .ok (.ireturn, 1) := by decide +kernel
def rm_c_R_words : Room := { frames := 1, cells := 0, slots := 0, locals := 20 }
set_option maxHeartbeats 4000000 in
set_option maxRecDepth 100000 in
theorem c_R_words (l : Launch) (E : kE) (rn k o ca a b v t gas ctr en rf rc : Nat) (sb : Bool) (kw kx cnt : Nat) : Kp l y_Ru_words (kW y_Ru_words prog_7_method_6_code 1 (some .int)) rm_c_R_words E [.ref rn] [(rn, .inr (5, [.ref k, .ref o, .ref ca, .ref a, .ref b, .ref v, .ref t, .int (kb sb), .int (nI gas), .int (nI ctr), .int (nI en), .int (nI rf), .int (nI rc)])), (k, .inr (1, [.ref kw, .ref kx, .int (nI cnt)]))] (fun r => r = nI cnt) := by
  refine Kp.ofI (cc := prog_7_method_6_code) (maxL := 1) (by decide) (Nat.le_of_ble_eq_true rfl) ?_
  intro p e s m args below meth c A ls Q hx hb hts hown hml hK hG hA hP hD hS hl hret
  have hl : lv_has ls 1 [(0, .ref rn)] := hl
  refine lv_aload_n hx hb d_Ru_words_0 rfl (lv_at hl 0 rfl) ?_
  refine va_get (D := E.1) (ci := 5) (v := .ref k) (C := "WideStack$Run") (T := T_Ru) (N := 13) hx hb hts in_Ru hown hK hP 0 rfl rfl 0 (by decide) (hts _ t_186) (fun _ h9 => h9) rfl d_Ru_words_1 ?_
  refine k_Vp (As := []) (rest := []) ⟨hx, hb, hml, hown, hts⟩ (c_St_count l E k kw kx cnt) (k_cwV 0 hts t_365 t_366 t_367 t_65 t_368 (by decide +kernel) ⟨Nat.le_of_ble_eq_true rfl, Nat.le_of_ble_eq_true rfl⟩) hK hG hA hP hD hS [1] rfl (by decide) 1 rfl rfl rfl hl.1 rfl (Nat.le_of_ble_eq_true rfl) d_Ru_words_4 ⟨Nat.zero_le _, Nat.zero_le _⟩ (fun r4 hu4 => ?_)
  subst hu4
  exact hret _ ls _ d_Ru_words_7 rfl

abbrev y_Ru_partOfWord : MethodName := ⟨"WideStack$Run", "partOfWord", "(II)I"⟩
theorem d_Ru_partOfWord_0 : decode prog_7_method_7_code 0 = .ok (.aload_n 0, 1) := by decide +kernel
theorem d_Ru_partOfWord_1 : decode prog_7_method_7_code 1 = .ok (.getfield 10, 3) := by decide +kernel
theorem d_Ru_partOfWord_4 : decode prog_7_method_7_code 4 = .ok (.iload_n 1, 1) := by decide +kernel
theorem d_Ru_partOfWord_5 : decode prog_7_method_7_code 5 = .ok (.iload_n 2, 1) := by decide +kernel
theorem d_Ru_partOfWord_6 : decode prog_7_method_7_code 6 = .ok (.invokevirtual 77, 3) := by decide +kernel
theorem d_Ru_partOfWord_9 : decode prog_7_method_7_code 9 = .ok (.ireturn, 1) := by decide +kernel
def rm_c_R_partOfWord : Room := { frames := 2, cells := 0, slots := 0, locals := 43 }
set_option maxHeartbeats 4000000 in
set_option maxRecDepth 100000 in
theorem c_R_partOfWord (l : Launch) (E : kE) (rn k o ca a b v t gas ctr en rf rc : Nat) (sb : Bool) (kw kx cnt : Nat) (ra : Nat → Nat) (fx : Nat → Int32) (M : Nat → Nat → Int32) (i j : Int32) (hc : cnt ≤ 16) : Kp l y_Ru_partOfWord (kW y_Ru_partOfWord prog_7_method_7_code 3 (some .int)) rm_c_R_partOfWord E [.ref rn, .int i, .int j] ([(rn, .inr (5, [.ref k, .ref o, .ref ca, .ref a, .ref b, .ref v, .ref t, .int (kb sb), .int (nI gas), .int (nI ctr), .int (nI en), .int (nI rf), .int (nI rc)])), (k, .inr (1, [.ref kw, .ref kx, .int (nI cnt)])), (kw, .inl (E.2.1 2, 16, .inr (.inr (.inr (.inr (fun i => if i < 16 then some (ra i) else none)))))), (kx, .inl (E.2.1 0, 8, .inl fx))] ++ k_rows E ra M) (fun r => r = if m_in i cnt && m_in j 8 then M (cnt - 1 - i.toNatClampNeg) j.toNatClampNeg else nI 0) := by
  refine Kp.ofI (cc := prog_7_method_7_code) (maxL := 3) (by decide) (Nat.le_of_ble_eq_true rfl) ?_
  intro p e s m args below meth c A ls Q hx hb hts hown hml hK hG hA hP hD hS hl hret
  have hl : lv_has ls 3 [(0, .ref rn), (1, .int i), (2, .int j)] := hl
  refine lv_aload_n hx hb d_Ru_partOfWord_0 rfl (lv_at hl 0 rfl) ?_
  refine va_get (D := E.1) (ci := 5) (v := .ref k) (C := "WideStack$Run") (T := T_Ru) (N := 13) hx hb hts in_Ru hown hK hP 0 rfl rfl 0 (by decide) (hts _ t_186) (fun _ h9 => h9) rfl d_Ru_partOfWord_1 ?_
  refine lv_iload_n hx hb d_Ru_partOfWord_4 rfl (lv_at hl 1 rfl) ?_
  refine lv_iload_n hx hb d_Ru_partOfWord_5 rfl (lv_at hl 2 rfl) ?_
  refine k_VpT (As := [.int i, .int j]) (rest := []) ⟨hx, hb, hml, hown, hts⟩ (c_St_partAt l E k kw kx cnt ra fx M i j hc) (k_cwV 2 hts t_658 t_659 t_660 t_65 t_661 (by decide +kernel) ⟨Nat.le_of_ble_eq_true rfl, Nat.le_of_ble_eq_true rfl⟩) hK hG hA hP hD hS [1, 2, 3] rfl (by decide) 1 rfl rfl rfl hl.1 rfl (Nat.le_of_ble_eq_true rfl) d_Ru_partOfWord_6 ⟨Nat.zero_le _, Nat.zero_le _⟩ (fun r hu => ?_)
  exact hret _ ls _ d_Ru_partOfWord_9 hu

abbrev y_Ru_memoryByte : MethodName := ⟨"WideStack$Run", "memoryByte", "(I)I"⟩
theorem d_Ru_memoryByte_0 : decode prog_7_method_9_code 0 = .ok (.aload_n 0, 1) := by decide +kernel
theorem d_Ru_memoryByte_1 : decode prog_7_method_9_code 1 = .ok (.getfield 19, 3) := by decide +kernel
theorem d_Ru_memoryByte_4 : decode prog_7_method_9_code 4 = .ok (.iload_n 1, 1) := by decide +kernel
theorem d_Ru_memoryByte_5 : decode prog_7_method_9_code 5 = .ok (.invokevirtual 91, 3) := by decide +kernel
theorem d_Ru_memoryByte_8 : decode prog_7_method_9_code 8 = .ok (.ireturn, 1) := by decide +kernel
def rm_c_R_memoryByte : Room := { frames := 2, cells := 0, slots := 0, locals := 41 }
set_option maxHeartbeats 4000000 in
set_option maxRecDepth 100000 in
theorem c_R_memoryByte (l : Launch) (E : kE) (rn k o ca a b v t gas ctr en rf rc : Nat) (sb : Bool) (ob siz : Nat) (fm : Nat → Int32) (mem : Nat → Nat) (hm : ∀ j, j < 160 → fm j = nI (mem j) ∧ mem j < 256) (i : Int32) : Kp l y_Ru_memoryByte (kW y_Ru_memoryByte prog_7_method_9_code 2 (some .int)) rm_c_R_memoryByte E [.ref rn, .int i] [(rn, .inr (5, [.ref k, .ref o, .ref ca, .ref a, .ref b, .ref v, .ref t, .int (kb sb), .int (nI gas), .int (nI ctr), .int (nI en), .int (nI rf), .int (nI rc)])), (o, .inr (2, [.ref ob, .int (nI siz)])), (ob, .inl (E.2.1 0, 160, .inl fm))] (fun r => r = if m_in i 160 then nI (mem i.toNatClampNeg) else -1) := by
  refine Kp.ofI (cc := prog_7_method_9_code) (maxL := 2) (by decide) (Nat.le_of_ble_eq_true rfl) ?_
  intro p e s m args below meth c A ls Q hx hb hts hown hml hK hG hA hP hD hS hl hret
  have hl : lv_has ls 2 [(0, .ref rn), (1, .int i)] := hl
  refine lv_aload_n hx hb d_Ru_memoryByte_0 rfl (lv_at hl 0 rfl) ?_
  refine va_get (D := E.1) (ci := 5) (v := .ref o) (C := "WideStack$Run") (T := T_Ru) (N := 13) hx hb hts in_Ru hown hK hP 0 rfl rfl 1 (by decide) (hts _ t_187) (fun _ h9 => h9) rfl d_Ru_memoryByte_1 ?_
  refine lv_iload_n hx hb d_Ru_memoryByte_4 rfl (lv_at hl 1 rfl) ?_
  refine k_Vp (As := [.int i]) (rest := []) ⟨hx, hb, hml, hown, hts⟩ (c_So_byteAt l E o ob siz fm mem hm i) (k_cwV 1 hts t_670 t_671 t_672 t_66 t_673 (by decide +kernel) ⟨Nat.le_of_ble_eq_true rfl, Nat.le_of_ble_eq_true rfl⟩) hK hG hA hP hD hS [1, 2] rfl (by decide) 1 rfl rfl rfl hl.1 rfl (Nat.le_of_ble_eq_true rfl) d_Ru_memoryByte_5 ⟨Nat.zero_le _, Nat.zero_le _⟩ (fun r hu => ?_)
  exact hret _ ls _ d_Ru_memoryByte_8 hu

abbrev y_Ru_returnedByte : MethodName := ⟨"WideStack$Run", "returnedByte", "(I)I"⟩
theorem d_Ru_returnedByte_0 : decode prog_7_method_10_code 0 = .ok (.iload_n 1, 1) := by decide +kernel
theorem d_Ru_returnedByte_1 : decode prog_7_method_10_code 1 = .ok (.ifCond .lt 27, 3) := by decide +kernel
theorem d_Ru_returnedByte_4 : decode prog_7_method_10_code 4 = .ok (.iload_n 1, 1) := by decide +kernel
theorem d_Ru_returnedByte_5 : decode prog_7_method_10_code 5 = .ok (.aload_n 0, 1) := by decide +kernel
theorem d_Ru_returnedByte_6 : decode prog_7_method_10_code 6 = .ok (.getfield 62, 3) := by decide +kernel
theorem d_Ru_returnedByte_9 : decode prog_7_method_10_code 9 = .ok (.if_icmp .ge 19, 3) := by decide +kernel
theorem d_Ru_returnedByte_12 : decode prog_7_method_10_code 12 = .ok (.aload_n 0, 1) := by decide +kernel
theorem d_Ru_returnedByte_13 : decode prog_7_method_10_code 13 = .ok (.getfield 19, 3) := by decide +kernel
theorem d_Ru_returnedByte_16 : decode prog_7_method_10_code 16 = .ok (.aload_n 0, 1) := by decide +kernel
theorem d_Ru_returnedByte_17 : decode prog_7_method_10_code 17 = .ok (.getfield 59, 3) := by decide +kernel
theorem d_Ru_returnedByte_20 : decode prog_7_method_10_code 20 = .ok (.iload_n 1, 1) := by decide +kernel
theorem d_Ru_returnedByte_21 : decode prog_7_method_10_code 21 = .ok (.iadd, 1) := by decide +kernel
theorem d_Ru_returnedByte_22 : decode prog_7_method_10_code 22 = .ok (.invokevirtual 91, 3) := by decide +kernel
theorem d_Ru_returnedByte_25 : decode prog_7_method_10_code 25 = .ok (.goto 4, 3) := by decide +kernel
theorem d_Ru_returnedByte_28 : decode prog_7_method_10_code 28 = .ok (.iconst (-1), 1) := by decide +kernel
theorem d_Ru_returnedByte_29 : decode prog_7_method_10_code 29 = .ok (.ireturn, 1) := by decide +kernel
def rm_c_R_returnedByte : Room := { frames := 2, cells := 0, slots := 0, locals := 41 }
set_option maxHeartbeats 4000000 in
set_option maxRecDepth 100000 in
theorem c_R_returnedByte (l : Launch) (E : kE) (rn k o ca a b v t gas ctr en rf rc : Nat) (sb : Bool) (ob siz : Nat) (fm : Nat → Int32) (mem : Nat → Nat) (hm : ∀ j, j < 160 → fm j = nI (mem j) ∧ mem j < 256) (i : Int32) (g1 : rc ≤ 161) (g2 : 0 < rc → rf + rc ≤ 160) : Kp l y_Ru_returnedByte (kW y_Ru_returnedByte prog_7_method_10_code 2 (some .int)) rm_c_R_returnedByte E [.ref rn, .int i] [(rn, .inr (5, [.ref k, .ref o, .ref ca, .ref a, .ref b, .ref v, .ref t, .int (kb sb), .int (nI gas), .int (nI ctr), .int (nI en), .int (nI rf), .int (nI rc)])), (o, .inr (2, [.ref ob, .int (nI siz)])), (ob, .inl (E.2.1 0, 160, .inl fm))] (fun r => r = if m_in i rc then nI (mem (rf + i.toNatClampNeg)) else -1) := by
  refine Kp.ofI (cc := prog_7_method_10_code) (maxL := 2) (by decide) (Nat.le_of_ble_eq_true rfl) ?_
  intro p e s m args below meth c A ls Q hx hb hts hown hml hK hG hA hP hD hS hl hret
  have hl : lv_has ls 2 [(0, .ref rn), (1, .int i)] := hl
  refine lv_iload_n hx hb d_Ru_returnedByte_0 rfl (lv_at hl 1 rfl) ?_
  refine lv_if_lt (tgt := 28) hx hb d_Ru_returnedByte_1 (by decide) (fun h1 => ?_) (fun h1 => ?_)
  · have hq1 := h1
    refine lv_iconst (v := -1) hx hb d_Ru_returnedByte_28 (by decide) ?_
    first | exact hret _ ls _ d_Ru_returnedByte_29 (by rw [hu, if_pos hin, m_in_nI (by omega) (by decide), decide_eq_true (by omega), if_pos rfl, nI_clamp (by omega), nI_clamp (by omega)]) | exact hret _ ls _ d_Ru_returnedByte_29 (by rw [m_in_f1 hq1]; rfl) | exact hret _ ls _ d_Ru_returnedByte_29 (by rw [m_in_f2 h9]; rfl)
  · have hq1 := h1
    refine lv_iload_n hx hb d_Ru_returnedByte_4 rfl (lv_at hl 1 rfl) ?_
    refine lv_aload_n hx hb d_Ru_returnedByte_5 rfl (lv_at hl 0 rfl) ?_
    refine va_get (D := E.1) (ci := 5) (v := .int (nI rc)) (C := "WideStack$Run") (T := T_Ru) (N := 13) hx hb hts in_Ru hown hK hP 0 rfl rfl 12 (by decide) (hts _ t_198) (fun _ h9 => h9) rfl d_Ru_returnedByte_6 ?_
    refine lv_icmp_ge (tgt := 28) hx hb d_Ru_returnedByte_9 (by decide) (fun h9 => ?_) (fun h9 => ?_)
    · refine lv_iconst (v := -1) hx hb d_Ru_returnedByte_28 (by decide) ?_
      first | exact hret _ ls _ d_Ru_returnedByte_29 (by rw [hu, if_pos hin, m_in_nI (by omega) (by decide), decide_eq_true (by omega), if_pos rfl, nI_clamp (by omega), nI_clamp (by omega)]) | exact hret _ ls _ d_Ru_returnedByte_29 (by rw [m_in_f1 hq1]; rfl) | exact hret _ ls _ d_Ru_returnedByte_29 (by rw [m_in_f2 h9]; rfl)
    · have hin := m_in_t (n := rc) (by omega) hq1 h9
      obtain ⟨j, hj, rfl⟩ := m_in_of (by omega) hin
      refine lv_aload_n hx hb d_Ru_returnedByte_12 rfl (lv_at hl 0 rfl) ?_
      refine va_get (D := E.1) (ci := 5) (v := .ref o) (C := "WideStack$Run") (T := T_Ru) (N := 13) hx hb hts in_Ru hown hK hP 0 rfl rfl 1 (by decide) (hts _ t_187) (fun _ h9 => h9) rfl d_Ru_returnedByte_13 ?_
      refine lv_aload_n hx hb d_Ru_returnedByte_16 rfl (lv_at hl 0 rfl) ?_
      refine va_get (D := E.1) (ci := 5) (v := .int (nI rf)) (C := "WideStack$Run") (T := T_Ru) (N := 13) hx hb hts in_Ru hown hK hP 0 rfl rfl 11 (by decide) (hts _ t_197) (fun _ h9 => h9) rfl d_Ru_returnedByte_17 ?_
      refine lv_iload_n hx hb d_Ru_returnedByte_20 rfl (lv_at hl 1 rfl) ?_
      refine lv_iadd hx hb d_Ru_returnedByte_21 ?_
      refine k_top (nI_add _ _) ?_
      refine k_Vp (As := [.int (nI (rf + j))]) (rest := []) ⟨hx, hb, hml, hown, hts⟩ (c_So_byteAt l E o ob siz fm mem hm (nI (rf + j))) (k_cwV 1 hts t_670 t_671 t_672 t_66 t_673 (by decide +kernel) ⟨Nat.le_of_ble_eq_true rfl, Nat.le_of_ble_eq_true rfl⟩) hK hG hA hP hD hS [1, 2] rfl (by decide) 1 rfl rfl rfl hl.1 rfl (Nat.le_of_ble_eq_true rfl) d_Ru_returnedByte_22 ⟨Nat.zero_le _, Nat.zero_le _⟩ (fun r hu => ?_)
      refine lv_goto (tgt := 29) hx hb d_Ru_returnedByte_25 (by decide) ?_
      first | exact hret _ ls _ d_Ru_returnedByte_29 (by rw [hu, if_pos hin, m_in_nI (by omega) (by decide), decide_eq_true (by omega), if_pos rfl, nI_clamp (by omega), nI_clamp (by omega)]) | exact hret _ ls _ d_Ru_returnedByte_29 (by rw [m_in_f1 hq1]; rfl) | exact hret _ ls _ d_Ru_returnedByte_29 (by rw [m_in_f2 h9]; rfl)

theorem fig_out {i : Int32} (q0 : ¬ i = 0) (q1 : ¬ i = 1) (q2 : ¬ i = 2) (q3 : ¬ i = 3) : i.toInt < 0 ∨ 3 < i.toInt := by
  have h0 := lv_neT q0 (a := 0) (by decide)
  have h1 := lv_neT q1 (a := 1) (by decide)
  have h2 := lv_neT q2 (a := 2) (by decide)
  have h3 := lv_neT q3 (a := 3) (by decide)
  omega

abbrev y_Ru_figure : MethodName := ⟨"WideStack$Run", "figure", "(I)I"⟩
theorem d_Ru_figure_0 : decode prog_7_method_11_code 0 = .ok (.iload_n 1, 1) := by decide +kernel
theorem d_Ru_figure_1 : decode prog_7_method_11_code 1 = .ok (.tableswitch 54 0 3 #[31, 36, 41, 49], 31) := by decide +kernel
theorem d_Ru_figure_32 : decode prog_7_method_11_code 32 = .ok (.aload_n 0, 1) := by decide +kernel
theorem d_Ru_figure_33 : decode prog_7_method_11_code 33 = .ok (.getfield 49, 3) := by decide +kernel
theorem d_Ru_figure_36 : decode prog_7_method_11_code 36 = .ok (.ireturn, 1) := by decide +kernel
theorem d_Ru_figure_37 : decode prog_7_method_11_code 37 = .ok (.aload_n 0, 1) := by decide +kernel
theorem d_Ru_figure_38 : decode prog_7_method_11_code 38 = .ok (.getfield 53, 3) := by decide +kernel
theorem d_Ru_figure_41 : decode prog_7_method_11_code 41 = .ok (.ireturn, 1) := by decide +kernel
theorem d_Ru_figure_42 : decode prog_7_method_11_code 42 = .ok (.aload_n 0, 1) := by decide +kernel
theorem d_Ru_figure_43 : decode prog_7_method_11_code 43 = .ok (.getfield 19, 3) := by decide +kernel
theorem d_Ru_figure_46 : decode prog_7_method_11_code 46 = .ok (.invokevirtual 95, 3) := by decide +kernel
theorem d_Ru_figure_49 : decode prog_7_method_11_code 49 = .ok (.ireturn, 1) := by decide +kernel
theorem d_Ru_figure_50 : decode prog_7_method_11_code 50 = .ok (.aload_n 0, 1) := by decide +kernel
theorem d_Ru_figure_51 : decode prog_7_method_11_code 51 = .ok (.getfield 62, 3) := by decide +kernel
theorem d_Ru_figure_54 : decode prog_7_method_11_code 54 = .ok (.ireturn, 1) := by decide +kernel
theorem d_Ru_figure_55 : decode prog_7_method_11_code 55 = .ok (.iconst (-1), 1) := by decide +kernel
theorem d_Ru_figure_56 : decode prog_7_method_11_code 56 = .ok (.ireturn, 1) := by decide +kernel
def rm_c_R_figure : Room := { frames := 1, cells := 0, slots := 0, locals := 20 }
set_option maxHeartbeats 4000000 in
set_option maxRecDepth 100000 in
theorem c_R_figure (l : Launch) (E : kE) (rn k o ca a b v t gas ctr en rf rc : Nat) (sb : Bool) (ob siz : Nat) (fm : Nat → Int32) (i : Int32) : Kp l y_Ru_figure (kW y_Ru_figure prog_7_method_11_code 2 (some .int)) rm_c_R_figure E [.ref rn, .int i] [(rn, .inr (5, [.ref k, .ref o, .ref ca, .ref a, .ref b, .ref v, .ref t, .int (kb sb), .int (nI gas), .int (nI ctr), .int (nI en), .int (nI rf), .int (nI rc)])), (o, .inr (2, [.ref ob, .int (nI siz)])), (ob, .inl (E.2.1 0, 160, .inl fm))] (fun r => r = if i = 0 then nI gas else if i = 1 then nI ctr else if i = 2 then nI siz else if i = 3 then nI rc else -1) := by
  refine Kp.ofI (cc := prog_7_method_11_code) (maxL := 2) (by decide) (Nat.le_of_ble_eq_true rfl) ?_
  intro p e s m args below meth c A ls Q hx hb hts hown hml hK hG hA hP hD hS hl hret
  have hl : lv_has ls 2 [(0, .ref rn), (1, .int i)] := hl
  refine lv_iload_n hx hb d_Ru_figure_0 rfl (lv_at hl 1 rfl) ?_
  by_cases q0 : i = 0
  · subst q0
    refine lv_tableIn (off := 31) (tgt := 32) hx hb d_Ru_figure_1 (by decide) (by decide) (by decide) (by decide) ?_
    refine lv_aload_n hx hb d_Ru_figure_32 rfl (lv_at hl 0 rfl) ?_
    refine va_get (D := E.1) (ci := 5) (v := .int (nI gas)) (C := "WideStack$Run") (T := T_Ru) (N := 13) hx hb hts in_Ru hown hK hP 0 rfl rfl 8 (by decide) (hts _ t_194) (fun _ h9 => h9) rfl d_Ru_figure_33 ?_
    exact hret _ ls _ d_Ru_figure_36 (if_pos rfl).symm
  by_cases q1 : i = 1
  · subst q1
    refine lv_tableIn (off := 36) (tgt := 37) hx hb d_Ru_figure_1 (by decide) (by decide) (by decide) (by decide) ?_
    refine lv_aload_n hx hb d_Ru_figure_37 rfl (lv_at hl 0 rfl) ?_
    refine va_get (D := E.1) (ci := 5) (v := .int (nI ctr)) (C := "WideStack$Run") (T := T_Ru) (N := 13) hx hb hts in_Ru hown hK hP 0 rfl rfl 9 (by decide) (hts _ t_195) (fun _ h9 => h9) rfl d_Ru_figure_38 ?_
    exact hret _ ls _ d_Ru_figure_41 (by rw [if_neg (by decide), if_pos rfl])
  by_cases q2 : i = 2
  · subst q2
    refine lv_tableIn (off := 41) (tgt := 42) hx hb d_Ru_figure_1 (by decide) (by decide) (by decide) (by decide) ?_
    refine lv_aload_n hx hb d_Ru_figure_42 rfl (lv_at hl 0 rfl) ?_
    refine va_get (D := E.1) (ci := 5) (v := .ref o) (C := "WideStack$Run") (T := T_Ru) (N := 13) hx hb hts in_Ru hown hK hP 0 rfl rfl 1 (by decide) (hts _ t_187) (fun _ h9 => h9) rfl d_Ru_figure_43 ?_
    refine k_Vp (As := []) (rest := []) ⟨hx, hb, hml, hown, hts⟩ (c_So_size l E o ob siz fm) (k_cwV 0 hts t_504 t_505 t_506 t_66 t_507 (by decide +kernel) ⟨Nat.le_of_ble_eq_true rfl, Nat.le_of_ble_eq_true rfl⟩) hK hG hA hP hD hS [1, 2] rfl (by decide) 1 rfl rfl rfl hl.1 rfl (Nat.le_of_ble_eq_true rfl) d_Ru_figure_46 ⟨Nat.zero_le _, Nat.zero_le _⟩ (fun r46 hu46 => ?_)
    subst hu46
    exact hret _ ls _ d_Ru_figure_49 (by rw [if_neg (by decide), if_neg (by decide), if_pos rfl])
  by_cases q3 : i = 3
  · subst q3
    refine lv_tableIn (off := 49) (tgt := 50) hx hb d_Ru_figure_1 (by decide) (by decide) (by decide) (by decide) ?_
    refine lv_aload_n hx hb d_Ru_figure_50 rfl (lv_at hl 0 rfl) ?_
    refine va_get (D := E.1) (ci := 5) (v := .int (nI rc)) (C := "WideStack$Run") (T := T_Ru) (N := 13) hx hb hts in_Ru hown hK hP 0 rfl rfl 12 (by decide) (hts _ t_198) (fun _ h9 => h9) rfl d_Ru_figure_51 ?_
    exact hret _ ls _ d_Ru_figure_54 (by rw [if_neg (by decide), if_neg (by decide), if_neg (by decide), if_pos rfl])
  · refine lv_tableOut (tgt := 55) hx hb d_Ru_figure_1 (fig_out q0 q1 q2 q3) (by decide) ?_
    refine lv_iconst (v := -1) hx hb d_Ru_figure_55 (by decide) ?_
    exact hret _ ls _ d_Ru_figure_56 (by rw [if_neg q0, if_neg q1, if_neg q2, if_neg q3])

abbrev y_Ru_begin : MethodName := ⟨"WideStack$Run", "begin", "(I)V"⟩
theorem d_Ru_begin_0 : decode prog_7_method_3_code 0 = .ok (.aload_n 0, 1) := by decide +kernel
theorem d_Ru_begin_1 : decode prog_7_method_3_code 1 = .ok (.iconst 1, 1) := by decide +kernel
theorem d_Ru_begin_2 : decode prog_7_method_3_code 2 = .ok (.putfield 45, 3) := by decide +kernel
theorem d_Ru_begin_5 : decode prog_7_method_3_code 5 = .ok (.aload_n 0, 1) := by decide +kernel
theorem d_Ru_begin_6 : decode prog_7_method_3_code 6 = .ok (.iload_n 1, 1) := by decide +kernel
theorem d_Ru_begin_7 : decode prog_7_method_3_code 7 = .ok (.putfield 49, 3) := by decide +kernel
theorem d_Ru_begin_10 : decode prog_7_method_3_code 10 = .ok (.aload_n 0, 1) := by decide +kernel
theorem d_Ru_begin_11 : decode prog_7_method_3_code 11 = .ok (.iconst 0, 1) := by decide +kernel
theorem d_Ru_begin_12 : decode prog_7_method_3_code 12 = .ok (.putfield 53, 3) := by decide +kernel
theorem d_Ru_begin_15 : decode prog_7_method_3_code 15 = .ok (.aload_n 0, 1) := by decide +kernel
theorem d_Ru_begin_16 : decode prog_7_method_3_code 16 = .ok (.iconst 0, 1) := by decide +kernel
theorem d_Ru_begin_17 : decode prog_7_method_3_code 17 = .ok (.putfield 56, 3) := by decide +kernel
theorem d_Ru_begin_20 : decode prog_7_method_3_code 20 = .ok (.aload_n 0, 1) := by decide +kernel
theorem d_Ru_begin_21 : decode prog_7_method_3_code 21 = .ok (.iconst 0, 1) := by decide +kernel
theorem d_Ru_begin_22 : decode prog_7_method_3_code 22 = .ok (.putfield 59, 3) := by decide +kernel
theorem d_Ru_begin_25 : decode prog_7_method_3_code 25 = .ok (.aload_n 0, 1) := by decide +kernel
theorem d_Ru_begin_26 : decode prog_7_method_3_code 26 = .ok (.iconst 0, 1) := by decide +kernel
theorem d_Ru_begin_27 : decode prog_7_method_3_code 27 = .ok (.putfield 62, 3) := by decide +kernel
theorem d_Ru_begin_30 : decode prog_7_method_3_code 30 = .ok (.aload_n 0, 1) := by decide +kernel
theorem d_Ru_begin_31 : decode prog_7_method_3_code 31 = .ok (.getfield 10, 3) := by decide +kernel
theorem d_Ru_begin_34 : decode prog_7_method_3_code 34 = .ok (.invokevirtual 69, 3) := by decide +kernel
theorem d_Ru_begin_37 : decode prog_7_method_3_code 37 = .ok (.aload_n 0, 1) := by decide +kernel
theorem d_Ru_begin_38 : decode prog_7_method_3_code 38 = .ok (.getfield 19, 3) := by decide +kernel
theorem d_Ru_begin_41 : decode prog_7_method_3_code 41 = .ok (.invokevirtual 72, 3) := by decide +kernel
theorem d_Ru_begin_44 : decode prog_7_method_3_code 44 = .ok (.return_, 1) := by decide +kernel
def rm_c_R_begin : Room := { frames := 2, cells := 0, slots := 0, locals := 43 }
set_option maxHeartbeats 4000000 in
set_option maxRecDepth 100000 in
theorem c_R_begin (l : Launch) (E : kE) (rn k o ca a b v t gas ctr en rf rc : Nat) (sb : Bool) (kw kx cnt ob siz g0 : Nat) (fm : Nat → Int32) : Kv l y_Ru_begin (kW y_Ru_begin prog_7_method_3_code 2 (none)) rm_c_R_begin E [.ref rn, .int (nI g0)] [(rn, .inr (5, [.ref k, .ref o, .ref ca, .ref a, .ref b, .ref v, .ref t, .int (kb sb), .int (nI gas), .int (nI ctr), .int (nI en), .int (nI rf), .int (nI rc)])), (k, .inr (1, [.ref kw, .ref kx, .int (nI cnt)])), (o, .inr (2, [.ref ob, .int (nI siz)])), (ob, .inl (E.2.1 0, 160, .inl fm))] (S := Nat → Int32) (fun u => ∀ j, j < 160 → u j = nI 0) (fun u => [(rn, .inr (5, [.ref k, .ref o, .ref ca, .ref a, .ref b, .ref v, .ref t, .int (kb true), .int (nI g0), .int (nI 0), .int (nI 0), .int (nI 0), .int (nI 0)])), (k, .inr (1, [.ref kw, .ref kx, .int (nI 0)])), (o, .inr (2, [.ref ob, .int (nI 0)])), (ob, .inl (E.2.1 0, 160, .inl u))]) := by
  refine Kv.ofW (cc := prog_7_method_3_code) (maxL := 2) (by decide) (Nat.le_of_ble_eq_true rfl) ?_
  intro p e s m args below meth c A ls Q hx hb hts hown hml hK hG hA hP hD hS hl hret
  have hl : lv_has ls 2 [(0, .ref rn), (1, .int (nI g0))] := hl
  refine lv_aload_n hx hb d_Ru_begin_0 rfl (lv_at hl 0 rfl) ?_
  refine lv_iconst (v := nI 1) hx hb d_Ru_begin_1 (by decide) ?_
  refine k_top (y := kb true) (by decide) ?_
  refine va_put (D := E.1) (ci := 5) (v := .int (kb true)) (ty := .boolean) (C := "WideStack$Run") (T := T_Ru) (N := 13) hx hb hts in_Ru ty_Ru tyok_Ru nm_Ru hown hK hP hD hS 0 rfl rfl 7 (by decide) (hts _ t_193) (fun _ h9 => h9) rfl (by decide +kernel) rfl rfl (Nat.le_of_ble_eq_true rfl) d_Ru_begin_2 (fun H locs hP hD hS => ?_)
  have hP : va_P E.1 vwCl [(rn, .inr (5, [.ref k, .ref o, .ref ca, .ref a, .ref b, .ref v, .ref t, .int (kb true), .int (nI gas), .int (nI ctr), .int (nI en), .int (nI rf), .int (nI rc)])), (k, .inr (1, [.ref kw, .ref kx, .int (nI cnt)])), (o, .inr (2, [.ref ob, .int (nI siz)])), (ob, .inl (E.2.1 0, 160, .inl fm))] H := hP
  have hD : va_D A [(rn, .inr (5, [.ref k, .ref o, .ref ca, .ref a, .ref b, .ref v, .ref t, .int (kb true), .int (nI gas), .int (nI ctr), .int (nI en), .int (nI rf), .int (nI rc)])), (k, .inr (1, [.ref kw, .ref kx, .int (nI cnt)])), (o, .inr (2, [.ref ob, .int (nI siz)])), (ob, .inl (E.2.1 0, 160, .inl fm))] := hD
  refine lv_aload_n hx hb d_Ru_begin_5 rfl (lv_at hl 0 rfl) ?_
  refine lv_iload_n hx hb d_Ru_begin_6 rfl (lv_at hl 1 rfl) ?_
  refine va_put (D := E.1) (ci := 5) (v := .int (nI g0)) (ty := .int) (C := "WideStack$Run") (T := T_Ru) (N := 13) hx hb hts in_Ru ty_Ru tyok_Ru nm_Ru hown hK hP hD hS 0 rfl rfl 8 (by decide) (hts _ t_194) (fun _ h9 => h9) rfl (by decide +kernel) rfl rfl (Nat.le_of_ble_eq_true rfl) d_Ru_begin_7 (fun H locs hP hD hS => ?_)
  have hP : va_P E.1 vwCl [(rn, .inr (5, [.ref k, .ref o, .ref ca, .ref a, .ref b, .ref v, .ref t, .int (kb true), .int (nI g0), .int (nI ctr), .int (nI en), .int (nI rf), .int (nI rc)])), (k, .inr (1, [.ref kw, .ref kx, .int (nI cnt)])), (o, .inr (2, [.ref ob, .int (nI siz)])), (ob, .inl (E.2.1 0, 160, .inl fm))] H := hP
  have hD : va_D A [(rn, .inr (5, [.ref k, .ref o, .ref ca, .ref a, .ref b, .ref v, .ref t, .int (kb true), .int (nI g0), .int (nI ctr), .int (nI en), .int (nI rf), .int (nI rc)])), (k, .inr (1, [.ref kw, .ref kx, .int (nI cnt)])), (o, .inr (2, [.ref ob, .int (nI siz)])), (ob, .inl (E.2.1 0, 160, .inl fm))] := hD
  refine lv_aload_n hx hb d_Ru_begin_10 rfl (lv_at hl 0 rfl) ?_
  refine lv_iconst (v := nI 0) hx hb d_Ru_begin_11 (by decide) ?_
  refine va_put (D := E.1) (ci := 5) (v := .int (nI 0)) (ty := .int) (C := "WideStack$Run") (T := T_Ru) (N := 13) hx hb hts in_Ru ty_Ru tyok_Ru nm_Ru hown hK hP hD hS 0 rfl rfl 9 (by decide) (hts _ t_195) (fun _ h9 => h9) rfl (by decide +kernel) rfl rfl (Nat.le_of_ble_eq_true rfl) d_Ru_begin_12 (fun H locs hP hD hS => ?_)
  have hP : va_P E.1 vwCl [(rn, .inr (5, [.ref k, .ref o, .ref ca, .ref a, .ref b, .ref v, .ref t, .int (kb true), .int (nI g0), .int (nI 0), .int (nI en), .int (nI rf), .int (nI rc)])), (k, .inr (1, [.ref kw, .ref kx, .int (nI cnt)])), (o, .inr (2, [.ref ob, .int (nI siz)])), (ob, .inl (E.2.1 0, 160, .inl fm))] H := hP
  have hD : va_D A [(rn, .inr (5, [.ref k, .ref o, .ref ca, .ref a, .ref b, .ref v, .ref t, .int (kb true), .int (nI g0), .int (nI 0), .int (nI en), .int (nI rf), .int (nI rc)])), (k, .inr (1, [.ref kw, .ref kx, .int (nI cnt)])), (o, .inr (2, [.ref ob, .int (nI siz)])), (ob, .inl (E.2.1 0, 160, .inl fm))] := hD
  refine lv_aload_n hx hb d_Ru_begin_15 rfl (lv_at hl 0 rfl) ?_
  refine lv_iconst (v := nI 0) hx hb d_Ru_begin_16 (by decide) ?_
  refine va_put (D := E.1) (ci := 5) (v := .int (nI 0)) (ty := .int) (C := "WideStack$Run") (T := T_Ru) (N := 13) hx hb hts in_Ru ty_Ru tyok_Ru nm_Ru hown hK hP hD hS 0 rfl rfl 10 (by decide) (hts _ t_196) (fun _ h9 => h9) rfl (by decide +kernel) rfl rfl (Nat.le_of_ble_eq_true rfl) d_Ru_begin_17 (fun H locs hP hD hS => ?_)
  have hP : va_P E.1 vwCl [(rn, .inr (5, [.ref k, .ref o, .ref ca, .ref a, .ref b, .ref v, .ref t, .int (kb true), .int (nI g0), .int (nI 0), .int (nI 0), .int (nI rf), .int (nI rc)])), (k, .inr (1, [.ref kw, .ref kx, .int (nI cnt)])), (o, .inr (2, [.ref ob, .int (nI siz)])), (ob, .inl (E.2.1 0, 160, .inl fm))] H := hP
  have hD : va_D A [(rn, .inr (5, [.ref k, .ref o, .ref ca, .ref a, .ref b, .ref v, .ref t, .int (kb true), .int (nI g0), .int (nI 0), .int (nI 0), .int (nI rf), .int (nI rc)])), (k, .inr (1, [.ref kw, .ref kx, .int (nI cnt)])), (o, .inr (2, [.ref ob, .int (nI siz)])), (ob, .inl (E.2.1 0, 160, .inl fm))] := hD
  refine lv_aload_n hx hb d_Ru_begin_20 rfl (lv_at hl 0 rfl) ?_
  refine lv_iconst (v := nI 0) hx hb d_Ru_begin_21 (by decide) ?_
  refine va_put (D := E.1) (ci := 5) (v := .int (nI 0)) (ty := .int) (C := "WideStack$Run") (T := T_Ru) (N := 13) hx hb hts in_Ru ty_Ru tyok_Ru nm_Ru hown hK hP hD hS 0 rfl rfl 11 (by decide) (hts _ t_197) (fun _ h9 => h9) rfl (by decide +kernel) rfl rfl (Nat.le_of_ble_eq_true rfl) d_Ru_begin_22 (fun H locs hP hD hS => ?_)
  have hP : va_P E.1 vwCl [(rn, .inr (5, [.ref k, .ref o, .ref ca, .ref a, .ref b, .ref v, .ref t, .int (kb true), .int (nI g0), .int (nI 0), .int (nI 0), .int (nI 0), .int (nI rc)])), (k, .inr (1, [.ref kw, .ref kx, .int (nI cnt)])), (o, .inr (2, [.ref ob, .int (nI siz)])), (ob, .inl (E.2.1 0, 160, .inl fm))] H := hP
  have hD : va_D A [(rn, .inr (5, [.ref k, .ref o, .ref ca, .ref a, .ref b, .ref v, .ref t, .int (kb true), .int (nI g0), .int (nI 0), .int (nI 0), .int (nI 0), .int (nI rc)])), (k, .inr (1, [.ref kw, .ref kx, .int (nI cnt)])), (o, .inr (2, [.ref ob, .int (nI siz)])), (ob, .inl (E.2.1 0, 160, .inl fm))] := hD
  refine lv_aload_n hx hb d_Ru_begin_25 rfl (lv_at hl 0 rfl) ?_
  refine lv_iconst (v := nI 0) hx hb d_Ru_begin_26 (by decide) ?_
  refine va_put (D := E.1) (ci := 5) (v := .int (nI 0)) (ty := .int) (C := "WideStack$Run") (T := T_Ru) (N := 13) hx hb hts in_Ru ty_Ru tyok_Ru nm_Ru hown hK hP hD hS 0 rfl rfl 12 (by decide) (hts _ t_198) (fun _ h9 => h9) rfl (by decide +kernel) rfl rfl (Nat.le_of_ble_eq_true rfl) d_Ru_begin_27 (fun H locs hP hD hS => ?_)
  have hP : va_P E.1 vwCl [(rn, .inr (5, [.ref k, .ref o, .ref ca, .ref a, .ref b, .ref v, .ref t, .int (kb true), .int (nI g0), .int (nI 0), .int (nI 0), .int (nI 0), .int (nI 0)])), (k, .inr (1, [.ref kw, .ref kx, .int (nI cnt)])), (o, .inr (2, [.ref ob, .int (nI siz)])), (ob, .inl (E.2.1 0, 160, .inl fm))] H := hP
  have hD : va_D A [(rn, .inr (5, [.ref k, .ref o, .ref ca, .ref a, .ref b, .ref v, .ref t, .int (kb true), .int (nI g0), .int (nI 0), .int (nI 0), .int (nI 0), .int (nI 0)])), (k, .inr (1, [.ref kw, .ref kx, .int (nI cnt)])), (o, .inr (2, [.ref ob, .int (nI siz)])), (ob, .inl (E.2.1 0, 160, .inl fm))] := hD
  refine lv_aload_n hx hb d_Ru_begin_30 rfl (lv_at hl 0 rfl) ?_
  refine va_get (D := E.1) (ci := 5) (v := .ref k) (C := "WideStack$Run") (T := T_Ru) (N := 13) hx hb hts in_Ru hown hK hP 0 rfl rfl 0 (by decide) (hts _ t_186) (fun _ h9 => h9) rfl d_Ru_begin_31 ?_
  refine k_Vv (As := []) (rest := []) ⟨hx, hb, hml, hown, hts⟩ (c_St_empty l E k kw kx cnt) (k_cwV 0 hts t_282 t_283 t_284 t_65 t_285 (by decide +kernel) ⟨Nat.le_of_ble_eq_true rfl, Nat.le_of_ble_eq_true rfl⟩) hK hG hA hP hD hS [1] rfl (by decide) 1 rfl rfl (fun _ => rfl) rfl hl.1 rfl (Nat.le_of_ble_eq_true rfl) d_Ru_begin_34 ⟨Nat.zero_le _, Nat.zero_le _⟩ (fun u0 H locs hu0 hP hD hS => ?_)
  have hP : va_P E.1 vwCl [(rn, .inr (5, [.ref k, .ref o, .ref ca, .ref a, .ref b, .ref v, .ref t, .int (kb true), .int (nI g0), .int (nI 0), .int (nI 0), .int (nI 0), .int (nI 0)])), (k, .inr (1, [.ref kw, .ref kx, .int (nI 0)])), (o, .inr (2, [.ref ob, .int (nI siz)])), (ob, .inl (E.2.1 0, 160, .inl fm))] H := hP
  have hD : va_D A [(rn, .inr (5, [.ref k, .ref o, .ref ca, .ref a, .ref b, .ref v, .ref t, .int (kb true), .int (nI g0), .int (nI 0), .int (nI 0), .int (nI 0), .int (nI 0)])), (k, .inr (1, [.ref kw, .ref kx, .int (nI 0)])), (o, .inr (2, [.ref ob, .int (nI siz)])), (ob, .inl (E.2.1 0, 160, .inl fm))] := hD
  refine lv_aload_n hx hb d_Ru_begin_37 rfl (lv_at hl 0 rfl) ?_
  refine va_get (D := E.1) (ci := 5) (v := .ref o) (C := "WideStack$Run") (T := T_Ru) (N := 13) hx hb hts in_Ru hown hK hP 0 rfl rfl 1 (by decide) (hts _ t_187) (fun _ h9 => h9) rfl d_Ru_begin_38 ?_
  refine k_Vv (As := []) (rest := []) ⟨hx, hb, hml, hown, hts⟩ (c_So_empty l E o ob siz fm) (k_cwV 0 hts t_286 t_287 t_288 t_66 t_289 (by decide +kernel) ⟨Nat.le_of_ble_eq_true rfl, Nat.le_of_ble_eq_true rfl⟩) hK hG hA hP hD hS [2, 3] rfl (by decide) 2 rfl rfl (fun _ => rfl) rfl hl.1 rfl (Nat.le_of_ble_eq_true rfl) d_Ru_begin_41 ⟨Nat.zero_le _, Nat.zero_le _⟩ (fun u H locs hu hP hD hS => ?_)
  have hP : va_P E.1 vwCl [(rn, .inr (5, [.ref k, .ref o, .ref ca, .ref a, .ref b, .ref v, .ref t, .int (kb true), .int (nI g0), .int (nI 0), .int (nI 0), .int (nI 0), .int (nI 0)])), (k, .inr (1, [.ref kw, .ref kx, .int (nI 0)])), (o, .inr (2, [.ref ob, .int (nI 0)])), (ob, .inl (E.2.1 0, 160, .inl u))] H := hP
  have hD : va_D A [(rn, .inr (5, [.ref k, .ref o, .ref ca, .ref a, .ref b, .ref v, .ref t, .int (kb true), .int (nI g0), .int (nI 0), .int (nI 0), .int (nI 0), .int (nI 0)])), (k, .inr (1, [.ref kw, .ref kx, .int (nI 0)])), (o, .inr (2, [.ref ob, .int (nI 0)])), (ob, .inl (E.2.1 0, 160, .inl u))] := hD
  exact hret _ ls _ _ u d_Ru_begin_44 hu hP hS

abbrev y_Ru_forget : MethodName := ⟨"WideStack$Run", "forget", "()V"⟩
theorem d_Ru_forget_0 : decode prog_7_method_2_code 0 = .ok (.aload_n 0, 1) := by decide +kernel
theorem d_Ru_forget_1 : decode prog_7_method_2_code 1 = .ok (.iconst 0, 1) := by decide +kernel
theorem d_Ru_forget_2 : decode prog_7_method_2_code 2 = .ok (.invokevirtual 65, 3) := by decide +kernel
theorem d_Ru_forget_5 : decode prog_7_method_2_code 5 = .ok (.aload_n 0, 1) := by decide +kernel
theorem d_Ru_forget_6 : decode prog_7_method_2_code 6 = .ok (.iconst 0, 1) := by decide +kernel
theorem d_Ru_forget_7 : decode prog_7_method_2_code 7 = .ok (.putfield 45, 3) := by decide +kernel
theorem d_Ru_forget_10 : decode prog_7_method_2_code 10 = .ok (.return_, 1) := by decide +kernel
def rm_c_R_forget : Room := { frames := 3, cells := 0, slots := 0, locals := 64 }
set_option maxHeartbeats 4000000 in
set_option maxRecDepth 100000 in
theorem c_R_forget (l : Launch) (E : kE) (rn k o ca a b v t gas ctr en rf rc : Nat) (sb : Bool) (kw kx cnt ob siz : Nat) (fm : Nat → Int32) : Kv l y_Ru_forget (kW y_Ru_forget prog_7_method_2_code 1 (none)) rm_c_R_forget E [.ref rn] [(rn, .inr (5, [.ref k, .ref o, .ref ca, .ref a, .ref b, .ref v, .ref t, .int (kb sb), .int (nI gas), .int (nI ctr), .int (nI en), .int (nI rf), .int (nI rc)])), (k, .inr (1, [.ref kw, .ref kx, .int (nI cnt)])), (o, .inr (2, [.ref ob, .int (nI siz)])), (ob, .inl (E.2.1 0, 160, .inl fm))] (S := Nat → Int32) (fun u => ∀ j, j < 160 → u j = nI 0) (fun u => [(rn, .inr (5, [.ref k, .ref o, .ref ca, .ref a, .ref b, .ref v, .ref t, .int (kb false), .int (nI 0), .int (nI 0), .int (nI 0), .int (nI 0), .int (nI 0)])), (k, .inr (1, [.ref kw, .ref kx, .int (nI 0)])), (o, .inr (2, [.ref ob, .int (nI 0)])), (ob, .inl (E.2.1 0, 160, .inl u))]) := by
  refine Kv.ofW (cc := prog_7_method_2_code) (maxL := 1) (by decide) (Nat.le_of_ble_eq_true rfl) ?_
  intro p e s m args below meth c A ls Q hx hb hts hown hml hK hG hA hP hD hS hl hret
  have hl : lv_has ls 1 [(0, .ref rn)] := hl
  refine lv_aload_n hx hb d_Ru_forget_0 rfl (lv_at hl 0 rfl) ?_
  refine lv_iconst (v := nI 0) hx hb d_Ru_forget_1 (by decide) ?_
  refine k_Vv (As := [.int (nI 0)]) (rest := []) ⟨hx, hb, hml, hown, hts⟩ (c_R_begin l E rn k o ca a b v t gas ctr en rf rc sb kw kx cnt ob siz 0 fm) (k_cwV 1 hts t_278 t_279 t_280 t_64 t_281 (by decide +kernel) ⟨Nat.le_of_ble_eq_true rfl, Nat.le_of_ble_eq_true rfl⟩) hK hG hA hP hD hS [0, 1, 2, 3] rfl (by decide) 0 rfl rfl (fun _ => rfl) rfl hl.1 rfl (Nat.le_of_ble_eq_true rfl) d_Ru_forget_2 ⟨Nat.zero_le _, Nat.zero_le _⟩ (fun u H locs hu hP hD hS => ?_)
  have hP : va_P E.1 vwCl [(rn, .inr (5, [.ref k, .ref o, .ref ca, .ref a, .ref b, .ref v, .ref t, .int (kb true), .int (nI 0), .int (nI 0), .int (nI 0), .int (nI 0), .int (nI 0)])), (k, .inr (1, [.ref kw, .ref kx, .int (nI 0)])), (o, .inr (2, [.ref ob, .int (nI 0)])), (ob, .inl (E.2.1 0, 160, .inl u))] H := hP
  have hD : va_D A [(rn, .inr (5, [.ref k, .ref o, .ref ca, .ref a, .ref b, .ref v, .ref t, .int (kb true), .int (nI 0), .int (nI 0), .int (nI 0), .int (nI 0), .int (nI 0)])), (k, .inr (1, [.ref kw, .ref kx, .int (nI 0)])), (o, .inr (2, [.ref ob, .int (nI 0)])), (ob, .inl (E.2.1 0, 160, .inl u))] := hD
  refine lv_aload_n hx hb d_Ru_forget_5 rfl (lv_at hl 0 rfl) ?_
  refine lv_iconst (v := nI 0) hx hb d_Ru_forget_6 (by decide) ?_
  refine k_top (y := kb false) (by decide) ?_
  refine va_put (D := E.1) (ci := 5) (v := .int (kb false)) (ty := .boolean) (C := "WideStack$Run") (T := T_Ru) (N := 13) hx hb hts in_Ru ty_Ru tyok_Ru nm_Ru hown hK hP hD hS 0 rfl rfl 7 (by decide) (hts _ t_193) (fun _ h9 => h9) rfl (by decide +kernel) rfl rfl (Nat.le_of_ble_eq_true rfl) d_Ru_forget_7 (fun H locs hP hD hS => ?_)
  have hP : va_P E.1 vwCl [(rn, .inr (5, [.ref k, .ref o, .ref ca, .ref a, .ref b, .ref v, .ref t, .int (kb false), .int (nI 0), .int (nI 0), .int (nI 0), .int (nI 0), .int (nI 0)])), (k, .inr (1, [.ref kw, .ref kx, .int (nI 0)])), (o, .inr (2, [.ref ob, .int (nI 0)])), (ob, .inl (E.2.1 0, 160, .inl u))] H := hP
  have hD : va_D A [(rn, .inr (5, [.ref k, .ref o, .ref ca, .ref a, .ref b, .ref v, .ref t, .int (kb false), .int (nI 0), .int (nI 0), .int (nI 0), .int (nI 0), .int (nI 0)])), (k, .inr (1, [.ref kw, .ref kx, .int (nI 0)])), (o, .inr (2, [.ref ob, .int (nI 0)])), (ob, .inl (E.2.1 0, 160, .inl u))] := hD
  exact hret _ ls _ _ u d_Ru_forget_10 hu hP hS

abbrev y_Ru_asMemory : MethodName := ⟨"WideStack$Run", "asMemory", "([I)I"⟩
theorem d_Ru_asMemory_0 : decode prog_7_method_16_code 0 = .ok (.aload_n 0, 1) := by decide +kernel
theorem d_Ru_asMemory_1 : decode prog_7_method_16_code 1 = .ok (.sipush 161, 3) := by decide +kernel
theorem d_Ru_asMemory_4 : decode prog_7_method_16_code 4 = .ok (.invokestatic 159, 3) := by decide +kernel
theorem d_Ru_asMemory_7 : decode prog_7_method_16_code 7 = .ok (.ireturn, 1) := by decide +kernel
def rm_c_R_asMemory : Room := { frames := 1, cells := 0, slots := 0, locals := 22 }
set_option maxHeartbeats 4000000 in
set_option maxRecDepth 100000 in
theorem c_R_asMemory (l : Launch) (E : kE) (a : Nat) (f : Nat → Int32) : Kp l y_Ru_asMemory (kW y_Ru_asMemory prog_7_method_16_code 1 (some .int)) rm_c_R_asMemory E [.ref a] [(a, .inl (E.2.1 0, 8, .inl f))] (fun r => r = nI (min (wv f 8) 161)) := by
  refine Kp.ofI (cc := prog_7_method_16_code) (maxL := 1) (by decide) (Nat.le_of_ble_eq_true rfl) ?_
  intro p e s m args below meth c A ls Q hx hb hts hown hml hK hG hA hP hD hS hl hret
  have hl : lv_has ls 1 [(0, .ref a)] := hl
  refine lv_aload_n hx hb d_Ru_asMemory_0 rfl (lv_at hl 0 rfl) ?_
  refine lv_sipush (v := nI 161) hx hb d_Ru_asMemory_1 (by decide) ?_
  refine k_Sp (As := [.ref a, .int (nI 161)]) (rest := []) ⟨hx, hb, hml, hown, hts⟩ (c_W_atMost l E a 161 f (by decide)) (k_cwS 2 hts t_380 t_381 t_73 t_382 (by decide +kernel) ⟨Nat.le_of_ble_eq_true rfl, Nat.le_of_ble_eq_true rfl⟩) hK hG hA hP hD hS [0] rfl (by decide) rfl hl.1 rfl (Nat.le_of_ble_eq_true rfl) d_Ru_asMemory_4 ⟨Nat.zero_le _, Nat.zero_le _⟩ (fun r4 hu4 => ?_)
  subst hu4
  exact hret _ ls _ d_Ru_asMemory_7 rfl

theorem sw_bu : ∀ o : Nat, o < 256 → Op.lookupswitch.offset ([(81, 43), (82, 43), (83, 48), (243, 52)] : List (Int × Int)) 76 (o : Int) = if o = 81 ∨ o = 82 then 43 else if o = 83 then 48 else if o = 243 then 52 else 76 := by decide +kernel
abbrev y_Ru_bytesUsed : MethodName := ⟨"WideStack$Run", "bytesUsed", "(I)I"⟩
theorem d_Ru_bytesUsed_0 : decode prog_7_method_15_code 0 = .ok (.aload_n 0, 1) := by decide +kernel
theorem d_Ru_bytesUsed_1 : decode prog_7_method_15_code 1 = .ok (.getfield 32, 3) := by decide +kernel
theorem d_Ru_bytesUsed_4 : decode prog_7_method_15_code 4 = .ok (.invokestatic 153, 3) := by decide +kernel
theorem d_Ru_bytesUsed_7 : decode prog_7_method_15_code 7 = .ok (.istore_n 2, 1) := by decide +kernel
theorem d_Ru_bytesUsed_8 : decode prog_7_method_15_code 8 = .ok (.iload_n 1, 1) := by decide +kernel
theorem d_Ru_bytesUsed_9 : decode prog_7_method_15_code 9 = .ok (.lookupswitch 76 #[(81, 43), (82, 43), (83, 48), (243, 52)], 43) := by decide +kernel
theorem d_Ru_bytesUsed_52 : decode prog_7_method_15_code 52 = .ok (.iload_n 2, 1) := by decide +kernel
theorem d_Ru_bytesUsed_53 : decode prog_7_method_15_code 53 = .ok (.bipush 32, 2) := by decide +kernel
theorem d_Ru_bytesUsed_55 : decode prog_7_method_15_code 55 = .ok (.iadd, 1) := by decide +kernel
theorem d_Ru_bytesUsed_56 : decode prog_7_method_15_code 56 = .ok (.ireturn, 1) := by decide +kernel
theorem d_Ru_bytesUsed_57 : decode prog_7_method_15_code 57 = .ok (.iload_n 2, 1) := by decide +kernel
theorem d_Ru_bytesUsed_58 : decode prog_7_method_15_code 58 = .ok (.iconst 1, 1) := by decide +kernel
theorem d_Ru_bytesUsed_59 : decode prog_7_method_15_code 59 = .ok (.iadd, 1) := by decide +kernel
theorem d_Ru_bytesUsed_60 : decode prog_7_method_15_code 60 = .ok (.ireturn, 1) := by decide +kernel
theorem d_Ru_bytesUsed_61 : decode prog_7_method_15_code 61 = .ok (.aload_n 0, 1) := by decide +kernel
theorem d_Ru_bytesUsed_62 : decode prog_7_method_15_code 62 = .ok (.getfield 36, 3) := by decide +kernel
theorem d_Ru_bytesUsed_65 : decode prog_7_method_15_code 65 = .ok (.invokestatic 156, 3) := by decide +kernel
theorem d_Ru_bytesUsed_68 : decode prog_7_method_15_code 68 = .ok (.ifCond .eq 7, 3) := by decide +kernel
theorem d_Ru_bytesUsed_71 : decode prog_7_method_15_code 71 = .ok (.iconst 0, 1) := by decide +kernel
theorem d_Ru_bytesUsed_72 : decode prog_7_method_15_code 72 = .ok (.goto 12, 3) := by decide +kernel
theorem d_Ru_bytesUsed_75 : decode prog_7_method_15_code 75 = .ok (.iload_n 2, 1) := by decide +kernel
theorem d_Ru_bytesUsed_76 : decode prog_7_method_15_code 76 = .ok (.aload_n 0, 1) := by decide +kernel
theorem d_Ru_bytesUsed_77 : decode prog_7_method_15_code 77 = .ok (.getfield 36, 3) := by decide +kernel
theorem d_Ru_bytesUsed_80 : decode prog_7_method_15_code 80 = .ok (.invokestatic 153, 3) := by decide +kernel
theorem d_Ru_bytesUsed_83 : decode prog_7_method_15_code 83 = .ok (.iadd, 1) := by decide +kernel
theorem d_Ru_bytesUsed_84 : decode prog_7_method_15_code 84 = .ok (.ireturn, 1) := by decide +kernel
theorem d_Ru_bytesUsed_85 : decode prog_7_method_15_code 85 = .ok (.iconst 0, 1) := by decide +kernel
theorem d_Ru_bytesUsed_86 : decode prog_7_method_15_code 86 = .ok (.ireturn, 1) := by decide +kernel
def rm_c_R_bytesUsed : Room := { frames := 2, cells := 0, slots := 0, locals := 42 }
set_option maxHeartbeats 4000000 in
set_option maxRecDepth 100000 in
theorem c_R_bytesUsed (l : Launch) (E : kE) (rn k o ca a b v t gas ctr en rf rc : Nat) (sb : Bool) (p0 : Nat) (ho : p0 < 256) (f x : Nat → Int32) : Kp l y_Ru_bytesUsed (kW y_Ru_bytesUsed prog_7_method_15_code 3 (some .int)) rm_c_R_bytesUsed E [.ref rn, .int (nI p0)] [(rn, .inr (5, [.ref k, .ref o, .ref ca, .ref a, .ref b, .ref v, .ref t, .int (kb sb), .int (nI gas), .int (nI ctr), .int (nI en), .int (nI rf), .int (nI rc)])), (a, .inl (E.2.1 0, 8, .inl f)), (b, .inl (E.2.1 0, 8, .inl x))] (fun r => r = nI (m_usedC p0 (wv f 8) (wv x 8))) := by
  refine Kp.ofI (cc := prog_7_method_15_code) (maxL := 3) (by decide) (Nat.le_of_ble_eq_true rfl) ?_
  intro p e s m args below meth c A ls Q hx hb hts hown hml hK hG hA hP hD hS hl hret
  have hl : lv_has ls 3 [(0, .ref rn), (1, .int (nI p0))] := hl
  refine lv_aload_n hx hb d_Ru_bytesUsed_0 rfl (lv_at hl 0 rfl) ?_
  refine va_get (D := E.1) (ci := 5) (v := .ref a) (C := "WideStack$Run") (T := T_Ru) (N := 13) hx hb hts in_Ru hown hK hP 0 rfl rfl 3 (by decide) (hts _ t_189) (fun _ h9 => h9) rfl d_Ru_bytesUsed_1 ?_
  refine k_Sp (As := [.ref a]) (rest := []) ⟨hx, hb, hml, hown, hts⟩ (c_R_asMemory l E a f) (k_cwS 1 hts t_377 t_378 t_64 t_379 (by decide +kernel) ⟨Nat.le_of_ble_eq_true rfl, Nat.le_of_ble_eq_true rfl⟩) hK hG hA hP hD hS [1] rfl (by decide) rfl hl.1 rfl (Nat.le_of_ble_eq_true rfl) d_Ru_bytesUsed_4 ⟨Nat.zero_le _, Nat.zero_le _⟩ (fun r4 hu4 => ?_)
  subst hu4
  refine lv_istore_n (lv' := [(2, .int (nI (min (wv f 8) 161))), (0, .ref rn), (1, .int (nI p0))]) hx hb d_Ru_bytesUsed_7 rfl hl (by decide) rfl (fun ls hl => ?_)
  refine lv_iload_n hx hb d_Ru_bytesUsed_8 rfl (lv_at hl 2 rfl) ?_
  by_cases c1 : p0 = 81 ∨ p0 = 82
  · refine lv_lookup (off := 43) (tgt := 52) hx hb d_Ru_bytesUsed_9 (by decide) (by rw [nI_toInt (by omega)]; exact (sw_bu p0 ho).trans (by rw [if_pos c1])) (by decide) ?_
    refine lv_iload_n hx hb d_Ru_bytesUsed_52 rfl (lv_at hl 0 rfl) ?_
    refine lv_bipush (v := nI 32) hx hb d_Ru_bytesUsed_53 (by decide) ?_
    refine lv_iadd hx hb d_Ru_bytesUsed_55 ?_
    refine k_top (nI_add _ _) ?_
    exact hret _ ls _ d_Ru_bytesUsed_56 (by unfold m_usedC; rw [if_pos c1])
  by_cases c2 : p0 = 83
  · refine lv_lookup (off := 48) (tgt := 57) hx hb d_Ru_bytesUsed_9 (by decide) (by rw [nI_toInt (by omega)]; exact (sw_bu p0 ho).trans (by rw [if_neg c1, if_pos c2])) (by decide) ?_
    refine lv_iload_n hx hb d_Ru_bytesUsed_57 rfl (lv_at hl 0 rfl) ?_
    refine lv_iconst (v := nI 1) hx hb d_Ru_bytesUsed_58 (by decide) ?_
    refine lv_iadd hx hb d_Ru_bytesUsed_59 ?_
    refine k_top (nI_add _ _) ?_
    exact hret _ ls _ d_Ru_bytesUsed_60 (by unfold m_usedC; rw [if_neg c1, if_pos c2])
  by_cases c3 : p0 = 243
  · refine lv_lookup (off := 52) (tgt := 61) hx hb d_Ru_bytesUsed_9 (by decide) (by rw [nI_toInt (by omega)]; exact (sw_bu p0 ho).trans (by rw [if_neg c1, if_neg c2, if_pos c3])) (by decide) ?_
    refine lv_aload_n hx hb d_Ru_bytesUsed_61 rfl (lv_at hl 1 rfl) ?_
    refine va_get (D := E.1) (ci := 5) (v := .ref b) (C := "WideStack$Run") (T := T_Ru) (N := 13) hx hb hts in_Ru hown hK hP 0 rfl rfl 4 (by decide) (hts _ t_190) (fun _ h9 => h9) rfl d_Ru_bytesUsed_62 ?_
    refine k_Sp (As := [.ref b]) (rest := []) ⟨hx, hb, hml, hown, hts⟩ (c_W_isZero l E b x) (k_cwS 1 hts t_383 t_384 t_73 t_385 (by decide +kernel) ⟨Nat.le_of_ble_eq_true rfl, Nat.le_of_ble_eq_true rfl⟩) hK hG hA hP hD hS [2] rfl (by decide) rfl hl.1 rfl (Nat.le_of_ble_eq_true rfl) d_Ru_bytesUsed_65 ⟨Nat.zero_le _, Nat.zero_le _⟩ (fun r65 hu65 => ?_)
    subst hu65
    refine lv_if_eq (tgt := 75) hx hb d_Ru_bytesUsed_68 (by decide) (fun h68 => ?_) (fun h68 => ?_)
    · refine lv_iload_n hx hb d_Ru_bytesUsed_75 rfl (lv_at hl 0 rfl) ?_
      refine lv_aload_n hx hb d_Ru_bytesUsed_76 rfl (lv_at hl 1 rfl) ?_
      refine va_get (D := E.1) (ci := 5) (v := .ref b) (C := "WideStack$Run") (T := T_Ru) (N := 13) hx hb hts in_Ru hown hK hP 0 rfl rfl 4 (by decide) (hts _ t_190) (fun _ h9 => h9) rfl d_Ru_bytesUsed_77 ?_
      refine k_Sp (As := [.ref b]) (rest := [.int (nI (min (wv f 8) 161))]) ⟨hx, hb, hml, hown, hts⟩ (c_R_asMemory l E b x) (k_cwS 1 hts t_377 t_378 t_64 t_379 (by decide +kernel) ⟨Nat.le_of_ble_eq_true rfl, Nat.le_of_ble_eq_true rfl⟩) hK hG hA hP hD hS [2] rfl (by decide) rfl hl.1 rfl (Nat.le_of_ble_eq_true rfl) d_Ru_bytesUsed_80 ⟨Nat.zero_le _, Nat.zero_le _⟩ (fun r80 hu80 => ?_)
      subst hu80
      refine lv_iadd hx hb d_Ru_bytesUsed_83 ?_
      refine k_top (nI_add _ _) ?_
      first | exact hret _ ls _ d_Ru_bytesUsed_84 (by unfold m_usedC; rw [if_neg c1, if_neg c2, if_pos c3, if_pos (of_decide_eq_true (kb_n0 h68))]) | exact hret _ ls _ d_Ru_bytesUsed_84 (by unfold m_usedC; rw [if_neg c1, if_neg c2, if_pos c3, if_neg (of_decide_eq_false (kb_0.mp h68))])
    · refine lv_iconst (v := nI 0) hx hb d_Ru_bytesUsed_71 (by decide) ?_
      refine lv_goto (tgt := 84) hx hb d_Ru_bytesUsed_72 (by decide) ?_
      first | exact hret _ ls _ d_Ru_bytesUsed_84 (by unfold m_usedC; rw [if_neg c1, if_neg c2, if_pos c3, if_pos (of_decide_eq_true (kb_n0 h68))]) | exact hret _ ls _ d_Ru_bytesUsed_84 (by unfold m_usedC; rw [if_neg c1, if_neg c2, if_pos c3, if_neg (of_decide_eq_false (kb_0.mp h68))])
  · refine lv_lookup (off := 76) (tgt := 85) hx hb d_Ru_bytesUsed_9 (by decide) (by rw [nI_toInt (by omega)]; exact (sw_bu p0 ho).trans (by rw [if_neg c1, if_neg c2, if_neg c3])) (by decide) ?_
    refine lv_iconst (v := nI 0) hx hb d_Ru_bytesUsed_85 (by decide) ?_
    exact hret _ ls _ d_Ru_bytesUsed_86 (by unfold m_usedC; rw [if_neg c1, if_neg c2, if_neg c3])

abbrev y_Ru_fullCost : MethodName := ⟨"WideStack$Run", "fullCost", "(I)I"⟩
theorem d_Ru_fullCost_0 : decode prog_7_method_17_code 0 = .ok (.iload_n 1, 1) := by decide +kernel
theorem d_Ru_fullCost_1 : decode prog_7_method_17_code 1 = .ok (.invokestatic 163, 3) := by decide +kernel
theorem d_Ru_fullCost_4 : decode prog_7_method_17_code 4 = .ok (.iconst 3, 1) := by decide +kernel
theorem d_Ru_fullCost_5 : decode prog_7_method_17_code 5 = .ok (.aload_n 0, 1) := by decide +kernel
theorem d_Ru_fullCost_6 : decode prog_7_method_17_code 6 = .ok (.getfield 19, 3) := by decide +kernel
theorem d_Ru_fullCost_9 : decode prog_7_method_17_code 9 = .ok (.aload_n 0, 1) := by decide +kernel
theorem d_Ru_fullCost_10 : decode prog_7_method_17_code 10 = .ok (.iload_n 1, 1) := by decide +kernel
theorem d_Ru_fullCost_11 : decode prog_7_method_17_code 11 = .ok (.invokevirtual 137, 3) := by decide +kernel
theorem d_Ru_fullCost_14 : decode prog_7_method_17_code 14 = .ok (.invokevirtual 166, 3) := by decide +kernel
theorem d_Ru_fullCost_17 : decode prog_7_method_17_code 17 = .ok (.imul, 1) := by decide +kernel
theorem d_Ru_fullCost_18 : decode prog_7_method_17_code 18 = .ok (.iadd, 1) := by decide +kernel
theorem d_Ru_fullCost_19 : decode prog_7_method_17_code 19 = .ok (.ireturn, 1) := by decide +kernel
def rm_c_R_fullCost : Room := { frames := 3, cells := 0, slots := 0, locals := 64 }
set_option maxHeartbeats 4000000 in
set_option maxRecDepth 100000 in
theorem c_R_fullCost (l : Launch) (E : kE) (rn k o ca a b v t gas ctr en rf rc : Nat) (sb : Bool) (p0 : Nat) (ho : p0 < 256) (ob siz : Nat) (f x fm : Nat → Int32) (hs : siz ≤ 160) : Kp l y_Ru_fullCost (kW y_Ru_fullCost prog_7_method_17_code 2 (some .int)) rm_c_R_fullCost E [.ref rn, .int (nI p0)] [(rn, .inr (5, [.ref k, .ref o, .ref ca, .ref a, .ref b, .ref v, .ref t, .int (kb sb), .int (nI gas), .int (nI ctr), .int (nI en), .int (nI rf), .int (nI rc)])), (o, .inr (2, [.ref ob, .int (nI siz)])), (ob, .inl (E.2.1 0, 160, .inl fm)), (a, .inl (E.2.1 0, 8, .inl f)), (b, .inl (E.2.1 0, 8, .inl x))] (fun r => r = nI (m_cost p0 + 3 * ((m_usedC p0 (wv f 8) (wv x 8) + 31) / 32 - siz / 32))) := by
  refine Kp.ofI (cc := prog_7_method_17_code) (maxL := 2) (by decide) (Nat.le_of_ble_eq_true rfl) ?_
  intro p e s m args below meth c A ls Q hx hb hts hown hml hK hG hA hP hD hS hl hret
  have hl : lv_has ls 2 [(0, .ref rn), (1, .int (nI p0))] := hl
  have huc := m_usedC_le p0 (wv f 8) (wv x 8)
  refine lv_iload_n hx hb d_Ru_fullCost_0 rfl (lv_at hl 1 rfl) ?_
  refine k_Sp (As := [.int (nI p0)]) (rest := []) ⟨hx, hb, hml, hown, hts⟩ (c_I_cost l E p0 ho) (k_cwS 1 hts t_390 t_391 t_72 t_392 (by decide +kernel) ⟨Nat.le_of_ble_eq_true rfl, Nat.le_of_ble_eq_true rfl⟩) hK hG hA hP hD hS [] rfl (by decide) rfl hl.1 rfl (Nat.le_of_ble_eq_true rfl) d_Ru_fullCost_1 ⟨Nat.zero_le _, Nat.zero_le _⟩ (fun r1 hu1 => ?_)
  subst hu1
  refine lv_iconst (v := nI 3) hx hb d_Ru_fullCost_4 (by decide) ?_
  refine lv_aload_n hx hb d_Ru_fullCost_5 rfl (lv_at hl 0 rfl) ?_
  refine va_get (D := E.1) (ci := 5) (v := .ref o) (C := "WideStack$Run") (T := T_Ru) (N := 13) hx hb hts in_Ru hown hK hP 0 rfl rfl 1 (by decide) (hts _ t_187) (fun _ h9 => h9) rfl d_Ru_fullCost_6 ?_
  refine lv_aload_n hx hb d_Ru_fullCost_9 rfl (lv_at hl 0 rfl) ?_
  refine lv_iload_n hx hb d_Ru_fullCost_10 rfl (lv_at hl 1 rfl) ?_
  refine k_Vp (As := [.int (nI p0)]) (rest := [.ref o, .int (nI 3), .int (nI (m_cost p0))]) ⟨hx, hb, hml, hown, hts⟩ (c_R_bytesUsed l E rn k o ca a b v t gas ctr en rf rc sb p0 ho f x) (k_cwV 1 hts t_373 t_375 t_3 t_64 t_376 (by decide +kernel) ⟨Nat.le_of_ble_eq_true rfl, Nat.le_of_ble_eq_true rfl⟩) hK hG hA hP hD hS [0, 3, 4] rfl (by decide) 0 rfl rfl rfl hl.1 rfl (Nat.le_of_ble_eq_true rfl) d_Ru_fullCost_11 ⟨Nat.zero_le _, Nat.zero_le _⟩ (fun r11 hu11 => ?_)
  subst hu11
  refine k_Vp (As := [.int (nI (m_usedC p0 (wv f 8) (wv x 8)))]) (rest := [.int (nI 3), .int (nI (m_cost p0))]) ⟨hx, hb, hml, hown, hts⟩ (c_So_growth l E o ob siz (m_usedC p0 (wv f 8) (wv x 8)) fm (by omega) (by omega)) (k_cwV 1 hts t_393 t_394 t_395 t_66 t_396 (by decide +kernel) ⟨Nat.le_of_ble_eq_true rfl, Nat.le_of_ble_eq_true rfl⟩) hK hG hA hP hD hS [1, 2] rfl (by decide) 1 rfl rfl rfl hl.1 rfl (Nat.le_of_ble_eq_true rfl) d_Ru_fullCost_14 ⟨Nat.zero_le _, Nat.zero_le _⟩ (fun r14 hu14 => ?_)
  subst hu14
  refine lv_imul hx hb d_Ru_fullCost_17 ?_
  refine k_top (pk_mul _ _) ?_
  refine lv_iadd hx hb d_Ru_fullCost_18 ?_
  refine k_top (nI_add _ _) ?_
  exact hret _ ls _ d_Ru_fullCost_19 rfl

theorem jm_1 {o B : Nat} (h : o = 86) : m_jumps o B = true := by unfold m_jumps; rw [decide_eq_true h]; rfl
theorem jm_2 {o B : Nat} (h : o ≠ 86) (h2 : o ≠ 87) : m_jumps o B = false := by unfold m_jumps; rw [decide_eq_false h, decide_eq_false h2]; rfl
theorem jm_3 {o B : Nat} (h : o ≠ 86) (h2 : o = 87) (h3 : ¬ kb (decide (B = 0)) = 0) : m_jumps o B = false := by
  unfold m_jumps
  rw [decide_eq_false h, decide_eq_false (p := B ≠ 0) (fun q => q (of_decide_eq_true (kb_n0 h3))), Bool.and_false]
  rfl
theorem jm_4 {o B : Nat} (h2 : o = 87) (h3 : kb (decide (B = 0)) = 0) : m_jumps o B = true := by
  unfold m_jumps
  rw [decide_eq_true h2, decide_eq_true (p := B ≠ 0) (of_decide_eq_false (kb_0.mp h3)), Bool.and_self, Bool.or_true]

abbrev y_Ru_jumps : MethodName := ⟨"WideStack$Run", "jumps", "(I)Z"⟩
theorem d_Ru_jumps_0 : decode prog_7_method_18_code 0 = .ok (.iload_n 1, 1) := by decide +kernel
theorem d_Ru_jumps_1 : decode prog_7_method_18_code 1 = .ok (.bipush 86, 2) := by decide +kernel
theorem d_Ru_jumps_3 : decode prog_7_method_18_code 3 = .ok (.if_icmp .eq 19, 3) := by decide +kernel
theorem d_Ru_jumps_6 : decode prog_7_method_18_code 6 = .ok (.iload_n 1, 1) := by decide +kernel
theorem d_Ru_jumps_7 : decode prog_7_method_18_code 7 = .ok (.bipush 87, 2) := by decide +kernel
theorem d_Ru_jumps_9 : decode prog_7_method_18_code 9 = .ok (.if_icmp .ne 17, 3) := by decide +kernel
theorem d_Ru_jumps_12 : decode prog_7_method_18_code 12 = .ok (.aload_n 0, 1) := by decide +kernel
theorem d_Ru_jumps_13 : decode prog_7_method_18_code 13 = .ok (.getfield 36, 3) := by decide +kernel
theorem d_Ru_jumps_16 : decode prog_7_method_18_code 16 = .ok (.invokestatic 156, 3) := by decide +kernel
theorem d_Ru_jumps_19 : decode prog_7_method_18_code 19 = .ok (.ifCond .ne 7, 3) := by decide +kernel
theorem d_Ru_jumps_22 : decode prog_7_method_18_code 22 = .ok (.iconst 1, 1) := by decide +kernel
theorem d_Ru_jumps_23 : decode prog_7_method_18_code 23 = .ok (.goto 4, 3) := by decide +kernel
theorem d_Ru_jumps_26 : decode prog_7_method_18_code 26 = .ok (.iconst 0, 1) := by decide +kernel
theorem d_Ru_jumps_27 : decode prog_7_method_18_code 27 = .ok (.ireturn, 1) := by decide +kernel
def rm_c_R_jumps : Room := { frames := 1, cells := 0, slots := 0, locals := 21 }
set_option maxHeartbeats 4000000 in
set_option maxRecDepth 100000 in
theorem c_R_jumps (l : Launch) (E : kE) (rn k o ca a b v t gas ctr en rf rc : Nat) (sb : Bool) (p0 : Nat) (ho : p0 < 256) (x : Nat → Int32) : Kp l y_Ru_jumps (kW y_Ru_jumps prog_7_method_18_code 2 (some .boolean)) rm_c_R_jumps E [.ref rn, .int (nI p0)] [(rn, .inr (5, [.ref k, .ref o, .ref ca, .ref a, .ref b, .ref v, .ref t, .int (kb sb), .int (nI gas), .int (nI ctr), .int (nI en), .int (nI rf), .int (nI rc)])), (b, .inl (E.2.1 0, 8, .inl x))] (fun r => r = kb (m_jumps p0 (wv x 8))) := by
  refine Kp.ofZ (cc := prog_7_method_18_code) (maxL := 2) (by decide) (Nat.le_of_ble_eq_true rfl) ?_
  intro p e s m args below meth c A ls Q hx hb hts hown hml hK hG hA hP hD hS hl hret
  have hl : lv_has ls 2 [(0, .ref rn), (1, .int (nI p0))] := hl
  refine lv_iload_n hx hb d_Ru_jumps_0 rfl (lv_at hl 1 rfl) ?_
  refine lv_bipush (v := nI 86) hx hb d_Ru_jumps_1 (by decide) ?_
  refine kn_eq (tgt := 22) hx hb (by omega) (by omega) d_Ru_jumps_3 (by decide) (fun h3 => ?_) (fun h3 => ?_)
  · refine lv_iconst (v := nI 1) hx hb d_Ru_jumps_22 (by decide) ?_
    refine lv_goto (tgt := 27) hx hb d_Ru_jumps_23 (by decide) ?_
    first | exact hret _ ls _ d_Ru_jumps_27 (by decide) (by rw [jm_1 h3]; rfl) | exact hret _ ls _ d_Ru_jumps_27 (by decide) (by rw [jm_2 h3 h9]; rfl) | exact hret _ ls _ d_Ru_jumps_27 (by decide) (by rw [jm_3 h3 h9 h19]; rfl) | exact hret _ ls _ d_Ru_jumps_27 (by decide) (by rw [jm_4 h9 h19]; rfl)
  · refine lv_iload_n hx hb d_Ru_jumps_6 rfl (lv_at hl 1 rfl) ?_
    refine lv_bipush (v := nI 87) hx hb d_Ru_jumps_7 (by decide) ?_
    refine kn_ne (tgt := 26) hx hb (by omega) (by omega) d_Ru_jumps_9 (by decide) (fun h9 => ?_) (fun h9 => ?_)
    · refine lv_iconst (v := nI 0) hx hb d_Ru_jumps_26 (by decide) ?_
      first | exact hret _ ls _ d_Ru_jumps_27 (by decide) (by rw [jm_1 h3]; rfl) | exact hret _ ls _ d_Ru_jumps_27 (by decide) (by rw [jm_2 h3 h9]; rfl) | exact hret _ ls _ d_Ru_jumps_27 (by decide) (by rw [jm_3 h3 h9 h19]; rfl) | exact hret _ ls _ d_Ru_jumps_27 (by decide) (by rw [jm_4 h9 h19]; rfl)
    · refine lv_aload_n hx hb d_Ru_jumps_12 rfl (lv_at hl 0 rfl) ?_
      refine va_get (D := E.1) (ci := 5) (v := .ref b) (C := "WideStack$Run") (T := T_Ru) (N := 13) hx hb hts in_Ru hown hK hP 0 rfl rfl 4 (by decide) (hts _ t_190) (fun _ h9 => h9) rfl d_Ru_jumps_13 ?_
      refine k_Sp (As := [.ref b]) (rest := []) ⟨hx, hb, hml, hown, hts⟩ (c_W_isZero l E b x) (k_cwS 1 hts t_383 t_384 t_73 t_385 (by decide +kernel) ⟨Nat.le_of_ble_eq_true rfl, Nat.le_of_ble_eq_true rfl⟩) hK hG hA hP hD hS [1] rfl (by decide) rfl hl.1 rfl (Nat.le_of_ble_eq_true rfl) d_Ru_jumps_16 ⟨Nat.zero_le _, Nat.zero_le _⟩ (fun r16 hu16 => ?_)
      subst hu16
      refine lv_if_ne (tgt := 26) hx hb d_Ru_jumps_19 (by decide) (fun h19 => ?_) (fun h19 => ?_)
      · refine lv_iconst (v := nI 0) hx hb d_Ru_jumps_26 (by decide) ?_
        first | exact hret _ ls _ d_Ru_jumps_27 (by decide) (by rw [jm_1 h3]; rfl) | exact hret _ ls _ d_Ru_jumps_27 (by decide) (by rw [jm_2 h3 h9]; rfl) | exact hret _ ls _ d_Ru_jumps_27 (by decide) (by rw [jm_3 h3 h9 h19]; rfl) | exact hret _ ls _ d_Ru_jumps_27 (by decide) (by rw [jm_4 h9 h19]; rfl)
      · refine lv_iconst (v := nI 1) hx hb d_Ru_jumps_22 (by decide) ?_
        refine lv_goto (tgt := 27) hx hb d_Ru_jumps_23 (by decide) ?_
        first | exact hret _ ls _ d_Ru_jumps_27 (by decide) (by rw [jm_1 h3]; rfl) | exact hret _ ls _ d_Ru_jumps_27 (by decide) (by rw [jm_2 h3 h9]; rfl) | exact hret _ ls _ d_Ru_jumps_27 (by decide) (by rw [jm_3 h3 h9 h19]; rfl) | exact hret _ ls _ d_Ru_jumps_27 (by decide) (by rw [jm_4 h9 h19]; rfl)

abbrev y_Ru_fail : MethodName := ⟨"WideStack$Run", "fail", "(I)V"⟩
theorem d_Ru_fail_0 : decode prog_7_method_13_code 0 = .ok (.aload_n 0, 1) := by decide +kernel
theorem d_Ru_fail_1 : decode prog_7_method_13_code 1 = .ok (.iload_n 1, 1) := by decide +kernel
theorem d_Ru_fail_2 : decode prog_7_method_13_code 2 = .ok (.putfield 56, 3) := by decide +kernel
theorem d_Ru_fail_5 : decode prog_7_method_13_code 5 = .ok (.iload_n 1, 1) := by decide +kernel
theorem d_Ru_fail_6 : decode prog_7_method_13_code 6 = .ok (.iconst 4, 1) := by decide +kernel
theorem d_Ru_fail_7 : decode prog_7_method_13_code 7 = .ok (.if_icmp .ne 8, 3) := by decide +kernel
theorem d_Ru_fail_10 : decode prog_7_method_13_code 10 = .ok (.aload_n 0, 1) := by decide +kernel
theorem d_Ru_fail_11 : decode prog_7_method_13_code 11 = .ok (.iconst 0, 1) := by decide +kernel
theorem d_Ru_fail_12 : decode prog_7_method_13_code 12 = .ok (.putfield 49, 3) := by decide +kernel
theorem d_Ru_fail_15 : decode prog_7_method_13_code 15 = .ok (.return_, 1) := by decide +kernel
def rm_c_R_fail : Room := { frames := 0, cells := 0, slots := 0, locals := 0 }
set_option maxHeartbeats 4000000 in
set_option maxRecDepth 100000 in
theorem c_R_fail (l : Launch) (E : kE) (rn k o ca a b v t gas ctr en rf rc : Nat) (sb : Bool) (i : Nat) (hi : i < 10) : Kv l y_Ru_fail (kW y_Ru_fail prog_7_method_13_code 2 (none)) rm_c_R_fail E [.ref rn, .int (nI i)] [(rn, .inr (5, [.ref k, .ref o, .ref ca, .ref a, .ref b, .ref v, .ref t, .int (kb sb), .int (nI gas), .int (nI ctr), .int (nI en), .int (nI rf), .int (nI rc)]))] (S := Unit) (fun _ => True) (fun _ => [(rn, .inr (5, [.ref k, .ref o, .ref ca, .ref a, .ref b, .ref v, .ref t, .int (kb sb), .int (nI (if i = 4 then 0 else gas)), .int (nI ctr), .int (nI i), .int (nI rf), .int (nI rc)]))]) := by
  refine Kv.ofW (cc := prog_7_method_13_code) (maxL := 2) (by decide) (Nat.le_of_ble_eq_true rfl) ?_
  intro p e s m args below meth c A ls Q hx hb hts hown hml hK hG hA hP hD hS hl hret
  have hl : lv_has ls 2 [(0, .ref rn), (1, .int (nI i))] := hl
  refine lv_aload_n hx hb d_Ru_fail_0 rfl (lv_at hl 0 rfl) ?_
  refine lv_iload_n hx hb d_Ru_fail_1 rfl (lv_at hl 1 rfl) ?_
  refine va_put (D := E.1) (ci := 5) (v := .int (nI i)) (ty := .int) (C := "WideStack$Run") (T := T_Ru) (N := 13) hx hb hts in_Ru ty_Ru tyok_Ru nm_Ru hown hK hP hD hS 0 rfl rfl 10 (by decide) (hts _ t_196) (fun _ h9 => h9) rfl (by decide +kernel) rfl rfl (Nat.le_of_ble_eq_true rfl) d_Ru_fail_2 (fun H locs hP hD hS => ?_)
  have hP : va_P E.1 vwCl [(rn, .inr (5, [.ref k, .ref o, .ref ca, .ref a, .ref b, .ref v, .ref t, .int (kb sb), .int (nI gas), .int (nI ctr), .int (nI i), .int (nI rf), .int (nI rc)]))] H := hP
  have hD : va_D A [(rn, .inr (5, [.ref k, .ref o, .ref ca, .ref a, .ref b, .ref v, .ref t, .int (kb sb), .int (nI gas), .int (nI ctr), .int (nI i), .int (nI rf), .int (nI rc)]))] := hD
  refine lv_iload_n hx hb d_Ru_fail_5 rfl (lv_at hl 1 rfl) ?_
  refine lv_iconst (v := nI 4) hx hb d_Ru_fail_6 (by decide) ?_
  refine kn_ne (tgt := 15) hx hb (by omega) (by omega) d_Ru_fail_7 (by decide) (fun h7 => ?_) (fun h7 => ?_)
  · first | exact hret _ ls _ _ () d_Ru_fail_15 trivial (by rw [if_neg h7]; exact hP) hS | exact hret _ ls _ _ () d_Ru_fail_15 trivial (by rw [if_pos h7]; exact hP) hS
  · refine lv_aload_n hx hb d_Ru_fail_10 rfl (lv_at hl 0 rfl) ?_
    refine lv_iconst (v := nI 0) hx hb d_Ru_fail_11 (by decide) ?_
    refine va_put (D := E.1) (ci := 5) (v := .int (nI 0)) (ty := .int) (C := "WideStack$Run") (T := T_Ru) (N := 13) hx hb hts in_Ru ty_Ru tyok_Ru nm_Ru hown hK hP hD hS 0 rfl rfl 8 (by decide) (hts _ t_194) (fun _ h9 => h9) rfl (by decide +kernel) rfl rfl (Nat.le_of_ble_eq_true rfl) d_Ru_fail_12 (fun H locs hP hD hS => ?_)
    have hP : va_P E.1 vwCl [(rn, .inr (5, [.ref k, .ref o, .ref ca, .ref a, .ref b, .ref v, .ref t, .int (kb sb), .int (nI 0), .int (nI ctr), .int (nI i), .int (nI rf), .int (nI rc)]))] H := hP
    have hD : va_D A [(rn, .inr (5, [.ref k, .ref o, .ref ca, .ref a, .ref b, .ref v, .ref t, .int (kb sb), .int (nI 0), .int (nI ctr), .int (nI i), .int (nI rf), .int (nI rc)]))] := hD
    first | exact hret _ ls _ _ () d_Ru_fail_15 trivial (by rw [if_neg h7]; exact hP) hS | exact hret _ ls _ _ () d_Ru_fail_15 trivial (by rw [if_pos h7]; exact hP) hS

abbrev y_Ru_pay : MethodName := ⟨"WideStack$Run", "pay", "(I)V"⟩
theorem d_Ru_pay_0 : decode prog_7_method_19_code 0 = .ok (.aload_n 0, 1) := by decide +kernel
theorem d_Ru_pay_1 : decode prog_7_method_19_code 1 = .ok (.dup, 1) := by decide +kernel
theorem d_Ru_pay_2 : decode prog_7_method_19_code 2 = .ok (.getfield 49, 3) := by decide +kernel
theorem d_Ru_pay_5 : decode prog_7_method_19_code 5 = .ok (.aload_n 0, 1) := by decide +kernel
theorem d_Ru_pay_6 : decode prog_7_method_19_code 6 = .ok (.iload_n 1, 1) := by decide +kernel
theorem d_Ru_pay_7 : decode prog_7_method_19_code 7 = .ok (.invokevirtual 140, 3) := by decide +kernel
theorem d_Ru_pay_10 : decode prog_7_method_19_code 10 = .ok (.isub, 1) := by decide +kernel
theorem d_Ru_pay_11 : decode prog_7_method_19_code 11 = .ok (.putfield 49, 3) := by decide +kernel
theorem d_Ru_pay_14 : decode prog_7_method_19_code 14 = .ok (.aload_n 0, 1) := by decide +kernel
theorem d_Ru_pay_15 : decode prog_7_method_19_code 15 = .ok (.getfield 19, 3) := by decide +kernel
theorem d_Ru_pay_18 : decode prog_7_method_19_code 18 = .ok (.aload_n 0, 1) := by decide +kernel
theorem d_Ru_pay_19 : decode prog_7_method_19_code 19 = .ok (.iload_n 1, 1) := by decide +kernel
theorem d_Ru_pay_20 : decode prog_7_method_19_code 20 = .ok (.invokevirtual 137, 3) := by decide +kernel
theorem d_Ru_pay_23 : decode prog_7_method_19_code 23 = .ok (.invokevirtual 169, 3) := by decide +kernel
theorem d_Ru_pay_26 : decode prog_7_method_19_code 26 = .ok (.return_, 1) := by decide +kernel
def rm_c_R_pay : Room := { frames := 4, cells := 0, slots := 0, locals := 85 }
set_option maxHeartbeats 4000000 in
set_option maxRecDepth 100000 in
theorem c_R_pay (l : Launch) (E : kE) (rn k o ca a b v t gas ctr en rf rc : Nat) (sb : Bool) (p0 : Nat) (ho : p0 < 256) (ob siz : Nat) (f x fm : Nat → Int32) (hs : siz ≤ 160) (hg : m_cost p0 + 3 * ((m_usedC p0 (wv f 8) (wv x 8) + 31) / 32 - siz / 32) ≤ gas) : Kv l y_Ru_pay (kW y_Ru_pay prog_7_method_19_code 2 (none)) rm_c_R_pay E [.ref rn, .int (nI p0)] [(rn, .inr (5, [.ref k, .ref o, .ref ca, .ref a, .ref b, .ref v, .ref t, .int (kb sb), .int (nI gas), .int (nI ctr), .int (nI en), .int (nI rf), .int (nI rc)])), (o, .inr (2, [.ref ob, .int (nI siz)])), (ob, .inl (E.2.1 0, 160, .inl fm)), (a, .inl (E.2.1 0, 8, .inl f)), (b, .inl (E.2.1 0, 8, .inl x))] (S := Unit) (fun _ => True) (fun _ => [(rn, .inr (5, [.ref k, .ref o, .ref ca, .ref a, .ref b, .ref v, .ref t, .int (kb sb), .int (nI (gas - (m_cost p0 + 3 * ((m_usedC p0 (wv f 8) (wv x 8) + 31) / 32 - siz / 32)))), .int (nI ctr), .int (nI en), .int (nI rf), .int (nI rc)])), (o, .inr (2, [.ref ob, .int (nI (siz + 32 * ((m_usedC p0 (wv f 8) (wv x 8) + 31) / 32 - siz / 32)))])), (ob, .inl (E.2.1 0, 160, .inl fm)), (a, .inl (E.2.1 0, 8, .inl f)), (b, .inl (E.2.1 0, 8, .inl x))]) := by
  refine Kv.ofW (cc := prog_7_method_19_code) (maxL := 2) (by decide) (Nat.le_of_ble_eq_true rfl) ?_
  intro p e s m args below meth c A ls Q hx hb hts hown hml hK hG hA hP hD hS hl hret
  have hl : lv_has ls 2 [(0, .ref rn), (1, .int (nI p0))] := hl
  have huc := m_usedC_le p0 (wv f 8) (wv x 8)
  refine lv_aload_n hx hb d_Ru_pay_0 rfl (lv_at hl 0 rfl) ?_
  refine lv_dup hx hb d_Ru_pay_1 rfl ?_
  refine va_get (D := E.1) (ci := 5) (v := .int (nI gas)) (C := "WideStack$Run") (T := T_Ru) (N := 13) hx hb hts in_Ru hown hK hP 0 rfl rfl 8 (by decide) (hts _ t_194) (fun _ h9 => h9) rfl d_Ru_pay_2 ?_
  refine lv_aload_n hx hb d_Ru_pay_5 rfl (lv_at hl 0 rfl) ?_
  refine lv_iload_n hx hb d_Ru_pay_6 rfl (lv_at hl 1 rfl) ?_
  refine k_Vp (As := [.int (nI p0)]) (rest := [.int (nI gas), .ref rn]) ⟨hx, hb, hml, hown, hts⟩ (c_R_fullCost l E rn k o ca a b v t gas ctr en rf rc sb p0 ho ob siz f x fm hs) (k_cwV 1 hts t_386 t_388 t_4 t_64 t_389 (by decide +kernel) ⟨Nat.le_of_ble_eq_true rfl, Nat.le_of_ble_eq_true rfl⟩) hK hG hA hP hD hS [0, 1, 2, 3, 4] rfl (by decide) 0 rfl rfl rfl hl.1 rfl (Nat.le_of_ble_eq_true rfl) d_Ru_pay_7 ⟨Nat.zero_le _, Nat.zero_le _⟩ (fun r7 hu7 => ?_)
  subst hu7
  refine lv_isub hx hb d_Ru_pay_10 ?_
  refine k_top (pk_sub hg) ?_
  refine va_put (D := E.1) (ci := 5) (v := .int (nI (gas - (m_cost p0 + 3 * ((m_usedC p0 (wv f 8) (wv x 8) + 31) / 32 - siz / 32))))) (ty := .int) (C := "WideStack$Run") (T := T_Ru) (N := 13) hx hb hts in_Ru ty_Ru tyok_Ru nm_Ru hown hK hP hD hS 0 rfl rfl 8 (by decide) (hts _ t_194) (fun _ h9 => h9) rfl (by decide +kernel) rfl rfl (Nat.le_of_ble_eq_true rfl) d_Ru_pay_11 (fun H locs hP hD hS => ?_)
  have hP : va_P E.1 vwCl [(rn, .inr (5, [.ref k, .ref o, .ref ca, .ref a, .ref b, .ref v, .ref t, .int (kb sb), .int (nI (gas - (m_cost p0 + 3 * ((m_usedC p0 (wv f 8) (wv x 8) + 31) / 32 - siz / 32)))), .int (nI ctr), .int (nI en), .int (nI rf), .int (nI rc)])), (o, .inr (2, [.ref ob, .int (nI siz)])), (ob, .inl (E.2.1 0, 160, .inl fm)), (a, .inl (E.2.1 0, 8, .inl f)), (b, .inl (E.2.1 0, 8, .inl x))] H := hP
  have hD : va_D A [(rn, .inr (5, [.ref k, .ref o, .ref ca, .ref a, .ref b, .ref v, .ref t, .int (kb sb), .int (nI (gas - (m_cost p0 + 3 * ((m_usedC p0 (wv f 8) (wv x 8) + 31) / 32 - siz / 32)))), .int (nI ctr), .int (nI en), .int (nI rf), .int (nI rc)])), (o, .inr (2, [.ref ob, .int (nI siz)])), (ob, .inl (E.2.1 0, 160, .inl fm)), (a, .inl (E.2.1 0, 8, .inl f)), (b, .inl (E.2.1 0, 8, .inl x))] := hD
  refine lv_aload_n hx hb d_Ru_pay_14 rfl (lv_at hl 0 rfl) ?_
  refine va_get (D := E.1) (ci := 5) (v := .ref o) (C := "WideStack$Run") (T := T_Ru) (N := 13) hx hb hts in_Ru hown hK hP 0 rfl rfl 1 (by decide) (hts _ t_187) (fun _ h9 => h9) rfl d_Ru_pay_15 ?_
  refine lv_aload_n hx hb d_Ru_pay_18 rfl (lv_at hl 0 rfl) ?_
  refine lv_iload_n hx hb d_Ru_pay_19 rfl (lv_at hl 1 rfl) ?_
  refine k_Vp (As := [.int (nI p0)]) (rest := [.ref o]) ⟨hx, hb, hml, hown, hts⟩ (c_R_bytesUsed l E rn k o ca a b v t (gas - (m_cost p0 + 3 * ((m_usedC p0 (wv f 8) (wv x 8) + 31) / 32 - siz / 32))) ctr en rf rc sb p0 ho f x) (k_cwV 1 hts t_373 t_375 t_3 t_64 t_376 (by decide +kernel) ⟨Nat.le_of_ble_eq_true rfl, Nat.le_of_ble_eq_true rfl⟩) hK hG hA hP hD hS [0, 3, 4] rfl (by decide) 0 rfl rfl rfl hl.1 rfl (Nat.le_of_ble_eq_true rfl) d_Ru_pay_20 ⟨Nat.zero_le _, Nat.zero_le _⟩ (fun r20 hu20 => ?_)
  subst hu20
  refine k_Vv (As := [.int (nI (m_usedC p0 (wv f 8) (wv x 8)))]) (rest := []) ⟨hx, hb, hml, hown, hts⟩ (c_So_growFor l E o ob siz (m_usedC p0 (wv f 8) (wv x 8)) fm (by omega) (by omega)) (k_cwV 1 hts t_420 t_421 t_422 t_66 t_423 (by decide +kernel) ⟨Nat.le_of_ble_eq_true rfl, Nat.le_of_ble_eq_true rfl⟩) hK hG hA hP hD hS [1, 2] rfl (by decide) 1 rfl rfl (fun _ => rfl) rfl hl.1 rfl (Nat.le_of_ble_eq_true rfl) d_Ru_pay_23 ⟨Nat.zero_le _, Nat.zero_le _⟩ (fun u H locs hu hP hD hS => ?_)
  have hP : va_P E.1 vwCl [(rn, .inr (5, [.ref k, .ref o, .ref ca, .ref a, .ref b, .ref v, .ref t, .int (kb sb), .int (nI (gas - (m_cost p0 + 3 * ((m_usedC p0 (wv f 8) (wv x 8) + 31) / 32 - siz / 32)))), .int (nI ctr), .int (nI en), .int (nI rf), .int (nI rc)])), (o, .inr (2, [.ref ob, .int (nI (siz + 32 * ((m_usedC p0 (wv f 8) (wv x 8) + 31) / 32 - siz / 32)))])), (ob, .inl (E.2.1 0, 160, .inl fm)), (a, .inl (E.2.1 0, 8, .inl f)), (b, .inl (E.2.1 0, 8, .inl x))] H := hP
  have hD : va_D A [(rn, .inr (5, [.ref k, .ref o, .ref ca, .ref a, .ref b, .ref v, .ref t, .int (kb sb), .int (nI (gas - (m_cost p0 + 3 * ((m_usedC p0 (wv f 8) (wv x 8) + 31) / 32 - siz / 32)))), .int (nI ctr), .int (nI en), .int (nI rf), .int (nI rc)])), (o, .inr (2, [.ref ob, .int (nI (siz + 32 * ((m_usedC p0 (wv f 8) (wv x 8) + 31) / 32 - siz / 32)))])), (ob, .inl (E.2.1 0, 160, .inl fm)), (a, .inl (E.2.1 0, 8, .inl f)), (b, .inl (E.2.1 0, 8, .inl x))] := hD
  exact hret _ ls _ _ () d_Ru_pay_26 trivial hP hS

