abbrev y_St_empty : MethodName := ⟨"WideStack$Stack", "empty", "()V"⟩
theorem d_St_empty_0 : decode prog_8_method_2_code 0 = .ok (.aload_n 0, 1) := by decide +kernel
theorem d_St_empty_1 : decode prog_8_method_2_code 1 = .ok (.iconst 0, 1) := by decide +kernel
theorem d_St_empty_2 : decode prog_8_method_2_code 2 = .ok (.putfield 20, 3) := by decide +kernel
theorem d_St_empty_5 : decode prog_8_method_2_code 5 = .ok (.return_, 1) := by decide +kernel
def rm_c_St_empty : Room := { frames := 0, cells := 0, slots := 0, locals := 0 }
set_option maxHeartbeats 4000000 in
set_option maxRecDepth 100000 in
theorem c_St_empty (l : Launch) (E : kE) (k kw kx cnt : Nat) : Kv l y_St_empty (kW y_St_empty prog_8_method_2_code 1 (none)) rm_c_St_empty E [.ref k] [(k, .inr (1, [.ref kw, .ref kx, .int (nI cnt)]))] (S := Unit) (fun _ => True) (fun _ => [(k, .inr (1, [.ref kw, .ref kx, .int (nI 0)]))]) := by
  refine Kv.ofW (cc := prog_8_method_2_code) (maxL := 1) (by decide) (Nat.le_of_ble_eq_true rfl) ?_
  intro p e s m args below meth c A ls Q hx hb hts hown hml hK hG hA hP hD hS hl hret
  have hl : lv_has ls 1 [(0, .ref k)] := hl
  refine lv_aload_n hx hb d_St_empty_0 rfl (lv_at hl 0 rfl) ?_
  refine lv_iconst (v := nI 0) hx hb d_St_empty_1 (by decide) ?_
  refine va_put (D := E.1) (ci := 1) (v := .int (nI 0)) (ty := .int) (C := "WideStack$Stack") (T := T_St) (N := 3) hx hb hts in_St ty_St tyok_St nm_St hown hK hP hD hS 0 rfl rfl 2 (by decide) (hts _ t_127) (fun _ h9 => h9) rfl (by decide +kernel) rfl rfl (Nat.le_of_ble_eq_true rfl) d_St_empty_2 (fun H locs hP hD hS => ?_)
  have hP : va_P E.1 vwCl [(k, .inr (1, [.ref kw, .ref kx, .int (nI 0)]))] H := hP
  have hD : va_D A [(k, .inr (1, [.ref kw, .ref kx, .int (nI 0)]))] := hD
  exact hret _ ls _ _ () d_St_empty_5 trivial hP hS

abbrev y_St_count : MethodName := ⟨"WideStack$Stack", "count", "()I"⟩
theorem d_St_count_0 : decode prog_8_method_3_code 0 = .ok (.aload_n 0, 1) := by decide +kernel
theorem d_St_count_1 : decode prog_8_method_3_code 1 = .ok (.getfield 20, 3) := by decide +kernel
theorem d_St_count_4 : decode prog_8_method_3_code 4 = .ok (.ireturn, 1) := by decide +kernel
def rm_c_St_count : Room := { frames := 0, cells := 0, slots := 0, locals := 0 }
set_option maxHeartbeats 4000000 in
set_option maxRecDepth 100000 in
theorem c_St_count (l : Launch) (E : kE) (k kw kx cnt : Nat) : Kp l y_St_count (kW y_St_count prog_8_method_3_code 1 (some .int)) rm_c_St_count E [.ref k] [(k, .inr (1, [.ref kw, .ref kx, .int (nI cnt)]))] (fun r => r = nI cnt) := by
  refine Kp.ofI (cc := prog_8_method_3_code) (maxL := 1) (by decide) (Nat.le_of_ble_eq_true rfl) ?_
  intro p e s m args below meth c A ls Q hx hb hts hown hml hK hG hA hP hD hS hl hret
  have hl : lv_has ls 1 [(0, .ref k)] := hl
  refine lv_aload_n hx hb d_St_count_0 rfl (lv_at hl 0 rfl) ?_
  refine va_get (D := E.1) (ci := 1) (v := .int (nI cnt)) (C := "WideStack$Stack") (T := T_St) (N := 3) hx hb hts in_St hown hK hP 0 rfl rfl 2 (by decide) (hts _ t_127) (fun _ h9 => h9) rfl d_St_count_1 ?_
  exact hret _ ls _ d_St_count_4 rfl

abbrev y_St_isThere : MethodName := ⟨"WideStack$Stack", "isThere", "(I)Z"⟩
theorem d_St_isThere_0 : decode prog_8_method_10_code 0 = .ok (.iload_n 1, 1) := by decide +kernel
theorem d_St_isThere_1 : decode prog_8_method_10_code 1 = .ok (.ifCond .lt 15, 3) := by decide +kernel
theorem d_St_isThere_4 : decode prog_8_method_10_code 4 = .ok (.iload_n 1, 1) := by decide +kernel
theorem d_St_isThere_5 : decode prog_8_method_10_code 5 = .ok (.aload_n 0, 1) := by decide +kernel
theorem d_St_isThere_6 : decode prog_8_method_10_code 6 = .ok (.getfield 20, 3) := by decide +kernel
theorem d_St_isThere_9 : decode prog_8_method_10_code 9 = .ok (.if_icmp .ge 7, 3) := by decide +kernel
theorem d_St_isThere_12 : decode prog_8_method_10_code 12 = .ok (.iconst 1, 1) := by decide +kernel
theorem d_St_isThere_13 : decode prog_8_method_10_code 13 = .ok (.goto 4, 3) := by decide +kernel
theorem d_St_isThere_16 : decode prog_8_method_10_code 16 = .ok (.iconst 0, 1) := by decide +kernel
theorem d_St_isThere_17 : decode prog_8_method_10_code 17 = .ok (.ireturn, 1) := by decide +kernel
def rm_c_St_isThere : Room := { frames := 0, cells := 0, slots := 0, locals := 0 }
set_option maxHeartbeats 4000000 in
set_option maxRecDepth 100000 in
theorem c_St_isThere (l : Launch) (E : kE) (k kw kx cnt : Nat) (x : Int32) (hc : cnt < 2147483648) : Kp l y_St_isThere (kW y_St_isThere prog_8_method_10_code 2 (some .boolean)) rm_c_St_isThere E [.ref k, .int x] [(k, .inr (1, [.ref kw, .ref kx, .int (nI cnt)]))] (fun r => r = kb (m_in x cnt)) := by
  refine Kp.ofZ (cc := prog_8_method_10_code) (maxL := 2) (by decide) (Nat.le_of_ble_eq_true rfl) ?_
  intro p e s m args below meth c A ls Q hx hb hts hown hml hK hG hA hP hD hS hl hret
  have hl : lv_has ls 2 [(0, .ref k), (1, .int x)] := hl
  refine lv_iload_n hx hb d_St_isThere_0 rfl (lv_at hl 1 rfl) ?_
  refine lv_if_lt (tgt := 16) hx hb d_St_isThere_1 (by decide) (fun h1 => ?_) (fun h1 => ?_)
  · refine lv_iconst (v := nI 0) hx hb d_St_isThere_16 (by decide) ?_
    first | exact hret _ ls _ d_St_isThere_17 (by decide) (by rw [m_in_t hc h1 h9]; rfl) | exact hret _ ls _ d_St_isThere_17 (by decide) (by rw [m_in_f1 h1]; rfl) | exact hret _ ls _ d_St_isThere_17 (by decide) (by rw [m_in_f2 h9]; rfl)
  · refine lv_iload_n hx hb d_St_isThere_4 rfl (lv_at hl 1 rfl) ?_
    refine lv_aload_n hx hb d_St_isThere_5 rfl (lv_at hl 0 rfl) ?_
    refine va_get (D := E.1) (ci := 1) (v := .int (nI cnt)) (C := "WideStack$Stack") (T := T_St) (N := 3) hx hb hts in_St hown hK hP 0 rfl rfl 2 (by decide) (hts _ t_127) (fun _ h9 => h9) rfl d_St_isThere_6 ?_
    refine lv_icmp_ge (tgt := 16) hx hb d_St_isThere_9 (by decide) (fun h9 => ?_) (fun h9 => ?_)
    · refine lv_iconst (v := nI 0) hx hb d_St_isThere_16 (by decide) ?_
      first | exact hret _ ls _ d_St_isThere_17 (by decide) (by rw [m_in_t hc h1 h9]; rfl) | exact hret _ ls _ d_St_isThere_17 (by decide) (by rw [m_in_f1 h1]; rfl) | exact hret _ ls _ d_St_isThere_17 (by decide) (by rw [m_in_f2 h9]; rfl)
    · refine lv_iconst (v := nI 1) hx hb d_St_isThere_12 (by decide) ?_
      refine lv_goto (tgt := 17) hx hb d_St_isThere_13 (by decide) ?_
      first | exact hret _ ls _ d_St_isThere_17 (by decide) (by rw [m_in_t hc h1 h9]; rfl) | exact hret _ ls _ d_St_isThere_17 (by decide) (by rw [m_in_f1 h1]; rfl) | exact hret _ ls _ d_St_isThere_17 (by decide) (by rw [m_in_f2 h9]; rfl)

abbrev y_St_drop : MethodName := ⟨"WideStack$Stack", "drop", "(I)V"⟩
theorem d_St_drop_0 : decode prog_8_method_5_code 0 = .ok (.aload_n 0, 1) := by decide +kernel
theorem d_St_drop_1 : decode prog_8_method_5_code 1 = .ok (.iconst 0, 1) := by decide +kernel
theorem d_St_drop_2 : decode prog_8_method_5_code 2 = .ok (.aload_n 0, 1) := by decide +kernel
theorem d_St_drop_3 : decode prog_8_method_5_code 3 = .ok (.getfield 20, 3) := by decide +kernel
theorem d_St_drop_6 : decode prog_8_method_5_code 6 = .ok (.iload_n 1, 1) := by decide +kernel
theorem d_St_drop_7 : decode prog_8_method_5_code 7 = .ok (.isub, 1) := by decide +kernel
theorem d_St_drop_8 : decode prog_8_method_5_code 8 = .ok (.invokestatic 28, 3) := by decide +kernel
theorem d_St_drop_11 : decode prog_8_method_5_code 11 = .ok (.putfield 20, 3) := by decide +kernel
theorem d_St_drop_14 : decode prog_8_method_5_code 14 = .ok (.return_, 1) := by decide +kernel
def rm_c_St_drop : Room := { frames := 1, cells := 0, slots := 0, locals := 20 }
set_option maxHeartbeats 4000000 in
set_option maxRecDepth 100000 in
theorem c_St_drop (l : Launch) (E : kE) (k kw kx cnt : Nat) (n0 : Nat) (h1 : cnt < 100000) (h2 : n0 < 100000) : Kv l y_St_drop (kW y_St_drop prog_8_method_5_code 2 (none)) rm_c_St_drop E [.ref k, .int (nI n0)] [(k, .inr (1, [.ref kw, .ref kx, .int (nI cnt)]))] (S := Unit) (fun _ => True) (fun _ => [(k, .inr (1, [.ref kw, .ref kx, .int (nI (cnt - n0))]))]) := by
  refine Kv.ofW (cc := prog_8_method_5_code) (maxL := 2) (by decide) (Nat.le_of_ble_eq_true rfl) ?_
  intro p e s m args below meth c A ls Q hx hb hts hown hml hK hG hA hP hD hS hl hret
  have hl : lv_has ls 2 [(0, .ref k), (1, .int (nI n0))] := hl
  refine lv_aload_n hx hb d_St_drop_0 rfl (lv_at hl 0 rfl) ?_
  refine lv_iconst (v := nI 0) hx hb d_St_drop_1 (by decide) ?_
  refine lv_aload_n hx hb d_St_drop_2 rfl (lv_at hl 0 rfl) ?_
  refine va_get (D := E.1) (ci := 1) (v := .int (nI cnt)) (C := "WideStack$Stack") (T := T_St) (N := 3) hx hb hts in_St hown hK hP 0 rfl rfl 2 (by decide) (hts _ t_127) (fun _ h9 => h9) rfl d_St_drop_3 ?_
  refine lv_iload_n hx hb d_St_drop_6 rfl (lv_at hl 1 rfl) ?_
  refine lv_isub hx hb d_St_drop_7 ?_
  refine va_mmax hx hb (hml.trans hl.1.symm) hown (hts _ t_436) (hts _ t_398) (hts _ t_75) (hts _ t_399) (Nat.le_of_ble_eq_true rfl) (Nat.le_of_ble_eq_true rfl) (Nat.zero_le _) (Nat.zero_le _) d_St_drop_8 ?_
  refine k_top (max0 (by omega) (by omega)) ?_
  refine va_put (D := E.1) (ci := 1) (v := .int (nI (cnt - n0))) (ty := .int) (C := "WideStack$Stack") (T := T_St) (N := 3) hx hb hts in_St ty_St tyok_St nm_St hown hK hP hD hS 0 rfl rfl 2 (by decide) (hts _ t_127) (fun _ h9 => h9) rfl (by decide +kernel) rfl rfl (Nat.le_of_ble_eq_true rfl) d_St_drop_11 (fun H locs hP hD hS => ?_)
  have hP : va_P E.1 vwCl [(k, .inr (1, [.ref kw, .ref kx, .int (nI (cnt - n0))]))] H := hP
  have hD : va_D A [(k, .inr (1, [.ref kw, .ref kx, .int (nI (cnt - n0))]))] := hD
  exact hret _ ls _ _ () d_St_drop_14 trivial hP hS

theorem put_row {M : Nat → Nat → Int32} {cnt : Nat} {f x u : Nat → Int32} (hu : ∀ j, u j = if j < 8 then f j else x j) (i j : Nat) (hj : j < 8) : va_up M cnt u i j = if i = cnt then f j else M i j := by
  by_cases e : i = cnt
  · subst e; rw [va_up_self, if_pos rfl, hu j, if_pos hj]
  · rw [va_up_ne _ _ e, if_neg e]

abbrev y_St_put : MethodName := ⟨"WideStack$Stack", "put", "([I)Z"⟩
theorem d_St_put_0 : decode prog_8_method_4_code 0 = .ok (.aload_n 0, 1) := by decide +kernel
theorem d_St_put_1 : decode prog_8_method_4_code 1 = .ok (.getfield 20, 3) := by decide +kernel
theorem d_St_put_4 : decode prog_8_method_4_code 4 = .ok (.bipush 16, 2) := by decide +kernel
theorem d_St_put_6 : decode prog_8_method_4_code 6 = .ok (.if_icmp .lt 5, 3) := by decide +kernel
theorem d_St_put_9 : decode prog_8_method_4_code 9 = .ok (.iconst 0, 1) := by decide +kernel
theorem d_St_put_10 : decode prog_8_method_4_code 10 = .ok (.ireturn, 1) := by decide +kernel
theorem d_St_put_11 : decode prog_8_method_4_code 11 = .ok (.aload_n 1, 1) := by decide +kernel
theorem d_St_put_12 : decode prog_8_method_4_code 12 = .ok (.aload_n 0, 1) := by decide +kernel
theorem d_St_put_13 : decode prog_8_method_4_code 13 = .ok (.getfield 13, 3) := by decide +kernel
theorem d_St_put_16 : decode prog_8_method_4_code 16 = .ok (.aload_n 0, 1) := by decide +kernel
theorem d_St_put_17 : decode prog_8_method_4_code 17 = .ok (.getfield 20, 3) := by decide +kernel
theorem d_St_put_20 : decode prog_8_method_4_code 20 = .ok (.aaload, 1) := by decide +kernel
theorem d_St_put_21 : decode prog_8_method_4_code 21 = .ok (.invokestatic 24, 3) := by decide +kernel
theorem d_St_put_24 : decode prog_8_method_4_code 24 = .ok (.aload_n 0, 1) := by decide +kernel
theorem d_St_put_25 : decode prog_8_method_4_code 25 = .ok (.dup, 1) := by decide +kernel
theorem d_St_put_26 : decode prog_8_method_4_code 26 = .ok (.getfield 20, 3) := by decide +kernel
theorem d_St_put_29 : decode prog_8_method_4_code 29 = .ok (.iconst 1, 1) := by decide +kernel
theorem d_St_put_30 : decode prog_8_method_4_code 30 = .ok (.iadd, 1) := by decide +kernel
theorem d_St_put_31 : decode prog_8_method_4_code 31 = .ok (.putfield 20, 3) := by decide +kernel
theorem d_St_put_34 : decode prog_8_method_4_code 34 = .ok (.iconst 1, 1) := by decide +kernel
theorem d_St_put_35 : decode prog_8_method_4_code 35 = .ok (.ireturn, 1) := by decide +kernel
def rm_c_St_put : Room := { frames := 2, cells := 0, slots := 0, locals := 61 }
set_option maxHeartbeats 4000000 in
set_option maxRecDepth 100000 in
theorem c_St_put (l : Launch) (E : kE) (k kw kx cnt : Nat) (ra : Nat → Nat) (fx : Nat → Int32) (M : Nat → Nat → Int32) (a : Nat) (f : Nat → Int32) (hc : cnt ≤ 16) : Ki l y_St_put (kW y_St_put prog_8_method_4_code 2 (some .boolean)) rm_c_St_put E [.ref k, .ref a] ([(k, .inr (1, [.ref kw, .ref kx, .int (nI cnt)])), (kw, .inl (E.2.1 2, 16, .inr (.inr (.inr (.inr (fun i => if i < 16 then some (ra i) else none)))))), (kx, .inl (E.2.1 0, 8, .inl fx)), (a, .inl (E.2.1 0, 8, .inl f))] ++ k_rows E ra M) (S := Nat × (Nat → Nat → Int32)) (fun r u => (cnt < 16 ∧ r = nI 1 ∧ u.1 = cnt + 1 ∧ ∀ i, i < 16 → ∀ j, j < 8 → u.2 i j = if i = cnt then f j else M i j) ∨ (cnt = 16 ∧ r = nI 0 ∧ u.1 = cnt ∧ u.2 = M)) (fun u => ([(k, .inr (1, [.ref kw, .ref kx, .int (nI u.1)])), (kw, .inl (E.2.1 2, 16, .inr (.inr (.inr (.inr (fun i => if i < 16 then some (ra i) else none)))))), (kx, .inl (E.2.1 0, 8, .inl fx)), (a, .inl (E.2.1 0, 8, .inl f))] ++ k_rows E ra u.2)) := by
  refine Ki.ofZ (cc := prog_8_method_4_code) (maxL := 2) (by decide) (Nat.le_of_ble_eq_true rfl) ?_
  intro p e s m args below meth c A ls Q hx hb hts hown hml hK hG hA hP hD hS hl hret
  have hl : lv_has ls 2 [(0, .ref k), (1, .ref a)] := hl
  refine lv_aload_n hx hb d_St_put_0 rfl (lv_at hl 0 rfl) ?_
  refine va_get (D := E.1) (ci := 1) (v := .int (nI cnt)) (C := "WideStack$Stack") (T := T_St) (N := 3) hx hb hts in_St hown hK hP 0 rfl rfl 2 (by decide) (hts _ t_127) (fun _ h9 => h9) rfl d_St_put_1 ?_
  refine lv_bipush (v := nI 16) hx hb d_St_put_4 (by decide) ?_
  refine kn_lt (tgt := 11) hx hb (by omega) (by omega) d_St_put_6 (by decide) (fun h6 => ?_) (fun h6 => ?_)
  · refine lv_aload_n hx hb d_St_put_11 rfl (lv_at hl 1 rfl) ?_
    refine lv_aload_n hx hb d_St_put_12 rfl (lv_at hl 0 rfl) ?_
    refine va_get (D := E.1) (ci := 1) (v := .ref kw) (C := "WideStack$Stack") (T := T_St) (N := 3) hx hb hts in_St hown hK hP 0 rfl rfl 0 (by decide) (hts _ t_125) (fun _ h9 => h9) rfl d_St_put_13 ?_
    refine lv_aload_n hx hb d_St_put_16 rfl (lv_at hl 0 rfl) ?_
    refine va_get (D := E.1) (ci := 1) (v := .int (nI cnt)) (C := "WideStack$Stack") (T := T_St) (N := 3) hx hb hts in_St hown hK hP 0 rfl rfl 2 (by decide) (hts _ t_127) (fun _ h9 => h9) rfl d_St_put_17 ?_
    refine k_aald hx hb hK hP 1 (ra := ra) rfl (i := cnt) (by omega) d_St_put_20 ?_
    refine k_Sv (As := [.ref a, .ref (ra cnt)]) (rest := []) ⟨hx, hb, hml, hown, hts⟩ (c_W_copy l E a (ra cnt) 8 8 f (M cnt) (by decide) (by decide)) (k_cwS 2 hts t_313 t_314 t_73 t_315 (by decide +kernel) ⟨Nat.le_of_ble_eq_true rfl, Nat.le_of_ble_eq_true rfl⟩) hK hG hA hP hD hS [3, 4 + cnt] (by simp only [List.map_cons, List.map_nil]; rw [k_row (n := 4) (k := cnt) rfl h6]; try rfl) (k_nd2 (by omega)) (fun _ => rfl) rfl hl.1 rfl (Nat.le_of_ble_eq_true rfl) d_St_put_21 ⟨Nat.zero_le _, Nat.zero_le _⟩ (fun u H locs hu hP hD hS => ?_)
    have hP : va_P E.1 vwCl (List.set (([(k, .inr (1, [.ref kw, .ref kx, .int (nI cnt)])), (kw, .inl (E.2.1 2, 16, .inr (.inr (.inr (.inr (fun i => if i < 16 then some (ra i) else none)))))), (kx, .inl (E.2.1 0, 8, .inl fx)), (a, .inl (E.2.1 0, 8, .inl f))] : va_W) ++ k_rows E ra M) (4 + cnt) (ra cnt, .inl (E.2.1 0, 8, .inl u))) H := hP
    have hD : va_D A (List.set (([(k, .inr (1, [.ref kw, .ref kx, .int (nI cnt)])), (kw, .inl (E.2.1 2, 16, .inr (.inr (.inr (.inr (fun i => if i < 16 then some (ra i) else none)))))), (kx, .inl (E.2.1 0, 8, .inl fx)), (a, .inl (E.2.1 0, 8, .inl f))] : va_W) ++ k_rows E ra M) (4 + cnt) (ra cnt, .inl (E.2.1 0, 8, .inl u))) := hD
    rw [k_row_set (n := 4) (k := cnt) rfl h6] at hP hD
    have hP : va_P E.1 vwCl ([(k, .inr (1, [.ref kw, .ref kx, .int (nI cnt)])), (kw, .inl (E.2.1 2, 16, .inr (.inr (.inr (.inr (fun i => if i < 16 then some (ra i) else none)))))), (kx, .inl (E.2.1 0, 8, .inl fx)), (a, .inl (E.2.1 0, 8, .inl f))] ++ k_rows E ra (va_up M cnt u)) H := hP
    have hD : va_D A ([(k, .inr (1, [.ref kw, .ref kx, .int (nI cnt)])), (kw, .inl (E.2.1 2, 16, .inr (.inr (.inr (.inr (fun i => if i < 16 then some (ra i) else none)))))), (kx, .inl (E.2.1 0, 8, .inl fx)), (a, .inl (E.2.1 0, 8, .inl f))] ++ k_rows E ra (va_up M cnt u)) := hD
    refine lv_aload_n hx hb d_St_put_24 rfl (lv_at hl 0 rfl) ?_
    refine lv_dup hx hb d_St_put_25 rfl ?_
    refine va_get (D := E.1) (ci := 1) (v := .int (nI cnt)) (C := "WideStack$Stack") (T := T_St) (N := 3) hx hb hts in_St hown hK hP 0 rfl rfl 2 (by decide) (hts _ t_127) (fun _ h9 => h9) rfl d_St_put_26 ?_
    refine lv_iconst (v := nI 1) hx hb d_St_put_29 (by decide) ?_
    refine lv_iadd hx hb d_St_put_30 ?_
    refine k_top (nI_add _ _) ?_
    refine va_put (D := E.1) (ci := 1) (v := .int (nI (cnt + 1))) (ty := .int) (C := "WideStack$Stack") (T := T_St) (N := 3) hx hb hts in_St ty_St tyok_St nm_St hown hK hP hD hS 0 rfl rfl 2 (by decide) (hts _ t_127) (fun _ h9 => h9) rfl (by decide +kernel) rfl rfl (Nat.le_of_ble_eq_true rfl) d_St_put_31 (fun H locs hP hD hS => ?_)
    have hP : va_P E.1 vwCl ([(k, .inr (1, [.ref kw, .ref kx, .int (nI (cnt + 1))])), (kw, .inl (E.2.1 2, 16, .inr (.inr (.inr (.inr (fun i => if i < 16 then some (ra i) else none)))))), (kx, .inl (E.2.1 0, 8, .inl fx)), (a, .inl (E.2.1 0, 8, .inl f))] ++ k_rows E ra (va_up M cnt u)) H := hP
    have hD : va_D A ([(k, .inr (1, [.ref kw, .ref kx, .int (nI (cnt + 1))])), (kw, .inl (E.2.1 2, 16, .inr (.inr (.inr (.inr (fun i => if i < 16 then some (ra i) else none)))))), (kx, .inl (E.2.1 0, 8, .inl fx)), (a, .inl (E.2.1 0, 8, .inl f))] ++ k_rows E ra (va_up M cnt u)) := hD
    refine lv_iconst (v := nI 1) hx hb d_St_put_34 (by decide) ?_
    exact hret _ ls _ _ _ (cnt + 1, va_up M cnt u) d_St_put_35 (by decide) (Or.inl ⟨h6, rfl, rfl, fun i _ j hj => put_row hu i j hj⟩) hP hS
  · refine lv_iconst (v := nI 0) hx hb d_St_put_9 (by decide) ?_
    exact hret _ ls _ _ _ (cnt, M) d_St_put_10 (by decide) (Or.inr ⟨by omega, rfl, rfl, rfl⟩) hP hS

def rm_c_St_putRow : Room := { frames := 2, cells := 0, slots := 0, locals := 61 }
set_option maxHeartbeats 4000000 in
set_option maxRecDepth 100000 in
theorem c_St_putRow (l : Launch) (E : kE) (k kw kx cnt : Nat) (ra : Nat → Nat) (fx : Nat → Int32) (M : Nat → Nat → Int32) (t : Nat) (ht : t < cnt) (hc : cnt < 16) : Ki l y_St_put (kW y_St_put prog_8_method_4_code 2 (some .boolean)) rm_c_St_putRow E [.ref k, .ref (ra t)] ([(k, .inr (1, [.ref kw, .ref kx, .int (nI cnt)])), (kw, .inl (E.2.1 2, 16, .inr (.inr (.inr (.inr (fun i => if i < 16 then some (ra i) else none)))))), (kx, .inl (E.2.1 0, 8, .inl fx))] ++ k_rows E ra M) (S := Nat × (Nat → Nat → Int32)) (fun r u => u.1 = cnt + 1 ∧ ∀ i, i < 16 → ∀ j, j < 8 → u.2 i j = if i = cnt then M t j else M i j) (fun u => ([(k, .inr (1, [.ref kw, .ref kx, .int (nI u.1)])), (kw, .inl (E.2.1 2, 16, .inr (.inr (.inr (.inr (fun i => if i < 16 then some (ra i) else none)))))), (kx, .inl (E.2.1 0, 8, .inl fx))] ++ k_rows E ra u.2)) := by
  refine Ki.ofZ (cc := prog_8_method_4_code) (maxL := 2) (by decide) (Nat.le_of_ble_eq_true rfl) ?_
  intro p e s m args below meth c A ls Q hx hb hts hown hml hK hG hA hP hD hS hl hret
  have hl : lv_has ls 2 [(0, .ref k), (1, .ref (ra t))] := hl
  refine lv_aload_n hx hb d_St_put_0 rfl (lv_at hl 0 rfl) ?_
  refine va_get (D := E.1) (ci := 1) (v := .int (nI cnt)) (C := "WideStack$Stack") (T := T_St) (N := 3) hx hb hts in_St hown hK hP 0 rfl rfl 2 (by decide) (hts _ t_127) (fun _ h9 => h9) rfl d_St_put_1 ?_
  refine lv_bipush (v := nI 16) hx hb d_St_put_4 (by decide) ?_
  refine kn_lt (tgt := 11) hx hb (by omega) (by omega) d_St_put_6 (by decide) (fun h6 => ?_) (fun h6 => ?_)
  · refine lv_aload_n hx hb d_St_put_11 rfl (lv_at hl 1 rfl) ?_
    refine lv_aload_n hx hb d_St_put_12 rfl (lv_at hl 0 rfl) ?_
    refine va_get (D := E.1) (ci := 1) (v := .ref kw) (C := "WideStack$Stack") (T := T_St) (N := 3) hx hb hts in_St hown hK hP 0 rfl rfl 0 (by decide) (hts _ t_125) (fun _ h9 => h9) rfl d_St_put_13 ?_
    refine lv_aload_n hx hb d_St_put_16 rfl (lv_at hl 0 rfl) ?_
    refine va_get (D := E.1) (ci := 1) (v := .int (nI cnt)) (C := "WideStack$Stack") (T := T_St) (N := 3) hx hb hts in_St hown hK hP 0 rfl rfl 2 (by decide) (hts _ t_127) (fun _ h9 => h9) rfl d_St_put_17 ?_
    refine k_aald hx hb hK hP 1 (ra := ra) rfl (i := cnt) (by omega) d_St_put_20 ?_
    refine k_Sv (As := [.ref (ra t), .ref (ra cnt)]) (rest := []) ⟨hx, hb, hml, hown, hts⟩ (c_W_copy l E (ra t) (ra cnt) 8 8 (M t) (M cnt) (by decide) (by decide)) (k_cwS 2 hts t_313 t_314 t_73 t_315 (by decide +kernel) ⟨Nat.le_of_ble_eq_true rfl, Nat.le_of_ble_eq_true rfl⟩) hK hG hA hP hD hS [3 + t, 3 + cnt] (by simp only [List.map_cons, List.map_nil]; rw [k_row (n := 3) (k := t) rfl (by omega), k_row (n := 3) (k := cnt) rfl (by omega)]; try rfl) (k_nd2 (by omega)) (fun _ => rfl) rfl hl.1 rfl (Nat.le_of_ble_eq_true rfl) d_St_put_21 ⟨Nat.zero_le _, Nat.zero_le _⟩ (fun u H locs hu hP hD hS => ?_)
    have hP : va_P E.1 vwCl (List.set (List.set (([(k, .inr (1, [.ref kw, .ref kx, .int (nI cnt)])), (kw, .inl (E.2.1 2, 16, .inr (.inr (.inr (.inr (fun i => if i < 16 then some (ra i) else none)))))), (kx, .inl (E.2.1 0, 8, .inl fx))] : va_W) ++ k_rows E ra M) (3 + t) (ra t, .inl (E.2.1 0, 8, .inl (M t)))) (3 + cnt) (ra cnt, .inl (E.2.1 0, 8, .inl u))) H := hP
    have hD : va_D A (List.set (List.set (([(k, .inr (1, [.ref kw, .ref kx, .int (nI cnt)])), (kw, .inl (E.2.1 2, 16, .inr (.inr (.inr (.inr (fun i => if i < 16 then some (ra i) else none)))))), (kx, .inl (E.2.1 0, 8, .inl fx))] : va_W) ++ k_rows E ra M) (3 + t) (ra t, .inl (E.2.1 0, 8, .inl (M t)))) (3 + cnt) (ra cnt, .inl (E.2.1 0, 8, .inl u))) := hD
    rw [k_row_set (n := 3) (k := t) rfl (by omega), k_same, k_row_set (n := 3) (k := cnt) rfl (by omega)] at hP hD
    have hP : va_P E.1 vwCl ([(k, .inr (1, [.ref kw, .ref kx, .int (nI cnt)])), (kw, .inl (E.2.1 2, 16, .inr (.inr (.inr (.inr (fun i => if i < 16 then some (ra i) else none)))))), (kx, .inl (E.2.1 0, 8, .inl fx))] ++ k_rows E ra (va_up M cnt u)) H := hP
    have hD : va_D A ([(k, .inr (1, [.ref kw, .ref kx, .int (nI cnt)])), (kw, .inl (E.2.1 2, 16, .inr (.inr (.inr (.inr (fun i => if i < 16 then some (ra i) else none)))))), (kx, .inl (E.2.1 0, 8, .inl fx))] ++ k_rows E ra (va_up M cnt u)) := hD
    refine lv_aload_n hx hb d_St_put_24 rfl (lv_at hl 0 rfl) ?_
    refine lv_dup hx hb d_St_put_25 rfl ?_
    refine va_get (D := E.1) (ci := 1) (v := .int (nI cnt)) (C := "WideStack$Stack") (T := T_St) (N := 3) hx hb hts in_St hown hK hP 0 rfl rfl 2 (by decide) (hts _ t_127) (fun _ h9 => h9) rfl d_St_put_26 ?_
    refine lv_iconst (v := nI 1) hx hb d_St_put_29 (by decide) ?_
    refine lv_iadd hx hb d_St_put_30 ?_
    refine k_top (nI_add _ _) ?_
    refine va_put (D := E.1) (ci := 1) (v := .int (nI (cnt + 1))) (ty := .int) (C := "WideStack$Stack") (T := T_St) (N := 3) hx hb hts in_St ty_St tyok_St nm_St hown hK hP hD hS 0 rfl rfl 2 (by decide) (hts _ t_127) (fun _ h9 => h9) rfl (by decide +kernel) rfl rfl (Nat.le_of_ble_eq_true rfl) d_St_put_31 (fun H locs hP hD hS => ?_)
    have hP : va_P E.1 vwCl ([(k, .inr (1, [.ref kw, .ref kx, .int (nI (cnt + 1))])), (kw, .inl (E.2.1 2, 16, .inr (.inr (.inr (.inr (fun i => if i < 16 then some (ra i) else none)))))), (kx, .inl (E.2.1 0, 8, .inl fx))] ++ k_rows E ra (va_up M cnt u)) H := hP
    have hD : va_D A ([(k, .inr (1, [.ref kw, .ref kx, .int (nI (cnt + 1))])), (kw, .inl (E.2.1 2, 16, .inr (.inr (.inr (.inr (fun i => if i < 16 then some (ra i) else none)))))), (kx, .inl (E.2.1 0, 8, .inl fx))] ++ k_rows E ra (va_up M cnt u)) := hD
    refine lv_iconst (v := nI 1) hx hb d_St_put_34 (by decide) ?_
    exact hret _ ls _ _ _ (cnt + 1, va_up M cnt u) d_St_put_35 (by decide) ⟨rfl, fun i _ j hj => put_row hu i j hj⟩ hP hS
  · omega

abbrev y_St_look : MethodName := ⟨"WideStack$Stack", "look", "(I[I)V"⟩
theorem d_St_look_0 : decode prog_8_method_6_code 0 = .ok (.aload_n 0, 1) := by decide +kernel
theorem d_St_look_1 : decode prog_8_method_6_code 1 = .ok (.iload_n 1, 1) := by decide +kernel
theorem d_St_look_2 : decode prog_8_method_6_code 2 = .ok (.invokevirtual 34, 3) := by decide +kernel
theorem d_St_look_5 : decode prog_8_method_6_code 5 = .ok (.ifCond .eq 23, 3) := by decide +kernel
theorem d_St_look_8 : decode prog_8_method_6_code 8 = .ok (.aload_n 0, 1) := by decide +kernel
theorem d_St_look_9 : decode prog_8_method_6_code 9 = .ok (.getfield 13, 3) := by decide +kernel
theorem d_St_look_12 : decode prog_8_method_6_code 12 = .ok (.aload_n 0, 1) := by decide +kernel
theorem d_St_look_13 : decode prog_8_method_6_code 13 = .ok (.getfield 20, 3) := by decide +kernel
theorem d_St_look_16 : decode prog_8_method_6_code 16 = .ok (.iconst 1, 1) := by decide +kernel
theorem d_St_look_17 : decode prog_8_method_6_code 17 = .ok (.isub, 1) := by decide +kernel
theorem d_St_look_18 : decode prog_8_method_6_code 18 = .ok (.iload_n 1, 1) := by decide +kernel
theorem d_St_look_19 : decode prog_8_method_6_code 19 = .ok (.isub, 1) := by decide +kernel
theorem d_St_look_20 : decode prog_8_method_6_code 20 = .ok (.aaload, 1) := by decide +kernel
theorem d_St_look_21 : decode prog_8_method_6_code 21 = .ok (.aload_n 2, 1) := by decide +kernel
theorem d_St_look_22 : decode prog_8_method_6_code 22 = .ok (.invokestatic 24, 3) := by decide +kernel
theorem d_St_look_25 : decode prog_8_method_6_code 25 = .ok (.goto 7, 3) := by decide +kernel
theorem d_St_look_28 : decode prog_8_method_6_code 28 = .ok (.aload_n 2, 1) := by decide +kernel
theorem d_St_look_29 : decode prog_8_method_6_code 29 = .ok (.invokestatic 38, 3) := by decide +kernel
theorem d_St_look_32 : decode prog_8_method_6_code 32 = .ok (.return_, 1) := by decide +kernel
def rm_c_St_look : Room := { frames := 2, cells := 0, slots := 0, locals := 61 }
set_option maxHeartbeats 4000000 in
set_option maxRecDepth 100000 in
theorem c_St_look (l : Launch) (E : kE) (k kw kx cnt : Nat) (ra : Nat → Nat) (fx : Nat → Int32) (M : Nat → Nat → Int32) (t a : Nat) (f : Nat → Int32) (hc : cnt ≤ 16) (ht : t < 16) : Kv l y_St_look (kW y_St_look prog_8_method_6_code 3 (none)) rm_c_St_look E [.ref k, .int (nI t), .ref a] ([(k, .inr (1, [.ref kw, .ref kx, .int (nI cnt)])), (kw, .inl (E.2.1 2, 16, .inr (.inr (.inr (.inr (fun i => if i < 16 then some (ra i) else none)))))), (kx, .inl (E.2.1 0, 8, .inl fx)), (a, .inl (E.2.1 0, 8, .inl f))] ++ k_rows E ra M) (S := Nat → Int32) (fun u => wv u 8 = if t < cnt then wv (M (cnt - 1 - t)) 8 else 0) (fun u => ([(k, .inr (1, [.ref kw, .ref kx, .int (nI cnt)])), (kw, .inl (E.2.1 2, 16, .inr (.inr (.inr (.inr (fun i => if i < 16 then some (ra i) else none)))))), (kx, .inl (E.2.1 0, 8, .inl fx)), (a, .inl (E.2.1 0, 8, .inl u))] ++ k_rows E ra M)) := by
  refine Kv.ofW (cc := prog_8_method_6_code) (maxL := 3) (by decide) (Nat.le_of_ble_eq_true rfl) ?_
  intro p e s m args below meth c A ls Q hx hb hts hown hml hK hG hA hP hD hS hl hret
  have hl : lv_has ls 3 [(0, .ref k), (1, .int (nI t)), (2, .ref a)] := hl
  refine lv_aload_n hx hb d_St_look_0 rfl (lv_at hl 0 rfl) ?_
  refine lv_iload_n hx hb d_St_look_1 rfl (lv_at hl 1 rfl) ?_
  refine k_Vp (As := [.int (nI t)]) (rest := []) ⟨hx, hb, hml, hown, hts⟩ (c_St_isThere l E k kw kx cnt (nI t) (by omega)) (k_cwV 1 hts t_343 t_345 t_1 t_65 t_346 (by decide +kernel) ⟨Nat.le_of_ble_eq_true rfl, Nat.le_of_ble_eq_true rfl⟩) hK hG hA hP hD hS [0] rfl (by decide) 0 rfl rfl rfl hl.1 rfl (Nat.le_of_ble_eq_true rfl) d_St_look_2 ⟨Nat.zero_le _, Nat.zero_le _⟩ (fun r2 hu2 => ?_)
  have hu2 := hu2.trans (by rw [m_in_nI (by omega) (by omega)])
  subst hu2
  refine lv_if_eq (tgt := 28) hx hb d_St_look_5 (by decide) (fun h5 => ?_) (fun h5 => ?_)
  · refine lv_aload_n hx hb d_St_look_28 rfl (lv_at hl 2 rfl) ?_
    refine k_Sv (As := [.ref a]) (rest := []) ⟨hx, hb, hml, hown, hts⟩ (c_W_makeZero l E a f) (k_cwS 1 hts t_347 t_348 t_73 t_349 (by decide +kernel) ⟨Nat.le_of_ble_eq_true rfl, Nat.le_of_ble_eq_true rfl⟩) hK hG hA hP hD hS [3] rfl (by decide) (fun _ => rfl) rfl hl.1 rfl (Nat.le_of_ble_eq_true rfl) d_St_look_29 ⟨Nat.zero_le _, Nat.zero_le _⟩ (fun u H locs hu hP hD hS => ?_)
    have hP : va_P E.1 vwCl ([(k, .inr (1, [.ref kw, .ref kx, .int (nI cnt)])), (kw, .inl (E.2.1 2, 16, .inr (.inr (.inr (.inr (fun i => if i < 16 then some (ra i) else none)))))), (kx, .inl (E.2.1 0, 8, .inl fx)), (a, .inl (E.2.1 0, 8, .inl u))] ++ k_rows E ra M) H := hP
    have hD : va_D A ([(k, .inr (1, [.ref kw, .ref kx, .int (nI cnt)])), (kw, .inl (E.2.1 2, 16, .inr (.inr (.inr (.inr (fun i => if i < 16 then some (ra i) else none)))))), (kx, .inl (E.2.1 0, 8, .inl fx)), (a, .inl (E.2.1 0, 8, .inl u))] ++ k_rows E ra M) := hD
    first | exact hret _ ls _ _ u d_St_look_32 (by rw [if_pos (of_decide_eq_true (kb_n0 h5))]; exact wv_congr (fun j hj => (hu j).trans (if_pos hj))) hP hS | exact hret _ ls _ _ u d_St_look_32 (by rw [if_neg (of_decide_eq_false (kb_0.mp h5))]; exact wv_zero8 hu) hP hS
  · refine lv_aload_n hx hb d_St_look_8 rfl (lv_at hl 0 rfl) ?_
    refine va_get (D := E.1) (ci := 1) (v := .ref kw) (C := "WideStack$Stack") (T := T_St) (N := 3) hx hb hts in_St hown hK hP 0 rfl rfl 0 (by decide) (hts _ t_125) (fun _ h9 => h9) rfl d_St_look_9 ?_
    refine lv_aload_n hx hb d_St_look_12 rfl (lv_at hl 0 rfl) ?_
    refine va_get (D := E.1) (ci := 1) (v := .int (nI cnt)) (C := "WideStack$Stack") (T := T_St) (N := 3) hx hb hts in_St hown hK hP 0 rfl rfl 2 (by decide) (hts _ t_127) (fun _ h9 => h9) rfl d_St_look_13 ?_
    refine lv_iconst (v := nI 1) hx hb d_St_look_16 (by decide) ?_
    refine lv_isub hx hb d_St_look_17 ?_
    refine k_top (pk_sub (by have := of_decide_eq_true (kb_n0 h5); omega)) ?_
    refine lv_iload_n hx hb d_St_look_18 rfl (lv_at hl 1 rfl) ?_
    refine lv_isub hx hb d_St_look_19 ?_
    refine k_top (pk_sub (by have := of_decide_eq_true (kb_n0 h5); omega)) ?_
    refine k_aald hx hb hK hP 1 (ra := ra) rfl (i := ((cnt - 1) - t)) (by omega) d_St_look_20 ?_
    refine lv_aload_n hx hb d_St_look_21 rfl (lv_at hl 2 rfl) ?_
    refine k_Sv (As := [.ref (ra ((cnt - 1) - t)), .ref a]) (rest := []) ⟨hx, hb, hml, hown, hts⟩ (c_W_copy l E (ra (cnt - 1 - t)) a 8 8 (M (cnt - 1 - t)) f (by decide) (by decide)) (k_cwS 2 hts t_313 t_314 t_73 t_315 (by decide +kernel) ⟨Nat.le_of_ble_eq_true rfl, Nat.le_of_ble_eq_true rfl⟩) hK hG hA hP hD hS [4 + (cnt - 1 - t), 3] (by simp only [List.map_cons, List.map_nil]; rw [k_row (n := 4) (k := (cnt - 1 - t)) rfl (by omega)]; try rfl) (k_nd2 (by omega)) (fun _ => rfl) rfl hl.1 rfl (Nat.le_of_ble_eq_true rfl) d_St_look_22 ⟨Nat.zero_le _, Nat.zero_le _⟩ (fun u H locs hu hP hD hS => ?_)
    have hP : va_P E.1 vwCl (List.set (List.set (([(k, .inr (1, [.ref kw, .ref kx, .int (nI cnt)])), (kw, .inl (E.2.1 2, 16, .inr (.inr (.inr (.inr (fun i => if i < 16 then some (ra i) else none)))))), (kx, .inl (E.2.1 0, 8, .inl fx)), (a, .inl (E.2.1 0, 8, .inl f))] : va_W) ++ k_rows E ra M) (4 + (cnt - 1 - t)) (ra (cnt - 1 - t), .inl (E.2.1 0, 8, .inl (M (cnt - 1 - t))))) 3 (a, .inl (E.2.1 0, 8, .inl u))) H := hP
    have hD : va_D A (List.set (List.set (([(k, .inr (1, [.ref kw, .ref kx, .int (nI cnt)])), (kw, .inl (E.2.1 2, 16, .inr (.inr (.inr (.inr (fun i => if i < 16 then some (ra i) else none)))))), (kx, .inl (E.2.1 0, 8, .inl fx)), (a, .inl (E.2.1 0, 8, .inl f))] : va_W) ++ k_rows E ra M) (4 + (cnt - 1 - t)) (ra (cnt - 1 - t), .inl (E.2.1 0, 8, .inl (M (cnt - 1 - t))))) 3 (a, .inl (E.2.1 0, 8, .inl u))) := hD
    rw [k_row_set (n := 4) (k := (cnt - 1 - t)) rfl (by omega), k_same] at hP hD
    have hP : va_P E.1 vwCl ([(k, .inr (1, [.ref kw, .ref kx, .int (nI cnt)])), (kw, .inl (E.2.1 2, 16, .inr (.inr (.inr (.inr (fun i => if i < 16 then some (ra i) else none)))))), (kx, .inl (E.2.1 0, 8, .inl fx)), (a, .inl (E.2.1 0, 8, .inl u))] ++ k_rows E ra M) H := hP
    have hD : va_D A ([(k, .inr (1, [.ref kw, .ref kx, .int (nI cnt)])), (kw, .inl (E.2.1 2, 16, .inr (.inr (.inr (.inr (fun i => if i < 16 then some (ra i) else none)))))), (kx, .inl (E.2.1 0, 8, .inl fx)), (a, .inl (E.2.1 0, 8, .inl u))] ++ k_rows E ra M) := hD
    refine lv_goto (tgt := 32) hx hb d_St_look_25 (by decide) ?_
    first | exact hret _ ls _ _ u d_St_look_32 (by rw [if_pos (of_decide_eq_true (kb_n0 h5))]; exact wv_congr (fun j hj => (hu j).trans (if_pos hj))) hP hS | exact hret _ ls _ _ u d_St_look_32 (by rw [if_neg (of_decide_eq_false (kb_0.mp h5))]; exact wv_zero8 hu) hP hS

abbrev y_St_repeat : MethodName := ⟨"WideStack$Stack", "repeat", "(I)V"⟩
theorem d_St_repeat_0 : decode prog_8_method_8_code 0 = .ok (.aload_n 0, 1) := by decide +kernel
theorem d_St_repeat_1 : decode prog_8_method_8_code 1 = .ok (.iload_n 1, 1) := by decide +kernel
theorem d_St_repeat_2 : decode prog_8_method_8_code 2 = .ok (.invokevirtual 34, 3) := by decide +kernel
theorem d_St_repeat_5 : decode prog_8_method_8_code 5 = .ok (.ifCond .eq 21, 3) := by decide +kernel
theorem d_St_repeat_8 : decode prog_8_method_8_code 8 = .ok (.aload_n 0, 1) := by decide +kernel
theorem d_St_repeat_9 : decode prog_8_method_8_code 9 = .ok (.aload_n 0, 1) := by decide +kernel
theorem d_St_repeat_10 : decode prog_8_method_8_code 10 = .ok (.getfield 13, 3) := by decide +kernel
theorem d_St_repeat_13 : decode prog_8_method_8_code 13 = .ok (.aload_n 0, 1) := by decide +kernel
theorem d_St_repeat_14 : decode prog_8_method_8_code 14 = .ok (.getfield 20, 3) := by decide +kernel
theorem d_St_repeat_17 : decode prog_8_method_8_code 17 = .ok (.iconst 1, 1) := by decide +kernel
theorem d_St_repeat_18 : decode prog_8_method_8_code 18 = .ok (.isub, 1) := by decide +kernel
theorem d_St_repeat_19 : decode prog_8_method_8_code 19 = .ok (.iload_n 1, 1) := by decide +kernel
theorem d_St_repeat_20 : decode prog_8_method_8_code 20 = .ok (.isub, 1) := by decide +kernel
theorem d_St_repeat_21 : decode prog_8_method_8_code 21 = .ok (.aaload, 1) := by decide +kernel
theorem d_St_repeat_22 : decode prog_8_method_8_code 22 = .ok (.invokevirtual 42, 3) := by decide +kernel
theorem d_St_repeat_25 : decode prog_8_method_8_code 25 = .ok (.pop, 1) := by decide +kernel
theorem d_St_repeat_26 : decode prog_8_method_8_code 26 = .ok (.return_, 1) := by decide +kernel
def rm_c_St_repeat : Room := { frames := 3, cells := 0, slots := 0, locals := 82 }
set_option maxHeartbeats 4000000 in
set_option maxRecDepth 100000 in
theorem c_St_repeat (l : Launch) (E : kE) (k kw kx cnt : Nat) (ra : Nat → Nat) (fx : Nat → Int32) (M : Nat → Nat → Int32) (t : Nat) (ht : t < cnt) (hc : cnt < 16) : Kv l y_St_repeat (kW y_St_repeat prog_8_method_8_code 2 (none)) rm_c_St_repeat E [.ref k, .int (nI t)] ([(k, .inr (1, [.ref kw, .ref kx, .int (nI cnt)])), (kw, .inl (E.2.1 2, 16, .inr (.inr (.inr (.inr (fun i => if i < 16 then some (ra i) else none)))))), (kx, .inl (E.2.1 0, 8, .inl fx))] ++ k_rows E ra M) (S := Nat × (Nat → Nat → Int32)) (fun u => u.1 = cnt + 1 ∧ ∀ i, i < 16 → ∀ j, j < 8 → u.2 i j = if i = cnt then M (cnt - 1 - t) j else M i j) (fun u => ([(k, .inr (1, [.ref kw, .ref kx, .int (nI u.1)])), (kw, .inl (E.2.1 2, 16, .inr (.inr (.inr (.inr (fun i => if i < 16 then some (ra i) else none)))))), (kx, .inl (E.2.1 0, 8, .inl fx))] ++ k_rows E ra u.2)) := by
  refine Kv.ofW (cc := prog_8_method_8_code) (maxL := 2) (by decide) (Nat.le_of_ble_eq_true rfl) ?_
  intro p e s m args below meth c A ls Q hx hb hts hown hml hK hG hA hP hD hS hl hret
  have hl : lv_has ls 2 [(0, .ref k), (1, .int (nI t))] := hl
  refine lv_aload_n hx hb d_St_repeat_0 rfl (lv_at hl 0 rfl) ?_
  refine lv_iload_n hx hb d_St_repeat_1 rfl (lv_at hl 1 rfl) ?_
  refine k_Vp (As := [.int (nI t)]) (rest := []) ⟨hx, hb, hml, hown, hts⟩ (c_St_isThere l E k kw kx cnt (nI t) (by omega)) (k_cwV 1 hts t_343 t_345 t_1 t_65 t_346 (by decide +kernel) ⟨Nat.le_of_ble_eq_true rfl, Nat.le_of_ble_eq_true rfl⟩) hK hG hA hP hD hS [0] rfl (by decide) 0 rfl rfl rfl hl.1 rfl (Nat.le_of_ble_eq_true rfl) d_St_repeat_2 ⟨Nat.zero_le _, Nat.zero_le _⟩ (fun r2 hu2 => ?_)
  have hu2 := hu2.trans (by rw [m_in_nI (by omega) (by omega), decide_eq_true ht])
  subst hu2
  refine lv_if_eq (tgt := 26) hx hb d_St_repeat_5 (by decide) (fun h5 => ?_) (fun h5 => ?_)
  · exact absurd h5 (by decide)
  · refine lv_aload_n hx hb d_St_repeat_8 rfl (lv_at hl 0 rfl) ?_
    refine lv_aload_n hx hb d_St_repeat_9 rfl (lv_at hl 0 rfl) ?_
    refine va_get (D := E.1) (ci := 1) (v := .ref kw) (C := "WideStack$Stack") (T := T_St) (N := 3) hx hb hts in_St hown hK hP 0 rfl rfl 0 (by decide) (hts _ t_125) (fun _ h9 => h9) rfl d_St_repeat_10 ?_
    refine lv_aload_n hx hb d_St_repeat_13 rfl (lv_at hl 0 rfl) ?_
    refine va_get (D := E.1) (ci := 1) (v := .int (nI cnt)) (C := "WideStack$Stack") (T := T_St) (N := 3) hx hb hts in_St hown hK hP 0 rfl rfl 2 (by decide) (hts _ t_127) (fun _ h9 => h9) rfl d_St_repeat_14 ?_
    refine lv_iconst (v := nI 1) hx hb d_St_repeat_17 (by decide) ?_
    refine lv_isub hx hb d_St_repeat_18 ?_
    refine k_top (pk_sub (by omega)) ?_
    refine lv_iload_n hx hb d_St_repeat_19 rfl (lv_at hl 1 rfl) ?_
    refine lv_isub hx hb d_St_repeat_20 ?_
    refine k_top (pk_sub (by omega)) ?_
    refine k_aald hx hb hK hP 1 (ra := ra) rfl (i := ((cnt - 1) - t)) (by omega) d_St_repeat_21 ?_
    refine k_ViT (As := [.ref (ra ((cnt - 1) - t))]) (rest := []) ⟨hx, hb, hml, hown, hts⟩ (c_St_putRow l E k kw kx cnt ra fx M (cnt - 1 - t) (by omega) hc) (k_cwV 1 hts t_454 t_310 t_311 t_65 t_312 (by decide +kernel) ⟨Nat.le_of_ble_eq_true rfl, Nat.le_of_ble_eq_true rfl⟩) hK hG hA hP hD hS [0, 1, 2] rfl (by decide) 0 rfl rfl (fun _ => rfl) rfl hl.1 rfl (Nat.le_of_ble_eq_true rfl) d_St_repeat_22 ⟨Nat.zero_le _, Nat.zero_le _⟩ (fun r u H locs hu hP hD hS => ?_)
    have hP : va_P E.1 vwCl ([(k, .inr (1, [.ref kw, .ref kx, .int (nI u.1)])), (kw, .inl (E.2.1 2, 16, .inr (.inr (.inr (.inr (fun i => if i < 16 then some (ra i) else none)))))), (kx, .inl (E.2.1 0, 8, .inl fx))] ++ k_rows E ra u.2) H := hP
    have hD : va_D A ([(k, .inr (1, [.ref kw, .ref kx, .int (nI u.1)])), (kw, .inl (E.2.1 2, 16, .inr (.inr (.inr (.inr (fun i => if i < 16 then some (ra i) else none)))))), (kx, .inl (E.2.1 0, 8, .inl fx))] ++ k_rows E ra u.2) := hD
    refine lv_pop hx hb d_St_repeat_25 rfl ?_
    exact hret _ ls _ _ u d_St_repeat_26 hu hP hS

theorem exch_row {M : Nat → Nat → Int32} {cnt t : Nat} {fx u1 u2 u3 x2 x3 : Nat → Int32} (h0 : 0 < t) (ht : t < cnt) (hu1 : ∀ j, u1 j = if j < 8 then M (cnt - 1) j else fx j) (hu2 : ∀ j, u2 j = if j < 8 then M (cnt - 1 - t) j else x2 j) (hu3 : ∀ j, u3 j = if j < 8 then u1 j else x3 j) (i j : Nat) (hj : j < 8) : va_up (va_up M (cnt - 1) u2) (cnt - 1 - t) u3 i j = if i = cnt - 1 then M (cnt - 1 - t) j else if i = cnt - 1 - t then M (cnt - 1) j else M i j := by
  by_cases e : i = cnt - 1
  · rw [if_pos e, va_up_ne _ _ (by omega), e, va_up_self, hu2 j, if_pos hj]
  · rw [if_neg e]
    by_cases e2 : i = cnt - 1 - t
    · rw [if_pos e2, e2, va_up_self, hu3 j, if_pos hj, hu1 j, if_pos hj]
    · rw [if_neg e2, va_up_ne _ _ e2, va_up_ne _ _ e]

abbrev y_St_exchange : MethodName := ⟨"WideStack$Stack", "exchange", "(I)V"⟩
theorem d_St_exchange_0 : decode prog_8_method_9_code 0 = .ok (.aload_n 0, 1) := by decide +kernel
theorem d_St_exchange_1 : decode prog_8_method_9_code 1 = .ok (.iload_n 1, 1) := by decide +kernel
theorem d_St_exchange_2 : decode prog_8_method_9_code 2 = .ok (.invokevirtual 34, 3) := by decide +kernel
theorem d_St_exchange_5 : decode prog_8_method_9_code 5 = .ok (.ifCond .eq 68, 3) := by decide +kernel
theorem d_St_exchange_8 : decode prog_8_method_9_code 8 = .ok (.aload_n 0, 1) := by decide +kernel
theorem d_St_exchange_9 : decode prog_8_method_9_code 9 = .ok (.getfield 13, 3) := by decide +kernel
theorem d_St_exchange_12 : decode prog_8_method_9_code 12 = .ok (.aload_n 0, 1) := by decide +kernel
theorem d_St_exchange_13 : decode prog_8_method_9_code 13 = .ok (.getfield 20, 3) := by decide +kernel
theorem d_St_exchange_16 : decode prog_8_method_9_code 16 = .ok (.iconst 1, 1) := by decide +kernel
theorem d_St_exchange_17 : decode prog_8_method_9_code 17 = .ok (.isub, 1) := by decide +kernel
theorem d_St_exchange_18 : decode prog_8_method_9_code 18 = .ok (.aaload, 1) := by decide +kernel
theorem d_St_exchange_19 : decode prog_8_method_9_code 19 = .ok (.aload_n 0, 1) := by decide +kernel
theorem d_St_exchange_20 : decode prog_8_method_9_code 20 = .ok (.getfield 16, 3) := by decide +kernel
theorem d_St_exchange_23 : decode prog_8_method_9_code 23 = .ok (.invokestatic 24, 3) := by decide +kernel
theorem d_St_exchange_26 : decode prog_8_method_9_code 26 = .ok (.aload_n 0, 1) := by decide +kernel
theorem d_St_exchange_27 : decode prog_8_method_9_code 27 = .ok (.getfield 13, 3) := by decide +kernel
theorem d_St_exchange_30 : decode prog_8_method_9_code 30 = .ok (.aload_n 0, 1) := by decide +kernel
theorem d_St_exchange_31 : decode prog_8_method_9_code 31 = .ok (.getfield 20, 3) := by decide +kernel
theorem d_St_exchange_34 : decode prog_8_method_9_code 34 = .ok (.iconst 1, 1) := by decide +kernel
theorem d_St_exchange_35 : decode prog_8_method_9_code 35 = .ok (.isub, 1) := by decide +kernel
theorem d_St_exchange_36 : decode prog_8_method_9_code 36 = .ok (.iload_n 1, 1) := by decide +kernel
theorem d_St_exchange_37 : decode prog_8_method_9_code 37 = .ok (.isub, 1) := by decide +kernel
theorem d_St_exchange_38 : decode prog_8_method_9_code 38 = .ok (.aaload, 1) := by decide +kernel
theorem d_St_exchange_39 : decode prog_8_method_9_code 39 = .ok (.aload_n 0, 1) := by decide +kernel
theorem d_St_exchange_40 : decode prog_8_method_9_code 40 = .ok (.getfield 13, 3) := by decide +kernel
theorem d_St_exchange_43 : decode prog_8_method_9_code 43 = .ok (.aload_n 0, 1) := by decide +kernel
theorem d_St_exchange_44 : decode prog_8_method_9_code 44 = .ok (.getfield 20, 3) := by decide +kernel
theorem d_St_exchange_47 : decode prog_8_method_9_code 47 = .ok (.iconst 1, 1) := by decide +kernel
theorem d_St_exchange_48 : decode prog_8_method_9_code 48 = .ok (.isub, 1) := by decide +kernel
theorem d_St_exchange_49 : decode prog_8_method_9_code 49 = .ok (.aaload, 1) := by decide +kernel
theorem d_St_exchange_50 : decode prog_8_method_9_code 50 = .ok (.invokestatic 24, 3) := by decide +kernel
theorem d_St_exchange_53 : decode prog_8_method_9_code 53 = .ok (.aload_n 0, 1) := by decide +kernel
theorem d_St_exchange_54 : decode prog_8_method_9_code 54 = .ok (.getfield 16, 3) := by decide +kernel
theorem d_St_exchange_57 : decode prog_8_method_9_code 57 = .ok (.aload_n 0, 1) := by decide +kernel
theorem d_St_exchange_58 : decode prog_8_method_9_code 58 = .ok (.getfield 13, 3) := by decide +kernel
theorem d_St_exchange_61 : decode prog_8_method_9_code 61 = .ok (.aload_n 0, 1) := by decide +kernel
theorem d_St_exchange_62 : decode prog_8_method_9_code 62 = .ok (.getfield 20, 3) := by decide +kernel
theorem d_St_exchange_65 : decode prog_8_method_9_code 65 = .ok (.iconst 1, 1) := by decide +kernel
theorem d_St_exchange_66 : decode prog_8_method_9_code 66 = .ok (.isub, 1) := by decide +kernel
theorem d_St_exchange_67 : decode prog_8_method_9_code 67 = .ok (.iload_n 1, 1) := by decide +kernel
theorem d_St_exchange_68 : decode prog_8_method_9_code 68 = .ok (.isub, 1) := by decide +kernel
theorem d_St_exchange_69 : decode prog_8_method_9_code 69 = .ok (.aaload, 1) := by decide +kernel
theorem d_St_exchange_70 : decode prog_8_method_9_code 70 = .ok (.invokestatic 24, 3) := by decide +kernel
theorem d_St_exchange_73 : decode prog_8_method_9_code 73 = .ok (.return_, 1) := by decide +kernel
def rm_c_St_exchange : Room := { frames := 2, cells := 0, slots := 0, locals := 61 }
set_option maxHeartbeats 4000000 in
set_option maxRecDepth 100000 in
theorem c_St_exchange (l : Launch) (E : kE) (k kw kx cnt : Nat) (ra : Nat → Nat) (fx : Nat → Int32) (M : Nat → Nat → Int32) (t : Nat) (h0 : 0 < t) (ht : t < cnt) (hc : cnt ≤ 16) : Kv l y_St_exchange (kW y_St_exchange prog_8_method_9_code 2 (none)) rm_c_St_exchange E [.ref k, .int (nI t)] ([(k, .inr (1, [.ref kw, .ref kx, .int (nI cnt)])), (kw, .inl (E.2.1 2, 16, .inr (.inr (.inr (.inr (fun i => if i < 16 then some (ra i) else none)))))), (kx, .inl (E.2.1 0, 8, .inl fx))] ++ k_rows E ra M) (S := (Nat → Int32) × (Nat → Nat → Int32)) (fun u => ∀ i, i < 16 → ∀ j, j < 8 → u.2 i j = if i = cnt - 1 then M (cnt - 1 - t) j else if i = cnt - 1 - t then M (cnt - 1) j else M i j) (fun u => ([(k, .inr (1, [.ref kw, .ref kx, .int (nI cnt)])), (kw, .inl (E.2.1 2, 16, .inr (.inr (.inr (.inr (fun i => if i < 16 then some (ra i) else none)))))), (kx, .inl (E.2.1 0, 8, .inl u.1))] ++ k_rows E ra u.2)) := by
  refine Kv.ofW (cc := prog_8_method_9_code) (maxL := 2) (by decide) (Nat.le_of_ble_eq_true rfl) ?_
  intro p e s m args below meth c A ls Q hx hb hts hown hml hK hG hA hP hD hS hl hret
  have hl : lv_has ls 2 [(0, .ref k), (1, .int (nI t))] := hl
  refine lv_aload_n hx hb d_St_exchange_0 rfl (lv_at hl 0 rfl) ?_
  refine lv_iload_n hx hb d_St_exchange_1 rfl (lv_at hl 1 rfl) ?_
  refine k_Vp (As := [.int (nI t)]) (rest := []) ⟨hx, hb, hml, hown, hts⟩ (c_St_isThere l E k kw kx cnt (nI t) (by omega)) (k_cwV 1 hts t_343 t_345 t_1 t_65 t_346 (by decide +kernel) ⟨Nat.le_of_ble_eq_true rfl, Nat.le_of_ble_eq_true rfl⟩) hK hG hA hP hD hS [0] rfl (by decide) 0 rfl rfl rfl hl.1 rfl (Nat.le_of_ble_eq_true rfl) d_St_exchange_2 ⟨Nat.zero_le _, Nat.zero_le _⟩ (fun r2 hu2 => ?_)
  have hu2 := hu2.trans (by rw [m_in_nI (by omega) (by omega), decide_eq_true ht])
  subst hu2
  refine lv_if_eq (tgt := 73) hx hb d_St_exchange_5 (by decide) (fun h5 => ?_) (fun h5 => ?_)
  · exact absurd h5 (by decide)
  · refine lv_aload_n hx hb d_St_exchange_8 rfl (lv_at hl 0 rfl) ?_
    refine va_get (D := E.1) (ci := 1) (v := .ref kw) (C := "WideStack$Stack") (T := T_St) (N := 3) hx hb hts in_St hown hK hP 0 rfl rfl 0 (by decide) (hts _ t_125) (fun _ h9 => h9) rfl d_St_exchange_9 ?_
    refine lv_aload_n hx hb d_St_exchange_12 rfl (lv_at hl 0 rfl) ?_
    refine va_get (D := E.1) (ci := 1) (v := .int (nI cnt)) (C := "WideStack$Stack") (T := T_St) (N := 3) hx hb hts in_St hown hK hP 0 rfl rfl 2 (by decide) (hts _ t_127) (fun _ h9 => h9) rfl d_St_exchange_13 ?_
    refine lv_iconst (v := nI 1) hx hb d_St_exchange_16 (by decide) ?_
    refine lv_isub hx hb d_St_exchange_17 ?_
    refine k_top (pk_sub (by omega)) ?_
    refine k_aald hx hb hK hP 1 (ra := ra) rfl (i := (cnt - 1)) (by omega) d_St_exchange_18 ?_
    refine lv_aload_n hx hb d_St_exchange_19 rfl (lv_at hl 0 rfl) ?_
    refine va_get (D := E.1) (ci := 1) (v := .ref kx) (C := "WideStack$Stack") (T := T_St) (N := 3) hx hb hts in_St hown hK hP 0 rfl rfl 1 (by decide) (hts _ t_126) (fun _ h9 => h9) rfl d_St_exchange_20 ?_
    refine k_Sv (As := [.ref (ra (cnt - 1)), .ref kx]) (rest := []) ⟨hx, hb, hml, hown, hts⟩ (c_W_copy l E (ra (cnt - 1)) kx 8 8 (M (cnt - 1)) fx (by decide) (by decide)) (k_cwS 2 hts t_313 t_314 t_73 t_315 (by decide +kernel) ⟨Nat.le_of_ble_eq_true rfl, Nat.le_of_ble_eq_true rfl⟩) hK hG hA hP hD hS [3 + (cnt - 1), 2] (by simp only [List.map_cons, List.map_nil]; rw [k_row (n := 3) (k := (cnt - 1)) rfl (by omega)]; try rfl) (k_nd2 (by omega)) (fun _ => rfl) rfl hl.1 rfl (Nat.le_of_ble_eq_true rfl) d_St_exchange_23 ⟨Nat.zero_le _, Nat.zero_le _⟩ (fun u1 H locs hu1 hP hD hS => ?_)
    have hP : va_P E.1 vwCl (List.set (List.set (([(k, .inr (1, [.ref kw, .ref kx, .int (nI cnt)])), (kw, .inl (E.2.1 2, 16, .inr (.inr (.inr (.inr (fun i => if i < 16 then some (ra i) else none)))))), (kx, .inl (E.2.1 0, 8, .inl fx))] : va_W) ++ k_rows E ra M) (3 + (cnt - 1)) (ra (cnt - 1), .inl (E.2.1 0, 8, .inl (M (cnt - 1))))) 2 (kx, .inl (E.2.1 0, 8, .inl u1))) H := hP
    have hD : va_D A (List.set (List.set (([(k, .inr (1, [.ref kw, .ref kx, .int (nI cnt)])), (kw, .inl (E.2.1 2, 16, .inr (.inr (.inr (.inr (fun i => if i < 16 then some (ra i) else none)))))), (kx, .inl (E.2.1 0, 8, .inl fx))] : va_W) ++ k_rows E ra M) (3 + (cnt - 1)) (ra (cnt - 1), .inl (E.2.1 0, 8, .inl (M (cnt - 1))))) 2 (kx, .inl (E.2.1 0, 8, .inl u1))) := hD
    rw [k_row_set (n := 3) (k := (cnt - 1)) rfl (by omega), k_same] at hP hD
    have hP : va_P E.1 vwCl ([(k, .inr (1, [.ref kw, .ref kx, .int (nI cnt)])), (kw, .inl (E.2.1 2, 16, .inr (.inr (.inr (.inr (fun i => if i < 16 then some (ra i) else none)))))), (kx, .inl (E.2.1 0, 8, .inl u1))] ++ k_rows E ra M) H := hP
    have hD : va_D A ([(k, .inr (1, [.ref kw, .ref kx, .int (nI cnt)])), (kw, .inl (E.2.1 2, 16, .inr (.inr (.inr (.inr (fun i => if i < 16 then some (ra i) else none)))))), (kx, .inl (E.2.1 0, 8, .inl u1))] ++ k_rows E ra M) := hD
    refine lv_aload_n hx hb d_St_exchange_26 rfl (lv_at hl 0 rfl) ?_
    refine va_get (D := E.1) (ci := 1) (v := .ref kw) (C := "WideStack$Stack") (T := T_St) (N := 3) hx hb hts in_St hown hK hP 0 rfl rfl 0 (by decide) (hts _ t_125) (fun _ h9 => h9) rfl d_St_exchange_27 ?_
    refine lv_aload_n hx hb d_St_exchange_30 rfl (lv_at hl 0 rfl) ?_
    refine va_get (D := E.1) (ci := 1) (v := .int (nI cnt)) (C := "WideStack$Stack") (T := T_St) (N := 3) hx hb hts in_St hown hK hP 0 rfl rfl 2 (by decide) (hts _ t_127) (fun _ h9 => h9) rfl d_St_exchange_31 ?_
    refine lv_iconst (v := nI 1) hx hb d_St_exchange_34 (by decide) ?_
    refine lv_isub hx hb d_St_exchange_35 ?_
    refine k_top (pk_sub (by omega)) ?_
    refine lv_iload_n hx hb d_St_exchange_36 rfl (lv_at hl 1 rfl) ?_
    refine lv_isub hx hb d_St_exchange_37 ?_
    refine k_top (pk_sub (by omega)) ?_
    refine k_aald hx hb hK hP 1 (ra := ra) rfl (i := ((cnt - 1) - t)) (by omega) d_St_exchange_38 ?_
    refine lv_aload_n hx hb d_St_exchange_39 rfl (lv_at hl 0 rfl) ?_
    refine va_get (D := E.1) (ci := 1) (v := .ref kw) (C := "WideStack$Stack") (T := T_St) (N := 3) hx hb hts in_St hown hK hP 0 rfl rfl 0 (by decide) (hts _ t_125) (fun _ h9 => h9) rfl d_St_exchange_40 ?_
    refine lv_aload_n hx hb d_St_exchange_43 rfl (lv_at hl 0 rfl) ?_
    refine va_get (D := E.1) (ci := 1) (v := .int (nI cnt)) (C := "WideStack$Stack") (T := T_St) (N := 3) hx hb hts in_St hown hK hP 0 rfl rfl 2 (by decide) (hts _ t_127) (fun _ h9 => h9) rfl d_St_exchange_44 ?_
    refine lv_iconst (v := nI 1) hx hb d_St_exchange_47 (by decide) ?_
    refine lv_isub hx hb d_St_exchange_48 ?_
    refine k_top (pk_sub (by omega)) ?_
    refine k_aald hx hb hK hP 1 (ra := ra) rfl (i := (cnt - 1)) (by omega) d_St_exchange_49 ?_
    refine k_Sv (As := [.ref (ra ((cnt - 1) - t)), .ref (ra (cnt - 1))]) (rest := []) ⟨hx, hb, hml, hown, hts⟩ (c_W_copy l E (ra (cnt - 1 - t)) (ra (cnt - 1)) 8 8 (M (cnt - 1 - t)) (M (cnt - 1)) (by decide) (by decide)) (k_cwS 2 hts t_313 t_314 t_73 t_315 (by decide +kernel) ⟨Nat.le_of_ble_eq_true rfl, Nat.le_of_ble_eq_true rfl⟩) hK hG hA hP hD hS [3 + (cnt - 1 - t), 3 + (cnt - 1)] (by simp only [List.map_cons, List.map_nil]; rw [k_row (n := 3) (k := (cnt - 1 - t)) rfl (by omega), k_row (n := 3) (k := (cnt - 1)) rfl (by omega)]; try rfl) (k_nd2 (by omega)) (fun _ => rfl) rfl hl.1 rfl (Nat.le_of_ble_eq_true rfl) d_St_exchange_50 ⟨Nat.zero_le _, Nat.zero_le _⟩ (fun u2 H locs hu2 hP hD hS => ?_)
    have hP : va_P E.1 vwCl (List.set (List.set (([(k, .inr (1, [.ref kw, .ref kx, .int (nI cnt)])), (kw, .inl (E.2.1 2, 16, .inr (.inr (.inr (.inr (fun i => if i < 16 then some (ra i) else none)))))), (kx, .inl (E.2.1 0, 8, .inl u1))] : va_W) ++ k_rows E ra M) (3 + (cnt - 1 - t)) (ra (cnt - 1 - t), .inl (E.2.1 0, 8, .inl (M (cnt - 1 - t))))) (3 + (cnt - 1)) (ra (cnt - 1), .inl (E.2.1 0, 8, .inl u2))) H := hP
    have hD : va_D A (List.set (List.set (([(k, .inr (1, [.ref kw, .ref kx, .int (nI cnt)])), (kw, .inl (E.2.1 2, 16, .inr (.inr (.inr (.inr (fun i => if i < 16 then some (ra i) else none)))))), (kx, .inl (E.2.1 0, 8, .inl u1))] : va_W) ++ k_rows E ra M) (3 + (cnt - 1 - t)) (ra (cnt - 1 - t), .inl (E.2.1 0, 8, .inl (M (cnt - 1 - t))))) (3 + (cnt - 1)) (ra (cnt - 1), .inl (E.2.1 0, 8, .inl u2))) := hD
    rw [k_row_set (n := 3) (k := (cnt - 1 - t)) rfl (by omega), k_same, k_row_set (n := 3) (k := (cnt - 1)) rfl (by omega)] at hP hD
    have hP : va_P E.1 vwCl ([(k, .inr (1, [.ref kw, .ref kx, .int (nI cnt)])), (kw, .inl (E.2.1 2, 16, .inr (.inr (.inr (.inr (fun i => if i < 16 then some (ra i) else none)))))), (kx, .inl (E.2.1 0, 8, .inl u1))] ++ k_rows E ra (va_up M (cnt - 1) u2)) H := hP
    have hD : va_D A ([(k, .inr (1, [.ref kw, .ref kx, .int (nI cnt)])), (kw, .inl (E.2.1 2, 16, .inr (.inr (.inr (.inr (fun i => if i < 16 then some (ra i) else none)))))), (kx, .inl (E.2.1 0, 8, .inl u1))] ++ k_rows E ra (va_up M (cnt - 1) u2)) := hD
    refine lv_aload_n hx hb d_St_exchange_53 rfl (lv_at hl 0 rfl) ?_
    refine va_get (D := E.1) (ci := 1) (v := .ref kx) (C := "WideStack$Stack") (T := T_St) (N := 3) hx hb hts in_St hown hK hP 0 rfl rfl 1 (by decide) (hts _ t_126) (fun _ h9 => h9) rfl d_St_exchange_54 ?_
    refine lv_aload_n hx hb d_St_exchange_57 rfl (lv_at hl 0 rfl) ?_
    refine va_get (D := E.1) (ci := 1) (v := .ref kw) (C := "WideStack$Stack") (T := T_St) (N := 3) hx hb hts in_St hown hK hP 0 rfl rfl 0 (by decide) (hts _ t_125) (fun _ h9 => h9) rfl d_St_exchange_58 ?_
    refine lv_aload_n hx hb d_St_exchange_61 rfl (lv_at hl 0 rfl) ?_
    refine va_get (D := E.1) (ci := 1) (v := .int (nI cnt)) (C := "WideStack$Stack") (T := T_St) (N := 3) hx hb hts in_St hown hK hP 0 rfl rfl 2 (by decide) (hts _ t_127) (fun _ h9 => h9) rfl d_St_exchange_62 ?_
    refine lv_iconst (v := nI 1) hx hb d_St_exchange_65 (by decide) ?_
    refine lv_isub hx hb d_St_exchange_66 ?_
    refine k_top (pk_sub (by omega)) ?_
    refine lv_iload_n hx hb d_St_exchange_67 rfl (lv_at hl 1 rfl) ?_
    refine lv_isub hx hb d_St_exchange_68 ?_
    refine k_top (pk_sub (by omega)) ?_
    refine k_aald hx hb hK hP 1 (ra := ra) rfl (i := ((cnt - 1) - t)) (by omega) d_St_exchange_69 ?_
    refine k_Sv (As := [.ref kx, .ref (ra ((cnt - 1) - t))]) (rest := []) ⟨hx, hb, hml, hown, hts⟩ (c_W_copy l E kx (ra (cnt - 1 - t)) 8 8 u1 (va_up M (cnt - 1) u2 (cnt - 1 - t)) (by decide) (by decide)) (k_cwS 2 hts t_313 t_314 t_73 t_315 (by decide +kernel) ⟨Nat.le_of_ble_eq_true rfl, Nat.le_of_ble_eq_true rfl⟩) hK hG hA hP hD hS [2, 3 + (cnt - 1 - t)] (by simp only [List.map_cons, List.map_nil]; rw [k_row (n := 3) (k := (cnt - 1 - t)) rfl (by omega)]; try rfl) (k_nd2 (by omega)) (fun _ => rfl) rfl hl.1 rfl (Nat.le_of_ble_eq_true rfl) d_St_exchange_70 ⟨Nat.zero_le _, Nat.zero_le _⟩ (fun u3 H locs hu3 hP hD hS => ?_)
    have hP : va_P E.1 vwCl (List.set (([(k, .inr (1, [.ref kw, .ref kx, .int (nI cnt)])), (kw, .inl (E.2.1 2, 16, .inr (.inr (.inr (.inr (fun i => if i < 16 then some (ra i) else none)))))), (kx, .inl (E.2.1 0, 8, .inl u1))] : va_W) ++ k_rows E ra (va_up M (cnt - 1) u2)) (3 + (cnt - 1 - t)) (ra (cnt - 1 - t), .inl (E.2.1 0, 8, .inl u3))) H := hP
    have hD : va_D A (List.set (([(k, .inr (1, [.ref kw, .ref kx, .int (nI cnt)])), (kw, .inl (E.2.1 2, 16, .inr (.inr (.inr (.inr (fun i => if i < 16 then some (ra i) else none)))))), (kx, .inl (E.2.1 0, 8, .inl u1))] : va_W) ++ k_rows E ra (va_up M (cnt - 1) u2)) (3 + (cnt - 1 - t)) (ra (cnt - 1 - t), .inl (E.2.1 0, 8, .inl u3))) := hD
    rw [k_row_set (n := 3) (k := (cnt - 1 - t)) rfl (by omega)] at hP hD
    have hP : va_P E.1 vwCl ([(k, .inr (1, [.ref kw, .ref kx, .int (nI cnt)])), (kw, .inl (E.2.1 2, 16, .inr (.inr (.inr (.inr (fun i => if i < 16 then some (ra i) else none)))))), (kx, .inl (E.2.1 0, 8, .inl u1))] ++ k_rows E ra (va_up (va_up M (cnt - 1) u2) (cnt - 1 - t) u3)) H := hP
    have hD : va_D A ([(k, .inr (1, [.ref kw, .ref kx, .int (nI cnt)])), (kw, .inl (E.2.1 2, 16, .inr (.inr (.inr (.inr (fun i => if i < 16 then some (ra i) else none)))))), (kx, .inl (E.2.1 0, 8, .inl u1))] ++ k_rows E ra (va_up (va_up M (cnt - 1) u2) (cnt - 1 - t) u3)) := hD
    exact hret _ ls _ _ (u1, va_up (va_up M (cnt - 1) u2) (cnt - 1 - t) u3) d_St_exchange_73 (fun i _ j hj => exch_row h0 ht hu1 hu2 hu3 i j hj) hP hS

abbrev y_St_partAt : MethodName := ⟨"WideStack$Stack", "partAt", "(II)I"⟩
theorem d_St_partAt_0 : decode prog_8_method_7_code 0 = .ok (.aload_n 0, 1) := by decide +kernel
theorem d_St_partAt_1 : decode prog_8_method_7_code 1 = .ok (.iload_n 1, 1) := by decide +kernel
theorem d_St_partAt_2 : decode prog_8_method_7_code 2 = .ok (.invokevirtual 34, 3) := by decide +kernel
theorem d_St_partAt_5 : decode prog_8_method_7_code 5 = .ok (.ifCond .eq 31, 3) := by decide +kernel
theorem d_St_partAt_8 : decode prog_8_method_7_code 8 = .ok (.iload_n 2, 1) := by decide +kernel
theorem d_St_partAt_9 : decode prog_8_method_7_code 9 = .ok (.ifCond .lt 27, 3) := by decide +kernel
theorem d_St_partAt_12 : decode prog_8_method_7_code 12 = .ok (.iload_n 2, 1) := by decide +kernel
theorem d_St_partAt_13 : decode prog_8_method_7_code 13 = .ok (.bipush 8, 2) := by decide +kernel
theorem d_St_partAt_15 : decode prog_8_method_7_code 15 = .ok (.if_icmp .ge 21, 3) := by decide +kernel
theorem d_St_partAt_18 : decode prog_8_method_7_code 18 = .ok (.aload_n 0, 1) := by decide +kernel
theorem d_St_partAt_19 : decode prog_8_method_7_code 19 = .ok (.getfield 13, 3) := by decide +kernel
theorem d_St_partAt_22 : decode prog_8_method_7_code 22 = .ok (.aload_n 0, 1) := by decide +kernel
theorem d_St_partAt_23 : decode prog_8_method_7_code 23 = .ok (.getfield 20, 3) := by decide +kernel
theorem d_St_partAt_26 : decode prog_8_method_7_code 26 = .ok (.iconst 1, 1) := by decide +kernel
theorem d_St_partAt_27 : decode prog_8_method_7_code 27 = .ok (.isub, 1) := by decide +kernel
theorem d_St_partAt_28 : decode prog_8_method_7_code 28 = .ok (.iload_n 1, 1) := by decide +kernel
theorem d_St_partAt_29 : decode prog_8_method_7_code 29 = .ok (.isub, 1) := by decide +kernel
theorem d_St_partAt_30 : decode prog_8_method_7_code 30 = .ok (.aaload, 1) := by decide +kernel
theorem d_St_partAt_31 : decode prog_8_method_7_code 31 = .ok (.iload_n 2, 1) := by decide +kernel
theorem d_St_partAt_32 : decode prog_8_method_7_code 32 = .ok (.iaload, 1) := by decide +kernel
theorem d_St_partAt_33 : decode prog_8_method_7_code 33 = .ok (.goto 4, 3) := by decide +kernel
theorem d_St_partAt_36 : decode prog_8_method_7_code 36 = .ok (.iconst 0, 1) := by decide +kernel
theorem d_St_partAt_37 : decode prog_8_method_7_code 37 = .ok (.ireturn, 1) := by decide +kernel
def rm_c_St_partAt : Room := { frames := 1, cells := 0, slots := 0, locals := 21 }
set_option maxHeartbeats 4000000 in
set_option maxRecDepth 100000 in
theorem c_St_partAt (l : Launch) (E : kE) (k kw kx cnt : Nat) (ra : Nat → Nat) (fx : Nat → Int32) (M : Nat → Nat → Int32) (x y : Int32) (hc : cnt ≤ 16) : Kp l y_St_partAt (kW y_St_partAt prog_8_method_7_code 3 (some .int)) rm_c_St_partAt E [.ref k, .int x, .int y] ([(k, .inr (1, [.ref kw, .ref kx, .int (nI cnt)])), (kw, .inl (E.2.1 2, 16, .inr (.inr (.inr (.inr (fun i => if i < 16 then some (ra i) else none)))))), (kx, .inl (E.2.1 0, 8, .inl fx))] ++ k_rows E ra M) (fun r => r = if m_in x cnt && m_in y 8 then M (cnt - 1 - x.toNatClampNeg) y.toNatClampNeg else nI 0) := by
  refine Kp.ofI (cc := prog_8_method_7_code) (maxL := 3) (by decide) (Nat.le_of_ble_eq_true rfl) ?_
  intro p e s m args below meth c A ls Q hx hb hts hown hml hK hG hA hP hD hS hl hret
  have hl : lv_has ls 3 [(0, .ref k), (1, .int x), (2, .int y)] := hl
  refine lv_aload_n hx hb d_St_partAt_0 rfl (lv_at hl 0 rfl) ?_
  refine lv_iload_n hx hb d_St_partAt_1 rfl (lv_at hl 1 rfl) ?_
  refine k_Vp (As := [.int x]) (rest := []) ⟨hx, hb, hml, hown, hts⟩ (c_St_isThere l E k kw kx cnt x (by omega)) (k_cwV 1 hts t_343 t_345 t_1 t_65 t_346 (by decide +kernel) ⟨Nat.le_of_ble_eq_true rfl, Nat.le_of_ble_eq_true rfl⟩) hK hG hA hP hD hS [0] rfl (by decide) 0 rfl rfl rfl hl.1 rfl (Nat.le_of_ble_eq_true rfl) d_St_partAt_2 ⟨Nat.zero_le _, Nat.zero_le _⟩ (fun r2 hu2 => ?_)
  subst hu2
  rcases Bool.eq_false_or_eq_true (m_in x cnt) with hin | hin
  · obtain ⟨i, hi, rfl⟩ := m_in_of (by omega) hin
    rw [hin]
    refine lv_if_eq (tgt := 36) hx hb d_St_partAt_5 (by decide) (fun h5 => ?_) (fun h5 => ?_)
    · exact absurd h5 (by decide)
    · refine lv_iload_n hx hb d_St_partAt_8 rfl (lv_at hl 2 rfl) ?_
      refine lv_if_lt (tgt := 36) hx hb d_St_partAt_9 (by decide) (fun h9 => ?_) (fun h9 => ?_)
      · refine lv_iconst (v := nI 0) hx hb d_St_partAt_36 (by decide) ?_
        first | exact hret _ ls _ d_St_partAt_37 (by rw [hin, mk_f1]; rfl) | exact hret _ ls _ d_St_partAt_37 (by rw [hin, hin2, nI_clamp (by omega), nI_clamp (by omega)]; rfl) | exact hret _ ls _ d_St_partAt_37 (by rw [m_in_f1 h9, Bool.and_false]; rfl) | exact hret _ ls _ d_St_partAt_37 (by rw [m_in_f2 h15, Bool.and_false]; rfl)
      · refine lv_iload_n hx hb d_St_partAt_12 rfl (lv_at hl 2 rfl) ?_
        refine lv_bipush (v := nI 8) hx hb d_St_partAt_13 (by decide) ?_
        refine lv_icmp_ge (tgt := 36) hx hb d_St_partAt_15 (by decide) (fun h15 => ?_) (fun h15 => ?_)
        · refine lv_iconst (v := nI 0) hx hb d_St_partAt_36 (by decide) ?_
          first | exact hret _ ls _ d_St_partAt_37 (by rw [hin, mk_f1]; rfl) | exact hret _ ls _ d_St_partAt_37 (by rw [hin, hin2, nI_clamp (by omega), nI_clamp (by omega)]; rfl) | exact hret _ ls _ d_St_partAt_37 (by rw [m_in_f1 h9, Bool.and_false]; rfl) | exact hret _ ls _ d_St_partAt_37 (by rw [m_in_f2 h15, Bool.and_false]; rfl)
        · have hin2 := m_in_t (n := 8) (by decide) h9 h15
          obtain ⟨j, hj, rfl⟩ := m_in_of (by decide) hin2
          refine lv_aload_n hx hb d_St_partAt_18 rfl (lv_at hl 0 rfl) ?_
          refine va_get (D := E.1) (ci := 1) (v := .ref kw) (C := "WideStack$Stack") (T := T_St) (N := 3) hx hb hts in_St hown hK hP 0 rfl rfl 0 (by decide) (hts _ t_125) (fun _ h9 => h9) rfl d_St_partAt_19 ?_
          refine lv_aload_n hx hb d_St_partAt_22 rfl (lv_at hl 0 rfl) ?_
          refine va_get (D := E.1) (ci := 1) (v := .int (nI cnt)) (C := "WideStack$Stack") (T := T_St) (N := 3) hx hb hts in_St hown hK hP 0 rfl rfl 2 (by decide) (hts _ t_127) (fun _ h9 => h9) rfl d_St_partAt_23 ?_
          refine lv_iconst (v := nI 1) hx hb d_St_partAt_26 (by decide) ?_
          refine lv_isub hx hb d_St_partAt_27 ?_
          refine k_top (pk_sub (by omega)) ?_
          refine lv_iload_n hx hb d_St_partAt_28 rfl (lv_at hl 1 rfl) ?_
          refine lv_isub hx hb d_St_partAt_29 ?_
          refine k_top (pk_sub (by omega)) ?_
          refine k_aald hx hb hK hP 1 (ra := ra) rfl (i := ((cnt - 1) - i)) (by omega) d_St_partAt_30 ?_
          refine lv_iload_n hx hb d_St_partAt_31 rfl (lv_at hl 2 rfl) ?_
          refine k_rald hx hb hK hP (k := cnt - 1 - i) (i := j) (by omega) hj d_St_partAt_32 ?_
          refine lv_goto (tgt := 37) hx hb d_St_partAt_33 (by decide) ?_
          first | exact hret _ ls _ d_St_partAt_37 (by rw [hin, mk_f1]; rfl) | exact hret _ ls _ d_St_partAt_37 (by rw [hin, hin2, nI_clamp (by omega), nI_clamp (by omega)]; rfl) | exact hret _ ls _ d_St_partAt_37 (by rw [m_in_f1 h9, Bool.and_false]; rfl) | exact hret _ ls _ d_St_partAt_37 (by rw [m_in_f2 h15, Bool.and_false]; rfl)
  · rw [hin]
    refine lv_if_eq (tgt := 36) hx hb d_St_partAt_5 (by decide) (fun h5 => ?_) (fun h5 => ?_)
    · refine lv_iconst (v := nI 0) hx hb d_St_partAt_36 (by decide) ?_
      first | exact hret _ ls _ d_St_partAt_37 (by rw [hin, mk_f1]; rfl) | exact hret _ ls _ d_St_partAt_37 (by rw [hin, hin2, nI_clamp (by omega), nI_clamp (by omega)]; rfl) | exact hret _ ls _ d_St_partAt_37 (by rw [m_in_f1 h9, Bool.and_false]; rfl) | exact hret _ ls _ d_St_partAt_37 (by rw [m_in_f2 h15, Bool.and_false]; rfl)
    · exact absurd rfl h5

