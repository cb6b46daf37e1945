/-! the class's Program, by the model. b: the bytes, 0 behind the code's end -/
def m_in (x : Int32) (n : Nat) : Bool := decide (0 ≤ x) && decide (x < nI n)
theorem m_in_t {x : Int32} {n : Nat} (hn : n < 2147483648) (h1 : ¬ x < 0) (h2 : ¬ nI n ≤ x) : m_in x n = true := by
  unfold m_in
  rw [decide_eq_true (Int32.not_lt.mp h1), decide_eq_true (Int32.not_le.mp h2)]
  rfl
theorem m_in_f1 {x : Int32} {n : Nat} (h1 : x < 0) : m_in x n = false := by
  unfold m_in
  rw [decide_eq_false (Int32.not_le.mpr h1)]
  rfl
theorem m_in_f2 {x : Int32} {n : Nat} (h1 : nI n ≤ x) : m_in x n = false := by
  unfold m_in
  rw [decide_eq_false (Int32.not_lt.mpr h1), Bool.and_false]
theorem m_in_nI {j n : Nat} (hj : j < 2147483648) (hn : n < 2147483648) : m_in (nI j) n = decide (j < n) := by
  unfold m_in
  rw [decide_eq_true (nI_pos' hj), Bool.true_and, decide_eq_decide]
  exact nI_ltI hj hn
theorem m_in_of {x : Int32} {n : Nat} (hn : n < 2147483648) (h : m_in x n = true) : ∃ j, j < n ∧ x = nI j := by
  rcases pk_ix x hn with q | q | q
  · rw [m_in_f1 q] at h; cases h
  · rw [m_in_f2 q] at h; cases h
  · exact q
def okP (len : Nat) (b : Nat → Nat) (fb fg ff : Nat → Int32) (lat nxt : Int32) : Prop := len ≤ 96 ∧ (∀ j, len ≤ j → b j = 0) ∧ (∀ j, b j < 256) ∧ (∀ j, j < len → fb j = nI (b j) ∧ fg j = kb (decide (m_nb b j = j)) ∧ ff j = m1 (m_lat b j)) ∧ lat = m1 (m_lat b len) ∧ nxt = nI (m_nb b len)
theorem m_nb_congr {b b' : Nat → Nat} : ∀ {j : Nat}, (∀ i, i < j → b i = b' i) → m_nb b j = m_nb b' j
  | 0, _ => rfl
  | j + 1, h => by
    show (if j = m_nb b j then j + 1 + m_numl (b j) else m_nb b j) = (if j = m_nb b' j then j + 1 + m_numl (b' j) else m_nb b' j)
    rw [m_nb_congr (fun i hi => h i (by omega)), h j (by omega)]
theorem m_lat_congr {b b' : Nat → Nat} : ∀ {j : Nat}, (∀ i, i < j → b i = b' i) → m_lat b j = m_lat b' j
  | 0, _ => rfl
  | j + 1, h => by
    show (if j = m_nb b j then j + 1 else m_lat b j) = (if j = m_nb b' j then j + 1 else m_lat b' j)
    rw [m_nb_congr (fun i hi => h i (by omega)), m_lat_congr (fun i hi => h i (by omega))]
theorem m_nb_le (b : Nat → Nat) : ∀ j, m_nb b j ≤ j + 33
  | 0 => by simp [m_nb]
  | j + 1 => by
    have h := m_nb_le b j
    have h2 := m_numl_le (b j)
    show (if j = m_nb b j then j + 1 + m_numl (b j) else m_nb b j) ≤ j + 1 + 33
    split <;> omega
theorem m_lat_le (b : Nat → Nat) : ∀ j, m_lat b j ≤ j
  | 0 => Nat.le_refl 0
  | j + 1 => by
    have h := m_lat_le b j
    show (if j = m_nb b j then j + 1 else m_lat b j) ≤ j + 1
    split <;> omega
/-- a byte more: an instruction begins here -/
theorem okP_beg {len : Nat} {b : Nat → Nat} {fb fg ff : Nat → Int32} {lat nxt : Int32} {k : Nat} (h : okP len b fb fg ff lat nxt) (hl : len < 96) (hk : k < 256) (hb : len = m_nb b len) : okP (len + 1) (va_up b len k) (upd fb len (nI k)) (upd fg len (nI 1)) (upd ff len lat) (nI len) (nI (len + 1 + m_numl k)) := by
  obtain ⟨h1, h2, h3, h4, h5, h6⟩ := h
  have hc : ∀ j, j ≤ len → ∀ i, i < j → va_up b len k i = b i := fun j hj i hi => va_up_ne b k (by omega)
  have hn : ∀ j, j ≤ len → m_nb (va_up b len k) j = m_nb b j := fun j hj => m_nb_congr (hc j hj)
  have ht : ∀ j, j ≤ len → m_lat (va_up b len k) j = m_lat b j := fun j hj => m_lat_congr (hc j hj)
  refine ⟨by omega, fun j hj => ?_, fun j => ?_, fun j hj => ?_, ?_, ?_⟩
  · rw [va_up_ne b k (by omega)]; exact h2 j (by omega)
  · by_cases e : j = len
    · subst e; rw [va_up_self]; exact hk
    · rw [va_up_ne b k e]; exact h3 j
  · by_cases e : j = len
    · subst e
      rw [pk_us, pk_us, pk_us, va_up_self, hn j (Nat.le_refl j), ht j (Nat.le_refl j), decide_eq_true hb.symm]
      exact ⟨rfl, rfl, h5⟩
    · rw [pk_un e, pk_un e, pk_un e, va_up_ne b k e, hn j (by omega), ht j (by omega)]
      exact h4 j (by omega)
  · show nI len = m1 (if len = m_nb (va_up b len k) len then len + 1 else _)
    rw [hn len (Nat.le_refl _), if_pos hb]
    rfl
  · show _ = nI (if len = m_nb (va_up b len k) len then len + 1 + m_numl (va_up b len k len) else _)
    rw [hn len (Nat.le_refl _), if_pos hb, va_up_self]
/-- .. or none -/
theorem okP_mid {len : Nat} {b : Nat → Nat} {fb fg ff : Nat → Int32} {lat nxt : Int32} {k : Nat} (h : okP len b fb fg ff lat nxt) (hl : len < 96) (hk : k < 256) (hb : len ≠ m_nb b len) : okP (len + 1) (va_up b len k) (upd fb len (nI k)) (upd fg len (nI 0)) (upd ff len lat) lat nxt := by
  obtain ⟨h1, h2, h3, h4, h5, h6⟩ := h
  have hc : ∀ j, j ≤ len → ∀ i, i < j → va_up b len k i = b i := fun j hj i hi => va_up_ne b k (by omega)
  have hn : ∀ j, j ≤ len → m_nb (va_up b len k) j = m_nb b j := fun j hj => m_nb_congr (hc j hj)
  have ht : ∀ j, j ≤ len → m_lat (va_up b len k) j = m_lat b j := fun j hj => m_lat_congr (hc j hj)
  refine ⟨by omega, fun j hj => ?_, fun j => ?_, fun j hj => ?_, ?_, ?_⟩
  · rw [va_up_ne b k (by omega)]; exact h2 j (by omega)
  · by_cases e : j = len
    · subst e; rw [va_up_self]; exact hk
    · rw [va_up_ne b k e]; exact h3 j
  · by_cases e : j = len
    · subst e
      rw [pk_us, pk_us, pk_us, va_up_self, hn j (Nat.le_refl j), ht j (Nat.le_refl j), decide_eq_false (fun q => hb q.symm)]
      exact ⟨rfl, rfl, h5⟩
    · rw [pk_un e, pk_un e, pk_un e, va_up_ne b k e, hn j (by omega), ht j (by omega)]
      exact h4 j (by omega)
  · show lat = m1 (if len = m_nb (va_up b len k) len then len + 1 else m_lat (va_up b len k) len)
    rw [hn len (Nat.le_refl _), if_neg hb, ht len (Nat.le_refl _)]
    exact h5
  · show nxt = nI (if len = m_nb (va_up b len k) len then len + 1 + m_numl (va_up b len k len) else m_nb (va_up b len k) len)
    rw [hn len (Nat.le_refl _), if_neg hb]
    exact h6
theorem okP_0 {fb fg ff : Nat → Int32} : okP 0 (fun _ => 0) fb fg ff (-1) (nI 0) := ⟨by decide, fun _ _ => rfl, fun _ => (by decide : (0 : Nat) < 256), fun j hj => absurd hj (Nat.not_lt_zero j), rfl, rfl⟩

abbrev y_Pr_empty : MethodName := ⟨"WideStack$Program", "empty", "()V"⟩
theorem d_Pr_empty_0 : decode prog_6_method_2_code 0 = .ok (.aload_n 0, 1) := by decide +kernel
theorem d_Pr_empty_1 : decode prog_6_method_2_code 1 = .ok (.iconst 0, 1) := by decide +kernel
theorem d_Pr_empty_2 : decode prog_6_method_2_code 2 = .ok (.putfield 20, 3) := by decide +kernel
theorem d_Pr_empty_5 : decode prog_6_method_2_code 5 = .ok (.aload_n 0, 1) := by decide +kernel
theorem d_Pr_empty_6 : decode prog_6_method_2_code 6 = .ok (.iconst (-1), 1) := by decide +kernel
theorem d_Pr_empty_7 : decode prog_6_method_2_code 7 = .ok (.putfield 24, 3) := by decide +kernel
theorem d_Pr_empty_10 : decode prog_6_method_2_code 10 = .ok (.aload_n 0, 1) := by decide +kernel
theorem d_Pr_empty_11 : decode prog_6_method_2_code 11 = .ok (.iconst 0, 1) := by decide +kernel
theorem d_Pr_empty_12 : decode prog_6_method_2_code 12 = .ok (.putfield 27, 3) := by decide +kernel
theorem d_Pr_empty_15 : decode prog_6_method_2_code 15 = .ok (.return_, 1) := by decide +kernel
def rm_c_P_empty : Room := { frames := 0, cells := 0, slots := 0, locals := 0 }
set_option maxHeartbeats 4000000 in
set_option maxRecDepth 100000 in
theorem c_P_empty (l : Launch) (E : kE) (q qb qg qf len : Nat) (lat nxt : Int32) (fb fg ff : Nat → Int32) : Kv l y_Pr_empty (kW y_Pr_empty prog_6_method_2_code 1 (none)) rm_c_P_empty E [.ref q] [(q, .inr (0, [.ref qb, .ref qg, .ref qf, .int (nI len), .int lat, .int nxt])), (qb, .inl (E.2.1 0, 96, .inl fb)), (qg, .inl (E.2.1 1, 96, .inl fg)), (qf, .inl (E.2.1 0, 96, .inl ff))] (S := Unit) (fun _ => True) (fun _ => [(q, .inr (0, [.ref qb, .ref qg, .ref qf, .int (nI 0), .int (-1), .int (nI 0)])), (qb, .inl (E.2.1 0, 96, .inl fb)), (qg, .inl (E.2.1 1, 96, .inl fg)), (qf, .inl (E.2.1 0, 96, .inl ff))]) := by
  refine Kv.ofW (cc := prog_6_method_2_code) (maxL := 1) (by decide) (Nat.le_of_ble_eq_true rfl) ?_
  intro p e s m args below meth c A ls Q hx hb hts hown hml hK hG hA hP hD hS hl hret
  have hl : lv_has ls 1 [(0, .ref q)] := hl
  refine lv_aload_n hx hb d_Pr_empty_0 rfl (lv_at hl 0 rfl) ?_
  refine lv_iconst (v := nI 0) hx hb d_Pr_empty_1 (by decide) ?_
  refine va_put (D := E.1) (ci := 0) (v := .int (nI 0)) (ty := .int) (C := "WideStack$Program") (T := T_Pr) (N := 6) hx hb hts in_Pr ty_Pr tyok_Pr nm_Pr hown hK hP hD hS 0 rfl rfl 3 (by decide) (hts _ t_93) (fun _ h9 => h9) rfl (by decide +kernel) rfl rfl (Nat.le_of_ble_eq_true rfl) d_Pr_empty_2 (fun H locs hP hD hS => ?_)
  have hP : va_P E.1 vwCl [(q, .inr (0, [.ref qb, .ref qg, .ref qf, .int (nI 0), .int lat, .int nxt])), (qb, .inl (E.2.1 0, 96, .inl fb)), (qg, .inl (E.2.1 1, 96, .inl fg)), (qf, .inl (E.2.1 0, 96, .inl ff))] H := hP
  have hD : va_D A [(q, .inr (0, [.ref qb, .ref qg, .ref qf, .int (nI 0), .int lat, .int nxt])), (qb, .inl (E.2.1 0, 96, .inl fb)), (qg, .inl (E.2.1 1, 96, .inl fg)), (qf, .inl (E.2.1 0, 96, .inl ff))] := hD
  refine lv_aload_n hx hb d_Pr_empty_5 rfl (lv_at hl 0 rfl) ?_
  refine lv_iconst (v := -1) hx hb d_Pr_empty_6 (by decide) ?_
  refine va_put (D := E.1) (ci := 0) (v := .int (-1)) (ty := .int) (C := "WideStack$Program") (T := T_Pr) (N := 6) hx hb hts in_Pr ty_Pr tyok_Pr nm_Pr hown hK hP hD hS 0 rfl rfl 4 (by decide) (hts _ t_94) (fun _ h9 => h9) rfl (by decide +kernel) rfl rfl (Nat.le_of_ble_eq_true rfl) d_Pr_empty_7 (fun H locs hP hD hS => ?_)
  have hP : va_P E.1 vwCl [(q, .inr (0, [.ref qb, .ref qg, .ref qf, .int (nI 0), .int (-1), .int nxt])), (qb, .inl (E.2.1 0, 96, .inl fb)), (qg, .inl (E.2.1 1, 96, .inl fg)), (qf, .inl (E.2.1 0, 96, .inl ff))] H := hP
  have hD : va_D A [(q, .inr (0, [.ref qb, .ref qg, .ref qf, .int (nI 0), .int (-1), .int nxt])), (qb, .inl (E.2.1 0, 96, .inl fb)), (qg, .inl (E.2.1 1, 96, .inl fg)), (qf, .inl (E.2.1 0, 96, .inl ff))] := hD
  refine lv_aload_n hx hb d_Pr_empty_10 rfl (lv_at hl 0 rfl) ?_
  refine lv_iconst (v := nI 0) hx hb d_Pr_empty_11 (by decide) ?_
  refine va_put (D := E.1) (ci := 0) (v := .int (nI 0)) (ty := .int) (C := "WideStack$Program") (T := T_Pr) (N := 6) hx hb hts in_Pr ty_Pr tyok_Pr nm_Pr hown hK hP hD hS 0 rfl rfl 5 (by decide) (hts _ t_95) (fun _ h9 => h9) rfl (by decide +kernel) rfl rfl (Nat.le_of_ble_eq_true rfl) d_Pr_empty_12 (fun H locs hP hD hS => ?_)
  have hP : va_P E.1 vwCl [(q, .inr (0, [.ref qb, .ref qg, .ref qf, .int (nI 0), .int (-1), .int (nI 0)])), (qb, .inl (E.2.1 0, 96, .inl fb)), (qg, .inl (E.2.1 1, 96, .inl fg)), (qf, .inl (E.2.1 0, 96, .inl ff))] H := hP
  have hD : va_D A [(q, .inr (0, [.ref qb, .ref qg, .ref qf, .int (nI 0), .int (-1), .int (nI 0)])), (qb, .inl (E.2.1 0, 96, .inl fb)), (qg, .inl (E.2.1 1, 96, .inl fg)), (qf, .inl (E.2.1 0, 96, .inl ff))] := hD
  exact hret _ ls _ _ () d_Pr_empty_15 trivial hP hS

abbrev y_Pr_isInside : MethodName := ⟨"WideStack$Program", "isInside", "(I)Z"⟩
theorem d_Pr_isInside_0 : decode prog_6_method_10_code 0 = .ok (.iload_n 1, 1) := by decide +kernel
theorem d_Pr_isInside_1 : decode prog_6_method_10_code 1 = .ok (.ifCond .lt 15, 3) := by decide +kernel
theorem d_Pr_isInside_4 : decode prog_6_method_10_code 4 = .ok (.iload_n 1, 1) := by decide +kernel
theorem d_Pr_isInside_5 : decode prog_6_method_10_code 5 = .ok (.aload_n 0, 1) := by decide +kernel
theorem d_Pr_isInside_6 : decode prog_6_method_10_code 6 = .ok (.getfield 20, 3) := by decide +kernel
theorem d_Pr_isInside_9 : decode prog_6_method_10_code 9 = .ok (.if_icmp .ge 7, 3) := by decide +kernel
theorem d_Pr_isInside_12 : decode prog_6_method_10_code 12 = .ok (.iconst 1, 1) := by decide +kernel
theorem d_Pr_isInside_13 : decode prog_6_method_10_code 13 = .ok (.goto 4, 3) := by decide +kernel
theorem d_Pr_isInside_16 : decode prog_6_method_10_code 16 = .ok (.iconst 0, 1) := by decide +kernel
theorem d_Pr_isInside_17 : decode prog_6_method_10_code 17 = .ok (.ireturn, 1) := by decide +kernel
def rm_c_P_isInside : Room := { frames := 0, cells := 0, slots := 0, locals := 0 }
set_option maxHeartbeats 4000000 in
set_option maxRecDepth 100000 in
theorem c_P_isInside (l : Launch) (E : kE) (q qb qg qf len : Nat) (x lat nxt : Int32) (fb fg ff : Nat → Int32) (hn : len < 2147483648) : Kp l y_Pr_isInside (kW y_Pr_isInside prog_6_method_10_code 2 (some .boolean)) rm_c_P_isInside E [.ref q, .int x] [(q, .inr (0, [.ref qb, .ref qg, .ref qf, .int (nI len), .int lat, .int nxt])), (qb, .inl (E.2.1 0, 96, .inl fb)), (qg, .inl (E.2.1 1, 96, .inl fg)), (qf, .inl (E.2.1 0, 96, .inl ff))] (fun r => r = kb (m_in x len)) := by
  refine Kp.ofZ (cc := prog_6_method_10_code) (maxL := 2) (by decide) (Nat.le_of_ble_eq_true rfl) ?_
  intro p e s m args below meth c A ls Q hx hb hts hown hml hK hG hA hP hD hS hl hret
  have hl : lv_has ls 2 [(0, .ref q), (1, .int x)] := hl
  refine lv_iload_n hx hb d_Pr_isInside_0 rfl (lv_at hl 1 rfl) ?_
  refine lv_if_lt (tgt := 16) hx hb d_Pr_isInside_1 (by decide) (fun h1 => ?_) (fun h1 => ?_)
  · refine lv_iconst (v := nI 0) hx hb d_Pr_isInside_16 (by decide) ?_
    first | exact hret _ ls _ d_Pr_isInside_17 (by decide) (by rw [m_in_t hn h1 h9]; rfl) | exact hret _ ls _ d_Pr_isInside_17 (by decide) (by rw [m_in_f1 h1]; rfl) | exact hret _ ls _ d_Pr_isInside_17 (by decide) (by rw [m_in_f2 h9]; rfl)
  · refine lv_iload_n hx hb d_Pr_isInside_4 rfl (lv_at hl 1 rfl) ?_
    refine lv_aload_n hx hb d_Pr_isInside_5 rfl (lv_at hl 0 rfl) ?_
    refine va_get (D := E.1) (ci := 0) (v := .int (nI len)) (C := "WideStack$Program") (T := T_Pr) (N := 6) hx hb hts in_Pr hown hK hP 0 rfl rfl 3 (by decide) (hts _ t_93) (fun _ h9 => h9) rfl d_Pr_isInside_6 ?_
    refine lv_icmp_ge (tgt := 16) hx hb d_Pr_isInside_9 (by decide) (fun h9 => ?_) (fun h9 => ?_)
    · refine lv_iconst (v := nI 0) hx hb d_Pr_isInside_16 (by decide) ?_
      first | exact hret _ ls _ d_Pr_isInside_17 (by decide) (by rw [m_in_t hn h1 h9]; rfl) | exact hret _ ls _ d_Pr_isInside_17 (by decide) (by rw [m_in_f1 h1]; rfl) | exact hret _ ls _ d_Pr_isInside_17 (by decide) (by rw [m_in_f2 h9]; rfl)
    · refine lv_iconst (v := nI 1) hx hb d_Pr_isInside_12 (by decide) ?_
      refine lv_goto (tgt := 17) hx hb d_Pr_isInside_13 (by decide) ?_
      first | exact hret _ ls _ d_Pr_isInside_17 (by decide) (by rw [m_in_t hn h1 h9]; rfl) | exact hret _ ls _ d_Pr_isInside_17 (by decide) (by rw [m_in_f1 h1]; rfl) | exact hret _ ls _ d_Pr_isInside_17 (by decide) (by rw [m_in_f2 h9]; rfl)

abbrev y_Pr_byteAt : MethodName := ⟨"WideStack$Program", "byteAt", "(I)I"⟩
theorem d_Pr_byteAt_0 : decode prog_6_method_4_code 0 = .ok (.aload_n 0, 1) := by decide +kernel
theorem d_Pr_byteAt_1 : decode prog_6_method_4_code 1 = .ok (.iload_n 1, 1) := by decide +kernel
theorem d_Pr_byteAt_2 : decode prog_6_method_4_code 2 = .ok (.invokevirtual 36, 3) := by decide +kernel
theorem d_Pr_byteAt_5 : decode prog_6_method_4_code 5 = .ok (.ifCond .eq 12, 3) := by decide +kernel
theorem d_Pr_byteAt_8 : decode prog_6_method_4_code 8 = .ok (.aload_n 0, 1) := by decide +kernel
theorem d_Pr_byteAt_9 : decode prog_6_method_4_code 9 = .ok (.getfield 9, 3) := by decide +kernel
theorem d_Pr_byteAt_12 : decode prog_6_method_4_code 12 = .ok (.iload_n 1, 1) := by decide +kernel
theorem d_Pr_byteAt_13 : decode prog_6_method_4_code 13 = .ok (.iaload, 1) := by decide +kernel
theorem d_Pr_byteAt_14 : decode prog_6_method_4_code 14 = .ok (.goto 4, 3) := by decide +kernel
theorem d_Pr_byteAt_17 : decode prog_6_method_4_code 17 = .ok (.iconst 0, 1) := by decide +kernel
theorem d_Pr_byteAt_18 : decode prog_6_method_4_code 18 = .ok (.ireturn, 1) := by decide +kernel
def rm_c_P_byteAt : Room := { frames := 1, cells := 0, slots := 0, locals := 21 }
set_option maxHeartbeats 4000000 in
set_option maxRecDepth 100000 in
theorem c_P_byteAt (l : Launch) (E : kE) (q qb qg qf len : Nat) (lat nxt : Int32) (fb fg ff : Nat → Int32) (b : Nat → Nat) (ok : okP len b fb fg ff lat nxt) (j : Nat) (hj : j < 1000000) : Kp l y_Pr_byteAt (kW y_Pr_byteAt prog_6_method_4_code 2 (some .int)) rm_c_P_byteAt E [.ref q, .int (nI j)] [(q, .inr (0, [.ref qb, .ref qg, .ref qf, .int (nI len), .int lat, .int nxt])), (qb, .inl (E.2.1 0, 96, .inl fb)), (qg, .inl (E.2.1 1, 96, .inl fg)), (qf, .inl (E.2.1 0, 96, .inl ff))] (fun r => r = nI (b j)) := by
  refine Kp.ofI (cc := prog_6_method_4_code) (maxL := 2) (by decide) (Nat.le_of_ble_eq_true rfl) ?_
  intro p e s m args below meth c A ls Q hx hb hts hown hml hK hG hA hP hD hS hl hret
  have hl : lv_has ls 2 [(0, .ref q), (1, .int (nI j))] := hl
  have hlen := ok.1
  have hin := m_in_nI (j := j) (n := len) (by omega) (by omega)
  refine lv_aload_n hx hb d_Pr_byteAt_0 rfl (lv_at hl 0 rfl) ?_
  refine lv_iload_n hx hb d_Pr_byteAt_1 rfl (lv_at hl 1 rfl) ?_
  refine k_Vp (As := [.int (nI j)]) (rest := []) ⟨hx, hb, hml, hown, hts⟩ (c_P_isInside l E q qb qg qf len (nI j) lat nxt fb fg ff (by have := ok.1; omega)) (k_cwV 1 hts t_335 t_337 t_0 t_63 t_338 (by decide +kernel) ⟨Nat.le_of_ble_eq_true rfl, Nat.le_of_ble_eq_true rfl⟩) hK hG hA hP hD hS [0, 1, 2, 3] rfl (by decide) 0 rfl rfl rfl hl.1 rfl (Nat.le_of_ble_eq_true rfl) d_Pr_byteAt_2 ⟨Nat.zero_le _, Nat.zero_le _⟩ (fun r2 hu2 => ?_)
  subst hu2
  refine lv_if_eq (tgt := 17) hx hb d_Pr_byteAt_5 (by decide) (fun h5 => ?_) (fun h5 => ?_)
  · rw [hin] at h5
    refine lv_iconst (v := nI 0) hx hb d_Pr_byteAt_17 (by decide) ?_
    first | exact hret _ ls _ d_Pr_byteAt_18 (ok.2.2.2.1 j (of_decide_eq_true (kb_n0 h5))).1 | exact hret _ ls _ d_Pr_byteAt_18 (by rw [ok.2.1 j (Nat.le_of_not_lt (of_decide_eq_false (kb_0.mp h5)))])
  · rw [hin] at h5
    refine lv_aload_n hx hb d_Pr_byteAt_8 rfl (lv_at hl 0 rfl) ?_
    refine va_get (D := E.1) (ci := 0) (v := .ref qb) (C := "WideStack$Program") (T := T_Pr) (N := 6) hx hb hts in_Pr hown hK hP 0 rfl rfl 0 (by decide) (hts _ t_90) (fun _ h9 => h9) rfl d_Pr_byteAt_9 ?_
    refine lv_iload_n hx hb d_Pr_byteAt_12 rfl (lv_at hl 1 rfl) ?_
    refine k_iald hx hb hK hP 1 rfl (i := j) (by have := of_decide_eq_true (kb_n0 h5); omega) (by omega) d_Pr_byteAt_13 ?_
    refine lv_goto (tgt := 18) hx hb d_Pr_byteAt_14 (by decide) ?_
    first | exact hret _ ls _ d_Pr_byteAt_18 (ok.2.2.2.1 j (of_decide_eq_true (kb_n0 h5))).1 | exact hret _ ls _ d_Pr_byteAt_18 (by rw [ok.2.1 j (Nat.le_of_not_lt (of_decide_eq_false (kb_0.mp h5)))])

abbrev y_Pr_placeBefore : MethodName := ⟨"WideStack$Program", "placeBefore", "(I)I"⟩
theorem d_Pr_placeBefore_0 : decode prog_6_method_6_code 0 = .ok (.aload_n 0, 1) := by decide +kernel
theorem d_Pr_placeBefore_1 : decode prog_6_method_6_code 1 = .ok (.iload_n 1, 1) := by decide +kernel
theorem d_Pr_placeBefore_2 : decode prog_6_method_6_code 2 = .ok (.invokevirtual 36, 3) := by decide +kernel
theorem d_Pr_placeBefore_5 : decode prog_6_method_6_code 5 = .ok (.ifCond .eq 12, 3) := by decide +kernel
theorem d_Pr_placeBefore_8 : decode prog_6_method_6_code 8 = .ok (.aload_n 0, 1) := by decide +kernel
theorem d_Pr_placeBefore_9 : decode prog_6_method_6_code 9 = .ok (.getfield 17, 3) := by decide +kernel
theorem d_Pr_placeBefore_12 : decode prog_6_method_6_code 12 = .ok (.iload_n 1, 1) := by decide +kernel
theorem d_Pr_placeBefore_13 : decode prog_6_method_6_code 13 = .ok (.iaload, 1) := by decide +kernel
theorem d_Pr_placeBefore_14 : decode prog_6_method_6_code 14 = .ok (.goto 4, 3) := by decide +kernel
theorem d_Pr_placeBefore_17 : decode prog_6_method_6_code 17 = .ok (.iconst (-1), 1) := by decide +kernel
theorem d_Pr_placeBefore_18 : decode prog_6_method_6_code 18 = .ok (.ireturn, 1) := by decide +kernel
def rm_c_P_placeBefore : Room := { frames := 1, cells := 0, slots := 0, locals := 21 }
set_option maxHeartbeats 4000000 in
set_option maxRecDepth 100000 in
theorem c_P_placeBefore (l : Launch) (E : kE) (q qb qg qf len : Nat) (lat nxt : Int32) (fb fg ff : Nat → Int32) (b : Nat → Nat) (ok : okP len b fb fg ff lat nxt) (j : Nat) (hj : j < len) : Kp l y_Pr_placeBefore (kW y_Pr_placeBefore prog_6_method_6_code 2 (some .int)) rm_c_P_placeBefore E [.ref q, .int (nI j)] [(q, .inr (0, [.ref qb, .ref qg, .ref qf, .int (nI len), .int lat, .int nxt])), (qb, .inl (E.2.1 0, 96, .inl fb)), (qg, .inl (E.2.1 1, 96, .inl fg)), (qf, .inl (E.2.1 0, 96, .inl ff))] (fun r => r = m1 (m_lat b j)) := by
  refine Kp.ofI (cc := prog_6_method_6_code) (maxL := 2) (by decide) (Nat.le_of_ble_eq_true rfl) ?_
  intro p e s m args below meth c A ls Q hx hb hts hown hml hK hG hA hP hD hS hl hret
  have hl : lv_has ls 2 [(0, .ref q), (1, .int (nI j))] := hl
  have hlen := ok.1
  have hin := m_in_nI (j := j) (n := len) (by omega) (by omega)
  rw [decide_eq_true hj] at hin
  refine lv_aload_n hx hb d_Pr_placeBefore_0 rfl (lv_at hl 0 rfl) ?_
  refine lv_iload_n hx hb d_Pr_placeBefore_1 rfl (lv_at hl 1 rfl) ?_
  refine k_Vp (As := [.int (nI j)]) (rest := []) ⟨hx, hb, hml, hown, hts⟩ (c_P_isInside l E q qb qg qf len (nI j) lat nxt fb fg ff (by have := ok.1; omega)) (k_cwV 1 hts t_335 t_337 t_0 t_63 t_338 (by decide +kernel) ⟨Nat.le_of_ble_eq_true rfl, Nat.le_of_ble_eq_true rfl⟩) hK hG hA hP hD hS [0, 1, 2, 3] rfl (by decide) 0 rfl rfl rfl hl.1 rfl (Nat.le_of_ble_eq_true rfl) d_Pr_placeBefore_2 ⟨Nat.zero_le _, Nat.zero_le _⟩ (fun r2 hu2 => ?_)
  subst hu2
  refine lv_if_eq (tgt := 17) hx hb d_Pr_placeBefore_5 (by decide) (fun h5 => ?_) (fun h5 => ?_)
  · rw [hin] at h5
    exact absurd h5 (by decide)
  · refine lv_aload_n hx hb d_Pr_placeBefore_8 rfl (lv_at hl 0 rfl) ?_
    refine va_get (D := E.1) (ci := 0) (v := .ref qf) (C := "WideStack$Program") (T := T_Pr) (N := 6) hx hb hts in_Pr hown hK hP 0 rfl rfl 2 (by decide) (hts _ t_92) (fun _ h9 => h9) rfl d_Pr_placeBefore_9 ?_
    refine lv_iload_n hx hb d_Pr_placeBefore_12 rfl (lv_at hl 1 rfl) ?_
    refine k_iald hx hb hK hP 3 rfl (i := j) (by omega) (by omega) d_Pr_placeBefore_13 ?_
    refine lv_goto (tgt := 18) hx hb d_Pr_placeBefore_14 (by decide) ?_
    exact hret _ ls _ d_Pr_placeBefore_18 (ok.2.2.2.1 j hj).2.2

abbrev y_Pr_placeBehind : MethodName := ⟨"WideStack$Program", "placeBehind", "(I)I"⟩
theorem d_Pr_placeBehind_0 : decode prog_6_method_7_code 0 = .ok (.iload_n 1, 1) := by decide +kernel
theorem d_Pr_placeBehind_1 : decode prog_6_method_7_code 1 = .ok (.iconst 1, 1) := by decide +kernel
theorem d_Pr_placeBehind_2 : decode prog_6_method_7_code 2 = .ok (.iadd, 1) := by decide +kernel
theorem d_Pr_placeBehind_3 : decode prog_6_method_7_code 3 = .ok (.aload_n 0, 1) := by decide +kernel
theorem d_Pr_placeBehind_4 : decode prog_6_method_7_code 4 = .ok (.iload_n 1, 1) := by decide +kernel
theorem d_Pr_placeBehind_5 : decode prog_6_method_7_code 5 = .ok (.invokevirtual 40, 3) := by decide +kernel
theorem d_Pr_placeBehind_8 : decode prog_6_method_7_code 8 = .ok (.invokestatic 30, 3) := by decide +kernel
theorem d_Pr_placeBehind_11 : decode prog_6_method_7_code 11 = .ok (.iadd, 1) := by decide +kernel
theorem d_Pr_placeBehind_12 : decode prog_6_method_7_code 12 = .ok (.ireturn, 1) := by decide +kernel
def rm_c_P_placeBehind : Room := { frames := 2, cells := 0, slots := 0, locals := 42 }
set_option maxHeartbeats 4000000 in
set_option maxRecDepth 100000 in
theorem c_P_placeBehind (l : Launch) (E : kE) (q qb qg qf len : Nat) (lat nxt : Int32) (fb fg ff : Nat → Int32) (b : Nat → Nat) (ok : okP len b fb fg ff lat nxt) (j : Nat) (hj : j < 1000000) : Kp l y_Pr_placeBehind (kW y_Pr_placeBehind prog_6_method_7_code 2 (some .int)) rm_c_P_placeBehind E [.ref q, .int (nI j)] [(q, .inr (0, [.ref qb, .ref qg, .ref qf, .int (nI len), .int lat, .int nxt])), (qb, .inl (E.2.1 0, 96, .inl fb)), (qg, .inl (E.2.1 1, 96, .inl fg)), (qf, .inl (E.2.1 0, 96, .inl ff))] (fun r => r = nI (j + 1 + m_numl (b j))) := by
  refine Kp.ofI (cc := prog_6_method_7_code) (maxL := 2) (by decide) (Nat.le_of_ble_eq_true rfl) ?_
  intro p e s m args below meth c A ls Q hx hb hts hown hml hK hG hA hP hD hS hl hret
  have hl : lv_has ls 2 [(0, .ref q), (1, .int (nI j))] := hl
  refine lv_iload_n hx hb d_Pr_placeBehind_0 rfl (lv_at hl 1 rfl) ?_
  refine lv_iconst (v := nI 1) hx hb d_Pr_placeBehind_1 (by decide) ?_
  refine lv_iadd hx hb d_Pr_placeBehind_2 ?_
  refine k_top (nI_add _ _) ?_
  refine lv_aload_n hx hb d_Pr_placeBehind_3 rfl (lv_at hl 0 rfl) ?_
  refine lv_iload_n hx hb d_Pr_placeBehind_4 rfl (lv_at hl 1 rfl) ?_
  refine k_Vp (As := [.int (nI j)]) (rest := [.int (nI (j + 1))]) ⟨hx, hb, hml, hown, hts⟩ (c_P_byteAt l E q qb qg qf len lat nxt fb fg ff b ok j hj) (k_cwV 1 hts t_445 t_332 t_333 t_63 t_334 (by decide +kernel) ⟨Nat.le_of_ble_eq_true rfl, Nat.le_of_ble_eq_true rfl⟩) hK hG hA hP hD hS [0, 1, 2, 3] rfl (by decide) 0 rfl rfl rfl hl.1 rfl (Nat.le_of_ble_eq_true rfl) d_Pr_placeBehind_5 ⟨Nat.zero_le _, Nat.zero_le _⟩ (fun r5 hu5 => ?_)
  subst hu5
  refine k_Sp (As := [.int (nI (b j))]) (rest := [.int (nI (j + 1))]) ⟨hx, hb, hml, hown, hts⟩ (c_I_numberLength l E (b j) (ok.2.2.1 j)) (k_cwS 1 hts t_263 t_264 t_72 t_265 (by decide +kernel) ⟨Nat.le_of_ble_eq_true rfl, Nat.le_of_ble_eq_true rfl⟩) hK hG hA hP hD hS [] rfl (by decide) rfl hl.1 rfl (Nat.le_of_ble_eq_true rfl) d_Pr_placeBehind_8 ⟨Nat.zero_le _, Nat.zero_le _⟩ (fun r8 hu8 => ?_)
  subst hu8
  refine lv_iadd hx hb d_Pr_placeBehind_11 ?_
  refine k_top (nI_add _ _) ?_
  exact hret _ ls _ d_Pr_placeBehind_12 rfl

abbrev y_Pr_asPlace : MethodName := ⟨"WideStack$Program", "asPlace", "([I)I"⟩
theorem d_Pr_asPlace_0 : decode prog_6_method_9_code 0 = .ok (.aload_n 0, 1) := by decide +kernel
theorem d_Pr_asPlace_1 : decode prog_6_method_9_code 1 = .ok (.bipush 96, 2) := by decide +kernel
theorem d_Pr_asPlace_3 : decode prog_6_method_9_code 3 = .ok (.invokestatic 53, 3) := by decide +kernel
theorem d_Pr_asPlace_6 : decode prog_6_method_9_code 6 = .ok (.ireturn, 1) := by decide +kernel
def rm_c_P_asPlace : Room := { frames := 1, cells := 0, slots := 0, locals := 22 }
set_option maxHeartbeats 4000000 in
set_option maxRecDepth 100000 in
theorem c_P_asPlace (l : Launch) (E : kE) (a : Nat) (f : Nat → Int32) : Kp l y_Pr_asPlace (kW y_Pr_asPlace prog_6_method_9_code 1 (some .int)) rm_c_P_asPlace E [.ref a] [(a, .inl (E.2.1 0, 8, .inl f))] (fun r => r = nI (min (wv f 8) 96)) := by
  refine Kp.ofI (cc := prog_6_method_9_code) (maxL := 1) (by decide) (Nat.le_of_ble_eq_true rfl) ?_
  intro p e s m args below meth c A ls Q hx hb hts hown hml hK hG hA hP hD hS hl hret
  have hl : lv_has ls 1 [(0, .ref a)] := hl
  refine lv_aload_n hx hb d_Pr_asPlace_0 rfl (lv_at hl 0 rfl) ?_
  refine lv_bipush (v := nI 96) hx hb d_Pr_asPlace_1 (by decide) ?_
  refine k_Sp (As := [.ref a, .int (nI 96)]) (rest := []) ⟨hx, hb, hml, hown, hts⟩ (c_W_atMost l E a 96 f (by decide)) (k_cwS 2 hts t_407 t_381 t_73 t_382 (by decide +kernel) ⟨Nat.le_of_ble_eq_true rfl, Nat.le_of_ble_eq_true rfl⟩) hK hG hA hP hD hS [0] rfl (by decide) rfl hl.1 rfl (Nat.le_of_ble_eq_true rfl) d_Pr_asPlace_3 ⟨Nat.zero_le _, Nat.zero_le _⟩ (fun r3 hu3 => ?_)
  subst hu3
  exact hret _ ls _ d_Pr_asPlace_6 rfl

theorem mk_f1 {y : Bool} : (false && y) = false := rfl
theorem mk_t {len : Nat} {b : Nat → Nat} {fb fg ff : Nat → Int32} {lat nxt : Int32} {j : Nat} (ok : okP len b fb fg ff lat nxt) (hj : j < len) (h : ¬ fg j = 0) (h2 : fb j = nI 91) : nI 1 = kb (true && m_marked len b (nI j).toNatClampNeg) := by
  have hl := ok.1
  obtain ⟨e1, e2, e3⟩ := ok.2.2.2.1 j hj
  rw [nI_clamp (by omega), Bool.true_and]
  unfold m_marked
  rw [e2] at h
  rw [e1] at h2
  have b1 := ok.2.2.1 j
  rw [kb_n0 h, decide_eq_true hj, decide_eq_true ((nI_eq (by omega) (by decide)).mp h2)]
  rfl
theorem mk_f2 {len : Nat} {b : Nat → Nat} {fb fg ff : Nat → Int32} {lat nxt : Int32} {j : Nat} (ok : okP len b fb fg ff lat nxt) (hj : j < len) (h : fg j = 0) : nI 0 = kb (true && m_marked len b (nI j).toNatClampNeg) := by
  have hl := ok.1
  obtain ⟨e1, e2, e3⟩ := ok.2.2.2.1 j hj
  rw [nI_clamp (by omega), Bool.true_and]
  unfold m_marked
  rw [e2] at h
  rw [kb_0.mp h, Bool.and_false, Bool.false_and]
  rfl
theorem mk_f3 {len : Nat} {b : Nat → Nat} {fb fg ff : Nat → Int32} {lat nxt : Int32} {j : Nat} (ok : okP len b fb fg ff lat nxt) (hj : j < len) (h : ¬ fb j = nI 91) : nI 0 = kb (true && m_marked len b (nI j).toNatClampNeg) := by
  have hl := ok.1
  obtain ⟨e1, e2, e3⟩ := ok.2.2.2.1 j hj
  rw [nI_clamp (by omega), Bool.true_and]
  unfold m_marked
  rw [e1] at h
  rw [decide_eq_false (p := b j = 91) (fun q => h (by rw [q])), Bool.and_false]
  rfl

abbrev y_Pr_mayJumpTo : MethodName := ⟨"WideStack$Program", "mayJumpTo", "(I)Z"⟩
theorem d_Pr_mayJumpTo_0 : decode prog_6_method_5_code 0 = .ok (.aload_n 0, 1) := by decide +kernel
theorem d_Pr_mayJumpTo_1 : decode prog_6_method_5_code 1 = .ok (.iload_n 1, 1) := by decide +kernel
theorem d_Pr_mayJumpTo_2 : decode prog_6_method_5_code 2 = .ok (.invokevirtual 36, 3) := by decide +kernel
theorem d_Pr_mayJumpTo_5 : decode prog_6_method_5_code 5 = .ok (.ifCond .eq 27, 3) := by decide +kernel
theorem d_Pr_mayJumpTo_8 : decode prog_6_method_5_code 8 = .ok (.aload_n 0, 1) := by decide +kernel
theorem d_Pr_mayJumpTo_9 : decode prog_6_method_5_code 9 = .ok (.getfield 13, 3) := by decide +kernel
theorem d_Pr_mayJumpTo_12 : decode prog_6_method_5_code 12 = .ok (.iload_n 1, 1) := by decide +kernel
theorem d_Pr_mayJumpTo_13 : decode prog_6_method_5_code 13 = .ok (.baload, 1) := by decide +kernel
theorem d_Pr_mayJumpTo_14 : decode prog_6_method_5_code 14 = .ok (.ifCond .eq 18, 3) := by decide +kernel
theorem d_Pr_mayJumpTo_17 : decode prog_6_method_5_code 17 = .ok (.aload_n 0, 1) := by decide +kernel
theorem d_Pr_mayJumpTo_18 : decode prog_6_method_5_code 18 = .ok (.getfield 9, 3) := by decide +kernel
theorem d_Pr_mayJumpTo_21 : decode prog_6_method_5_code 21 = .ok (.iload_n 1, 1) := by decide +kernel
theorem d_Pr_mayJumpTo_22 : decode prog_6_method_5_code 22 = .ok (.iaload, 1) := by decide +kernel
theorem d_Pr_mayJumpTo_23 : decode prog_6_method_5_code 23 = .ok (.bipush 91, 2) := by decide +kernel
theorem d_Pr_mayJumpTo_25 : decode prog_6_method_5_code 25 = .ok (.if_icmp .ne 7, 3) := by decide +kernel
theorem d_Pr_mayJumpTo_28 : decode prog_6_method_5_code 28 = .ok (.iconst 1, 1) := by decide +kernel
theorem d_Pr_mayJumpTo_29 : decode prog_6_method_5_code 29 = .ok (.goto 4, 3) := by decide +kernel
theorem d_Pr_mayJumpTo_32 : decode prog_6_method_5_code 32 = .ok (.iconst 0, 1) := by decide +kernel
theorem d_Pr_mayJumpTo_33 : decode prog_6_method_5_code 33 = .ok (.ireturn, 1) := by decide +kernel
def rm_c_P_mayJumpTo : Room := { frames := 1, cells := 0, slots := 0, locals := 21 }
set_option maxHeartbeats 4000000 in
set_option maxRecDepth 100000 in
theorem c_P_mayJumpTo (l : Launch) (E : kE) (q qb qg qf len : Nat) (lat nxt : Int32) (fb fg ff : Nat → Int32) (b : Nat → Nat) (ok : okP len b fb fg ff lat nxt) (x : Int32) : Kp l y_Pr_mayJumpTo (kW y_Pr_mayJumpTo prog_6_method_5_code 2 (some .boolean)) rm_c_P_mayJumpTo E [.ref q, .int x] [(q, .inr (0, [.ref qb, .ref qg, .ref qf, .int (nI len), .int lat, .int nxt])), (qb, .inl (E.2.1 0, 96, .inl fb)), (qg, .inl (E.2.1 1, 96, .inl fg)), (qf, .inl (E.2.1 0, 96, .inl ff))] (fun r => r = kb (m_in x len && m_marked len b x.toNatClampNeg)) := by
  refine Kp.ofZ (cc := prog_6_method_5_code) (maxL := 2) (by decide) (Nat.le_of_ble_eq_true rfl) ?_
  intro p e s m args below meth c A ls Q hx hb hts hown hml hK hG hA hP hD hS hl hret
  have hl : lv_has ls 2 [(0, .ref q), (1, .int x)] := hl
  have hlen := ok.1
  refine lv_aload_n hx hb d_Pr_mayJumpTo_0 rfl (lv_at hl 0 rfl) ?_
  refine lv_iload_n hx hb d_Pr_mayJumpTo_1 rfl (lv_at hl 1 rfl) ?_
  refine k_Vp (As := [.int x]) (rest := []) ⟨hx, hb, hml, hown, hts⟩ (c_P_isInside l E q qb qg qf len x lat nxt fb fg ff (by have := ok.1; omega)) (k_cwV 1 hts t_335 t_337 t_0 t_63 t_338 (by decide +kernel) ⟨Nat.le_of_ble_eq_true rfl, Nat.le_of_ble_eq_true rfl⟩) hK hG hA hP hD hS [0, 1, 2, 3] rfl (by decide) 0 rfl rfl rfl hl.1 rfl (Nat.le_of_ble_eq_true rfl) d_Pr_mayJumpTo_2 ⟨Nat.zero_le _, Nat.zero_le _⟩ (fun r2 hu2 => ?_)
  subst hu2
  rcases Bool.eq_false_or_eq_true (m_in x len) with hin | hin
  · obtain ⟨j, hj, rfl⟩ := m_in_of (by omega) hin
    rw [hin]
    refine lv_if_eq (tgt := 32) hx hb d_Pr_mayJumpTo_5 (by decide) (fun h5 => ?_) (fun h5 => ?_)
    · exact absurd h5 (by decide)
    · refine lv_aload_n hx hb d_Pr_mayJumpTo_8 rfl (lv_at hl 0 rfl) ?_
      refine va_get (D := E.1) (ci := 0) (v := .ref qg) (C := "WideStack$Program") (T := T_Pr) (N := 6) hx hb hts in_Pr hown hK hP 0 rfl rfl 1 (by decide) (hts _ t_91) (fun _ h9 => h9) rfl d_Pr_mayJumpTo_9 ?_
      refine lv_iload_n hx hb d_Pr_mayJumpTo_12 rfl (lv_at hl 1 rfl) ?_
      refine k_zald hx hb hK hP 2 rfl (i := j) (by omega) (by omega) d_Pr_mayJumpTo_13 ?_
      refine lv_if_eq (tgt := 32) hx hb d_Pr_mayJumpTo_14 (by decide) (fun h14 => ?_) (fun h14 => ?_)
      · refine lv_iconst (v := nI 0) hx hb d_Pr_mayJumpTo_32 (by decide) ?_
        first | exact hret _ ls _ d_Pr_mayJumpTo_33 (by decide) (by rw [hin, mk_f1]; rfl) | exact hret _ ls _ d_Pr_mayJumpTo_33 (by decide) (by rw [hin]; exact mk_t ok hj h14 h25) | exact hret _ ls _ d_Pr_mayJumpTo_33 (by decide) (by rw [hin]; exact mk_f2 ok hj h14) | exact hret _ ls _ d_Pr_mayJumpTo_33 (by decide) (by rw [hin]; exact mk_f3 ok hj h25)
      · refine lv_aload_n hx hb d_Pr_mayJumpTo_17 rfl (lv_at hl 0 rfl) ?_
        refine va_get (D := E.1) (ci := 0) (v := .ref qb) (C := "WideStack$Program") (T := T_Pr) (N := 6) hx hb hts in_Pr hown hK hP 0 rfl rfl 0 (by decide) (hts _ t_90) (fun _ h9 => h9) rfl d_Pr_mayJumpTo_18 ?_
        refine lv_iload_n hx hb d_Pr_mayJumpTo_21 rfl (lv_at hl 1 rfl) ?_
        refine k_iald hx hb hK hP 1 rfl (i := j) (by omega) (by omega) d_Pr_mayJumpTo_22 ?_
        refine lv_bipush (v := nI 91) hx hb d_Pr_mayJumpTo_23 (by decide) ?_
        refine lv_icmp_ne (tgt := 32) hx hb d_Pr_mayJumpTo_25 (by decide) (fun h25 => ?_) (fun h25 => ?_)
        · refine lv_iconst (v := nI 0) hx hb d_Pr_mayJumpTo_32 (by decide) ?_
          first | exact hret _ ls _ d_Pr_mayJumpTo_33 (by decide) (by rw [hin, mk_f1]; rfl) | exact hret _ ls _ d_Pr_mayJumpTo_33 (by decide) (by rw [hin]; exact mk_t ok hj h14 h25) | exact hret _ ls _ d_Pr_mayJumpTo_33 (by decide) (by rw [hin]; exact mk_f2 ok hj h14) | exact hret _ ls _ d_Pr_mayJumpTo_33 (by decide) (by rw [hin]; exact mk_f3 ok hj h25)
        · refine lv_iconst (v := nI 1) hx hb d_Pr_mayJumpTo_28 (by decide) ?_
          refine lv_goto (tgt := 33) hx hb d_Pr_mayJumpTo_29 (by decide) ?_
          first | exact hret _ ls _ d_Pr_mayJumpTo_33 (by decide) (by rw [hin, mk_f1]; rfl) | exact hret _ ls _ d_Pr_mayJumpTo_33 (by decide) (by rw [hin]; exact mk_t ok hj h14 h25) | exact hret _ ls _ d_Pr_mayJumpTo_33 (by decide) (by rw [hin]; exact mk_f2 ok hj h14) | exact hret _ ls _ d_Pr_mayJumpTo_33 (by decide) (by rw [hin]; exact mk_f3 ok hj h25)
  · rw [hin]
    refine lv_if_eq (tgt := 32) hx hb d_Pr_mayJumpTo_5 (by decide) (fun h5 => ?_) (fun h5 => ?_)
    · refine lv_iconst (v := nI 0) hx hb d_Pr_mayJumpTo_32 (by decide) ?_
      first | exact hret _ ls _ d_Pr_mayJumpTo_33 (by decide) (by rw [hin, mk_f1]; rfl) | exact hret _ ls _ d_Pr_mayJumpTo_33 (by decide) (by rw [hin]; exact mk_t ok hj h14 h25) | exact hret _ ls _ d_Pr_mayJumpTo_33 (by decide) (by rw [hin]; exact mk_f2 ok hj h14) | exact hret _ ls _ d_Pr_mayJumpTo_33 (by decide) (by rw [hin]; exact mk_f3 ok hj h25)
    · exact absurd rfl h5

