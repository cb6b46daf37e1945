/-! the calculator's results -/
def t7 (a0 a1 a2 a3 a4 a5 a6 : Nat → Int32) : Nat → Nat → Int32 := fun k => match k with
  | 0 => a0
  | 1 => a1
  | 2 => a2
  | 3 => a3
  | 4 => a4
  | 5 => a5
  | _ => a6
theorem wv_mod8 (f : Nat → Int32) : wv f 8 = wv f 16 % mM := by
  have h3 : wv f 16 = wv f 8 + wv (fun j => f (8 + j)) 8 * kK ^ 8 := bv_add (B := kK) (n := 8) (k := 8) (f := fun j => uw (f j))
  rw [h3, kK8, Nat.add_mul_mod_self_right, Nat.mod_eq_of_lt (wv_lt8 f)]
theorem cp8 {f x u : Nat → Int32} (hu : ∀ j, u j = if j < 8 then f j else x j) : wv u 8 = wv f 8 := wv_congr (fun j hj => (hu j).trans (if_pos hj))
theorem q_lt {A B : Nat} (hA : A < mM) : A / B % mM = A / B := Nat.mod_eq_of_lt (Nat.lt_of_le_of_lt (Nat.div_le_self _ _) hA)
theorem m_abs_lt (x : Nat) (h : x < mM) : m_abs x < mM := by
  unfold m_abs
  split
  · exact Nat.mod_lt _ (by decide)
  · exact h
theorem m_abs_of (x : Nat) : (if m_isneg x then m_neg x else x) = m_abs x := rfl
theorem wv_tb' {f : Nat → Int32} {i : Nat} (hi : i < 256) : (wv f 8).testBit i = (uw (f (i / 32))).testBit (i % 32) := by
  rw [wv_tb (n := 8) (by omega), decide_eq_true (Nat.mod_lt _ (by decide)), Bool.true_and, show 32 * (i / 32) + i % 32 = i by omega]
theorem wv_tbhi (f : Nat → Int32) {i : Nat} (hi : 256 ≤ i) : (wv f 8).testBit i = false := Nat.testBit_lt_two_pow (Nat.lt_of_lt_of_le (wv_lt8 f) (Nat.pow_le_pow_right (by decide) hi))
theorem uw_and (x y : Int32) : uw (x &&& y) = uw x &&& uw y := by
  show (x &&& y).toBitVec.toNat = _
  rw [Int32.toBitVec_and, BitVec.toNat_and]
  rfl
theorem uw_xor (x y : Int32) : uw (x ^^^ y) = uw x ^^^ uw y := by
  show (x ^^^ y).toBitVec.toNat = _
  rw [Int32.toBitVec_xor, BitVec.toNat_xor]
  rfl
theorem wv_and {f x u : Nat → Int32} (h : ∀ j, j < 8 → u j = f j &&& x j) : wv u 8 = wv f 8 &&& wv x 8 := by
  apply Nat.eq_of_testBit_eq
  intro i
  rw [Nat.testBit_and]
  by_cases hi : i < 256
  · rw [wv_tb' hi, wv_tb' hi, wv_tb' hi, h _ (by omega), uw_and, Nat.testBit_and]
  · rw [wv_tbhi u (by omega), wv_tbhi f (by omega), Bool.false_and]
theorem wv_or {f x u : Nat → Int32} (h : ∀ j, j < 8 → u j = f j ||| x j) : wv u 8 = wv f 8 ||| wv x 8 := by
  apply Nat.eq_of_testBit_eq
  intro i
  rw [Nat.testBit_or]
  by_cases hi : i < 256
  · rw [wv_tb' hi, wv_tb' hi, wv_tb' hi, h _ (by omega), uw_or, Nat.testBit_or]
  · rw [wv_tbhi u (by omega), wv_tbhi f (by omega), wv_tbhi x (by omega), Bool.false_or]
theorem wv_xor {f x u : Nat → Int32} (h : ∀ j, j < 8 → u j = f j ^^^ x j) : wv u 8 = wv f 8 ^^^ wv x 8 := by
  apply Nat.eq_of_testBit_eq
  intro i
  rw [Nat.testBit_xor]
  by_cases hi : i < 256
  · rw [wv_tb' hi, wv_tb' hi, wv_tb' hi, h _ (by omega), uw_xor, Nat.testBit_xor]
  · rw [wv_tbhi u (by omega), wv_tbhi f (by omega), wv_tbhi x (by omega), Bool.false_xor]
theorem wv_not_ : ∀ {f u : Nat → Int32} {k : Nat}, (∀ j, j < k → u j = f j ^^^ (-1)) → wv u k + wv f k + 1 = kK ^ k
  | f, u, 0, _ => by rw [wv_0, wv_0, Nat.pow_zero]
  | f, u, k + 1, h => by
    have ih := wv_not_ (f := f) (u := u) (k := k) (fun j hj => h j (by omega))
    have b := uw_lt' (f k)
    rw [wv_s, wv_s, h k (by omega), uw_not, Nat.pow_succ, Nat.mul_comm (kK ^ k) kK]
    have h2 : (4294967295 - uw (f k)) * kK ^ k + uw (f k) * kK ^ k + kK ^ k = kK * kK ^ k := by
      rw [← Nat.add_mul, show 4294967295 - uw (f k) + uw (f k) = 4294967295 by omega, kK_eq, show (4294967296 : Nat) = 4294967295 + 1 from rfl, Nat.add_mul (4294967295) 1, Nat.one_mul]
    omega
theorem wv_not {f u : Nat → Int32} (h : ∀ j, j < 8 → u j = f j ^^^ (-1)) : wv u 8 = mM - 1 - wv f 8 := by
  have := wv_not_ h
  rw [kK8] at this
  omega
theorem wv_truth {u : Nat → Int32} {b : Bool} (h : u 0 = kb b ∧ ∀ j, 0 < j → j < 8 → u j = 0) : wv u 8 = m_b b := by
  rw [wv_one h.2, h.1]
  cases b <;> decide
theorem wv_num {u : Nat → Int32} {v : Nat} (hv : v < 4294967296) (h : u 0 = nI v ∧ ∀ j, 0 < j → j < 8 → u j = 0) : wv u 8 = v := by
  rw [wv_one h.2, h.1, uw_nI' hv]
theorem ord_ge {a b : Nat} (h : 0 ≤ m_ord a b) : decide (a < b) = false := decide_eq_false (fun q => (Int32.not_lt.mpr h) (m_ord_neg.mpr q))
theorem ord_nge {a b : Nat} (h : ¬ 0 ≤ m_ord a b) : decide (a < b) = true := decide_eq_true (m_ord_neg.mp (Int32.not_le.mp h))
theorem m_ord_pos {a b : Nat} : m_ord a b ≤ 0 ↔ a ≤ b := by
  by_cases h : a < b
  · rw [m_ord_lt h]; exact ⟨fun _ => by omega, fun _ => by decide⟩
  · by_cases e : a = b
    · rw [m_ord_eq e]; exact ⟨fun _ => by omega, fun _ => by decide⟩
    · rw [m_ord_gt (by omega)]; exact ⟨fun q => absurd q (by decide), fun q => by omega⟩
theorem ord_le {a b : Nat} (h : m_ord a b ≤ 0) : decide (b < a) = false := decide_eq_false (Nat.not_lt.mpr (m_ord_pos.mp h))
theorem ord_nle {a b : Nat} (h : ¬ m_ord a b ≤ 0) : decide (b < a) = true := decide_eq_true (Nat.lt_of_not_le (fun q => h (m_ord_pos.mpr q)))
theorem m_ord_z {a b : Nat} : m_ord a b = 0 ↔ a = b := by
  by_cases h : a < b
  · rw [m_ord_lt h]; exact ⟨fun q => absurd q (by decide), fun q => by omega⟩
  · by_cases e : a = b
    · rw [m_ord_eq e]; exact ⟨fun _ => e, fun _ => by decide⟩
    · rw [m_ord_gt (by omega)]; exact ⟨fun q => absurd q (by decide), fun q => absurd q e⟩
theorem ord_ne {a b : Nat} (h : ¬ m_ord a b = 0) : decide (a = b) = false := decide_eq_false (fun q => h (m_ord_z.mpr q))
theorem ord_eq {a b : Nat} (h : m_ord a b = 0) : decide (a = b) = true := decide_eq_true (m_ord_z.mp h)
theorem m_sord_lt {a b : Nat} : m_sord a b < 0 ↔ m_slt a b = true := by
  unfold m_sord m_slt
  by_cases h : m_isneg a = m_isneg b
  · rw [if_pos h, if_pos h, m_ord_neg, decide_eq_true_iff]
  · rw [if_neg h, if_neg h]
    cases m_isneg a
    · exact ⟨fun q => absurd q (by decide), fun q => absurd q (by decide)⟩
    · exact ⟨fun _ => rfl, fun _ => by decide⟩
theorem m_sord_gt {a b : Nat} : ¬ m_sord a b ≤ 0 ↔ m_slt b a = true := by
  unfold m_sord m_slt
  cases ha : m_isneg a <;> cases hb : m_isneg b
  · show ¬ m_ord a b ≤ 0 ↔ decide (b < a) = true
    rw [m_ord_pos, decide_eq_true_iff]; omega
  · show ¬ nI 1 ≤ 0 ↔ true = true
    exact ⟨fun _ => rfl, fun _ => by decide⟩
  · show ¬ (-1 : Int32) ≤ 0 ↔ false = true
    exact ⟨fun q => absurd (by decide) q, fun q => by cases q⟩
  · show ¬ m_ord a b ≤ 0 ↔ decide (b < a) = true
    rw [m_ord_pos, decide_eq_true_iff]; omega
theorem sord_ge {a b : Nat} (h : 0 ≤ m_sord a b) : m_slt a b = false := by
  cases q : m_slt a b
  · rfl
  · exact absurd (m_sord_lt.mpr q) (Int32.not_lt.mpr h)
theorem sord_nge {a b : Nat} (h : ¬ 0 ≤ m_sord a b) : m_slt a b = true := m_sord_lt.mp (Int32.not_le.mp h)
theorem sord_le {a b : Nat} (h : m_sord a b ≤ 0) : m_slt b a = false := by
  cases q : m_slt b a
  · rfl
  · exact absurd h (m_sord_gt.mpr q)
theorem sord_nle {a b : Nat} (h : ¬ m_sord a b ≤ 0) : m_slt b a = true := m_sord_gt.mp h
theorem byte_min (a b : Nat) : m_byte (min a 32) b = m_byte a b := by
  unfold m_byte
  by_cases h : 31 < a
  · rw [if_pos h, if_pos (by omega)]
  · rw [if_neg h, if_neg (by omega), Nat.min_eq_left (by omega)]
theorem byte_lt (a b : Nat) : m_byte a b < 4294967296 := by
  unfold m_byte
  split
  · decide
  · exact Nat.lt_trans (Nat.mod_lt _ (by decide)) (by decide)
theorem sext_min (a b : Nat) : m_sext (min a 31) b = m_sext a b := by
  by_cases h : a ≤ 31
  · rw [Nat.min_eq_left h]
  · rw [Nat.min_eq_right (by omega)]
    unfold m_sext
    rw [if_pos (by decide), if_pos (by omega)]
theorem shl_min (a b : Nat) : b * 2 ^ (min a 256) % mM = m_shl a b := by
  unfold m_shl
  by_cases h : 255 < a
  · rw [if_pos h, Nat.min_eq_right (by omega)]
    exact Nat.mul_mod_left _ _
  · rw [if_neg h, Nat.min_eq_left (by omega)]
theorem shr_min {a b : Nat} (hb : b < mM) : b / 2 ^ (min a 256) % mM = m_shr a b := by
  unfold m_shr
  rw [q_lt hb]
  by_cases h : 255 < a
  · rw [if_pos h, Nat.min_eq_right (by omega)]
    exact Nat.div_eq_of_lt hb
  · rw [if_neg h, Nat.min_eq_left (by omega)]
theorem sar_min {a b : Nat} (hb : b < mM) (h : m_isneg b = true) : (b + (2 ^ 288 - 1) * mM) / 2 ^ (min a 256) % mM = m_sar a b := by
  rw [sar_neg hb (Nat.min_le_right _ _)]
  unfold m_sar
  rw [if_pos h]
  by_cases h2 : 255 < a
  · rw [if_pos h2, Nat.min_eq_right (by omega), Nat.div_eq_of_lt (show mM - 1 - b < 2 ^ 256 by show _ < mM; omega)]
  · rw [if_neg h2, Nat.min_eq_left (by omega)]
theorem sar_pos {a b : Nat} (h : m_isneg b = false) : m_shr a b = m_sar a b := by
  unfold m_sar
  rw [h]
  rfl
theorem sdiv_eq {a b q : Nat} (h : kb (m_isneg a) = kb (m_isneg b)) (hq : q = m_abs a / m_abs b) : q = m_sdiv a b := by
  unfold m_sdiv
  rw [if_pos (kb_inj h)]
  exact hq
theorem sdiv_ne {a b q : Nat} (h : ¬ kb (m_isneg a) = kb (m_isneg b)) (hq : q = m_neg (m_abs a / m_abs b)) : q = m_sdiv a b := by
  unfold m_sdiv
  rw [if_neg (fun e => h (by rw [e]))]
  exact hq
theorem op_in_ : ∀ o, o < 32 → (m_known o = true ∧ 0 < o) → ([1, 2, 3, 4, 5, 6, 7, 8, 9, 11, 16, 17, 18, 19, 20, 21, 22, 23, 24, 25, 26, 27, 28, 29] : List Nat).contains o = true := by decide +kernel
theorem op_in (o : Nat) (_ : o < 256) (hk : m_known o = true) (h0 : 0 < o) (h32 : o < 32) : o ∈ ([1, 2, 3, 4, 5, 6, 7, 8, 9, 11, 16, 17, 18, 19, 20, 21, 22, 23, 24, 25, 26, 27, 28, 29] : List Nat) := List.contains_iff_mem.mp (op_in_ o h32 ⟨hk, h0⟩)

abbrev y_Ca_multiply : MethodName := ⟨"WideStack$Calculator", "multiply", "([I[I[I)V"⟩
theorem d_Ca_multiply_0 : decode prog_3_method_3_code 0 = .ok (.aload_n 1, 1) := by decide +kernel
theorem d_Ca_multiply_1 : decode prog_3_method_3_code 1 = .ok (.aload_n 2, 1) := by decide +kernel
theorem d_Ca_multiply_2 : decode prog_3_method_3_code 2 = .ok (.aload_n 0, 1) := by decide +kernel
theorem d_Ca_multiply_3 : decode prog_3_method_3_code 3 = .ok (.getfield 18, 3) := by decide +kernel
theorem d_Ca_multiply_6 : decode prog_3_method_3_code 6 = .ok (.invokestatic 129, 3) := by decide +kernel
theorem d_Ca_multiply_9 : decode prog_3_method_3_code 9 = .ok (.aload_n 0, 1) := by decide +kernel
theorem d_Ca_multiply_10 : decode prog_3_method_3_code 10 = .ok (.getfield 18, 3) := by decide +kernel
theorem d_Ca_multiply_13 : decode prog_3_method_3_code 13 = .ok (.aload_n 3, 1) := by decide +kernel
theorem d_Ca_multiply_14 : decode prog_3_method_3_code 14 = .ok (.invokestatic 130, 3) := by decide +kernel
theorem d_Ca_multiply_17 : decode prog_3_method_3_code 17 = .ok (.return_, 1) := by decide +kernel
def rm_c_C_multiply : Room := { frames := 2, cells := 0, slots := 0, locals := 61 }
set_option maxHeartbeats 4000000 in
set_option maxRecDepth 100000 in
theorem c_C_multiply (l : Launch) (E : kE) (ca d dd dq dr cp c1 c2 : Nat) (fD fq fr fp f1 f2 : Nat → Int32) (a b t : Nat) (f x z : Nat → Int32) : Kv l y_Ca_multiply (kW y_Ca_multiply prog_3_method_3_code 4 (none)) rm_c_C_multiply E [.ref ca, .ref a, .ref b, .ref t] [(ca, .inr (4, [.ref d, .ref cp, .ref c1, .ref c2])), (d, .inr (3, [.ref dd, .ref dq, .ref dr])), (dd, .inl (E.2.1 0, 16, .inl fD)), (dq, .inl (E.2.1 0, 16, .inl fq)), (dr, .inl (E.2.1 0, 8, .inl fr)), (cp, .inl (E.2.1 0, 16, .inl fp)), (c1, .inl (E.2.1 0, 8, .inl f1)), (c2, .inl (E.2.1 0, 8, .inl f2)), (a, .inl (E.2.1 0, 8, .inl f)), (b, .inl (E.2.1 0, 8, .inl x)), (t, .inl (E.2.1 0, 8, .inl z))] (S := Nat → Nat → Int32) (fun u => wv (u 6) 8 = wv f 8 * wv x 8 % mM) (fun u => [(ca, .inr (4, [.ref d, .ref cp, .ref c1, .ref c2])), (d, .inr (3, [.ref dd, .ref dq, .ref dr])), (dd, .inl (E.2.1 0, 16, .inl (u 0))), (dq, .inl (E.2.1 0, 16, .inl (u 1))), (dr, .inl (E.2.1 0, 8, .inl (u 2))), (cp, .inl (E.2.1 0, 16, .inl (u 3))), (c1, .inl (E.2.1 0, 8, .inl (u 4))), (c2, .inl (E.2.1 0, 8, .inl (u 5))), (a, .inl (E.2.1 0, 8, .inl f)), (b, .inl (E.2.1 0, 8, .inl x)), (t, .inl (E.2.1 0, 8, .inl (u 6)))]) := by
  refine Kv.ofW (cc := prog_3_method_3_code) (maxL := 4) (by decide) (Nat.le_of_ble_eq_true rfl) ?_
  intro p e s m args below meth c A ls Q hx hb hts hown hml hK hG hA hP hD hS hl hret
  have hl : lv_has ls 4 [(0, .ref ca), (1, .ref a), (2, .ref b), (3, .ref t)] := hl
  refine lv_aload_n hx hb d_Ca_multiply_0 rfl (lv_at hl 1 rfl) ?_
  refine lv_aload_n hx hb d_Ca_multiply_1 rfl (lv_at hl 2 rfl) ?_
  refine lv_aload_n hx hb d_Ca_multiply_2 rfl (lv_at hl 0 rfl) ?_
  refine va_get (D := E.1) (ci := 4) (v := .ref cp) (C := "WideStack$Calculator") (T := T_Ca) (N := 4) hx hb hts in_Ca hown hK hP 0 rfl rfl 1 (by decide) (hts _ t_174) (fun _ h9 => h9) rfl d_Ca_multiply_3 ?_
  refine k_Sv (As := [.ref a, .ref b, .ref cp]) (rest := []) ⟨hx, hb, hml, hown, hts⟩ (c_W_multiply l E a b cp f x fp) (k_cwS 3 hts t_520 t_521 t_73 t_522 (by decide +kernel) ⟨Nat.le_of_ble_eq_true rfl, Nat.le_of_ble_eq_true rfl⟩) hK hG hA hP hD hS [8, 9, 5] rfl (by decide) (fun _ => rfl) rfl hl.1 rfl (Nat.le_of_ble_eq_true rfl) d_Ca_multiply_6 ⟨Nat.zero_le _, Nat.zero_le _⟩ (fun u H locs hu hP hD hS => ?_)
  have hP : va_P E.1 vwCl [(ca, .inr (4, [.ref d, .ref cp, .ref c1, .ref c2])), (d, .inr (3, [.ref dd, .ref dq, .ref dr])), (dd, .inl (E.2.1 0, 16, .inl fD)), (dq, .inl (E.2.1 0, 16, .inl fq)), (dr, .inl (E.2.1 0, 8, .inl fr)), (cp, .inl (E.2.1 0, 16, .inl u)), (c1, .inl (E.2.1 0, 8, .inl f1)), (c2, .inl (E.2.1 0, 8, .inl f2)), (a, .inl (E.2.1 0, 8, .inl f)), (b, .inl (E.2.1 0, 8, .inl x)), (t, .inl (E.2.1 0, 8, .inl z))] H := hP
  have hD : va_D A [(ca, .inr (4, [.ref d, .ref cp, .ref c1, .ref c2])), (d, .inr (3, [.ref dd, .ref dq, .ref dr])), (dd, .inl (E.2.1 0, 16, .inl fD)), (dq, .inl (E.2.1 0, 16, .inl fq)), (dr, .inl (E.2.1 0, 8, .inl fr)), (cp, .inl (E.2.1 0, 16, .inl u)), (c1, .inl (E.2.1 0, 8, .inl f1)), (c2, .inl (E.2.1 0, 8, .inl f2)), (a, .inl (E.2.1 0, 8, .inl f)), (b, .inl (E.2.1 0, 8, .inl x)), (t, .inl (E.2.1 0, 8, .inl z))] := hD
  refine lv_aload_n hx hb d_Ca_multiply_9 rfl (lv_at hl 0 rfl) ?_
  refine va_get (D := E.1) (ci := 4) (v := .ref cp) (C := "WideStack$Calculator") (T := T_Ca) (N := 4) hx hb hts in_Ca hown hK hP 0 rfl rfl 1 (by decide) (hts _ t_174) (fun _ h9 => h9) rfl d_Ca_multiply_10 ?_
  refine lv_aload_n hx hb d_Ca_multiply_13 rfl (lv_at hl 3 rfl) ?_
  refine k_Sv (As := [.ref cp, .ref t]) (rest := []) ⟨hx, hb, hml, hown, hts⟩ (c_W_copy l E cp t 16 8 u z (by decide) (by decide)) (k_cwS 2 hts t_523 t_314 t_73 t_315 (by decide +kernel) ⟨Nat.le_of_ble_eq_true rfl, Nat.le_of_ble_eq_true rfl⟩) hK hG hA hP hD hS [5, 10] rfl (by decide) (fun _ => rfl) rfl hl.1 rfl (Nat.le_of_ble_eq_true rfl) d_Ca_multiply_14 ⟨Nat.zero_le _, Nat.zero_le _⟩ (fun v H locs hv hP hD hS => ?_)
  have hP : va_P E.1 vwCl [(ca, .inr (4, [.ref d, .ref cp, .ref c1, .ref c2])), (d, .inr (3, [.ref dd, .ref dq, .ref dr])), (dd, .inl (E.2.1 0, 16, .inl fD)), (dq, .inl (E.2.1 0, 16, .inl fq)), (dr, .inl (E.2.1 0, 8, .inl fr)), (cp, .inl (E.2.1 0, 16, .inl u)), (c1, .inl (E.2.1 0, 8, .inl f1)), (c2, .inl (E.2.1 0, 8, .inl f2)), (a, .inl (E.2.1 0, 8, .inl f)), (b, .inl (E.2.1 0, 8, .inl x)), (t, .inl (E.2.1 0, 8, .inl v))] H := hP
  have hD : va_D A [(ca, .inr (4, [.ref d, .ref cp, .ref c1, .ref c2])), (d, .inr (3, [.ref dd, .ref dq, .ref dr])), (dd, .inl (E.2.1 0, 16, .inl fD)), (dq, .inl (E.2.1 0, 16, .inl fq)), (dr, .inl (E.2.1 0, 8, .inl fr)), (cp, .inl (E.2.1 0, 16, .inl u)), (c1, .inl (E.2.1 0, 8, .inl f1)), (c2, .inl (E.2.1 0, 8, .inl f2)), (a, .inl (E.2.1 0, 8, .inl f)), (b, .inl (E.2.1 0, 8, .inl x)), (t, .inl (E.2.1 0, 8, .inl v))] := hD
  exact hret _ ls _ _ (t7 fD fq fr u f1 f2 v) d_Ca_multiply_17 ((cp8 hv).trans ((wv_mod8 u).trans (by rw [hu]))) hP hS

abbrev y_Ca_divide : MethodName := ⟨"WideStack$Calculator", "divide", "([I[I[I)V"⟩
theorem d_Ca_divide_0 : decode prog_3_method_4_code 0 = .ok (.aload_n 0, 1) := by decide +kernel
theorem d_Ca_divide_1 : decode prog_3_method_4_code 1 = .ok (.getfield 10, 3) := by decide +kernel
theorem d_Ca_divide_4 : decode prog_3_method_4_code 4 = .ok (.aload_n 1, 1) := by decide +kernel
theorem d_Ca_divide_5 : decode prog_3_method_4_code 5 = .ok (.invokevirtual 133, 3) := by decide +kernel
theorem d_Ca_divide_8 : decode prog_3_method_4_code 8 = .ok (.aload_n 0, 1) := by decide +kernel
theorem d_Ca_divide_9 : decode prog_3_method_4_code 9 = .ok (.getfield 10, 3) := by decide +kernel
theorem d_Ca_divide_12 : decode prog_3_method_4_code 12 = .ok (.aload_n 2, 1) := by decide +kernel
theorem d_Ca_divide_13 : decode prog_3_method_4_code 13 = .ok (.invokevirtual 136, 3) := by decide +kernel
theorem d_Ca_divide_16 : decode prog_3_method_4_code 16 = .ok (.aload_n 0, 1) := by decide +kernel
theorem d_Ca_divide_17 : decode prog_3_method_4_code 17 = .ok (.getfield 10, 3) := by decide +kernel
theorem d_Ca_divide_20 : decode prog_3_method_4_code 20 = .ok (.getfield 46, 3) := by decide +kernel
theorem d_Ca_divide_23 : decode prog_3_method_4_code 23 = .ok (.aload_n 3, 1) := by decide +kernel
theorem d_Ca_divide_24 : decode prog_3_method_4_code 24 = .ok (.invokestatic 130, 3) := by decide +kernel
theorem d_Ca_divide_27 : decode prog_3_method_4_code 27 = .ok (.return_, 1) := by decide +kernel
def rm_c_C_divide : Room := { frames := 3, cells := 0, slots := 0, locals := 82 }
set_option maxHeartbeats 4000000 in
set_option maxRecDepth 100000 in
theorem c_C_divide (l : Launch) (E : kE) (ca d dd dq dr cp c1 c2 : Nat) (fD fq fr fp f1 f2 : Nat → Int32) (a b t : Nat) (f x z : Nat → Int32) : Kv l y_Ca_divide (kW y_Ca_divide prog_3_method_4_code 4 (none)) rm_c_C_divide E [.ref ca, .ref a, .ref b, .ref t] [(ca, .inr (4, [.ref d, .ref cp, .ref c1, .ref c2])), (d, .inr (3, [.ref dd, .ref dq, .ref dr])), (dd, .inl (E.2.1 0, 16, .inl fD)), (dq, .inl (E.2.1 0, 16, .inl fq)), (dr, .inl (E.2.1 0, 8, .inl fr)), (cp, .inl (E.2.1 0, 16, .inl fp)), (c1, .inl (E.2.1 0, 8, .inl f1)), (c2, .inl (E.2.1 0, 8, .inl f2)), (a, .inl (E.2.1 0, 8, .inl f)), (b, .inl (E.2.1 0, 8, .inl x)), (t, .inl (E.2.1 0, 8, .inl z))] (S := Nat → Nat → Int32) (fun u => wv (u 6) 8 = wv f 8 / wv x 8) (fun u => [(ca, .inr (4, [.ref d, .ref cp, .ref c1, .ref c2])), (d, .inr (3, [.ref dd, .ref dq, .ref dr])), (dd, .inl (E.2.1 0, 16, .inl (u 0))), (dq, .inl (E.2.1 0, 16, .inl (u 1))), (dr, .inl (E.2.1 0, 8, .inl (u 2))), (cp, .inl (E.2.1 0, 16, .inl (u 3))), (c1, .inl (E.2.1 0, 8, .inl (u 4))), (c2, .inl (E.2.1 0, 8, .inl (u 5))), (a, .inl (E.2.1 0, 8, .inl f)), (b, .inl (E.2.1 0, 8, .inl x)), (t, .inl (E.2.1 0, 8, .inl (u 6)))]) := by
  refine Kv.ofW (cc := prog_3_method_4_code) (maxL := 4) (by decide) (Nat.le_of_ble_eq_true rfl) ?_
  intro p e s m args below meth c A ls Q hx hb hts hown hml hK hG hA hP hD hS hl hret
  have hl : lv_has ls 4 [(0, .ref ca), (1, .ref a), (2, .ref b), (3, .ref t)] := hl
  refine lv_aload_n hx hb d_Ca_divide_0 rfl (lv_at hl 0 rfl) ?_
  refine va_get (D := E.1) (ci := 4) (v := .ref d) (C := "WideStack$Calculator") (T := T_Ca) (N := 4) hx hb hts in_Ca hown hK hP 0 rfl rfl 0 (by decide) (hts _ t_173) (fun _ h9 => h9) rfl d_Ca_divide_1 ?_
  refine lv_aload_n hx hb d_Ca_divide_4 rfl (lv_at hl 1 rfl) ?_
  refine k_Vv (As := [.ref a]) (rest := []) ⟨hx, hb, hml, hown, hts⟩ (c_D_setDividend l E d dd dq dr a fD f) (k_cwV 1 hts t_531 t_532 t_533 t_68 t_534 (by decide +kernel) ⟨Nat.le_of_ble_eq_true rfl, Nat.le_of_ble_eq_true rfl⟩) hK hG hA hP hD hS [1, 2, 8] rfl (by decide) 1 rfl rfl (fun _ => rfl) rfl hl.1 rfl (Nat.le_of_ble_eq_true rfl) d_Ca_divide_5 ⟨Nat.zero_le _, Nat.zero_le _⟩ (fun uD H locs huD hP hD hS => ?_)
  have hP : va_P E.1 vwCl [(ca, .inr (4, [.ref d, .ref cp, .ref c1, .ref c2])), (d, .inr (3, [.ref dd, .ref dq, .ref dr])), (dd, .inl (E.2.1 0, 16, .inl uD)), (dq, .inl (E.2.1 0, 16, .inl fq)), (dr, .inl (E.2.1 0, 8, .inl fr)), (cp, .inl (E.2.1 0, 16, .inl fp)), (c1, .inl (E.2.1 0, 8, .inl f1)), (c2, .inl (E.2.1 0, 8, .inl f2)), (a, .inl (E.2.1 0, 8, .inl f)), (b, .inl (E.2.1 0, 8, .inl x)), (t, .inl (E.2.1 0, 8, .inl z))] H := hP
  have hD : va_D A [(ca, .inr (4, [.ref d, .ref cp, .ref c1, .ref c2])), (d, .inr (3, [.ref dd, .ref dq, .ref dr])), (dd, .inl (E.2.1 0, 16, .inl uD)), (dq, .inl (E.2.1 0, 16, .inl fq)), (dr, .inl (E.2.1 0, 8, .inl fr)), (cp, .inl (E.2.1 0, 16, .inl fp)), (c1, .inl (E.2.1 0, 8, .inl f1)), (c2, .inl (E.2.1 0, 8, .inl f2)), (a, .inl (E.2.1 0, 8, .inl f)), (b, .inl (E.2.1 0, 8, .inl x)), (t, .inl (E.2.1 0, 8, .inl z))] := hD
  refine lv_aload_n hx hb d_Ca_divide_8 rfl (lv_at hl 0 rfl) ?_
  refine va_get (D := E.1) (ci := 4) (v := .ref d) (C := "WideStack$Calculator") (T := T_Ca) (N := 4) hx hb hts in_Ca hown hK hP 0 rfl rfl 0 (by decide) (hts _ t_173) (fun _ h9 => h9) rfl d_Ca_divide_9 ?_
  refine lv_aload_n hx hb d_Ca_divide_12 rfl (lv_at hl 2 rfl) ?_
  refine k_Vv (As := [.ref b]) (rest := []) ⟨hx, hb, hml, hown, hts⟩ (c_D_divideBy l E d dd dq dr uD fq fr b x) (k_cwV 1 hts t_537 t_538 t_539 t_68 t_540 (by decide +kernel) ⟨Nat.le_of_ble_eq_true rfl, Nat.le_of_ble_eq_true rfl⟩) hK hG hA hP hD hS [1, 2, 3, 4, 9] rfl (by decide) 1 rfl rfl (fun _ => rfl) rfl hl.1 rfl (Nat.le_of_ble_eq_true rfl) d_Ca_divide_13 ⟨Nat.zero_le _, Nat.zero_le _⟩ (fun ud H locs hud hP hD hS => ?_)
  have hP : va_P E.1 vwCl [(ca, .inr (4, [.ref d, .ref cp, .ref c1, .ref c2])), (d, .inr (3, [.ref dd, .ref dq, .ref dr])), (dd, .inl (E.2.1 0, 16, .inl uD)), (dq, .inl (E.2.1 0, 16, .inl ud.1)), (dr, .inl (E.2.1 0, 8, .inl ud.2)), (cp, .inl (E.2.1 0, 16, .inl fp)), (c1, .inl (E.2.1 0, 8, .inl f1)), (c2, .inl (E.2.1 0, 8, .inl f2)), (a, .inl (E.2.1 0, 8, .inl f)), (b, .inl (E.2.1 0, 8, .inl x)), (t, .inl (E.2.1 0, 8, .inl z))] H := hP
  have hD : va_D A [(ca, .inr (4, [.ref d, .ref cp, .ref c1, .ref c2])), (d, .inr (3, [.ref dd, .ref dq, .ref dr])), (dd, .inl (E.2.1 0, 16, .inl uD)), (dq, .inl (E.2.1 0, 16, .inl ud.1)), (dr, .inl (E.2.1 0, 8, .inl ud.2)), (cp, .inl (E.2.1 0, 16, .inl fp)), (c1, .inl (E.2.1 0, 8, .inl f1)), (c2, .inl (E.2.1 0, 8, .inl f2)), (a, .inl (E.2.1 0, 8, .inl f)), (b, .inl (E.2.1 0, 8, .inl x)), (t, .inl (E.2.1 0, 8, .inl z))] := hD
  refine lv_aload_n hx hb d_Ca_divide_16 rfl (lv_at hl 0 rfl) ?_
  refine va_get (D := E.1) (ci := 4) (v := .ref d) (C := "WideStack$Calculator") (T := T_Ca) (N := 4) hx hb hts in_Ca hown hK hP 0 rfl rfl 0 (by decide) (hts _ t_173) (fun _ h9 => h9) rfl d_Ca_divide_17 ?_
  refine va_get (D := E.1) (ci := 3) (v := .ref dq) (C := "WideStack$Divider") (T := T_Di) (N := 3) hx hb hts in_Di hown hK hP 1 rfl rfl 1 (by decide) (hts _ t_163) (fun _ h9 => h9) rfl d_Ca_divide_20 ?_
  refine lv_aload_n hx hb d_Ca_divide_23 rfl (lv_at hl 3 rfl) ?_
  refine k_Sv (As := [.ref dq, .ref t]) (rest := []) ⟨hx, hb, hml, hown, hts⟩ (c_W_copy l E dq t 16 8 ud.1 z (by decide) (by decide)) (k_cwS 2 hts t_523 t_314 t_73 t_315 (by decide +kernel) ⟨Nat.le_of_ble_eq_true rfl, Nat.le_of_ble_eq_true rfl⟩) hK hG hA hP hD hS [3, 10] rfl (by decide) (fun _ => rfl) rfl hl.1 rfl (Nat.le_of_ble_eq_true rfl) d_Ca_divide_24 ⟨Nat.zero_le _, Nat.zero_le _⟩ (fun v H locs hv hP hD hS => ?_)
  have hP : va_P E.1 vwCl [(ca, .inr (4, [.ref d, .ref cp, .ref c1, .ref c2])), (d, .inr (3, [.ref dd, .ref dq, .ref dr])), (dd, .inl (E.2.1 0, 16, .inl uD)), (dq, .inl (E.2.1 0, 16, .inl ud.1)), (dr, .inl (E.2.1 0, 8, .inl ud.2)), (cp, .inl (E.2.1 0, 16, .inl fp)), (c1, .inl (E.2.1 0, 8, .inl f1)), (c2, .inl (E.2.1 0, 8, .inl f2)), (a, .inl (E.2.1 0, 8, .inl f)), (b, .inl (E.2.1 0, 8, .inl x)), (t, .inl (E.2.1 0, 8, .inl v))] H := hP
  have hD : va_D A [(ca, .inr (4, [.ref d, .ref cp, .ref c1, .ref c2])), (d, .inr (3, [.ref dd, .ref dq, .ref dr])), (dd, .inl (E.2.1 0, 16, .inl uD)), (dq, .inl (E.2.1 0, 16, .inl ud.1)), (dr, .inl (E.2.1 0, 8, .inl ud.2)), (cp, .inl (E.2.1 0, 16, .inl fp)), (c1, .inl (E.2.1 0, 8, .inl f1)), (c2, .inl (E.2.1 0, 8, .inl f2)), (a, .inl (E.2.1 0, 8, .inl f)), (b, .inl (E.2.1 0, 8, .inl x)), (t, .inl (E.2.1 0, 8, .inl v))] := hD
  exact hret _ ls _ _ (t7 uD ud.1 ud.2 fp f1 f2 v) d_Ca_divide_27 ((cp8 hv).trans ((wv_mod8 ud.1).trans (by rw [hud.1, huD, q_lt (wv_lt8 f)]))) hP hS

abbrev y_Ca_findRest : MethodName := ⟨"WideStack$Calculator", "findRest", "([I[I[I)V"⟩
theorem d_Ca_findRest_0 : decode prog_3_method_5_code 0 = .ok (.aload_n 0, 1) := by decide +kernel
theorem d_Ca_findRest_1 : decode prog_3_method_5_code 1 = .ok (.getfield 10, 3) := by decide +kernel
theorem d_Ca_findRest_4 : decode prog_3_method_5_code 4 = .ok (.aload_n 1, 1) := by decide +kernel
theorem d_Ca_findRest_5 : decode prog_3_method_5_code 5 = .ok (.invokevirtual 133, 3) := by decide +kernel
theorem d_Ca_findRest_8 : decode prog_3_method_5_code 8 = .ok (.aload_n 0, 1) := by decide +kernel
theorem d_Ca_findRest_9 : decode prog_3_method_5_code 9 = .ok (.getfield 10, 3) := by decide +kernel
theorem d_Ca_findRest_12 : decode prog_3_method_5_code 12 = .ok (.aload_n 2, 1) := by decide +kernel
theorem d_Ca_findRest_13 : decode prog_3_method_5_code 13 = .ok (.invokevirtual 136, 3) := by decide +kernel
theorem d_Ca_findRest_16 : decode prog_3_method_5_code 16 = .ok (.aload_n 0, 1) := by decide +kernel
theorem d_Ca_findRest_17 : decode prog_3_method_5_code 17 = .ok (.getfield 10, 3) := by decide +kernel
theorem d_Ca_findRest_20 : decode prog_3_method_5_code 20 = .ok (.getfield 60, 3) := by decide +kernel
theorem d_Ca_findRest_23 : decode prog_3_method_5_code 23 = .ok (.aload_n 3, 1) := by decide +kernel
theorem d_Ca_findRest_24 : decode prog_3_method_5_code 24 = .ok (.invokestatic 130, 3) := by decide +kernel
theorem d_Ca_findRest_27 : decode prog_3_method_5_code 27 = .ok (.return_, 1) := by decide +kernel
def rm_c_C_findRest : Room := { frames := 3, cells := 0, slots := 0, locals := 82 }
set_option maxHeartbeats 4000000 in
set_option maxRecDepth 100000 in
theorem c_C_findRest (l : Launch) (E : kE) (ca d dd dq dr cp c1 c2 : Nat) (fD fq fr fp f1 f2 : Nat → Int32) (a b t : Nat) (f x z : Nat → Int32) : Kv l y_Ca_findRest (kW y_Ca_findRest prog_3_method_5_code 4 (none)) rm_c_C_findRest E [.ref ca, .ref a, .ref b, .ref t] [(ca, .inr (4, [.ref d, .ref cp, .ref c1, .ref c2])), (d, .inr (3, [.ref dd, .ref dq, .ref dr])), (dd, .inl (E.2.1 0, 16, .inl fD)), (dq, .inl (E.2.1 0, 16, .inl fq)), (dr, .inl (E.2.1 0, 8, .inl fr)), (cp, .inl (E.2.1 0, 16, .inl fp)), (c1, .inl (E.2.1 0, 8, .inl f1)), (c2, .inl (E.2.1 0, 8, .inl f2)), (a, .inl (E.2.1 0, 8, .inl f)), (b, .inl (E.2.1 0, 8, .inl x)), (t, .inl (E.2.1 0, 8, .inl z))] (S := Nat → Nat → Int32) (fun u => wv (u 6) 8 = m_rem (wv f 8) (wv x 8)) (fun u => [(ca, .inr (4, [.ref d, .ref cp, .ref c1, .ref c2])), (d, .inr (3, [.ref dd, .ref dq, .ref dr])), (dd, .inl (E.2.1 0, 16, .inl (u 0))), (dq, .inl (E.2.1 0, 16, .inl (u 1))), (dr, .inl (E.2.1 0, 8, .inl (u 2))), (cp, .inl (E.2.1 0, 16, .inl (u 3))), (c1, .inl (E.2.1 0, 8, .inl (u 4))), (c2, .inl (E.2.1 0, 8, .inl (u 5))), (a, .inl (E.2.1 0, 8, .inl f)), (b, .inl (E.2.1 0, 8, .inl x)), (t, .inl (E.2.1 0, 8, .inl (u 6)))]) := by
  refine Kv.ofW (cc := prog_3_method_5_code) (maxL := 4) (by decide) (Nat.le_of_ble_eq_true rfl) ?_
  intro p e s m args below meth c A ls Q hx hb hts hown hml hK hG hA hP hD hS hl hret
  have hl : lv_has ls 4 [(0, .ref ca), (1, .ref a), (2, .ref b), (3, .ref t)] := hl
  refine lv_aload_n hx hb d_Ca_findRest_0 rfl (lv_at hl 0 rfl) ?_
  refine va_get (D := E.1) (ci := 4) (v := .ref d) (C := "WideStack$Calculator") (T := T_Ca) (N := 4) hx hb hts in_Ca hown hK hP 0 rfl rfl 0 (by decide) (hts _ t_173) (fun _ h9 => h9) rfl d_Ca_findRest_1 ?_
  refine lv_aload_n hx hb d_Ca_findRest_4 rfl (lv_at hl 1 rfl) ?_
  refine k_Vv (As := [.ref a]) (rest := []) ⟨hx, hb, hml, hown, hts⟩ (c_D_setDividend l E d dd dq dr a fD f) (k_cwV 1 hts t_531 t_532 t_533 t_68 t_534 (by decide +kernel) ⟨Nat.le_of_ble_eq_true rfl, Nat.le_of_ble_eq_true rfl⟩) hK hG hA hP hD hS [1, 2, 8] rfl (by decide) 1 rfl rfl (fun _ => rfl) rfl hl.1 rfl (Nat.le_of_ble_eq_true rfl) d_Ca_findRest_5 ⟨Nat.zero_le _, Nat.zero_le _⟩ (fun uD H locs huD hP hD hS => ?_)
  have hP : va_P E.1 vwCl [(ca, .inr (4, [.ref d, .ref cp, .ref c1, .ref c2])), (d, .inr (3, [.ref dd, .ref dq, .ref dr])), (dd, .inl (E.2.1 0, 16, .inl uD)), (dq, .inl (E.2.1 0, 16, .inl fq)), (dr, .inl (E.2.1 0, 8, .inl fr)), (cp, .inl (E.2.1 0, 16, .inl fp)), (c1, .inl (E.2.1 0, 8, .inl f1)), (c2, .inl (E.2.1 0, 8, .inl f2)), (a, .inl (E.2.1 0, 8, .inl f)), (b, .inl (E.2.1 0, 8, .inl x)), (t, .inl (E.2.1 0, 8, .inl z))] H := hP
  have hD : va_D A [(ca, .inr (4, [.ref d, .ref cp, .ref c1, .ref c2])), (d, .inr (3, [.ref dd, .ref dq, .ref dr])), (dd, .inl (E.2.1 0, 16, .inl uD)), (dq, .inl (E.2.1 0, 16, .inl fq)), (dr, .inl (E.2.1 0, 8, .inl fr)), (cp, .inl (E.2.1 0, 16, .inl fp)), (c1, .inl (E.2.1 0, 8, .inl f1)), (c2, .inl (E.2.1 0, 8, .inl f2)), (a, .inl (E.2.1 0, 8, .inl f)), (b, .inl (E.2.1 0, 8, .inl x)), (t, .inl (E.2.1 0, 8, .inl z))] := hD
  refine lv_aload_n hx hb d_Ca_findRest_8 rfl (lv_at hl 0 rfl) ?_
  refine va_get (D := E.1) (ci := 4) (v := .ref d) (C := "WideStack$Calculator") (T := T_Ca) (N := 4) hx hb hts in_Ca hown hK hP 0 rfl rfl 0 (by decide) (hts _ t_173) (fun _ h9 => h9) rfl d_Ca_findRest_9 ?_
  refine lv_aload_n hx hb d_Ca_findRest_12 rfl (lv_at hl 2 rfl) ?_
  refine k_Vv (As := [.ref b]) (rest := []) ⟨hx, hb, hml, hown, hts⟩ (c_D_divideBy l E d dd dq dr uD fq fr b x) (k_cwV 1 hts t_537 t_538 t_539 t_68 t_540 (by decide +kernel) ⟨Nat.le_of_ble_eq_true rfl, Nat.le_of_ble_eq_true rfl⟩) hK hG hA hP hD hS [1, 2, 3, 4, 9] rfl (by decide) 1 rfl rfl (fun _ => rfl) rfl hl.1 rfl (Nat.le_of_ble_eq_true rfl) d_Ca_findRest_13 ⟨Nat.zero_le _, Nat.zero_le _⟩ (fun ud H locs hud hP hD hS => ?_)
  have hP : va_P E.1 vwCl [(ca, .inr (4, [.ref d, .ref cp, .ref c1, .ref c2])), (d, .inr (3, [.ref dd, .ref dq, .ref dr])), (dd, .inl (E.2.1 0, 16, .inl uD)), (dq, .inl (E.2.1 0, 16, .inl ud.1)), (dr, .inl (E.2.1 0, 8, .inl ud.2)), (cp, .inl (E.2.1 0, 16, .inl fp)), (c1, .inl (E.2.1 0, 8, .inl f1)), (c2, .inl (E.2.1 0, 8, .inl f2)), (a, .inl (E.2.1 0, 8, .inl f)), (b, .inl (E.2.1 0, 8, .inl x)), (t, .inl (E.2.1 0, 8, .inl z))] H := hP
  have hD : va_D A [(ca, .inr (4, [.ref d, .ref cp, .ref c1, .ref c2])), (d, .inr (3, [.ref dd, .ref dq, .ref dr])), (dd, .inl (E.2.1 0, 16, .inl uD)), (dq, .inl (E.2.1 0, 16, .inl ud.1)), (dr, .inl (E.2.1 0, 8, .inl ud.2)), (cp, .inl (E.2.1 0, 16, .inl fp)), (c1, .inl (E.2.1 0, 8, .inl f1)), (c2, .inl (E.2.1 0, 8, .inl f2)), (a, .inl (E.2.1 0, 8, .inl f)), (b, .inl (E.2.1 0, 8, .inl x)), (t, .inl (E.2.1 0, 8, .inl z))] := hD
  refine lv_aload_n hx hb d_Ca_findRest_16 rfl (lv_at hl 0 rfl) ?_
  refine va_get (D := E.1) (ci := 4) (v := .ref d) (C := "WideStack$Calculator") (T := T_Ca) (N := 4) hx hb hts in_Ca hown hK hP 0 rfl rfl 0 (by decide) (hts _ t_173) (fun _ h9 => h9) rfl d_Ca_findRest_17 ?_
  refine va_get (D := E.1) (ci := 3) (v := .ref dr) (C := "WideStack$Divider") (T := T_Di) (N := 3) hx hb hts in_Di hown hK hP 1 rfl rfl 2 (by decide) (hts _ t_165) (fun _ h9 => h9) rfl d_Ca_findRest_20 ?_
  refine lv_aload_n hx hb d_Ca_findRest_23 rfl (lv_at hl 3 rfl) ?_
  refine k_Sv (As := [.ref dr, .ref t]) (rest := []) ⟨hx, hb, hml, hown, hts⟩ (c_W_copy l E dr t 8 8 ud.2 z (by decide) (by decide)) (k_cwS 2 hts t_523 t_314 t_73 t_315 (by decide +kernel) ⟨Nat.le_of_ble_eq_true rfl, Nat.le_of_ble_eq_true rfl⟩) hK hG hA hP hD hS [4, 10] rfl (by decide) (fun _ => rfl) rfl hl.1 rfl (Nat.le_of_ble_eq_true rfl) d_Ca_findRest_24 ⟨Nat.zero_le _, Nat.zero_le _⟩ (fun v H locs hv hP hD hS => ?_)
  have hP : va_P E.1 vwCl [(ca, .inr (4, [.ref d, .ref cp, .ref c1, .ref c2])), (d, .inr (3, [.ref dd, .ref dq, .ref dr])), (dd, .inl (E.2.1 0, 16, .inl uD)), (dq, .inl (E.2.1 0, 16, .inl ud.1)), (dr, .inl (E.2.1 0, 8, .inl ud.2)), (cp, .inl (E.2.1 0, 16, .inl fp)), (c1, .inl (E.2.1 0, 8, .inl f1)), (c2, .inl (E.2.1 0, 8, .inl f2)), (a, .inl (E.2.1 0, 8, .inl f)), (b, .inl (E.2.1 0, 8, .inl x)), (t, .inl (E.2.1 0, 8, .inl v))] H := hP
  have hD : va_D A [(ca, .inr (4, [.ref d, .ref cp, .ref c1, .ref c2])), (d, .inr (3, [.ref dd, .ref dq, .ref dr])), (dd, .inl (E.2.1 0, 16, .inl uD)), (dq, .inl (E.2.1 0, 16, .inl ud.1)), (dr, .inl (E.2.1 0, 8, .inl ud.2)), (cp, .inl (E.2.1 0, 16, .inl fp)), (c1, .inl (E.2.1 0, 8, .inl f1)), (c2, .inl (E.2.1 0, 8, .inl f2)), (a, .inl (E.2.1 0, 8, .inl f)), (b, .inl (E.2.1 0, 8, .inl x)), (t, .inl (E.2.1 0, 8, .inl v))] := hD
  exact hret _ ls _ _ (t7 uD ud.1 ud.2 fp f1 f2 v) d_Ca_findRest_27 ((cp8 hv).trans (by rw [hud.2, huD])) hP hS

theorem ds_fin {f x g1 g2 uD q r : Nat → Int32} (hg1 : wv g1 8 = if m_isneg (wv f 8) then m_neg (wv f 8) else wv f 8) (hg2 : wv g2 8 = if m_isneg (wv x 8) then m_neg (wv x 8) else wv x 8) (huD : wv uD 16 = wv g1 8) (hud : wv q 16 = wv uD 16 / wv g2 8 ∧ wv r 8 = m_rem (wv uD 16) (wv g2 8)) : wv q 8 = m_abs (wv f 8) / m_abs (wv x 8) ∧ wv r 8 = m_rem (m_abs (wv f 8)) (m_abs (wv x 8)) := by
  rw [m_abs_of] at hg1 hg2
  refine ⟨(wv_mod8 q).trans ?_, ?_⟩
  · rw [hud.1, huD, hg1, hg2, q_lt (m_abs_lt _ (wv_lt8 f))]
  · rw [hud.2, huD, hg1, hg2]

abbrev y_Ca_divideSizes : MethodName := ⟨"WideStack$Calculator", "divideSizes", "([I[I)V"⟩
theorem d_Ca_divideSizes_0 : decode prog_3_method_6_code 0 = .ok (.aload_n 1, 1) := by decide +kernel
theorem d_Ca_divideSizes_1 : decode prog_3_method_6_code 1 = .ok (.aload_n 1, 1) := by decide +kernel
theorem d_Ca_divideSizes_2 : decode prog_3_method_6_code 2 = .ok (.invokestatic 49, 3) := by decide +kernel
theorem d_Ca_divideSizes_5 : decode prog_3_method_6_code 5 = .ok (.aload_n 0, 1) := by decide +kernel
theorem d_Ca_divideSizes_6 : decode prog_3_method_6_code 6 = .ok (.getfield 22, 3) := by decide +kernel
theorem d_Ca_divideSizes_9 : decode prog_3_method_6_code 9 = .ok (.invokestatic 53, 3) := by decide +kernel
theorem d_Ca_divideSizes_12 : decode prog_3_method_6_code 12 = .ok (.aload_n 2, 1) := by decide +kernel
theorem d_Ca_divideSizes_13 : decode prog_3_method_6_code 13 = .ok (.aload_n 2, 1) := by decide +kernel
theorem d_Ca_divideSizes_14 : decode prog_3_method_6_code 14 = .ok (.invokestatic 49, 3) := by decide +kernel
theorem d_Ca_divideSizes_17 : decode prog_3_method_6_code 17 = .ok (.aload_n 0, 1) := by decide +kernel
theorem d_Ca_divideSizes_18 : decode prog_3_method_6_code 18 = .ok (.getfield 25, 3) := by decide +kernel
theorem d_Ca_divideSizes_21 : decode prog_3_method_6_code 21 = .ok (.invokestatic 53, 3) := by decide +kernel
theorem d_Ca_divideSizes_24 : decode prog_3_method_6_code 24 = .ok (.aload_n 0, 1) := by decide +kernel
theorem d_Ca_divideSizes_25 : decode prog_3_method_6_code 25 = .ok (.getfield 10, 3) := by decide +kernel
theorem d_Ca_divideSizes_28 : decode prog_3_method_6_code 28 = .ok (.aload_n 0, 1) := by decide +kernel
theorem d_Ca_divideSizes_29 : decode prog_3_method_6_code 29 = .ok (.getfield 22, 3) := by decide +kernel
theorem d_Ca_divideSizes_32 : decode prog_3_method_6_code 32 = .ok (.invokevirtual 133, 3) := by decide +kernel
theorem d_Ca_divideSizes_35 : decode prog_3_method_6_code 35 = .ok (.aload_n 0, 1) := by decide +kernel
theorem d_Ca_divideSizes_36 : decode prog_3_method_6_code 36 = .ok (.getfield 10, 3) := by decide +kernel
theorem d_Ca_divideSizes_39 : decode prog_3_method_6_code 39 = .ok (.aload_n 0, 1) := by decide +kernel
theorem d_Ca_divideSizes_40 : decode prog_3_method_6_code 40 = .ok (.getfield 25, 3) := by decide +kernel
theorem d_Ca_divideSizes_43 : decode prog_3_method_6_code 43 = .ok (.invokevirtual 136, 3) := by decide +kernel
theorem d_Ca_divideSizes_46 : decode prog_3_method_6_code 46 = .ok (.return_, 1) := by decide +kernel
def rm_c_C_divideSizes : Room := { frames := 3, cells := 0, slots := 0, locals := 83 }
set_option maxHeartbeats 4000000 in
set_option maxRecDepth 100000 in
theorem c_C_divideSizes (l : Launch) (E : kE) (ca d dd dq dr cp c1 c2 : Nat) (fD fq fr fp f1 f2 : Nat → Int32) (a b : Nat) (f x : Nat → Int32) : Kv l y_Ca_divideSizes (kW y_Ca_divideSizes prog_3_method_6_code 3 (none)) rm_c_C_divideSizes E [.ref ca, .ref a, .ref b] [(ca, .inr (4, [.ref d, .ref cp, .ref c1, .ref c2])), (d, .inr (3, [.ref dd, .ref dq, .ref dr])), (dd, .inl (E.2.1 0, 16, .inl fD)), (dq, .inl (E.2.1 0, 16, .inl fq)), (dr, .inl (E.2.1 0, 8, .inl fr)), (cp, .inl (E.2.1 0, 16, .inl fp)), (c1, .inl (E.2.1 0, 8, .inl f1)), (c2, .inl (E.2.1 0, 8, .inl f2)), (a, .inl (E.2.1 0, 8, .inl f)), (b, .inl (E.2.1 0, 8, .inl x))] (S := Nat → Nat → Int32) (fun u => wv (u 1) 8 = m_abs (wv f 8) / m_abs (wv x 8) ∧ wv (u 2) 8 = m_rem (m_abs (wv f 8)) (m_abs (wv x 8))) (fun u => [(ca, .inr (4, [.ref d, .ref cp, .ref c1, .ref c2])), (d, .inr (3, [.ref dd, .ref dq, .ref dr])), (dd, .inl (E.2.1 0, 16, .inl (u 0))), (dq, .inl (E.2.1 0, 16, .inl (u 1))), (dr, .inl (E.2.1 0, 8, .inl (u 2))), (cp, .inl (E.2.1 0, 16, .inl (u 3))), (c1, .inl (E.2.1 0, 8, .inl (u 4))), (c2, .inl (E.2.1 0, 8, .inl (u 5))), (a, .inl (E.2.1 0, 8, .inl f)), (b, .inl (E.2.1 0, 8, .inl x))]) := by
  refine Kv.ofW (cc := prog_3_method_6_code) (maxL := 3) (by decide) (Nat.le_of_ble_eq_true rfl) ?_
  intro p e s m args below meth c A ls Q hx hb hts hown hml hK hG hA hP hD hS hl hret
  have hl : lv_has ls 3 [(0, .ref ca), (1, .ref a), (2, .ref b)] := hl
  refine lv_aload_n hx hb d_Ca_divideSizes_0 rfl (lv_at hl 1 rfl) ?_
  refine lv_aload_n hx hb d_Ca_divideSizes_1 rfl (lv_at hl 1 rfl) ?_
  refine k_Sp (As := [.ref a]) (rest := [.ref a]) ⟨hx, hb, hml, hown, hts⟩ (c_W_isNegative l E a 8 f (by decide) (by decide)) (k_cwS 1 hts t_561 t_547 t_73 t_548 (by decide +kernel) ⟨Nat.le_of_ble_eq_true rfl, Nat.le_of_ble_eq_true rfl⟩) hK hG hA hP hD hS [8] rfl (by decide) rfl hl.1 rfl (Nat.le_of_ble_eq_true rfl) d_Ca_divideSizes_2 ⟨Nat.zero_le _, Nat.zero_le _⟩ (fun r2 hu2 => ?_)
  subst hu2
  refine lv_aload_n hx hb d_Ca_divideSizes_5 rfl (lv_at hl 0 rfl) ?_
  refine va_get (D := E.1) (ci := 4) (v := .ref c1) (C := "WideStack$Calculator") (T := T_Ca) (N := 4) hx hb hts in_Ca hown hK hP 0 rfl rfl 2 (by decide) (hts _ t_175) (fun _ h9 => h9) rfl d_Ca_divideSizes_6 ?_
  refine k_Sv (As := [.ref a, .int (kb (m_isneg (wv f 8))), .ref c1]) (rest := []) ⟨hx, hb, hml, hown, hts⟩ (c_W_copyOrNegate l E a c1 8 f f1 (m_isneg (wv f 8)) (by decide) (by decide)) (k_cwS 3 hts t_562 t_563 t_73 t_564 (by decide +kernel) ⟨Nat.le_of_ble_eq_true rfl, Nat.le_of_ble_eq_true rfl⟩) hK hG hA hP hD hS [8, 6] rfl (by decide) (fun _ => rfl) rfl hl.1 rfl (Nat.le_of_ble_eq_true rfl) d_Ca_divideSizes_9 ⟨Nat.zero_le _, Nat.zero_le _⟩ (fun g1 H locs hg1 hP hD hS => ?_)
  have hP : va_P E.1 vwCl [(ca, .inr (4, [.ref d, .ref cp, .ref c1, .ref c2])), (d, .inr (3, [.ref dd, .ref dq, .ref dr])), (dd, .inl (E.2.1 0, 16, .inl fD)), (dq, .inl (E.2.1 0, 16, .inl fq)), (dr, .inl (E.2.1 0, 8, .inl fr)), (cp, .inl (E.2.1 0, 16, .inl fp)), (c1, .inl (E.2.1 0, 8, .inl g1)), (c2, .inl (E.2.1 0, 8, .inl f2)), (a, .inl (E.2.1 0, 8, .inl f)), (b, .inl (E.2.1 0, 8, .inl x))] H := hP
  have hD : va_D A [(ca, .inr (4, [.ref d, .ref cp, .ref c1, .ref c2])), (d, .inr (3, [.ref dd, .ref dq, .ref dr])), (dd, .inl (E.2.1 0, 16, .inl fD)), (dq, .inl (E.2.1 0, 16, .inl fq)), (dr, .inl (E.2.1 0, 8, .inl fr)), (cp, .inl (E.2.1 0, 16, .inl fp)), (c1, .inl (E.2.1 0, 8, .inl g1)), (c2, .inl (E.2.1 0, 8, .inl f2)), (a, .inl (E.2.1 0, 8, .inl f)), (b, .inl (E.2.1 0, 8, .inl x))] := hD
  refine lv_aload_n hx hb d_Ca_divideSizes_12 rfl (lv_at hl 2 rfl) ?_
  refine lv_aload_n hx hb d_Ca_divideSizes_13 rfl (lv_at hl 2 rfl) ?_
  refine k_Sp (As := [.ref b]) (rest := [.ref b]) ⟨hx, hb, hml, hown, hts⟩ (c_W_isNegative l E b 8 x (by decide) (by decide)) (k_cwS 1 hts t_561 t_547 t_73 t_548 (by decide +kernel) ⟨Nat.le_of_ble_eq_true rfl, Nat.le_of_ble_eq_true rfl⟩) hK hG hA hP hD hS [9] rfl (by decide) rfl hl.1 rfl (Nat.le_of_ble_eq_true rfl) d_Ca_divideSizes_14 ⟨Nat.zero_le _, Nat.zero_le _⟩ (fun r14 hu14 => ?_)
  subst hu14
  refine lv_aload_n hx hb d_Ca_divideSizes_17 rfl (lv_at hl 0 rfl) ?_
  refine va_get (D := E.1) (ci := 4) (v := .ref c2) (C := "WideStack$Calculator") (T := T_Ca) (N := 4) hx hb hts in_Ca hown hK hP 0 rfl rfl 3 (by decide) (hts _ t_176) (fun _ h9 => h9) rfl d_Ca_divideSizes_18 ?_
  refine k_Sv (As := [.ref b, .int (kb (m_isneg (wv x 8))), .ref c2]) (rest := []) ⟨hx, hb, hml, hown, hts⟩ (c_W_copyOrNegate l E b c2 8 x f2 (m_isneg (wv x 8)) (by decide) (by decide)) (k_cwS 3 hts t_562 t_563 t_73 t_564 (by decide +kernel) ⟨Nat.le_of_ble_eq_true rfl, Nat.le_of_ble_eq_true rfl⟩) hK hG hA hP hD hS [9, 7] rfl (by decide) (fun _ => rfl) rfl hl.1 rfl (Nat.le_of_ble_eq_true rfl) d_Ca_divideSizes_21 ⟨Nat.zero_le _, Nat.zero_le _⟩ (fun g2 H locs hg2 hP hD hS => ?_)
  have hP : va_P E.1 vwCl [(ca, .inr (4, [.ref d, .ref cp, .ref c1, .ref c2])), (d, .inr (3, [.ref dd, .ref dq, .ref dr])), (dd, .inl (E.2.1 0, 16, .inl fD)), (dq, .inl (E.2.1 0, 16, .inl fq)), (dr, .inl (E.2.1 0, 8, .inl fr)), (cp, .inl (E.2.1 0, 16, .inl fp)), (c1, .inl (E.2.1 0, 8, .inl g1)), (c2, .inl (E.2.1 0, 8, .inl g2)), (a, .inl (E.2.1 0, 8, .inl f)), (b, .inl (E.2.1 0, 8, .inl x))] H := hP
  have hD : va_D A [(ca, .inr (4, [.ref d, .ref cp, .ref c1, .ref c2])), (d, .inr (3, [.ref dd, .ref dq, .ref dr])), (dd, .inl (E.2.1 0, 16, .inl fD)), (dq, .inl (E.2.1 0, 16, .inl fq)), (dr, .inl (E.2.1 0, 8, .inl fr)), (cp, .inl (E.2.1 0, 16, .inl fp)), (c1, .inl (E.2.1 0, 8, .inl g1)), (c2, .inl (E.2.1 0, 8, .inl g2)), (a, .inl (E.2.1 0, 8, .inl f)), (b, .inl (E.2.1 0, 8, .inl x))] := hD
  refine lv_aload_n hx hb d_Ca_divideSizes_24 rfl (lv_at hl 0 rfl) ?_
  refine va_get (D := E.1) (ci := 4) (v := .ref d) (C := "WideStack$Calculator") (T := T_Ca) (N := 4) hx hb hts in_Ca hown hK hP 0 rfl rfl 0 (by decide) (hts _ t_173) (fun _ h9 => h9) rfl d_Ca_divideSizes_25 ?_
  refine lv_aload_n hx hb d_Ca_divideSizes_28 rfl (lv_at hl 0 rfl) ?_
  refine va_get (D := E.1) (ci := 4) (v := .ref c1) (C := "WideStack$Calculator") (T := T_Ca) (N := 4) hx hb hts in_Ca hown hK hP 0 rfl rfl 2 (by decide) (hts _ t_175) (fun _ h9 => h9) rfl d_Ca_divideSizes_29 ?_
  refine k_Vv (As := [.ref c1]) (rest := []) ⟨hx, hb, hml, hown, hts⟩ (c_D_setDividend l E d dd dq dr c1 fD g1) (k_cwV 1 hts t_531 t_532 t_533 t_68 t_534 (by decide +kernel) ⟨Nat.le_of_ble_eq_true rfl, Nat.le_of_ble_eq_true rfl⟩) hK hG hA hP hD hS [1, 2, 6] rfl (by decide) 1 rfl rfl (fun _ => rfl) rfl hl.1 rfl (Nat.le_of_ble_eq_true rfl) d_Ca_divideSizes_32 ⟨Nat.zero_le _, Nat.zero_le _⟩ (fun uD H locs huD hP hD hS => ?_)
  have hP : va_P E.1 vwCl [(ca, .inr (4, [.ref d, .ref cp, .ref c1, .ref c2])), (d, .inr (3, [.ref dd, .ref dq, .ref dr])), (dd, .inl (E.2.1 0, 16, .inl uD)), (dq, .inl (E.2.1 0, 16, .inl fq)), (dr, .inl (E.2.1 0, 8, .inl fr)), (cp, .inl (E.2.1 0, 16, .inl fp)), (c1, .inl (E.2.1 0, 8, .inl g1)), (c2, .inl (E.2.1 0, 8, .inl g2)), (a, .inl (E.2.1 0, 8, .inl f)), (b, .inl (E.2.1 0, 8, .inl x))] H := hP
  have hD : va_D A [(ca, .inr (4, [.ref d, .ref cp, .ref c1, .ref c2])), (d, .inr (3, [.ref dd, .ref dq, .ref dr])), (dd, .inl (E.2.1 0, 16, .inl uD)), (dq, .inl (E.2.1 0, 16, .inl fq)), (dr, .inl (E.2.1 0, 8, .inl fr)), (cp, .inl (E.2.1 0, 16, .inl fp)), (c1, .inl (E.2.1 0, 8, .inl g1)), (c2, .inl (E.2.1 0, 8, .inl g2)), (a, .inl (E.2.1 0, 8, .inl f)), (b, .inl (E.2.1 0, 8, .inl x))] := hD
  refine lv_aload_n hx hb d_Ca_divideSizes_35 rfl (lv_at hl 0 rfl) ?_
  refine va_get (D := E.1) (ci := 4) (v := .ref d) (C := "WideStack$Calculator") (T := T_Ca) (N := 4) hx hb hts in_Ca hown hK hP 0 rfl rfl 0 (by decide) (hts _ t_173) (fun _ h9 => h9) rfl d_Ca_divideSizes_36 ?_
  refine lv_aload_n hx hb d_Ca_divideSizes_39 rfl (lv_at hl 0 rfl) ?_
  refine va_get (D := E.1) (ci := 4) (v := .ref c2) (C := "WideStack$Calculator") (T := T_Ca) (N := 4) hx hb hts in_Ca hown hK hP 0 rfl rfl 3 (by decide) (hts _ t_176) (fun _ h9 => h9) rfl d_Ca_divideSizes_40 ?_
  refine k_Vv (As := [.ref c2]) (rest := []) ⟨hx, hb, hml, hown, hts⟩ (c_D_divideBy l E d dd dq dr uD fq fr c2 g2) (k_cwV 1 hts t_537 t_538 t_539 t_68 t_540 (by decide +kernel) ⟨Nat.le_of_ble_eq_true rfl, Nat.le_of_ble_eq_true rfl⟩) hK hG hA hP hD hS [1, 2, 3, 4, 7] rfl (by decide) 1 rfl rfl (fun _ => rfl) rfl hl.1 rfl (Nat.le_of_ble_eq_true rfl) d_Ca_divideSizes_43 ⟨Nat.zero_le _, Nat.zero_le _⟩ (fun ud H locs hud hP hD hS => ?_)
  have hP : va_P E.1 vwCl [(ca, .inr (4, [.ref d, .ref cp, .ref c1, .ref c2])), (d, .inr (3, [.ref dd, .ref dq, .ref dr])), (dd, .inl (E.2.1 0, 16, .inl uD)), (dq, .inl (E.2.1 0, 16, .inl ud.1)), (dr, .inl (E.2.1 0, 8, .inl ud.2)), (cp, .inl (E.2.1 0, 16, .inl fp)), (c1, .inl (E.2.1 0, 8, .inl g1)), (c2, .inl (E.2.1 0, 8, .inl g2)), (a, .inl (E.2.1 0, 8, .inl f)), (b, .inl (E.2.1 0, 8, .inl x))] H := hP
  have hD : va_D A [(ca, .inr (4, [.ref d, .ref cp, .ref c1, .ref c2])), (d, .inr (3, [.ref dd, .ref dq, .ref dr])), (dd, .inl (E.2.1 0, 16, .inl uD)), (dq, .inl (E.2.1 0, 16, .inl ud.1)), (dr, .inl (E.2.1 0, 8, .inl ud.2)), (cp, .inl (E.2.1 0, 16, .inl fp)), (c1, .inl (E.2.1 0, 8, .inl g1)), (c2, .inl (E.2.1 0, 8, .inl g2)), (a, .inl (E.2.1 0, 8, .inl f)), (b, .inl (E.2.1 0, 8, .inl x))] := hD
  exact hret _ ls _ _ (t7 uD ud.1 ud.2 fp g1 g2 (fun _ => 0)) d_Ca_divideSizes_46 (ds_fin hg1 hg2 huD hud) hP hS

abbrev y_Ca_findRestOfSum : MethodName := ⟨"WideStack$Calculator", "findRestOfSum", "([I[I[I[I)V"⟩
theorem d_Ca_findRestOfSum_0 : decode prog_3_method_7_code 0 = .ok (.aload_n 0, 1) := by decide +kernel
theorem d_Ca_findRestOfSum_1 : decode prog_3_method_7_code 1 = .ok (.getfield 10, 3) := by decide +kernel
theorem d_Ca_findRestOfSum_4 : decode prog_3_method_7_code 4 = .ok (.aload_n 1, 1) := by decide +kernel
theorem d_Ca_findRestOfSum_5 : decode prog_3_method_7_code 5 = .ok (.aload_n 2, 1) := by decide +kernel
theorem d_Ca_findRestOfSum_6 : decode prog_3_method_7_code 6 = .ok (.invokevirtual 139, 3) := by decide +kernel
theorem d_Ca_findRestOfSum_9 : decode prog_3_method_7_code 9 = .ok (.aload_n 0, 1) := by decide +kernel
theorem d_Ca_findRestOfSum_10 : decode prog_3_method_7_code 10 = .ok (.getfield 10, 3) := by decide +kernel
theorem d_Ca_findRestOfSum_13 : decode prog_3_method_7_code 13 = .ok (.aload_n 3, 1) := by decide +kernel
theorem d_Ca_findRestOfSum_14 : decode prog_3_method_7_code 14 = .ok (.invokevirtual 136, 3) := by decide +kernel
theorem d_Ca_findRestOfSum_17 : decode prog_3_method_7_code 17 = .ok (.aload_n 0, 1) := by decide +kernel
theorem d_Ca_findRestOfSum_18 : decode prog_3_method_7_code 18 = .ok (.getfield 10, 3) := by decide +kernel
theorem d_Ca_findRestOfSum_21 : decode prog_3_method_7_code 21 = .ok (.getfield 60, 3) := by decide +kernel
theorem d_Ca_findRestOfSum_24 : decode prog_3_method_7_code 24 = .ok (.aload 4, 2) := by decide +kernel
theorem d_Ca_findRestOfSum_26 : decode prog_3_method_7_code 26 = .ok (.invokestatic 130, 3) := by decide +kernel
theorem d_Ca_findRestOfSum_29 : decode prog_3_method_7_code 29 = .ok (.return_, 1) := by decide +kernel
def rm_c_C_restSum : Room := { frames := 2, cells := 0, slots := 0, locals := 61 }
set_option maxHeartbeats 4000000 in
set_option maxRecDepth 100000 in
theorem c_C_restSum (l : Launch) (E : kE) (ca d dd dq dr cp c1 c2 : Nat) (fD fq fr fp f1 f2 : Nat → Int32) (a b v t : Nat) (f x y z : Nat → Int32) : Kv l y_Ca_findRestOfSum (kW y_Ca_findRestOfSum prog_3_method_7_code 5 (none)) rm_c_C_restSum E [.ref ca, .ref a, .ref b, .ref v, .ref t] [(ca, .inr (4, [.ref d, .ref cp, .ref c1, .ref c2])), (d, .inr (3, [.ref dd, .ref dq, .ref dr])), (dd, .inl (E.2.1 0, 16, .inl fD)), (dq, .inl (E.2.1 0, 16, .inl fq)), (dr, .inl (E.2.1 0, 8, .inl fr)), (cp, .inl (E.2.1 0, 16, .inl fp)), (c1, .inl (E.2.1 0, 8, .inl f1)), (c2, .inl (E.2.1 0, 8, .inl f2)), (a, .inl (E.2.1 0, 8, .inl f)), (b, .inl (E.2.1 0, 8, .inl x)), (v, .inl (E.2.1 0, 8, .inl y)), (t, .inl (E.2.1 0, 8, .inl z))] (S := Nat → Nat → Int32) (fun u => wv (u 6) 8 = m_rem (wv f 8 + wv x 8) (wv y 8)) (fun u => [(ca, .inr (4, [.ref d, .ref cp, .ref c1, .ref c2])), (d, .inr (3, [.ref dd, .ref dq, .ref dr])), (dd, .inl (E.2.1 0, 16, .inl (u 0))), (dq, .inl (E.2.1 0, 16, .inl (u 1))), (dr, .inl (E.2.1 0, 8, .inl (u 2))), (cp, .inl (E.2.1 0, 16, .inl (u 3))), (c1, .inl (E.2.1 0, 8, .inl (u 4))), (c2, .inl (E.2.1 0, 8, .inl (u 5))), (a, .inl (E.2.1 0, 8, .inl f)), (b, .inl (E.2.1 0, 8, .inl x)), (v, .inl (E.2.1 0, 8, .inl y)), (t, .inl (E.2.1 0, 8, .inl (u 6)))]) := by
  refine Kv.ofW (cc := prog_3_method_7_code) (maxL := 5) (by decide) (Nat.le_of_ble_eq_true rfl) ?_
  intro p e s m args below meth c A ls Q hx hb hts hown hml hK hG hA hP hD hS hl hret
  have hl : lv_has ls 5 [(0, .ref ca), (1, .ref a), (2, .ref b), (3, .ref v), (4, .ref t)] := hl
  refine lv_aload_n hx hb d_Ca_findRestOfSum_0 rfl (lv_at hl 0 rfl) ?_
  refine va_get (D := E.1) (ci := 4) (v := .ref d) (C := "WideStack$Calculator") (T := T_Ca) (N := 4) hx hb hts in_Ca hown hK hP 0 rfl rfl 0 (by decide) (hts _ t_173) (fun _ h9 => h9) rfl d_Ca_findRestOfSum_1 ?_
  refine lv_aload_n hx hb d_Ca_findRestOfSum_4 rfl (lv_at hl 1 rfl) ?_
  refine lv_aload_n hx hb d_Ca_findRestOfSum_5 rfl (lv_at hl 2 rfl) ?_
  refine k_Vv (As := [.ref a, .ref b]) (rest := []) ⟨hx, hb, hml, hown, hts⟩ (c_D_setDividendToSum l E d dd dq dr a b fD f x) (k_cwV 2 hts t_577 t_578 t_579 t_68 t_580 (by decide +kernel) ⟨Nat.le_of_ble_eq_true rfl, Nat.le_of_ble_eq_true rfl⟩) hK hG hA hP hD hS [1, 2, 8, 9] rfl (by decide) 1 rfl rfl (fun _ => rfl) rfl hl.1 rfl (Nat.le_of_ble_eq_true rfl) d_Ca_findRestOfSum_6 ⟨Nat.zero_le _, Nat.zero_le _⟩ (fun uD H locs huD hP hD hS => ?_)
  have hP : va_P E.1 vwCl [(ca, .inr (4, [.ref d, .ref cp, .ref c1, .ref c2])), (d, .inr (3, [.ref dd, .ref dq, .ref dr])), (dd, .inl (E.2.1 0, 16, .inl uD)), (dq, .inl (E.2.1 0, 16, .inl fq)), (dr, .inl (E.2.1 0, 8, .inl fr)), (cp, .inl (E.2.1 0, 16, .inl fp)), (c1, .inl (E.2.1 0, 8, .inl f1)), (c2, .inl (E.2.1 0, 8, .inl f2)), (a, .inl (E.2.1 0, 8, .inl f)), (b, .inl (E.2.1 0, 8, .inl x)), (v, .inl (E.2.1 0, 8, .inl y)), (t, .inl (E.2.1 0, 8, .inl z))] H := hP
  have hD : va_D A [(ca, .inr (4, [.ref d, .ref cp, .ref c1, .ref c2])), (d, .inr (3, [.ref dd, .ref dq, .ref dr])), (dd, .inl (E.2.1 0, 16, .inl uD)), (dq, .inl (E.2.1 0, 16, .inl fq)), (dr, .inl (E.2.1 0, 8, .inl fr)), (cp, .inl (E.2.1 0, 16, .inl fp)), (c1, .inl (E.2.1 0, 8, .inl f1)), (c2, .inl (E.2.1 0, 8, .inl f2)), (a, .inl (E.2.1 0, 8, .inl f)), (b, .inl (E.2.1 0, 8, .inl x)), (v, .inl (E.2.1 0, 8, .inl y)), (t, .inl (E.2.1 0, 8, .inl z))] := hD
  refine lv_aload_n hx hb d_Ca_findRestOfSum_9 rfl (lv_at hl 0 rfl) ?_
  refine va_get (D := E.1) (ci := 4) (v := .ref d) (C := "WideStack$Calculator") (T := T_Ca) (N := 4) hx hb hts in_Ca hown hK hP 0 rfl rfl 0 (by decide) (hts _ t_173) (fun _ h9 => h9) rfl d_Ca_findRestOfSum_10 ?_
  refine lv_aload_n hx hb d_Ca_findRestOfSum_13 rfl (lv_at hl 3 rfl) ?_
  refine k_Vv (As := [.ref v]) (rest := []) ⟨hx, hb, hml, hown, hts⟩ (c_D_divideBy l E d dd dq dr uD fq fr v y) (k_cwV 1 hts t_537 t_538 t_539 t_68 t_540 (by decide +kernel) ⟨Nat.le_of_ble_eq_true rfl, Nat.le_of_ble_eq_true rfl⟩) hK hG hA hP hD hS [1, 2, 3, 4, 10] rfl (by decide) 1 rfl rfl (fun _ => rfl) rfl hl.1 rfl (Nat.le_of_ble_eq_true rfl) d_Ca_findRestOfSum_14 ⟨Nat.zero_le _, Nat.zero_le _⟩ (fun ud H locs hud hP hD hS => ?_)
  have hP : va_P E.1 vwCl [(ca, .inr (4, [.ref d, .ref cp, .ref c1, .ref c2])), (d, .inr (3, [.ref dd, .ref dq, .ref dr])), (dd, .inl (E.2.1 0, 16, .inl uD)), (dq, .inl (E.2.1 0, 16, .inl ud.1)), (dr, .inl (E.2.1 0, 8, .inl ud.2)), (cp, .inl (E.2.1 0, 16, .inl fp)), (c1, .inl (E.2.1 0, 8, .inl f1)), (c2, .inl (E.2.1 0, 8, .inl f2)), (a, .inl (E.2.1 0, 8, .inl f)), (b, .inl (E.2.1 0, 8, .inl x)), (v, .inl (E.2.1 0, 8, .inl y)), (t, .inl (E.2.1 0, 8, .inl z))] H := hP
  have hD : va_D A [(ca, .inr (4, [.ref d, .ref cp, .ref c1, .ref c2])), (d, .inr (3, [.ref dd, .ref dq, .ref dr])), (dd, .inl (E.2.1 0, 16, .inl uD)), (dq, .inl (E.2.1 0, 16, .inl ud.1)), (dr, .inl (E.2.1 0, 8, .inl ud.2)), (cp, .inl (E.2.1 0, 16, .inl fp)), (c1, .inl (E.2.1 0, 8, .inl f1)), (c2, .inl (E.2.1 0, 8, .inl f2)), (a, .inl (E.2.1 0, 8, .inl f)), (b, .inl (E.2.1 0, 8, .inl x)), (v, .inl (E.2.1 0, 8, .inl y)), (t, .inl (E.2.1 0, 8, .inl z))] := hD
  refine lv_aload_n hx hb d_Ca_findRestOfSum_17 rfl (lv_at hl 0 rfl) ?_
  refine va_get (D := E.1) (ci := 4) (v := .ref d) (C := "WideStack$Calculator") (T := T_Ca) (N := 4) hx hb hts in_Ca hown hK hP 0 rfl rfl 0 (by decide) (hts _ t_173) (fun _ h9 => h9) rfl d_Ca_findRestOfSum_18 ?_
  refine va_get (D := E.1) (ci := 3) (v := .ref dr) (C := "WideStack$Divider") (T := T_Di) (N := 3) hx hb hts in_Di hown hK hP 1 rfl rfl 2 (by decide) (hts _ t_165) (fun _ h9 => h9) rfl d_Ca_findRestOfSum_21 ?_
  refine lv_aload hx hb d_Ca_findRestOfSum_24 (lv_at hl 4 rfl) ?_
  refine k_Sv (As := [.ref dr, .ref t]) (rest := []) ⟨hx, hb, hml, hown, hts⟩ (c_W_copy l E dr t 8 8 ud.2 z (by decide) (by decide)) (k_cwS 2 hts t_523 t_314 t_73 t_315 (by decide +kernel) ⟨Nat.le_of_ble_eq_true rfl, Nat.le_of_ble_eq_true rfl⟩) hK hG hA hP hD hS [4, 11] rfl (by decide) (fun _ => rfl) rfl hl.1 rfl (Nat.le_of_ble_eq_true rfl) d_Ca_findRestOfSum_26 ⟨Nat.zero_le _, Nat.zero_le _⟩ (fun w0 H locs hv hP hD hS => ?_)
  have hP : va_P E.1 vwCl [(ca, .inr (4, [.ref d, .ref cp, .ref c1, .ref c2])), (d, .inr (3, [.ref dd, .ref dq, .ref dr])), (dd, .inl (E.2.1 0, 16, .inl uD)), (dq, .inl (E.2.1 0, 16, .inl ud.1)), (dr, .inl (E.2.1 0, 8, .inl ud.2)), (cp, .inl (E.2.1 0, 16, .inl fp)), (c1, .inl (E.2.1 0, 8, .inl f1)), (c2, .inl (E.2.1 0, 8, .inl f2)), (a, .inl (E.2.1 0, 8, .inl f)), (b, .inl (E.2.1 0, 8, .inl x)), (v, .inl (E.2.1 0, 8, .inl y)), (t, .inl (E.2.1 0, 8, .inl w0))] H := hP
  have hD : va_D A [(ca, .inr (4, [.ref d, .ref cp, .ref c1, .ref c2])), (d, .inr (3, [.ref dd, .ref dq, .ref dr])), (dd, .inl (E.2.1 0, 16, .inl uD)), (dq, .inl (E.2.1 0, 16, .inl ud.1)), (dr, .inl (E.2.1 0, 8, .inl ud.2)), (cp, .inl (E.2.1 0, 16, .inl fp)), (c1, .inl (E.2.1 0, 8, .inl f1)), (c2, .inl (E.2.1 0, 8, .inl f2)), (a, .inl (E.2.1 0, 8, .inl f)), (b, .inl (E.2.1 0, 8, .inl x)), (v, .inl (E.2.1 0, 8, .inl y)), (t, .inl (E.2.1 0, 8, .inl w0))] := hD
  exact hret _ ls _ _ (t7 uD ud.1 ud.2 fp f1 f2 w0) d_Ca_findRestOfSum_29 ((cp8 hv).trans (by rw [hud.2, huD])) hP hS

abbrev y_Ca_findRestOfProduct : MethodName := ⟨"WideStack$Calculator", "findRestOfProduct", "([I[I[I[I)V"⟩
theorem d_Ca_findRestOfProduct_0 : decode prog_3_method_8_code 0 = .ok (.aload_n 1, 1) := by decide +kernel
theorem d_Ca_findRestOfProduct_1 : decode prog_3_method_8_code 1 = .ok (.aload_n 2, 1) := by decide +kernel
theorem d_Ca_findRestOfProduct_2 : decode prog_3_method_8_code 2 = .ok (.aload_n 0, 1) := by decide +kernel
theorem d_Ca_findRestOfProduct_3 : decode prog_3_method_8_code 3 = .ok (.getfield 10, 3) := by decide +kernel
theorem d_Ca_findRestOfProduct_6 : decode prog_3_method_8_code 6 = .ok (.getfield 142, 3) := by decide +kernel
theorem d_Ca_findRestOfProduct_9 : decode prog_3_method_8_code 9 = .ok (.invokestatic 129, 3) := by decide +kernel
theorem d_Ca_findRestOfProduct_12 : decode prog_3_method_8_code 12 = .ok (.aload_n 0, 1) := by decide +kernel
theorem d_Ca_findRestOfProduct_13 : decode prog_3_method_8_code 13 = .ok (.getfield 10, 3) := by decide +kernel
theorem d_Ca_findRestOfProduct_16 : decode prog_3_method_8_code 16 = .ok (.aload_n 3, 1) := by decide +kernel
theorem d_Ca_findRestOfProduct_17 : decode prog_3_method_8_code 17 = .ok (.invokevirtual 136, 3) := by decide +kernel
theorem d_Ca_findRestOfProduct_20 : decode prog_3_method_8_code 20 = .ok (.aload_n 0, 1) := by decide +kernel
theorem d_Ca_findRestOfProduct_21 : decode prog_3_method_8_code 21 = .ok (.getfield 10, 3) := by decide +kernel
theorem d_Ca_findRestOfProduct_24 : decode prog_3_method_8_code 24 = .ok (.getfield 60, 3) := by decide +kernel
theorem d_Ca_findRestOfProduct_27 : decode prog_3_method_8_code 27 = .ok (.aload 4, 2) := by decide +kernel
theorem d_Ca_findRestOfProduct_29 : decode prog_3_method_8_code 29 = .ok (.invokestatic 130, 3) := by decide +kernel
theorem d_Ca_findRestOfProduct_32 : decode prog_3_method_8_code 32 = .ok (.return_, 1) := by decide +kernel
def rm_c_C_restProd : Room := { frames := 2, cells := 0, slots := 0, locals := 61 }
set_option maxHeartbeats 4000000 in
set_option maxRecDepth 100000 in
theorem c_C_restProd (l : Launch) (E : kE) (ca d dd dq dr cp c1 c2 : Nat) (fD fq fr fp f1 f2 : Nat → Int32) (a b v t : Nat) (f x y z : Nat → Int32) : Kv l y_Ca_findRestOfProduct (kW y_Ca_findRestOfProduct prog_3_method_8_code 5 (none)) rm_c_C_restProd E [.ref ca, .ref a, .ref b, .ref v, .ref t] [(ca, .inr (4, [.ref d, .ref cp, .ref c1, .ref c2])), (d, .inr (3, [.ref dd, .ref dq, .ref dr])), (dd, .inl (E.2.1 0, 16, .inl fD)), (dq, .inl (E.2.1 0, 16, .inl fq)), (dr, .inl (E.2.1 0, 8, .inl fr)), (cp, .inl (E.2.1 0, 16, .inl fp)), (c1, .inl (E.2.1 0, 8, .inl f1)), (c2, .inl (E.2.1 0, 8, .inl f2)), (a, .inl (E.2.1 0, 8, .inl f)), (b, .inl (E.2.1 0, 8, .inl x)), (v, .inl (E.2.1 0, 8, .inl y)), (t, .inl (E.2.1 0, 8, .inl z))] (S := Nat → Nat → Int32) (fun u => wv (u 6) 8 = m_rem (wv f 8 * wv x 8) (wv y 8)) (fun u => [(ca, .inr (4, [.ref d, .ref cp, .ref c1, .ref c2])), (d, .inr (3, [.ref dd, .ref dq, .ref dr])), (dd, .inl (E.2.1 0, 16, .inl (u 0))), (dq, .inl (E.2.1 0, 16, .inl (u 1))), (dr, .inl (E.2.1 0, 8, .inl (u 2))), (cp, .inl (E.2.1 0, 16, .inl (u 3))), (c1, .inl (E.2.1 0, 8, .inl (u 4))), (c2, .inl (E.2.1 0, 8, .inl (u 5))), (a, .inl (E.2.1 0, 8, .inl f)), (b, .inl (E.2.1 0, 8, .inl x)), (v, .inl (E.2.1 0, 8, .inl y)), (t, .inl (E.2.1 0, 8, .inl (u 6)))]) := by
  refine Kv.ofW (cc := prog_3_method_8_code) (maxL := 5) (by decide) (Nat.le_of_ble_eq_true rfl) ?_
  intro p e s m args below meth c A ls Q hx hb hts hown hml hK hG hA hP hD hS hl hret
  have hl : lv_has ls 5 [(0, .ref ca), (1, .ref a), (2, .ref b), (3, .ref v), (4, .ref t)] := hl
  refine lv_aload_n hx hb d_Ca_findRestOfProduct_0 rfl (lv_at hl 1 rfl) ?_
  refine lv_aload_n hx hb d_Ca_findRestOfProduct_1 rfl (lv_at hl 2 rfl) ?_
  refine lv_aload_n hx hb d_Ca_findRestOfProduct_2 rfl (lv_at hl 0 rfl) ?_
  refine va_get (D := E.1) (ci := 4) (v := .ref d) (C := "WideStack$Calculator") (T := T_Ca) (N := 4) hx hb hts in_Ca hown hK hP 0 rfl rfl 0 (by decide) (hts _ t_173) (fun _ h9 => h9) rfl d_Ca_findRestOfProduct_3 ?_
  refine va_get (D := E.1) (ci := 3) (v := .ref dd) (C := "WideStack$Divider") (T := T_Di) (N := 3) hx hb hts in_Di hown hK hP 1 rfl rfl 0 (by decide) (hts _ t_161) (fun _ h9 => h9) rfl d_Ca_findRestOfProduct_6 ?_
  refine k_Sv (As := [.ref a, .ref b, .ref dd]) (rest := []) ⟨hx, hb, hml, hown, hts⟩ (c_W_multiply l E a b dd f x fD) (k_cwS 3 hts t_520 t_521 t_73 t_522 (by decide +kernel) ⟨Nat.le_of_ble_eq_true rfl, Nat.le_of_ble_eq_true rfl⟩) hK hG hA hP hD hS [8, 9, 2] rfl (by decide) (fun _ => rfl) rfl hl.1 rfl (Nat.le_of_ble_eq_true rfl) d_Ca_findRestOfProduct_9 ⟨Nat.zero_le _, Nat.zero_le _⟩ (fun uD H locs huD hP hD hS => ?_)
  have hP : va_P E.1 vwCl [(ca, .inr (4, [.ref d, .ref cp, .ref c1, .ref c2])), (d, .inr (3, [.ref dd, .ref dq, .ref dr])), (dd, .inl (E.2.1 0, 16, .inl uD)), (dq, .inl (E.2.1 0, 16, .inl fq)), (dr, .inl (E.2.1 0, 8, .inl fr)), (cp, .inl (E.2.1 0, 16, .inl fp)), (c1, .inl (E.2.1 0, 8, .inl f1)), (c2, .inl (E.2.1 0, 8, .inl f2)), (a, .inl (E.2.1 0, 8, .inl f)), (b, .inl (E.2.1 0, 8, .inl x)), (v, .inl (E.2.1 0, 8, .inl y)), (t, .inl (E.2.1 0, 8, .inl z))] H := hP
  have hD : va_D A [(ca, .inr (4, [.ref d, .ref cp, .ref c1, .ref c2])), (d, .inr (3, [.ref dd, .ref dq, .ref dr])), (dd, .inl (E.2.1 0, 16, .inl uD)), (dq, .inl (E.2.1 0, 16, .inl fq)), (dr, .inl (E.2.1 0, 8, .inl fr)), (cp, .inl (E.2.1 0, 16, .inl fp)), (c1, .inl (E.2.1 0, 8, .inl f1)), (c2, .inl (E.2.1 0, 8, .inl f2)), (a, .inl (E.2.1 0, 8, .inl f)), (b, .inl (E.2.1 0, 8, .inl x)), (v, .inl (E.2.1 0, 8, .inl y)), (t, .inl (E.2.1 0, 8, .inl z))] := hD
  refine lv_aload_n hx hb d_Ca_findRestOfProduct_12 rfl (lv_at hl 0 rfl) ?_
  refine va_get (D := E.1) (ci := 4) (v := .ref d) (C := "WideStack$Calculator") (T := T_Ca) (N := 4) hx hb hts in_Ca hown hK hP 0 rfl rfl 0 (by decide) (hts _ t_173) (fun _ h9 => h9) rfl d_Ca_findRestOfProduct_13 ?_
  refine lv_aload_n hx hb d_Ca_findRestOfProduct_16 rfl (lv_at hl 3 rfl) ?_
  refine k_Vv (As := [.ref v]) (rest := []) ⟨hx, hb, hml, hown, hts⟩ (c_D_divideBy l E d dd dq dr uD fq fr v y) (k_cwV 1 hts t_537 t_538 t_539 t_68 t_540 (by decide +kernel) ⟨Nat.le_of_ble_eq_true rfl, Nat.le_of_ble_eq_true rfl⟩) hK hG hA hP hD hS [1, 2, 3, 4, 10] rfl (by decide) 1 rfl rfl (fun _ => rfl) rfl hl.1 rfl (Nat.le_of_ble_eq_true rfl) d_Ca_findRestOfProduct_17 ⟨Nat.zero_le _, Nat.zero_le _⟩ (fun ud H locs hud hP hD hS => ?_)
  have hP : va_P E.1 vwCl [(ca, .inr (4, [.ref d, .ref cp, .ref c1, .ref c2])), (d, .inr (3, [.ref dd, .ref dq, .ref dr])), (dd, .inl (E.2.1 0, 16, .inl uD)), (dq, .inl (E.2.1 0, 16, .inl ud.1)), (dr, .inl (E.2.1 0, 8, .inl ud.2)), (cp, .inl (E.2.1 0, 16, .inl fp)), (c1, .inl (E.2.1 0, 8, .inl f1)), (c2, .inl (E.2.1 0, 8, .inl f2)), (a, .inl (E.2.1 0, 8, .inl f)), (b, .inl (E.2.1 0, 8, .inl x)), (v, .inl (E.2.1 0, 8, .inl y)), (t, .inl (E.2.1 0, 8, .inl z))] H := hP
  have hD : va_D A [(ca, .inr (4, [.ref d, .ref cp, .ref c1, .ref c2])), (d, .inr (3, [.ref dd, .ref dq, .ref dr])), (dd, .inl (E.2.1 0, 16, .inl uD)), (dq, .inl (E.2.1 0, 16, .inl ud.1)), (dr, .inl (E.2.1 0, 8, .inl ud.2)), (cp, .inl (E.2.1 0, 16, .inl fp)), (c1, .inl (E.2.1 0, 8, .inl f1)), (c2, .inl (E.2.1 0, 8, .inl f2)), (a, .inl (E.2.1 0, 8, .inl f)), (b, .inl (E.2.1 0, 8, .inl x)), (v, .inl (E.2.1 0, 8, .inl y)), (t, .inl (E.2.1 0, 8, .inl z))] := hD
  refine lv_aload_n hx hb d_Ca_findRestOfProduct_20 rfl (lv_at hl 0 rfl) ?_
  refine va_get (D := E.1) (ci := 4) (v := .ref d) (C := "WideStack$Calculator") (T := T_Ca) (N := 4) hx hb hts in_Ca hown hK hP 0 rfl rfl 0 (by decide) (hts _ t_173) (fun _ h9 => h9) rfl d_Ca_findRestOfProduct_21 ?_
  refine va_get (D := E.1) (ci := 3) (v := .ref dr) (C := "WideStack$Divider") (T := T_Di) (N := 3) hx hb hts in_Di hown hK hP 1 rfl rfl 2 (by decide) (hts _ t_165) (fun _ h9 => h9) rfl d_Ca_findRestOfProduct_24 ?_
  refine lv_aload hx hb d_Ca_findRestOfProduct_27 (lv_at hl 4 rfl) ?_
  refine k_Sv (As := [.ref dr, .ref t]) (rest := []) ⟨hx, hb, hml, hown, hts⟩ (c_W_copy l E dr t 8 8 ud.2 z (by decide) (by decide)) (k_cwS 2 hts t_523 t_314 t_73 t_315 (by decide +kernel) ⟨Nat.le_of_ble_eq_true rfl, Nat.le_of_ble_eq_true rfl⟩) hK hG hA hP hD hS [4, 11] rfl (by decide) (fun _ => rfl) rfl hl.1 rfl (Nat.le_of_ble_eq_true rfl) d_Ca_findRestOfProduct_29 ⟨Nat.zero_le _, Nat.zero_le _⟩ (fun w0 H locs hv hP hD hS => ?_)
  have hP : va_P E.1 vwCl [(ca, .inr (4, [.ref d, .ref cp, .ref c1, .ref c2])), (d, .inr (3, [.ref dd, .ref dq, .ref dr])), (dd, .inl (E.2.1 0, 16, .inl uD)), (dq, .inl (E.2.1 0, 16, .inl ud.1)), (dr, .inl (E.2.1 0, 8, .inl ud.2)), (cp, .inl (E.2.1 0, 16, .inl fp)), (c1, .inl (E.2.1 0, 8, .inl f1)), (c2, .inl (E.2.1 0, 8, .inl f2)), (a, .inl (E.2.1 0, 8, .inl f)), (b, .inl (E.2.1 0, 8, .inl x)), (v, .inl (E.2.1 0, 8, .inl y)), (t, .inl (E.2.1 0, 8, .inl w0))] H := hP
  have hD : va_D A [(ca, .inr (4, [.ref d, .ref cp, .ref c1, .ref c2])), (d, .inr (3, [.ref dd, .ref dq, .ref dr])), (dd, .inl (E.2.1 0, 16, .inl uD)), (dq, .inl (E.2.1 0, 16, .inl ud.1)), (dr, .inl (E.2.1 0, 8, .inl ud.2)), (cp, .inl (E.2.1 0, 16, .inl fp)), (c1, .inl (E.2.1 0, 8, .inl f1)), (c2, .inl (E.2.1 0, 8, .inl f2)), (a, .inl (E.2.1 0, 8, .inl f)), (b, .inl (E.2.1 0, 8, .inl x)), (v, .inl (E.2.1 0, 8, .inl y)), (t, .inl (E.2.1 0, 8, .inl w0))] := hD
  exact hret _ ls _ _ (t7 uD ud.1 ud.2 fp f1 f2 w0) d_Ca_findRestOfProduct_32 ((cp8 hv).trans (by rw [hud.2, huD])) hP hS

abbrev y_Ca_extendSign : MethodName := ⟨"WideStack$Calculator", "extendSign", "([I[I[I)V"⟩
theorem d_Ca_extendSign_0 : decode prog_3_method_9_code 0 = .ok (.aload_n 0, 1) := by decide +kernel
theorem d_Ca_extendSign_1 : decode prog_3_method_9_code 1 = .ok (.bipush 31, 2) := by decide +kernel
theorem d_Ca_extendSign_3 : decode prog_3_method_9_code 3 = .ok (.invokestatic 99, 3) := by decide +kernel
theorem d_Ca_extendSign_6 : decode prog_3_method_9_code 6 = .ok (.istore_n 3, 1) := by decide +kernel
theorem d_Ca_extendSign_7 : decode prog_3_method_9_code 7 = .ok (.aload_n 1, 1) := by decide +kernel
theorem d_Ca_extendSign_8 : decode prog_3_method_9_code 8 = .ok (.bipush 8, 2) := by decide +kernel
theorem d_Ca_extendSign_10 : decode prog_3_method_9_code 10 = .ok (.iload_n 3, 1) := by decide +kernel
theorem d_Ca_extendSign_11 : decode prog_3_method_9_code 11 = .ok (.imul, 1) := by decide +kernel
theorem d_Ca_extendSign_12 : decode prog_3_method_9_code 12 = .ok (.bipush 7, 2) := by decide +kernel
theorem d_Ca_extendSign_14 : decode prog_3_method_9_code 14 = .ok (.iadd, 1) := by decide +kernel
theorem d_Ca_extendSign_15 : decode prog_3_method_9_code 15 = .ok (.aload_n 2, 1) := by decide +kernel
theorem d_Ca_extendSign_16 : decode prog_3_method_9_code 16 = .ok (.invokestatic 145, 3) := by decide +kernel
theorem d_Ca_extendSign_19 : decode prog_3_method_9_code 19 = .ok (.return_, 1) := by decide +kernel
def rm_c_C_extendSign : Room := { frames := 1, cells := 0, slots := 0, locals := 25 }
set_option maxHeartbeats 4000000 in
set_option maxRecDepth 100000 in
theorem c_C_extendSign (l : Launch) (E : kE) (a b t : Nat) (f x z : Nat → Int32) : Kv l y_Ca_extendSign (kW y_Ca_extendSign prog_3_method_9_code 4 (none)) rm_c_C_extendSign E [.ref a, .ref b, .ref t] [(a, .inl (E.2.1 0, 8, .inl f)), (b, .inl (E.2.1 0, 8, .inl x)), (t, .inl (E.2.1 0, 8, .inl z))] (S := Nat → Int32) (fun u => wv u 8 = m_sext (wv f 8) (wv x 8)) (fun u => [(a, .inl (E.2.1 0, 8, .inl f)), (b, .inl (E.2.1 0, 8, .inl x)), (t, .inl (E.2.1 0, 8, .inl u))]) := by
  refine Kv.ofW (cc := prog_3_method_9_code) (maxL := 4) (by decide) (Nat.le_of_ble_eq_true rfl) ?_
  intro p e s m args below meth c A ls Q hx hb hts hown hml hK hG hA hP hD hS hl hret
  have hl : lv_has ls 4 [(0, .ref a), (1, .ref b), (2, .ref t)] := hl
  refine lv_aload_n hx hb d_Ca_extendSign_0 rfl (lv_at hl 0 rfl) ?_
  refine lv_bipush (v := nI 31) hx hb d_Ca_extendSign_1 (by decide) ?_
  refine k_Sp (As := [.ref a, .int (nI 31)]) (rest := []) ⟨hx, hb, hml, hown, hts⟩ (c_W_atMost l E a 31 f (by decide)) (k_cwS 2 hts t_589 t_381 t_73 t_382 (by decide +kernel) ⟨Nat.le_of_ble_eq_true rfl, Nat.le_of_ble_eq_true rfl⟩) hK hG hA hP hD hS [0] rfl (by decide) rfl hl.1 rfl (Nat.le_of_ble_eq_true rfl) d_Ca_extendSign_3 ⟨Nat.zero_le _, Nat.zero_le _⟩ (fun r3 hu3 => ?_)
  subst hu3
  refine lv_istore_n (lv' := [(3, .int (nI (min (wv f 8) 31))), (0, .ref a), (1, .ref b), (2, .ref t)]) hx hb d_Ca_extendSign_6 rfl hl (by decide) rfl (fun ls hl => ?_)
  refine lv_aload_n hx hb d_Ca_extendSign_7 rfl (lv_at hl 2 rfl) ?_
  refine lv_bipush (v := nI 8) hx hb d_Ca_extendSign_8 (by decide) ?_
  refine lv_iload_n hx hb d_Ca_extendSign_10 rfl (lv_at hl 0 rfl) ?_
  refine lv_imul hx hb d_Ca_extendSign_11 ?_
  refine k_top (pk_mul _ _) ?_
  refine lv_bipush (v := nI 7) hx hb d_Ca_extendSign_12 (by decide) ?_
  refine lv_iadd hx hb d_Ca_extendSign_14 ?_
  refine k_top (nI_add _ _) ?_
  refine lv_aload_n hx hb d_Ca_extendSign_15 rfl (lv_at hl 3 rfl) ?_
  refine k_Sv (As := [.ref b, .int (nI ((8 * (min (wv f 8) 31)) + 7)), .ref t]) (rest := []) ⟨hx, hb, hml, hown, hts⟩ (c_W_extendSign l E b t (min (wv f 8) 31) x z (Nat.min_le_right _ _)) (k_cwS 3 hts t_590 t_591 t_73 t_592 (by decide +kernel) ⟨Nat.le_of_ble_eq_true rfl, Nat.le_of_ble_eq_true rfl⟩) hK hG hA hP hD hS [1, 2] rfl (by decide) (fun _ => rfl) rfl hl.1 rfl (Nat.le_of_ble_eq_true rfl) d_Ca_extendSign_16 ⟨Nat.zero_le _, Nat.zero_le _⟩ (fun u H locs hu hP hD hS => ?_)
  have hP : va_P E.1 vwCl [(a, .inl (E.2.1 0, 8, .inl f)), (b, .inl (E.2.1 0, 8, .inl x)), (t, .inl (E.2.1 0, 8, .inl u))] H := hP
  have hD : va_D A [(a, .inl (E.2.1 0, 8, .inl f)), (b, .inl (E.2.1 0, 8, .inl x)), (t, .inl (E.2.1 0, 8, .inl u))] := hD
  exact hret _ ls _ _ u d_Ca_extendSign_19 (hu.trans (sext_min _ _)) hP hS

abbrev y_Ca_shiftCount : MethodName := ⟨"WideStack$Calculator", "shiftCount", "([I)I"⟩
theorem d_Ca_shiftCount_0 : decode prog_3_method_10_code 0 = .ok (.aload_n 0, 1) := by decide +kernel
theorem d_Ca_shiftCount_1 : decode prog_3_method_10_code 1 = .ok (.sipush 256, 3) := by decide +kernel
theorem d_Ca_shiftCount_4 : decode prog_3_method_10_code 4 = .ok (.invokestatic 99, 3) := by decide +kernel
theorem d_Ca_shiftCount_7 : decode prog_3_method_10_code 7 = .ok (.ireturn, 1) := by decide +kernel
def rm_c_C_shiftCount : Room := { frames := 1, cells := 0, slots := 0, locals := 22 }
set_option maxHeartbeats 4000000 in
set_option maxRecDepth 100000 in
theorem c_C_shiftCount (l : Launch) (E : kE) (a : Nat) (f : Nat → Int32) : Kp l y_Ca_shiftCount (kW y_Ca_shiftCount prog_3_method_10_code 1 (some .int)) rm_c_C_shiftCount E [.ref a] [(a, .inl (E.2.1 0, 8, .inl f))] (fun r => r = nI (min (wv f 8) 256)) := by
  refine Kp.ofI (cc := prog_3_method_10_code) (maxL := 1) (by decide) (Nat.le_of_ble_eq_true rfl) ?_
  intro p e s m args below meth c A ls Q hx hb hts hown hml hK hG hA hP hD hS hl hret
  have hl : lv_has ls 1 [(0, .ref a)] := hl
  refine lv_aload_n hx hb d_Ca_shiftCount_0 rfl (lv_at hl 0 rfl) ?_
  refine lv_sipush (v := nI 256) hx hb d_Ca_shiftCount_1 (by decide) ?_
  refine k_Sp (As := [.ref a, .int (nI 256)]) (rest := []) ⟨hx, hb, hml, hown, hts⟩ (c_W_atMost l E a 256 f (by decide)) (k_cwS 2 hts t_589 t_381 t_73 t_382 (by decide +kernel) ⟨Nat.le_of_ble_eq_true rfl, Nat.le_of_ble_eq_true rfl⟩) hK hG hA hP hD hS [0] rfl (by decide) rfl hl.1 rfl (Nat.le_of_ble_eq_true rfl) d_Ca_shiftCount_4 ⟨Nat.zero_le _, Nat.zero_le _⟩ (fun r4 hu4 => ?_)
  subst hu4
  exact hret _ ls _ d_Ca_shiftCount_7 rfl

abbrev y_Ca_shiftDownSigned : MethodName := ⟨"WideStack$Calculator", "shiftDownSigned", "([I[I[I)V"⟩
theorem d_Ca_shiftDownSigned_0 : decode prog_3_method_11_code 0 = .ok (.aload_n 1, 1) := by decide +kernel
theorem d_Ca_shiftDownSigned_1 : decode prog_3_method_11_code 1 = .ok (.aload_n 0, 1) := by decide +kernel
theorem d_Ca_shiftDownSigned_2 : decode prog_3_method_11_code 2 = .ok (.invokestatic 110, 3) := by decide +kernel
theorem d_Ca_shiftDownSigned_5 : decode prog_3_method_11_code 5 = .ok (.aload_n 1, 1) := by decide +kernel
theorem d_Ca_shiftDownSigned_6 : decode prog_3_method_11_code 6 = .ok (.invokestatic 49, 3) := by decide +kernel
theorem d_Ca_shiftDownSigned_9 : decode prog_3_method_11_code 9 = .ok (.ifCond .eq 7, 3) := by decide +kernel
theorem d_Ca_shiftDownSigned_12 : decode prog_3_method_11_code 12 = .ok (.iconst (-1), 1) := by decide +kernel
theorem d_Ca_shiftDownSigned_13 : decode prog_3_method_11_code 13 = .ok (.goto 4, 3) := by decide +kernel
theorem d_Ca_shiftDownSigned_16 : decode prog_3_method_11_code 16 = .ok (.iconst 0, 1) := by decide +kernel
theorem d_Ca_shiftDownSigned_17 : decode prog_3_method_11_code 17 = .ok (.aload_n 2, 1) := by decide +kernel
theorem d_Ca_shiftDownSigned_18 : decode prog_3_method_11_code 18 = .ok (.invokestatic 118, 3) := by decide +kernel
theorem d_Ca_shiftDownSigned_21 : decode prog_3_method_11_code 21 = .ok (.return_, 1) := by decide +kernel
def rm_c_C_shiftDownSigned : Room := { frames := 2, cells := 0, slots := 0, locals := 50 }
set_option maxHeartbeats 4000000 in
set_option maxRecDepth 100000 in
theorem c_C_shiftDownSigned (l : Launch) (E : kE) (a b t : Nat) (f x z : Nat → Int32) : Kv l y_Ca_shiftDownSigned (kW y_Ca_shiftDownSigned prog_3_method_11_code 3 (none)) rm_c_C_shiftDownSigned E [.ref a, .ref b, .ref t] [(a, .inl (E.2.1 0, 8, .inl f)), (b, .inl (E.2.1 0, 8, .inl x)), (t, .inl (E.2.1 0, 8, .inl z))] (S := Nat → Int32) (fun u => wv u 8 = m_sar (wv f 8) (wv x 8)) (fun u => [(a, .inl (E.2.1 0, 8, .inl f)), (b, .inl (E.2.1 0, 8, .inl x)), (t, .inl (E.2.1 0, 8, .inl u))]) := by
  refine Kv.ofW (cc := prog_3_method_11_code) (maxL := 3) (by decide) (Nat.le_of_ble_eq_true rfl) ?_
  intro p e s m args below meth c A ls Q hx hb hts hown hml hK hG hA hP hD hS hl hret
  have hl : lv_has ls 3 [(0, .ref a), (1, .ref b), (2, .ref t)] := hl
  refine lv_aload_n hx hb d_Ca_shiftDownSigned_0 rfl (lv_at hl 1 rfl) ?_
  refine lv_aload_n hx hb d_Ca_shiftDownSigned_1 rfl (lv_at hl 0 rfl) ?_
  refine k_Sp (As := [.ref a]) (rest := [.ref b]) ⟨hx, hb, hml, hown, hts⟩ (c_C_shiftCount l E a f) (k_cwS 1 hts t_618 t_619 t_67 t_620 (by decide +kernel) ⟨Nat.le_of_ble_eq_true rfl, Nat.le_of_ble_eq_true rfl⟩) hK hG hA hP hD hS [0] rfl (by decide) rfl hl.1 rfl (Nat.le_of_ble_eq_true rfl) d_Ca_shiftDownSigned_2 ⟨Nat.zero_le _, Nat.zero_le _⟩ (fun r2 hu2 => ?_)
  subst hu2
  refine lv_aload_n hx hb d_Ca_shiftDownSigned_5 rfl (lv_at hl 1 rfl) ?_
  refine k_Sp (As := [.ref b]) (rest := [.int (nI (min (wv f 8) 256)), .ref b]) ⟨hx, hb, hml, hown, hts⟩ (c_W_isNegative l E b 8 x (by decide) (by decide)) (k_cwS 1 hts t_561 t_547 t_73 t_548 (by decide +kernel) ⟨Nat.le_of_ble_eq_true rfl, Nat.le_of_ble_eq_true rfl⟩) hK hG hA hP hD hS [1] rfl (by decide) rfl hl.1 rfl (Nat.le_of_ble_eq_true rfl) d_Ca_shiftDownSigned_6 ⟨Nat.zero_le _, Nat.zero_le _⟩ (fun r6 hu6 => ?_)
  subst hu6
  refine lv_if_eq (tgt := 16) hx hb d_Ca_shiftDownSigned_9 (by decide) (fun h9 => ?_) (fun h9 => ?_)
  · refine lv_iconst (v := nI 0) hx hb d_Ca_shiftDownSigned_16 (by decide) ?_
    refine lv_aload_n hx hb d_Ca_shiftDownSigned_17 rfl (lv_at hl 2 rfl) ?_
    refine k_Sv (As := [.ref b, .int (nI (min (wv f 8) 256)), .int (nI 0), .ref t]) (rest := []) ⟨hx, hb, hml, hown, hts⟩ (c_W_shiftDown l E b t (min (wv f 8) 256) (nI 0) x z (Nat.min_le_right _ _)) (k_cwS 4 hts t_627 t_628 t_73 t_629 (by decide +kernel) ⟨Nat.le_of_ble_eq_true rfl, Nat.le_of_ble_eq_true rfl⟩) hK hG hA hP hD hS [1, 2] rfl (by decide) (fun _ => rfl) rfl hl.1 rfl (Nat.le_of_ble_eq_true rfl) d_Ca_shiftDownSigned_18 ⟨Nat.zero_le _, Nat.zero_le _⟩ (fun u H locs hu hP hD hS => ?_)
    have hP : va_P E.1 vwCl [(a, .inl (E.2.1 0, 8, .inl f)), (b, .inl (E.2.1 0, 8, .inl x)), (t, .inl (E.2.1 0, 8, .inl u))] H := hP
    have hD : va_D A [(a, .inl (E.2.1 0, 8, .inl f)), (b, .inl (E.2.1 0, 8, .inl x)), (t, .inl (E.2.1 0, 8, .inl u))] := hD
    first | exact hret _ ls _ _ u d_Ca_shiftDownSigned_21 (hu.trans (by rw [sdF_1]; exact sar_min (wv_lt8 x) (kb_n0 h9))) hP hS | exact hret _ ls _ _ u d_Ca_shiftDownSigned_21 (hu.trans (by rw [nI_0, sdF_0, shr_min (wv_lt8 x)]; exact sar_pos (kb_0.mp h9))) hP hS
  · refine lv_iconst (v := -1) hx hb d_Ca_shiftDownSigned_12 (by decide) ?_
    refine lv_goto (tgt := 17) hx hb d_Ca_shiftDownSigned_13 (by decide) ?_
    refine lv_aload_n hx hb d_Ca_shiftDownSigned_17 rfl (lv_at hl 2 rfl) ?_
    refine k_Sv (As := [.ref b, .int (nI (min (wv f 8) 256)), .int (-1), .ref t]) (rest := []) ⟨hx, hb, hml, hown, hts⟩ (c_W_shiftDown l E b t (min (wv f 8) 256) (-1) x z (Nat.min_le_right _ _)) (k_cwS 4 hts t_627 t_628 t_73 t_629 (by decide +kernel) ⟨Nat.le_of_ble_eq_true rfl, Nat.le_of_ble_eq_true rfl⟩) hK hG hA hP hD hS [1, 2] rfl (by decide) (fun _ => rfl) rfl hl.1 rfl (Nat.le_of_ble_eq_true rfl) d_Ca_shiftDownSigned_18 ⟨Nat.zero_le _, Nat.zero_le _⟩ (fun u H locs hu hP hD hS => ?_)
    have hP : va_P E.1 vwCl [(a, .inl (E.2.1 0, 8, .inl f)), (b, .inl (E.2.1 0, 8, .inl x)), (t, .inl (E.2.1 0, 8, .inl u))] H := hP
    have hD : va_D A [(a, .inl (E.2.1 0, 8, .inl f)), (b, .inl (E.2.1 0, 8, .inl x)), (t, .inl (E.2.1 0, 8, .inl u))] := hD
    first | exact hret _ ls _ _ u d_Ca_shiftDownSigned_21 (hu.trans (by rw [sdF_1]; exact sar_min (wv_lt8 x) (kb_n0 h9))) hP hS | exact hret _ ls _ _ u d_Ca_shiftDownSigned_21 (hu.trans (by rw [nI_0, sdF_0, shr_min (wv_lt8 x)]; exact sar_pos (kb_0.mp h9))) hP hS

