/-! sums, differences, negatives, products: one turn of a loop -/
theorem lp_add {f x z : Nat → Int32} {i c : Nat} (h : wv z i + c * kK ^ i = wv f i + wv x i) : wv (upd z i (nI (uw (f i) + uw (x i) + c))) (i + 1) + (uw (f i) + uw (x i) + c) / 4294967296 * kK ^ (i + 1) = wv f (i + 1) + wv x (i + 1) := by
  rw [wv_s, wv_s, wv_s, wv_upd_lo, pk_us, uw_nI, Nat.pow_succ, Nat.mul_comm (kK ^ i) kK]
  exact st_add (K := kK) h
theorem k_sub3 {a b c : Nat} (ha : a < 4294967296) (hb : b < 4294967296) (hc : c ≤ 1) : lN a - lN b - lN c = lN (a + 36893488147419103232 - b - c) := by
  have h : lN a = lN (a + 36893488147419103232) := by
    rw [wb_mod (a + 36893488147419103232), wb_mod a]
    exact congrArg lN (by omega)
  rw [h, lN_sub (by omega), lN_sub (by omega)]
theorem k_subw {a b c : Nat} (ha : a < 4294967296) (hb : b < 4294967296) (hc : c ≤ 1) : uw ((lN a - lN b - lN c).toInt32) = (a + 36893488147419103232 - b - c) % 4294967296 := by
  rw [k_sub3 ha hb hc, lN_i, uw_nI]
theorem k_subge {a b c : Nat} (ha : a < 4294967296) (hb : b < 4294967296) (hc : c ≤ 1) : 0 ≤ lg_cmp (lN a - lN b - lN c) (lN 0) ↔ b + c ≤ a := by
  rw [lg_cmp_ge, k_sub3 ha hb hc, wb_mod (a + 36893488147419103232 - b - c), Int64.le_iff_toInt_le, lN_ti (m := 0) (by decide), lN_ti (Nat.mod_lt _ (by decide))]
  rw [if_pos (by decide)]
  by_cases h : b + c ≤ a
  · have e : (a + 36893488147419103232 - b - c) % 2 ^ 64 = a - b - c := by omega
    rw [e, if_pos (by omega)]
    omega
  · have e : (a + 36893488147419103232 - b - c) % 2 ^ 64 = a + 18446744073709551616 - b - c := by omega
    rw [e, if_neg (by omega)]
    omega
theorem lp_sub0 {f x z : Nat → Int32} {i c : Nat} (hc : c ≤ 1) (h : wv z i + wv x i = wv f i + c * kK ^ i) (hge : uw (x i) + c ≤ uw (f i)) : wv (upd z i ((lN (uw (f i)) - lN (uw (x i)) - lN c).toInt32)) (i + 1) + wv x (i + 1) = wv f (i + 1) + 0 * kK ^ (i + 1) := by
  have b1 := uw_lt' (f i)
  have b2 := uw_lt' (x i)
  rw [wv_s, wv_s, wv_s, wv_upd_lo, pk_us, k_subw b1 b2 hc, Nat.pow_succ, Nat.mul_comm (kK ^ i) kK]
  exact st_sub (K := kK) h (by rw [kK_eq]; omega)
theorem lp_sub1 {f x z : Nat → Int32} {i c : Nat} (hc : c ≤ 1) (h : wv z i + wv x i = wv f i + c * kK ^ i) (hge : ¬ uw (x i) + c ≤ uw (f i)) : wv (upd z i ((lN (uw (f i)) - lN (uw (x i)) - lN c).toInt32)) (i + 1) + wv x (i + 1) = wv f (i + 1) + 1 * kK ^ (i + 1) := by
  have b1 := uw_lt' (f i)
  have b2 := uw_lt' (x i)
  rw [wv_s, wv_s, wv_s, wv_upd_lo, pk_us, k_subw b1 b2 hc, Nat.pow_succ, Nat.mul_comm (kK ^ i) kK]
  exact st_sub (K := kK) h (by rw [kK_eq]; omega)
theorem fin_sub {T a b c : Nat} (hT : T < mM) (ha : a < mM) (hb : b < mM) (hc : c ≤ 1) (h : T + b = a + c * kK ^ 8) : T = (a + (mM - b)) % mM := by
  rw [kK8] at h
  have : c = 0 ∨ c = 1 := by omega
  rcases this with rfl | rfl
  · rw [show a + (mM - b) = T + mM by omega, Nat.add_mod_right, Nat.mod_eq_of_lt hT]
  · rw [show a + (mM - b) = T by omega, Nat.mod_eq_of_lt hT]
theorem uw_not (x : Int32) : uw (x ^^^ (-1)) = 4294967295 - uw x := by
  have h : (x ^^^ (-1)).toBitVec = ~~~ x.toBitVec := by
    rw [Int32.toBitVec_xor]
    show x.toBitVec ^^^ (-1 : Int32).toBitVec = _
    rw [show (-1 : Int32).toBitVec = BitVec.allOnes 32 from by decide, BitVec.xor_allOnes]
  show (x ^^^ (-1)).toBitVec.toNat = 4294967295 - x.toBitVec.toNat
  rw [h, BitVec.toNat_not]
theorem lp_neg {f z : Nat → Int32} {i c : Nat} (h : wv z i + wv f i + c * kK ^ i = kK ^ i) : wv (upd z i (nI (uw (f i ^^^ (-1)) + c))) (i + 1) + wv f (i + 1) + (uw (f i ^^^ (-1)) + c) / 4294967296 * kK ^ (i + 1) = kK ^ (i + 1) := by
  have b1 := uw_lt' (f i)
  rw [wv_s, wv_s, wv_upd_lo, pk_us, uw_nI, uw_not, Nat.pow_succ, Nat.mul_comm (kK ^ i) kK]
  have h1 := k_mdm (4294967295 - uw (f i) + c) kK (kK ^ i)
  rw [Nat.add_mul] at h1
  have h2 : (4294967295 - uw (f i)) * kK ^ i + uw (f i) * kK ^ i + kK ^ i = kK * kK ^ i := by
    rw [← Nat.add_mul, show 4294967295 - uw (f i) + uw (f i) = 4294967295 by omega, kK_eq, show (4294967296 : Nat) = 4294967295 + 1 from rfl, Nat.add_mul (4294967295) 1, Nat.one_mul]
  rw [kK_eq] at *
  omega
theorem fin_neg {T a c : Nat} (hT : T < mM) (ha : a < mM) (h : T + a + c * kK ^ 8 = kK ^ 8) : T = m_neg a := by
  rw [kK8] at h
  unfold m_neg
  have : c = 0 ∨ 1 ≤ c := by omega
  rcases this with rfl | h1
  · rw [show mM - a = T by omega, Nat.mod_eq_of_lt hT]
  · have h2 := Nat.mul_le_mul_right mM h1
    have h3 : T = 0 := by omega
    have h4 : a = 0 := by omega
    rw [h3, h4, Nat.sub_zero, Nat.mod_self]
theorem fin_add {T a b c : Nat} (hT : T < mM) (h : T + c * kK ^ 8 = a + b) : T = (a + b) % mM := by
  rw [kK8] at h
  rw [← h, Nat.add_mul_mod_self_right, Nat.mod_eq_of_lt hT]
theorem kb_inj {a b : Bool} (h : kb a = kb b) : a = b := by revert h; cases a <;> cases b <;> decide
theorem kb_0 {a : Bool} : kb a = 0 ↔ a = false := by cases a <;> decide
theorem m_sord_eq {a b : Nat} (h : kb (m_isneg a) = kb (m_isneg b)) : m_ord a b = m_sord a b := by unfold m_sord; rw [if_pos (kb_inj h)]
theorem m_sord_neg {a b : Nat} (h : ¬ kb (m_isneg a) = kb (m_isneg b)) (h1 : ¬ kb (m_isneg a) = 0) : -1 = m_sord a b := by
  unfold m_sord
  rw [if_neg (fun q => h (by rw [q])), if_pos]
  cases e : m_isneg a
  · rw [e] at h1; exact absurd rfl h1
  · rfl
theorem m_sord_pos {a b : Nat} (h : ¬ kb (m_isneg a) = kb (m_isneg b)) (h1 : kb (m_isneg a) = 0) : nI 1 = m_sord a b := by
  unfold m_sord
  rw [if_neg (fun q => h (by rw [q])), if_neg]
  rw [kb_0.mp h1]
  decide
theorem kb_n0 {a : Bool} (h : ¬ kb a = 0) : a = true := by
  cases a
  · exact absurd rfl h
  · rfl
