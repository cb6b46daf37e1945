/-! shifts, by bits -/
theorem wv_tb {f : Nat → Int32} {n m s : Nat} (hm : m < n) : (uw (f m)).testBit s = (decide (s < 32) && (wv f n).testBit (32 * m + s)) := by
  have h1 : wv f n / kK ^ m % kK = uw (f m) := bv_dig (B := kK) (f := fun j => uw (f j)) (fun j _ => uw_lt (f j)) hm
  rw [← h1, show kK = 2 ^ 32 by decide, Nat.testBit_mod_two_pow, ← Nat.pow_mul, Nat.testBit_div_two_pow, Nat.add_comm s]
def sdU (f : Nat → Int32) (i q : Nat) : Int32 := if q ≤ i then f (i - q) else 0
theorem sd_in {f : Nat → Int32} {i q : Nat} (hi : i < 8) (hq : q ≤ 9) : (if m_in (nI i - nI q) 8 then f (nI i - nI q).toNatClampNeg else nI 0) = sdU f i q := by
  unfold sdU
  by_cases h : q ≤ i
  · rw [pk_sub h, m_in_nI (by omega) (by decide), decide_eq_true (by omega), if_pos rfl, if_pos h, nI_clamp (by omega)]
  · rw [m_in_f1 (pk_sneg (by omega) (by omega)), if_neg h]
    exact nI_0
theorem sd_in1 {f : Nat → Int32} {i q : Nat} (hi : i < 8) (hq : q ≤ 8) : (if m_in (nI i - nI q - nI 1) 8 then f (nI i - nI q - nI 1).toNatClampNeg else nI 0) = sdU f i (q + 1) := by
  have e : nI i - nI q - nI 1 = nI i - nI (q + 1) := by rw [← nI_add, Int32.sub_sub]
  rw [e]
  exact sd_in hi (by omega)
theorem sd_tb {f : Nat → Int32} {i q s : Nat} (hi : i < 8) : (uw (sdU f i q)).testBit s = (decide (s < 32) && (decide (q ≤ i) && (wv f 8).testBit (32 * (i - q) + s))) := by
  unfold sdU
  by_cases h : q ≤ i
  · rw [if_pos h, wv_tb (n := 8) (by omega), decide_eq_true h, Bool.true_and]
  · rw [if_neg h, uw_0, Nat.zero_testBit, decide_eq_false h, Bool.false_and, Bool.and_false]
theorem sh_up {f : Nat → Int32} {i cn : Nat} (hi : i < 8) : (uw (sdU f i (cn / 32)) * 4294967296 + uw (sdU f i (cn / 32 + 1))) / 2 ^ (32 - cn % 32) % 4294967296 = wv f 8 * 2 ^ cn / kK ^ i % kK := by
  rw [show kK = 2 ^ 32 by decide, show (4294967296 : Nat) = 2 ^ 32 from rfl, ← Nat.pow_mul]
  apply Nat.eq_of_testBit_eq
  intro t
  rw [Nat.testBit_mod_two_pow, Nat.testBit_div_two_pow, Nat.testBit_mod_two_pow, Nat.testBit_div_two_pow, Nat.testBit_mul_two_pow, Nat.mul_comm _ (2 ^ 32), Nat.testBit_two_pow_mul_add _ (uw_lt' _)]
  by_cases ht : t < 32
  · rw [decide_eq_true ht, Bool.true_and, Bool.true_and]
    have e0 : cn = 32 * (cn / 32) + cn % 32 := by omega
    by_cases h1 : t + (32 - cn % 32) < 32
    · rw [if_pos h1, sd_tb hi, decide_eq_true h1, Bool.true_and]
      by_cases h2 : cn / 32 + 1 ≤ i
      · rw [decide_eq_true h2, decide_eq_true (show cn ≤ t + 32 * i by omega), show 32 * (i - (cn / 32 + 1)) + (t + (32 - cn % 32)) = t + 32 * i - cn by omega]
      · rw [decide_eq_false h2, decide_eq_false (show ¬ cn ≤ t + 32 * i by omega), Bool.false_and, Bool.false_and]
    · rw [if_neg h1, sd_tb hi, decide_eq_true (show t + (32 - cn % 32) - 32 < 32 by omega), Bool.true_and]
      by_cases h2 : cn / 32 ≤ i
      · rw [decide_eq_true h2, decide_eq_true (show cn ≤ t + 32 * i by omega), show 32 * (i - cn / 32) + (t + (32 - cn % 32) - 32) = t + 32 * i - cn by omega]
      · rw [decide_eq_false h2, decide_eq_false (show ¬ cn ≤ t + 32 * i by omega), Bool.false_and, Bool.false_and]
  · rw [decide_eq_false ht, Bool.false_and, Bool.false_and]
/-- a word with its fill above, 17 parts -/
def sdF (f : Nat → Int32) (o : Int32) (i : Nat) : Int32 := if i < 8 then f i else o
theorem sf_in {f : Nat → Int32} {o : Int32} {k : Nat} (hk : k < 100) : (if m_in (nI k) 8 then f (nI k).toNatClampNeg else o) = sdF f o k := by
  unfold sdF
  rw [m_in_nI (by omega) (by decide), nI_clamp (by omega)]
  by_cases h : k < 8
  · rw [decide_eq_true h, if_pos rfl, if_pos h]
  · rw [decide_eq_false h, if_neg h]; rfl
theorem sh_dn {f : Nat → Int32} {o : Int32} {i cn : Nat} (hi : i < 8) (hc : cn ≤ 256) : (uw (sdF f o (i + cn / 32 + 1)) * 4294967296 + uw (sdF f o (i + cn / 32))) / 2 ^ (cn % 32) % 4294967296 = wv (sdF f o) 17 / 2 ^ cn / kK ^ i % kK := by
  rw [show kK = 2 ^ 32 by decide, show (4294967296 : Nat) = 2 ^ 32 from rfl, ← Nat.pow_mul]
  apply Nat.eq_of_testBit_eq
  intro t
  rw [Nat.testBit_mod_two_pow, Nat.testBit_div_two_pow, Nat.testBit_mod_two_pow, Nat.testBit_div_two_pow, Nat.testBit_div_two_pow, Nat.mul_comm _ (2 ^ 32), Nat.testBit_two_pow_mul_add _ (uw_lt' _)]
  by_cases ht : t < 32
  · rw [decide_eq_true ht, Bool.true_and, Bool.true_and]
    by_cases h1 : t + cn % 32 < 32
    · rw [if_pos h1, wv_tb (f := sdF f o) (n := 17) (m := i + cn / 32) (by omega), decide_eq_true h1, Bool.true_and, show 32 * (i + cn / 32) + (t + cn % 32) = t + 32 * i + cn by omega]
    · rw [if_neg h1, wv_tb (f := sdF f o) (n := 17) (m := i + cn / 32 + 1) (by omega), decide_eq_true (show t + cn % 32 - 32 < 32 by omega), Bool.true_and, show 32 * (i + cn / 32 + 1) + (t + cn % 32 - 32) = t + 32 * i + cn by omega]
  · rw [decide_eq_false ht, Bool.false_and, Bool.false_and]
theorem sdF_0 (f : Nat → Int32) : wv (sdF f 0) 17 = wv f 8 := by
  have h3 : wv (sdF f 0) 17 = wv (sdF f 0) 8 + wv (fun j => sdF f 0 (8 + j)) 9 * kK ^ 8 := bv_add (B := kK) (n := 8) (k := 9) (f := fun j => uw (sdF f 0 j))
  have h4 : wv (fun j => sdF f 0 (8 + j)) 9 = 0 := wv_is0.mpr (fun j hj => if_neg (by omega))
  rw [h3, h4, Nat.zero_mul, Nat.add_zero]
  exact wv_congr (fun j hj => if_pos hj)
theorem sdF_1 (f : Nat → Int32) : wv (sdF f (-1)) 17 = wv f 8 + (2 ^ 288 - 1) * mM := by
  have h3 : wv (sdF f (-1)) 17 = wv (sdF f (-1)) 8 + wv (fun j => sdF f (-1) (8 + j)) 9 * kK ^ 8 := bv_add (B := kK) (n := 8) (k := 9) (f := fun j => uw (sdF f (-1) j))
  have h4 : wv (fun j => sdF f (-1) (8 + j)) 9 = wv (fun _ => (-1 : Int32)) 9 := wv_congr (fun j hj => if_neg (by omega))
  have h5 : wv (fun _ => (-1 : Int32)) 9 = 2 ^ 288 - 1 := by decide +kernel
  have h6 : wv (sdF f (-1)) 8 = wv f 8 := wv_congr (fun j hj => if_pos hj)
  rw [h3, h4, h5, h6, kK8]
theorem sar_neg {N n : Nat} (hN : N < mM) (hn : n ≤ 256) : (N + (2 ^ 288 - 1) * mM) / 2 ^ n % mM = mM - 1 - (mM - 1 - N) / 2 ^ n := by
  have e1 : N + (2 ^ 288 - 1) * mM = 2 ^ 544 - 1 - (mM - 1 - N) := by
    have a1 : (2 ^ 288 - 1) * mM = 2 ^ 544 - mM := by decide +kernel
    have a2 : mM ≤ 2 ^ 544 := by decide +kernel
    omega
  have hC : mM - 1 - N < mM := by
    have : 0 < mM := by decide
    omega
  rw [e1]
  generalize mM - 1 - N = C at *
  apply Nat.eq_of_testBit_eq
  intro i
  have m2 : mM = 2 ^ 256 := rfl
  have c1 : C / 2 ^ n < 2 ^ 256 := Nat.lt_of_le_of_lt (Nat.div_le_self _ _) hC
  rw [m2, Nat.testBit_mod_two_pow, Nat.testBit_div_two_pow, Nat.sub_sub, Nat.add_comm 1 C, Nat.testBit_two_pow_sub_succ (Nat.lt_trans hC (by decide +kernel)), Nat.sub_sub, Nat.add_comm 1 (C / 2 ^ n), Nat.testBit_two_pow_sub_succ c1, Nat.testBit_div_two_pow]
  by_cases hi : i < 256
  · rw [decide_eq_true hi, decide_eq_true (show i + n < 544 by omega)]
    rfl
  · rw [decide_eq_false hi, Bool.false_and, Bool.false_and]
/-- sign extension, by bits -/
theorem m_sext_tb {a b i : Nat} (ha : a ≤ 31) (hb : b < mM) : (m_sext a b).testBit i = if i < 8 * a + 8 then b.testBit i else (decide (i < 256) && b.testBit (8 * a + 7)) := by
  unfold m_sext
  have m2 : mM = 2 ^ 256 := rfl
  by_cases h30 : 30 < a
  · rw [if_pos h30]
    by_cases h : i < 8 * a + 8
    · rw [if_pos h]
    · rw [if_neg h, decide_eq_false (by omega), Bool.false_and, Nat.testBit_lt_two_pow (Nat.lt_of_lt_of_le hb (by rw [m2]; exact Nat.pow_le_pow_right (by decide) (by omega)))]
  · rw [if_neg h30]
    have l1 : b % 2 ^ (8 * a + 8) < 2 ^ (8 * a + 8) := Nat.mod_lt _ (Nat.two_pow_pos _)
    cases hs : b.testBit (8 * a + 7)
    · rw [if_neg (by decide), Nat.testBit_mod_two_pow]
      by_cases h : i < 8 * a + 8
      · rw [if_pos h, decide_eq_true h, Bool.true_and]
      · rw [if_neg h, decide_eq_false h, Bool.false_and, Bool.and_false]
    · rw [if_pos rfl, m2, show 2 ^ 256 - 2 ^ (8 * a + 8) = 2 ^ (8 * a + 8) * (2 ^ (256 - (8 * a + 8)) - 1) by rw [Nat.mul_sub, Nat.mul_one, ← Nat.pow_add, show 8 * a + 8 + (256 - (8 * a + 8)) = 256 by omega], Nat.add_comm, Nat.testBit_two_pow_mul_add _ l1]
      by_cases h : i < 8 * a + 8
      · rw [if_pos h, if_pos h, Nat.testBit_mod_two_pow, decide_eq_true h, Bool.true_and]
      · rw [if_neg h, if_neg h, Nat.testBit_two_pow_sub_one, Bool.and_true]
        exact decide_eq_decide.mpr (by omega)
theorem bt_uw (x : Int32) (i : Nat) : bt x i = (uw x).testBit i := rfl
theorem ext_tb {x : Int32} {s i : Nat} (hs : s < 32) (hi : i < 32) : (uw ((x <<< (nI s &&& 31)) >>> (nI s &&& 31))).testBit i = if i + s < 32 then (uw x).testBit i else (uw x).testBit (31 - s) := by
  rw [← bt_uw, b_sshr s hs _ hi]
  by_cases h : s + i < 32
  · rw [if_pos h, if_pos (by omega), b_shl s hs x h, decide_eq_true (by omega), Bool.true_and, bt_uw, show s + i - s = i by omega]
  · rw [if_neg h, if_neg (by omega), b_shl s hs x (by decide), decide_eq_true (by omega), Bool.true_and, bt_uw]
theorem neg_tb (x : Int32) : (x < 0) ↔ (uw x).testBit 31 = true := by
  rw [uw_neg, Nat.testBit_eq_decide_div_mod_eq]
  have := uw_lt' x
  rw [decide_eq_true_iff]
  show _ ↔ uw x / 2147483648 % 2 = 1
  omega
/-- the invariant of extendSign: the parts so far have the right bits -/
def ext_ok (f z : Nat → Int32) (bit k : Nat) : Prop := ∀ j, j < k → ∀ i, i < 32 → (uw (z j)).testBit i = (wv f 8).testBit (min (32 * j + i) bit)
theorem ext_lo {f z : Nat → Int32} {bit k : Nat} (h : ext_ok f z bit k) (hk : k < bit / 32) (hb : bit < 256) : ext_ok f (upd z k (f k)) bit (k + 1) := by
  intro j hj i hi
  by_cases e : j = k
  · subst e
    rw [pk_us, wv_tb (n := 8) (by omega), decide_eq_true hi, Bool.true_and, Nat.min_eq_left (by omega)]
  · rw [pk_un e]; exact h j (by omega) i hi
theorem ext_at {f z : Nat → Int32} {bit k : Nat} (h : ext_ok f z bit k) (hk : k = bit / 32) (hb : bit < 256) : ext_ok f (upd z k ((f k <<< (nI (31 - bit % 32) &&& 31)) >>> (nI (31 - bit % 32) &&& 31))) bit (k + 1) := by
  intro j hj i hi
  by_cases e : j = k
  · subst e
    rw [pk_us, ext_tb (by omega) hi]
    by_cases h1 : i + (31 - bit % 32) < 32
    · rw [if_pos h1, wv_tb (n := 8) (by omega), decide_eq_true hi, Bool.true_and, Nat.min_eq_left (by omega)]
    · rw [if_neg h1, wv_tb (n := 8) (by omega), decide_eq_true (by omega), Bool.true_and, Nat.min_eq_right (by omega), show 32 * j + (31 - (31 - bit % 32)) = bit by omega]
  · rw [pk_un e]; exact h j (by omega) i hi
theorem ext_hi {f z : Nat → Int32} {bit k : Nat} {v : Int32} (h : ext_ok f z bit k) (hk : bit / 32 < k) (hv : (z (k - 1) < 0 ∧ v = -1) ∨ (¬ z (k - 1) < 0 ∧ v = nI 0)) : ext_ok f (upd z k v) bit (k + 1) := by
  intro j hj i hi
  by_cases e : j = k
  · subst e
    have h1 := h (j - 1) (by omega) 31 (by decide)
    rw [Nat.min_eq_right (by omega)] at h1
    rw [pk_us, Nat.min_eq_right (by omega), ← h1]
    rcases hv with ⟨h2, rfl⟩ | ⟨h2, rfl⟩
    · rw [(neg_tb _).mp h2]
      have : uw (-1) = 2 ^ 32 - 1 := by decide
      rw [this, Nat.testBit_two_pow_sub_one, decide_eq_true hi]
    · have h3 : (uw (z (j - 1))).testBit 31 = false := by
        cases q : (uw (z (j - 1))).testBit 31
        · rfl
        · exact absurd ((neg_tb _).mpr q) h2
      rw [h3, uw_nI' (by decide), Nat.zero_testBit]
  · rw [pk_un e]; exact h j (by omega) i hi
theorem ext_fin {f z : Nat → Int32} {a : Nat} (ha : a ≤ 31) (h : ext_ok f z (8 * a + 7) 8) : wv z 8 = m_sext a (wv f 8) := by
  have hM : ∀ (g : Nat → Int32) (i : Nat), 256 ≤ i → (wv g 8).testBit i = false := fun g i hi => Nat.testBit_lt_two_pow (Nat.lt_of_lt_of_le (wv_lt8 g) (Nat.pow_le_pow_right (by decide) hi))
  apply Nat.eq_of_testBit_eq
  intro i
  rw [m_sext_tb ha (wv_lt8 f)]
  by_cases hi : i < 256
  · have h1 := h (i / 32) (by omega) (i % 32) (Nat.mod_lt _ (by decide))
    rw [wv_tb (n := 8) (by omega), decide_eq_true (Nat.mod_lt _ (by decide)), Bool.true_and, show 32 * (i / 32) + i % 32 = i by omega] at h1
    rw [h1]
    by_cases h2 : i < 8 * a + 8
    · rw [if_pos h2, Nat.min_eq_left (by omega)]
    · rw [if_neg h2, Nat.min_eq_right (by omega), decide_eq_true hi, Bool.true_and]
  · rw [hM z i (by omega), decide_eq_false hi, Bool.false_and]
    by_cases h2 : i < 8 * a + 8
    · omega
    · rw [if_neg h2]

abbrev y_Wo_partOr : MethodName := ⟨"WideStack$Words", "partOr", "([III)I"⟩
theorem d_Wo_partOr_0 : decode prog_10_method_25_code 0 = .ok (.iload_n 1, 1) := by decide +kernel
theorem d_Wo_partOr_1 : decode prog_10_method_25_code 1 = .ok (.ifCond .lt 15, 3) := by decide +kernel
theorem d_Wo_partOr_4 : decode prog_10_method_25_code 4 = .ok (.iload_n 1, 1) := by decide +kernel
theorem d_Wo_partOr_5 : decode prog_10_method_25_code 5 = .ok (.bipush 8, 2) := by decide +kernel
theorem d_Wo_partOr_7 : decode prog_10_method_25_code 7 = .ok (.if_icmp .ge 9, 3) := by decide +kernel
theorem d_Wo_partOr_10 : decode prog_10_method_25_code 10 = .ok (.aload_n 0, 1) := by decide +kernel
theorem d_Wo_partOr_11 : decode prog_10_method_25_code 11 = .ok (.iload_n 1, 1) := by decide +kernel
theorem d_Wo_partOr_12 : decode prog_10_method_25_code 12 = .ok (.iaload, 1) := by decide +kernel
theorem d_Wo_partOr_13 : decode prog_10_method_25_code 13 = .ok (.goto 4, 3) := by decide +kernel
theorem d_Wo_partOr_16 : decode prog_10_method_25_code 16 = .ok (.iload_n 2, 1) := by decide +kernel
theorem d_Wo_partOr_17 : decode prog_10_method_25_code 17 = .ok (.ireturn, 1) := by decide +kernel
def rm_c_W_partOr : Room := { frames := 0, cells := 0, slots := 0, locals := 0 }
set_option maxHeartbeats 4000000 in
set_option maxRecDepth 100000 in
theorem c_W_partOr (l : Launch) (E : kE) (a : Nat) (f : Nat → Int32) (x o : Int32) : Kp l y_Wo_partOr (kW y_Wo_partOr prog_10_method_25_code 3 (some .int)) rm_c_W_partOr E [.ref a, .int x, .int o] [(a, .inl (E.2.1 0, 8, .inl f))] (fun r => r = if m_in x 8 then f x.toNatClampNeg else o) := by
  refine Kp.ofI (cc := prog_10_method_25_code) (maxL := 3) (by decide) (Nat.le_of_ble_eq_true rfl) ?_
  intro p e s m args below meth c A ls Q hx hb hts hown hml hK hG hA hP hD hS hl hret
  have hl : lv_has ls 3 [(0, .ref a), (1, .int x), (2, .int o)] := hl
  refine lv_iload_n hx hb d_Wo_partOr_0 rfl (lv_at hl 1 rfl) ?_
  refine lv_if_lt (tgt := 16) hx hb d_Wo_partOr_1 (by decide) (fun h1 => ?_) (fun h1 => ?_)
  · refine lv_iload_n hx hb d_Wo_partOr_16 rfl (lv_at hl 2 rfl) ?_
    first | exact hret _ ls _ d_Wo_partOr_17 (by rw [if_pos hin, nI_clamp (by omega)]) | exact hret _ ls _ d_Wo_partOr_17 (by rw [m_in_f1 h1]; rfl) | exact hret _ ls _ d_Wo_partOr_17 (by rw [m_in_f2 h7]; rfl)
  · refine lv_iload_n hx hb d_Wo_partOr_4 rfl (lv_at hl 1 rfl) ?_
    refine lv_bipush (v := nI 8) hx hb d_Wo_partOr_5 (by decide) ?_
    refine lv_icmp_ge (tgt := 16) hx hb d_Wo_partOr_7 (by decide) (fun h7 => ?_) (fun h7 => ?_)
    · refine lv_iload_n hx hb d_Wo_partOr_16 rfl (lv_at hl 2 rfl) ?_
      first | exact hret _ ls _ d_Wo_partOr_17 (by rw [if_pos hin, nI_clamp (by omega)]) | exact hret _ ls _ d_Wo_partOr_17 (by rw [m_in_f1 h1]; rfl) | exact hret _ ls _ d_Wo_partOr_17 (by rw [m_in_f2 h7]; rfl)
    · have hin := m_in_t (n := 8) (by decide) h1 h7
      obtain ⟨j, hj, rfl⟩ := m_in_of (by decide) hin
      refine lv_aload_n hx hb d_Wo_partOr_10 rfl (lv_at hl 0 rfl) ?_
      refine lv_iload_n hx hb d_Wo_partOr_11 rfl (lv_at hl 1 rfl) ?_
      refine k_iald hx hb hK hP 0 rfl (i := j) (by omega) (by omega) d_Wo_partOr_12 ?_
      refine lv_goto (tgt := 17) hx hb d_Wo_partOr_13 (by decide) ?_
      first | exact hret _ ls _ d_Wo_partOr_17 (by rw [if_pos hin, nI_clamp (by omega)]) | exact hret _ ls _ d_Wo_partOr_17 (by rw [m_in_f1 h1]; rfl) | exact hret _ ls _ d_Wo_partOr_17 (by rw [m_in_f2 h7]; rfl)

abbrev y_Wo_shiftUp : MethodName := ⟨"WideStack$Words", "shiftUp", "([II[I)V"⟩
theorem d_Wo_shiftUp_0 : decode prog_10_method_22_code 0 = .ok (.iload_n 1, 1) := by decide +kernel
theorem d_Wo_shiftUp_1 : decode prog_10_method_22_code 1 = .ok (.bipush 32, 2) := by decide +kernel
theorem d_Wo_shiftUp_3 : decode prog_10_method_22_code 3 = .ok (.idiv, 1) := by decide +kernel
theorem d_Wo_shiftUp_4 : decode prog_10_method_22_code 4 = .ok (.istore_n 3, 1) := by decide +kernel
theorem d_Wo_shiftUp_5 : decode prog_10_method_22_code 5 = .ok (.iload_n 1, 1) := by decide +kernel
theorem d_Wo_shiftUp_6 : decode prog_10_method_22_code 6 = .ok (.bipush 32, 2) := by decide +kernel
theorem d_Wo_shiftUp_8 : decode prog_10_method_22_code 8 = .ok (.irem, 1) := by decide +kernel
theorem d_Wo_shiftUp_9 : decode prog_10_method_22_code 9 = .ok (.istore 4, 2) := by decide +kernel
theorem d_Wo_shiftUp_11 : decode prog_10_method_22_code 11 = .ok (.iconst 0, 1) := by decide +kernel
theorem d_Wo_shiftUp_12 : decode prog_10_method_22_code 12 = .ok (.istore 5, 2) := by decide +kernel
theorem d_Wo_shiftUp_14 : decode prog_10_method_22_code 14 = .ok (.iload 5, 2) := by decide +kernel
theorem d_Wo_shiftUp_16 : decode prog_10_method_22_code 16 = .ok (.bipush 8, 2) := by decide +kernel
theorem d_Wo_shiftUp_18 : decode prog_10_method_22_code 18 = .ok (.if_icmp .ge 58, 3) := by decide +kernel
theorem d_Wo_shiftUp_21 : decode prog_10_method_22_code 21 = .ok (.aload_n 0, 1) := by decide +kernel
theorem d_Wo_shiftUp_22 : decode prog_10_method_22_code 22 = .ok (.iload 5, 2) := by decide +kernel
theorem d_Wo_shiftUp_24 : decode prog_10_method_22_code 24 = .ok (.iload_n 3, 1) := by decide +kernel
theorem d_Wo_shiftUp_25 : decode prog_10_method_22_code 25 = .ok (.isub, 1) := by decide +kernel
theorem d_Wo_shiftUp_26 : decode prog_10_method_22_code 26 = .ok (.iconst 0, 1) := by decide +kernel
theorem d_Wo_shiftUp_27 : decode prog_10_method_22_code 27 = .ok (.invokestatic 45, 3) := by decide +kernel
theorem d_Wo_shiftUp_30 : decode prog_10_method_22_code 30 = .ok (.i2l, 1) := by decide +kernel
theorem d_Wo_shiftUp_31 : decode prog_10_method_22_code 31 = .ok (.ldc2_w 28, 3) := by decide +kernel
theorem d_Wo_shiftUp_34 : decode prog_10_method_22_code 34 = .ok (.land, 1) := by decide +kernel
theorem d_Wo_shiftUp_35 : decode prog_10_method_22_code 35 = .ok (.bipush 32, 2) := by decide +kernel
theorem d_Wo_shiftUp_37 : decode prog_10_method_22_code 37 = .ok (.lshl, 1) := by decide +kernel
theorem d_Wo_shiftUp_38 : decode prog_10_method_22_code 38 = .ok (.aload_n 0, 1) := by decide +kernel
theorem d_Wo_shiftUp_39 : decode prog_10_method_22_code 39 = .ok (.iload 5, 2) := by decide +kernel
theorem d_Wo_shiftUp_41 : decode prog_10_method_22_code 41 = .ok (.iload_n 3, 1) := by decide +kernel
theorem d_Wo_shiftUp_42 : decode prog_10_method_22_code 42 = .ok (.isub, 1) := by decide +kernel
theorem d_Wo_shiftUp_43 : decode prog_10_method_22_code 43 = .ok (.iconst 1, 1) := by decide +kernel
theorem d_Wo_shiftUp_44 : decode prog_10_method_22_code 44 = .ok (.isub, 1) := by decide +kernel
theorem d_Wo_shiftUp_45 : decode prog_10_method_22_code 45 = .ok (.iconst 0, 1) := by decide +kernel
theorem d_Wo_shiftUp_46 : decode prog_10_method_22_code 46 = .ok (.invokestatic 45, 3) := by decide +kernel
theorem d_Wo_shiftUp_49 : decode prog_10_method_22_code 49 = .ok (.i2l, 1) := by decide +kernel
theorem d_Wo_shiftUp_50 : decode prog_10_method_22_code 50 = .ok (.ldc2_w 28, 3) := by decide +kernel
theorem d_Wo_shiftUp_53 : decode prog_10_method_22_code 53 = .ok (.land, 1) := by decide +kernel
theorem d_Wo_shiftUp_54 : decode prog_10_method_22_code 54 = .ok (.lor, 1) := by decide +kernel
theorem d_Wo_shiftUp_55 : decode prog_10_method_22_code 55 = .ok (.lstore 6, 2) := by decide +kernel
theorem d_Wo_shiftUp_57 : decode prog_10_method_22_code 57 = .ok (.aload_n 2, 1) := by decide +kernel
theorem d_Wo_shiftUp_58 : decode prog_10_method_22_code 58 = .ok (.iload 5, 2) := by decide +kernel
theorem d_Wo_shiftUp_60 : decode prog_10_method_22_code 60 = .ok (.lload 6, 2) := by decide +kernel
theorem d_Wo_shiftUp_62 : decode prog_10_method_22_code 62 = .ok (.bipush 32, 2) := by decide +kernel
theorem d_Wo_shiftUp_64 : decode prog_10_method_22_code 64 = .ok (.iload 4, 2) := by decide +kernel
theorem d_Wo_shiftUp_66 : decode prog_10_method_22_code 66 = .ok (.isub, 1) := by decide +kernel
theorem d_Wo_shiftUp_67 : decode prog_10_method_22_code 67 = .ok (.lushr, 1) := by decide +kernel
theorem d_Wo_shiftUp_68 : decode prog_10_method_22_code 68 = .ok (.l2i, 1) := by decide +kernel
theorem d_Wo_shiftUp_69 : decode prog_10_method_22_code 69 = .ok (.iastore, 1) := by decide +kernel
theorem d_Wo_shiftUp_70 : decode prog_10_method_22_code 70 = .ok (.iinc 5 1, 3) := by decide +kernel
theorem d_Wo_shiftUp_73 : decode prog_10_method_22_code 73 = .ok (.goto (-59), 3) := by decide +kernel
theorem d_Wo_shiftUp_76 : decode prog_10_method_22_code 76 = .ok (.return_, 1) := by decide +kernel
def rm_c_W_shiftUp : Room := { frames := 1, cells := 0, slots := 0, locals := 22 }
set_option maxHeartbeats 4000000 in
set_option maxRecDepth 100000 in
theorem c_W_shiftUp (l : Launch) (E : kE) (a t cn : Nat) (f y : Nat → Int32) (hcn : cn ≤ 256) : Kv l y_Wo_shiftUp (kW y_Wo_shiftUp prog_10_method_22_code 8 (none)) rm_c_W_shiftUp E [.ref a, .int (nI cn), .ref t] [(a, .inl (E.2.1 0, 8, .inl f)), (t, .inl (E.2.1 0, 8, .inl y))] (S := Nat → Int32) (fun u => wv u 8 = wv f 8 * 2 ^ cn % mM) (fun u => [(a, .inl (E.2.1 0, 8, .inl f)), (t, .inl (E.2.1 0, 8, .inl u))]) := by
  refine Kv.ofW (cc := prog_10_method_22_code) (maxL := 8) (by decide) (Nat.le_of_ble_eq_true rfl) ?_
  intro p e s m args below meth c A ls Q hx hb hts hown hml hK hG hA hP hD hS hl hret
  have hl : lv_has ls 8 [(0, .ref a), (1, .int (nI cn)), (2, .ref t)] := hl
  refine lv_iload_n hx hb d_Wo_shiftUp_0 rfl (lv_at hl 1 rfl) ?_
  refine lv_bipush (v := nI 32) hx hb d_Wo_shiftUp_1 (by decide) ?_
  refine lv_idiv hx hb d_Wo_shiftUp_3 (by decide) ?_
  refine k_top (pk_div (by omega) (by decide) (by decide)) ?_
  refine lv_istore_n (lv' := [(3, .int (nI (cn / 32))), (0, .ref a), (1, .int (nI cn)), (2, .ref t)]) hx hb d_Wo_shiftUp_4 rfl hl (by decide) rfl (fun ls hl => ?_)
  refine lv_iload_n hx hb d_Wo_shiftUp_5 rfl (lv_at hl 2 rfl) ?_
  refine lv_bipush (v := nI 32) hx hb d_Wo_shiftUp_6 (by decide) ?_
  refine lv_irem hx hb d_Wo_shiftUp_8 (by decide) ?_
  refine k_top (pk_rem (by omega) (by decide) (by decide)) ?_
  refine lv_istore (lv' := [(4, .int (nI (cn % 32))), (3, .int (nI (cn / 32))), (0, .ref a), (1, .int (nI cn)), (2, .ref t)]) hx hb d_Wo_shiftUp_9 hl (by decide) rfl (fun ls hl => ?_)
  refine lv_iconst (v := nI 0) hx hb d_Wo_shiftUp_11 (by decide) ?_
  refine lv_istore (lv' := [(5, .int (nI 0)), (4, .int (nI (cn % 32))), (3, .int (nI (cn / 32))), (0, .ref a), (1, .int (nI cn)), (2, .ref t)]) hx hb d_Wo_shiftUp_12 hl (by decide) rfl (fun ls hl => ?_)
  have key14 : ∀ (n : Nat) (i : Nat) (z : Nat → Int32) (H : Heap) (locs : List Loc) (ls : Array Slot), i + n = 8 → (∀ j, j < i → uw (z j) = wv f 8 * 2 ^ cn / kK ^ j % kK) → lv_has ls 8 [(5, .int (nI i)), (3, .int (nI (cn / 32))), (4, .int (nI (cn % 32))), (0, .ref a), (2, .ref t)] → va_P E.1 vwCl [(a, .inl (E.2.1 0, 8, .inl f)), (t, .inl (E.2.1 0, 8, .inl z))] H → va_D A [(a, .inl (E.2.1 0, 8, .inl f)), (t, .inl (E.2.1 0, 8, .inl z))] → va_S A s.heap H locs → W p l e rm_c_W_shiftUp s m args below meth c H locs 0 0 Q (F0 m 14 ls []) := by
    intro n
    induction n using Nat.strongRecOn with
    | ind n ih =>
      intro i z H locs ls hn hI hl hP hD hS
      have b1 := uw_lt' (sdU f i (cn / 32))
      have b2 := uw_lt' (sdU f i (cn / 32 + 1))
      refine lv_iload hx hb d_Wo_shiftUp_14 (lv_at hl 0 rfl) ?_
      refine lv_bipush (v := nI 8) hx hb d_Wo_shiftUp_16 (by decide) ?_
      refine kn_ge (tgt := 76) hx hb (by omega) (by omega) d_Wo_shiftUp_18 (by decide) (fun h18 => ?_) (fun h18 => ?_)
      · obtain rfl : i = 8 := by omega
        exact hret _ ls _ _ z d_Wo_shiftUp_76 (by rw [← kK8]; exact bv_of (f := fun j => uw (z j)) hI) hP hS
      · refine lv_aload_n hx hb d_Wo_shiftUp_21 rfl (lv_at hl 3 rfl) ?_
        refine lv_iload hx hb d_Wo_shiftUp_22 (lv_at hl 0 rfl) ?_
        refine lv_iload_n hx hb d_Wo_shiftUp_24 rfl (lv_at hl 1 rfl) ?_
        refine lv_isub hx hb d_Wo_shiftUp_25 ?_
        refine lv_iconst (v := nI 0) hx hb d_Wo_shiftUp_26 (by decide) ?_
        refine k_Sp (As := [.ref a, .int ((nI i) - (nI (cn / 32))), .int (nI 0)]) (rest := []) ⟨hx, hb, hml, hown, hts⟩ (c_W_partOr l E a f (nI i - nI (cn / 32)) (nI 0)) (k_cwS 3 hts t_624 t_625 t_73 t_626 (by decide +kernel) ⟨Nat.le_of_ble_eq_true rfl, Nat.le_of_ble_eq_true rfl⟩) hK hG hA hP hD hS [0] rfl (by decide) rfl hl.1 rfl (Nat.le_of_ble_eq_true rfl) d_Wo_shiftUp_27 ⟨Nat.zero_le _, Nat.zero_le _⟩ (fun r27 hu27 => ?_)
        have hu27 := hu27.trans (sd_in (by omega) (by omega))
        subst hu27
        refine lv_i2l (v := (sdU f i (cn / 32)).toInt64) hx hb d_Wo_shiftUp_30 rfl ?_
        refine lv_ldc2 (v := 4294967295) hx hb hown (hts _ t_515) d_Wo_shiftUp_31 ?_
        refine lv_land hx hb d_Wo_shiftUp_34 ?_
        refine k_topl (k_lo _) ?_
        refine lv_bipush (v := nI 32) hx hb d_Wo_shiftUp_35 (by decide) ?_
        refine lv_lshl (v := lN ((uw (sdU f i (cn / 32))) * 4294967296)) hx hb d_Wo_shiftUp_37 (wb_shl _ (by decide)) ?_
        refine lv_aload_n hx hb d_Wo_shiftUp_38 rfl (lv_at hl 3 rfl) ?_
        refine lv_iload hx hb d_Wo_shiftUp_39 (lv_at hl 0 rfl) ?_
        refine lv_iload_n hx hb d_Wo_shiftUp_41 rfl (lv_at hl 1 rfl) ?_
        refine lv_isub hx hb d_Wo_shiftUp_42 ?_
        refine lv_iconst (v := nI 1) hx hb d_Wo_shiftUp_43 (by decide) ?_
        refine lv_isub hx hb d_Wo_shiftUp_44 ?_
        refine lv_iconst (v := nI 0) hx hb d_Wo_shiftUp_45 (by decide) ?_
        refine k_Sp (As := [.ref a, .int (((nI i) - (nI (cn / 32))) - (nI 1)), .int (nI 0)]) (rest := [.long (lN ((uw (sdU f i (cn / 32))) * 4294967296))]) ⟨hx, hb, hml, hown, hts⟩ (c_W_partOr l E a f ((nI i - nI (cn / 32)) - nI 1) (nI 0)) (k_cwS 3 hts t_624 t_625 t_73 t_626 (by decide +kernel) ⟨Nat.le_of_ble_eq_true rfl, Nat.le_of_ble_eq_true rfl⟩) hK hG hA hP hD hS [0] rfl (by decide) rfl hl.1 rfl (Nat.le_of_ble_eq_true rfl) d_Wo_shiftUp_46 ⟨Nat.zero_le _, Nat.zero_le _⟩ (fun r46 hu46 => ?_)
        have hu46 := hu46.trans (sd_in1 (by omega) (by omega))
        subst hu46
        refine lv_i2l (v := (sdU f i (cn / 32 + 1)).toInt64) hx hb d_Wo_shiftUp_49 rfl ?_
        refine lv_ldc2 (v := 4294967295) hx hb hown (hts _ t_515) d_Wo_shiftUp_50 ?_
        refine lv_land hx hb d_Wo_shiftUp_53 ?_
        refine k_topl (k_lo _) ?_
        refine lv_lor hx hb d_Wo_shiftUp_54 ?_
        refine k_topl (g_or (k := 32) rfl b2 (by omega)) ?_
        refine lv_lstore (lv' := [(6, .long (lN ((uw (sdU f i (cn / 32))) * 4294967296 + (uw (sdU f i (cn / 32 + 1)))))), (5, .int (nI i)), (3, .int (nI (cn / 32))), (4, .int (nI (cn % 32))), (0, .ref a), (2, .ref t)]) hx hb d_Wo_shiftUp_55 hl (by decide) rfl (fun ls hl => ?_)
        refine lv_aload_n hx hb d_Wo_shiftUp_57 rfl (lv_at hl 5 rfl) ?_
        refine lv_iload hx hb d_Wo_shiftUp_58 (lv_at hl 1 rfl) ?_
        refine lv_lload hx hb d_Wo_shiftUp_60 (lv_at hl 0 rfl) ?_
        refine lv_bipush (v := nI 32) hx hb d_Wo_shiftUp_62 (by decide) ?_
        refine lv_iload hx hb d_Wo_shiftUp_64 (lv_at hl 3 rfl) ?_
        refine lv_isub hx hb d_Wo_shiftUp_66 ?_
        refine k_top (pk_sub (by omega)) ?_
        refine lv_lushr (v := lN (((uw (sdU f i (cn / 32))) * 4294967296 + (uw (sdU f i (cn / 32 + 1)))) / 2 ^ (32 - (cn % 32)))) hx hb d_Wo_shiftUp_67 (wb_shr (by omega) (by omega)) ?_
        refine lv_l2i (v := nI (((uw (sdU f i (cn / 32))) * 4294967296 + (uw (sdU f i (cn / 32 + 1)))) / 2 ^ (32 - (cn % 32)))) hx hb d_Wo_shiftUp_68 (lN_i _) ?_
        refine k_iast hx hb hK hP hD hS 1 rfl (i := i) (by omega) (by omega) d_Wo_shiftUp_69 (fun H locs hP hD hS => ?_)
        have hP : va_P E.1 vwCl [(a, .inl (E.2.1 0, 8, .inl f)), (t, .inl (E.2.1 0, 8, .inl (upd z i (nI (((uw (sdU f i (cn / 32))) * 4294967296 + (uw (sdU f i (cn / 32 + 1)))) / 2 ^ (32 - (cn % 32)))))))] H := hP
        have hD : va_D A [(a, .inl (E.2.1 0, 8, .inl f)), (t, .inl (E.2.1 0, 8, .inl (upd z i (nI (((uw (sdU f i (cn / 32))) * 4294967296 + (uw (sdU f i (cn / 32 + 1)))) / 2 ^ (32 - (cn % 32)))))))] := hD
        refine lv_iinc (k := 1) (v := nI (i + 1)) (lv' := [(5, .int (nI (i + 1))), (6, .long (lN ((uw (sdU f i (cn / 32))) * 4294967296 + (uw (sdU f i (cn / 32 + 1)))))), (3, .int (nI (cn / 32))), (4, .int (nI (cn % 32))), (0, .ref a), (2, .ref t)]) hx hb d_Wo_shiftUp_70 hl rfl (k_inc _) (by decide) rfl (fun ls hl => ?_)
        refine lv_goto (tgt := 14) hx hb d_Wo_shiftUp_73 (by decide) ?_
        exact ih (n - 1) (by omega) (i + 1) (upd z i (nI ((uw (sdU f i (cn / 32)) * 4294967296 + uw (sdU f i (cn / 32 + 1))) / 2 ^ (32 - cn % 32)))) _ _ ls (by omega) (fun j hj => if q : j = i then by subst q; rw [pk_us, uw_nI]; exact sh_up h18 else by rw [pk_un q]; exact hI j (by omega)) (lv_sub hl [0, 2, 3, 4, 5] rfl) hP hD hS
  exact key14 8 0 y _ _ ls (by omega) (fun j hj => absurd hj (Nat.not_lt_zero j)) (lv_sub hl [0, 2, 1, 3, 5] rfl) hP hD hS

abbrev y_Wo_shiftDown : MethodName := ⟨"WideStack$Words", "shiftDown", "([III[I)V"⟩
theorem d_Wo_shiftDown_0 : decode prog_10_method_23_code 0 = .ok (.iload_n 1, 1) := by decide +kernel
theorem d_Wo_shiftDown_1 : decode prog_10_method_23_code 1 = .ok (.bipush 32, 2) := by decide +kernel
theorem d_Wo_shiftDown_3 : decode prog_10_method_23_code 3 = .ok (.idiv, 1) := by decide +kernel
theorem d_Wo_shiftDown_4 : decode prog_10_method_23_code 4 = .ok (.istore 4, 2) := by decide +kernel
theorem d_Wo_shiftDown_6 : decode prog_10_method_23_code 6 = .ok (.iload_n 1, 1) := by decide +kernel
theorem d_Wo_shiftDown_7 : decode prog_10_method_23_code 7 = .ok (.bipush 32, 2) := by decide +kernel
theorem d_Wo_shiftDown_9 : decode prog_10_method_23_code 9 = .ok (.irem, 1) := by decide +kernel
theorem d_Wo_shiftDown_10 : decode prog_10_method_23_code 10 = .ok (.istore 5, 2) := by decide +kernel
theorem d_Wo_shiftDown_12 : decode prog_10_method_23_code 12 = .ok (.iconst 0, 1) := by decide +kernel
theorem d_Wo_shiftDown_13 : decode prog_10_method_23_code 13 = .ok (.istore 6, 2) := by decide +kernel
theorem d_Wo_shiftDown_15 : decode prog_10_method_23_code 15 = .ok (.iload 6, 2) := by decide +kernel
theorem d_Wo_shiftDown_17 : decode prog_10_method_23_code 17 = .ok (.bipush 8, 2) := by decide +kernel
theorem d_Wo_shiftDown_19 : decode prog_10_method_23_code 19 = .ok (.if_icmp .ge 57, 3) := by decide +kernel
theorem d_Wo_shiftDown_22 : decode prog_10_method_23_code 22 = .ok (.aload_n 0, 1) := by decide +kernel
theorem d_Wo_shiftDown_23 : decode prog_10_method_23_code 23 = .ok (.iload 6, 2) := by decide +kernel
theorem d_Wo_shiftDown_25 : decode prog_10_method_23_code 25 = .ok (.iload 4, 2) := by decide +kernel
theorem d_Wo_shiftDown_27 : decode prog_10_method_23_code 27 = .ok (.iadd, 1) := by decide +kernel
theorem d_Wo_shiftDown_28 : decode prog_10_method_23_code 28 = .ok (.iconst 1, 1) := by decide +kernel
theorem d_Wo_shiftDown_29 : decode prog_10_method_23_code 29 = .ok (.iadd, 1) := by decide +kernel
theorem d_Wo_shiftDown_30 : decode prog_10_method_23_code 30 = .ok (.iload_n 2, 1) := by decide +kernel
theorem d_Wo_shiftDown_31 : decode prog_10_method_23_code 31 = .ok (.invokestatic 45, 3) := by decide +kernel
theorem d_Wo_shiftDown_34 : decode prog_10_method_23_code 34 = .ok (.i2l, 1) := by decide +kernel
theorem d_Wo_shiftDown_35 : decode prog_10_method_23_code 35 = .ok (.ldc2_w 28, 3) := by decide +kernel
theorem d_Wo_shiftDown_38 : decode prog_10_method_23_code 38 = .ok (.land, 1) := by decide +kernel
theorem d_Wo_shiftDown_39 : decode prog_10_method_23_code 39 = .ok (.bipush 32, 2) := by decide +kernel
theorem d_Wo_shiftDown_41 : decode prog_10_method_23_code 41 = .ok (.lshl, 1) := by decide +kernel
theorem d_Wo_shiftDown_42 : decode prog_10_method_23_code 42 = .ok (.aload_n 0, 1) := by decide +kernel
theorem d_Wo_shiftDown_43 : decode prog_10_method_23_code 43 = .ok (.iload 6, 2) := by decide +kernel
theorem d_Wo_shiftDown_45 : decode prog_10_method_23_code 45 = .ok (.iload 4, 2) := by decide +kernel
theorem d_Wo_shiftDown_47 : decode prog_10_method_23_code 47 = .ok (.iadd, 1) := by decide +kernel
theorem d_Wo_shiftDown_48 : decode prog_10_method_23_code 48 = .ok (.iload_n 2, 1) := by decide +kernel
theorem d_Wo_shiftDown_49 : decode prog_10_method_23_code 49 = .ok (.invokestatic 45, 3) := by decide +kernel
theorem d_Wo_shiftDown_52 : decode prog_10_method_23_code 52 = .ok (.i2l, 1) := by decide +kernel
theorem d_Wo_shiftDown_53 : decode prog_10_method_23_code 53 = .ok (.ldc2_w 28, 3) := by decide +kernel
theorem d_Wo_shiftDown_56 : decode prog_10_method_23_code 56 = .ok (.land, 1) := by decide +kernel
theorem d_Wo_shiftDown_57 : decode prog_10_method_23_code 57 = .ok (.lor, 1) := by decide +kernel
theorem d_Wo_shiftDown_58 : decode prog_10_method_23_code 58 = .ok (.lstore 7, 2) := by decide +kernel
theorem d_Wo_shiftDown_60 : decode prog_10_method_23_code 60 = .ok (.aload_n 3, 1) := by decide +kernel
theorem d_Wo_shiftDown_61 : decode prog_10_method_23_code 61 = .ok (.iload 6, 2) := by decide +kernel
theorem d_Wo_shiftDown_63 : decode prog_10_method_23_code 63 = .ok (.lload 7, 2) := by decide +kernel
theorem d_Wo_shiftDown_65 : decode prog_10_method_23_code 65 = .ok (.iload 5, 2) := by decide +kernel
theorem d_Wo_shiftDown_67 : decode prog_10_method_23_code 67 = .ok (.lushr, 1) := by decide +kernel
theorem d_Wo_shiftDown_68 : decode prog_10_method_23_code 68 = .ok (.l2i, 1) := by decide +kernel
theorem d_Wo_shiftDown_69 : decode prog_10_method_23_code 69 = .ok (.iastore, 1) := by decide +kernel
theorem d_Wo_shiftDown_70 : decode prog_10_method_23_code 70 = .ok (.iinc 6 1, 3) := by decide +kernel
theorem d_Wo_shiftDown_73 : decode prog_10_method_23_code 73 = .ok (.goto (-58), 3) := by decide +kernel
theorem d_Wo_shiftDown_76 : decode prog_10_method_23_code 76 = .ok (.return_, 1) := by decide +kernel
def rm_c_W_shiftDown : Room := { frames := 1, cells := 0, slots := 0, locals := 22 }
set_option maxHeartbeats 4000000 in
set_option maxRecDepth 100000 in
theorem c_W_shiftDown (l : Launch) (E : kE) (a t cn : Nat) (o : Int32) (f y : Nat → Int32) (hcn : cn ≤ 256) : Kv l y_Wo_shiftDown (kW y_Wo_shiftDown prog_10_method_23_code 9 (none)) rm_c_W_shiftDown E [.ref a, .int (nI cn), .int o, .ref t] [(a, .inl (E.2.1 0, 8, .inl f)), (t, .inl (E.2.1 0, 8, .inl y))] (S := Nat → Int32) (fun u => wv u 8 = wv (sdF f o) 17 / 2 ^ cn % mM) (fun u => [(a, .inl (E.2.1 0, 8, .inl f)), (t, .inl (E.2.1 0, 8, .inl u))]) := by
  refine Kv.ofW (cc := prog_10_method_23_code) (maxL := 9) (by decide) (Nat.le_of_ble_eq_true rfl) ?_
  intro p e s m args below meth c A ls Q hx hb hts hown hml hK hG hA hP hD hS hl hret
  have hl : lv_has ls 9 [(0, .ref a), (1, .int (nI cn)), (2, .int o), (3, .ref t)] := hl
  refine lv_iload_n hx hb d_Wo_shiftDown_0 rfl (lv_at hl 1 rfl) ?_
  refine lv_bipush (v := nI 32) hx hb d_Wo_shiftDown_1 (by decide) ?_
  refine lv_idiv hx hb d_Wo_shiftDown_3 (by decide) ?_
  refine k_top (pk_div (by omega) (by decide) (by decide)) ?_
  refine lv_istore (lv' := [(4, .int (nI (cn / 32))), (0, .ref a), (1, .int (nI cn)), (2, .int o), (3, .ref t)]) hx hb d_Wo_shiftDown_4 hl (by decide) rfl (fun ls hl => ?_)
  refine lv_iload_n hx hb d_Wo_shiftDown_6 rfl (lv_at hl 2 rfl) ?_
  refine lv_bipush (v := nI 32) hx hb d_Wo_shiftDown_7 (by decide) ?_
  refine lv_irem hx hb d_Wo_shiftDown_9 (by decide) ?_
  refine k_top (pk_rem (by omega) (by decide) (by decide)) ?_
  refine lv_istore (lv' := [(5, .int (nI (cn % 32))), (4, .int (nI (cn / 32))), (0, .ref a), (1, .int (nI cn)), (2, .int o), (3, .ref t)]) hx hb d_Wo_shiftDown_10 hl (by decide) rfl (fun ls hl => ?_)
  refine lv_iconst (v := nI 0) hx hb d_Wo_shiftDown_12 (by decide) ?_
  refine lv_istore (lv' := [(6, .int (nI 0)), (5, .int (nI (cn % 32))), (4, .int (nI (cn / 32))), (0, .ref a), (1, .int (nI cn)), (2, .int o), (3, .ref t)]) hx hb d_Wo_shiftDown_13 hl (by decide) rfl (fun ls hl => ?_)
  have key15 : ∀ (n : Nat) (i : Nat) (z : Nat → Int32) (H : Heap) (locs : List Loc) (ls : Array Slot), i + n = 8 → (∀ j, j < i → uw (z j) = wv (sdF f o) 17 / 2 ^ cn / kK ^ j % kK) → lv_has ls 9 [(6, .int (nI i)), (4, .int (nI (cn / 32))), (5, .int (nI (cn % 32))), (0, .ref a), (2, .int o), (3, .ref t)] → va_P E.1 vwCl [(a, .inl (E.2.1 0, 8, .inl f)), (t, .inl (E.2.1 0, 8, .inl z))] H → va_D A [(a, .inl (E.2.1 0, 8, .inl f)), (t, .inl (E.2.1 0, 8, .inl z))] → va_S A s.heap H locs → W p l e rm_c_W_shiftDown s m args below meth c H locs 0 0 Q (F0 m 15 ls []) := by
    intro n
    induction n using Nat.strongRecOn with
    | ind n ih =>
      intro i z H locs ls hn hI hl hP hD hS
      have b1 := uw_lt' (sdF f o (i + cn / 32 + 1))
      have b2 := uw_lt' (sdF f o (i + cn / 32))
      refine lv_iload hx hb d_Wo_shiftDown_15 (lv_at hl 0 rfl) ?_
      refine lv_bipush (v := nI 8) hx hb d_Wo_shiftDown_17 (by decide) ?_
      refine kn_ge (tgt := 76) hx hb (by omega) (by omega) d_Wo_shiftDown_19 (by decide) (fun h19 => ?_) (fun h19 => ?_)
      · obtain rfl : i = 8 := by omega
        exact hret _ ls _ _ z d_Wo_shiftDown_76 (by rw [← kK8]; exact bv_of (f := fun j => uw (z j)) hI) hP hS
      · refine lv_aload_n hx hb d_Wo_shiftDown_22 rfl (lv_at hl 3 rfl) ?_
        refine lv_iload hx hb d_Wo_shiftDown_23 (lv_at hl 0 rfl) ?_
        refine lv_iload hx hb d_Wo_shiftDown_25 (lv_at hl 1 rfl) ?_
        refine lv_iadd hx hb d_Wo_shiftDown_27 ?_
        refine k_top (nI_add _ _) ?_
        refine lv_iconst (v := nI 1) hx hb d_Wo_shiftDown_28 (by decide) ?_
        refine lv_iadd hx hb d_Wo_shiftDown_29 ?_
        refine k_top (nI_add _ _) ?_
        refine lv_iload_n hx hb d_Wo_shiftDown_30 rfl (lv_at hl 4 rfl) ?_
        refine k_Sp (As := [.ref a, .int (nI ((i + (cn / 32)) + 1)), .int o]) (rest := []) ⟨hx, hb, hml, hown, hts⟩ (c_W_partOr l E a f (nI (i + cn / 32 + 1)) o) (k_cwS 3 hts t_624 t_625 t_73 t_626 (by decide +kernel) ⟨Nat.le_of_ble_eq_true rfl, Nat.le_of_ble_eq_true rfl⟩) hK hG hA hP hD hS [0] rfl (by decide) rfl hl.1 rfl (Nat.le_of_ble_eq_true rfl) d_Wo_shiftDown_31 ⟨Nat.zero_le _, Nat.zero_le _⟩ (fun r31 hu31 => ?_)
        have hu31 := hu31.trans (sf_in (by omega))
        subst hu31
        refine lv_i2l (v := (sdF f o (i + cn / 32 + 1)).toInt64) hx hb d_Wo_shiftDown_34 rfl ?_
        refine lv_ldc2 (v := 4294967295) hx hb hown (hts _ t_515) d_Wo_shiftDown_35 ?_
        refine lv_land hx hb d_Wo_shiftDown_38 ?_
        refine k_topl (k_lo _) ?_
        refine lv_bipush (v := nI 32) hx hb d_Wo_shiftDown_39 (by decide) ?_
        refine lv_lshl (v := lN ((uw (sdF f o (i + cn / 32 + 1))) * 4294967296)) hx hb d_Wo_shiftDown_41 (wb_shl _ (by decide)) ?_
        refine lv_aload_n hx hb d_Wo_shiftDown_42 rfl (lv_at hl 3 rfl) ?_
        refine lv_iload hx hb d_Wo_shiftDown_43 (lv_at hl 0 rfl) ?_
        refine lv_iload hx hb d_Wo_shiftDown_45 (lv_at hl 1 rfl) ?_
        refine lv_iadd hx hb d_Wo_shiftDown_47 ?_
        refine k_top (nI_add _ _) ?_
        refine lv_iload_n hx hb d_Wo_shiftDown_48 rfl (lv_at hl 4 rfl) ?_
        refine k_Sp (As := [.ref a, .int (nI (i + (cn / 32))), .int o]) (rest := [.long (lN ((uw (sdF f o (i + cn / 32 + 1))) * 4294967296))]) ⟨hx, hb, hml, hown, hts⟩ (c_W_partOr l E a f (nI (i + cn / 32)) o) (k_cwS 3 hts t_624 t_625 t_73 t_626 (by decide +kernel) ⟨Nat.le_of_ble_eq_true rfl, Nat.le_of_ble_eq_true rfl⟩) hK hG hA hP hD hS [0] rfl (by decide) rfl hl.1 rfl (Nat.le_of_ble_eq_true rfl) d_Wo_shiftDown_49 ⟨Nat.zero_le _, Nat.zero_le _⟩ (fun r49 hu49 => ?_)
        have hu49 := hu49.trans (sf_in (by omega))
        subst hu49
        refine lv_i2l (v := (sdF f o (i + cn / 32)).toInt64) hx hb d_Wo_shiftDown_52 rfl ?_
        refine lv_ldc2 (v := 4294967295) hx hb hown (hts _ t_515) d_Wo_shiftDown_53 ?_
        refine lv_land hx hb d_Wo_shiftDown_56 ?_
        refine k_topl (k_lo _) ?_
        refine lv_lor hx hb d_Wo_shiftDown_57 ?_
        refine k_topl (g_or (k := 32) rfl b2 (by omega)) ?_
        refine lv_lstore (lv' := [(7, .long (lN ((uw (sdF f o (i + cn / 32 + 1))) * 4294967296 + (uw (sdF f o (i + cn / 32)))))), (6, .int (nI i)), (4, .int (nI (cn / 32))), (5, .int (nI (cn % 32))), (0, .ref a), (2, .int o), (3, .ref t)]) hx hb d_Wo_shiftDown_58 hl (by decide) rfl (fun ls hl => ?_)
        refine lv_aload_n hx hb d_Wo_shiftDown_60 rfl (lv_at hl 6 rfl) ?_
        refine lv_iload hx hb d_Wo_shiftDown_61 (lv_at hl 1 rfl) ?_
        refine lv_lload hx hb d_Wo_shiftDown_63 (lv_at hl 0 rfl) ?_
        refine lv_iload hx hb d_Wo_shiftDown_65 (lv_at hl 3 rfl) ?_
        refine lv_lushr (v := lN (((uw (sdF f o (i + cn / 32 + 1))) * 4294967296 + (uw (sdF f o (i + cn / 32)))) / 2 ^ (cn % 32))) hx hb d_Wo_shiftDown_67 (wb_shr (by omega) (by omega)) ?_
        refine lv_l2i (v := nI (((uw (sdF f o (i + cn / 32 + 1))) * 4294967296 + (uw (sdF f o (i + cn / 32)))) / 2 ^ (cn % 32))) hx hb d_Wo_shiftDown_68 (lN_i _) ?_
        refine k_iast hx hb hK hP hD hS 1 rfl (i := i) (by omega) (by omega) d_Wo_shiftDown_69 (fun H locs hP hD hS => ?_)
        have hP : va_P E.1 vwCl [(a, .inl (E.2.1 0, 8, .inl f)), (t, .inl (E.2.1 0, 8, .inl (upd z i (nI (((uw (sdF f o (i + cn / 32 + 1))) * 4294967296 + (uw (sdF f o (i + cn / 32)))) / 2 ^ (cn % 32))))))] H := hP
        have hD : va_D A [(a, .inl (E.2.1 0, 8, .inl f)), (t, .inl (E.2.1 0, 8, .inl (upd z i (nI (((uw (sdF f o (i + cn / 32 + 1))) * 4294967296 + (uw (sdF f o (i + cn / 32)))) / 2 ^ (cn % 32))))))] := hD
        refine lv_iinc (k := 1) (v := nI (i + 1)) (lv' := [(6, .int (nI (i + 1))), (7, .long (lN ((uw (sdF f o (i + cn / 32 + 1))) * 4294967296 + (uw (sdF f o (i + cn / 32)))))), (4, .int (nI (cn / 32))), (5, .int (nI (cn % 32))), (0, .ref a), (2, .int o), (3, .ref t)]) hx hb d_Wo_shiftDown_70 hl rfl (k_inc _) (by decide) rfl (fun ls hl => ?_)
        refine lv_goto (tgt := 15) hx hb d_Wo_shiftDown_73 (by decide) ?_
        exact ih (n - 1) (by omega) (i + 1) (upd z i (nI ((uw (sdF f o (i + cn / 32 + 1)) * 4294967296 + uw (sdF f o (i + cn / 32))) / 2 ^ (cn % 32)))) _ _ ls (by omega) (fun j hj => if q : j = i then by subst q; rw [pk_us, uw_nI]; exact sh_dn h19 hcn else by rw [pk_un q]; exact hI j (by omega)) (lv_sub hl [0, 2, 3, 4, 5, 6] rfl) hP hD hS
  exact key15 8 0 y _ _ ls (by omega) (fun j hj => absurd hj (Nat.not_lt_zero j)) (lv_sub hl [0, 2, 1, 3, 5, 6] rfl) hP hD hS

abbrev y_Wo_extendSign : MethodName := ⟨"WideStack$Words", "extendSign", "([II[I)V"⟩
theorem d_Wo_extendSign_0 : decode prog_10_method_24_code 0 = .ok (.iload_n 1, 1) := by decide +kernel
theorem d_Wo_extendSign_1 : decode prog_10_method_24_code 1 = .ok (.bipush 32, 2) := by decide +kernel
theorem d_Wo_extendSign_3 : decode prog_10_method_24_code 3 = .ok (.idiv, 1) := by decide +kernel
theorem d_Wo_extendSign_4 : decode prog_10_method_24_code 4 = .ok (.istore_n 3, 1) := by decide +kernel
theorem d_Wo_extendSign_5 : decode prog_10_method_24_code 5 = .ok (.bipush 31, 2) := by decide +kernel
theorem d_Wo_extendSign_7 : decode prog_10_method_24_code 7 = .ok (.iload_n 1, 1) := by decide +kernel
theorem d_Wo_extendSign_8 : decode prog_10_method_24_code 8 = .ok (.bipush 32, 2) := by decide +kernel
theorem d_Wo_extendSign_10 : decode prog_10_method_24_code 10 = .ok (.irem, 1) := by decide +kernel
theorem d_Wo_extendSign_11 : decode prog_10_method_24_code 11 = .ok (.isub, 1) := by decide +kernel
theorem d_Wo_extendSign_12 : decode prog_10_method_24_code 12 = .ok (.istore 4, 2) := by decide +kernel
theorem d_Wo_extendSign_14 : decode prog_10_method_24_code 14 = .ok (.iconst 0, 1) := by decide +kernel
theorem d_Wo_extendSign_15 : decode prog_10_method_24_code 15 = .ok (.istore 5, 2) := by decide +kernel
theorem d_Wo_extendSign_17 : decode prog_10_method_24_code 17 = .ok (.iload 5, 2) := by decide +kernel
theorem d_Wo_extendSign_19 : decode prog_10_method_24_code 19 = .ok (.bipush 8, 2) := by decide +kernel
theorem d_Wo_extendSign_21 : decode prog_10_method_24_code 21 = .ok (.if_icmp .ge 67, 3) := by decide +kernel
theorem d_Wo_extendSign_24 : decode prog_10_method_24_code 24 = .ok (.iload 5, 2) := by decide +kernel
theorem d_Wo_extendSign_26 : decode prog_10_method_24_code 26 = .ok (.iload_n 3, 1) := by decide +kernel
theorem d_Wo_extendSign_27 : decode prog_10_method_24_code 27 = .ok (.if_icmp .ge 14, 3) := by decide +kernel
theorem d_Wo_extendSign_30 : decode prog_10_method_24_code 30 = .ok (.aload_n 2, 1) := by decide +kernel
theorem d_Wo_extendSign_31 : decode prog_10_method_24_code 31 = .ok (.iload 5, 2) := by decide +kernel
theorem d_Wo_extendSign_33 : decode prog_10_method_24_code 33 = .ok (.aload_n 0, 1) := by decide +kernel
theorem d_Wo_extendSign_34 : decode prog_10_method_24_code 34 = .ok (.iload 5, 2) := by decide +kernel
theorem d_Wo_extendSign_36 : decode prog_10_method_24_code 36 = .ok (.iaload, 1) := by decide +kernel
theorem d_Wo_extendSign_37 : decode prog_10_method_24_code 37 = .ok (.iastore, 1) := by decide +kernel
theorem d_Wo_extendSign_38 : decode prog_10_method_24_code 38 = .ok (.goto 44, 3) := by decide +kernel
theorem d_Wo_extendSign_41 : decode prog_10_method_24_code 41 = .ok (.iload 5, 2) := by decide +kernel
theorem d_Wo_extendSign_43 : decode prog_10_method_24_code 43 = .ok (.iload_n 3, 1) := by decide +kernel
theorem d_Wo_extendSign_44 : decode prog_10_method_24_code 44 = .ok (.if_icmp .ne 20, 3) := by decide +kernel
theorem d_Wo_extendSign_47 : decode prog_10_method_24_code 47 = .ok (.aload_n 2, 1) := by decide +kernel
theorem d_Wo_extendSign_48 : decode prog_10_method_24_code 48 = .ok (.iload 5, 2) := by decide +kernel
theorem d_Wo_extendSign_50 : decode prog_10_method_24_code 50 = .ok (.aload_n 0, 1) := by decide +kernel
theorem d_Wo_extendSign_51 : decode prog_10_method_24_code 51 = .ok (.iload 5, 2) := by decide +kernel
theorem d_Wo_extendSign_53 : decode prog_10_method_24_code 53 = .ok (.iaload, 1) := by decide +kernel
theorem d_Wo_extendSign_54 : decode prog_10_method_24_code 54 = .ok (.iload 4, 2) := by decide +kernel
theorem d_Wo_extendSign_56 : decode prog_10_method_24_code 56 = .ok (.ishl, 1) := by decide +kernel
theorem d_Wo_extendSign_57 : decode prog_10_method_24_code 57 = .ok (.iload 4, 2) := by decide +kernel
theorem d_Wo_extendSign_59 : decode prog_10_method_24_code 59 = .ok (.ishr, 1) := by decide +kernel
theorem d_Wo_extendSign_60 : decode prog_10_method_24_code 60 = .ok (.iastore, 1) := by decide +kernel
theorem d_Wo_extendSign_61 : decode prog_10_method_24_code 61 = .ok (.goto 21, 3) := by decide +kernel
theorem d_Wo_extendSign_64 : decode prog_10_method_24_code 64 = .ok (.aload_n 2, 1) := by decide +kernel
theorem d_Wo_extendSign_65 : decode prog_10_method_24_code 65 = .ok (.iload 5, 2) := by decide +kernel
theorem d_Wo_extendSign_67 : decode prog_10_method_24_code 67 = .ok (.aload_n 2, 1) := by decide +kernel
theorem d_Wo_extendSign_68 : decode prog_10_method_24_code 68 = .ok (.iload 5, 2) := by decide +kernel
theorem d_Wo_extendSign_70 : decode prog_10_method_24_code 70 = .ok (.iconst 1, 1) := by decide +kernel
theorem d_Wo_extendSign_71 : decode prog_10_method_24_code 71 = .ok (.isub, 1) := by decide +kernel
theorem d_Wo_extendSign_72 : decode prog_10_method_24_code 72 = .ok (.iaload, 1) := by decide +kernel
theorem d_Wo_extendSign_73 : decode prog_10_method_24_code 73 = .ok (.ifCond .ge 7, 3) := by decide +kernel
theorem d_Wo_extendSign_76 : decode prog_10_method_24_code 76 = .ok (.iconst (-1), 1) := by decide +kernel
theorem d_Wo_extendSign_77 : decode prog_10_method_24_code 77 = .ok (.goto 4, 3) := by decide +kernel
theorem d_Wo_extendSign_80 : decode prog_10_method_24_code 80 = .ok (.iconst 0, 1) := by decide +kernel
theorem d_Wo_extendSign_81 : decode prog_10_method_24_code 81 = .ok (.iastore, 1) := by decide +kernel
theorem d_Wo_extendSign_82 : decode prog_10_method_24_code 82 = .ok (.iinc 5 1, 3) := by decide +kernel
theorem d_Wo_extendSign_85 : decode prog_10_method_24_code 85 = .ok (.goto (-68), 3) := by decide +kernel
theorem d_Wo_extendSign_88 : decode prog_10_method_24_code 88 = .ok (.return_, 1) := by decide +kernel
def rm_c_W_extendSign : Room := { frames := 0, cells := 0, slots := 0, locals := 0 }
set_option maxHeartbeats 4000000 in
set_option maxRecDepth 100000 in
theorem c_W_extendSign (l : Launch) (E : kE) (a t k : Nat) (f y : Nat → Int32) (hk : k ≤ 31) : Kv l y_Wo_extendSign (kW y_Wo_extendSign prog_10_method_24_code 6 (none)) rm_c_W_extendSign E [.ref a, .int (nI (8 * k + 7)), .ref t] [(a, .inl (E.2.1 0, 8, .inl f)), (t, .inl (E.2.1 0, 8, .inl y))] (S := Nat → Int32) (fun u => wv u 8 = m_sext k (wv f 8)) (fun u => [(a, .inl (E.2.1 0, 8, .inl f)), (t, .inl (E.2.1 0, 8, .inl u))]) := by
  refine Kv.ofW (cc := prog_10_method_24_code) (maxL := 6) (by decide) (Nat.le_of_ble_eq_true rfl) ?_
  intro p e s m args below meth c A ls Q hx hb hts hown hml hK hG hA hP hD hS hl hret
  have hl : lv_has ls 6 [(0, .ref a), (1, .int (nI (8 * k + 7))), (2, .ref t)] := hl
  refine lv_iload_n hx hb d_Wo_extendSign_0 rfl (lv_at hl 1 rfl) ?_
  refine lv_bipush (v := nI 32) hx hb d_Wo_extendSign_1 (by decide) ?_
  refine lv_idiv hx hb d_Wo_extendSign_3 (by decide) ?_
  refine k_top (pk_div (by omega) (by decide) (by decide)) ?_
  refine lv_istore_n (lv' := [(3, .int (nI ((8 * k + 7) / 32))), (0, .ref a), (1, .int (nI (8 * k + 7))), (2, .ref t)]) hx hb d_Wo_extendSign_4 rfl hl (by decide) rfl (fun ls hl => ?_)
  refine lv_bipush (v := nI 31) hx hb d_Wo_extendSign_5 (by decide) ?_
  refine lv_iload_n hx hb d_Wo_extendSign_7 rfl (lv_at hl 2 rfl) ?_
  refine lv_bipush (v := nI 32) hx hb d_Wo_extendSign_8 (by decide) ?_
  refine lv_irem hx hb d_Wo_extendSign_10 (by decide) ?_
  refine k_top (pk_rem (by omega) (by decide) (by decide)) ?_
  refine lv_isub hx hb d_Wo_extendSign_11 ?_
  refine k_top (pk_sub (by omega)) ?_
  refine lv_istore (lv' := [(4, .int (nI (31 - ((8 * k + 7) % 32)))), (3, .int (nI ((8 * k + 7) / 32))), (0, .ref a), (1, .int (nI (8 * k + 7))), (2, .ref t)]) hx hb d_Wo_extendSign_12 hl (by decide) rfl (fun ls hl => ?_)
  refine lv_iconst (v := nI 0) hx hb d_Wo_extendSign_14 (by decide) ?_
  refine lv_istore (lv' := [(5, .int (nI 0)), (4, .int (nI (31 - ((8 * k + 7) % 32)))), (3, .int (nI ((8 * k + 7) / 32))), (0, .ref a), (1, .int (nI (8 * k + 7))), (2, .ref t)]) hx hb d_Wo_extendSign_15 hl (by decide) rfl (fun ls hl => ?_)
  have key17 : ∀ (n : Nat) (i : Nat) (z : Nat → Int32) (H : Heap) (locs : List Loc) (ls : Array Slot), i + n = 8 → (ext_ok f z (8 * k + 7) i) → lv_has ls 6 [(5, .int (nI i)), (3, .int (nI ((8 * k + 7) / 32))), (4, .int (nI (31 - (8 * k + 7) % 32))), (0, .ref a), (2, .ref t)] → va_P E.1 vwCl [(a, .inl (E.2.1 0, 8, .inl f)), (t, .inl (E.2.1 0, 8, .inl z))] H → va_D A [(a, .inl (E.2.1 0, 8, .inl f)), (t, .inl (E.2.1 0, 8, .inl z))] → va_S A s.heap H locs → W p l e rm_c_W_extendSign s m args below meth c H locs 0 0 Q (F0 m 17 ls []) := by
    intro n
    induction n using Nat.strongRecOn with
    | ind n ih =>
      intro i z H locs ls hn hI hl hP hD hS
      refine lv_iload hx hb d_Wo_extendSign_17 (lv_at hl 0 rfl) ?_
      refine lv_bipush (v := nI 8) hx hb d_Wo_extendSign_19 (by decide) ?_
      refine kn_ge (tgt := 88) hx hb (by omega) (by omega) d_Wo_extendSign_21 (by decide) (fun h21 => ?_) (fun h21 => ?_)
      · obtain rfl : i = 8 := by omega
        exact hret _ ls _ _ z d_Wo_extendSign_88 (ext_fin hk hI) hP hS
      · refine lv_iload hx hb d_Wo_extendSign_24 (lv_at hl 0 rfl) ?_
        refine lv_iload_n hx hb d_Wo_extendSign_26 rfl (lv_at hl 1 rfl) ?_
        refine kn_ge (tgt := 41) hx hb (by omega) (by omega) d_Wo_extendSign_27 (by decide) (fun h27 => ?_) (fun h27 => ?_)
        · refine lv_iload hx hb d_Wo_extendSign_41 (lv_at hl 0 rfl) ?_
          refine lv_iload_n hx hb d_Wo_extendSign_43 rfl (lv_at hl 1 rfl) ?_
          refine kn_ne (tgt := 64) hx hb (by omega) (by omega) d_Wo_extendSign_44 (by decide) (fun h44 => ?_) (fun h44 => ?_)
          · refine lv_aload_n hx hb d_Wo_extendSign_64 rfl (lv_at hl 4 rfl) ?_
            refine lv_iload hx hb d_Wo_extendSign_65 (lv_at hl 0 rfl) ?_
            refine lv_aload_n hx hb d_Wo_extendSign_67 rfl (lv_at hl 4 rfl) ?_
            refine lv_iload hx hb d_Wo_extendSign_68 (lv_at hl 0 rfl) ?_
            refine lv_iconst (v := nI 1) hx hb d_Wo_extendSign_70 (by decide) ?_
            refine lv_isub hx hb d_Wo_extendSign_71 ?_
            refine k_top (pk_sub (by omega)) ?_
            refine k_iald hx hb hK hP 1 rfl (i := (i - 1)) (by omega) (by omega) d_Wo_extendSign_72 ?_
            refine lv_if_ge (tgt := 80) hx hb d_Wo_extendSign_73 (by decide) (fun h73 => ?_) (fun h73 => ?_)
            · refine lv_iconst (v := nI 0) hx hb d_Wo_extendSign_80 (by decide) ?_
              refine k_iast hx hb hK hP hD hS 1 rfl (i := i) (by omega) (by omega) d_Wo_extendSign_81 (fun H locs hP hD hS => ?_)
              have hP : va_P E.1 vwCl [(a, .inl (E.2.1 0, 8, .inl f)), (t, .inl (E.2.1 0, 8, .inl (upd z i (nI 0))))] H := hP
              have hD : va_D A [(a, .inl (E.2.1 0, 8, .inl f)), (t, .inl (E.2.1 0, 8, .inl (upd z i (nI 0))))] := hD
              refine lv_iinc (k := 0) (v := nI (i + 1)) (lv' := [(5, .int (nI (i + 1))), (3, .int (nI ((8 * k + 7) / 32))), (4, .int (nI (31 - (8 * k + 7) % 32))), (0, .ref a), (2, .ref t)]) hx hb d_Wo_extendSign_82 hl rfl (k_inc _) (by decide) rfl (fun ls hl => ?_)
              refine lv_goto (tgt := 17) hx hb d_Wo_extendSign_85 (by decide) ?_
              exact ih (n - 1) (by omega) (i + 1) (upd z i (nI 0)) _ _ ls (by omega) (ext_hi hI (by omega) (Or.inr ⟨Int32.not_lt.mpr h73, rfl⟩)) (lv_sub hl [0, 1, 2, 3, 4] rfl) hP hD hS
            · refine lv_iconst (v := -1) hx hb d_Wo_extendSign_76 (by decide) ?_
              refine lv_goto (tgt := 81) hx hb d_Wo_extendSign_77 (by decide) ?_
              refine k_iast hx hb hK hP hD hS 1 rfl (i := i) (by omega) (by omega) d_Wo_extendSign_81 (fun H locs hP hD hS => ?_)
              have hP : va_P E.1 vwCl [(a, .inl (E.2.1 0, 8, .inl f)), (t, .inl (E.2.1 0, 8, .inl (upd z i (-1))))] H := hP
              have hD : va_D A [(a, .inl (E.2.1 0, 8, .inl f)), (t, .inl (E.2.1 0, 8, .inl (upd z i (-1))))] := hD
              refine lv_iinc (k := 0) (v := nI (i + 1)) (lv' := [(5, .int (nI (i + 1))), (3, .int (nI ((8 * k + 7) / 32))), (4, .int (nI (31 - (8 * k + 7) % 32))), (0, .ref a), (2, .ref t)]) hx hb d_Wo_extendSign_82 hl rfl (k_inc _) (by decide) rfl (fun ls hl => ?_)
              refine lv_goto (tgt := 17) hx hb d_Wo_extendSign_85 (by decide) ?_
              exact ih (n - 1) (by omega) (i + 1) (upd z i (-1)) _ _ ls (by omega) (ext_hi hI (by omega) (Or.inl ⟨Int32.not_le.mp h73, rfl⟩)) (lv_sub hl [0, 1, 2, 3, 4] rfl) hP hD hS
          · refine lv_aload_n hx hb d_Wo_extendSign_47 rfl (lv_at hl 4 rfl) ?_
            refine lv_iload hx hb d_Wo_extendSign_48 (lv_at hl 0 rfl) ?_
            refine lv_aload_n hx hb d_Wo_extendSign_50 rfl (lv_at hl 3 rfl) ?_
            refine lv_iload hx hb d_Wo_extendSign_51 (lv_at hl 0 rfl) ?_
            refine k_iald hx hb hK hP 0 rfl (i := i) (by omega) (by omega) d_Wo_extendSign_53 ?_
            refine lv_iload hx hb d_Wo_extendSign_54 (lv_at hl 2 rfl) ?_
            refine lv_ishl hx hb d_Wo_extendSign_56 ?_
            refine lv_iload hx hb d_Wo_extendSign_57 (lv_at hl 2 rfl) ?_
            refine lv_ishr hx hb d_Wo_extendSign_59 ?_
            refine k_iast hx hb hK hP hD hS 1 rfl (i := i) (by omega) (by omega) d_Wo_extendSign_60 (fun H locs hP hD hS => ?_)
            have hP : va_P E.1 vwCl [(a, .inl (E.2.1 0, 8, .inl f)), (t, .inl (E.2.1 0, 8, .inl (upd z i (((f i) <<< ((nI (31 - (8 * k + 7) % 32)) &&& 31)) >>> ((nI (31 - (8 * k + 7) % 32)) &&& 31)))))] H := hP
            have hD : va_D A [(a, .inl (E.2.1 0, 8, .inl f)), (t, .inl (E.2.1 0, 8, .inl (upd z i (((f i) <<< ((nI (31 - (8 * k + 7) % 32)) &&& 31)) >>> ((nI (31 - (8 * k + 7) % 32)) &&& 31)))))] := hD
            refine lv_goto (tgt := 82) hx hb d_Wo_extendSign_61 (by decide) ?_
            refine lv_iinc (k := 0) (v := nI (i + 1)) (lv' := [(5, .int (nI (i + 1))), (3, .int (nI ((8 * k + 7) / 32))), (4, .int (nI (31 - (8 * k + 7) % 32))), (0, .ref a), (2, .ref t)]) hx hb d_Wo_extendSign_82 hl rfl (k_inc _) (by decide) rfl (fun ls hl => ?_)
            refine lv_goto (tgt := 17) hx hb d_Wo_extendSign_85 (by decide) ?_
            exact ih (n - 1) (by omega) (i + 1) (upd z i (((f i) <<< ((nI (31 - (8 * k + 7) % 32)) &&& 31)) >>> ((nI (31 - (8 * k + 7) % 32)) &&& 31))) _ _ ls (by omega) (ext_at hI h44 (by omega)) (lv_sub hl [0, 1, 2, 3, 4] rfl) hP hD hS
        · refine lv_aload_n hx hb d_Wo_extendSign_30 rfl (lv_at hl 4 rfl) ?_
          refine lv_iload hx hb d_Wo_extendSign_31 (lv_at hl 0 rfl) ?_
          refine lv_aload_n hx hb d_Wo_extendSign_33 rfl (lv_at hl 3 rfl) ?_
          refine lv_iload hx hb d_Wo_extendSign_34 (lv_at hl 0 rfl) ?_
          refine k_iald hx hb hK hP 0 rfl (i := i) (by omega) (by omega) d_Wo_extendSign_36 ?_
          refine k_iast hx hb hK hP hD hS 1 rfl (i := i) (by omega) (by omega) d_Wo_extendSign_37 (fun H locs hP hD hS => ?_)
          have hP : va_P E.1 vwCl [(a, .inl (E.2.1 0, 8, .inl f)), (t, .inl (E.2.1 0, 8, .inl (upd z i (f i))))] H := hP
          have hD : va_D A [(a, .inl (E.2.1 0, 8, .inl f)), (t, .inl (E.2.1 0, 8, .inl (upd z i (f i))))] := hD
          refine lv_goto (tgt := 82) hx hb d_Wo_extendSign_38 (by decide) ?_
          refine lv_iinc (k := 0) (v := nI (i + 1)) (lv' := [(5, .int (nI (i + 1))), (3, .int (nI ((8 * k + 7) / 32))), (4, .int (nI (31 - (8 * k + 7) % 32))), (0, .ref a), (2, .ref t)]) hx hb d_Wo_extendSign_82 hl rfl (k_inc _) (by decide) rfl (fun ls hl => ?_)
          refine lv_goto (tgt := 17) hx hb d_Wo_extendSign_85 (by decide) ?_
          exact ih (n - 1) (by omega) (i + 1) (upd z i (f i)) _ _ ls (by omega) (ext_lo hI h27 (by omega)) (lv_sub hl [0, 1, 2, 3, 4] rfl) hP hD hS
  exact key17 8 0 y _ _ ls (by omega) (fun j hj => absurd hj (Nat.not_lt_zero j)) (lv_sub hl [0, 2, 1, 3, 5] rfl) hP hD hS

