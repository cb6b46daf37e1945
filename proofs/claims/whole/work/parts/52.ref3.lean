/-! the reference's arithmetic -/
theorem gv_push {z : Nat → Nat} {r i x : Nat} : gv (va_up z (r + i) x) r (i + 1) = gv z r i + x * 65536 ^ i := by
  rw [gv_s, va_up_self, gv_out (by omega)]
theorem st_neg {T a c P d B : Nat} (h : T + a + c * P = P) (hd : d < B) : (T + (B - 1 - d + c) % B * P) + (a + d * P) + (B - 1 - d + c) / B * (B * P) = B * P := by
  have h1 := k_mdm (B - 1 - d + c) B P
  have h2 : (B - 1 - d + c) * P + d * P + P = B * P + c * P := by
    rw [← Nat.add_mul, ← Nat.add_mul, ← Nat.succ_mul]
    congr 1
    omega
  omega
theorem p16s (i : Nat) : 65536 ^ (i + 1) = 65536 * 65536 ^ i := by rw [Nat.pow_succ, Nat.mul_comm]
/-- outside of a stretch nothing changes -/
def fr1 (g z : Nat → Nat) (a n : Nat) : Prop := ∀ j, j < a ∨ a + n ≤ j → z j = g j
theorem fr1_0 {g : Nat → Nat} {a n : Nat} : fr1 g g a n := fun _ _ => rfl
theorem fr1_up {g z : Nat → Nat} {a n i x : Nat} (h : fr1 g z a n) (hi : a ≤ i ∧ i < a + n) : fr1 g (va_up z i x) a n := fun j hj => (va_up_ne _ _ (by omega)).trans (h j hj)
theorem fr1_gv {g z : Nat → Nat} {a n r k : Nat} (h : fr1 g z a n) (hr : r + k ≤ a ∨ a + n ≤ r) : gv z r k = gv g r k := gv_congr (fun j hj => h _ (by omega))
def ngI (g z : Nat → Nat) (a i cy : Nat) : Prop := cy ≤ 1 ∧ gv z a i + gv g a i + cy * 65536 ^ i = 65536 ^ i ∧ (∀ j, j < a ∨ a + i ≤ j → z j = g j) ∧ ∀ j, z j < 65536
theorem ng_step {g z : Nat → Nat} {a i cy : Nat} (h : ngI g z a i cy) : ngI g (va_up z (a + i) ((65535 - z (a + i) + cy) % 65536)) a (i + 1) ((65535 - z (a + i) + cy) / 65536) := by
  obtain ⟨h1, h2, h3, h4⟩ := h
  have b := h4 (a + i)
  refine ⟨by omega, ?_, fun j hj => (va_up_ne _ _ (by omega)).trans (h3 j (by omega)), g16_up h4 (Nat.mod_lt _ (by decide))⟩
  rw [gv_push, gv_s, p16s, ← h3 (a + i) (by omega)]
  exact st_neg h2 b
theorem ng_fin {g z : Nat → Nat} {a cy : Nat} (hg : ∀ j, g j < 65536) (h : ngI g z a 16 cy) : gv z a 16 = m_neg (gv g a 16) := by
  obtain ⟨h1, h2, h3, h4⟩ := h
  refine fin_neg (c := cy) (gv_lt16 h4 a) (gv_lt16 hg a) ?_
  rw [kK8, ← g16m]
  exact h2
/-- sums -/
def smI (g z : Nat → Nat) (i cy : Nat) : Prop := cy ≤ 1 ∧ gv z 320 i + cy * 65536 ^ i = gv g 256 i + gv g 272 i ∧ fr1 g z 320 33 ∧ ∀ j, z j < 65536
theorem sm_step {g z : Nat → Nat} {i cy : Nat} (hi : i < 16) (h : smI g z i cy) : smI g (va_up z (320 + i) ((z (256 + i) + z (272 + i) + cy) % 65536)) (i + 1) ((z (256 + i) + z (272 + i) + cy) / 65536) := by
  obtain ⟨h1, h2, h3, h4⟩ := h
  have b1 := h4 (256 + i)
  have b2 := h4 (272 + i)
  refine ⟨by omega, ?_, fr1_up h3 (by omega), g16_up h4 (Nat.mod_lt _ (by decide))⟩
  rw [gv_push, gv_s g 256, gv_s g 272, p16s, ← h3 (256 + i) (by omega), ← h3 (272 + i) (by omega)]
  exact st_add h2
def smJ (S cy : Nat) (g z : Nat → Nat) (i : Nat) : Prop := 16 ≤ i ∧ ((i = 16 ∧ gv z 320 16 + cy * 65536 ^ 16 = S) ∨ (16 < i ∧ gv z 320 i = S)) ∧ fr1 g z 320 33 ∧ ∀ j, z j < 65536
theorem sj_step {S cy x i : Nat} {g z : Nat → Nat} (hi : i < 33) (hc : cy ≤ 1) (hx : (i = 16 ∧ x = cy) ∨ (i ≠ 16 ∧ x = 0)) (h : smJ S cy g z i) : smJ S cy g (va_up z (320 + i) x) (i + 1) := by
  obtain ⟨h0, h1, h2, h3⟩ := h
  refine ⟨by omega, Or.inr ⟨by omega, ?_⟩, fr1_up h2 (by omega), g16_up h3 (by omega)⟩
  rw [gv_push]
  rcases hx with ⟨rfl, rfl⟩ | ⟨q, rfl⟩
  · rcases h1 with ⟨_, e⟩ | ⟨q, _⟩
    · exact e
    · omega
  · rcases h1 with ⟨e, _⟩ | ⟨_, e⟩
    · omega
    · rw [Nat.zero_mul, Nat.add_zero]; exact e
/-- the first row alone -/
def alI (g z : Nat → Nat) (i : Nat) : Prop := gv z 320 i = gv g 256 (min i 16) ∧ fr1 g z 320 33 ∧ ∀ j, z j < 65536
theorem al_s1 {g z : Nat → Nat} {i : Nat} (hi : i < 16) (h : alI g z i) : alI g (va_up z (320 + i) (z (256 + i))) (i + 1) := by
  obtain ⟨h1, h2, h3⟩ := h
  refine ⟨?_, fr1_up h2 (by omega), g16_up h3 (h3 _)⟩
  rw [Nat.min_eq_left (by omega)] at h1 ⊢
  rw [gv_push, gv_s, h1, h2 (256 + i) (by omega)]
theorem al_s2 {g z : Nat → Nat} {i : Nat} (hi : ¬ i < 16) (hi2 : i < 33) (h : alI g z i) : alI g (va_up z (320 + i) 0) (i + 1) := by
  obtain ⟨h1, h2, h3⟩ := h
  refine ⟨?_, fr1_up h2 (by omega), g16_up h3 (by decide)⟩
  rw [Nat.min_eq_right (by omega)] at h1 ⊢
  rw [gv_push, Nat.zero_mul, Nat.add_zero, h1]
/-- zeros -/
def zrI (g z : Nat → Nat) (a i : Nat) : Prop := (∀ j, a ≤ j → j < a + i → z j = 0) ∧ (∀ j, j < a ∨ a + i ≤ j → z j = g j) ∧ ∀ j, z j < 65536
theorem zr_step {g z : Nat → Nat} {a i : Nat} (h : zrI g z a i) : zrI g (va_up z (a + i) 0) a (i + 1) := by
  obtain ⟨h1, h2, h3⟩ := h
  refine ⟨fun j hj hj2 => ?_, fun j hj => (va_up_ne _ _ (by omega)).trans (h2 j (by omega)), g16_up h3 (by decide)⟩
  by_cases e : j = a + i
  · subst e; rw [va_up_self]
  · rw [va_up_ne _ _ e]; exact h1 j hj (by omega)
theorem zr_0 {g : Nat → Nat} {a : Nat} (hg : ∀ j, g j < 65536) : zrI g g a 0 := ⟨fun j _ _ => by omega, fun _ _ => rfl, hg⟩
/-- products -/
theorem r_mulbd {a b z c : Nat} (ha : a < 65536) (hb : b < 65536) (hz : z < 65536) (hc : c < 65536) : a * b + z + c < 4294967296 := by
  have h := Nat.mul_le_mul (show a ≤ 65535 by omega) (show b ≤ 65535 by omega)
  omega
def prI (g z : Nat → Nat) (i : Nat) : Prop := gv z 320 33 = gv g 256 i * gv g 272 16 ∧ (∀ q, 336 + i ≤ q → q < 353 → z q = 0) ∧ fr1 g z 320 33 ∧ ∀ j, z j < 65536
def prJ (g z : Nat → Nat) (i j cy : Nat) : Prop := cy < 65536 ∧ gv z 320 33 + cy * 65536 ^ (i + j) = gv g 256 i * gv g 272 16 + g (256 + i) * 65536 ^ i * gv g 272 j ∧ (∀ q, 336 + i ≤ q → q < 353 → z q = 0) ∧ fr1 g z 320 33 ∧ ∀ j, z j < 65536
theorem pr_0 {g z : Nat → Nat} {i : Nat} (h : prI g z i) : prJ g z i 0 0 := by
  obtain ⟨h1, h2, h3, h4⟩ := h
  exact ⟨by decide, by rw [gv_0, Nat.mul_zero, Nat.zero_mul, Nat.add_zero, Nat.add_zero]; exact h1, h2, h3, h4⟩
theorem pr_step {g z : Nat → Nat} {i j cy : Nat} (hi : i < 16) (hj : j < 16) (h : prJ g z i j cy) : prJ g (va_up z (320 + i + j) ((z (256 + i) * z (272 + j) + z (320 + i + j) + cy) % 65536)) i (j + 1) ((z (256 + i) * z (272 + j) + z (320 + i + j) + cy) / 65536) := by
  obtain ⟨h1, h2, h3, h4, h5⟩ := h
  have b0 := r_mulbd (h5 (256 + i)) (h5 (272 + j)) (h5 (320 + i + j)) h1
  refine ⟨by omega, ?_, fun q q1 q2 => (va_up_ne _ _ (by omega)).trans (h3 q q1 q2), fr1_up h4 (by omega), g16_up h5 (Nat.mod_lt _ (by decide))⟩
  have u := gv_up (g := z) (r := 320) (i := i + j) (n := 33) (x := (z (256 + i) * z (272 + j) + z (320 + i + j) + cy) % 65536) (by omega)
  rw [← Nat.add_assoc] at u
  have m := k_mdm (z (256 + i) * z (272 + j) + z (320 + i + j) + cy) 65536 (65536 ^ (i + j))
  have e1 : 65536 * 65536 ^ (i + j) = 65536 ^ (i + (j + 1)) := by rw [← Nat.add_assoc, Nat.pow_succ, Nat.mul_comm]
  rw [gv_s g 272 j, ← h4 (272 + j) (by omega)]
  rw [← h4 (256 + i) (by omega)] at h2 ⊢
  have e2 : z (256 + i) * 65536 ^ i * (gv g 272 j + z (272 + j) * 65536 ^ j) = z (256 + i) * 65536 ^ i * gv g 272 j + z (256 + i) * z (272 + j) * 65536 ^ (i + j) := by
    rw [Nat.mul_add, Nat.pow_add]
    congr 1
    rw [Nat.mul_assoc, Nat.mul_assoc, Nat.mul_left_comm (65536 ^ i) (z (272 + j))]
  rw [e1, Nat.add_mul, Nat.add_mul] at m
  rw [e2]
  omega
theorem pr_end {g z : Nat → Nat} {i cy : Nat} (hi : i < 16) (h : prJ g z i 16 cy) : prI g (va_up z (320 + i + 16) cy) (i + 1) := by
  obtain ⟨h1, h2, h3, h4, h5⟩ := h
  refine ⟨?_, fun q q1 q2 => (va_up_ne _ _ (by omega)).trans (h3 q (by omega) q2), fr1_up h4 (by omega), g16_up h5 h1⟩
  have u := gv_up (g := z) (r := 320) (i := i + 16) (n := 33) (x := cy) (by omega)
  rw [← Nat.add_assoc, h3 (320 + i + 16) (by omega) (by omega), Nat.zero_mul, Nat.add_zero] at u
  rw [u, h2, gv_s g 256 i, Nat.add_mul]
theorem r_land16 {n : Nat} (h : n < 2 ^ 63) : lN n &&& 65535 = lN (n % 65536) := by
  refine wb_inj ?_
  apply BitVec.eq_of_toNat_eq
  show ((lN n).toBitVec &&& (65535 : Int64).toBitVec).toNat = _
  rw [BitVec.toNat_and, wb_tn (by omega), wb_tn (by omega)]
  exact Nat.and_two_pow_sub_one_eq_mod n 16
theorem r_lshr16 {n : Nat} (h : n < 2 ^ 63) : lN n >>> ((nI 16).toInt64 &&& 63) = lN (n / 65536) := by
  have e1 : (lN n).toInt = (n : Int) := pk_lT h
  refine Int64.toInt_inj.mp ?_
  rw [wb_c 16 (by decide), pk_lT (by omega)]
  show ((lN n).toBitVec.sshiftRight' ((lN 16).toBitVec.smod 64)).toInt = _
  rw [show (lN 16).toBitVec.smod 64 = BitVec.ofNat 64 16 from wb_sm 16 (by decide)]
  show ((lN n).toBitVec.sshiftRight (BitVec.ofNat 64 16).toNat).toInt = _
  rw [BitVec.toInt_sshiftRight, show (BitVec.ofNat 64 16).toNat = 16 from rfl, show (lN n).toBitVec.toInt = (n : Int) from e1, Int.shiftRight_eq_div_pow]
  rfl
/-- rests that reach -/
theorem rc_big {g : Nat → Nat} {d : Nat} (hg : ∀ j, g j < 65536) (h : ¬ g 369 = 0) : gv g d 16 ≤ gv g 353 17 := by
  have e : gv g 353 17 = gv g 353 16 + g 369 * 65536 ^ 16 := gv_s g 353 16
  have l := gv_lt hg d 16
  have : 1 * 65536 ^ 16 ≤ g 369 * 65536 ^ 16 := Nat.mul_le_mul_right _ (by omega)
  omega
theorem rc_16 {g : Nat → Nat} (h : g 369 = 0) : gv g 353 17 = gv g 353 16 := by
  have e : gv g 353 17 = gv g 353 16 + g 369 * 65536 ^ 16 := gv_s g 353 16
  rw [h, Nat.zero_mul, Nat.add_zero] at e
  exact e
/-- made less -/
theorem ls_dig {x y b : Nat} (hx : x < 65536) (hy : y < 65536) (hb : b ≤ 1) : uw (nI x - nI y - nI b) % 65536 = if y + b ≤ x then x - y - b else x + 65536 - y - b := by
  have e : nI x - nI y - nI b = nI (x + 4294967296 - y - b) := by
    have e1 : nI x = nI (x + 4294967296) := uw_inj (by rw [uw_nI, uw_nI]; omega)
    rw [e1, pk_sub (by omega), pk_sub (by omega)]
  rw [e, uw_nI]
  split <;> omega
theorem ls_ge {x y b : Nat} (hx : x < 65536) (hy : y < 65536) (hb : b ≤ 1) : 0 ≤ nI x - nI y - nI b ↔ y + b ≤ x := by
  have e : nI x - nI y - nI b = nI (x + 4294967296 - y - b) := by
    have e1 : nI x = nI (x + 4294967296) := uw_inj (by rw [uw_nI, uw_nI]; omega)
    rw [e1, pk_sub (by omega), pk_sub (by omega)]
  have h := uw_neg (nI x - nI y - nI b)
  rw [e, uw_nI] at h
  rw [e, ← Int32.not_lt, h]
  omega
def lsI (g z : Nat → Nat) (d i bo : Nat) : Prop := bo ≤ 1 ∧ gv z 353 i + gv g d (min i 16) = gv g 353 i + bo * 65536 ^ i ∧ (∀ j, j < 353 ∨ 353 + i ≤ j → z j = g j) ∧ ∀ j, z j < 65536
theorem ls_step {g z : Nat → Nat} {d i bo y bo' : Nat} (hi : i < 17) (hd : d + 16 ≤ 353) (hy : (i < 16 ∧ y = z (d + i)) ∨ (¬ i < 16 ∧ y = 0)) (h : lsI g z d i bo) (hb : (y + bo ≤ z (353 + i) ∧ bo' = 0) ∨ (¬ y + bo ≤ z (353 + i) ∧ bo' = 1)) : lsI g (va_up z (353 + i) (uw (nI (z (353 + i)) - nI y - nI bo) % 65536)) d (i + 1) bo' := by
  obtain ⟨h1, h2, h3, h4⟩ := h
  have hy2 : y < 65536 := by
    rcases hy with ⟨_, e⟩ | ⟨_, e⟩
    · have := h4 (d + i); omega
    · omega
  have b := h4 (353 + i)
  rw [ls_dig b hy2 h1]
  refine ⟨by omega, ?_, fun j hj => (va_up_ne _ _ (by omega)).trans (h3 j (by omega)), g16_up h4 (by split <;> omega)⟩
  have hD : gv g d (min (i + 1) 16) = gv g d (min i 16) + y * 65536 ^ i := by
    rcases hy with ⟨q, e⟩ | ⟨q, e⟩
    · rw [Nat.min_eq_left (by omega), Nat.min_eq_left (by omega), gv_s, e, h3 (d + i) (by omega)]
    · rw [Nat.min_eq_right (by omega), Nat.min_eq_right (by omega), e, Nat.zero_mul, Nat.add_zero]
  rw [gv_push, hD, gv_s g 353, p16s, ← h3 (353 + i) (by omega)]
  refine st_sub h2 ?_
  rcases hb with ⟨q, e⟩ | ⟨q, e⟩
  · rw [if_pos q, e]; omega
  · rw [if_neg q, e]; omega
theorem ls_fin {g z : Nat → Nat} {d bo : Nat} (h : lsI g z d 17 bo) (hle : gv g d 16 ≤ gv g 353 17) : gv z 353 17 = gv g 353 17 - gv g d 16 := by
  obtain ⟨h1, h2, h3, h4⟩ := h
  have l := gv_lt h4 353 17
  have h2 : gv z 353 17 + gv g d 16 = gv g 353 17 + bo * 65536 ^ 17 := h2
  rcases Nat.lt_or_ge 0 bo with q | q
  · have : 1 * 65536 ^ 17 ≤ bo * 65536 ^ 17 := Nat.mul_le_mul_right _ q
    omega
  · have : bo = 0 := by omega
    subst this
    omega
/-- bits -/
theorem gv_dig {g : Nat → Nat} {r p n : Nat} (hg : ∀ j, g j < 65536) (h : p < n) : gv g r n / 65536 ^ p % 65536 = g (r + p) := bv_dig (B := 65536) (f := fun k => g (r + k)) (fun j _ => hg _) h
theorem gv_tb {g : Nat → Nat} {r n i : Nat} (hg : ∀ j, g j < 65536) (h : i < 16 * n) : (gv g r n).testBit i = (g (r + i / 16)).testBit (i % 16) := by
  have := bv_bit (s := 16) (n := n) (p := i / 16) (i := i % 16) (f := fun k => g (r + k)) (fun j _ => hg _) (by omega) (Nat.mod_lt _ (by decide))
  rw [Nat.div_add_mod] at this
  exact this
theorem gv_tb_ge {g : Nat → Nat} {r n i : Nat} (hg : ∀ j, g j < 65536) (h : 16 * n ≤ i) : (gv g r n).testBit i = false := bv_bit_ge (s := 16) (f := fun k => g (r + k)) (fun j _ => hg _) h
theorem b_tb {x s : Nat} : x / 2 ^ s % 2 = (x.testBit s).toNat := by
  rw [Nat.testBit_eq_decide_div_mod_eq]
  have : x / 2 ^ s % 2 < 2 := Nat.mod_lt _ (by decide)
  by_cases q : x / 2 ^ s % 2 = 1
  · rw [q]; rfl
  · rw [decide_eq_false q]; show _ = 0; omega
theorem gv_bit {g : Nat → Nat} {r n i : Nat} (hg : ∀ j, g j < 65536) (h : i < 16 * n) : g (r + i / 16) / 2 ^ (i % 16) % 2 = gv g r n / 2 ^ i % 2 := by
  rw [b_tb, b_tb, gv_tb hg h]
theorem sh_lt {v s : Nat} (hv : v < 2) (hs : s < 16) : v * 2 ^ s < 65536 := by
  have h1 : 2 ^ s ≤ 2 ^ 15 := Nat.pow_le_pow_right (n := 2) (by decide) (by omega)
  have h2 : v * 2 ^ s ≤ 1 * 2 ^ 15 := Nat.mul_le_mul (by omega) h1
  exact Nat.lt_of_le_of_lt h2 (by decide)
theorem tb_sh {v s q : Nat} (hv : v < 2) : (v * 2 ^ s).testBit q = (decide (q = s) && decide (v = 1)) := by
  rcases (by omega : v = 0 ∨ v = 1) with rfl | rfl
  · rw [Nat.zero_mul, Nat.zero_testBit]; simp
  · rw [Nat.one_mul, Nat.testBit_two_pow]
    simp [eq_comm]
theorem or_lt16 {x y : Nat} (hx : x < 65536) (hy : y < 65536) : x ||| y < 65536 := Nat.or_lt_two_pow (n := 16) hx hy
/-- a bit put into a row -/
theorem gv_orb {z : Nat → Nat} {r i v : Nat} (hz : ∀ j, z j < 65536) (hi : i < 256) (hv : v < 2) (q : Nat) : (gv (va_up z (r + i / 16) (z (r + i / 16) ||| v * 2 ^ (i % 16))) r 16).testBit q = ((gv z r 16).testBit q || (decide (q = i) && decide (v = 1))) := by
  have hu := g16_up (i := r + i / 16) hz (or_lt16 (hz (r + i / 16)) (sh_lt hv (Nat.mod_lt i (by decide : 0 < 16))))
  rcases Nat.lt_or_ge q 256 with h | h
  · rw [gv_tb hu h, gv_tb hz h]
    by_cases e : q / 16 = i / 16
    · rw [e, va_up_self, Nat.testBit_or, tb_sh hv]
      congr 2
      rw [decide_eq_decide]
      omega
    · rw [va_up_ne _ _ (by omega), decide_eq_false (by intro w; subst w; exact e rfl : ¬ q = i), Bool.false_and, Bool.or_false]
  · rw [gv_tb_ge hu h, gv_tb_ge hz h, decide_eq_false (by omega), Bool.false_and]
    rfl
theorem or_bit {x s : Nat} (h : x.testBit s = false) : x ||| 2 ^ s = x + 2 ^ s := by
  have h2 : x / 2 ^ s % 2 = 0 := by rw [b_tb, h]; rfl
  have p1 : 2 ^ (s + 1) = 2 ^ s * 2 := Nat.pow_succ 2 s
  have d1 : x = 2 ^ (s + 1) * (x / 2 ^ s / 2) + x % 2 ^ s := by
    have e1 := Nat.div_add_mod x (2 ^ s)
    have e2 := Nat.div_add_mod (x / 2 ^ s) 2
    rw [h2, Nat.add_zero] at e2
    rw [p1, Nat.mul_assoc, e2]
    exact e1.symm
  have l1 : x % 2 ^ s < 2 ^ s := Nat.mod_lt _ (Nat.two_pow_pos s)
  have l2 : 2 ^ s * 1 + x % 2 ^ s < 2 ^ (s + 1) := by rw [p1]; omega
  have l3 : x % 2 ^ s < 2 ^ (s + 1) := by rw [p1]; omega
  have o1 := Nat.two_pow_add_eq_or_of_lt l1 1
  have o2 := Nat.two_pow_add_eq_or_of_lt l2 (x / 2 ^ s / 2)
  have o3 := Nat.two_pow_add_eq_or_of_lt l3 (x / 2 ^ s / 2)
  have o4 : x = 2 ^ (s + 1) * (x / 2 ^ s / 2) ||| x % 2 ^ s := by rw [← o3]; exact d1
  generalize x / 2 ^ s / 2 = Hh at *
  generalize x % 2 ^ s = Ll at *
  rw [Nat.mul_one] at o1 o2 l2
  rw [o4, Nat.or_assoc, Nat.or_comm Ll, ← o1, ← o2, ← o3]
  omega
theorem gv_or1 {z : Nat → Nat} {r i : Nat} (hz : ∀ j, z j < 65536) (hi : i < 256) (h0 : gv z r 16 / 2 ^ i % 2 = 0) : gv (va_up z (r + i / 16) (z (r + i / 16) ||| 1 * 2 ^ (i % 16))) r 16 = gv z r 16 + 2 ^ i := by
  have hb : (gv z r 16).testBit i = false := by
    rw [b_tb] at h0
    revert h0
    cases (gv z r 16).testBit i <;> decide
  rw [← or_bit hb]
  apply Nat.eq_of_testBit_eq
  intro q
  rw [gv_orb hz hi (by decide), Nat.testBit_or, Nat.testBit_two_pow]
  simp [eq_comm]

abbrev y_M_negate : MethodName := ⟨"WideStackModel", "negate", "(I)V"⟩
theorem d_M_negate_0 : decode prog_12_method_20_code 0 = .ok (.iconst 1, 1) := by decide +kernel
theorem d_M_negate_1 : decode prog_12_method_20_code 1 = .ok (.istore_n 2, 1) := by decide +kernel
theorem d_M_negate_2 : decode prog_12_method_20_code 2 = .ok (.iconst 0, 1) := by decide +kernel
theorem d_M_negate_3 : decode prog_12_method_20_code 3 = .ok (.istore_n 3, 1) := by decide +kernel
theorem d_M_negate_4 : decode prog_12_method_20_code 4 = .ok (.iload_n 3, 1) := by decide +kernel
theorem d_M_negate_5 : decode prog_12_method_20_code 5 = .ok (.bipush 16, 2) := by decide +kernel
theorem d_M_negate_7 : decode prog_12_method_20_code 7 = .ok (.if_icmp .ge 43, 3) := by decide +kernel
theorem d_M_negate_10 : decode prog_12_method_20_code 10 = .ok (.aload_n 0, 1) := by decide +kernel
theorem d_M_negate_11 : decode prog_12_method_20_code 11 = .ok (.getfield 16, 3) := by decide +kernel
theorem d_M_negate_14 : decode prog_12_method_20_code 14 = .ok (.iload_n 1, 1) := by decide +kernel
theorem d_M_negate_15 : decode prog_12_method_20_code 15 = .ok (.iload_n 3, 1) := by decide +kernel
theorem d_M_negate_16 : decode prog_12_method_20_code 16 = .ok (.iadd, 1) := by decide +kernel
theorem d_M_negate_17 : decode prog_12_method_20_code 17 = .ok (.iaload, 1) := by decide +kernel
theorem d_M_negate_18 : decode prog_12_method_20_code 18 = .ok (.ldc 52, 2) := by decide +kernel
theorem d_M_negate_20 : decode prog_12_method_20_code 20 = .ok (.ixor, 1) := by decide +kernel
theorem d_M_negate_21 : decode prog_12_method_20_code 21 = .ok (.iload_n 2, 1) := by decide +kernel
theorem d_M_negate_22 : decode prog_12_method_20_code 22 = .ok (.iadd, 1) := by decide +kernel
theorem d_M_negate_23 : decode prog_12_method_20_code 23 = .ok (.istore 4, 2) := by decide +kernel
theorem d_M_negate_25 : decode prog_12_method_20_code 25 = .ok (.aload_n 0, 1) := by decide +kernel
theorem d_M_negate_26 : decode prog_12_method_20_code 26 = .ok (.getfield 16, 3) := by decide +kernel
theorem d_M_negate_29 : decode prog_12_method_20_code 29 = .ok (.iload_n 1, 1) := by decide +kernel
theorem d_M_negate_30 : decode prog_12_method_20_code 30 = .ok (.iload_n 3, 1) := by decide +kernel
theorem d_M_negate_31 : decode prog_12_method_20_code 31 = .ok (.iadd, 1) := by decide +kernel
theorem d_M_negate_32 : decode prog_12_method_20_code 32 = .ok (.iload 4, 2) := by decide +kernel
theorem d_M_negate_34 : decode prog_12_method_20_code 34 = .ok (.ldc 52, 2) := by decide +kernel
theorem d_M_negate_36 : decode prog_12_method_20_code 36 = .ok (.iand, 1) := by decide +kernel
theorem d_M_negate_37 : decode prog_12_method_20_code 37 = .ok (.iastore, 1) := by decide +kernel
theorem d_M_negate_38 : decode prog_12_method_20_code 38 = .ok (.iload 4, 2) := by decide +kernel
theorem d_M_negate_40 : decode prog_12_method_20_code 40 = .ok (.bipush 16, 2) := by decide +kernel
theorem d_M_negate_42 : decode prog_12_method_20_code 42 = .ok (.ishr, 1) := by decide +kernel
theorem d_M_negate_43 : decode prog_12_method_20_code 43 = .ok (.istore_n 2, 1) := by decide +kernel
theorem d_M_negate_44 : decode prog_12_method_20_code 44 = .ok (.iinc 3 1, 3) := by decide +kernel
theorem d_M_negate_47 : decode prog_12_method_20_code 47 = .ok (.goto (-43), 3) := by decide +kernel
theorem d_M_negate_50 : decode prog_12_method_20_code 50 = .ok (.return_, 1) := by decide +kernel
def rm_c_M_negate : Room := { frames := 0, cells := 0, slots := 0, locals := 0 }
set_option maxHeartbeats 4000000 in
set_option maxRecDepth 100000 in
theorem c_M_negate (l : Launch) (E : kE) (mo mb mm mw mh ml len en gas ctr siz hgt frm ret : Nat) (on ay : Bool) (g : Nat → Nat) (hg : ∀ j, g j < 65536) (ta : Nat) (h1 : ta + 16 ≤ 370) : Kv l y_M_negate (kW y_M_negate prog_12_method_20_code 5 (none)) rm_c_M_negate E [.ref mo, .int (nI ta)] [(mo, .inr (8, [.int (nI len), .ref mb, .int (kb on), .int (nI en), .int (nI gas), .int (nI ctr), .int (nI siz), .int (nI hgt), .int (nI frm), .int (nI ret), .ref mm, .ref mw, .ref mh, .ref ml, .int (kb ay)])), (mw, .inl (E.2.1 0, 370, .inl (nF g)))] (S := Nat → Nat) (fun u => gv u ta 16 = m_neg (gv g ta 16) ∧ fr1 g u ta 16 ∧ ∀ j, u j < 65536) (fun u => [(mo, .inr (8, [.int (nI len), .ref mb, .int (kb on), .int (nI en), .int (nI gas), .int (nI ctr), .int (nI siz), .int (nI hgt), .int (nI frm), .int (nI ret), .ref mm, .ref mw, .ref mh, .ref ml, .int (kb ay)])), (mw, .inl (E.2.1 0, 370, .inl (nF u)))]) := by
  refine Kv.ofW (cc := prog_12_method_20_code) (maxL := 5) (by decide) (Nat.le_of_ble_eq_true rfl) ?_
  intro p e s m args below meth c A ls Q hx hb hts hown hml hK hG hA hP hD hS hl hret
  have hl : lv_has ls 5 [(0, .ref mo), (1, .int (nI ta))] := hl
  refine lv_iconst (v := nI 1) hx hb d_M_negate_0 (by decide) ?_
  refine lv_istore_n (lv' := [(2, .int (nI 1)), (0, .ref mo), (1, .int (nI ta))]) hx hb d_M_negate_1 rfl hl (by decide) rfl (fun ls hl => ?_)
  refine lv_iconst (v := nI 0) hx hb d_M_negate_2 (by decide) ?_
  refine lv_istore_n (lv' := [(3, .int (nI 0)), (2, .int (nI 1)), (0, .ref mo), (1, .int (nI ta))]) hx hb d_M_negate_3 rfl hl (by decide) rfl (fun ls hl => ?_)
  have key4 : ∀ (n : Nat) (i cy : Nat) (z : Nat → Nat) (H : Heap) (locs : List Loc) (ls : Array Slot), i + n = 16 → (ngI g z ta i cy) → lv_has ls 5 [(3, .int (nI i)), (2, .int (nI cy)), (0, .ref mo), (1, .int (nI ta))] → va_P E.1 vwCl [(mo, .inr (8, [.int (nI len), .ref mb, .int (kb on), .int (nI en), .int (nI gas), .int (nI ctr), .int (nI siz), .int (nI hgt), .int (nI frm), .int (nI ret), .ref mm, .ref mw, .ref mh, .ref ml, .int (kb ay)])), (mw, .inl (E.2.1 0, 370, .inl (nF z)))] H → va_D A [(mo, .inr (8, [.int (nI len), .ref mb, .int (kb on), .int (nI en), .int (nI gas), .int (nI ctr), .int (nI siz), .int (nI hgt), .int (nI frm), .int (nI ret), .ref mm, .ref mw, .ref mh, .ref ml, .int (kb ay)])), (mw, .inl (E.2.1 0, 370, .inl (nF z)))] → va_S A s.heap H locs → W p l e rm_c_M_negate s m args below meth c H locs 0 0 Q (F0 m 4 ls []) := by
    intro n
    induction n using Nat.strongRecOn with
    | ind n ih =>
      intro i cy z H locs ls hn hI hl hP hD hS
      have b1 := hI.2.2.2 (ta + i)
      have b2 := hI.1
      refine lv_iload_n hx hb d_M_negate_4 rfl (lv_at hl 0 rfl) ?_
      refine lv_bipush (v := nI 16) hx hb d_M_negate_5 (by decide) ?_
      refine kn_ge (tgt := 50) hx hb (by omega) (by omega) d_M_negate_7 (by decide) (fun h7 => ?_) (fun h7 => ?_)
      · obtain rfl : i = 16 := by omega
        exact hret _ ls _ _ z d_M_negate_50 ⟨ng_fin hg hI, hI.2.2.1, hI.2.2.2⟩ hP hS
      · refine lv_aload_n hx hb d_M_negate_10 rfl (lv_at hl 2 rfl) ?_
        refine va_get (D := E.1) (ci := 8) (v := .ref mw) (C := "WideStackModel") (T := T_M) (N := 15) hx hb hts in_M hown hK hP 0 rfl rfl 11 (by decide) (hts _ t_758) (fun _ h9 => h9) rfl d_M_negate_11 ?_
        refine lv_iload_n hx hb d_M_negate_14 rfl (lv_at hl 3 rfl) ?_
        refine lv_iload_n hx hb d_M_negate_15 rfl (lv_at hl 0 rfl) ?_
        refine lv_iadd hx hb d_M_negate_16 ?_
        refine k_top (nI_add _ _) ?_
        refine k_ialdN hx hb hK hP 1 rfl (i := (ta + i)) (by omega) (by omega) d_M_negate_17 ?_
        refine lv_ldc (v := 65535) hx hb hown (hts _ t_827) d_M_negate_18 ?_
        refine k_top (y := nI 65535) (by decide) ?_
        refine lv_ixor hx hb d_M_negate_20 ?_
        refine k_top (r_not16 (by omega)) ?_
        refine lv_iload_n hx hb d_M_negate_21 rfl (lv_at hl 1 rfl) ?_
        refine lv_iadd hx hb d_M_negate_22 ?_
        refine k_top (nI_add _ _) ?_
        refine lv_istore (lv' := [(4, .int (nI ((65535 - (z (ta + i))) + cy))), (3, .int (nI i)), (2, .int (nI cy)), (0, .ref mo), (1, .int (nI ta))]) hx hb d_M_negate_23 hl (by decide) rfl (fun ls hl => ?_)
        refine lv_aload_n hx hb d_M_negate_25 rfl (lv_at hl 3 rfl) ?_
        refine va_get (D := E.1) (ci := 8) (v := .ref mw) (C := "WideStackModel") (T := T_M) (N := 15) hx hb hts in_M hown hK hP 0 rfl rfl 11 (by decide) (hts _ t_758) (fun _ h9 => h9) rfl d_M_negate_26 ?_
        refine lv_iload_n hx hb d_M_negate_29 rfl (lv_at hl 4 rfl) ?_
        refine lv_iload_n hx hb d_M_negate_30 rfl (lv_at hl 1 rfl) ?_
        refine lv_iadd hx hb d_M_negate_31 ?_
        refine k_top (nI_add _ _) ?_
        refine lv_iload hx hb d_M_negate_32 (lv_at hl 0 rfl) ?_
        refine lv_ldc (v := 65535) hx hb hown (hts _ t_827) d_M_negate_34 ?_
        refine k_top (y := nI 65535) (by decide) ?_
        refine lv_iand hx hb d_M_negate_36 ?_
        refine k_top (pk_andN (by omega) 16 (by decide)) ?_
        refine k_iastN hx hb hK hP hD hS 1 rfl (i := (ta + i)) (by omega) (by omega) d_M_negate_37 (fun H locs hP hD hS => ?_)
        have hP : va_P E.1 vwCl [(mo, .inr (8, [.int (nI len), .ref mb, .int (kb on), .int (nI en), .int (nI gas), .int (nI ctr), .int (nI siz), .int (nI hgt), .int (nI frm), .int (nI ret), .ref mm, .ref mw, .ref mh, .ref ml, .int (kb ay)])), (mw, .inl (E.2.1 0, 370, .inl (nF (va_up z (ta + i) (((65535 - (z (ta + i))) + cy) % 65536)))))] H := hP
        have hD : va_D A [(mo, .inr (8, [.int (nI len), .ref mb, .int (kb on), .int (nI en), .int (nI gas), .int (nI ctr), .int (nI siz), .int (nI hgt), .int (nI frm), .int (nI ret), .ref mm, .ref mw, .ref mh, .ref ml, .int (kb ay)])), (mw, .inl (E.2.1 0, 370, .inl (nF (va_up z (ta + i) (((65535 - (z (ta + i))) + cy) % 65536)))))] := hD
        refine lv_iload hx hb d_M_negate_38 (lv_at hl 0 rfl) ?_
        refine lv_bipush (v := nI 16) hx hb d_M_negate_40 (by decide) ?_
        refine lv_ishr hx hb d_M_negate_42 ?_
        refine k_top (pk_shrN (by omega) (nI 16 &&& 31) 16 (s_l _ (by decide))) ?_
        refine lv_istore_n (lv' := [(2, .int (nI (((65535 - (z (ta + i))) + cy) / 65536))), (4, .int (nI ((65535 - (z (ta + i))) + cy))), (3, .int (nI i)), (0, .ref mo), (1, .int (nI ta))]) hx hb d_M_negate_43 rfl hl (by decide) rfl (fun ls hl => ?_)
        refine lv_iinc (k := 2) (v := nI (i + 1)) (lv' := [(3, .int (nI (i + 1))), (2, .int (nI (((65535 - (z (ta + i))) + cy) / 65536))), (4, .int (nI ((65535 - (z (ta + i))) + cy))), (0, .ref mo), (1, .int (nI ta))]) hx hb d_M_negate_44 hl rfl (k_inc _) (by decide) rfl (fun ls hl => ?_)
        refine lv_goto (tgt := 4) hx hb d_M_negate_47 (by decide) ?_
        exact ih (n - 1) (by omega) (i + 1) ((65535 - z (ta + i) + cy) / 65536) (va_up z (ta + i) ((65535 - z (ta + i) + cy) % 65536)) _ _ ls (by omega) (ng_step hI) (lv_sub hl [0, 1, 3, 4] rfl) hP hD hS
  exact key4 16 0 1 g _ _ ls (by omega) ⟨by decide, rfl, fun _ _ => rfl, hg⟩ (lv_sub hl [0, 1, 2, 3] rfl) hP hD hS

abbrev y_M_sum : MethodName := ⟨"WideStackModel", "sum", "()V"⟩
theorem d_M_sum_0 : decode prog_12_method_21_code 0 = .ok (.iconst 0, 1) := by decide +kernel
theorem d_M_sum_1 : decode prog_12_method_21_code 1 = .ok (.istore_n 1, 1) := by decide +kernel
theorem d_M_sum_2 : decode prog_12_method_21_code 2 = .ok (.iconst 0, 1) := by decide +kernel
theorem d_M_sum_3 : decode prog_12_method_21_code 3 = .ok (.istore_n 2, 1) := by decide +kernel
theorem d_M_sum_4 : decode prog_12_method_21_code 4 = .ok (.iload_n 2, 1) := by decide +kernel
theorem d_M_sum_5 : decode prog_12_method_21_code 5 = .ok (.bipush 16, 2) := by decide +kernel
theorem d_M_sum_7 : decode prog_12_method_21_code 7 = .ok (.if_icmp .ge 52, 3) := by decide +kernel
theorem d_M_sum_10 : decode prog_12_method_21_code 10 = .ok (.aload_n 0, 1) := by decide +kernel
theorem d_M_sum_11 : decode prog_12_method_21_code 11 = .ok (.getfield 16, 3) := by decide +kernel
theorem d_M_sum_14 : decode prog_12_method_21_code 14 = .ok (.sipush 256, 3) := by decide +kernel
theorem d_M_sum_17 : decode prog_12_method_21_code 17 = .ok (.iload_n 2, 1) := by decide +kernel
theorem d_M_sum_18 : decode prog_12_method_21_code 18 = .ok (.iadd, 1) := by decide +kernel
theorem d_M_sum_19 : decode prog_12_method_21_code 19 = .ok (.iaload, 1) := by decide +kernel
theorem d_M_sum_20 : decode prog_12_method_21_code 20 = .ok (.aload_n 0, 1) := by decide +kernel
theorem d_M_sum_21 : decode prog_12_method_21_code 21 = .ok (.getfield 16, 3) := by decide +kernel
theorem d_M_sum_24 : decode prog_12_method_21_code 24 = .ok (.sipush 272, 3) := by decide +kernel
theorem d_M_sum_27 : decode prog_12_method_21_code 27 = .ok (.iload_n 2, 1) := by decide +kernel
theorem d_M_sum_28 : decode prog_12_method_21_code 28 = .ok (.iadd, 1) := by decide +kernel
theorem d_M_sum_29 : decode prog_12_method_21_code 29 = .ok (.iaload, 1) := by decide +kernel
theorem d_M_sum_30 : decode prog_12_method_21_code 30 = .ok (.iadd, 1) := by decide +kernel
theorem d_M_sum_31 : decode prog_12_method_21_code 31 = .ok (.iload_n 1, 1) := by decide +kernel
theorem d_M_sum_32 : decode prog_12_method_21_code 32 = .ok (.iadd, 1) := by decide +kernel
theorem d_M_sum_33 : decode prog_12_method_21_code 33 = .ok (.istore_n 3, 1) := by decide +kernel
theorem d_M_sum_34 : decode prog_12_method_21_code 34 = .ok (.aload_n 0, 1) := by decide +kernel
theorem d_M_sum_35 : decode prog_12_method_21_code 35 = .ok (.getfield 16, 3) := by decide +kernel
theorem d_M_sum_38 : decode prog_12_method_21_code 38 = .ok (.sipush 320, 3) := by decide +kernel
theorem d_M_sum_41 : decode prog_12_method_21_code 41 = .ok (.iload_n 2, 1) := by decide +kernel
theorem d_M_sum_42 : decode prog_12_method_21_code 42 = .ok (.iadd, 1) := by decide +kernel
theorem d_M_sum_43 : decode prog_12_method_21_code 43 = .ok (.iload_n 3, 1) := by decide +kernel
theorem d_M_sum_44 : decode prog_12_method_21_code 44 = .ok (.ldc 52, 2) := by decide +kernel
theorem d_M_sum_46 : decode prog_12_method_21_code 46 = .ok (.iand, 1) := by decide +kernel
theorem d_M_sum_47 : decode prog_12_method_21_code 47 = .ok (.iastore, 1) := by decide +kernel
theorem d_M_sum_48 : decode prog_12_method_21_code 48 = .ok (.iload_n 3, 1) := by decide +kernel
theorem d_M_sum_49 : decode prog_12_method_21_code 49 = .ok (.bipush 16, 2) := by decide +kernel
theorem d_M_sum_51 : decode prog_12_method_21_code 51 = .ok (.ishr, 1) := by decide +kernel
theorem d_M_sum_52 : decode prog_12_method_21_code 52 = .ok (.istore_n 1, 1) := by decide +kernel
theorem d_M_sum_53 : decode prog_12_method_21_code 53 = .ok (.iinc 2 1, 3) := by decide +kernel
theorem d_M_sum_56 : decode prog_12_method_21_code 56 = .ok (.goto (-52), 3) := by decide +kernel
theorem d_M_sum_59 : decode prog_12_method_21_code 59 = .ok (.bipush 16, 2) := by decide +kernel
theorem d_M_sum_61 : decode prog_12_method_21_code 61 = .ok (.istore_n 2, 1) := by decide +kernel
theorem d_M_sum_62 : decode prog_12_method_21_code 62 = .ok (.iload_n 2, 1) := by decide +kernel
theorem d_M_sum_63 : decode prog_12_method_21_code 63 = .ok (.bipush 33, 2) := by decide +kernel
theorem d_M_sum_65 : decode prog_12_method_21_code 65 = .ok (.if_icmp .ge 30, 3) := by decide +kernel
theorem d_M_sum_68 : decode prog_12_method_21_code 68 = .ok (.aload_n 0, 1) := by decide +kernel
theorem d_M_sum_69 : decode prog_12_method_21_code 69 = .ok (.getfield 16, 3) := by decide +kernel
theorem d_M_sum_72 : decode prog_12_method_21_code 72 = .ok (.sipush 320, 3) := by decide +kernel
theorem d_M_sum_75 : decode prog_12_method_21_code 75 = .ok (.iload_n 2, 1) := by decide +kernel
theorem d_M_sum_76 : decode prog_12_method_21_code 76 = .ok (.iadd, 1) := by decide +kernel
theorem d_M_sum_77 : decode prog_12_method_21_code 77 = .ok (.iload_n 2, 1) := by decide +kernel
theorem d_M_sum_78 : decode prog_12_method_21_code 78 = .ok (.bipush 16, 2) := by decide +kernel
theorem d_M_sum_80 : decode prog_12_method_21_code 80 = .ok (.if_icmp .ne 7, 3) := by decide +kernel
theorem d_M_sum_83 : decode prog_12_method_21_code 83 = .ok (.iload_n 1, 1) := by decide +kernel
theorem d_M_sum_84 : decode prog_12_method_21_code 84 = .ok (.goto 4, 3) := by decide +kernel
theorem d_M_sum_87 : decode prog_12_method_21_code 87 = .ok (.iconst 0, 1) := by decide +kernel
theorem d_M_sum_88 : decode prog_12_method_21_code 88 = .ok (.iastore, 1) := by decide +kernel
theorem d_M_sum_89 : decode prog_12_method_21_code 89 = .ok (.iinc 2 1, 3) := by decide +kernel
theorem d_M_sum_92 : decode prog_12_method_21_code 92 = .ok (.goto (-30), 3) := by decide +kernel
theorem d_M_sum_95 : decode prog_12_method_21_code 95 = .ok (.return_, 1) := by decide +kernel
def rm_c_M_sum : Room := { frames := 0, cells := 0, slots := 0, locals := 0 }
set_option maxHeartbeats 4000000 in
set_option maxRecDepth 100000 in
theorem c_M_sum (l : Launch) (E : kE) (mo mb mm mw mh ml len en gas ctr siz hgt frm ret : Nat) (on ay : Bool) (g : Nat → Nat) (hg : ∀ j, g j < 65536) : Kv l y_M_sum (kW y_M_sum prog_12_method_21_code 4 (none)) rm_c_M_sum E [.ref mo] [(mo, .inr (8, [.int (nI len), .ref mb, .int (kb on), .int (nI en), .int (nI gas), .int (nI ctr), .int (nI siz), .int (nI hgt), .int (nI frm), .int (nI ret), .ref mm, .ref mw, .ref mh, .ref ml, .int (kb ay)])), (mw, .inl (E.2.1 0, 370, .inl (nF g)))] (S := Nat → Nat) (fun u => gv u 320 33 = gv g 256 16 + gv g 272 16 ∧ fr1 g u 320 33 ∧ ∀ j, u j < 65536) (fun u => [(mo, .inr (8, [.int (nI len), .ref mb, .int (kb on), .int (nI en), .int (nI gas), .int (nI ctr), .int (nI siz), .int (nI hgt), .int (nI frm), .int (nI ret), .ref mm, .ref mw, .ref mh, .ref ml, .int (kb ay)])), (mw, .inl (E.2.1 0, 370, .inl (nF u)))]) := by
  refine Kv.ofW (cc := prog_12_method_21_code) (maxL := 4) (by decide) (Nat.le_of_ble_eq_true rfl) ?_
  intro p e s m args below meth c A ls Q hx hb hts hown hml hK hG hA hP hD hS hl hret
  have hl : lv_has ls 4 [(0, .ref mo)] := hl
  refine lv_iconst (v := nI 0) hx hb d_M_sum_0 (by decide) ?_
  refine lv_istore_n (lv' := [(1, .int (nI 0)), (0, .ref mo)]) hx hb d_M_sum_1 rfl hl (by decide) rfl (fun ls hl => ?_)
  refine lv_iconst (v := nI 0) hx hb d_M_sum_2 (by decide) ?_
  refine lv_istore_n (lv' := [(2, .int (nI 0)), (1, .int (nI 0)), (0, .ref mo)]) hx hb d_M_sum_3 rfl hl (by decide) rfl (fun ls hl => ?_)
  have key4 : ∀ (n : Nat) (i cy : Nat) (z : Nat → Nat) (H : Heap) (locs : List Loc) (ls : Array Slot), i + n = 16 → (smI g z i cy) → lv_has ls 4 [(2, .int (nI i)), (1, .int (nI cy)), (0, .ref mo)] → va_P E.1 vwCl [(mo, .inr (8, [.int (nI len), .ref mb, .int (kb on), .int (nI en), .int (nI gas), .int (nI ctr), .int (nI siz), .int (nI hgt), .int (nI frm), .int (nI ret), .ref mm, .ref mw, .ref mh, .ref ml, .int (kb ay)])), (mw, .inl (E.2.1 0, 370, .inl (nF z)))] H → va_D A [(mo, .inr (8, [.int (nI len), .ref mb, .int (kb on), .int (nI en), .int (nI gas), .int (nI ctr), .int (nI siz), .int (nI hgt), .int (nI frm), .int (nI ret), .ref mm, .ref mw, .ref mh, .ref ml, .int (kb ay)])), (mw, .inl (E.2.1 0, 370, .inl (nF z)))] → va_S A s.heap H locs → W p l e rm_c_M_sum s m args below meth c H locs 0 0 Q (F0 m 4 ls []) := by
    intro n
    induction n using Nat.strongRecOn with
    | ind n ih =>
      intro i cy z H locs ls hn hI hl hP hD hS
      have b1 := hI.2.2.2 (256 + i)
      have b3 := hI.2.2.2 (272 + i)
      have b2 := hI.1
      refine lv_iload_n hx hb d_M_sum_4 rfl (lv_at hl 0 rfl) ?_
      refine lv_bipush (v := nI 16) hx hb d_M_sum_5 (by decide) ?_
      refine kn_ge (tgt := 59) hx hb (by omega) (by omega) d_M_sum_7 (by decide) (fun h7 => ?_) (fun h7 => ?_)
      · refine lv_bipush (v := nI 16) hx hb d_M_sum_59 (by decide) ?_
        refine lv_istore_n (lv' := [(2, .int (nI 16)), (1, .int (nI cy)), (0, .ref mo)]) hx hb d_M_sum_61 rfl hl (by decide) rfl (fun ls hl => ?_)
        have key62 : ∀ (n2 : Nat) (j : Nat) (y : Nat → Nat) (H : Heap) (locs : List Loc) (ls : Array Slot), j + n2 = 33 → (smJ (gv g 256 16 + gv g 272 16) cy g y j) → lv_has ls 4 [(2, .int (nI j)), (1, .int (nI cy)), (0, .ref mo)] → va_P E.1 vwCl [(mo, .inr (8, [.int (nI len), .ref mb, .int (kb on), .int (nI en), .int (nI gas), .int (nI ctr), .int (nI siz), .int (nI hgt), .int (nI frm), .int (nI ret), .ref mm, .ref mw, .ref mh, .ref ml, .int (kb ay)])), (mw, .inl (E.2.1 0, 370, .inl (nF y)))] H → va_D A [(mo, .inr (8, [.int (nI len), .ref mb, .int (kb on), .int (nI en), .int (nI gas), .int (nI ctr), .int (nI siz), .int (nI hgt), .int (nI frm), .int (nI ret), .ref mm, .ref mw, .ref mh, .ref ml, .int (kb ay)])), (mw, .inl (E.2.1 0, 370, .inl (nF y)))] → va_S A s.heap H locs → W p l e rm_c_M_sum s m args below meth c H locs 0 0 Q (F0 m 62 ls []) := by
          intro n2
          induction n2 using Nat.strongRecOn with
          | ind n2 ih_n2 =>
            intro j y H locs ls hn hJ hl hP hD hS
            refine lv_iload_n hx hb d_M_sum_62 rfl (lv_at hl 0 rfl) ?_
            refine lv_bipush (v := nI 33) hx hb d_M_sum_63 (by decide) ?_
            refine kn_ge (tgt := 95) hx hb (by omega) (by omega) d_M_sum_65 (by decide) (fun h65 => ?_) (fun h65 => ?_)
            · obtain rfl : j = 33 := by omega
              exact hret _ ls _ _ y d_M_sum_95 ⟨by rcases hJ.2.1 with q | q; (exact absurd q.1 (by decide)); exact q.2, hJ.2.2.1, hJ.2.2.2⟩ hP hS
            · refine lv_aload_n hx hb d_M_sum_68 rfl (lv_at hl 2 rfl) ?_
              refine va_get (D := E.1) (ci := 8) (v := .ref mw) (C := "WideStackModel") (T := T_M) (N := 15) hx hb hts in_M hown hK hP 0 rfl rfl 11 (by decide) (hts _ t_758) (fun _ h9 => h9) rfl d_M_sum_69 ?_
              refine lv_sipush (v := nI 320) hx hb d_M_sum_72 (by decide) ?_
              refine lv_iload_n hx hb d_M_sum_75 rfl (lv_at hl 0 rfl) ?_
              refine lv_iadd hx hb d_M_sum_76 ?_
              refine k_top (nI_add _ _) ?_
              refine lv_iload_n hx hb d_M_sum_77 rfl (lv_at hl 0 rfl) ?_
              refine lv_bipush (v := nI 16) hx hb d_M_sum_78 (by decide) ?_
              refine kn_ne (tgt := 87) hx hb (by omega) (by omega) d_M_sum_80 (by decide) (fun h80 => ?_) (fun h80 => ?_)
              · refine lv_iconst (v := nI 0) hx hb d_M_sum_87 (by decide) ?_
                refine k_iastN hx hb hK hP hD hS 1 rfl (i := (320 + j)) (by omega) (by omega) d_M_sum_88 (fun H locs hP hD hS => ?_)
                have hP : va_P E.1 vwCl [(mo, .inr (8, [.int (nI len), .ref mb, .int (kb on), .int (nI en), .int (nI gas), .int (nI ctr), .int (nI siz), .int (nI hgt), .int (nI frm), .int (nI ret), .ref mm, .ref mw, .ref mh, .ref ml, .int (kb ay)])), (mw, .inl (E.2.1 0, 370, .inl (nF (va_up y (320 + j) 0))))] H := hP
                have hD : va_D A [(mo, .inr (8, [.int (nI len), .ref mb, .int (kb on), .int (nI en), .int (nI gas), .int (nI ctr), .int (nI siz), .int (nI hgt), .int (nI frm), .int (nI ret), .ref mm, .ref mw, .ref mh, .ref ml, .int (kb ay)])), (mw, .inl (E.2.1 0, 370, .inl (nF (va_up y (320 + j) 0))))] := hD
                refine lv_iinc (k := 0) (v := nI (j + 1)) (lv' := [(2, .int (nI (j + 1))), (1, .int (nI cy)), (0, .ref mo)]) hx hb d_M_sum_89 hl rfl (k_inc _) (by decide) rfl (fun ls hl => ?_)
                refine lv_goto (tgt := 62) hx hb d_M_sum_92 (by decide) ?_
                exact ih_n2 (n2 - 1) (by omega) (j + 1) (va_up y (320 + j) 0) _ _ ls (by omega) (sj_step (by omega) hI.1 (by first | exact Or.inl ⟨h80, rfl⟩ | exact Or.inr ⟨h80, rfl⟩) hJ) (lv_sub hl [0, 1, 2] rfl) hP hD hS
              · refine lv_iload_n hx hb d_M_sum_83 rfl (lv_at hl 1 rfl) ?_
                refine lv_goto (tgt := 88) hx hb d_M_sum_84 (by decide) ?_
                refine k_iastN hx hb hK hP hD hS 1 rfl (i := (320 + j)) (by omega) (by omega) d_M_sum_88 (fun H locs hP hD hS => ?_)
                have hP : va_P E.1 vwCl [(mo, .inr (8, [.int (nI len), .ref mb, .int (kb on), .int (nI en), .int (nI gas), .int (nI ctr), .int (nI siz), .int (nI hgt), .int (nI frm), .int (nI ret), .ref mm, .ref mw, .ref mh, .ref ml, .int (kb ay)])), (mw, .inl (E.2.1 0, 370, .inl (nF (va_up y (320 + j) cy))))] H := hP
                have hD : va_D A [(mo, .inr (8, [.int (nI len), .ref mb, .int (kb on), .int (nI en), .int (nI gas), .int (nI ctr), .int (nI siz), .int (nI hgt), .int (nI frm), .int (nI ret), .ref mm, .ref mw, .ref mh, .ref ml, .int (kb ay)])), (mw, .inl (E.2.1 0, 370, .inl (nF (va_up y (320 + j) cy))))] := hD
                refine lv_iinc (k := 0) (v := nI (j + 1)) (lv' := [(2, .int (nI (j + 1))), (1, .int (nI cy)), (0, .ref mo)]) hx hb d_M_sum_89 hl rfl (k_inc _) (by decide) rfl (fun ls hl => ?_)
                refine lv_goto (tgt := 62) hx hb d_M_sum_92 (by decide) ?_
                exact ih_n2 (n2 - 1) (by omega) (j + 1) (va_up y (320 + j) cy) _ _ ls (by omega) (sj_step (by omega) hI.1 (by first | exact Or.inl ⟨h80, rfl⟩ | exact Or.inr ⟨h80, rfl⟩) hJ) (lv_sub hl [0, 1, 2] rfl) hP hD hS
        exact key62 17 16 z _ _ ls (by omega) ⟨Nat.le_refl 16, Or.inl ⟨rfl, by (obtain rfl : i = 16 := by omega); exact hI.2.1⟩, hI.2.2.1, hI.2.2.2⟩ (lv_sub hl [0, 1, 2] rfl) hP hD hS
      · refine lv_aload_n hx hb d_M_sum_10 rfl (lv_at hl 2 rfl) ?_
        refine va_get (D := E.1) (ci := 8) (v := .ref mw) (C := "WideStackModel") (T := T_M) (N := 15) hx hb hts in_M hown hK hP 0 rfl rfl 11 (by decide) (hts _ t_758) (fun _ h9 => h9) rfl d_M_sum_11 ?_
        refine lv_sipush (v := nI 256) hx hb d_M_sum_14 (by decide) ?_
        refine lv_iload_n hx hb d_M_sum_17 rfl (lv_at hl 0 rfl) ?_
        refine lv_iadd hx hb d_M_sum_18 ?_
        refine k_top (nI_add _ _) ?_
        refine k_ialdN hx hb hK hP 1 rfl (i := (256 + i)) (by omega) (by omega) d_M_sum_19 ?_
        refine lv_aload_n hx hb d_M_sum_20 rfl (lv_at hl 2 rfl) ?_
        refine va_get (D := E.1) (ci := 8) (v := .ref mw) (C := "WideStackModel") (T := T_M) (N := 15) hx hb hts in_M hown hK hP 0 rfl rfl 11 (by decide) (hts _ t_758) (fun _ h9 => h9) rfl d_M_sum_21 ?_
        refine lv_sipush (v := nI 272) hx hb d_M_sum_24 (by decide) ?_
        refine lv_iload_n hx hb d_M_sum_27 rfl (lv_at hl 0 rfl) ?_
        refine lv_iadd hx hb d_M_sum_28 ?_
        refine k_top (nI_add _ _) ?_
        refine k_ialdN hx hb hK hP 1 rfl (i := (272 + i)) (by omega) (by omega) d_M_sum_29 ?_
        refine lv_iadd hx hb d_M_sum_30 ?_
        refine k_top (nI_add _ _) ?_
        refine lv_iload_n hx hb d_M_sum_31 rfl (lv_at hl 1 rfl) ?_
        refine lv_iadd hx hb d_M_sum_32 ?_
        refine k_top (nI_add _ _) ?_
        refine lv_istore_n (lv' := [(3, .int (nI (((z (256 + i)) + (z (272 + i))) + cy))), (2, .int (nI i)), (1, .int (nI cy)), (0, .ref mo)]) hx hb d_M_sum_33 rfl hl (by decide) rfl (fun ls hl => ?_)
        refine lv_aload_n hx hb d_M_sum_34 rfl (lv_at hl 3 rfl) ?_
        refine va_get (D := E.1) (ci := 8) (v := .ref mw) (C := "WideStackModel") (T := T_M) (N := 15) hx hb hts in_M hown hK hP 0 rfl rfl 11 (by decide) (hts _ t_758) (fun _ h9 => h9) rfl d_M_sum_35 ?_
        refine lv_sipush (v := nI 320) hx hb d_M_sum_38 (by decide) ?_
        refine lv_iload_n hx hb d_M_sum_41 rfl (lv_at hl 1 rfl) ?_
        refine lv_iadd hx hb d_M_sum_42 ?_
        refine k_top (nI_add _ _) ?_
        refine lv_iload_n hx hb d_M_sum_43 rfl (lv_at hl 0 rfl) ?_
        refine lv_ldc (v := 65535) hx hb hown (hts _ t_827) d_M_sum_44 ?_
        refine k_top (y := nI 65535) (by decide) ?_
        refine lv_iand hx hb d_M_sum_46 ?_
        refine k_top (pk_andN (by omega) 16 (by decide)) ?_
        refine k_iastN hx hb hK hP hD hS 1 rfl (i := (320 + i)) (by omega) (by omega) d_M_sum_47 (fun H locs hP hD hS => ?_)
        have hP : va_P E.1 vwCl [(mo, .inr (8, [.int (nI len), .ref mb, .int (kb on), .int (nI en), .int (nI gas), .int (nI ctr), .int (nI siz), .int (nI hgt), .int (nI frm), .int (nI ret), .ref mm, .ref mw, .ref mh, .ref ml, .int (kb ay)])), (mw, .inl (E.2.1 0, 370, .inl (nF (va_up z (320 + i) ((((z (256 + i)) + (z (272 + i))) + cy) % 65536)))))] H := hP
        have hD : va_D A [(mo, .inr (8, [.int (nI len), .ref mb, .int (kb on), .int (nI en), .int (nI gas), .int (nI ctr), .int (nI siz), .int (nI hgt), .int (nI frm), .int (nI ret), .ref mm, .ref mw, .ref mh, .ref ml, .int (kb ay)])), (mw, .inl (E.2.1 0, 370, .inl (nF (va_up z (320 + i) ((((z (256 + i)) + (z (272 + i))) + cy) % 65536)))))] := hD
        refine lv_iload_n hx hb d_M_sum_48 rfl (lv_at hl 0 rfl) ?_
        refine lv_bipush (v := nI 16) hx hb d_M_sum_49 (by decide) ?_
        refine lv_ishr hx hb d_M_sum_51 ?_
        refine k_top (pk_shrN (by omega) (nI 16 &&& 31) 16 (s_l _ (by decide))) ?_
        refine lv_istore_n (lv' := [(1, .int (nI ((((z (256 + i)) + (z (272 + i))) + cy) / 65536))), (3, .int (nI (((z (256 + i)) + (z (272 + i))) + cy))), (2, .int (nI i)), (0, .ref mo)]) hx hb d_M_sum_52 rfl hl (by decide) rfl (fun ls hl => ?_)
        refine lv_iinc (k := 2) (v := nI (i + 1)) (lv' := [(2, .int (nI (i + 1))), (1, .int (nI ((((z (256 + i)) + (z (272 + i))) + cy) / 65536))), (3, .int (nI (((z (256 + i)) + (z (272 + i))) + cy))), (0, .ref mo)]) hx hb d_M_sum_53 hl rfl (k_inc _) (by decide) rfl (fun ls hl => ?_)
        refine lv_goto (tgt := 4) hx hb d_M_sum_56 (by decide) ?_
        exact ih (n - 1) (by omega) (i + 1) ((z (256 + i) + z (272 + i) + cy) / 65536) (va_up z (320 + i) ((z (256 + i) + z (272 + i) + cy) % 65536)) _ _ ls (by omega) (sm_step (by omega) hI) (lv_sub hl [0, 1, 3] rfl) hP hD hS
  exact key4 16 0 0 g _ _ ls (by omega) ⟨by decide, rfl, fr1_0, hg⟩ (lv_sub hl [0, 1, 2] rfl) hP hD hS

abbrev y_M_alone : MethodName := ⟨"WideStackModel", "alone", "()V"⟩
theorem d_M_alone_0 : decode prog_12_method_26_code 0 = .ok (.iconst 0, 1) := by decide +kernel
theorem d_M_alone_1 : decode prog_12_method_26_code 1 = .ok (.istore_n 1, 1) := by decide +kernel
theorem d_M_alone_2 : decode prog_12_method_26_code 2 = .ok (.iload_n 1, 1) := by decide +kernel
theorem d_M_alone_3 : decode prog_12_method_26_code 3 = .ok (.bipush 33, 2) := by decide +kernel
theorem d_M_alone_5 : decode prog_12_method_26_code 5 = .ok (.if_icmp .ge 39, 3) := by decide +kernel
theorem d_M_alone_8 : decode prog_12_method_26_code 8 = .ok (.aload_n 0, 1) := by decide +kernel
theorem d_M_alone_9 : decode prog_12_method_26_code 9 = .ok (.getfield 16, 3) := by decide +kernel
theorem d_M_alone_12 : decode prog_12_method_26_code 12 = .ok (.sipush 320, 3) := by decide +kernel
theorem d_M_alone_15 : decode prog_12_method_26_code 15 = .ok (.iload_n 1, 1) := by decide +kernel
theorem d_M_alone_16 : decode prog_12_method_26_code 16 = .ok (.iadd, 1) := by decide +kernel
theorem d_M_alone_17 : decode prog_12_method_26_code 17 = .ok (.iload_n 1, 1) := by decide +kernel
theorem d_M_alone_18 : decode prog_12_method_26_code 18 = .ok (.bipush 16, 2) := by decide +kernel
theorem d_M_alone_20 : decode prog_12_method_26_code 20 = .ok (.if_icmp .ge 16, 3) := by decide +kernel
theorem d_M_alone_23 : decode prog_12_method_26_code 23 = .ok (.aload_n 0, 1) := by decide +kernel
theorem d_M_alone_24 : decode prog_12_method_26_code 24 = .ok (.getfield 16, 3) := by decide +kernel
theorem d_M_alone_27 : decode prog_12_method_26_code 27 = .ok (.sipush 256, 3) := by decide +kernel
theorem d_M_alone_30 : decode prog_12_method_26_code 30 = .ok (.iload_n 1, 1) := by decide +kernel
theorem d_M_alone_31 : decode prog_12_method_26_code 31 = .ok (.iadd, 1) := by decide +kernel
theorem d_M_alone_32 : decode prog_12_method_26_code 32 = .ok (.iaload, 1) := by decide +kernel
theorem d_M_alone_33 : decode prog_12_method_26_code 33 = .ok (.goto 4, 3) := by decide +kernel
theorem d_M_alone_36 : decode prog_12_method_26_code 36 = .ok (.iconst 0, 1) := by decide +kernel
theorem d_M_alone_37 : decode prog_12_method_26_code 37 = .ok (.iastore, 1) := by decide +kernel
theorem d_M_alone_38 : decode prog_12_method_26_code 38 = .ok (.iinc 1 1, 3) := by decide +kernel
theorem d_M_alone_41 : decode prog_12_method_26_code 41 = .ok (.goto (-39), 3) := by decide +kernel
theorem d_M_alone_44 : decode prog_12_method_26_code 44 = .ok (.return_, 1) := by decide +kernel
def rm_c_M_alone : Room := { frames := 0, cells := 0, slots := 0, locals := 0 }
set_option maxHeartbeats 4000000 in
set_option maxRecDepth 100000 in
theorem c_M_alone (l : Launch) (E : kE) (mo mb mm mw mh ml len en gas ctr siz hgt frm ret : Nat) (on ay : Bool) (g : Nat → Nat) (hg : ∀ j, g j < 65536) : Kv l y_M_alone (kW y_M_alone prog_12_method_26_code 2 (none)) rm_c_M_alone E [.ref mo] [(mo, .inr (8, [.int (nI len), .ref mb, .int (kb on), .int (nI en), .int (nI gas), .int (nI ctr), .int (nI siz), .int (nI hgt), .int (nI frm), .int (nI ret), .ref mm, .ref mw, .ref mh, .ref ml, .int (kb ay)])), (mw, .inl (E.2.1 0, 370, .inl (nF g)))] (S := Nat → Nat) (fun u => gv u 320 33 = gv g 256 16 ∧ fr1 g u 320 33 ∧ ∀ j, u j < 65536) (fun u => [(mo, .inr (8, [.int (nI len), .ref mb, .int (kb on), .int (nI en), .int (nI gas), .int (nI ctr), .int (nI siz), .int (nI hgt), .int (nI frm), .int (nI ret), .ref mm, .ref mw, .ref mh, .ref ml, .int (kb ay)])), (mw, .inl (E.2.1 0, 370, .inl (nF u)))]) := by
  refine Kv.ofW (cc := prog_12_method_26_code) (maxL := 2) (by decide) (Nat.le_of_ble_eq_true rfl) ?_
  intro p e s m args below meth c A ls Q hx hb hts hown hml hK hG hA hP hD hS hl hret
  have hl : lv_has ls 2 [(0, .ref mo)] := hl
  refine lv_iconst (v := nI 0) hx hb d_M_alone_0 (by decide) ?_
  refine lv_istore_n (lv' := [(1, .int (nI 0)), (0, .ref mo)]) hx hb d_M_alone_1 rfl hl (by decide) rfl (fun ls hl => ?_)
  have key2 : ∀ (n : Nat) (i : Nat) (z : Nat → Nat) (H : Heap) (locs : List Loc) (ls : Array Slot), i + n = 33 → (alI g z i) → lv_has ls 2 [(1, .int (nI i)), (0, .ref mo)] → va_P E.1 vwCl [(mo, .inr (8, [.int (nI len), .ref mb, .int (kb on), .int (nI en), .int (nI gas), .int (nI ctr), .int (nI siz), .int (nI hgt), .int (nI frm), .int (nI ret), .ref mm, .ref mw, .ref mh, .ref ml, .int (kb ay)])), (mw, .inl (E.2.1 0, 370, .inl (nF z)))] H → va_D A [(mo, .inr (8, [.int (nI len), .ref mb, .int (kb on), .int (nI en), .int (nI gas), .int (nI ctr), .int (nI siz), .int (nI hgt), .int (nI frm), .int (nI ret), .ref mm, .ref mw, .ref mh, .ref ml, .int (kb ay)])), (mw, .inl (E.2.1 0, 370, .inl (nF z)))] → va_S A s.heap H locs → W p l e rm_c_M_alone s m args below meth c H locs 0 0 Q (F0 m 2 ls []) := by
    intro n
    induction n using Nat.strongRecOn with
    | ind n ih =>
      intro i z H locs ls hn hI hl hP hD hS
      refine lv_iload_n hx hb d_M_alone_2 rfl (lv_at hl 0 rfl) ?_
      refine lv_bipush (v := nI 33) hx hb d_M_alone_3 (by decide) ?_
      refine kn_ge (tgt := 44) hx hb (by omega) (by omega) d_M_alone_5 (by decide) (fun h5 => ?_) (fun h5 => ?_)
      · obtain rfl : i = 33 := by omega
        exact hret _ ls _ _ z d_M_alone_44 hI hP hS
      · refine lv_aload_n hx hb d_M_alone_8 rfl (lv_at hl 1 rfl) ?_
        refine va_get (D := E.1) (ci := 8) (v := .ref mw) (C := "WideStackModel") (T := T_M) (N := 15) hx hb hts in_M hown hK hP 0 rfl rfl 11 (by decide) (hts _ t_758) (fun _ h9 => h9) rfl d_M_alone_9 ?_
        refine lv_sipush (v := nI 320) hx hb d_M_alone_12 (by decide) ?_
        refine lv_iload_n hx hb d_M_alone_15 rfl (lv_at hl 0 rfl) ?_
        refine lv_iadd hx hb d_M_alone_16 ?_
        refine k_top (nI_add _ _) ?_
        refine lv_iload_n hx hb d_M_alone_17 rfl (lv_at hl 0 rfl) ?_
        refine lv_bipush (v := nI 16) hx hb d_M_alone_18 (by decide) ?_
        refine kn_ge (tgt := 36) hx hb (by omega) (by omega) d_M_alone_20 (by decide) (fun h20 => ?_) (fun h20 => ?_)
        · refine lv_iconst (v := nI 0) hx hb d_M_alone_36 (by decide) ?_
          refine k_iastN hx hb hK hP hD hS 1 rfl (i := (320 + i)) (by omega) (by omega) d_M_alone_37 (fun H locs hP hD hS => ?_)
          have hP : va_P E.1 vwCl [(mo, .inr (8, [.int (nI len), .ref mb, .int (kb on), .int (nI en), .int (nI gas), .int (nI ctr), .int (nI siz), .int (nI hgt), .int (nI frm), .int (nI ret), .ref mm, .ref mw, .ref mh, .ref ml, .int (kb ay)])), (mw, .inl (E.2.1 0, 370, .inl (nF (va_up z (320 + i) 0))))] H := hP
          have hD : va_D A [(mo, .inr (8, [.int (nI len), .ref mb, .int (kb on), .int (nI en), .int (nI gas), .int (nI ctr), .int (nI siz), .int (nI hgt), .int (nI frm), .int (nI ret), .ref mm, .ref mw, .ref mh, .ref ml, .int (kb ay)])), (mw, .inl (E.2.1 0, 370, .inl (nF (va_up z (320 + i) 0))))] := hD
          refine lv_iinc (k := 0) (v := nI (i + 1)) (lv' := [(1, .int (nI (i + 1))), (0, .ref mo)]) hx hb d_M_alone_38 hl rfl (k_inc _) (by decide) rfl (fun ls hl => ?_)
          refine lv_goto (tgt := 2) hx hb d_M_alone_41 (by decide) ?_
          exact ih (n - 1) (by omega) (i + 1) (va_up z (320 + i) 0) _ _ ls (by omega) (by first | exact al_s1 (by omega) hI | exact al_s2 (by omega) (by omega) hI) (lv_sub hl [0, 1] rfl) hP hD hS
        · refine lv_aload_n hx hb d_M_alone_23 rfl (lv_at hl 1 rfl) ?_
          refine va_get (D := E.1) (ci := 8) (v := .ref mw) (C := "WideStackModel") (T := T_M) (N := 15) hx hb hts in_M hown hK hP 0 rfl rfl 11 (by decide) (hts _ t_758) (fun _ h9 => h9) rfl d_M_alone_24 ?_
          refine lv_sipush (v := nI 256) hx hb d_M_alone_27 (by decide) ?_
          refine lv_iload_n hx hb d_M_alone_30 rfl (lv_at hl 0 rfl) ?_
          refine lv_iadd hx hb d_M_alone_31 ?_
          refine k_top (nI_add _ _) ?_
          refine k_ialdN hx hb hK hP 1 rfl (i := (256 + i)) (by omega) (by omega) d_M_alone_32 ?_
          refine lv_goto (tgt := 37) hx hb d_M_alone_33 (by decide) ?_
          refine k_iastN hx hb hK hP hD hS 1 rfl (i := (320 + i)) (by omega) (by omega) d_M_alone_37 (fun H locs hP hD hS => ?_)
          have hP : va_P E.1 vwCl [(mo, .inr (8, [.int (nI len), .ref mb, .int (kb on), .int (nI en), .int (nI gas), .int (nI ctr), .int (nI siz), .int (nI hgt), .int (nI frm), .int (nI ret), .ref mm, .ref mw, .ref mh, .ref ml, .int (kb ay)])), (mw, .inl (E.2.1 0, 370, .inl (nF (va_up z (320 + i) (z (256 + i))))))] H := hP
          have hD : va_D A [(mo, .inr (8, [.int (nI len), .ref mb, .int (kb on), .int (nI en), .int (nI gas), .int (nI ctr), .int (nI siz), .int (nI hgt), .int (nI frm), .int (nI ret), .ref mm, .ref mw, .ref mh, .ref ml, .int (kb ay)])), (mw, .inl (E.2.1 0, 370, .inl (nF (va_up z (320 + i) (z (256 + i))))))] := hD
          refine lv_iinc (k := 0) (v := nI (i + 1)) (lv' := [(1, .int (nI (i + 1))), (0, .ref mo)]) hx hb d_M_alone_38 hl rfl (k_inc _) (by decide) rfl (fun ls hl => ?_)
          refine lv_goto (tgt := 2) hx hb d_M_alone_41 (by decide) ?_
          exact ih (n - 1) (by omega) (i + 1) (va_up z (320 + i) (z (256 + i))) _ _ ls (by omega) (by first | exact al_s1 (by omega) hI | exact al_s2 (by omega) (by omega) hI) (lv_sub hl [0, 1] rfl) hP hD hS
  exact key2 33 0 g _ _ ls (by omega) ⟨rfl, fr1_0, hg⟩ (lv_sub hl [0, 1] rfl) hP hD hS

theorem pr_z {g z : Nat → Nat} (h : zrI g z 320 33) : prI g z 0 := by
  obtain ⟨h1, h2, h3⟩ := h
  exact ⟨by rw [gv_0, Nat.zero_mul]; exact gv_is0.mpr (fun j hj => h1 _ (by omega) (by omega)), fun q q1 q2 => h1 q (by omega) (by omega), h2, h3⟩

abbrev y_M_product : MethodName := ⟨"WideStackModel", "product", "()V"⟩
theorem d_M_product_0 : decode prog_12_method_22_code 0 = .ok (.iconst 0, 1) := by decide +kernel
theorem d_M_product_1 : decode prog_12_method_22_code 1 = .ok (.istore_n 1, 1) := by decide +kernel
theorem d_M_product_2 : decode prog_12_method_22_code 2 = .ok (.iload_n 1, 1) := by decide +kernel
theorem d_M_product_3 : decode prog_12_method_22_code 3 = .ok (.bipush 33, 2) := by decide +kernel
theorem d_M_product_5 : decode prog_12_method_22_code 5 = .ok (.if_icmp .ge 20, 3) := by decide +kernel
theorem d_M_product_8 : decode prog_12_method_22_code 8 = .ok (.aload_n 0, 1) := by decide +kernel
theorem d_M_product_9 : decode prog_12_method_22_code 9 = .ok (.getfield 16, 3) := by decide +kernel
theorem d_M_product_12 : decode prog_12_method_22_code 12 = .ok (.sipush 320, 3) := by decide +kernel
theorem d_M_product_15 : decode prog_12_method_22_code 15 = .ok (.iload_n 1, 1) := by decide +kernel
theorem d_M_product_16 : decode prog_12_method_22_code 16 = .ok (.iadd, 1) := by decide +kernel
theorem d_M_product_17 : decode prog_12_method_22_code 17 = .ok (.iconst 0, 1) := by decide +kernel
theorem d_M_product_18 : decode prog_12_method_22_code 18 = .ok (.iastore, 1) := by decide +kernel
theorem d_M_product_19 : decode prog_12_method_22_code 19 = .ok (.iinc 1 1, 3) := by decide +kernel
theorem d_M_product_22 : decode prog_12_method_22_code 22 = .ok (.goto (-20), 3) := by decide +kernel
theorem d_M_product_25 : decode prog_12_method_22_code 25 = .ok (.iconst 0, 1) := by decide +kernel
theorem d_M_product_26 : decode prog_12_method_22_code 26 = .ok (.istore_n 1, 1) := by decide +kernel
theorem d_M_product_27 : decode prog_12_method_22_code 27 = .ok (.iload_n 1, 1) := by decide +kernel
theorem d_M_product_28 : decode prog_12_method_22_code 28 = .ok (.bipush 16, 2) := by decide +kernel
theorem d_M_product_30 : decode prog_12_method_22_code 30 = .ok (.if_icmp .ge 111, 3) := by decide +kernel
theorem d_M_product_33 : decode prog_12_method_22_code 33 = .ok (.lconst 0, 1) := by decide +kernel
theorem d_M_product_34 : decode prog_12_method_22_code 34 = .ok (.lstore_n 2, 1) := by decide +kernel
theorem d_M_product_35 : decode prog_12_method_22_code 35 = .ok (.iconst 0, 1) := by decide +kernel
theorem d_M_product_36 : decode prog_12_method_22_code 36 = .ok (.istore 4, 2) := by decide +kernel
theorem d_M_product_38 : decode prog_12_method_22_code 38 = .ok (.iload 4, 2) := by decide +kernel
theorem d_M_product_40 : decode prog_12_method_22_code 40 = .ok (.bipush 16, 2) := by decide +kernel
theorem d_M_product_42 : decode prog_12_method_22_code 42 = .ok (.if_icmp .ge 78, 3) := by decide +kernel
theorem d_M_product_45 : decode prog_12_method_22_code 45 = .ok (.aload_n 0, 1) := by decide +kernel
theorem d_M_product_46 : decode prog_12_method_22_code 46 = .ok (.getfield 16, 3) := by decide +kernel
theorem d_M_product_49 : decode prog_12_method_22_code 49 = .ok (.sipush 256, 3) := by decide +kernel
theorem d_M_product_52 : decode prog_12_method_22_code 52 = .ok (.iload_n 1, 1) := by decide +kernel
theorem d_M_product_53 : decode prog_12_method_22_code 53 = .ok (.iadd, 1) := by decide +kernel
theorem d_M_product_54 : decode prog_12_method_22_code 54 = .ok (.iaload, 1) := by decide +kernel
theorem d_M_product_55 : decode prog_12_method_22_code 55 = .ok (.i2l, 1) := by decide +kernel
theorem d_M_product_56 : decode prog_12_method_22_code 56 = .ok (.aload_n 0, 1) := by decide +kernel
theorem d_M_product_57 : decode prog_12_method_22_code 57 = .ok (.getfield 16, 3) := by decide +kernel
theorem d_M_product_60 : decode prog_12_method_22_code 60 = .ok (.sipush 272, 3) := by decide +kernel
theorem d_M_product_63 : decode prog_12_method_22_code 63 = .ok (.iload 4, 2) := by decide +kernel
theorem d_M_product_65 : decode prog_12_method_22_code 65 = .ok (.iadd, 1) := by decide +kernel
theorem d_M_product_66 : decode prog_12_method_22_code 66 = .ok (.iaload, 1) := by decide +kernel
theorem d_M_product_67 : decode prog_12_method_22_code 67 = .ok (.i2l, 1) := by decide +kernel
theorem d_M_product_68 : decode prog_12_method_22_code 68 = .ok (.lmul, 1) := by decide +kernel
theorem d_M_product_69 : decode prog_12_method_22_code 69 = .ok (.aload_n 0, 1) := by decide +kernel
theorem d_M_product_70 : decode prog_12_method_22_code 70 = .ok (.getfield 16, 3) := by decide +kernel
theorem d_M_product_73 : decode prog_12_method_22_code 73 = .ok (.sipush 320, 3) := by decide +kernel
theorem d_M_product_76 : decode prog_12_method_22_code 76 = .ok (.iload_n 1, 1) := by decide +kernel
theorem d_M_product_77 : decode prog_12_method_22_code 77 = .ok (.iadd, 1) := by decide +kernel
theorem d_M_product_78 : decode prog_12_method_22_code 78 = .ok (.iload 4, 2) := by decide +kernel
theorem d_M_product_80 : decode prog_12_method_22_code 80 = .ok (.iadd, 1) := by decide +kernel
theorem d_M_product_81 : decode prog_12_method_22_code 81 = .ok (.iaload, 1) := by decide +kernel
theorem d_M_product_82 : decode prog_12_method_22_code 82 = .ok (.i2l, 1) := by decide +kernel
theorem d_M_product_83 : decode prog_12_method_22_code 83 = .ok (.ladd, 1) := by decide +kernel
theorem d_M_product_84 : decode prog_12_method_22_code 84 = .ok (.lload_n 2, 1) := by decide +kernel
theorem d_M_product_85 : decode prog_12_method_22_code 85 = .ok (.ladd, 1) := by decide +kernel
theorem d_M_product_86 : decode prog_12_method_22_code 86 = .ok (.lstore 5, 2) := by decide +kernel
theorem d_M_product_88 : decode prog_12_method_22_code 88 = .ok (.aload_n 0, 1) := by decide +kernel
theorem d_M_product_89 : decode prog_12_method_22_code 89 = .ok (.getfield 16, 3) := by decide +kernel
theorem d_M_product_92 : decode prog_12_method_22_code 92 = .ok (.sipush 320, 3) := by decide +kernel
theorem d_M_product_95 : decode prog_12_method_22_code 95 = .ok (.iload_n 1, 1) := by decide +kernel
theorem d_M_product_96 : decode prog_12_method_22_code 96 = .ok (.iadd, 1) := by decide +kernel
theorem d_M_product_97 : decode prog_12_method_22_code 97 = .ok (.iload 4, 2) := by decide +kernel
theorem d_M_product_99 : decode prog_12_method_22_code 99 = .ok (.iadd, 1) := by decide +kernel
theorem d_M_product_100 : decode prog_12_method_22_code 100 = .ok (.lload 5, 2) := by decide +kernel
theorem d_M_product_102 : decode prog_12_method_22_code 102 = .ok (.ldc2_w 60, 3) := by decide +kernel
theorem d_M_product_105 : decode prog_12_method_22_code 105 = .ok (.land, 1) := by decide +kernel
theorem d_M_product_106 : decode prog_12_method_22_code 106 = .ok (.l2i, 1) := by decide +kernel
theorem d_M_product_107 : decode prog_12_method_22_code 107 = .ok (.iastore, 1) := by decide +kernel
theorem d_M_product_108 : decode prog_12_method_22_code 108 = .ok (.lload 5, 2) := by decide +kernel
theorem d_M_product_110 : decode prog_12_method_22_code 110 = .ok (.bipush 16, 2) := by decide +kernel
theorem d_M_product_112 : decode prog_12_method_22_code 112 = .ok (.lshr, 1) := by decide +kernel
theorem d_M_product_113 : decode prog_12_method_22_code 113 = .ok (.lstore_n 2, 1) := by decide +kernel
theorem d_M_product_114 : decode prog_12_method_22_code 114 = .ok (.iinc 4 1, 3) := by decide +kernel
theorem d_M_product_117 : decode prog_12_method_22_code 117 = .ok (.goto (-79), 3) := by decide +kernel
theorem d_M_product_120 : decode prog_12_method_22_code 120 = .ok (.aload_n 0, 1) := by decide +kernel
theorem d_M_product_121 : decode prog_12_method_22_code 121 = .ok (.getfield 16, 3) := by decide +kernel
theorem d_M_product_124 : decode prog_12_method_22_code 124 = .ok (.sipush 320, 3) := by decide +kernel
theorem d_M_product_127 : decode prog_12_method_22_code 127 = .ok (.iload_n 1, 1) := by decide +kernel
theorem d_M_product_128 : decode prog_12_method_22_code 128 = .ok (.iadd, 1) := by decide +kernel
theorem d_M_product_129 : decode prog_12_method_22_code 129 = .ok (.bipush 16, 2) := by decide +kernel
theorem d_M_product_131 : decode prog_12_method_22_code 131 = .ok (.iadd, 1) := by decide +kernel
theorem d_M_product_132 : decode prog_12_method_22_code 132 = .ok (.lload_n 2, 1) := by decide +kernel
theorem d_M_product_133 : decode prog_12_method_22_code 133 = .ok (.l2i, 1) := by decide +kernel
theorem d_M_product_134 : decode prog_12_method_22_code 134 = .ok (.iastore, 1) := by decide +kernel
theorem d_M_product_135 : decode prog_12_method_22_code 135 = .ok (.iinc 1 1, 3) := by decide +kernel
theorem d_M_product_138 : decode prog_12_method_22_code 138 = .ok (.goto (-111), 3) := by decide +kernel
theorem d_M_product_141 : decode prog_12_method_22_code 141 = .ok (.return_, 1) := by decide +kernel
def rm_c_M_product : Room := { frames := 0, cells := 0, slots := 0, locals := 0 }
set_option maxHeartbeats 4000000 in
set_option maxRecDepth 100000 in
theorem c_M_product (l : Launch) (E : kE) (mo mb mm mw mh ml len en gas ctr siz hgt frm ret : Nat) (on ay : Bool) (g : Nat → Nat) (hg : ∀ j, g j < 65536) : Kv l y_M_product (kW y_M_product prog_12_method_22_code 7 (none)) rm_c_M_product E [.ref mo] [(mo, .inr (8, [.int (nI len), .ref mb, .int (kb on), .int (nI en), .int (nI gas), .int (nI ctr), .int (nI siz), .int (nI hgt), .int (nI frm), .int (nI ret), .ref mm, .ref mw, .ref mh, .ref ml, .int (kb ay)])), (mw, .inl (E.2.1 0, 370, .inl (nF g)))] (S := Nat → Nat) (fun u => gv u 320 33 = gv g 256 16 * gv g 272 16 ∧ fr1 g u 320 33 ∧ ∀ j, u j < 65536) (fun u => [(mo, .inr (8, [.int (nI len), .ref mb, .int (kb on), .int (nI en), .int (nI gas), .int (nI ctr), .int (nI siz), .int (nI hgt), .int (nI frm), .int (nI ret), .ref mm, .ref mw, .ref mh, .ref ml, .int (kb ay)])), (mw, .inl (E.2.1 0, 370, .inl (nF u)))]) := by
  refine Kv.ofW (cc := prog_12_method_22_code) (maxL := 7) (by decide) (Nat.le_of_ble_eq_true rfl) ?_
  intro p e s m args below meth c A ls Q hx hb hts hown hml hK hG hA hP hD hS hl hret
  have hl : lv_has ls 7 [(0, .ref mo)] := hl
  refine lv_iconst (v := nI 0) hx hb d_M_product_0 (by decide) ?_
  refine lv_istore_n (lv' := [(1, .int (nI 0)), (0, .ref mo)]) hx hb d_M_product_1 rfl hl (by decide) rfl (fun ls hl => ?_)
  have key2 : ∀ (n : Nat) (i : Nat) (z : Nat → Nat) (H : Heap) (locs : List Loc) (ls : Array Slot), i + n = 33 → (zrI g z 320 i) → lv_has ls 7 [(1, .int (nI i)), (0, .ref mo)] → va_P E.1 vwCl [(mo, .inr (8, [.int (nI len), .ref mb, .int (kb on), .int (nI en), .int (nI gas), .int (nI ctr), .int (nI siz), .int (nI hgt), .int (nI frm), .int (nI ret), .ref mm, .ref mw, .ref mh, .ref ml, .int (kb ay)])), (mw, .inl (E.2.1 0, 370, .inl (nF z)))] H → va_D A [(mo, .inr (8, [.int (nI len), .ref mb, .int (kb on), .int (nI en), .int (nI gas), .int (nI ctr), .int (nI siz), .int (nI hgt), .int (nI frm), .int (nI ret), .ref mm, .ref mw, .ref mh, .ref ml, .int (kb ay)])), (mw, .inl (E.2.1 0, 370, .inl (nF z)))] → va_S A s.heap H locs → W p l e rm_c_M_product s m args below meth c H locs 0 0 Q (F0 m 2 ls []) := by
    intro n
    induction n using Nat.strongRecOn with
    | ind n ih =>
      intro i z H locs ls hn hI hl hP hD hS
      refine lv_iload_n hx hb d_M_product_2 rfl (lv_at hl 0 rfl) ?_
      refine lv_bipush (v := nI 33) hx hb d_M_product_3 (by decide) ?_
      refine kn_ge (tgt := 25) hx hb (by omega) (by omega) d_M_product_5 (by decide) (fun h5 => ?_) (fun h5 => ?_)
      · refine lv_iconst (v := nI 0) hx hb d_M_product_25 (by decide) ?_
        refine lv_istore_n (lv' := [(1, .int (nI 0)), (0, .ref mo)]) hx hb d_M_product_26 rfl hl (by decide) rfl (fun ls hl => ?_)
        have key27 : ∀ (n1 : Nat) (k : Nat) (y : Nat → Nat) (H : Heap) (locs : List Loc) (ls : Array Slot), k + n1 = 16 → (prI g y k) → lv_has ls 7 [(1, .int (nI k)), (0, .ref mo)] → va_P E.1 vwCl [(mo, .inr (8, [.int (nI len), .ref mb, .int (kb on), .int (nI en), .int (nI gas), .int (nI ctr), .int (nI siz), .int (nI hgt), .int (nI frm), .int (nI ret), .ref mm, .ref mw, .ref mh, .ref ml, .int (kb ay)])), (mw, .inl (E.2.1 0, 370, .inl (nF y)))] H → va_D A [(mo, .inr (8, [.int (nI len), .ref mb, .int (kb on), .int (nI en), .int (nI gas), .int (nI ctr), .int (nI siz), .int (nI hgt), .int (nI frm), .int (nI ret), .ref mm, .ref mw, .ref mh, .ref ml, .int (kb ay)])), (mw, .inl (E.2.1 0, 370, .inl (nF y)))] → va_S A s.heap H locs → W p l e rm_c_M_product s m args below meth c H locs 0 0 Q (F0 m 27 ls []) := by
          intro n1
          induction n1 using Nat.strongRecOn with
          | ind n1 ih_n1 =>
            intro k y H locs ls hn hJ hl hP hD hS
            refine lv_iload_n hx hb d_M_product_27 rfl (lv_at hl 0 rfl) ?_
            refine lv_bipush (v := nI 16) hx hb d_M_product_28 (by decide) ?_
            refine kn_ge (tgt := 141) hx hb (by omega) (by omega) d_M_product_30 (by decide) (fun h30 => ?_) (fun h30 => ?_)
            · obtain rfl : k = 16 := by omega
              exact hret _ ls _ _ y d_M_product_141 ⟨hJ.1, hJ.2.2.1, hJ.2.2.2⟩ hP hS
            · refine lv_lconst (v := lN 0) hx hb d_M_product_33 (by decide) ?_
              refine lv_lstore_n (lv' := [(2, .long (lN 0)), (1, .int (nI k)), (0, .ref mo)]) hx hb d_M_product_34 rfl hl (by decide) rfl (fun ls hl => ?_)
              refine lv_iconst (v := nI 0) hx hb d_M_product_35 (by decide) ?_
              refine lv_istore (lv' := [(4, .int (nI 0)), (2, .long (lN 0)), (1, .int (nI k)), (0, .ref mo)]) hx hb d_M_product_36 hl (by decide) rfl (fun ls hl => ?_)
              have key38 : ∀ (n2 : Nat) (j cy : Nat) (x : Nat → Nat) (H : Heap) (locs : List Loc) (ls : Array Slot), j + n2 = 16 → (prJ g x k j cy) → lv_has ls 7 [(4, .int (nI j)), (2, .long (lN cy)), (1, .int (nI k)), (0, .ref mo)] → va_P E.1 vwCl [(mo, .inr (8, [.int (nI len), .ref mb, .int (kb on), .int (nI en), .int (nI gas), .int (nI ctr), .int (nI siz), .int (nI hgt), .int (nI frm), .int (nI ret), .ref mm, .ref mw, .ref mh, .ref ml, .int (kb ay)])), (mw, .inl (E.2.1 0, 370, .inl (nF x)))] H → va_D A [(mo, .inr (8, [.int (nI len), .ref mb, .int (kb on), .int (nI en), .int (nI gas), .int (nI ctr), .int (nI siz), .int (nI hgt), .int (nI frm), .int (nI ret), .ref mm, .ref mw, .ref mh, .ref ml, .int (kb ay)])), (mw, .inl (E.2.1 0, 370, .inl (nF x)))] → va_S A s.heap H locs → W p l e rm_c_M_product s m args below meth c H locs 0 0 Q (F0 m 38 ls []) := by
                intro n2
                induction n2 using Nat.strongRecOn with
                | ind n2 ih_n2 =>
                  intro j cy x H locs ls hn hL hl hP hD hS
                  have b1 := hL.2.2.2.2 (256 + k)
                  have b2 := hL.2.2.2.2 (272 + j)
                  have b3 := hL.2.2.2.2 (320 + k + j)
                  have b4 := r_mulbd b1 b2 b3 hL.1
                  refine lv_iload hx hb d_M_product_38 (lv_at hl 0 rfl) ?_
                  refine lv_bipush (v := nI 16) hx hb d_M_product_40 (by decide) ?_
                  refine kn_ge (tgt := 120) hx hb (by omega) (by omega) d_M_product_42 (by decide) (fun h42 => ?_) (fun h42 => ?_)
                  · obtain rfl : j = 16 := by omega
                    refine lv_aload_n hx hb d_M_product_120 rfl (lv_at hl 3 rfl) ?_
                    refine va_get (D := E.1) (ci := 8) (v := .ref mw) (C := "WideStackModel") (T := T_M) (N := 15) hx hb hts in_M hown hK hP 0 rfl rfl 11 (by decide) (hts _ t_758) (fun _ h9 => h9) rfl d_M_product_121 ?_
                    refine lv_sipush (v := nI 320) hx hb d_M_product_124 (by decide) ?_
                    refine lv_iload_n hx hb d_M_product_127 rfl (lv_at hl 2 rfl) ?_
                    refine lv_iadd hx hb d_M_product_128 ?_
                    refine k_top (nI_add _ _) ?_
                    refine lv_bipush (v := nI 16) hx hb d_M_product_129 (by decide) ?_
                    refine lv_iadd hx hb d_M_product_131 ?_
                    refine k_top (nI_add _ _) ?_
                    refine lv_lload_n hx hb d_M_product_132 rfl (lv_at hl 1 rfl) ?_
                    refine lv_l2i (v := nI cy) hx hb d_M_product_133 (lN_i _) ?_
                    refine k_iastN hx hb hK hP hD hS 1 rfl (i := ((320 + k) + 16)) (by omega) (by omega) d_M_product_134 (fun H locs hP hD hS => ?_)
                    have hP : va_P E.1 vwCl [(mo, .inr (8, [.int (nI len), .ref mb, .int (kb on), .int (nI en), .int (nI gas), .int (nI ctr), .int (nI siz), .int (nI hgt), .int (nI frm), .int (nI ret), .ref mm, .ref mw, .ref mh, .ref ml, .int (kb ay)])), (mw, .inl (E.2.1 0, 370, .inl (nF (va_up x ((320 + k) + 16) cy))))] H := hP
                    have hD : va_D A [(mo, .inr (8, [.int (nI len), .ref mb, .int (kb on), .int (nI en), .int (nI gas), .int (nI ctr), .int (nI siz), .int (nI hgt), .int (nI frm), .int (nI ret), .ref mm, .ref mw, .ref mh, .ref ml, .int (kb ay)])), (mw, .inl (E.2.1 0, 370, .inl (nF (va_up x ((320 + k) + 16) cy))))] := hD
                    refine lv_iinc (k := 2) (v := nI (k + 1)) (lv' := [(1, .int (nI (k + 1))), (4, .int (nI 16)), (2, .long (lN cy)), (0, .ref mo)]) hx hb d_M_product_135 hl rfl (k_inc _) (by decide) rfl (fun ls hl => ?_)
                    refine lv_goto (tgt := 27) hx hb d_M_product_138 (by decide) ?_
                    exact ih_n1 (n1 - 1) (by omega) (k + 1) (va_up x (320 + k + 16) cy) _ _ ls (by omega) (pr_end (by omega) hL) (lv_sub hl [0, 3] rfl) hP hD hS
                  · refine lv_aload_n hx hb d_M_product_45 rfl (lv_at hl 3 rfl) ?_
                    refine va_get (D := E.1) (ci := 8) (v := .ref mw) (C := "WideStackModel") (T := T_M) (N := 15) hx hb hts in_M hown hK hP 0 rfl rfl 11 (by decide) (hts _ t_758) (fun _ h9 => h9) rfl d_M_product_46 ?_
                    refine lv_sipush (v := nI 256) hx hb d_M_product_49 (by decide) ?_
                    refine lv_iload_n hx hb d_M_product_52 rfl (lv_at hl 2 rfl) ?_
                    refine lv_iadd hx hb d_M_product_53 ?_
                    refine k_top (nI_add _ _) ?_
                    refine k_ialdN hx hb hK hP 1 rfl (i := (256 + k)) (by omega) (by omega) d_M_product_54 ?_
                    refine lv_i2l (v := lN (x (256 + k))) hx hb d_M_product_55 (nI_l (by omega)) ?_
                    refine lv_aload_n hx hb d_M_product_56 rfl (lv_at hl 3 rfl) ?_
                    refine va_get (D := E.1) (ci := 8) (v := .ref mw) (C := "WideStackModel") (T := T_M) (N := 15) hx hb hts in_M hown hK hP 0 rfl rfl 11 (by decide) (hts _ t_758) (fun _ h9 => h9) rfl d_M_product_57 ?_
                    refine lv_sipush (v := nI 272) hx hb d_M_product_60 (by decide) ?_
                    refine lv_iload hx hb d_M_product_63 (lv_at hl 0 rfl) ?_
                    refine lv_iadd hx hb d_M_product_65 ?_
                    refine k_top (nI_add _ _) ?_
                    refine k_ialdN hx hb hK hP 1 rfl (i := (272 + j)) (by omega) (by omega) d_M_product_66 ?_
                    refine lv_i2l (v := lN (x (272 + j))) hx hb d_M_product_67 (nI_l (by omega)) ?_
                    refine lv_lmul hx hb d_M_product_68 ?_
                    refine k_topl (lN_mul _ _) ?_
                    refine lv_aload_n hx hb d_M_product_69 rfl (lv_at hl 3 rfl) ?_
                    refine va_get (D := E.1) (ci := 8) (v := .ref mw) (C := "WideStackModel") (T := T_M) (N := 15) hx hb hts in_M hown hK hP 0 rfl rfl 11 (by decide) (hts _ t_758) (fun _ h9 => h9) rfl d_M_product_70 ?_
                    refine lv_sipush (v := nI 320) hx hb d_M_product_73 (by decide) ?_
                    refine lv_iload_n hx hb d_M_product_76 rfl (lv_at hl 2 rfl) ?_
                    refine lv_iadd hx hb d_M_product_77 ?_
                    refine k_top (nI_add _ _) ?_
                    refine lv_iload hx hb d_M_product_78 (lv_at hl 0 rfl) ?_
                    refine lv_iadd hx hb d_M_product_80 ?_
                    refine k_top (nI_add _ _) ?_
                    refine k_ialdN hx hb hK hP 1 rfl (i := ((320 + k) + j)) (by omega) (by omega) d_M_product_81 ?_
                    refine lv_i2l (v := lN (x ((320 + k) + j))) hx hb d_M_product_82 (nI_l (by omega)) ?_
                    refine lv_ladd hx hb d_M_product_83 ?_
                    refine k_topl (lN_add _ _) ?_
                    refine lv_lload_n hx hb d_M_product_84 rfl (lv_at hl 1 rfl) ?_
                    refine lv_ladd hx hb d_M_product_85 ?_
                    refine k_topl (lN_add _ _) ?_
                    refine lv_lstore (lv' := [(5, .long (lN ((((x (256 + k)) * (x (272 + j))) + (x ((320 + k) + j))) + cy))), (4, .int (nI j)), (2, .long (lN cy)), (1, .int (nI k)), (0, .ref mo)]) hx hb d_M_product_86 hl (by decide) rfl (fun ls hl => ?_)
                    refine lv_aload_n hx hb d_M_product_88 rfl (lv_at hl 4 rfl) ?_
                    refine va_get (D := E.1) (ci := 8) (v := .ref mw) (C := "WideStackModel") (T := T_M) (N := 15) hx hb hts in_M hown hK hP 0 rfl rfl 11 (by decide) (hts _ t_758) (fun _ h9 => h9) rfl d_M_product_89 ?_
                    refine lv_sipush (v := nI 320) hx hb d_M_product_92 (by decide) ?_
                    refine lv_iload_n hx hb d_M_product_95 rfl (lv_at hl 3 rfl) ?_
                    refine lv_iadd hx hb d_M_product_96 ?_
                    refine k_top (nI_add _ _) ?_
                    refine lv_iload hx hb d_M_product_97 (lv_at hl 1 rfl) ?_
                    refine lv_iadd hx hb d_M_product_99 ?_
                    refine k_top (nI_add _ _) ?_
                    refine lv_lload hx hb d_M_product_100 (lv_at hl 0 rfl) ?_
                    refine lv_ldc2 (v := 65535) hx hb hown (hts _ t_897) d_M_product_102 ?_
                    refine lv_land hx hb d_M_product_105 ?_
                    refine k_topl (r_land16 (by omega)) ?_
                    refine lv_l2i (v := nI (((((x (256 + k)) * (x (272 + j))) + (x ((320 + k) + j))) + cy) % 65536)) hx hb d_M_product_106 (lN_i _) ?_
                    refine k_iastN hx hb hK hP hD hS 1 rfl (i := ((320 + k) + j)) (by omega) (by omega) d_M_product_107 (fun H locs hP hD hS => ?_)
                    have hP : va_P E.1 vwCl [(mo, .inr (8, [.int (nI len), .ref mb, .int (kb on), .int (nI en), .int (nI gas), .int (nI ctr), .int (nI siz), .int (nI hgt), .int (nI frm), .int (nI ret), .ref mm, .ref mw, .ref mh, .ref ml, .int (kb ay)])), (mw, .inl (E.2.1 0, 370, .inl (nF (va_up x ((320 + k) + j) (((((x (256 + k)) * (x (272 + j))) + (x ((320 + k) + j))) + cy) % 65536)))))] H := hP
                    have hD : va_D A [(mo, .inr (8, [.int (nI len), .ref mb, .int (kb on), .int (nI en), .int (nI gas), .int (nI ctr), .int (nI siz), .int (nI hgt), .int (nI frm), .int (nI ret), .ref mm, .ref mw, .ref mh, .ref ml, .int (kb ay)])), (mw, .inl (E.2.1 0, 370, .inl (nF (va_up x ((320 + k) + j) (((((x (256 + k)) * (x (272 + j))) + (x ((320 + k) + j))) + cy) % 65536)))))] := hD
                    refine lv_lload hx hb d_M_product_108 (lv_at hl 0 rfl) ?_
                    refine lv_bipush (v := nI 16) hx hb d_M_product_110 (by decide) ?_
                    refine lv_lshr (v := lN (((((x (256 + k)) * (x (272 + j))) + (x ((320 + k) + j))) + cy) / 65536)) hx hb d_M_product_112 (r_lshr16 (by omega)) ?_
                    refine lv_lstore_n (lv' := [(2, .long (lN (((((x (256 + k)) * (x (272 + j))) + (x ((320 + k) + j))) + cy) / 65536))), (5, .long (lN ((((x (256 + k)) * (x (272 + j))) + (x ((320 + k) + j))) + cy))), (4, .int (nI j)), (1, .int (nI k)), (0, .ref mo)]) hx hb d_M_product_113 rfl hl (by decide) rfl (fun ls hl => ?_)
                    refine lv_iinc (k := 2) (v := nI (j + 1)) (lv' := [(4, .int (nI (j + 1))), (2, .long (lN (((((x (256 + k)) * (x (272 + j))) + (x ((320 + k) + j))) + cy) / 65536))), (5, .long (lN ((((x (256 + k)) * (x (272 + j))) + (x ((320 + k) + j))) + cy))), (1, .int (nI k)), (0, .ref mo)]) hx hb d_M_product_114 hl rfl (k_inc _) (by decide) rfl (fun ls hl => ?_)
                    refine lv_goto (tgt := 38) hx hb d_M_product_117 (by decide) ?_
                    exact ih_n2 (n2 - 1) (by omega) (j + 1) ((x (256 + k) * x (272 + j) + x (320 + k + j) + cy) / 65536) (va_up x (320 + k + j) ((x (256 + k) * x (272 + j) + x (320 + k + j) + cy) % 65536)) _ _ ls (by omega) (pr_step (by omega) (by omega) hL) (lv_sub hl [0, 1, 3, 4] rfl) hP hD hS
              exact key38 16 0 0 y _ _ ls (by omega) (pr_0 hJ) (lv_sub hl [0, 1, 2, 3] rfl) hP hD hS
        exact key27 16 0 z _ _ ls (by omega) (by (obtain rfl : i = 33 := by omega); exact pr_z hI) (lv_sub hl [0, 1] rfl) hP hD hS
      · refine lv_aload_n hx hb d_M_product_8 rfl (lv_at hl 1 rfl) ?_
        refine va_get (D := E.1) (ci := 8) (v := .ref mw) (C := "WideStackModel") (T := T_M) (N := 15) hx hb hts in_M hown hK hP 0 rfl rfl 11 (by decide) (hts _ t_758) (fun _ h9 => h9) rfl d_M_product_9 ?_
        refine lv_sipush (v := nI 320) hx hb d_M_product_12 (by decide) ?_
        refine lv_iload_n hx hb d_M_product_15 rfl (lv_at hl 0 rfl) ?_
        refine lv_iadd hx hb d_M_product_16 ?_
        refine k_top (nI_add _ _) ?_
        refine lv_iconst (v := nI 0) hx hb d_M_product_17 (by decide) ?_
        refine k_iastN hx hb hK hP hD hS 1 rfl (i := (320 + i)) (by omega) (by omega) d_M_product_18 (fun H locs hP hD hS => ?_)
        have hP : va_P E.1 vwCl [(mo, .inr (8, [.int (nI len), .ref mb, .int (kb on), .int (nI en), .int (nI gas), .int (nI ctr), .int (nI siz), .int (nI hgt), .int (nI frm), .int (nI ret), .ref mm, .ref mw, .ref mh, .ref ml, .int (kb ay)])), (mw, .inl (E.2.1 0, 370, .inl (nF (va_up z (320 + i) 0))))] H := hP
        have hD : va_D A [(mo, .inr (8, [.int (nI len), .ref mb, .int (kb on), .int (nI en), .int (nI gas), .int (nI ctr), .int (nI siz), .int (nI hgt), .int (nI frm), .int (nI ret), .ref mm, .ref mw, .ref mh, .ref ml, .int (kb ay)])), (mw, .inl (E.2.1 0, 370, .inl (nF (va_up z (320 + i) 0))))] := hD
        refine lv_iinc (k := 0) (v := nI (i + 1)) (lv' := [(1, .int (nI (i + 1))), (0, .ref mo)]) hx hb d_M_product_19 hl rfl (k_inc _) (by decide) rfl (fun ls hl => ?_)
        refine lv_goto (tgt := 2) hx hb d_M_product_22 (by decide) ?_
        exact ih (n - 1) (by omega) (i + 1) (va_up z (320 + i) 0) _ _ ls (by omega) (zr_step hI) (lv_sub hl [0, 1] rfl) hP hD hS
  exact key2 33 0 g _ _ ls (by omega) (zr_0 hg) (lv_sub hl [0, 1] rfl) hP hD hS

abbrev y_M_reaches : MethodName := ⟨"WideStackModel", "reaches", "(I)Z"⟩
theorem d_M_reaches_0 : decode prog_12_method_23_code 0 = .ok (.aload_n 0, 1) := by decide +kernel
theorem d_M_reaches_1 : decode prog_12_method_23_code 1 = .ok (.getfield 16, 3) := by decide +kernel
theorem d_M_reaches_4 : decode prog_12_method_23_code 4 = .ok (.sipush 369, 3) := by decide +kernel
theorem d_M_reaches_7 : decode prog_12_method_23_code 7 = .ok (.iaload, 1) := by decide +kernel
theorem d_M_reaches_8 : decode prog_12_method_23_code 8 = .ok (.ifCond .eq 5, 3) := by decide +kernel
theorem d_M_reaches_11 : decode prog_12_method_23_code 11 = .ok (.iconst 1, 1) := by decide +kernel
theorem d_M_reaches_12 : decode prog_12_method_23_code 12 = .ok (.ireturn, 1) := by decide +kernel
theorem d_M_reaches_13 : decode prog_12_method_23_code 13 = .ok (.bipush 15, 2) := by decide +kernel
theorem d_M_reaches_15 : decode prog_12_method_23_code 15 = .ok (.istore_n 2, 1) := by decide +kernel
theorem d_M_reaches_16 : decode prog_12_method_23_code 16 = .ok (.iload_n 2, 1) := by decide +kernel
theorem d_M_reaches_17 : decode prog_12_method_23_code 17 = .ok (.ifCond .lt 57, 3) := by decide +kernel
theorem d_M_reaches_20 : decode prog_12_method_23_code 20 = .ok (.aload_n 0, 1) := by decide +kernel
theorem d_M_reaches_21 : decode prog_12_method_23_code 21 = .ok (.getfield 16, 3) := by decide +kernel
theorem d_M_reaches_24 : decode prog_12_method_23_code 24 = .ok (.sipush 353, 3) := by decide +kernel
theorem d_M_reaches_27 : decode prog_12_method_23_code 27 = .ok (.iload_n 2, 1) := by decide +kernel
theorem d_M_reaches_28 : decode prog_12_method_23_code 28 = .ok (.iadd, 1) := by decide +kernel
theorem d_M_reaches_29 : decode prog_12_method_23_code 29 = .ok (.iaload, 1) := by decide +kernel
theorem d_M_reaches_30 : decode prog_12_method_23_code 30 = .ok (.aload_n 0, 1) := by decide +kernel
theorem d_M_reaches_31 : decode prog_12_method_23_code 31 = .ok (.getfield 16, 3) := by decide +kernel
theorem d_M_reaches_34 : decode prog_12_method_23_code 34 = .ok (.iload_n 1, 1) := by decide +kernel
theorem d_M_reaches_35 : decode prog_12_method_23_code 35 = .ok (.iload_n 2, 1) := by decide +kernel
theorem d_M_reaches_36 : decode prog_12_method_23_code 36 = .ok (.iadd, 1) := by decide +kernel
theorem d_M_reaches_37 : decode prog_12_method_23_code 37 = .ok (.iaload, 1) := by decide +kernel
theorem d_M_reaches_38 : decode prog_12_method_23_code 38 = .ok (.if_icmp .eq 30, 3) := by decide +kernel
theorem d_M_reaches_41 : decode prog_12_method_23_code 41 = .ok (.aload_n 0, 1) := by decide +kernel
theorem d_M_reaches_42 : decode prog_12_method_23_code 42 = .ok (.getfield 16, 3) := by decide +kernel
theorem d_M_reaches_45 : decode prog_12_method_23_code 45 = .ok (.sipush 353, 3) := by decide +kernel
theorem d_M_reaches_48 : decode prog_12_method_23_code 48 = .ok (.iload_n 2, 1) := by decide +kernel
theorem d_M_reaches_49 : decode prog_12_method_23_code 49 = .ok (.iadd, 1) := by decide +kernel
theorem d_M_reaches_50 : decode prog_12_method_23_code 50 = .ok (.iaload, 1) := by decide +kernel
theorem d_M_reaches_51 : decode prog_12_method_23_code 51 = .ok (.aload_n 0, 1) := by decide +kernel
theorem d_M_reaches_52 : decode prog_12_method_23_code 52 = .ok (.getfield 16, 3) := by decide +kernel
theorem d_M_reaches_55 : decode prog_12_method_23_code 55 = .ok (.iload_n 1, 1) := by decide +kernel
theorem d_M_reaches_56 : decode prog_12_method_23_code 56 = .ok (.iload_n 2, 1) := by decide +kernel
theorem d_M_reaches_57 : decode prog_12_method_23_code 57 = .ok (.iadd, 1) := by decide +kernel
theorem d_M_reaches_58 : decode prog_12_method_23_code 58 = .ok (.iaload, 1) := by decide +kernel
theorem d_M_reaches_59 : decode prog_12_method_23_code 59 = .ok (.if_icmp .le 7, 3) := by decide +kernel
theorem d_M_reaches_62 : decode prog_12_method_23_code 62 = .ok (.iconst 1, 1) := by decide +kernel
theorem d_M_reaches_63 : decode prog_12_method_23_code 63 = .ok (.goto 4, 3) := by decide +kernel
theorem d_M_reaches_66 : decode prog_12_method_23_code 66 = .ok (.iconst 0, 1) := by decide +kernel
theorem d_M_reaches_67 : decode prog_12_method_23_code 67 = .ok (.ireturn, 1) := by decide +kernel
theorem d_M_reaches_68 : decode prog_12_method_23_code 68 = .ok (.iinc 2 (-1), 3) := by decide +kernel
theorem d_M_reaches_71 : decode prog_12_method_23_code 71 = .ok (.goto (-55), 3) := by decide +kernel
theorem d_M_reaches_74 : decode prog_12_method_23_code 74 = .ok (.iconst 1, 1) := by decide +kernel
theorem d_M_reaches_75 : decode prog_12_method_23_code 75 = .ok (.ireturn, 1) := by decide +kernel
def rm_c_M_reaches : Room := { frames := 0, cells := 0, slots := 0, locals := 0 }
set_option maxHeartbeats 4000000 in
set_option maxRecDepth 100000 in
theorem c_M_reaches (l : Launch) (E : kE) (mo mb mm mw mh ml len en gas ctr siz hgt frm ret : Nat) (on ay : Bool) (g : Nat → Nat) (hg : ∀ j, g j < 65536) (ta : Nat) (h1 : ta + 16 ≤ 353) : Kp l y_M_reaches (kW y_M_reaches prog_12_method_23_code 3 (some .boolean)) rm_c_M_reaches E [.ref mo, .int (nI ta)] [(mo, .inr (8, [.int (nI len), .ref mb, .int (kb on), .int (nI en), .int (nI gas), .int (nI ctr), .int (nI siz), .int (nI hgt), .int (nI frm), .int (nI ret), .ref mm, .ref mw, .ref mh, .ref ml, .int (kb ay)])), (mw, .inl (E.2.1 0, 370, .inl (nF g)))] (fun r => r = kb (decide (gv g ta 16 ≤ gv g 353 17))) := by
  refine Kp.ofZ (cc := prog_12_method_23_code) (maxL := 3) (by decide) (Nat.le_of_ble_eq_true rfl) ?_
  intro p e s m args below meth c A ls Q hx hb hts hown hml hK hG hA hP hD hS hl hret
  have hl : lv_has ls 3 [(0, .ref mo), (1, .int (nI ta))] := hl
  have b0 := hg 369
  refine lv_aload_n hx hb d_M_reaches_0 rfl (lv_at hl 0 rfl) ?_
  refine va_get (D := E.1) (ci := 8) (v := .ref mw) (C := "WideStackModel") (T := T_M) (N := 15) hx hb hts in_M hown hK hP 0 rfl rfl 11 (by decide) (hts _ t_758) (fun _ h9 => h9) rfl d_M_reaches_1 ?_
  refine lv_sipush (v := nI 369) hx hb d_M_reaches_4 (by decide) ?_
  refine k_ialdN hx hb hK hP 1 rfl (i := 369) (by omega) (by omega) d_M_reaches_7 ?_
  refine kn_ifeq (tgt := 13) hx hb (by omega) d_M_reaches_8 (by decide) (fun h8 => ?_) (fun h8 => ?_)
  · refine lv_bipush (v := nI 15) hx hb d_M_reaches_13 (by decide) ?_
    refine lv_istore_n (lv' := [(2, .int (nI 15)), (0, .ref mo), (1, .int (nI ta))]) hx hb d_M_reaches_15 rfl hl (by decide) rfl (fun ls hl => ?_)
    have key16 : ∀ (n : Nat) (i : Nat) (ls : Array Slot), i = n ∧ i ≤ 16 → (∀ j, i ≤ j → j < 16 → g (353 + j) = g (ta + j)) → lv_has ls 3 [(2, .int (m1 i)), (0, .ref mo), (1, .int (nI ta))] → W p l e rm_c_M_reaches s m args below meth c s.heap [] 0 0 Q (F0 m 16 ls []) := by
      intro n
      induction n using Nat.strongRecOn with
      | ind n ih =>
        intro i ls hn hI hl
        rcases i with _ | k
        · have hl : lv_has ls 3 [(2, .int (-1)), (0, .ref mo), (1, .int (nI ta))] := hl
          refine lv_iload_n hx hb d_M_reaches_16 rfl (lv_at hl 0 rfl) ?_
          refine lv_if_lt (tgt := 74) hx hb d_M_reaches_17 (by decide) (fun h17 => ?_) (fun h17 => ?_)
          · refine lv_iconst (v := nI 1) hx hb d_M_reaches_74 (by decide) ?_
            exact hret _ ls _ d_M_reaches_75 (by decide) (by rw [rc_16 h8, show gv g 353 16 = gv g ta 16 from bv_congr (fun j hj => hI j (Nat.zero_le _) hj), decide_eq_true (Nat.le_refl _)]; rfl)
          · exact absurd (by decide) h17
        · have hl : lv_has ls 3 [(2, .int (nI k)), (0, .ref mo), (1, .int (nI ta))] := hl
          have b1 := hg (353 + k)
          have b2 := hg (ta + k)
          refine lv_iload_n hx hb d_M_reaches_16 rfl (lv_at hl 0 rfl) ?_
          refine kn_iflt (tgt := 74) hx hb (by omega) d_M_reaches_17 (by decide) ?_
          refine lv_aload_n hx hb d_M_reaches_20 rfl (lv_at hl 1 rfl) ?_
          refine va_get (D := E.1) (ci := 8) (v := .ref mw) (C := "WideStackModel") (T := T_M) (N := 15) hx hb hts in_M hown hK hP 0 rfl rfl 11 (by decide) (hts _ t_758) (fun _ h9 => h9) rfl d_M_reaches_21 ?_
          refine lv_sipush (v := nI 353) hx hb d_M_reaches_24 (by decide) ?_
          refine lv_iload_n hx hb d_M_reaches_27 rfl (lv_at hl 0 rfl) ?_
          refine lv_iadd hx hb d_M_reaches_28 ?_
          refine k_top (nI_add _ _) ?_
          refine k_ialdN hx hb hK hP 1 rfl (i := (353 + k)) (by omega) (by omega) d_M_reaches_29 ?_
          refine lv_aload_n hx hb d_M_reaches_30 rfl (lv_at hl 1 rfl) ?_
          refine va_get (D := E.1) (ci := 8) (v := .ref mw) (C := "WideStackModel") (T := T_M) (N := 15) hx hb hts in_M hown hK hP 0 rfl rfl 11 (by decide) (hts _ t_758) (fun _ h9 => h9) rfl d_M_reaches_31 ?_
          refine lv_iload_n hx hb d_M_reaches_34 rfl (lv_at hl 2 rfl) ?_
          refine lv_iload_n hx hb d_M_reaches_35 rfl (lv_at hl 0 rfl) ?_
          refine lv_iadd hx hb d_M_reaches_36 ?_
          refine k_top (nI_add _ _) ?_
          refine k_ialdN hx hb hK hP 1 rfl (i := (ta + k)) (by omega) (by omega) d_M_reaches_37 ?_
          refine kn_eq (tgt := 68) hx hb (by omega) (by omega) d_M_reaches_38 (by decide) (fun h38 => ?_) (fun h38 => ?_)
          · refine lv_iinc (k := 0) (v := m1 k) (lv' := [(2, .int (m1 k)), (0, .ref mo), (1, .int (nI ta))]) hx hb d_M_reaches_68 hl rfl (k_decm _) (by decide) rfl (fun ls hl => ?_)
            refine lv_goto (tgt := 16) hx hb d_M_reaches_71 (by decide) ?_
            exact ih k (by omega) k ls ⟨rfl, by omega⟩ (fun j h1 h2 => if q : j = k then by subst q; exact h38 else by exact hI j (by omega) h2) (lv_sub hl [0, 1, 2] rfl)
          · refine lv_aload_n hx hb d_M_reaches_41 rfl (lv_at hl 1 rfl) ?_
            refine va_get (D := E.1) (ci := 8) (v := .ref mw) (C := "WideStackModel") (T := T_M) (N := 15) hx hb hts in_M hown hK hP 0 rfl rfl 11 (by decide) (hts _ t_758) (fun _ h9 => h9) rfl d_M_reaches_42 ?_
            refine lv_sipush (v := nI 353) hx hb d_M_reaches_45 (by decide) ?_
            refine lv_iload_n hx hb d_M_reaches_48 rfl (lv_at hl 0 rfl) ?_
            refine lv_iadd hx hb d_M_reaches_49 ?_
            refine k_top (nI_add _ _) ?_
            refine k_ialdN hx hb hK hP 1 rfl (i := (353 + k)) (by omega) (by omega) d_M_reaches_50 ?_
            refine lv_aload_n hx hb d_M_reaches_51 rfl (lv_at hl 1 rfl) ?_
            refine va_get (D := E.1) (ci := 8) (v := .ref mw) (C := "WideStackModel") (T := T_M) (N := 15) hx hb hts in_M hown hK hP 0 rfl rfl 11 (by decide) (hts _ t_758) (fun _ h9 => h9) rfl d_M_reaches_52 ?_
            refine lv_iload_n hx hb d_M_reaches_55 rfl (lv_at hl 2 rfl) ?_
            refine lv_iload_n hx hb d_M_reaches_56 rfl (lv_at hl 0 rfl) ?_
            refine lv_iadd hx hb d_M_reaches_57 ?_
            refine k_top (nI_add _ _) ?_
            refine k_ialdN hx hb hK hP 1 rfl (i := (ta + k)) (by omega) (by omega) d_M_reaches_58 ?_
            refine kn_le (tgt := 66) hx hb (by omega) (by omega) d_M_reaches_59 (by decide) (fun h59 => ?_) (fun h59 => ?_)
            · refine lv_iconst (v := nI 0) hx hb d_M_reaches_66 (by decide) ?_
              first | exact hret _ ls _ d_M_reaches_67 (by decide) (by rw [rc_16 h8, decide_eq_true (Nat.le_of_lt (gv_less hg (k := k) (by omega) (fun j a b => (hI j (by omega) b).symm) (by omega)))]; rfl) | exact hret _ ls _ d_M_reaches_67 (by decide) (by rw [rc_16 h8, decide_eq_false (Nat.not_le.mpr (gv_less hg (k := k) (by omega) (fun j a b => hI j (by omega) b) (by omega)))]; rfl)
            · refine lv_iconst (v := nI 1) hx hb d_M_reaches_62 (by decide) ?_
              refine lv_goto (tgt := 67) hx hb d_M_reaches_63 (by decide) ?_
              first | exact hret _ ls _ d_M_reaches_67 (by decide) (by rw [rc_16 h8, decide_eq_true (Nat.le_of_lt (gv_less hg (k := k) (by omega) (fun j a b => (hI j (by omega) b).symm) (by omega)))]; rfl) | exact hret _ ls _ d_M_reaches_67 (by decide) (by rw [rc_16 h8, decide_eq_false (Nat.not_le.mpr (gv_less hg (k := k) (by omega) (fun j a b => hI j (by omega) b) (by omega)))]; rfl)
    exact key16 16 16 ls ⟨rfl, Nat.le_refl 16⟩ (fun j h1 h2 => by omega) (lv_sub hl [0, 1, 2] rfl)
  · refine lv_iconst (v := nI 1) hx hb d_M_reaches_11 (by decide) ?_
    exact hret _ ls _ d_M_reaches_12 (by decide) (by rw [decide_eq_true (rc_big hg h8)]; rfl)

abbrev y_M_lessen : MethodName := ⟨"WideStackModel", "lessen", "(I)V"⟩
theorem d_M_lessen_0 : decode prog_12_method_24_code 0 = .ok (.iconst 0, 1) := by decide +kernel
theorem d_M_lessen_1 : decode prog_12_method_24_code 1 = .ok (.istore_n 2, 1) := by decide +kernel
theorem d_M_lessen_2 : decode prog_12_method_24_code 2 = .ok (.iconst 0, 1) := by decide +kernel
theorem d_M_lessen_3 : decode prog_12_method_24_code 3 = .ok (.istore_n 3, 1) := by decide +kernel
theorem d_M_lessen_4 : decode prog_12_method_24_code 4 = .ok (.iload_n 3, 1) := by decide +kernel
theorem d_M_lessen_5 : decode prog_12_method_24_code 5 = .ok (.bipush 17, 2) := by decide +kernel
theorem d_M_lessen_7 : decode prog_12_method_24_code 7 = .ok (.if_icmp .ge 68, 3) := by decide +kernel
theorem d_M_lessen_10 : decode prog_12_method_24_code 10 = .ok (.aload_n 0, 1) := by decide +kernel
theorem d_M_lessen_11 : decode prog_12_method_24_code 11 = .ok (.getfield 16, 3) := by decide +kernel
theorem d_M_lessen_14 : decode prog_12_method_24_code 14 = .ok (.sipush 353, 3) := by decide +kernel
theorem d_M_lessen_17 : decode prog_12_method_24_code 17 = .ok (.iload_n 3, 1) := by decide +kernel
theorem d_M_lessen_18 : decode prog_12_method_24_code 18 = .ok (.iadd, 1) := by decide +kernel
theorem d_M_lessen_19 : decode prog_12_method_24_code 19 = .ok (.iaload, 1) := by decide +kernel
theorem d_M_lessen_20 : decode prog_12_method_24_code 20 = .ok (.iload_n 3, 1) := by decide +kernel
theorem d_M_lessen_21 : decode prog_12_method_24_code 21 = .ok (.bipush 16, 2) := by decide +kernel
theorem d_M_lessen_23 : decode prog_12_method_24_code 23 = .ok (.if_icmp .ge 14, 3) := by decide +kernel
theorem d_M_lessen_26 : decode prog_12_method_24_code 26 = .ok (.aload_n 0, 1) := by decide +kernel
theorem d_M_lessen_27 : decode prog_12_method_24_code 27 = .ok (.getfield 16, 3) := by decide +kernel
theorem d_M_lessen_30 : decode prog_12_method_24_code 30 = .ok (.iload_n 1, 1) := by decide +kernel
theorem d_M_lessen_31 : decode prog_12_method_24_code 31 = .ok (.iload_n 3, 1) := by decide +kernel
theorem d_M_lessen_32 : decode prog_12_method_24_code 32 = .ok (.iadd, 1) := by decide +kernel
theorem d_M_lessen_33 : decode prog_12_method_24_code 33 = .ok (.iaload, 1) := by decide +kernel
theorem d_M_lessen_34 : decode prog_12_method_24_code 34 = .ok (.goto 4, 3) := by decide +kernel
theorem d_M_lessen_37 : decode prog_12_method_24_code 37 = .ok (.iconst 0, 1) := by decide +kernel
theorem d_M_lessen_38 : decode prog_12_method_24_code 38 = .ok (.isub, 1) := by decide +kernel
theorem d_M_lessen_39 : decode prog_12_method_24_code 39 = .ok (.iload_n 2, 1) := by decide +kernel
theorem d_M_lessen_40 : decode prog_12_method_24_code 40 = .ok (.isub, 1) := by decide +kernel
theorem d_M_lessen_41 : decode prog_12_method_24_code 41 = .ok (.istore 4, 2) := by decide +kernel
theorem d_M_lessen_43 : decode prog_12_method_24_code 43 = .ok (.aload_n 0, 1) := by decide +kernel
theorem d_M_lessen_44 : decode prog_12_method_24_code 44 = .ok (.getfield 16, 3) := by decide +kernel
theorem d_M_lessen_47 : decode prog_12_method_24_code 47 = .ok (.sipush 353, 3) := by decide +kernel
theorem d_M_lessen_50 : decode prog_12_method_24_code 50 = .ok (.iload_n 3, 1) := by decide +kernel
theorem d_M_lessen_51 : decode prog_12_method_24_code 51 = .ok (.iadd, 1) := by decide +kernel
theorem d_M_lessen_52 : decode prog_12_method_24_code 52 = .ok (.iload 4, 2) := by decide +kernel
theorem d_M_lessen_54 : decode prog_12_method_24_code 54 = .ok (.ldc 52, 2) := by decide +kernel
theorem d_M_lessen_56 : decode prog_12_method_24_code 56 = .ok (.iand, 1) := by decide +kernel
theorem d_M_lessen_57 : decode prog_12_method_24_code 57 = .ok (.iastore, 1) := by decide +kernel
theorem d_M_lessen_58 : decode prog_12_method_24_code 58 = .ok (.iload 4, 2) := by decide +kernel
theorem d_M_lessen_60 : decode prog_12_method_24_code 60 = .ok (.ifCond .ge 7, 3) := by decide +kernel
theorem d_M_lessen_63 : decode prog_12_method_24_code 63 = .ok (.iconst 1, 1) := by decide +kernel
theorem d_M_lessen_64 : decode prog_12_method_24_code 64 = .ok (.goto 4, 3) := by decide +kernel
theorem d_M_lessen_67 : decode prog_12_method_24_code 67 = .ok (.iconst 0, 1) := by decide +kernel
theorem d_M_lessen_68 : decode prog_12_method_24_code 68 = .ok (.istore_n 2, 1) := by decide +kernel
theorem d_M_lessen_69 : decode prog_12_method_24_code 69 = .ok (.iinc 3 1, 3) := by decide +kernel
theorem d_M_lessen_72 : decode prog_12_method_24_code 72 = .ok (.goto (-68), 3) := by decide +kernel
theorem d_M_lessen_75 : decode prog_12_method_24_code 75 = .ok (.return_, 1) := by decide +kernel
def rm_c_M_lessen : Room := { frames := 0, cells := 0, slots := 0, locals := 0 }
set_option maxHeartbeats 4000000 in
set_option maxRecDepth 100000 in
theorem c_M_lessen (l : Launch) (E : kE) (mo mb mm mw mh ml len en gas ctr siz hgt frm ret : Nat) (on ay : Bool) (g : Nat → Nat) (hg : ∀ j, g j < 65536) (ta : Nat) (h1 : ta + 16 ≤ 353) (hle : gv g ta 16 ≤ gv g 353 17) : Kv l y_M_lessen (kW y_M_lessen prog_12_method_24_code 5 (none)) rm_c_M_lessen E [.ref mo, .int (nI ta)] [(mo, .inr (8, [.int (nI len), .ref mb, .int (kb on), .int (nI en), .int (nI gas), .int (nI ctr), .int (nI siz), .int (nI hgt), .int (nI frm), .int (nI ret), .ref mm, .ref mw, .ref mh, .ref ml, .int (kb ay)])), (mw, .inl (E.2.1 0, 370, .inl (nF g)))] (S := Nat → Nat) (fun u => gv u 353 17 = gv g 353 17 - gv g ta 16 ∧ fr1 g u 353 17 ∧ ∀ j, u j < 65536) (fun u => [(mo, .inr (8, [.int (nI len), .ref mb, .int (kb on), .int (nI en), .int (nI gas), .int (nI ctr), .int (nI siz), .int (nI hgt), .int (nI frm), .int (nI ret), .ref mm, .ref mw, .ref mh, .ref ml, .int (kb ay)])), (mw, .inl (E.2.1 0, 370, .inl (nF u)))]) := by
  refine Kv.ofW (cc := prog_12_method_24_code) (maxL := 5) (by decide) (Nat.le_of_ble_eq_true rfl) ?_
  intro p e s m args below meth c A ls Q hx hb hts hown hml hK hG hA hP hD hS hl hret
  have hl : lv_has ls 5 [(0, .ref mo), (1, .int (nI ta))] := hl
  refine lv_iconst (v := nI 0) hx hb d_M_lessen_0 (by decide) ?_
  refine lv_istore_n (lv' := [(2, .int (nI 0)), (0, .ref mo), (1, .int (nI ta))]) hx hb d_M_lessen_1 rfl hl (by decide) rfl (fun ls hl => ?_)
  refine lv_iconst (v := nI 0) hx hb d_M_lessen_2 (by decide) ?_
  refine lv_istore_n (lv' := [(3, .int (nI 0)), (2, .int (nI 0)), (0, .ref mo), (1, .int (nI ta))]) hx hb d_M_lessen_3 rfl hl (by decide) rfl (fun ls hl => ?_)
  have key4 : ∀ (n : Nat) (i bo : Nat) (z : Nat → Nat) (H : Heap) (locs : List Loc) (ls : Array Slot), i + n = 17 → (lsI g z ta i bo) → lv_has ls 5 [(3, .int (nI i)), (2, .int (nI bo)), (0, .ref mo), (1, .int (nI ta))] → va_P E.1 vwCl [(mo, .inr (8, [.int (nI len), .ref mb, .int (kb on), .int (nI en), .int (nI gas), .int (nI ctr), .int (nI siz), .int (nI hgt), .int (nI frm), .int (nI ret), .ref mm, .ref mw, .ref mh, .ref ml, .int (kb ay)])), (mw, .inl (E.2.1 0, 370, .inl (nF z)))] H → va_D A [(mo, .inr (8, [.int (nI len), .ref mb, .int (kb on), .int (nI en), .int (nI gas), .int (nI ctr), .int (nI siz), .int (nI hgt), .int (nI frm), .int (nI ret), .ref mm, .ref mw, .ref mh, .ref ml, .int (kb ay)])), (mw, .inl (E.2.1 0, 370, .inl (nF z)))] → va_S A s.heap H locs → W p l e rm_c_M_lessen s m args below meth c H locs 0 0 Q (F0 m 4 ls []) := by
    intro n
    induction n using Nat.strongRecOn with
    | ind n ih =>
      intro i bo z H locs ls hn hI hl hP hD hS
      have b1 := hI.2.2.2 (353 + i)
      have b2 := hI.2.2.2 (ta + i)
      have b3 := hI.1
      refine lv_iload_n hx hb d_M_lessen_4 rfl (lv_at hl 0 rfl) ?_
      refine lv_bipush (v := nI 17) hx hb d_M_lessen_5 (by decide) ?_
      refine kn_ge (tgt := 75) hx hb (by omega) (by omega) d_M_lessen_7 (by decide) (fun h7 => ?_) (fun h7 => ?_)
      · obtain rfl : i = 17 := by omega
        exact hret _ ls _ _ z d_M_lessen_75 ⟨ls_fin hI hle, hI.2.2.1, hI.2.2.2⟩ hP hS
      · refine lv_aload_n hx hb d_M_lessen_10 rfl (lv_at hl 2 rfl) ?_
        refine va_get (D := E.1) (ci := 8) (v := .ref mw) (C := "WideStackModel") (T := T_M) (N := 15) hx hb hts in_M hown hK hP 0 rfl rfl 11 (by decide) (hts _ t_758) (fun _ h9 => h9) rfl d_M_lessen_11 ?_
        refine lv_sipush (v := nI 353) hx hb d_M_lessen_14 (by decide) ?_
        refine lv_iload_n hx hb d_M_lessen_17 rfl (lv_at hl 0 rfl) ?_
        refine lv_iadd hx hb d_M_lessen_18 ?_
        refine k_top (nI_add _ _) ?_
        refine k_ialdN hx hb hK hP 1 rfl (i := (353 + i)) (by omega) (by omega) d_M_lessen_19 ?_
        refine lv_iload_n hx hb d_M_lessen_20 rfl (lv_at hl 0 rfl) ?_
        refine lv_bipush (v := nI 16) hx hb d_M_lessen_21 (by decide) ?_
        refine kn_ge (tgt := 37) hx hb (by omega) (by omega) d_M_lessen_23 (by decide) (fun h23 => ?_) (fun h23 => ?_)
        · refine lv_iconst (v := nI 0) hx hb d_M_lessen_37 (by decide) ?_
          refine lv_isub hx hb d_M_lessen_38 ?_
          refine lv_iload_n hx hb d_M_lessen_39 rfl (lv_at hl 1 rfl) ?_
          refine lv_isub hx hb d_M_lessen_40 ?_
          refine lv_istore (lv' := [(4, .int (((nI (z (353 + i))) - (nI 0)) - (nI bo))), (3, .int (nI i)), (2, .int (nI bo)), (0, .ref mo), (1, .int (nI ta))]) hx hb d_M_lessen_41 hl (by decide) rfl (fun ls hl => ?_)
          refine lv_aload_n hx hb d_M_lessen_43 rfl (lv_at hl 3 rfl) ?_
          refine va_get (D := E.1) (ci := 8) (v := .ref mw) (C := "WideStackModel") (T := T_M) (N := 15) hx hb hts in_M hown hK hP 0 rfl rfl 11 (by decide) (hts _ t_758) (fun _ h9 => h9) rfl d_M_lessen_44 ?_
          refine lv_sipush (v := nI 353) hx hb d_M_lessen_47 (by decide) ?_
          refine lv_iload_n hx hb d_M_lessen_50 rfl (lv_at hl 1 rfl) ?_
          refine lv_iadd hx hb d_M_lessen_51 ?_
          refine k_top (nI_add _ _) ?_
          refine lv_iload hx hb d_M_lessen_52 (lv_at hl 0 rfl) ?_
          refine lv_ldc (v := 65535) hx hb hown (hts _ t_827) d_M_lessen_54 ?_
          refine k_top (y := nI 65535) (by decide) ?_
          refine lv_iand hx hb d_M_lessen_56 ?_
          refine k_top (pk_and _ 16 (by decide)) ?_
          refine k_iastN hx hb hK hP hD hS 1 rfl (i := (353 + i)) (by omega) (by omega) d_M_lessen_57 (fun H locs hP hD hS => ?_)
          have hP : va_P E.1 vwCl [(mo, .inr (8, [.int (nI len), .ref mb, .int (kb on), .int (nI en), .int (nI gas), .int (nI ctr), .int (nI siz), .int (nI hgt), .int (nI frm), .int (nI ret), .ref mm, .ref mw, .ref mh, .ref ml, .int (kb ay)])), (mw, .inl (E.2.1 0, 370, .inl (nF (va_up z (353 + i) (uw (((nI (z (353 + i))) - (nI 0)) - (nI bo)) % 65536)))))] H := hP
          have hD : va_D A [(mo, .inr (8, [.int (nI len), .ref mb, .int (kb on), .int (nI en), .int (nI gas), .int (nI ctr), .int (nI siz), .int (nI hgt), .int (nI frm), .int (nI ret), .ref mm, .ref mw, .ref mh, .ref ml, .int (kb ay)])), (mw, .inl (E.2.1 0, 370, .inl (nF (va_up z (353 + i) (uw (((nI (z (353 + i))) - (nI 0)) - (nI bo)) % 65536)))))] := hD
          refine lv_iload hx hb d_M_lessen_58 (lv_at hl 0 rfl) ?_
          refine lv_if_ge (tgt := 67) hx hb d_M_lessen_60 (by decide) (fun h60 => ?_) (fun h60 => ?_)
          · refine lv_iconst (v := nI 0) hx hb d_M_lessen_67 (by decide) ?_
            refine lv_istore_n (lv' := [(2, .int (nI 0)), (4, .int (((nI (z (353 + i))) - (nI 0)) - (nI bo))), (3, .int (nI i)), (0, .ref mo), (1, .int (nI ta))]) hx hb d_M_lessen_68 rfl hl (by decide) rfl (fun ls hl => ?_)
            refine lv_iinc (k := 2) (v := nI (i + 1)) (lv' := [(3, .int (nI (i + 1))), (2, .int (nI 0)), (4, .int (((nI (z (353 + i))) - (nI 0)) - (nI bo))), (0, .ref mo), (1, .int (nI ta))]) hx hb d_M_lessen_69 hl rfl (k_inc _) (by decide) rfl (fun ls hl => ?_)
            refine lv_goto (tgt := 4) hx hb d_M_lessen_72 (by decide) ?_
            exact ih (n - 1) (by omega) (i + 1) 0 (va_up z (353 + i) (uw (((nI (z (353 + i))) - (nI 0)) - (nI bo)) % 65536)) _ _ ls (by omega) (by first | exact ls_step (by omega) h1 (Or.inl ⟨by omega, rfl⟩) hI (by first | exact Or.inl ⟨(ls_ge b1 b2 b3).mp h60, rfl⟩ | exact Or.inr ⟨fun q => h60 ((ls_ge b1 b2 b3).mpr q), rfl⟩) | exact ls_step (by omega) h1 (Or.inr ⟨by omega, rfl⟩) hI (by first | exact Or.inl ⟨(ls_ge b1 (by decide) b3).mp h60, rfl⟩ | exact Or.inr ⟨fun q => h60 ((ls_ge b1 (by decide) b3).mpr q), rfl⟩)) (lv_sub hl [0, 1, 3, 4] rfl) hP hD hS
          · refine lv_iconst (v := nI 1) hx hb d_M_lessen_63 (by decide) ?_
            refine lv_goto (tgt := 68) hx hb d_M_lessen_64 (by decide) ?_
            refine lv_istore_n (lv' := [(2, .int (nI 1)), (4, .int (((nI (z (353 + i))) - (nI 0)) - (nI bo))), (3, .int (nI i)), (0, .ref mo), (1, .int (nI ta))]) hx hb d_M_lessen_68 rfl hl (by decide) rfl (fun ls hl => ?_)
            refine lv_iinc (k := 2) (v := nI (i + 1)) (lv' := [(3, .int (nI (i + 1))), (2, .int (nI 1)), (4, .int (((nI (z (353 + i))) - (nI 0)) - (nI bo))), (0, .ref mo), (1, .int (nI ta))]) hx hb d_M_lessen_69 hl rfl (k_inc _) (by decide) rfl (fun ls hl => ?_)
            refine lv_goto (tgt := 4) hx hb d_M_lessen_72 (by decide) ?_
            exact ih (n - 1) (by omega) (i + 1) 1 (va_up z (353 + i) (uw (((nI (z (353 + i))) - (nI 0)) - (nI bo)) % 65536)) _ _ ls (by omega) (by first | exact ls_step (by omega) h1 (Or.inl ⟨by omega, rfl⟩) hI (by first | exact Or.inl ⟨(ls_ge b1 b2 b3).mp h60, rfl⟩ | exact Or.inr ⟨fun q => h60 ((ls_ge b1 b2 b3).mpr q), rfl⟩) | exact ls_step (by omega) h1 (Or.inr ⟨by omega, rfl⟩) hI (by first | exact Or.inl ⟨(ls_ge b1 (by decide) b3).mp h60, rfl⟩ | exact Or.inr ⟨fun q => h60 ((ls_ge b1 (by decide) b3).mpr q), rfl⟩)) (lv_sub hl [0, 1, 3, 4] rfl) hP hD hS
        · refine lv_aload_n hx hb d_M_lessen_26 rfl (lv_at hl 2 rfl) ?_
          refine va_get (D := E.1) (ci := 8) (v := .ref mw) (C := "WideStackModel") (T := T_M) (N := 15) hx hb hts in_M hown hK hP 0 rfl rfl 11 (by decide) (hts _ t_758) (fun _ h9 => h9) rfl d_M_lessen_27 ?_
          refine lv_iload_n hx hb d_M_lessen_30 rfl (lv_at hl 3 rfl) ?_
          refine lv_iload_n hx hb d_M_lessen_31 rfl (lv_at hl 0 rfl) ?_
          refine lv_iadd hx hb d_M_lessen_32 ?_
          refine k_top (nI_add _ _) ?_
          refine k_ialdN hx hb hK hP 1 rfl (i := (ta + i)) (by omega) (by omega) d_M_lessen_33 ?_
          refine lv_goto (tgt := 38) hx hb d_M_lessen_34 (by decide) ?_
          refine lv_isub hx hb d_M_lessen_38 ?_
          refine lv_iload_n hx hb d_M_lessen_39 rfl (lv_at hl 1 rfl) ?_
          refine lv_isub hx hb d_M_lessen_40 ?_
          refine lv_istore (lv' := [(4, .int (((nI (z (353 + i))) - (nI (z (ta + i)))) - (nI bo))), (3, .int (nI i)), (2, .int (nI bo)), (0, .ref mo), (1, .int (nI ta))]) hx hb d_M_lessen_41 hl (by decide) rfl (fun ls hl => ?_)
          refine lv_aload_n hx hb d_M_lessen_43 rfl (lv_at hl 3 rfl) ?_
          refine va_get (D := E.1) (ci := 8) (v := .ref mw) (C := "WideStackModel") (T := T_M) (N := 15) hx hb hts in_M hown hK hP 0 rfl rfl 11 (by decide) (hts _ t_758) (fun _ h9 => h9) rfl d_M_lessen_44 ?_
          refine lv_sipush (v := nI 353) hx hb d_M_lessen_47 (by decide) ?_
          refine lv_iload_n hx hb d_M_lessen_50 rfl (lv_at hl 1 rfl) ?_
          refine lv_iadd hx hb d_M_lessen_51 ?_
          refine k_top (nI_add _ _) ?_
          refine lv_iload hx hb d_M_lessen_52 (lv_at hl 0 rfl) ?_
          refine lv_ldc (v := 65535) hx hb hown (hts _ t_827) d_M_lessen_54 ?_
          refine k_top (y := nI 65535) (by decide) ?_
          refine lv_iand hx hb d_M_lessen_56 ?_
          refine k_top (pk_and _ 16 (by decide)) ?_
          refine k_iastN hx hb hK hP hD hS 1 rfl (i := (353 + i)) (by omega) (by omega) d_M_lessen_57 (fun H locs hP hD hS => ?_)
          have hP : va_P E.1 vwCl [(mo, .inr (8, [.int (nI len), .ref mb, .int (kb on), .int (nI en), .int (nI gas), .int (nI ctr), .int (nI siz), .int (nI hgt), .int (nI frm), .int (nI ret), .ref mm, .ref mw, .ref mh, .ref ml, .int (kb ay)])), (mw, .inl (E.2.1 0, 370, .inl (nF (va_up z (353 + i) (uw (((nI (z (353 + i))) - (nI (z (ta + i)))) - (nI bo)) % 65536)))))] H := hP
          have hD : va_D A [(mo, .inr (8, [.int (nI len), .ref mb, .int (kb on), .int (nI en), .int (nI gas), .int (nI ctr), .int (nI siz), .int (nI hgt), .int (nI frm), .int (nI ret), .ref mm, .ref mw, .ref mh, .ref ml, .int (kb ay)])), (mw, .inl (E.2.1 0, 370, .inl (nF (va_up z (353 + i) (uw (((nI (z (353 + i))) - (nI (z (ta + i)))) - (nI bo)) % 65536)))))] := hD
          refine lv_iload hx hb d_M_lessen_58 (lv_at hl 0 rfl) ?_
          refine lv_if_ge (tgt := 67) hx hb d_M_lessen_60 (by decide) (fun h60 => ?_) (fun h60 => ?_)
          · refine lv_iconst (v := nI 0) hx hb d_M_lessen_67 (by decide) ?_
            refine lv_istore_n (lv' := [(2, .int (nI 0)), (4, .int (((nI (z (353 + i))) - (nI (z (ta + i)))) - (nI bo))), (3, .int (nI i)), (0, .ref mo), (1, .int (nI ta))]) hx hb d_M_lessen_68 rfl hl (by decide) rfl (fun ls hl => ?_)
            refine lv_iinc (k := 2) (v := nI (i + 1)) (lv' := [(3, .int (nI (i + 1))), (2, .int (nI 0)), (4, .int (((nI (z (353 + i))) - (nI (z (ta + i)))) - (nI bo))), (0, .ref mo), (1, .int (nI ta))]) hx hb d_M_lessen_69 hl rfl (k_inc _) (by decide) rfl (fun ls hl => ?_)
            refine lv_goto (tgt := 4) hx hb d_M_lessen_72 (by decide) ?_
            exact ih (n - 1) (by omega) (i + 1) 0 (va_up z (353 + i) (uw (((nI (z (353 + i))) - (nI (z (ta + i)))) - (nI bo)) % 65536)) _ _ ls (by omega) (by first | exact ls_step (by omega) h1 (Or.inl ⟨by omega, rfl⟩) hI (by first | exact Or.inl ⟨(ls_ge b1 b2 b3).mp h60, rfl⟩ | exact Or.inr ⟨fun q => h60 ((ls_ge b1 b2 b3).mpr q), rfl⟩) | exact ls_step (by omega) h1 (Or.inr ⟨by omega, rfl⟩) hI (by first | exact Or.inl ⟨(ls_ge b1 (by decide) b3).mp h60, rfl⟩ | exact Or.inr ⟨fun q => h60 ((ls_ge b1 (by decide) b3).mpr q), rfl⟩)) (lv_sub hl [0, 1, 3, 4] rfl) hP hD hS
          · refine lv_iconst (v := nI 1) hx hb d_M_lessen_63 (by decide) ?_
            refine lv_goto (tgt := 68) hx hb d_M_lessen_64 (by decide) ?_
            refine lv_istore_n (lv' := [(2, .int (nI 1)), (4, .int (((nI (z (353 + i))) - (nI (z (ta + i)))) - (nI bo))), (3, .int (nI i)), (0, .ref mo), (1, .int (nI ta))]) hx hb d_M_lessen_68 rfl hl (by decide) rfl (fun ls hl => ?_)
            refine lv_iinc (k := 2) (v := nI (i + 1)) (lv' := [(3, .int (nI (i + 1))), (2, .int (nI 1)), (4, .int (((nI (z (353 + i))) - (nI (z (ta + i)))) - (nI bo))), (0, .ref mo), (1, .int (nI ta))]) hx hb d_M_lessen_69 hl rfl (k_inc _) (by decide) rfl (fun ls hl => ?_)
            refine lv_goto (tgt := 4) hx hb d_M_lessen_72 (by decide) ?_
            exact ih (n - 1) (by omega) (i + 1) 1 (va_up z (353 + i) (uw (((nI (z (353 + i))) - (nI (z (ta + i)))) - (nI bo)) % 65536)) _ _ ls (by omega) (by first | exact ls_step (by omega) h1 (Or.inl ⟨by omega, rfl⟩) hI (by first | exact Or.inl ⟨(ls_ge b1 b2 b3).mp h60, rfl⟩ | exact Or.inr ⟨fun q => h60 ((ls_ge b1 b2 b3).mpr q), rfl⟩) | exact ls_step (by omega) h1 (Or.inr ⟨by omega, rfl⟩) hI (by first | exact Or.inl ⟨(ls_ge b1 (by decide) b3).mp h60, rfl⟩ | exact Or.inr ⟨fun q => h60 ((ls_ge b1 (by decide) b3).mpr q), rfl⟩)) (lv_sub hl [0, 1, 3, 4] rfl) hP hD hS
  exact key4 17 0 0 g _ _ ls (by omega) ⟨by decide, rfl, fun _ _ => rfl, hg⟩ (lv_sub hl [0, 1, 2, 3] rfl) hP hD hS

abbrev y_M_bit : MethodName := ⟨"WideStackModel", "bit", "(II)I"⟩
theorem d_M_bit_0 : decode prog_12_method_28_code 0 = .ok (.aload_n 0, 1) := by decide +kernel
theorem d_M_bit_1 : decode prog_12_method_28_code 1 = .ok (.getfield 16, 3) := by decide +kernel
theorem d_M_bit_4 : decode prog_12_method_28_code 4 = .ok (.iload_n 1, 1) := by decide +kernel
theorem d_M_bit_5 : decode prog_12_method_28_code 5 = .ok (.iload_n 2, 1) := by decide +kernel
theorem d_M_bit_6 : decode prog_12_method_28_code 6 = .ok (.bipush 16, 2) := by decide +kernel
theorem d_M_bit_8 : decode prog_12_method_28_code 8 = .ok (.idiv, 1) := by decide +kernel
theorem d_M_bit_9 : decode prog_12_method_28_code 9 = .ok (.iadd, 1) := by decide +kernel
theorem d_M_bit_10 : decode prog_12_method_28_code 10 = .ok (.iaload, 1) := by decide +kernel
theorem d_M_bit_11 : decode prog_12_method_28_code 11 = .ok (.iload_n 2, 1) := by decide +kernel
theorem d_M_bit_12 : decode prog_12_method_28_code 12 = .ok (.bipush 16, 2) := by decide +kernel
theorem d_M_bit_14 : decode prog_12_method_28_code 14 = .ok (.irem, 1) := by decide +kernel
theorem d_M_bit_15 : decode prog_12_method_28_code 15 = .ok (.ishr, 1) := by decide +kernel
theorem d_M_bit_16 : decode prog_12_method_28_code 16 = .ok (.iconst 1, 1) := by decide +kernel
theorem d_M_bit_17 : decode prog_12_method_28_code 17 = .ok (.iand, 1) := by decide +kernel
theorem d_M_bit_18 : decode prog_12_method_28_code 18 = .ok (.ireturn, 1) := by decide +kernel
def rm_c_M_bit : Room := { frames := 0, cells := 0, slots := 0, locals := 0 }
set_option maxHeartbeats 4000000 in
set_option maxRecDepth 100000 in
theorem c_M_bit (l : Launch) (E : kE) (mo mb mm mw mh ml len en gas ctr siz hgt frm ret : Nat) (on ay : Bool) (g : Nat → Nat) (hg : ∀ j, g j < 65536) (ta i : Nat) (h1 : ta + 16 ≤ 370) (h2 : i < 256) : Kp l y_M_bit (kW y_M_bit prog_12_method_28_code 3 (some .int)) rm_c_M_bit E [.ref mo, .int (nI ta), .int (nI i)] [(mo, .inr (8, [.int (nI len), .ref mb, .int (kb on), .int (nI en), .int (nI gas), .int (nI ctr), .int (nI siz), .int (nI hgt), .int (nI frm), .int (nI ret), .ref mm, .ref mw, .ref mh, .ref ml, .int (kb ay)])), (mw, .inl (E.2.1 0, 370, .inl (nF g)))] (fun r => r = nI (gv g ta 16 / 2 ^ i % 2)) := by
  refine Kp.ofI (cc := prog_12_method_28_code) (maxL := 3) (by decide) (Nat.le_of_ble_eq_true rfl) ?_
  intro p e s m args below meth c A ls Q hx hb hts hown hml hK hG hA hP hD hS hl hret
  have hl : lv_has ls 3 [(0, .ref mo), (1, .int (nI ta)), (2, .int (nI i))] := hl
  have b1 := hg (ta + i / 16)
  have b2 := Nat.div_le_self (g (ta + i / 16)) (2 ^ (i % 16))
  refine lv_aload_n hx hb d_M_bit_0 rfl (lv_at hl 0 rfl) ?_
  refine va_get (D := E.1) (ci := 8) (v := .ref mw) (C := "WideStackModel") (T := T_M) (N := 15) hx hb hts in_M hown hK hP 0 rfl rfl 11 (by decide) (hts _ t_758) (fun _ h9 => h9) rfl d_M_bit_1 ?_
  refine lv_iload_n hx hb d_M_bit_4 rfl (lv_at hl 1 rfl) ?_
  refine lv_iload_n hx hb d_M_bit_5 rfl (lv_at hl 2 rfl) ?_
  refine lv_bipush (v := nI 16) hx hb d_M_bit_6 (by decide) ?_
  refine lv_idiv hx hb d_M_bit_8 (by decide) ?_
  refine k_top (pk_div (by omega) (by decide) (by decide)) ?_
  refine lv_iadd hx hb d_M_bit_9 ?_
  refine k_top (nI_add _ _) ?_
  refine k_ialdN hx hb hK hP 1 rfl (i := (ta + (i / 16))) (by omega) (by omega) d_M_bit_10 ?_
  refine lv_iload_n hx hb d_M_bit_11 rfl (lv_at hl 2 rfl) ?_
  refine lv_bipush (v := nI 16) hx hb d_M_bit_12 (by decide) ?_
  refine lv_irem hx hb d_M_bit_14 (by decide) ?_
  refine k_top (pk_rem (by omega) (by decide) (by decide)) ?_
  refine lv_ishr hx hb d_M_bit_15 ?_
  refine k_top (pk_shrN (by omega) (nI (i % 16) &&& 31) (i % 16) (s_l _ (by omega))) ?_
  refine lv_iconst (v := nI 1) hx hb d_M_bit_16 (by decide) ?_
  refine lv_iand hx hb d_M_bit_17 ?_
  refine k_top (pk_andN (by omega) 1 (by decide)) ?_
  exact hret _ ls _ d_M_bit_18 (congrArg nI (gv_bit hg (n := 16) h2))

theorem gv_byte {g : Nat → Nat} {r j : Nat} (hg : ∀ j, g j < 65536) (hj : j < 32) : g (r + (31 - j) / 2) / 2 ^ (8 * ((31 - j) % 2)) % 256 = gv g r 16 / 2 ^ (8 * (31 - j)) % 256 := by
  have h1 := gv_dig (g := g) (r := r) (p := (31 - j) / 2) (n := 16) hg (by omega)
  have e : (65536 : Nat) = 2 ^ 16 := by decide
  rw [← h1, e, nat_sub (by omega), ← Nat.pow_mul, Nat.div_div_eq_div_mul, ← Nat.pow_add]
  congr 3
  omega

abbrev y_M_byteOf : MethodName := ⟨"WideStackModel", "byteOf", "(II)I"⟩
theorem d_M_byteOf_0 : decode prog_12_method_31_code 0 = .ok (.aload_n 0, 1) := by decide +kernel
theorem d_M_byteOf_1 : decode prog_12_method_31_code 1 = .ok (.getfield 16, 3) := by decide +kernel
theorem d_M_byteOf_4 : decode prog_12_method_31_code 4 = .ok (.iload_n 1, 1) := by decide +kernel
theorem d_M_byteOf_5 : decode prog_12_method_31_code 5 = .ok (.bipush 31, 2) := by decide +kernel
theorem d_M_byteOf_7 : decode prog_12_method_31_code 7 = .ok (.iload_n 2, 1) := by decide +kernel
theorem d_M_byteOf_8 : decode prog_12_method_31_code 8 = .ok (.isub, 1) := by decide +kernel
theorem d_M_byteOf_9 : decode prog_12_method_31_code 9 = .ok (.iconst 2, 1) := by decide +kernel
theorem d_M_byteOf_10 : decode prog_12_method_31_code 10 = .ok (.idiv, 1) := by decide +kernel
theorem d_M_byteOf_11 : decode prog_12_method_31_code 11 = .ok (.iadd, 1) := by decide +kernel
theorem d_M_byteOf_12 : decode prog_12_method_31_code 12 = .ok (.iaload, 1) := by decide +kernel
theorem d_M_byteOf_13 : decode prog_12_method_31_code 13 = .ok (.bipush 8, 2) := by decide +kernel
theorem d_M_byteOf_15 : decode prog_12_method_31_code 15 = .ok (.bipush 31, 2) := by decide +kernel
theorem d_M_byteOf_17 : decode prog_12_method_31_code 17 = .ok (.iload_n 2, 1) := by decide +kernel
theorem d_M_byteOf_18 : decode prog_12_method_31_code 18 = .ok (.isub, 1) := by decide +kernel
theorem d_M_byteOf_19 : decode prog_12_method_31_code 19 = .ok (.iconst 2, 1) := by decide +kernel
theorem d_M_byteOf_20 : decode prog_12_method_31_code 20 = .ok (.irem, 1) := by decide +kernel
theorem d_M_byteOf_21 : decode prog_12_method_31_code 21 = .ok (.imul, 1) := by decide +kernel
theorem d_M_byteOf_22 : decode prog_12_method_31_code 22 = .ok (.ishr, 1) := by decide +kernel
theorem d_M_byteOf_23 : decode prog_12_method_31_code 23 = .ok (.sipush 255, 3) := by decide +kernel
theorem d_M_byteOf_26 : decode prog_12_method_31_code 26 = .ok (.iand, 1) := by decide +kernel
theorem d_M_byteOf_27 : decode prog_12_method_31_code 27 = .ok (.ireturn, 1) := by decide +kernel
def rm_c_M_byteOf : Room := { frames := 0, cells := 0, slots := 0, locals := 0 }
set_option maxHeartbeats 4000000 in
set_option maxRecDepth 100000 in
theorem c_M_byteOf (l : Launch) (E : kE) (mo mb mm mw mh ml len en gas ctr siz hgt frm ret : Nat) (on ay : Bool) (g : Nat → Nat) (hg : ∀ j, g j < 65536) (ta i : Nat) (h1 : ta + 16 ≤ 370) (h2 : i < 32) : Kp l y_M_byteOf (kW y_M_byteOf prog_12_method_31_code 3 (some .int)) rm_c_M_byteOf E [.ref mo, .int (nI ta), .int (nI i)] [(mo, .inr (8, [.int (nI len), .ref mb, .int (kb on), .int (nI en), .int (nI gas), .int (nI ctr), .int (nI siz), .int (nI hgt), .int (nI frm), .int (nI ret), .ref mm, .ref mw, .ref mh, .ref ml, .int (kb ay)])), (mw, .inl (E.2.1 0, 370, .inl (nF g)))] (fun r => r = nI (m_byte i (gv g ta 16))) := by
  refine Kp.ofI (cc := prog_12_method_31_code) (maxL := 3) (by decide) (Nat.le_of_ble_eq_true rfl) ?_
  intro p e s m args below meth c A ls Q hx hb hts hown hml hK hG hA hP hD hS hl hret
  have hl : lv_has ls 3 [(0, .ref mo), (1, .int (nI ta)), (2, .int (nI i))] := hl
  have b1 := hg (ta + (31 - i) / 2)
  have b2 := Nat.div_le_self (g (ta + (31 - i) / 2)) (2 ^ (8 * ((31 - i) % 2)))
  refine lv_aload_n hx hb d_M_byteOf_0 rfl (lv_at hl 0 rfl) ?_
  refine va_get (D := E.1) (ci := 8) (v := .ref mw) (C := "WideStackModel") (T := T_M) (N := 15) hx hb hts in_M hown hK hP 0 rfl rfl 11 (by decide) (hts _ t_758) (fun _ h9 => h9) rfl d_M_byteOf_1 ?_
  refine lv_iload_n hx hb d_M_byteOf_4 rfl (lv_at hl 1 rfl) ?_
  refine lv_bipush (v := nI 31) hx hb d_M_byteOf_5 (by decide) ?_
  refine lv_iload_n hx hb d_M_byteOf_7 rfl (lv_at hl 2 rfl) ?_
  refine lv_isub hx hb d_M_byteOf_8 ?_
  refine k_top (pk_sub (by omega)) ?_
  refine lv_iconst (v := nI 2) hx hb d_M_byteOf_9 (by decide) ?_
  refine lv_idiv hx hb d_M_byteOf_10 (by decide) ?_
  refine k_top (pk_div (by omega) (by decide) (by decide)) ?_
  refine lv_iadd hx hb d_M_byteOf_11 ?_
  refine k_top (nI_add _ _) ?_
  refine k_ialdN hx hb hK hP 1 rfl (i := (ta + ((31 - i) / 2))) (by omega) (by omega) d_M_byteOf_12 ?_
  refine lv_bipush (v := nI 8) hx hb d_M_byteOf_13 (by decide) ?_
  refine lv_bipush (v := nI 31) hx hb d_M_byteOf_15 (by decide) ?_
  refine lv_iload_n hx hb d_M_byteOf_17 rfl (lv_at hl 2 rfl) ?_
  refine lv_isub hx hb d_M_byteOf_18 ?_
  refine k_top (pk_sub (by omega)) ?_
  refine lv_iconst (v := nI 2) hx hb d_M_byteOf_19 (by decide) ?_
  refine lv_irem hx hb d_M_byteOf_20 (by decide) ?_
  refine k_top (pk_rem (by omega) (by decide) (by decide)) ?_
  refine lv_imul hx hb d_M_byteOf_21 ?_
  refine k_top (pk_mul _ _) ?_
  refine lv_ishr hx hb d_M_byteOf_22 ?_
  refine k_top (pk_shrN (by omega) (nI (8 * ((31 - i) % 2)) &&& 31) (8 * ((31 - i) % 2)) (s_l _ (by omega))) ?_
  refine lv_sipush (v := nI 255) hx hb d_M_byteOf_23 (by decide) ?_
  refine lv_iand hx hb d_M_byteOf_26 ?_
  refine k_top (pk_andN (by omega) 8 (by decide)) ?_
  exact hret _ ls _ d_M_byteOf_27 (congrArg nI (by rw [m_byte_lt h2]; exact gv_byte hg h2))

abbrev y_M_top : MethodName := ⟨"WideStackModel", "top", "(I)I"⟩
theorem d_M_top_0 : decode prog_12_method_32_code 0 = .ok (.bipush 16, 2) := by decide +kernel
theorem d_M_top_2 : decode prog_12_method_32_code 2 = .ok (.aload_n 0, 1) := by decide +kernel
theorem d_M_top_3 : decode prog_12_method_32_code 3 = .ok (.getfield 91, 3) := by decide +kernel
theorem d_M_top_6 : decode prog_12_method_32_code 6 = .ok (.iconst 1, 1) := by decide +kernel
theorem d_M_top_7 : decode prog_12_method_32_code 7 = .ok (.isub, 1) := by decide +kernel
theorem d_M_top_8 : decode prog_12_method_32_code 8 = .ok (.iload_n 1, 1) := by decide +kernel
theorem d_M_top_9 : decode prog_12_method_32_code 9 = .ok (.isub, 1) := by decide +kernel
theorem d_M_top_10 : decode prog_12_method_32_code 10 = .ok (.imul, 1) := by decide +kernel
theorem d_M_top_11 : decode prog_12_method_32_code 11 = .ok (.ireturn, 1) := by decide +kernel
def rm_c_M_top : Room := { frames := 0, cells := 0, slots := 0, locals := 0 }
set_option maxHeartbeats 4000000 in
set_option maxRecDepth 100000 in
theorem c_M_top (l : Launch) (E : kE) (mo mb mm mw mh ml len en gas ctr siz hgt frm ret : Nat) (on ay : Bool) (i : Nat) (h1 : i < hgt) : Kp l y_M_top (kW y_M_top prog_12_method_32_code 2 (some .int)) rm_c_M_top E [.ref mo, .int (nI i)] [(mo, .inr (8, [.int (nI len), .ref mb, .int (kb on), .int (nI en), .int (nI gas), .int (nI ctr), .int (nI siz), .int (nI hgt), .int (nI frm), .int (nI ret), .ref mm, .ref mw, .ref mh, .ref ml, .int (kb ay)]))] (fun r => r = nI (16 * (hgt - 1 - i))) := by
  refine Kp.ofI (cc := prog_12_method_32_code) (maxL := 2) (by decide) (Nat.le_of_ble_eq_true rfl) ?_
  intro p e s m args below meth c A ls Q hx hb hts hown hml hK hG hA hP hD hS hl hret
  have hl : lv_has ls 2 [(0, .ref mo), (1, .int (nI i))] := hl
  refine lv_bipush (v := nI 16) hx hb d_M_top_0 (by decide) ?_
  refine lv_aload_n hx hb d_M_top_2 rfl (lv_at hl 0 rfl) ?_
  refine va_get (D := E.1) (ci := 8) (v := .int (nI hgt)) (C := "WideStackModel") (T := T_M) (N := 15) hx hb hts in_M hown hK hP 0 rfl rfl 7 (by decide) (hts _ t_754) (fun _ h9 => h9) rfl d_M_top_3 ?_
  refine lv_iconst (v := nI 1) hx hb d_M_top_6 (by decide) ?_
  refine lv_isub hx hb d_M_top_7 ?_
  refine k_top (pk_sub (by omega)) ?_
  refine lv_iload_n hx hb d_M_top_8 rfl (lv_at hl 1 rfl) ?_
  refine lv_isub hx hb d_M_top_9 ?_
  refine k_top (pk_sub (by omega)) ?_
  refine lv_imul hx hb d_M_top_10 ?_
  refine k_top (pk_mul _ _) ?_
  exact hret _ ls _ d_M_top_11 rfl

