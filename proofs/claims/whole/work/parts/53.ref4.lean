/-! long division of the reference -/
def fr2 (g z : Nat → Nat) : Prop := ∀ j, j < 304 ∨ (320 ≤ j ∧ j < 353) → z j = g j
theorem fr2_gv {g z : Nat → Nat} {r k : Nat} (h : fr2 g z) (hr : r + k ≤ 304 ∨ (320 ≤ r ∧ r + k ≤ 353)) : gv z r k = gv g r k := gv_congr (fun j hj => h _ (by omega))
theorem rq1 {Q k : Nat} (hk : k < 256) : Q * 2 ^ (k + 1) % mM = (Q % 2 ^ (255 - k)) * 2 ^ (k + 1) := by
  have e : mM = 2 ^ (255 - k) * 2 ^ (k + 1) := by
    rw [← Nat.pow_add, show 255 - k + (k + 1) = 256 by omega]; rfl
  rw [e, Nat.mul_mod_mul_right]
theorem rq0 {Q k : Nat} (hk : k ≤ 256) : Q * 2 ^ k % mM = (Q % 2 ^ (256 - k)) * 2 ^ k := by
  have e : mM = 2 ^ (256 - k) * 2 ^ k := by
    rw [← Nat.pow_add, show 256 - k + k = 256 by omega]; rfl
  rw [e, Nat.mul_mod_mul_right]
theorem rq_hi {Q k : Nat} (hk : 256 ≤ k) : Q * 2 ^ k % mM = 0 := by
  have e : 2 ^ k = 2 ^ (k - 256) * mM := by
    show 2 ^ k = 2 ^ (k - 256) * 2 ^ 256
    rw [← Nat.pow_add, Nat.sub_add_cancel hk]
  rw [e, ← Nat.mul_assoc, Nat.mul_mod_left]
theorem rq_bit {Q k : Nat} (hk : k < 256) : Q * 2 ^ (k + 1) % mM / 2 ^ k % 2 = 0 := by
  rw [rq1 hk, Nat.pow_succ, Nat.mul_comm (2 ^ k) 2, ← Nat.mul_assoc, Nat.mul_div_cancel _ (Nat.two_pow_pos k), Nat.mul_mod_left]
theorem rq_set {Q k : Nat} (hk : k < 256) : Q * 2 ^ (k + 1) % mM + 2 ^ k = (2 * Q + 1) * 2 ^ k % mM := by
  rw [rq1 hk, rq0 (by omega), show 256 - k = 255 - k + 1 by omega, Nat.pow_succ 2 (255 - k), Nat.pow_succ 2 k]
  have hN : 0 < 2 ^ (255 - k) := Nat.two_pow_pos _
  generalize 2 ^ (255 - k) = N at *
  have h1 := Nat.div_add_mod Q N
  have h2 := Nat.mod_lt Q hN
  have e : (2 * Q + 1) % (N * 2) = 2 * (Q % N) + 1 := by
    have e2 : 2 * Q + 1 = 2 * (Q % N) + 1 + N * 2 * (Q / N) := by
      rw [Nat.mul_assoc, Nat.mul_left_comm N 2 (Q / N)]
      omega
    rw [e2, Nat.add_mul_mod_self_left, Nat.mod_eq_of_lt (by omega)]
  rw [e, Nat.add_mul, Nat.one_mul, Nat.mul_comm (2 ^ k) 2, ← Nat.mul_assoc, Nat.mul_comm (Q % N) 2]
theorem rq_same {Q k : Nat} : Q * 2 ^ (k + 1) % mM = (2 * Q) * 2 ^ k % mM := by
  rw [Nat.pow_succ, Nat.mul_comm (2 ^ k) 2, ← Nat.mul_assoc, Nat.mul_comm Q 2]
def dvI (g z : Nat → Nat) (d k : Nat) : Prop := k ≤ 528 ∧ gv z 353 17 = gv g 320 33 / 2 ^ k % gv g d 16 ∧ gv z 304 16 = gv g 320 33 / 2 ^ k / gv g d 16 * 2 ^ k % mM ∧ fr2 g z ∧ ∀ j, z j < 65536
def dbI (z x : Nat → Nat) (j cy b : Nat) : Prop := cy ≤ 1 ∧ gv x 353 j + cy * 65536 ^ j = 2 * gv z 353 j + b ∧ (∀ q, q < 353 ∨ 353 + j ≤ q → x q = z q) ∧ ∀ j, x j < 65536
theorem db_0 {z : Nat → Nat} {b : Nat} (hz : ∀ j, z j < 65536) (hb : b < 2) : dbI z z 0 b b := ⟨by omega, by rw [gv_0]; omega, fun _ _ => rfl, hz⟩
theorem db_step {z x : Nat → Nat} {j cy b : Nat} (h : dbI z x j cy b) : dbI z (va_up x (353 + j) ((2 * x (353 + j) + cy) % 65536)) (j + 1) ((2 * x (353 + j) + cy) / 65536) b := by
  obtain ⟨h1, h2, h3, h4⟩ := h
  have b1 := h4 (353 + j)
  refine ⟨by omega, ?_, fun q hq => (va_up_ne _ _ (by omega)).trans (h3 q (by omega)), g16_up h4 (Nat.mod_lt _ (by decide))⟩
  have m := k_mdm (2 * x (353 + j) + cy) 65536 (65536 ^ j)
  rw [gv_push, gv_s z, p16s, ← h3 (353 + j) (by omega), Nat.mul_add]
  rw [Nat.add_mul, Nat.mul_assoc] at m
  omega
theorem db_fin {z x : Nat → Nat} {cy b d : Nat} (hb : b < 2) (hd : gv z 353 17 < d) (hd2 : d < mM) (h : dbI z x 17 cy b) : gv x 353 17 = 2 * gv z 353 17 + b := by
  obtain ⟨h1, h2, h3, h4⟩ := h
  have e : 65536 ^ 17 = 65536 * mM := by decide
  rw [e] at h2
  rcases Nat.lt_or_ge 0 cy with q | q
  · have : 1 * (65536 * mM) ≤ cy * (65536 * mM) := Nat.mul_le_mul_right _ q
    omega
  · have : cy = 0 := by omega
    subst this
    omega
section DV
variable {g z x u : Nat → Nat} {d k cy : Nat}
theorem dv_half2 (D b : Nat) : D / 2 ^ b = 2 * (D / 2 ^ (b + 1)) + D / 2 ^ b % 2 := dv_half D b
theorem dv_in (hg : ∀ j, g j < 65536) (hd0 : ¬ gv g d 16 = 0) (hI : dvI g z d (k + 1)) (hx : dbI z x 17 cy (gv g 320 33 / 2 ^ k % 2)) : gv x 353 17 = 2 * (gv g 320 33 / 2 ^ (k + 1) % gv g d 16) + gv g 320 33 / 2 ^ k % 2 := by
  have hr : gv z 353 17 < gv g d 16 := by rw [hI.2.1]; exact Nat.mod_lt _ (Nat.pos_of_ne_zero hd0)
  rw [db_fin (Nat.mod_lt _ (by decide)) hr (gv_lt16 hg d) hx, hI.2.1]
theorem dv_fr (hI : dvI g z d (k + 1)) {b : Nat} (hx : dbI z x 17 cy b) : fr2 g x := fun j hj => (hx.2.2.1 j (by omega)).trans (hI.2.2.2.1 j hj)
theorem dv_a (hg : ∀ j, g j < 65536) (hd : d + 16 ≤ 304) (hd0 : ¬ gv g d 16 = 0) (hI : dvI g z d (k + 1)) (hx : dbI z x 17 cy (gv g 320 33 / 2 ^ k % 2)) (h : ¬ gv x d 16 ≤ gv x 353 17) : dvI g x d k := by
  have e0 := dv_in hg hd0 hI hx
  have e1 := (dv_step (X := gv g 320 33 / 2 ^ (k + 1)) (V := gv g d 16) (Nat.pos_of_ne_zero hd0) (Nat.mod_lt (gv g 320 33 / 2 ^ k) (by decide : 0 < 2))).2
  have f := dv_fr hI hx
  rw [fr2_gv f (by omega), e0] at h
  obtain ⟨e2, e3⟩ := e1 h
  rw [← dv_half] at e2 e3
  refine ⟨by have := hI.1; omega, by rw [e0, e2], ?_, f, hx.2.2.2⟩
  rw [e3, ← rq_same, show gv x 304 16 = gv z 304 16 from gv_congr (fun j hj => hx.2.2.1 _ (by omega))]
  exact hI.2.2.1
theorem dv_b0 (hg : ∀ j, g j < 65536) (hd : d + 16 ≤ 304) (hd0 : ¬ gv g d 16 = 0) (hI : dvI g z d (k + 1)) (hx : dbI z x 17 cy (gv g 320 33 / 2 ^ k % 2)) (h : gv x d 16 ≤ gv x 353 17) (hu : gv u 353 17 = gv x 353 17 - gv x d 16) (hf : fr1 x u 353 17) : gv u 353 17 = gv g 320 33 / 2 ^ k % gv g d 16 ∧ gv g 320 33 / 2 ^ k / gv g d 16 = 2 * (gv g 320 33 / 2 ^ (k + 1) / gv g d 16) + 1 ∧ gv u 304 16 = gv g 320 33 / 2 ^ (k + 1) / gv g d 16 * 2 ^ (k + 1) % mM ∧ fr2 g u := by
  have e0 := dv_in hg hd0 hI hx
  have e1 := (dv_step (X := gv g 320 33 / 2 ^ (k + 1)) (V := gv g d 16) (Nat.pos_of_ne_zero hd0) (Nat.mod_lt (gv g 320 33 / 2 ^ k) (by decide : 0 < 2))).1
  have f := dv_fr hI hx
  have eD : gv x d 16 = gv g d 16 := fr2_gv f (by omega)
  rw [eD, e0] at h hu
  obtain ⟨e2, e3⟩ := e1 h
  rw [← dv_half] at e2 e3
  refine ⟨by rw [hu, e2], e3, ?_, fun j hj => (hf j (by omega)).trans (f j hj)⟩
  rw [fr1_gv hf (by omega), show gv x 304 16 = gv z 304 16 from gv_congr (fun j hj => hx.2.2.1 _ (by omega))]
  exact hI.2.2.1
theorem dv_b (hu16 : ∀ j, u j < 65536) (hI : dvI g z d (k + 1)) (hk : 256 ≤ k) (h : gv u 353 17 = gv g 320 33 / 2 ^ k % gv g d 16 ∧ gv g 320 33 / 2 ^ k / gv g d 16 = 2 * (gv g 320 33 / 2 ^ (k + 1) / gv g d 16) + 1 ∧ gv u 304 16 = gv g 320 33 / 2 ^ (k + 1) / gv g d 16 * 2 ^ (k + 1) % mM ∧ fr2 g u) : dvI g u d k := by
  obtain ⟨h1, h2, h3, h4⟩ := h
  refine ⟨by have := hI.1; omega, h1, ?_, h4, hu16⟩
  rw [h3, rq_hi (by omega), rq_hi hk]
theorem dv_c (hu16 : ∀ j, u j < 65536) (hI : dvI g z d (k + 1)) (hk : k < 256) (h : gv u 353 17 = gv g 320 33 / 2 ^ k % gv g d 16 ∧ gv g 320 33 / 2 ^ k / gv g d 16 = 2 * (gv g 320 33 / 2 ^ (k + 1) / gv g d 16) + 1 ∧ gv u 304 16 = gv g 320 33 / 2 ^ (k + 1) / gv g d 16 * 2 ^ (k + 1) % mM ∧ fr2 g u) : dvI g (va_up u (304 + k / 16) (u (304 + k / 16) ||| 1 * 2 ^ (k % 16))) d k := by
  obtain ⟨h1, h2, h3, h4⟩ := h
  refine ⟨by have := hI.1; omega, ?_, ?_, fun j hj => (va_up_ne _ _ (by omega)).trans (h4 j hj), g16_up hu16 (or_lt16 (hu16 _) (sh_lt (by decide) (Nat.mod_lt _ (by decide))))⟩
  · rw [gv_out (by omega)]; exact h1
  · rw [gv_or1 hu16 hk (by rw [h3]; exact rq_bit hk), h3, h2]
    exact rq_set hk
theorem dv_z (h1 : zrI g z 304 16) (h2 : zrI z x 353 17) : fr2 g x ∧ gv x 304 16 = 0 ∧ gv x 353 17 = 0 ∧ ∀ j, x j < 65536 :=
  ⟨fun j hj => (h2.2.1 j (by omega)).trans (h1.2.1 j (by omega)), gv_is0.mpr (fun j hj => (h2.2.1 _ (by omega)).trans (h1.1 _ (by omega) (by omega))), gv_is0.mpr (fun j hj => h2.1 _ (by omega) (by omega)), h2.2.2⟩
theorem dv_top {t : Nat} (hg : ∀ j, g j < 65536) (h : fr2 g x ∧ gv x 304 16 = 0 ∧ gv x 353 17 = 0 ∧ ∀ j, x j < 65536) (ht : t ≤ 33) (hz : ∀ j, t ≤ j → j < 33 → x (320 + j) = 0) : dvI g x d (16 * t) := by
  obtain ⟨h1, h2, h3, h4⟩ := h
  have e : gv g 320 33 < 2 ^ (16 * t) := by
    have e1 := gv_add (g := g) (r := 320) (n := t) (k := 33 - t)
    have z0 : gv g (320 + t) (33 - t) = 0 := gv_is0.mpr (fun j hj => by rw [Nat.add_assoc, ← h1 _ (by omega)]; exact hz (t + j) (by omega) (by omega))
    rw [z0, Nat.zero_mul, Nat.add_zero, show t + (33 - t) = 33 by omega] at e1
    rw [e1, Nat.pow_mul]
    exact gv_lt hg 320 t
  refine ⟨by omega, ?_, ?_, h1, h4⟩
  · rw [h3, Nat.div_eq_of_lt e, Nat.zero_mod]
  · rw [h2, Nat.div_eq_of_lt e, Nat.zero_div, Nat.zero_mul, Nat.zero_mod]
def dvP (g u : Nat → Nat) (d : Nat) : Prop := gv u 304 16 = gv g 320 33 / gv g d 16 % mM ∧ gv u 353 17 = m_rem (gv g 320 33) (gv g d 16) ∧ fr2 g u ∧ ∀ j, u j < 65536
theorem dvx_end (hd0 : ¬ gv g d 16 = 0) (h : dvI g z d 0) : dvP g z d := by
  obtain ⟨_, h1, h2, h3, h4⟩ := h
  rw [Nat.pow_zero, Nat.div_one] at h1 h2
  rw [Nat.mul_one] at h2
  exact ⟨h2, by rw [h1]; unfold m_rem; rw [if_neg hd0], h3, h4⟩
theorem dv_nil (hd0 : gv g d 16 = 0) (h : fr2 g x ∧ gv x 304 16 = 0 ∧ gv x 353 17 = 0 ∧ ∀ j, x j < 65536) : dvP g x d := by
  obtain ⟨h1, h2, h3, h4⟩ := h
  refine ⟨by rw [h2, hd0, Nat.div_zero]; rfl, by rw [h3, hd0]; rfl, h1, h4⟩
end DV
/-! shifts -/
def shI (g y : Nat → Nat) (F : Nat → Bool) (k : Nat) : Prop := fr1 g y 304 16 ∧ (∀ j, y j < 65536) ∧ ∀ q, (gv y 304 16).testBit q = (decide (q < k) && F q)
theorem sh_0 {g z : Nat → Nat} {F : Nat → Bool} (h : zrI g z 304 16) : shI g z F 0 := by
  refine ⟨h.2.1, h.2.2, fun q => ?_⟩
  rw [gv_is0.mpr (fun j hj => h.1 _ (by omega) (by omega)), Nat.zero_testBit]
  rfl
theorem sh_step {g y : Nat → Nat} {F : Nat → Bool} {k v : Nat} (h : shI g y F k) (hk : k < 256) (hv : v < 2) (hF : F k = decide (v = 1)) : shI g (va_up y (304 + k / 16) (y (304 + k / 16) ||| v * 2 ^ (k % 16))) F (k + 1) := by
  obtain ⟨h1, h2, h3⟩ := h
  refine ⟨fr1_up h1 (by omega), g16_up h2 (or_lt16 (h2 _) (sh_lt hv (Nat.mod_lt _ (by decide)))), fun q => ?_⟩
  rw [gv_orb h2 hk hv, h3, ← hF]
  by_cases e : q = k
  · subst e; simp
  · rw [decide_eq_false e, Bool.false_and, Bool.or_false]
    congr 1
    rw [decide_eq_decide]
    omega
theorem sh_v {g y : Nat → Nat} {i : Nat} (h : fr1 g y 304 16) : gv y 272 16 / 2 ^ i % 2 = gv g 272 16 / 2 ^ i % 2 := by rw [fr1_gv h (by omega)]
theorem tb_1 {x s : Nat} : x.testBit s = decide (x / 2 ^ s % 2 = 1) := Nat.testBit_eq_decide_div_mod_eq
def shD (B s f : Nat) : Nat → Bool := fun q => if q + s < 256 then B.testBit (q + s) else decide (f = 1)
def shU (B s : Nat) : Nat → Bool := fun q => decide (s ≤ q) && B.testBit (q - s)
theorem nsub_neg {a b : Nat} (h : b ≤ a) : nI a + -(nI b) = nI (a - b) := by rw [← Int32.sub_eq_add_neg]; exact pk_sub h
theorem nsub_neg2 {a b : Nat} (hb : b < 2 ^ 30) (h : a < b) : nI a + -(nI b) < 0 := by rw [← Int32.sub_eq_add_neg]; exact pk_sneg hb h
/-! signs extended -/
theorem r_andn {x y : Nat} (hx : x < 65536) (hy : y < 65536) : nI x &&& (nI y ^^^ (-1)) = nI (x &&& (65535 ^^^ y)) := by
  refine uw_inj ?_
  rw [uw_and, uw_not, uw_nI' (by omega), uw_nI' (by omega), uw_nI' (Nat.lt_of_le_of_lt Nat.and_le_left (by omega))]
  apply Nat.eq_of_testBit_eq
  intro i
  rw [Nat.testBit_and, Nat.testBit_and, show 4294967295 - y = 2 ^ 32 - (y + 1) by omega, Nat.testBit_two_pow_sub_succ (by omega), Nat.testBit_xor, show (65535 : Nat) = 2 ^ 16 - 1 from rfl, Nat.testBit_two_pow_sub_one]
  by_cases q : i < 16
  · simp [q, show i < 32 by omega]
  · have : x.testBit i = false := Nat.testBit_lt_two_pow (Nat.lt_of_lt_of_le (show x < 2 ^ 16 from hx) (Nat.pow_le_pow_right (n := 2) (by decide) (by omega : 16 ≤ i)))
    simp [this]
theorem gv_set {z : Nat → Nat} {r i X : Nat} (hz : ∀ j, z j < 65536) (hX : X < 65536) {q : Nat} (hq : q < 256) : (gv (va_up z (r + i / 16) X) r 16).testBit q = if q / 16 = i / 16 then X.testBit (q % 16) else (gv z r 16).testBit q := by
  rw [gv_tb (g16_up hz hX) hq, gv_tb hz hq]
  by_cases e : q / 16 = i / 16
  · rw [e, va_up_self, if_pos rfl]
  · rw [va_up_ne _ _ (by omega), if_neg e]
def exI (g z : Nat → Nat) (B lo sg k : Nat) : Prop := lo ≤ k ∧ k ≤ 256 ∧ fr1 g z 304 16 ∧ (∀ j, z j < 65536) ∧ ∀ q, (gv z 304 16).testBit q = if lo ≤ q ∧ q < k then decide (sg = 1) else B.testBit q
theorem ex_step {g z : Nat → Nat} {B lo sg k : Nat} (hs : sg < 2) (hk : k < 256) (h : exI g z B lo sg k) : exI g (va_up z (304 + k / 16) (z (304 + k / 16) &&& (65535 ^^^ (1 * 2 ^ (k % 16))) ||| sg * 2 ^ (k % 16))) B lo sg (k + 1) := by
  obtain ⟨h1, h2, h3, h4, h5⟩ := h
  have hX : z (304 + k / 16) &&& (65535 ^^^ (1 * 2 ^ (k % 16))) ||| sg * 2 ^ (k % 16) < 65536 := or_lt16 (Nat.lt_of_le_of_lt Nat.and_le_left (h4 _)) (sh_lt hs (Nat.mod_lt _ (by decide)))
  refine ⟨by omega, by omega, fr1_up h3 (by omega), g16_up h4 hX, fun q => ?_⟩
  rcases Nat.lt_or_ge q 256 with hq | hq
  · rw [gv_set h4 hX hq]
    by_cases e : q / 16 = k / 16
    · rw [if_pos e, Nat.testBit_or, Nat.testBit_and, Nat.testBit_xor, tb_sh hs, tb_sh (by decide), show (65535 : Nat) = 2 ^ 16 - 1 from rfl, Nat.testBit_two_pow_sub_one, decide_eq_true (Nat.mod_lt q (by decide : 0 < 16))]
      have h6 := h5 q
      rw [gv_tb h4 hq, e] at h6
      by_cases e2 : q = k
      · subst e2; simp [h1]
      · have e3 : ¬ q % 16 = k % 16 := by omega
        rw [decide_eq_false e3, Bool.false_and, Bool.false_and, Bool.or_false, Bool.xor_false, Bool.and_true, h6]
        by_cases e4 : lo ≤ q ∧ q < k
        · rw [if_pos e4, if_pos (by omega)]
        · rw [if_neg e4, if_neg (by omega)]
    · rw [if_neg e, h5 q]
      by_cases e4 : lo ≤ q ∧ q < k
      · rw [if_pos e4, if_pos (by omega)]
      · rw [if_neg e4, if_neg (by omega)]
  · have h6 := h5 q
    rw [gv_tb_ge h4 hq] at h6
    rw [gv_tb_ge (g16_up h4 hX) hq, if_neg (by omega)]
    rwa [if_neg (by omega)] at h6
theorem ex_fin {g z : Nat → Nat} {B a sg : Nat} (ha : a ≤ 30) (hB : B < mM) (hs : sg = B / 2 ^ (8 * a + 7) % 2) (h : exI g z B (8 * a + 8) sg 256) : gv z 304 16 = m_sext a B := by
  apply Nat.eq_of_testBit_eq
  intro q
  rw [h.2.2.2.2 q, m_sext_tb (by omega) hB, hs, ← tb_1]
  by_cases e : q < 8 * a + 8
  · rw [if_neg (by omega), if_pos e]
  · rw [if_neg e]
    by_cases e2 : q < 256
    · rw [if_pos (by omega), decide_eq_true e2, Bool.true_and]
    · rw [if_neg (by omega), decide_eq_false e2, Bool.false_and]
      exact Nat.testBit_lt_two_pow (Nat.lt_of_lt_of_le hB (Nat.pow_le_pow_right (n := 2) (by decide) (by omega : 256 ≤ q)))
theorem sext_big {a b : Nat} (h : 30 < min a 65535) : b = m_sext a b := by unfold m_sext; rw [if_pos (by omega)]

abbrev y_M_divide : MethodName := ⟨"WideStackModel", "divide", "(I)V"⟩
theorem d_M_divide_0 : decode prog_12_method_25_code 0 = .ok (.iconst 0, 1) := by decide +kernel
theorem d_M_divide_1 : decode prog_12_method_25_code 1 = .ok (.istore_n 2, 1) := by decide +kernel
theorem d_M_divide_2 : decode prog_12_method_25_code 2 = .ok (.iload_n 2, 1) := by decide +kernel
theorem d_M_divide_3 : decode prog_12_method_25_code 3 = .ok (.bipush 16, 2) := by decide +kernel
theorem d_M_divide_5 : decode prog_12_method_25_code 5 = .ok (.if_icmp .ge 20, 3) := by decide +kernel
theorem d_M_divide_8 : decode prog_12_method_25_code 8 = .ok (.aload_n 0, 1) := by decide +kernel
theorem d_M_divide_9 : decode prog_12_method_25_code 9 = .ok (.getfield 16, 3) := by decide +kernel
theorem d_M_divide_12 : decode prog_12_method_25_code 12 = .ok (.sipush 304, 3) := by decide +kernel
theorem d_M_divide_15 : decode prog_12_method_25_code 15 = .ok (.iload_n 2, 1) := by decide +kernel
theorem d_M_divide_16 : decode prog_12_method_25_code 16 = .ok (.iadd, 1) := by decide +kernel
theorem d_M_divide_17 : decode prog_12_method_25_code 17 = .ok (.iconst 0, 1) := by decide +kernel
theorem d_M_divide_18 : decode prog_12_method_25_code 18 = .ok (.iastore, 1) := by decide +kernel
theorem d_M_divide_19 : decode prog_12_method_25_code 19 = .ok (.iinc 2 1, 3) := by decide +kernel
theorem d_M_divide_22 : decode prog_12_method_25_code 22 = .ok (.goto (-20), 3) := by decide +kernel
theorem d_M_divide_25 : decode prog_12_method_25_code 25 = .ok (.iconst 0, 1) := by decide +kernel
theorem d_M_divide_26 : decode prog_12_method_25_code 26 = .ok (.istore_n 2, 1) := by decide +kernel
theorem d_M_divide_27 : decode prog_12_method_25_code 27 = .ok (.iload_n 2, 1) := by decide +kernel
theorem d_M_divide_28 : decode prog_12_method_25_code 28 = .ok (.bipush 17, 2) := by decide +kernel
theorem d_M_divide_30 : decode prog_12_method_25_code 30 = .ok (.if_icmp .ge 20, 3) := by decide +kernel
theorem d_M_divide_33 : decode prog_12_method_25_code 33 = .ok (.aload_n 0, 1) := by decide +kernel
theorem d_M_divide_34 : decode prog_12_method_25_code 34 = .ok (.getfield 16, 3) := by decide +kernel
theorem d_M_divide_37 : decode prog_12_method_25_code 37 = .ok (.sipush 353, 3) := by decide +kernel
theorem d_M_divide_40 : decode prog_12_method_25_code 40 = .ok (.iload_n 2, 1) := by decide +kernel
theorem d_M_divide_41 : decode prog_12_method_25_code 41 = .ok (.iadd, 1) := by decide +kernel
theorem d_M_divide_42 : decode prog_12_method_25_code 42 = .ok (.iconst 0, 1) := by decide +kernel
theorem d_M_divide_43 : decode prog_12_method_25_code 43 = .ok (.iastore, 1) := by decide +kernel
theorem d_M_divide_44 : decode prog_12_method_25_code 44 = .ok (.iinc 2 1, 3) := by decide +kernel
theorem d_M_divide_47 : decode prog_12_method_25_code 47 = .ok (.goto (-20), 3) := by decide +kernel
theorem d_M_divide_50 : decode prog_12_method_25_code 50 = .ok (.aload_n 0, 1) := by decide +kernel
theorem d_M_divide_51 : decode prog_12_method_25_code 51 = .ok (.iload_n 1, 1) := by decide +kernel
theorem d_M_divide_52 : decode prog_12_method_25_code 52 = .ok (.invokevirtual 62, 3) := by decide +kernel
theorem d_M_divide_55 : decode prog_12_method_25_code 55 = .ok (.ifCond .eq 4, 3) := by decide +kernel
theorem d_M_divide_58 : decode prog_12_method_25_code 58 = .ok (.return_, 1) := by decide +kernel
theorem d_M_divide_59 : decode prog_12_method_25_code 59 = .ok (.bipush 32, 2) := by decide +kernel
theorem d_M_divide_61 : decode prog_12_method_25_code 61 = .ok (.istore_n 2, 1) := by decide +kernel
theorem d_M_divide_62 : decode prog_12_method_25_code 62 = .ok (.iload_n 2, 1) := by decide +kernel
theorem d_M_divide_63 : decode prog_12_method_25_code 63 = .ok (.ifCond .lt 22, 3) := by decide +kernel
theorem d_M_divide_66 : decode prog_12_method_25_code 66 = .ok (.aload_n 0, 1) := by decide +kernel
theorem d_M_divide_67 : decode prog_12_method_25_code 67 = .ok (.getfield 16, 3) := by decide +kernel
theorem d_M_divide_70 : decode prog_12_method_25_code 70 = .ok (.sipush 320, 3) := by decide +kernel
theorem d_M_divide_73 : decode prog_12_method_25_code 73 = .ok (.iload_n 2, 1) := by decide +kernel
theorem d_M_divide_74 : decode prog_12_method_25_code 74 = .ok (.iadd, 1) := by decide +kernel
theorem d_M_divide_75 : decode prog_12_method_25_code 75 = .ok (.iaload, 1) := by decide +kernel
theorem d_M_divide_76 : decode prog_12_method_25_code 76 = .ok (.ifCond .ne 9, 3) := by decide +kernel
theorem d_M_divide_79 : decode prog_12_method_25_code 79 = .ok (.iinc 2 (-1), 3) := by decide +kernel
theorem d_M_divide_82 : decode prog_12_method_25_code 82 = .ok (.goto (-20), 3) := by decide +kernel
theorem d_M_divide_85 : decode prog_12_method_25_code 85 = .ok (.bipush 16, 2) := by decide +kernel
theorem d_M_divide_87 : decode prog_12_method_25_code 87 = .ok (.iload_n 2, 1) := by decide +kernel
theorem d_M_divide_88 : decode prog_12_method_25_code 88 = .ok (.imul, 1) := by decide +kernel
theorem d_M_divide_89 : decode prog_12_method_25_code 89 = .ok (.bipush 15, 2) := by decide +kernel
theorem d_M_divide_91 : decode prog_12_method_25_code 91 = .ok (.iadd, 1) := by decide +kernel
theorem d_M_divide_92 : decode prog_12_method_25_code 92 = .ok (.istore_n 3, 1) := by decide +kernel
theorem d_M_divide_93 : decode prog_12_method_25_code 93 = .ok (.iload_n 3, 1) := by decide +kernel
theorem d_M_divide_94 : decode prog_12_method_25_code 94 = .ok (.ifCond .lt 130, 3) := by decide +kernel
theorem d_M_divide_97 : decode prog_12_method_25_code 97 = .ok (.aload_n 0, 1) := by decide +kernel
theorem d_M_divide_98 : decode prog_12_method_25_code 98 = .ok (.getfield 16, 3) := by decide +kernel
theorem d_M_divide_101 : decode prog_12_method_25_code 101 = .ok (.sipush 320, 3) := by decide +kernel
theorem d_M_divide_104 : decode prog_12_method_25_code 104 = .ok (.iload_n 3, 1) := by decide +kernel
theorem d_M_divide_105 : decode prog_12_method_25_code 105 = .ok (.bipush 16, 2) := by decide +kernel
theorem d_M_divide_107 : decode prog_12_method_25_code 107 = .ok (.idiv, 1) := by decide +kernel
theorem d_M_divide_108 : decode prog_12_method_25_code 108 = .ok (.iadd, 1) := by decide +kernel
theorem d_M_divide_109 : decode prog_12_method_25_code 109 = .ok (.iaload, 1) := by decide +kernel
theorem d_M_divide_110 : decode prog_12_method_25_code 110 = .ok (.iload_n 3, 1) := by decide +kernel
theorem d_M_divide_111 : decode prog_12_method_25_code 111 = .ok (.bipush 16, 2) := by decide +kernel
theorem d_M_divide_113 : decode prog_12_method_25_code 113 = .ok (.irem, 1) := by decide +kernel
theorem d_M_divide_114 : decode prog_12_method_25_code 114 = .ok (.ishr, 1) := by decide +kernel
theorem d_M_divide_115 : decode prog_12_method_25_code 115 = .ok (.iconst 1, 1) := by decide +kernel
theorem d_M_divide_116 : decode prog_12_method_25_code 116 = .ok (.iand, 1) := by decide +kernel
theorem d_M_divide_117 : decode prog_12_method_25_code 117 = .ok (.istore 4, 2) := by decide +kernel
theorem d_M_divide_119 : decode prog_12_method_25_code 119 = .ok (.iconst 0, 1) := by decide +kernel
theorem d_M_divide_120 : decode prog_12_method_25_code 120 = .ok (.istore 5, 2) := by decide +kernel
theorem d_M_divide_122 : decode prog_12_method_25_code 122 = .ok (.iload 5, 2) := by decide +kernel
theorem d_M_divide_124 : decode prog_12_method_25_code 124 = .ok (.bipush 17, 2) := by decide +kernel
theorem d_M_divide_126 : decode prog_12_method_25_code 126 = .ok (.if_icmp .ge 50, 3) := by decide +kernel
theorem d_M_divide_129 : decode prog_12_method_25_code 129 = .ok (.iconst 2, 1) := by decide +kernel
theorem d_M_divide_130 : decode prog_12_method_25_code 130 = .ok (.aload_n 0, 1) := by decide +kernel
theorem d_M_divide_131 : decode prog_12_method_25_code 131 = .ok (.getfield 16, 3) := by decide +kernel
theorem d_M_divide_134 : decode prog_12_method_25_code 134 = .ok (.sipush 353, 3) := by decide +kernel
theorem d_M_divide_137 : decode prog_12_method_25_code 137 = .ok (.iload 5, 2) := by decide +kernel
theorem d_M_divide_139 : decode prog_12_method_25_code 139 = .ok (.iadd, 1) := by decide +kernel
theorem d_M_divide_140 : decode prog_12_method_25_code 140 = .ok (.iaload, 1) := by decide +kernel
theorem d_M_divide_141 : decode prog_12_method_25_code 141 = .ok (.imul, 1) := by decide +kernel
theorem d_M_divide_142 : decode prog_12_method_25_code 142 = .ok (.iload 4, 2) := by decide +kernel
theorem d_M_divide_144 : decode prog_12_method_25_code 144 = .ok (.iadd, 1) := by decide +kernel
theorem d_M_divide_145 : decode prog_12_method_25_code 145 = .ok (.istore 6, 2) := by decide +kernel
theorem d_M_divide_147 : decode prog_12_method_25_code 147 = .ok (.aload_n 0, 1) := by decide +kernel
theorem d_M_divide_148 : decode prog_12_method_25_code 148 = .ok (.getfield 16, 3) := by decide +kernel
theorem d_M_divide_151 : decode prog_12_method_25_code 151 = .ok (.sipush 353, 3) := by decide +kernel
theorem d_M_divide_154 : decode prog_12_method_25_code 154 = .ok (.iload 5, 2) := by decide +kernel
theorem d_M_divide_156 : decode prog_12_method_25_code 156 = .ok (.iadd, 1) := by decide +kernel
theorem d_M_divide_157 : decode prog_12_method_25_code 157 = .ok (.iload 6, 2) := by decide +kernel
theorem d_M_divide_159 : decode prog_12_method_25_code 159 = .ok (.ldc 52, 2) := by decide +kernel
theorem d_M_divide_161 : decode prog_12_method_25_code 161 = .ok (.iand, 1) := by decide +kernel
theorem d_M_divide_162 : decode prog_12_method_25_code 162 = .ok (.iastore, 1) := by decide +kernel
theorem d_M_divide_163 : decode prog_12_method_25_code 163 = .ok (.iload 6, 2) := by decide +kernel
theorem d_M_divide_165 : decode prog_12_method_25_code 165 = .ok (.bipush 16, 2) := by decide +kernel
theorem d_M_divide_167 : decode prog_12_method_25_code 167 = .ok (.ishr, 1) := by decide +kernel
theorem d_M_divide_168 : decode prog_12_method_25_code 168 = .ok (.istore 4, 2) := by decide +kernel
theorem d_M_divide_170 : decode prog_12_method_25_code 170 = .ok (.iinc 5 1, 3) := by decide +kernel
theorem d_M_divide_173 : decode prog_12_method_25_code 173 = .ok (.goto (-51), 3) := by decide +kernel
theorem d_M_divide_176 : decode prog_12_method_25_code 176 = .ok (.aload_n 0, 1) := by decide +kernel
theorem d_M_divide_177 : decode prog_12_method_25_code 177 = .ok (.iload_n 1, 1) := by decide +kernel
theorem d_M_divide_178 : decode prog_12_method_25_code 178 = .ok (.invokevirtual 65, 3) := by decide +kernel
theorem d_M_divide_181 : decode prog_12_method_25_code 181 = .ok (.ifCond .eq 37, 3) := by decide +kernel
theorem d_M_divide_184 : decode prog_12_method_25_code 184 = .ok (.aload_n 0, 1) := by decide +kernel
theorem d_M_divide_185 : decode prog_12_method_25_code 185 = .ok (.iload_n 1, 1) := by decide +kernel
theorem d_M_divide_186 : decode prog_12_method_25_code 186 = .ok (.invokevirtual 68, 3) := by decide +kernel
theorem d_M_divide_189 : decode prog_12_method_25_code 189 = .ok (.iload_n 3, 1) := by decide +kernel
theorem d_M_divide_190 : decode prog_12_method_25_code 190 = .ok (.sipush 256, 3) := by decide +kernel
theorem d_M_divide_193 : decode prog_12_method_25_code 193 = .ok (.if_icmp .ge 25, 3) := by decide +kernel
theorem d_M_divide_196 : decode prog_12_method_25_code 196 = .ok (.aload_n 0, 1) := by decide +kernel
theorem d_M_divide_197 : decode prog_12_method_25_code 197 = .ok (.getfield 16, 3) := by decide +kernel
theorem d_M_divide_200 : decode prog_12_method_25_code 200 = .ok (.sipush 304, 3) := by decide +kernel
theorem d_M_divide_203 : decode prog_12_method_25_code 203 = .ok (.iload_n 3, 1) := by decide +kernel
theorem d_M_divide_204 : decode prog_12_method_25_code 204 = .ok (.bipush 16, 2) := by decide +kernel
theorem d_M_divide_206 : decode prog_12_method_25_code 206 = .ok (.idiv, 1) := by decide +kernel
theorem d_M_divide_207 : decode prog_12_method_25_code 207 = .ok (.iadd, 1) := by decide +kernel
theorem d_M_divide_208 : decode prog_12_method_25_code 208 = .ok (.dup2, 1) := by decide +kernel
theorem d_M_divide_209 : decode prog_12_method_25_code 209 = .ok (.iaload, 1) := by decide +kernel
theorem d_M_divide_210 : decode prog_12_method_25_code 210 = .ok (.iconst 1, 1) := by decide +kernel
theorem d_M_divide_211 : decode prog_12_method_25_code 211 = .ok (.iload_n 3, 1) := by decide +kernel
theorem d_M_divide_212 : decode prog_12_method_25_code 212 = .ok (.bipush 16, 2) := by decide +kernel
theorem d_M_divide_214 : decode prog_12_method_25_code 214 = .ok (.irem, 1) := by decide +kernel
theorem d_M_divide_215 : decode prog_12_method_25_code 215 = .ok (.ishl, 1) := by decide +kernel
theorem d_M_divide_216 : decode prog_12_method_25_code 216 = .ok (.ior, 1) := by decide +kernel
theorem d_M_divide_217 : decode prog_12_method_25_code 217 = .ok (.iastore, 1) := by decide +kernel
theorem d_M_divide_218 : decode prog_12_method_25_code 218 = .ok (.iinc 3 (-1), 3) := by decide +kernel
theorem d_M_divide_221 : decode prog_12_method_25_code 221 = .ok (.goto (-128), 3) := by decide +kernel
theorem d_M_divide_224 : decode prog_12_method_25_code 224 = .ok (.return_, 1) := by decide +kernel
def rm_c_M_divide : Room := { frames := 1, cells := 0, slots := 0, locals := 24 }
set_option maxHeartbeats 4000000 in
set_option maxRecDepth 100000 in
theorem c_M_divide (l : Launch) (E : kE) (mo mb mm mw mh ml len en gas ctr siz hgt frm ret : Nat) (on ay : Bool) (g : Nat → Nat) (hg : ∀ j, g j < 65536) (ta : Nat) (h1 : ta + 16 ≤ 304) : Kv l y_M_divide (kW y_M_divide prog_12_method_25_code 7 (none)) rm_c_M_divide E [.ref mo, .int (nI ta)] [(mo, .inr (8, [.int (nI len), .ref mb, .int (kb on), .int (nI en), .int (nI gas), .int (nI ctr), .int (nI siz), .int (nI hgt), .int (nI frm), .int (nI ret), .ref mm, .ref mw, .ref mh, .ref ml, .int (kb ay)])), (mw, .inl (E.2.1 0, 370, .inl (nF g)))] (S := Nat → Nat) (fun u => dvP g u ta) (fun u => [(mo, .inr (8, [.int (nI len), .ref mb, .int (kb on), .int (nI en), .int (nI gas), .int (nI ctr), .int (nI siz), .int (nI hgt), .int (nI frm), .int (nI ret), .ref mm, .ref mw, .ref mh, .ref ml, .int (kb ay)])), (mw, .inl (E.2.1 0, 370, .inl (nF u)))]) := by
  refine Kv.ofW (cc := prog_12_method_25_code) (maxL := 7) (by decide) (Nat.le_of_ble_eq_true rfl) ?_
  intro p e s m args below meth c A ls Q hx hb hts hown hml hK hG hA hP hD hS hl hret
  have hl : lv_has ls 7 [(0, .ref mo), (1, .int (nI ta))] := hl
  refine lv_iconst (v := nI 0) hx hb d_M_divide_0 (by decide) ?_
  refine lv_istore_n (lv' := [(2, .int (nI 0)), (0, .ref mo), (1, .int (nI ta))]) hx hb d_M_divide_1 rfl hl (by decide) rfl (fun ls hl => ?_)
  have key2 : ∀ (n : Nat) (i : Nat) (z : Nat → Nat) (H : Heap) (locs : List Loc) (ls : Array Slot), i + n = 16 → (zrI g z 304 i) → lv_has ls 7 [(2, .int (nI i)), (0, .ref mo), (1, .int (nI ta))] → va_P E.1 vwCl [(mo, .inr (8, [.int (nI len), .ref mb, .int (kb on), .int (nI en), .int (nI gas), .int (nI ctr), .int (nI siz), .int (nI hgt), .int (nI frm), .int (nI ret), .ref mm, .ref mw, .ref mh, .ref ml, .int (kb ay)])), (mw, .inl (E.2.1 0, 370, .inl (nF z)))] H → va_D A [(mo, .inr (8, [.int (nI len), .ref mb, .int (kb on), .int (nI en), .int (nI gas), .int (nI ctr), .int (nI siz), .int (nI hgt), .int (nI frm), .int (nI ret), .ref mm, .ref mw, .ref mh, .ref ml, .int (kb ay)])), (mw, .inl (E.2.1 0, 370, .inl (nF z)))] → va_S A s.heap H locs → W p l e rm_c_M_divide s m args below meth c H locs 0 0 Q (F0 m 2 ls []) := by
    intro n
    induction n using Nat.strongRecOn with
    | ind n ih =>
      intro i z H locs ls hn hI hl hP hD hS
      refine lv_iload_n hx hb d_M_divide_2 rfl (lv_at hl 0 rfl) ?_
      refine lv_bipush (v := nI 16) hx hb d_M_divide_3 (by decide) ?_
      refine kn_ge (tgt := 25) hx hb (by omega) (by omega) d_M_divide_5 (by decide) (fun h5 => ?_) (fun h5 => ?_)
      · refine lv_iconst (v := nI 0) hx hb d_M_divide_25 (by decide) ?_
        refine lv_istore_n (lv' := [(2, .int (nI 0)), (0, .ref mo), (1, .int (nI ta))]) hx hb d_M_divide_26 rfl hl (by decide) rfl (fun ls hl => ?_)
        have key27 : ∀ (n1 : Nat) (j : Nat) (y : Nat → Nat) (H : Heap) (locs : List Loc) (ls : Array Slot), j + n1 = 17 → (zrI z y 353 j) → lv_has ls 7 [(2, .int (nI j)), (0, .ref mo), (1, .int (nI ta))] → va_P E.1 vwCl [(mo, .inr (8, [.int (nI len), .ref mb, .int (kb on), .int (nI en), .int (nI gas), .int (nI ctr), .int (nI siz), .int (nI hgt), .int (nI frm), .int (nI ret), .ref mm, .ref mw, .ref mh, .ref ml, .int (kb ay)])), (mw, .inl (E.2.1 0, 370, .inl (nF y)))] H → va_D A [(mo, .inr (8, [.int (nI len), .ref mb, .int (kb on), .int (nI en), .int (nI gas), .int (nI ctr), .int (nI siz), .int (nI hgt), .int (nI frm), .int (nI ret), .ref mm, .ref mw, .ref mh, .ref ml, .int (kb ay)])), (mw, .inl (E.2.1 0, 370, .inl (nF y)))] → va_S A s.heap H locs → W p l e rm_c_M_divide s m args below meth c H locs 0 0 Q (F0 m 27 ls []) := by
          intro n1
          induction n1 using Nat.strongRecOn with
          | ind n1 ih_n1 =>
            intro j y H locs ls hn hJ hl hP hD hS
            refine lv_iload_n hx hb d_M_divide_27 rfl (lv_at hl 0 rfl) ?_
            refine lv_bipush (v := nI 17) hx hb d_M_divide_28 (by decide) ?_
            refine kn_ge (tgt := 50) hx hb (by omega) (by omega) d_M_divide_30 (by decide) (fun h30 => ?_) (fun h30 => ?_)
            · obtain rfl : i = 16 := by omega
              obtain rfl : j = 17 := by omega
              have hY := dv_z hI hJ
              have hYd : gv y ta 16 = gv g ta 16 := fr2_gv hY.1 (by omega)
              refine lv_aload_n hx hb d_M_divide_50 rfl (lv_at hl 1 rfl) ?_
              refine lv_iload_n hx hb d_M_divide_51 rfl (lv_at hl 2 rfl) ?_
              refine k_Vp (As := [.int (nI ta)]) (rest := []) ⟨hx, hb, hml, hown, hts⟩ (c_M_isZero l E mo mb mm mw mh ml len en gas ctr siz hgt frm ret on ay y hY.2.2.2 ta (by omega)) (k_cwV 1 hts t_861 t_863 t_33 t_71 t_864 (by decide +kernel) ⟨Nat.le_of_ble_eq_true rfl, Nat.le_of_ble_eq_true rfl⟩) hK hG hA hP hD hS [0, 1] rfl (by decide) 0 rfl rfl rfl hl.1 rfl (Nat.le_of_ble_eq_true rfl) d_M_divide_52 ⟨Nat.zero_le _, Nat.zero_le _⟩ (fun r52 hu52 => ?_)
              have hu52 := hu52.trans (by rw [hYd])
              subst hu52
              refine lv_if_eq (tgt := 59) hx hb d_M_divide_55 (by decide) (fun h55 => ?_) (fun h55 => ?_)
              · have hd0 := of_decide_eq_false (kb_0.mp h55)
                refine lv_bipush (v := nI 32) hx hb d_M_divide_59 (by decide) ?_
                refine lv_istore_n (lv' := [(2, .int (nI 32)), (0, .ref mo), (1, .int (nI ta))]) hx hb d_M_divide_61 rfl hl (by decide) rfl (fun ls hl => ?_)
                have key62 : ∀ (n2 : Nat) (t : Nat) (H : Heap) (locs : List Loc) (ls : Array Slot), t = n2 ∧ t ≤ 33 → (∀ q, t ≤ q → q < 33 → y (320 + q) = 0) → lv_has ls 7 [(2, .int (m1 t)), (0, .ref mo), (1, .int (nI ta))] → va_P E.1 vwCl [(mo, .inr (8, [.int (nI len), .ref mb, .int (kb on), .int (nI en), .int (nI gas), .int (nI ctr), .int (nI siz), .int (nI hgt), .int (nI frm), .int (nI ret), .ref mm, .ref mw, .ref mh, .ref ml, .int (kb ay)])), (mw, .inl (E.2.1 0, 370, .inl (nF y)))] H → va_D A [(mo, .inr (8, [.int (nI len), .ref mb, .int (kb on), .int (nI en), .int (nI gas), .int (nI ctr), .int (nI siz), .int (nI hgt), .int (nI frm), .int (nI ret), .ref mm, .ref mw, .ref mh, .ref ml, .int (kb ay)])), (mw, .inl (E.2.1 0, 370, .inl (nF y)))] → va_S A s.heap H locs → W p l e rm_c_M_divide s m args below meth c H locs 0 0 Q (F0 m 62 ls []) := by
                  intro n2
                  induction n2 using Nat.strongRecOn with
                  | ind n2 ih_n2 =>
                    intro t H locs ls hn hT hl hP hD hS
                    rcases t with _ | t
                    · have hl : lv_has ls 7 [(2, .int (-1)), (0, .ref mo), (1, .int (nI ta))] := hl
                      refine lv_iload_n hx hb d_M_divide_62 rfl (lv_at hl 0 rfl) ?_
                      refine lv_if_lt (tgt := 85) hx hb d_M_divide_63 (by decide) (fun h63 => ?_) (fun h63 => ?_)
                      · refine lv_bipush (v := nI 16) hx hb d_M_divide_85 (by decide) ?_
                        refine lv_iload_n hx hb d_M_divide_87 rfl (lv_at hl 0 rfl) ?_
                        refine lv_imul hx hb d_M_divide_88 ?_
                        refine lv_bipush (v := nI 15) hx hb d_M_divide_89 (by decide) ?_
                        refine lv_iadd hx hb d_M_divide_91 ?_
                        refine k_top (y := -1) (by decide) ?_
                        refine lv_istore_n (lv' := [(3, .int (-1)), (2, .int (-1)), (0, .ref mo), (1, .int (nI ta))]) hx hb d_M_divide_92 rfl hl (by decide) rfl (fun ls hl => ?_)
                        refine lv_iload_n hx hb d_M_divide_93 rfl (lv_at hl 0 rfl) ?_
                        refine lv_if_lt (tgt := 224) hx hb d_M_divide_94 (by decide) (fun h94 => ?_) (fun h94 => ?_)
                        · exact hret _ ls _ _ y d_M_divide_224 (dvx_end hd0 (dv_top (t := 0) hg hY (by omega) hT)) hP hS
                        · exact absurd (by decide) h94
                      · exact absurd (by decide) h63
                    · have hl : lv_has ls 7 [(2, .int (nI t)), (0, .ref mo), (1, .int (nI ta))] := hl
                      have b1 := hY.2.2.2 (320 + t)
                      refine lv_iload_n hx hb d_M_divide_62 rfl (lv_at hl 0 rfl) ?_
                      refine kn_iflt (tgt := 85) hx hb (by omega) d_M_divide_63 (by decide) ?_
                      refine lv_aload_n hx hb d_M_divide_66 rfl (lv_at hl 1 rfl) ?_
                      refine va_get (D := E.1) (ci := 8) (v := .ref mw) (C := "WideStackModel") (T := T_M) (N := 15) hx hb hts in_M hown hK hP 0 rfl rfl 11 (by decide) (hts _ t_758) (fun _ h9 => h9) rfl d_M_divide_67 ?_
                      refine lv_sipush (v := nI 320) hx hb d_M_divide_70 (by decide) ?_
                      refine lv_iload_n hx hb d_M_divide_73 rfl (lv_at hl 0 rfl) ?_
                      refine lv_iadd hx hb d_M_divide_74 ?_
                      refine k_top (nI_add _ _) ?_
                      refine k_ialdN hx hb hK hP 1 rfl (i := (320 + t)) (by omega) (by omega) d_M_divide_75 ?_
                      refine kn_ifne (tgt := 85) hx hb (by omega) d_M_divide_76 (by decide) (fun h76 => ?_) (fun h76 => ?_)
                      · refine lv_bipush (v := nI 16) hx hb d_M_divide_85 (by decide) ?_
                        refine lv_iload_n hx hb d_M_divide_87 rfl (lv_at hl 0 rfl) ?_
                        refine lv_imul hx hb d_M_divide_88 ?_
                        refine k_top (pk_mul _ _) ?_
                        refine lv_bipush (v := nI 15) hx hb d_M_divide_89 (by decide) ?_
                        refine lv_iadd hx hb d_M_divide_91 ?_
                        refine k_top (nI_add _ _) ?_
                        refine lv_istore_n (lv' := [(3, .int (nI ((16 * t) + 15))), (2, .int (nI t)), (0, .ref mo), (1, .int (nI ta))]) hx hb d_M_divide_92 rfl hl (by decide) rfl (fun ls hl => ?_)
                        have key93 : ∀ (n3 : Nat) (k : Nat) (z : Nat → Nat) (H : Heap) (locs : List Loc) (ls : Array Slot), k = n3 → (dvI g z ta k) → lv_has ls 7 [(3, .int (m1 k)), (0, .ref mo), (1, .int (nI ta))] → va_P E.1 vwCl [(mo, .inr (8, [.int (nI len), .ref mb, .int (kb on), .int (nI en), .int (nI gas), .int (nI ctr), .int (nI siz), .int (nI hgt), .int (nI frm), .int (nI ret), .ref mm, .ref mw, .ref mh, .ref ml, .int (kb ay)])), (mw, .inl (E.2.1 0, 370, .inl (nF z)))] H → va_D A [(mo, .inr (8, [.int (nI len), .ref mb, .int (kb on), .int (nI en), .int (nI gas), .int (nI ctr), .int (nI siz), .int (nI hgt), .int (nI frm), .int (nI ret), .ref mm, .ref mw, .ref mh, .ref ml, .int (kb ay)])), (mw, .inl (E.2.1 0, 370, .inl (nF z)))] → va_S A s.heap H locs → W p l e rm_c_M_divide s m args below meth c H locs 0 0 Q (F0 m 93 ls []) := by
                          intro n3
                          induction n3 using Nat.strongRecOn with
                          | ind n3 ih_n3 =>
                            intro k z H locs ls hn hL hl hP hD hS
                            rcases k with _ | k
                            · have hl : lv_has ls 7 [(3, .int (-1)), (0, .ref mo), (1, .int (nI ta))] := hl
                              refine lv_iload_n hx hb d_M_divide_93 rfl (lv_at hl 0 rfl) ?_
                              refine lv_if_lt (tgt := 224) hx hb d_M_divide_94 (by decide) (fun h94 => ?_) (fun h94 => ?_)
                              · exact hret _ ls _ _ z d_M_divide_224 (dvx_end hd0 hL) hP hS
                              · exact absurd (by decide) h94
                            · have hl : lv_has ls 7 [(3, .int (nI k)), (0, .ref mo), (1, .int (nI ta))] := hl
                              have b0 := hL.1
                              have b1 := hL.2.2.2.2 (320 + k / 16)
                              have b2 := Nat.div_le_self (z (320 + k / 16)) (2 ^ (k % 16))
                              refine lv_iload_n hx hb d_M_divide_93 rfl (lv_at hl 0 rfl) ?_
                              refine kn_iflt (tgt := 224) hx hb (by omega) d_M_divide_94 (by decide) ?_
                              refine lv_aload_n hx hb d_M_divide_97 rfl (lv_at hl 1 rfl) ?_
                              refine va_get (D := E.1) (ci := 8) (v := .ref mw) (C := "WideStackModel") (T := T_M) (N := 15) hx hb hts in_M hown hK hP 0 rfl rfl 11 (by decide) (hts _ t_758) (fun _ h9 => h9) rfl d_M_divide_98 ?_
                              refine lv_sipush (v := nI 320) hx hb d_M_divide_101 (by decide) ?_
                              refine lv_iload_n hx hb d_M_divide_104 rfl (lv_at hl 0 rfl) ?_
                              refine lv_bipush (v := nI 16) hx hb d_M_divide_105 (by decide) ?_
                              refine lv_idiv hx hb d_M_divide_107 (by decide) ?_
                              refine k_top (pk_div (by omega) (by decide) (by decide)) ?_
                              refine lv_iadd hx hb d_M_divide_108 ?_
                              refine k_top (nI_add _ _) ?_
                              refine k_ialdN hx hb hK hP 1 rfl (i := (320 + (k / 16))) (by omega) (by omega) d_M_divide_109 ?_
                              refine lv_iload_n hx hb d_M_divide_110 rfl (lv_at hl 0 rfl) ?_
                              refine lv_bipush (v := nI 16) hx hb d_M_divide_111 (by decide) ?_
                              refine lv_irem hx hb d_M_divide_113 (by decide) ?_
                              refine k_top (pk_rem (by omega) (by decide) (by decide)) ?_
                              refine lv_ishr hx hb d_M_divide_114 ?_
                              refine k_top (pk_shrN (by omega) (nI (k % 16) &&& 31) (k % 16) (s_l _ (by omega))) ?_
                              refine lv_iconst (v := nI 1) hx hb d_M_divide_115 (by decide) ?_
                              refine lv_iand hx hb d_M_divide_116 ?_
                              refine k_top (pk_andN (by omega) 1 (by decide)) ?_
                              refine k_top (congrArg nI ((gv_bit (n := 33) hL.2.2.2.2 (by omega)).trans (by rw [fr2_gv hL.2.2.2.1 (by omega)]))) ?_
                              have b3 : gv g 320 33 / 2 ^ k % 2 < 2 := Nat.mod_lt _ (by decide)
                              refine lv_istore (lv' := [(4, .int (nI (gv g 320 33 / 2 ^ k % 2))), (3, .int (nI k)), (0, .ref mo), (1, .int (nI ta))]) hx hb d_M_divide_117 hl (by decide) rfl (fun ls hl => ?_)
                              refine lv_iconst (v := nI 0) hx hb d_M_divide_119 (by decide) ?_
                              refine lv_istore (lv' := [(5, .int (nI 0)), (4, .int (nI (gv g 320 33 / 2 ^ k % 2))), (3, .int (nI k)), (0, .ref mo), (1, .int (nI ta))]) hx hb d_M_divide_120 hl (by decide) rfl (fun ls hl => ?_)
                              have key122 : ∀ (n4 : Nat) (q cy : Nat) (x : Nat → Nat) (H : Heap) (locs : List Loc) (ls : Array Slot), q + n4 = 17 → (dbI z x q cy (gv g 320 33 / 2 ^ k % 2)) → lv_has ls 7 [(5, .int (nI q)), (4, .int (nI cy)), (3, .int (nI k)), (0, .ref mo), (1, .int (nI ta))] → va_P E.1 vwCl [(mo, .inr (8, [.int (nI len), .ref mb, .int (kb on), .int (nI en), .int (nI gas), .int (nI ctr), .int (nI siz), .int (nI hgt), .int (nI frm), .int (nI ret), .ref mm, .ref mw, .ref mh, .ref ml, .int (kb ay)])), (mw, .inl (E.2.1 0, 370, .inl (nF x)))] H → va_D A [(mo, .inr (8, [.int (nI len), .ref mb, .int (kb on), .int (nI en), .int (nI gas), .int (nI ctr), .int (nI siz), .int (nI hgt), .int (nI frm), .int (nI ret), .ref mm, .ref mw, .ref mh, .ref ml, .int (kb ay)])), (mw, .inl (E.2.1 0, 370, .inl (nF x)))] → va_S A s.heap H locs → W p l e rm_c_M_divide s m args below meth c H locs 0 0 Q (F0 m 122 ls []) := by
                                intro n4
                                induction n4 using Nat.strongRecOn with
                                | ind n4 ih_n4 =>
                                  intro q cy x H locs ls hn hM hl hP hD hS
                                  have c1 := hM.2.2.2 (353 + q)
                                  have c2 := hM.1
                                  refine lv_iload hx hb d_M_divide_122 (lv_at hl 0 rfl) ?_
                                  refine lv_bipush (v := nI 17) hx hb d_M_divide_124 (by decide) ?_
                                  refine kn_ge (tgt := 176) hx hb (by omega) (by omega) d_M_divide_126 (by decide) (fun h126 => ?_) (fun h126 => ?_)
                                  · obtain rfl : q = 17 := by omega
                                    refine lv_aload_n hx hb d_M_divide_176 rfl (lv_at hl 3 rfl) ?_
                                    refine lv_iload_n hx hb d_M_divide_177 rfl (lv_at hl 4 rfl) ?_
                                    refine k_Vp (As := [.int (nI ta)]) (rest := []) ⟨hx, hb, hml, hown, hts⟩ (c_M_reaches l E mo mb mm mw mh ml len en gas ctr siz hgt frm ret on ay x hM.2.2.2 ta (by omega)) (k_cwV 1 hts t_902 t_904 t_42 t_71 t_905 (by decide +kernel) ⟨Nat.le_of_ble_eq_true rfl, Nat.le_of_ble_eq_true rfl⟩) hK hG hA hP hD hS [0, 1] rfl (by decide) 0 rfl rfl rfl hl.1 rfl (Nat.le_of_ble_eq_true rfl) d_M_divide_178 ⟨Nat.zero_le _, Nat.zero_le _⟩ (fun r178 hu178 => ?_)
                                    subst hu178
                                    refine lv_if_eq (tgt := 218) hx hb d_M_divide_181 (by decide) (fun h181 => ?_) (fun h181 => ?_)
                                    · refine lv_iinc (k := 2) (v := m1 k) (lv' := [(3, .int (m1 k)), (5, .int (nI 17)), (4, .int (nI cy)), (0, .ref mo), (1, .int (nI ta))]) hx hb d_M_divide_218 hl rfl (k_decm _) (by decide) rfl (fun ls hl => ?_)
                                      refine lv_goto (tgt := 93) hx hb d_M_divide_221 (by decide) ?_
                                      exact ih_n3 k (by omega) k x _ _ ls rfl (dv_a hg h1 hd0 hL hM (of_decide_eq_false (kb_0.mp h181))) (lv_sub hl [0, 3, 4] rfl) hP hD hS
                                    · refine lv_aload_n hx hb d_M_divide_184 rfl (lv_at hl 3 rfl) ?_
                                      refine lv_iload_n hx hb d_M_divide_185 rfl (lv_at hl 4 rfl) ?_
                                      have hle := of_decide_eq_true (kb_n0 h181)
                                      refine k_Vv (As := [.int (nI ta)]) (rest := []) ⟨hx, hb, hml, hown, hts⟩ (c_M_lessen l E mo mb mm mw mh ml len en gas ctr siz hgt frm ret on ay x hM.2.2.2 ta (by omega) hle) (k_cwV 1 hts t_906 t_908 t_43 t_71 t_909 (by decide +kernel) ⟨Nat.le_of_ble_eq_true rfl, Nat.le_of_ble_eq_true rfl⟩) hK hG hA hP hD hS [0, 1] rfl (by decide) 0 rfl rfl (fun _ => rfl) rfl hl.1 rfl (Nat.le_of_ble_eq_true rfl) d_M_divide_186 ⟨Nat.zero_le _, Nat.zero_le _⟩ (fun u H locs hU hP hD hS => ?_)
                                      have hP : va_P E.1 vwCl [(mo, .inr (8, [.int (nI len), .ref mb, .int (kb on), .int (nI en), .int (nI gas), .int (nI ctr), .int (nI siz), .int (nI hgt), .int (nI frm), .int (nI ret), .ref mm, .ref mw, .ref mh, .ref ml, .int (kb ay)])), (mw, .inl (E.2.1 0, 370, .inl (nF u)))] H := hP
                                      have hD : va_D A [(mo, .inr (8, [.int (nI len), .ref mb, .int (kb on), .int (nI en), .int (nI gas), .int (nI ctr), .int (nI siz), .int (nI hgt), .int (nI frm), .int (nI ret), .ref mm, .ref mw, .ref mh, .ref ml, .int (kb ay)])), (mw, .inl (E.2.1 0, 370, .inl (nF u)))] := hD
                                      have hV := dv_b0 hg h1 hd0 hL hM hle hU.1 hU.2.1
                                      have c3 := hU.2.2 (304 + k / 16)
                                      refine lv_iload_n hx hb d_M_divide_189 rfl (lv_at hl 2 rfl) ?_
                                      refine lv_sipush (v := nI 256) hx hb d_M_divide_190 (by decide) ?_
                                      refine kn_ge (tgt := 218) hx hb (by omega) (by omega) d_M_divide_193 (by decide) (fun h193 => ?_) (fun h193 => ?_)
                                      · refine lv_iinc (k := 2) (v := m1 k) (lv' := [(3, .int (m1 k)), (5, .int (nI 17)), (4, .int (nI cy)), (0, .ref mo), (1, .int (nI ta))]) hx hb d_M_divide_218 hl rfl (k_decm _) (by decide) rfl (fun ls hl => ?_)
                                        refine lv_goto (tgt := 93) hx hb d_M_divide_221 (by decide) ?_
                                        exact ih_n3 k (by omega) k u _ _ ls rfl (dv_b hU.2.2 hL (by omega) hV) (lv_sub hl [0, 3, 4] rfl) hP hD hS
                                      · refine lv_aload_n hx hb d_M_divide_196 rfl (lv_at hl 3 rfl) ?_
                                        refine va_get (D := E.1) (ci := 8) (v := .ref mw) (C := "WideStackModel") (T := T_M) (N := 15) hx hb hts in_M hown hK hP 0 rfl rfl 11 (by decide) (hts _ t_758) (fun _ h9 => h9) rfl d_M_divide_197 ?_
                                        refine lv_sipush (v := nI 304) hx hb d_M_divide_200 (by decide) ?_
                                        refine lv_iload_n hx hb d_M_divide_203 rfl (lv_at hl 2 rfl) ?_
                                        refine lv_bipush (v := nI 16) hx hb d_M_divide_204 (by decide) ?_
                                        refine lv_idiv hx hb d_M_divide_206 (by decide) ?_
                                        refine k_top (pk_div (by omega) (by decide) (by decide)) ?_
                                        refine lv_iadd hx hb d_M_divide_207 ?_
                                        refine k_top (nI_add _ _) ?_
                                        refine lv_dup2_11 hx hb d_M_divide_208 rfl rfl ?_
                                        refine k_ialdN hx hb hK hP 1 rfl (i := (304 + (k / 16))) (by omega) (by omega) d_M_divide_209 ?_
                                        refine lv_iconst (v := nI 1) hx hb d_M_divide_210 (by decide) ?_
                                        refine lv_iload_n hx hb d_M_divide_211 rfl (lv_at hl 2 rfl) ?_
                                        refine lv_bipush (v := nI 16) hx hb d_M_divide_212 (by decide) ?_
                                        refine lv_irem hx hb d_M_divide_214 (by decide) ?_
                                        refine k_top (pk_rem (by omega) (by decide) (by decide)) ?_
                                        refine lv_ishl hx hb d_M_divide_215 ?_
                                        refine k_top (k_shlN (by omega) (Nat.lt_trans (sh_lt (by decide) (Nat.mod_lt _ (by decide))) (by decide))) ?_
                                        refine lv_ior hx hb d_M_divide_216 ?_
                                        refine k_top (r_or (by omega) (Nat.lt_trans (sh_lt (by decide) (Nat.mod_lt _ (by decide))) (by decide))) ?_
                                        refine k_iastN hx hb hK hP hD hS 1 rfl (i := (304 + (k / 16))) (by omega) (by omega) d_M_divide_217 (fun H locs hP hD hS => ?_)
                                        have hP : va_P E.1 vwCl [(mo, .inr (8, [.int (nI len), .ref mb, .int (kb on), .int (nI en), .int (nI gas), .int (nI ctr), .int (nI siz), .int (nI hgt), .int (nI frm), .int (nI ret), .ref mm, .ref mw, .ref mh, .ref ml, .int (kb ay)])), (mw, .inl (E.2.1 0, 370, .inl (nF (va_up u (304 + (k / 16)) ((u (304 + (k / 16))) ||| (1 * 2 ^ (k % 16)))))))] H := hP
                                        have hD : va_D A [(mo, .inr (8, [.int (nI len), .ref mb, .int (kb on), .int (nI en), .int (nI gas), .int (nI ctr), .int (nI siz), .int (nI hgt), .int (nI frm), .int (nI ret), .ref mm, .ref mw, .ref mh, .ref ml, .int (kb ay)])), (mw, .inl (E.2.1 0, 370, .inl (nF (va_up u (304 + (k / 16)) ((u (304 + (k / 16))) ||| (1 * 2 ^ (k % 16)))))))] := hD
                                        refine lv_iinc (k := 2) (v := m1 k) (lv' := [(3, .int (m1 k)), (5, .int (nI 17)), (4, .int (nI cy)), (0, .ref mo), (1, .int (nI ta))]) hx hb d_M_divide_218 hl rfl (k_decm _) (by decide) rfl (fun ls hl => ?_)
                                        refine lv_goto (tgt := 93) hx hb d_M_divide_221 (by decide) ?_
                                        exact ih_n3 k (by omega) k (va_up u (304 + (k / 16)) ((u (304 + (k / 16))) ||| (1 * 2 ^ (k % 16)))) _ _ ls rfl (dv_c hU.2.2 hL (by omega) hV) (lv_sub hl [0, 3, 4] rfl) hP hD hS
                                  · refine lv_iconst (v := nI 2) hx hb d_M_divide_129 (by decide) ?_
                                    refine lv_aload_n hx hb d_M_divide_130 rfl (lv_at hl 3 rfl) ?_
                                    refine va_get (D := E.1) (ci := 8) (v := .ref mw) (C := "WideStackModel") (T := T_M) (N := 15) hx hb hts in_M hown hK hP 0 rfl rfl 11 (by decide) (hts _ t_758) (fun _ h9 => h9) rfl d_M_divide_131 ?_
                                    refine lv_sipush (v := nI 353) hx hb d_M_divide_134 (by decide) ?_
                                    refine lv_iload hx hb d_M_divide_137 (lv_at hl 0 rfl) ?_
                                    refine lv_iadd hx hb d_M_divide_139 ?_
                                    refine k_top (nI_add _ _) ?_
                                    refine k_ialdN hx hb hK hP 1 rfl (i := (353 + q)) (by omega) (by omega) d_M_divide_140 ?_
                                    refine lv_imul hx hb d_M_divide_141 ?_
                                    refine k_top (pk_mul _ _) ?_
                                    refine lv_iload hx hb d_M_divide_142 (lv_at hl 1 rfl) ?_
                                    refine lv_iadd hx hb d_M_divide_144 ?_
                                    refine k_top (nI_add _ _) ?_
                                    refine lv_istore (lv' := [(6, .int (nI ((2 * (x (353 + q))) + cy))), (5, .int (nI q)), (4, .int (nI cy)), (3, .int (nI k)), (0, .ref mo), (1, .int (nI ta))]) hx hb d_M_divide_145 hl (by decide) rfl (fun ls hl => ?_)
                                    refine lv_aload_n hx hb d_M_divide_147 rfl (lv_at hl 4 rfl) ?_
                                    refine va_get (D := E.1) (ci := 8) (v := .ref mw) (C := "WideStackModel") (T := T_M) (N := 15) hx hb hts in_M hown hK hP 0 rfl rfl 11 (by decide) (hts _ t_758) (fun _ h9 => h9) rfl d_M_divide_148 ?_
                                    refine lv_sipush (v := nI 353) hx hb d_M_divide_151 (by decide) ?_
                                    refine lv_iload hx hb d_M_divide_154 (lv_at hl 1 rfl) ?_
                                    refine lv_iadd hx hb d_M_divide_156 ?_
                                    refine k_top (nI_add _ _) ?_
                                    refine lv_iload hx hb d_M_divide_157 (lv_at hl 0 rfl) ?_
                                    refine lv_ldc (v := 65535) hx hb hown (hts _ t_827) d_M_divide_159 ?_
                                    refine k_top (y := nI 65535) (by decide) ?_
                                    refine lv_iand hx hb d_M_divide_161 ?_
                                    refine k_top (pk_andN (by omega) 16 (by decide)) ?_
                                    refine k_iastN hx hb hK hP hD hS 1 rfl (i := (353 + q)) (by omega) (by omega) d_M_divide_162 (fun H locs hP hD hS => ?_)
                                    have hP : va_P E.1 vwCl [(mo, .inr (8, [.int (nI len), .ref mb, .int (kb on), .int (nI en), .int (nI gas), .int (nI ctr), .int (nI siz), .int (nI hgt), .int (nI frm), .int (nI ret), .ref mm, .ref mw, .ref mh, .ref ml, .int (kb ay)])), (mw, .inl (E.2.1 0, 370, .inl (nF (va_up x (353 + q) (((2 * (x (353 + q))) + cy) % 65536)))))] H := hP
                                    have hD : va_D A [(mo, .inr (8, [.int (nI len), .ref mb, .int (kb on), .int (nI en), .int (nI gas), .int (nI ctr), .int (nI siz), .int (nI hgt), .int (nI frm), .int (nI ret), .ref mm, .ref mw, .ref mh, .ref ml, .int (kb ay)])), (mw, .inl (E.2.1 0, 370, .inl (nF (va_up x (353 + q) (((2 * (x (353 + q))) + cy) % 65536)))))] := hD
                                    refine lv_iload hx hb d_M_divide_163 (lv_at hl 0 rfl) ?_
                                    refine lv_bipush (v := nI 16) hx hb d_M_divide_165 (by decide) ?_
                                    refine lv_ishr hx hb d_M_divide_167 ?_
                                    refine k_top (pk_shrN (by omega) (nI 16 &&& 31) 16 (s_l _ (by decide))) ?_
                                    refine lv_istore (lv' := [(4, .int (nI (((2 * (x (353 + q))) + cy) / 65536))), (6, .int (nI ((2 * (x (353 + q))) + cy))), (5, .int (nI q)), (3, .int (nI k)), (0, .ref mo), (1, .int (nI ta))]) hx hb d_M_divide_168 hl (by decide) rfl (fun ls hl => ?_)
                                    refine lv_iinc (k := 2) (v := nI (q + 1)) (lv' := [(5, .int (nI (q + 1))), (4, .int (nI (((2 * (x (353 + q))) + cy) / 65536))), (6, .int (nI ((2 * (x (353 + q))) + cy))), (3, .int (nI k)), (0, .ref mo), (1, .int (nI ta))]) hx hb d_M_divide_170 hl rfl (k_inc _) (by decide) rfl (fun ls hl => ?_)
                                    refine lv_goto (tgt := 122) hx hb d_M_divide_173 (by decide) ?_
                                    exact ih_n4 (n4 - 1) (by omega) (q + 1) ((2 * x (353 + q) + cy) / 65536) (va_up x (353 + q) ((2 * x (353 + q) + cy) % 65536)) _ _ ls (by omega) (db_step hM) (lv_sub hl [0, 1, 3, 4, 5] rfl) hP hD hS
                              exact key122 17 0 (gv g 320 33 / 2 ^ k % 2) z _ _ ls (by omega) (db_0 hL.2.2.2.2 b3) (lv_sub hl [0, 1, 2, 3, 4] rfl) hP hD hS
                        exact key93 (16 * t + 15 + 1) (16 * t + 15 + 1) y _ _ ls rfl (dv_top (t := t + 1) hg hY (by omega) hT) (lv_sub hl [0, 2, 3] rfl) hP hD hS
                      · refine lv_iinc (k := 0) (v := m1 t) (lv' := [(2, .int (m1 t)), (0, .ref mo), (1, .int (nI ta))]) hx hb d_M_divide_79 hl rfl (k_decm _) (by decide) rfl (fun ls hl => ?_)
                        refine lv_goto (tgt := 62) hx hb d_M_divide_82 (by decide) ?_
                        exact ih_n2 t (by omega) t _ _ ls ⟨rfl, by omega⟩ (fun q q1 q2 => if w : q = t then by subst w; exact h76 else by exact hT q (by omega) q2) (lv_sub hl [0, 1, 2] rfl) hP hD hS
                exact key62 33 33 _ _ ls ⟨rfl, Nat.le_refl 33⟩ (fun q q1 q2 => by omega) (lv_sub hl [0, 1, 2] rfl) hP hD hS
              · have hd0 := of_decide_eq_true (kb_n0 h55)
                exact hret _ ls _ _ y d_M_divide_58 (dv_nil hd0 hY) hP hS
            · refine lv_aload_n hx hb d_M_divide_33 rfl (lv_at hl 1 rfl) ?_
              refine va_get (D := E.1) (ci := 8) (v := .ref mw) (C := "WideStackModel") (T := T_M) (N := 15) hx hb hts in_M hown hK hP 0 rfl rfl 11 (by decide) (hts _ t_758) (fun _ h9 => h9) rfl d_M_divide_34 ?_
              refine lv_sipush (v := nI 353) hx hb d_M_divide_37 (by decide) ?_
              refine lv_iload_n hx hb d_M_divide_40 rfl (lv_at hl 0 rfl) ?_
              refine lv_iadd hx hb d_M_divide_41 ?_
              refine k_top (nI_add _ _) ?_
              refine lv_iconst (v := nI 0) hx hb d_M_divide_42 (by decide) ?_
              refine k_iastN hx hb hK hP hD hS 1 rfl (i := (353 + j)) (by omega) (by omega) d_M_divide_43 (fun H locs hP hD hS => ?_)
              have hP : va_P E.1 vwCl [(mo, .inr (8, [.int (nI len), .ref mb, .int (kb on), .int (nI en), .int (nI gas), .int (nI ctr), .int (nI siz), .int (nI hgt), .int (nI frm), .int (nI ret), .ref mm, .ref mw, .ref mh, .ref ml, .int (kb ay)])), (mw, .inl (E.2.1 0, 370, .inl (nF (va_up y (353 + j) 0))))] H := hP
              have hD : va_D A [(mo, .inr (8, [.int (nI len), .ref mb, .int (kb on), .int (nI en), .int (nI gas), .int (nI ctr), .int (nI siz), .int (nI hgt), .int (nI frm), .int (nI ret), .ref mm, .ref mw, .ref mh, .ref ml, .int (kb ay)])), (mw, .inl (E.2.1 0, 370, .inl (nF (va_up y (353 + j) 0))))] := hD
              refine lv_iinc (k := 0) (v := nI (j + 1)) (lv' := [(2, .int (nI (j + 1))), (0, .ref mo), (1, .int (nI ta))]) hx hb d_M_divide_44 hl rfl (k_inc _) (by decide) rfl (fun ls hl => ?_)
              refine lv_goto (tgt := 27) hx hb d_M_divide_47 (by decide) ?_
              exact ih_n1 (n1 - 1) (by omega) (j + 1) (va_up y (353 + j) 0) _ _ ls (by omega) (zr_step hJ) (lv_sub hl [0, 1, 2] rfl) hP hD hS
        exact key27 17 0 z _ _ ls (by omega) (zr_0 hI.2.2) (lv_sub hl [0, 1, 2] rfl) hP hD hS
      · refine lv_aload_n hx hb d_M_divide_8 rfl (lv_at hl 1 rfl) ?_
        refine va_get (D := E.1) (ci := 8) (v := .ref mw) (C := "WideStackModel") (T := T_M) (N := 15) hx hb hts in_M hown hK hP 0 rfl rfl 11 (by decide) (hts _ t_758) (fun _ h9 => h9) rfl d_M_divide_9 ?_
        refine lv_sipush (v := nI 304) hx hb d_M_divide_12 (by decide) ?_
        refine lv_iload_n hx hb d_M_divide_15 rfl (lv_at hl 0 rfl) ?_
        refine lv_iadd hx hb d_M_divide_16 ?_
        refine k_top (nI_add _ _) ?_
        refine lv_iconst (v := nI 0) hx hb d_M_divide_17 (by decide) ?_
        refine k_iastN hx hb hK hP hD hS 1 rfl (i := (304 + i)) (by omega) (by omega) d_M_divide_18 (fun H locs hP hD hS => ?_)
        have hP : va_P E.1 vwCl [(mo, .inr (8, [.int (nI len), .ref mb, .int (kb on), .int (nI en), .int (nI gas), .int (nI ctr), .int (nI siz), .int (nI hgt), .int (nI frm), .int (nI ret), .ref mm, .ref mw, .ref mh, .ref ml, .int (kb ay)])), (mw, .inl (E.2.1 0, 370, .inl (nF (va_up z (304 + i) 0))))] H := hP
        have hD : va_D A [(mo, .inr (8, [.int (nI len), .ref mb, .int (kb on), .int (nI en), .int (nI gas), .int (nI ctr), .int (nI siz), .int (nI hgt), .int (nI frm), .int (nI ret), .ref mm, .ref mw, .ref mh, .ref ml, .int (kb ay)])), (mw, .inl (E.2.1 0, 370, .inl (nF (va_up z (304 + i) 0))))] := hD
        refine lv_iinc (k := 0) (v := nI (i + 1)) (lv' := [(2, .int (nI (i + 1))), (0, .ref mo), (1, .int (nI ta))]) hx hb d_M_divide_19 hl rfl (k_inc _) (by decide) rfl (fun ls hl => ?_)
        refine lv_goto (tgt := 2) hx hb d_M_divide_22 (by decide) ?_
        exact ih (n - 1) (by omega) (i + 1) (va_up z (304 + i) 0) _ _ ls (by omega) (zr_step hI) (lv_sub hl [0, 1, 2] rfl) hP hD hS
  exact key2 16 0 g _ _ ls (by omega) (zr_0 hg) (lv_sub hl [0, 1, 2] rfl) hP hD hS

theorem sd_f {B s f k : Nat} (h : ¬ k + s ≤ 255) : shD B s f k = decide (f = 1) := by unfold shD; rw [if_neg (by omega)]
theorem sd_b {B s f k : Nat} (h : k + s ≤ 255) : shD B s f k = decide (B / 2 ^ (k + s) % 2 = 1) := by unfold shD; rw [if_pos (by omega), tb_1]
theorem su_0 {B s k : Nat} (h : ¬ s ≤ k) : shU B s k = decide (0 = 1) := by unfold shU; rw [decide_eq_false h, Bool.false_and]; rfl
theorem su_b {B s k : Nat} (h : s ≤ k) : shU B s k = decide (B / 2 ^ (k - s) % 2 = 1) := by unfold shU; rw [decide_eq_true h, Bool.true_and, tb_1]

abbrev y_M_shift : MethodName := ⟨"WideStackModel", "shift", "(II)V"⟩
theorem d_M_shift_0 : decode prog_12_method_29_code 0 = .ok (.iconst 0, 1) := by decide +kernel
theorem d_M_shift_1 : decode prog_12_method_29_code 1 = .ok (.istore_n 3, 1) := by decide +kernel
theorem d_M_shift_2 : decode prog_12_method_29_code 2 = .ok (.iload_n 3, 1) := by decide +kernel
theorem d_M_shift_3 : decode prog_12_method_29_code 3 = .ok (.bipush 16, 2) := by decide +kernel
theorem d_M_shift_5 : decode prog_12_method_29_code 5 = .ok (.if_icmp .ge 20, 3) := by decide +kernel
theorem d_M_shift_8 : decode prog_12_method_29_code 8 = .ok (.aload_n 0, 1) := by decide +kernel
theorem d_M_shift_9 : decode prog_12_method_29_code 9 = .ok (.getfield 16, 3) := by decide +kernel
theorem d_M_shift_12 : decode prog_12_method_29_code 12 = .ok (.sipush 304, 3) := by decide +kernel
theorem d_M_shift_15 : decode prog_12_method_29_code 15 = .ok (.iload_n 3, 1) := by decide +kernel
theorem d_M_shift_16 : decode prog_12_method_29_code 16 = .ok (.iadd, 1) := by decide +kernel
theorem d_M_shift_17 : decode prog_12_method_29_code 17 = .ok (.iconst 0, 1) := by decide +kernel
theorem d_M_shift_18 : decode prog_12_method_29_code 18 = .ok (.iastore, 1) := by decide +kernel
theorem d_M_shift_19 : decode prog_12_method_29_code 19 = .ok (.iinc 3 1, 3) := by decide +kernel
theorem d_M_shift_22 : decode prog_12_method_29_code 22 = .ok (.goto (-20), 3) := by decide +kernel
theorem d_M_shift_25 : decode prog_12_method_29_code 25 = .ok (.iconst 0, 1) := by decide +kernel
theorem d_M_shift_26 : decode prog_12_method_29_code 26 = .ok (.istore_n 3, 1) := by decide +kernel
theorem d_M_shift_27 : decode prog_12_method_29_code 27 = .ok (.iload_n 3, 1) := by decide +kernel
theorem d_M_shift_28 : decode prog_12_method_29_code 28 = .ok (.sipush 256, 3) := by decide +kernel
theorem d_M_shift_31 : decode prog_12_method_29_code 31 = .ok (.if_icmp .ge 69, 3) := by decide +kernel
theorem d_M_shift_34 : decode prog_12_method_29_code 34 = .ok (.iload_n 3, 1) := by decide +kernel
theorem d_M_shift_35 : decode prog_12_method_29_code 35 = .ok (.iload_n 1, 1) := by decide +kernel
theorem d_M_shift_36 : decode prog_12_method_29_code 36 = .ok (.iadd, 1) := by decide +kernel
theorem d_M_shift_37 : decode prog_12_method_29_code 37 = .ok (.istore 4, 2) := by decide +kernel
theorem d_M_shift_39 : decode prog_12_method_29_code 39 = .ok (.iload 4, 2) := by decide +kernel
theorem d_M_shift_41 : decode prog_12_method_29_code 41 = .ok (.ifCond .ge 7, 3) := by decide +kernel
theorem d_M_shift_44 : decode prog_12_method_29_code 44 = .ok (.iconst 0, 1) := by decide +kernel
theorem d_M_shift_45 : decode prog_12_method_29_code 45 = .ok (.goto 24, 3) := by decide +kernel
theorem d_M_shift_48 : decode prog_12_method_29_code 48 = .ok (.iload 4, 2) := by decide +kernel
theorem d_M_shift_50 : decode prog_12_method_29_code 50 = .ok (.sipush 255, 3) := by decide +kernel
theorem d_M_shift_53 : decode prog_12_method_29_code 53 = .ok (.if_icmp .le 7, 3) := by decide +kernel
theorem d_M_shift_56 : decode prog_12_method_29_code 56 = .ok (.iload_n 2, 1) := by decide +kernel
theorem d_M_shift_57 : decode prog_12_method_29_code 57 = .ok (.goto 12, 3) := by decide +kernel
theorem d_M_shift_60 : decode prog_12_method_29_code 60 = .ok (.aload_n 0, 1) := by decide +kernel
theorem d_M_shift_61 : decode prog_12_method_29_code 61 = .ok (.sipush 272, 3) := by decide +kernel
theorem d_M_shift_64 : decode prog_12_method_29_code 64 = .ok (.iload 4, 2) := by decide +kernel
theorem d_M_shift_66 : decode prog_12_method_29_code 66 = .ok (.invokevirtual 85, 3) := by decide +kernel
theorem d_M_shift_69 : decode prog_12_method_29_code 69 = .ok (.istore 5, 2) := by decide +kernel
theorem d_M_shift_71 : decode prog_12_method_29_code 71 = .ok (.aload_n 0, 1) := by decide +kernel
theorem d_M_shift_72 : decode prog_12_method_29_code 72 = .ok (.getfield 16, 3) := by decide +kernel
theorem d_M_shift_75 : decode prog_12_method_29_code 75 = .ok (.sipush 304, 3) := by decide +kernel
theorem d_M_shift_78 : decode prog_12_method_29_code 78 = .ok (.iload_n 3, 1) := by decide +kernel
theorem d_M_shift_79 : decode prog_12_method_29_code 79 = .ok (.bipush 16, 2) := by decide +kernel
theorem d_M_shift_81 : decode prog_12_method_29_code 81 = .ok (.idiv, 1) := by decide +kernel
theorem d_M_shift_82 : decode prog_12_method_29_code 82 = .ok (.iadd, 1) := by decide +kernel
theorem d_M_shift_83 : decode prog_12_method_29_code 83 = .ok (.dup2, 1) := by decide +kernel
theorem d_M_shift_84 : decode prog_12_method_29_code 84 = .ok (.iaload, 1) := by decide +kernel
theorem d_M_shift_85 : decode prog_12_method_29_code 85 = .ok (.iload 5, 2) := by decide +kernel
theorem d_M_shift_87 : decode prog_12_method_29_code 87 = .ok (.iload_n 3, 1) := by decide +kernel
theorem d_M_shift_88 : decode prog_12_method_29_code 88 = .ok (.bipush 16, 2) := by decide +kernel
theorem d_M_shift_90 : decode prog_12_method_29_code 90 = .ok (.irem, 1) := by decide +kernel
theorem d_M_shift_91 : decode prog_12_method_29_code 91 = .ok (.ishl, 1) := by decide +kernel
theorem d_M_shift_92 : decode prog_12_method_29_code 92 = .ok (.ior, 1) := by decide +kernel
theorem d_M_shift_93 : decode prog_12_method_29_code 93 = .ok (.iastore, 1) := by decide +kernel
theorem d_M_shift_94 : decode prog_12_method_29_code 94 = .ok (.iinc 3 1, 3) := by decide +kernel
theorem d_M_shift_97 : decode prog_12_method_29_code 97 = .ok (.goto (-70), 3) := by decide +kernel
theorem d_M_shift_100 : decode prog_12_method_29_code 100 = .ok (.return_, 1) := by decide +kernel
def rm_c_M_shiftDown : Room := { frames := 1, cells := 0, slots := 0, locals := 22 }
set_option maxHeartbeats 4000000 in
set_option maxRecDepth 100000 in
theorem c_M_shiftDown (l : Launch) (E : kE) (mo mb mm mw mh ml len en gas ctr siz hgt frm ret : Nat) (on ay : Bool) (g : Nat → Nat) (hg : ∀ j, g j < 65536) (sa fi : Nat) (h1 : sa ≤ 256) (h2 : fi < 2) : Kv l y_M_shift (kW y_M_shift prog_12_method_29_code 6 (none)) rm_c_M_shiftDown E [.ref mo, .int (nI sa), .int (nI fi)] [(mo, .inr (8, [.int (nI len), .ref mb, .int (kb on), .int (nI en), .int (nI gas), .int (nI ctr), .int (nI siz), .int (nI hgt), .int (nI frm), .int (nI ret), .ref mm, .ref mw, .ref mh, .ref ml, .int (kb ay)])), (mw, .inl (E.2.1 0, 370, .inl (nF g)))] (S := Nat → Nat) (fun u => shI g u (shD (gv g 272 16) sa fi) 256) (fun u => [(mo, .inr (8, [.int (nI len), .ref mb, .int (kb on), .int (nI en), .int (nI gas), .int (nI ctr), .int (nI siz), .int (nI hgt), .int (nI frm), .int (nI ret), .ref mm, .ref mw, .ref mh, .ref ml, .int (kb ay)])), (mw, .inl (E.2.1 0, 370, .inl (nF u)))]) := by
  refine Kv.ofW (cc := prog_12_method_29_code) (maxL := 6) (by decide) (Nat.le_of_ble_eq_true rfl) ?_
  intro p e s m args below meth c A ls Q hx hb hts hown hml hK hG hA hP hD hS hl hret
  have hl : lv_has ls 6 [(0, .ref mo), (1, .int (nI sa)), (2, .int (nI fi))] := hl
  refine lv_iconst (v := nI 0) hx hb d_M_shift_0 (by decide) ?_
  refine lv_istore_n (lv' := [(3, .int (nI 0)), (0, .ref mo), (1, .int (nI sa)), (2, .int (nI fi))]) hx hb d_M_shift_1 rfl hl (by decide) rfl (fun ls hl => ?_)
  have key2 : ∀ (n : Nat) (i : Nat) (z : Nat → Nat) (H : Heap) (locs : List Loc) (ls : Array Slot), i + n = 16 → (zrI g z 304 i) → lv_has ls 6 [(3, .int (nI i)), (0, .ref mo), (1, .int (nI sa)), (2, .int (nI fi))] → va_P E.1 vwCl [(mo, .inr (8, [.int (nI len), .ref mb, .int (kb on), .int (nI en), .int (nI gas), .int (nI ctr), .int (nI siz), .int (nI hgt), .int (nI frm), .int (nI ret), .ref mm, .ref mw, .ref mh, .ref ml, .int (kb ay)])), (mw, .inl (E.2.1 0, 370, .inl (nF z)))] H → va_D A [(mo, .inr (8, [.int (nI len), .ref mb, .int (kb on), .int (nI en), .int (nI gas), .int (nI ctr), .int (nI siz), .int (nI hgt), .int (nI frm), .int (nI ret), .ref mm, .ref mw, .ref mh, .ref ml, .int (kb ay)])), (mw, .inl (E.2.1 0, 370, .inl (nF z)))] → va_S A s.heap H locs → W p l e rm_c_M_shiftDown s m args below meth c H locs 0 0 Q (F0 m 2 ls []) := by
    intro n
    induction n using Nat.strongRecOn with
    | ind n ih =>
      intro i z H locs ls hn hI hl hP hD hS
      refine lv_iload_n hx hb d_M_shift_2 rfl (lv_at hl 0 rfl) ?_
      refine lv_bipush (v := nI 16) hx hb d_M_shift_3 (by decide) ?_
      refine kn_ge (tgt := 25) hx hb (by omega) (by omega) d_M_shift_5 (by decide) (fun h5 => ?_) (fun h5 => ?_)
      · refine lv_iconst (v := nI 0) hx hb d_M_shift_25 (by decide) ?_
        refine lv_istore_n (lv' := [(3, .int (nI 0)), (0, .ref mo), (1, .int (nI sa)), (2, .int (nI fi))]) hx hb d_M_shift_26 rfl hl (by decide) rfl (fun ls hl => ?_)
        have key27 : ∀ (n1 : Nat) (k : Nat) (y : Nat → Nat) (H : Heap) (locs : List Loc) (ls : Array Slot), k + n1 = 256 → (shI g y (shD (gv g 272 16) sa fi) k) → lv_has ls 6 [(3, .int (nI k)), (0, .ref mo), (1, .int (nI sa)), (2, .int (nI fi))] → va_P E.1 vwCl [(mo, .inr (8, [.int (nI len), .ref mb, .int (kb on), .int (nI en), .int (nI gas), .int (nI ctr), .int (nI siz), .int (nI hgt), .int (nI frm), .int (nI ret), .ref mm, .ref mw, .ref mh, .ref ml, .int (kb ay)])), (mw, .inl (E.2.1 0, 370, .inl (nF y)))] H → va_D A [(mo, .inr (8, [.int (nI len), .ref mb, .int (kb on), .int (nI en), .int (nI gas), .int (nI ctr), .int (nI siz), .int (nI hgt), .int (nI frm), .int (nI ret), .ref mm, .ref mw, .ref mh, .ref ml, .int (kb ay)])), (mw, .inl (E.2.1 0, 370, .inl (nF y)))] → va_S A s.heap H locs → W p l e rm_c_M_shiftDown s m args below meth c H locs 0 0 Q (F0 m 27 ls []) := by
          intro n1
          induction n1 using Nat.strongRecOn with
          | ind n1 ih_n1 =>
            intro k y H locs ls hn hJ hl hP hD hS
            have b1 := hJ.2.1 (304 + k / 16)
            refine lv_iload_n hx hb d_M_shift_27 rfl (lv_at hl 0 rfl) ?_
            refine lv_sipush (v := nI 256) hx hb d_M_shift_28 (by decide) ?_
            refine kn_ge (tgt := 100) hx hb (by omega) (by omega) d_M_shift_31 (by decide) (fun h31 => ?_) (fun h31 => ?_)
            · obtain rfl : k = 256 := by omega
              exact hret _ ls _ _ y d_M_shift_100 hJ hP hS
            · refine lv_iload_n hx hb d_M_shift_34 rfl (lv_at hl 0 rfl) ?_
              refine lv_iload_n hx hb d_M_shift_35 rfl (lv_at hl 2 rfl) ?_
              refine lv_iadd hx hb d_M_shift_36 ?_
              refine k_top (nI_add _ _) ?_
              refine lv_istore (lv' := [(4, .int (nI (k + sa))), (3, .int (nI k)), (0, .ref mo), (1, .int (nI sa)), (2, .int (nI fi))]) hx hb d_M_shift_37 hl (by decide) rfl (fun ls hl => ?_)
              refine lv_iload hx hb d_M_shift_39 (lv_at hl 0 rfl) ?_
              refine kn_ifge (tgt := 48) hx hb (by omega) d_M_shift_41 (by decide) ?_
              refine lv_iload hx hb d_M_shift_48 (lv_at hl 0 rfl) ?_
              refine lv_sipush (v := nI 255) hx hb d_M_shift_50 (by decide) ?_
              refine kn_le (tgt := 60) hx hb (by omega) (by omega) d_M_shift_53 (by decide) (fun h53 => ?_) (fun h53 => ?_)
              · refine lv_aload_n hx hb d_M_shift_60 rfl (lv_at hl 2 rfl) ?_
                refine lv_sipush (v := nI 272) hx hb d_M_shift_61 (by decide) ?_
                refine lv_iload hx hb d_M_shift_64 (lv_at hl 0 rfl) ?_
                refine k_Vp (As := [.int (nI 272), .int (nI (k + sa))]) (rest := []) ⟨hx, hb, hml, hown, hts⟩ (c_M_bit l E mo mb mm mw mh ml len en gas ctr siz hgt frm ret on ay y hJ.2.1 272 (k + sa) (by decide) (by omega)) (k_cwV 2 hts t_914 t_916 t_45 t_71 t_917 (by decide +kernel) ⟨Nat.le_of_ble_eq_true rfl, Nat.le_of_ble_eq_true rfl⟩) hK hG hA hP hD hS [0, 1] rfl (by decide) 0 rfl rfl rfl hl.1 rfl (Nat.le_of_ble_eq_true rfl) d_M_shift_66 ⟨Nat.zero_le _, Nat.zero_le _⟩ (fun r66 hu66 => ?_)
                have hu66 := hu66.trans (congrArg nI (sh_v hJ.1))
                subst hu66
                have b3 : (gv g 272 16 / 2 ^ (k + sa) % 2) < 2 := (Nat.mod_lt _ (by decide))
                refine lv_istore (lv' := [(5, .int (nI (gv g 272 16 / 2 ^ (k + sa) % 2))), (4, .int (nI (k + sa))), (3, .int (nI k)), (0, .ref mo), (1, .int (nI sa)), (2, .int (nI fi))]) hx hb d_M_shift_69 hl (by decide) rfl (fun ls hl => ?_)
                refine lv_aload_n hx hb d_M_shift_71 rfl (lv_at hl 3 rfl) ?_
                refine va_get (D := E.1) (ci := 8) (v := .ref mw) (C := "WideStackModel") (T := T_M) (N := 15) hx hb hts in_M hown hK hP 0 rfl rfl 11 (by decide) (hts _ t_758) (fun _ h9 => h9) rfl d_M_shift_72 ?_
                refine lv_sipush (v := nI 304) hx hb d_M_shift_75 (by decide) ?_
                refine lv_iload_n hx hb d_M_shift_78 rfl (lv_at hl 2 rfl) ?_
                refine lv_bipush (v := nI 16) hx hb d_M_shift_79 (by decide) ?_
                refine lv_idiv hx hb d_M_shift_81 (by decide) ?_
                refine k_top (pk_div (by omega) (by decide) (by decide)) ?_
                refine lv_iadd hx hb d_M_shift_82 ?_
                refine k_top (nI_add _ _) ?_
                refine lv_dup2_11 hx hb d_M_shift_83 rfl rfl ?_
                refine k_ialdN hx hb hK hP 1 rfl (i := (304 + (k / 16))) (by omega) (by omega) d_M_shift_84 ?_
                refine lv_iload hx hb d_M_shift_85 (lv_at hl 0 rfl) ?_
                refine lv_iload_n hx hb d_M_shift_87 rfl (lv_at hl 2 rfl) ?_
                refine lv_bipush (v := nI 16) hx hb d_M_shift_88 (by decide) ?_
                refine lv_irem hx hb d_M_shift_90 (by decide) ?_
                refine k_top (pk_rem (by omega) (by decide) (by decide)) ?_
                refine lv_ishl hx hb d_M_shift_91 ?_
                refine k_top (k_shlN (by omega) (Nat.lt_trans (sh_lt b3 (Nat.mod_lt _ (by decide))) (by decide))) ?_
                refine lv_ior hx hb d_M_shift_92 ?_
                refine k_top (r_or (by omega) (Nat.lt_trans (sh_lt b3 (Nat.mod_lt _ (by decide))) (by decide))) ?_
                refine k_iastN hx hb hK hP hD hS 1 rfl (i := (304 + (k / 16))) (by omega) (by omega) d_M_shift_93 (fun H locs hP hD hS => ?_)
                have hP : va_P E.1 vwCl [(mo, .inr (8, [.int (nI len), .ref mb, .int (kb on), .int (nI en), .int (nI gas), .int (nI ctr), .int (nI siz), .int (nI hgt), .int (nI frm), .int (nI ret), .ref mm, .ref mw, .ref mh, .ref ml, .int (kb ay)])), (mw, .inl (E.2.1 0, 370, .inl (nF (va_up y (304 + (k / 16)) ((y (304 + (k / 16))) ||| ((gv g 272 16 / 2 ^ (k + sa) % 2) * 2 ^ (k % 16)))))))] H := hP
                have hD : va_D A [(mo, .inr (8, [.int (nI len), .ref mb, .int (kb on), .int (nI en), .int (nI gas), .int (nI ctr), .int (nI siz), .int (nI hgt), .int (nI frm), .int (nI ret), .ref mm, .ref mw, .ref mh, .ref ml, .int (kb ay)])), (mw, .inl (E.2.1 0, 370, .inl (nF (va_up y (304 + (k / 16)) ((y (304 + (k / 16))) ||| ((gv g 272 16 / 2 ^ (k + sa) % 2) * 2 ^ (k % 16)))))))] := hD
                refine lv_iinc (k := 2) (v := nI (k + 1)) (lv' := [(3, .int (nI (k + 1))), (5, .int (nI (gv g 272 16 / 2 ^ (k + sa) % 2))), (4, .int (nI (k + sa))), (0, .ref mo), (1, .int (nI sa)), (2, .int (nI fi))]) hx hb d_M_shift_94 hl rfl (k_inc _) (by decide) rfl (fun ls hl => ?_)
                refine lv_goto (tgt := 27) hx hb d_M_shift_97 (by decide) ?_
                exact ih_n1 (n1 - 1) (by omega) (k + 1) (va_up y (304 + (k / 16)) ((y (304 + (k / 16))) ||| ((gv g 272 16 / 2 ^ (k + sa) % 2) * 2 ^ (k % 16)))) _ _ ls (by omega) (sh_step hJ (by omega) (Nat.mod_lt _ (by decide)) (sd_b (by omega))) (lv_sub hl [0, 3, 4, 5] rfl) hP hD hS
              · refine lv_iload_n hx hb d_M_shift_56 rfl (lv_at hl 4 rfl) ?_
                refine lv_goto (tgt := 69) hx hb d_M_shift_57 (by decide) ?_
                have b3 : fi < 2 := h2
                refine lv_istore (lv' := [(5, .int (nI fi)), (4, .int (nI (k + sa))), (3, .int (nI k)), (0, .ref mo), (1, .int (nI sa)), (2, .int (nI fi))]) hx hb d_M_shift_69 hl (by decide) rfl (fun ls hl => ?_)
                refine lv_aload_n hx hb d_M_shift_71 rfl (lv_at hl 3 rfl) ?_
                refine va_get (D := E.1) (ci := 8) (v := .ref mw) (C := "WideStackModel") (T := T_M) (N := 15) hx hb hts in_M hown hK hP 0 rfl rfl 11 (by decide) (hts _ t_758) (fun _ h9 => h9) rfl d_M_shift_72 ?_
                refine lv_sipush (v := nI 304) hx hb d_M_shift_75 (by decide) ?_
                refine lv_iload_n hx hb d_M_shift_78 rfl (lv_at hl 2 rfl) ?_
                refine lv_bipush (v := nI 16) hx hb d_M_shift_79 (by decide) ?_
                refine lv_idiv hx hb d_M_shift_81 (by decide) ?_
                refine k_top (pk_div (by omega) (by decide) (by decide)) ?_
                refine lv_iadd hx hb d_M_shift_82 ?_
                refine k_top (nI_add _ _) ?_
                refine lv_dup2_11 hx hb d_M_shift_83 rfl rfl ?_
                refine k_ialdN hx hb hK hP 1 rfl (i := (304 + (k / 16))) (by omega) (by omega) d_M_shift_84 ?_
                refine lv_iload hx hb d_M_shift_85 (lv_at hl 0 rfl) ?_
                refine lv_iload_n hx hb d_M_shift_87 rfl (lv_at hl 2 rfl) ?_
                refine lv_bipush (v := nI 16) hx hb d_M_shift_88 (by decide) ?_
                refine lv_irem hx hb d_M_shift_90 (by decide) ?_
                refine k_top (pk_rem (by omega) (by decide) (by decide)) ?_
                refine lv_ishl hx hb d_M_shift_91 ?_
                refine k_top (k_shlN (by omega) (Nat.lt_trans (sh_lt b3 (Nat.mod_lt _ (by decide))) (by decide))) ?_
                refine lv_ior hx hb d_M_shift_92 ?_
                refine k_top (r_or (by omega) (Nat.lt_trans (sh_lt b3 (Nat.mod_lt _ (by decide))) (by decide))) ?_
                refine k_iastN hx hb hK hP hD hS 1 rfl (i := (304 + (k / 16))) (by omega) (by omega) d_M_shift_93 (fun H locs hP hD hS => ?_)
                have hP : va_P E.1 vwCl [(mo, .inr (8, [.int (nI len), .ref mb, .int (kb on), .int (nI en), .int (nI gas), .int (nI ctr), .int (nI siz), .int (nI hgt), .int (nI frm), .int (nI ret), .ref mm, .ref mw, .ref mh, .ref ml, .int (kb ay)])), (mw, .inl (E.2.1 0, 370, .inl (nF (va_up y (304 + (k / 16)) ((y (304 + (k / 16))) ||| (fi * 2 ^ (k % 16)))))))] H := hP
                have hD : va_D A [(mo, .inr (8, [.int (nI len), .ref mb, .int (kb on), .int (nI en), .int (nI gas), .int (nI ctr), .int (nI siz), .int (nI hgt), .int (nI frm), .int (nI ret), .ref mm, .ref mw, .ref mh, .ref ml, .int (kb ay)])), (mw, .inl (E.2.1 0, 370, .inl (nF (va_up y (304 + (k / 16)) ((y (304 + (k / 16))) ||| (fi * 2 ^ (k % 16)))))))] := hD
                refine lv_iinc (k := 2) (v := nI (k + 1)) (lv' := [(3, .int (nI (k + 1))), (5, .int (nI fi)), (4, .int (nI (k + sa))), (0, .ref mo), (1, .int (nI sa)), (2, .int (nI fi))]) hx hb d_M_shift_94 hl rfl (k_inc _) (by decide) rfl (fun ls hl => ?_)
                refine lv_goto (tgt := 27) hx hb d_M_shift_97 (by decide) ?_
                exact ih_n1 (n1 - 1) (by omega) (k + 1) (va_up y (304 + (k / 16)) ((y (304 + (k / 16))) ||| (fi * 2 ^ (k % 16)))) _ _ ls (by omega) (sh_step hJ (by omega) h2 (sd_f (by omega))) (lv_sub hl [0, 3, 4, 5] rfl) hP hD hS
        exact key27 256 0 z _ _ ls (by omega) (by (obtain rfl : i = 16 := by omega); exact sh_0 hI) (lv_sub hl [0, 1, 2, 3] rfl) hP hD hS
      · refine lv_aload_n hx hb d_M_shift_8 rfl (lv_at hl 1 rfl) ?_
        refine va_get (D := E.1) (ci := 8) (v := .ref mw) (C := "WideStackModel") (T := T_M) (N := 15) hx hb hts in_M hown hK hP 0 rfl rfl 11 (by decide) (hts _ t_758) (fun _ h9 => h9) rfl d_M_shift_9 ?_
        refine lv_sipush (v := nI 304) hx hb d_M_shift_12 (by decide) ?_
        refine lv_iload_n hx hb d_M_shift_15 rfl (lv_at hl 0 rfl) ?_
        refine lv_iadd hx hb d_M_shift_16 ?_
        refine k_top (nI_add _ _) ?_
        refine lv_iconst (v := nI 0) hx hb d_M_shift_17 (by decide) ?_
        refine k_iastN hx hb hK hP hD hS 1 rfl (i := (304 + i)) (by omega) (by omega) d_M_shift_18 (fun H locs hP hD hS => ?_)
        have hP : va_P E.1 vwCl [(mo, .inr (8, [.int (nI len), .ref mb, .int (kb on), .int (nI en), .int (nI gas), .int (nI ctr), .int (nI siz), .int (nI hgt), .int (nI frm), .int (nI ret), .ref mm, .ref mw, .ref mh, .ref ml, .int (kb ay)])), (mw, .inl (E.2.1 0, 370, .inl (nF (va_up z (304 + i) 0))))] H := hP
        have hD : va_D A [(mo, .inr (8, [.int (nI len), .ref mb, .int (kb on), .int (nI en), .int (nI gas), .int (nI ctr), .int (nI siz), .int (nI hgt), .int (nI frm), .int (nI ret), .ref mm, .ref mw, .ref mh, .ref ml, .int (kb ay)])), (mw, .inl (E.2.1 0, 370, .inl (nF (va_up z (304 + i) 0))))] := hD
        refine lv_iinc (k := 0) (v := nI (i + 1)) (lv' := [(3, .int (nI (i + 1))), (0, .ref mo), (1, .int (nI sa)), (2, .int (nI fi))]) hx hb d_M_shift_19 hl rfl (k_inc _) (by decide) rfl (fun ls hl => ?_)
        refine lv_goto (tgt := 2) hx hb d_M_shift_22 (by decide) ?_
        exact ih (n - 1) (by omega) (i + 1) (va_up z (304 + i) 0) _ _ ls (by omega) (zr_step hI) (lv_sub hl [0, 1, 2, 3] rfl) hP hD hS
  exact key2 16 0 g _ _ ls (by omega) (zr_0 hg) (lv_sub hl [0, 1, 2, 3] rfl) hP hD hS

def rm_c_M_shiftUp : Room := { frames := 1, cells := 0, slots := 0, locals := 22 }
set_option maxHeartbeats 4000000 in
set_option maxRecDepth 100000 in
theorem c_M_shiftUp (l : Launch) (E : kE) (mo mb mm mw mh ml len en gas ctr siz hgt frm ret : Nat) (on ay : Bool) (g : Nat → Nat) (hg : ∀ j, g j < 65536) (sa fi : Nat) (h1 : sa ≤ 256) (h2 : fi < 2) : Kv l y_M_shift (kW y_M_shift prog_12_method_29_code 6 (none)) rm_c_M_shiftUp E [.ref mo, .int (-(nI sa)), .int (nI fi)] [(mo, .inr (8, [.int (nI len), .ref mb, .int (kb on), .int (nI en), .int (nI gas), .int (nI ctr), .int (nI siz), .int (nI hgt), .int (nI frm), .int (nI ret), .ref mm, .ref mw, .ref mh, .ref ml, .int (kb ay)])), (mw, .inl (E.2.1 0, 370, .inl (nF g)))] (S := Nat → Nat) (fun u => shI g u (shU (gv g 272 16) sa) 256) (fun u => [(mo, .inr (8, [.int (nI len), .ref mb, .int (kb on), .int (nI en), .int (nI gas), .int (nI ctr), .int (nI siz), .int (nI hgt), .int (nI frm), .int (nI ret), .ref mm, .ref mw, .ref mh, .ref ml, .int (kb ay)])), (mw, .inl (E.2.1 0, 370, .inl (nF u)))]) := by
  refine Kv.ofW (cc := prog_12_method_29_code) (maxL := 6) (by decide) (Nat.le_of_ble_eq_true rfl) ?_
  intro p e s m args below meth c A ls Q hx hb hts hown hml hK hG hA hP hD hS hl hret
  have hl : lv_has ls 6 [(0, .ref mo), (1, .int (-(nI sa))), (2, .int (nI fi))] := hl
  refine lv_iconst (v := nI 0) hx hb d_M_shift_0 (by decide) ?_
  refine lv_istore_n (lv' := [(3, .int (nI 0)), (0, .ref mo), (1, .int (-(nI sa))), (2, .int (nI fi))]) hx hb d_M_shift_1 rfl hl (by decide) rfl (fun ls hl => ?_)
  have key2 : ∀ (n : Nat) (i : Nat) (z : Nat → Nat) (H : Heap) (locs : List Loc) (ls : Array Slot), i + n = 16 → (zrI g z 304 i) → lv_has ls 6 [(3, .int (nI i)), (0, .ref mo), (1, .int (-(nI sa))), (2, .int (nI fi))] → va_P E.1 vwCl [(mo, .inr (8, [.int (nI len), .ref mb, .int (kb on), .int (nI en), .int (nI gas), .int (nI ctr), .int (nI siz), .int (nI hgt), .int (nI frm), .int (nI ret), .ref mm, .ref mw, .ref mh, .ref ml, .int (kb ay)])), (mw, .inl (E.2.1 0, 370, .inl (nF z)))] H → va_D A [(mo, .inr (8, [.int (nI len), .ref mb, .int (kb on), .int (nI en), .int (nI gas), .int (nI ctr), .int (nI siz), .int (nI hgt), .int (nI frm), .int (nI ret), .ref mm, .ref mw, .ref mh, .ref ml, .int (kb ay)])), (mw, .inl (E.2.1 0, 370, .inl (nF z)))] → va_S A s.heap H locs → W p l e rm_c_M_shiftUp s m args below meth c H locs 0 0 Q (F0 m 2 ls []) := by
    intro n
    induction n using Nat.strongRecOn with
    | ind n ih =>
      intro i z H locs ls hn hI hl hP hD hS
      refine lv_iload_n hx hb d_M_shift_2 rfl (lv_at hl 0 rfl) ?_
      refine lv_bipush (v := nI 16) hx hb d_M_shift_3 (by decide) ?_
      refine kn_ge (tgt := 25) hx hb (by omega) (by omega) d_M_shift_5 (by decide) (fun h5 => ?_) (fun h5 => ?_)
      · refine lv_iconst (v := nI 0) hx hb d_M_shift_25 (by decide) ?_
        refine lv_istore_n (lv' := [(3, .int (nI 0)), (0, .ref mo), (1, .int (-(nI sa))), (2, .int (nI fi))]) hx hb d_M_shift_26 rfl hl (by decide) rfl (fun ls hl => ?_)
        have key27 : ∀ (n1 : Nat) (k : Nat) (y : Nat → Nat) (H : Heap) (locs : List Loc) (ls : Array Slot), k + n1 = 256 → (shI g y (shU (gv g 272 16) sa) k) → lv_has ls 6 [(3, .int (nI k)), (0, .ref mo), (1, .int (-(nI sa))), (2, .int (nI fi))] → va_P E.1 vwCl [(mo, .inr (8, [.int (nI len), .ref mb, .int (kb on), .int (nI en), .int (nI gas), .int (nI ctr), .int (nI siz), .int (nI hgt), .int (nI frm), .int (nI ret), .ref mm, .ref mw, .ref mh, .ref ml, .int (kb ay)])), (mw, .inl (E.2.1 0, 370, .inl (nF y)))] H → va_D A [(mo, .inr (8, [.int (nI len), .ref mb, .int (kb on), .int (nI en), .int (nI gas), .int (nI ctr), .int (nI siz), .int (nI hgt), .int (nI frm), .int (nI ret), .ref mm, .ref mw, .ref mh, .ref ml, .int (kb ay)])), (mw, .inl (E.2.1 0, 370, .inl (nF y)))] → va_S A s.heap H locs → W p l e rm_c_M_shiftUp s m args below meth c H locs 0 0 Q (F0 m 27 ls []) := by
          intro n1
          induction n1 using Nat.strongRecOn with
          | ind n1 ih_n1 =>
            intro k y H locs ls hn hJ hl hP hD hS
            have b1 := hJ.2.1 (304 + k / 16)
            refine lv_iload_n hx hb d_M_shift_27 rfl (lv_at hl 0 rfl) ?_
            refine lv_sipush (v := nI 256) hx hb d_M_shift_28 (by decide) ?_
            refine kn_ge (tgt := 100) hx hb (by omega) (by omega) d_M_shift_31 (by decide) (fun h31 => ?_) (fun h31 => ?_)
            · obtain rfl : k = 256 := by omega
              exact hret _ ls _ _ y d_M_shift_100 hJ hP hS
            · refine lv_iload_n hx hb d_M_shift_34 rfl (lv_at hl 0 rfl) ?_
              refine lv_iload_n hx hb d_M_shift_35 rfl (lv_at hl 2 rfl) ?_
              by_cases hq : sa ≤ k
              · skip
                refine lv_iadd hx hb d_M_shift_36 ?_
                refine k_top (nsub_neg hq) ?_
                refine lv_istore (lv' := [(4, .int (nI (k - sa))), (3, .int (nI k)), (0, .ref mo), (1, .int (-(nI sa))), (2, .int (nI fi))]) hx hb d_M_shift_37 hl (by decide) rfl (fun ls hl => ?_)
                refine lv_iload hx hb d_M_shift_39 (lv_at hl 0 rfl) ?_
                refine kn_ifge (tgt := 48) hx hb (by omega) d_M_shift_41 (by decide) ?_
                refine lv_iload hx hb d_M_shift_48 (lv_at hl 0 rfl) ?_
                refine lv_sipush (v := nI 255) hx hb d_M_shift_50 (by decide) ?_
                refine kn_le (tgt := 60) hx hb (by omega) (by omega) d_M_shift_53 (by decide) (fun h53 => ?_) (fun h53 => ?_)
                · refine lv_aload_n hx hb d_M_shift_60 rfl (lv_at hl 2 rfl) ?_
                  refine lv_sipush (v := nI 272) hx hb d_M_shift_61 (by decide) ?_
                  refine lv_iload hx hb d_M_shift_64 (lv_at hl 0 rfl) ?_
                  refine k_Vp (As := [.int (nI 272), .int (nI (k - sa))]) (rest := []) ⟨hx, hb, hml, hown, hts⟩ (c_M_bit l E mo mb mm mw mh ml len en gas ctr siz hgt frm ret on ay y hJ.2.1 272 (k - sa) (by decide) (by omega)) (k_cwV 2 hts t_914 t_916 t_45 t_71 t_917 (by decide +kernel) ⟨Nat.le_of_ble_eq_true rfl, Nat.le_of_ble_eq_true rfl⟩) hK hG hA hP hD hS [0, 1] rfl (by decide) 0 rfl rfl rfl hl.1 rfl (Nat.le_of_ble_eq_true rfl) d_M_shift_66 ⟨Nat.zero_le _, Nat.zero_le _⟩ (fun r66 hu66 => ?_)
                  have hu66 := hu66.trans (congrArg nI (sh_v hJ.1))
                  subst hu66
                  have b3 : (gv g 272 16 / 2 ^ (k - sa) % 2) < 2 := (Nat.mod_lt _ (by decide))
                  refine lv_istore (lv' := [(5, .int (nI (gv g 272 16 / 2 ^ (k - sa) % 2))), (4, .int (nI (k - sa))), (3, .int (nI k)), (0, .ref mo), (1, .int (-(nI sa))), (2, .int (nI fi))]) hx hb d_M_shift_69 hl (by decide) rfl (fun ls hl => ?_)
                  refine lv_aload_n hx hb d_M_shift_71 rfl (lv_at hl 3 rfl) ?_
                  refine va_get (D := E.1) (ci := 8) (v := .ref mw) (C := "WideStackModel") (T := T_M) (N := 15) hx hb hts in_M hown hK hP 0 rfl rfl 11 (by decide) (hts _ t_758) (fun _ h9 => h9) rfl d_M_shift_72 ?_
                  refine lv_sipush (v := nI 304) hx hb d_M_shift_75 (by decide) ?_
                  refine lv_iload_n hx hb d_M_shift_78 rfl (lv_at hl 2 rfl) ?_
                  refine lv_bipush (v := nI 16) hx hb d_M_shift_79 (by decide) ?_
                  refine lv_idiv hx hb d_M_shift_81 (by decide) ?_
                  refine k_top (pk_div (by omega) (by decide) (by decide)) ?_
                  refine lv_iadd hx hb d_M_shift_82 ?_
                  refine k_top (nI_add _ _) ?_
                  refine lv_dup2_11 hx hb d_M_shift_83 rfl rfl ?_
                  refine k_ialdN hx hb hK hP 1 rfl (i := (304 + (k / 16))) (by omega) (by omega) d_M_shift_84 ?_
                  refine lv_iload hx hb d_M_shift_85 (lv_at hl 0 rfl) ?_
                  refine lv_iload_n hx hb d_M_shift_87 rfl (lv_at hl 2 rfl) ?_
                  refine lv_bipush (v := nI 16) hx hb d_M_shift_88 (by decide) ?_
                  refine lv_irem hx hb d_M_shift_90 (by decide) ?_
                  refine k_top (pk_rem (by omega) (by decide) (by decide)) ?_
                  refine lv_ishl hx hb d_M_shift_91 ?_
                  refine k_top (k_shlN (by omega) (Nat.lt_trans (sh_lt b3 (Nat.mod_lt _ (by decide))) (by decide))) ?_
                  refine lv_ior hx hb d_M_shift_92 ?_
                  refine k_top (r_or (by omega) (Nat.lt_trans (sh_lt b3 (Nat.mod_lt _ (by decide))) (by decide))) ?_
                  refine k_iastN hx hb hK hP hD hS 1 rfl (i := (304 + (k / 16))) (by omega) (by omega) d_M_shift_93 (fun H locs hP hD hS => ?_)
                  have hP : va_P E.1 vwCl [(mo, .inr (8, [.int (nI len), .ref mb, .int (kb on), .int (nI en), .int (nI gas), .int (nI ctr), .int (nI siz), .int (nI hgt), .int (nI frm), .int (nI ret), .ref mm, .ref mw, .ref mh, .ref ml, .int (kb ay)])), (mw, .inl (E.2.1 0, 370, .inl (nF (va_up y (304 + (k / 16)) ((y (304 + (k / 16))) ||| ((gv g 272 16 / 2 ^ (k - sa) % 2) * 2 ^ (k % 16)))))))] H := hP
                  have hD : va_D A [(mo, .inr (8, [.int (nI len), .ref mb, .int (kb on), .int (nI en), .int (nI gas), .int (nI ctr), .int (nI siz), .int (nI hgt), .int (nI frm), .int (nI ret), .ref mm, .ref mw, .ref mh, .ref ml, .int (kb ay)])), (mw, .inl (E.2.1 0, 370, .inl (nF (va_up y (304 + (k / 16)) ((y (304 + (k / 16))) ||| ((gv g 272 16 / 2 ^ (k - sa) % 2) * 2 ^ (k % 16)))))))] := hD
                  refine lv_iinc (k := 2) (v := nI (k + 1)) (lv' := [(3, .int (nI (k + 1))), (5, .int (nI (gv g 272 16 / 2 ^ (k - sa) % 2))), (4, .int (nI (k - sa))), (0, .ref mo), (1, .int (-(nI sa))), (2, .int (nI fi))]) hx hb d_M_shift_94 hl rfl (k_inc _) (by decide) rfl (fun ls hl => ?_)
                  refine lv_goto (tgt := 27) hx hb d_M_shift_97 (by decide) ?_
                  exact ih_n1 (n1 - 1) (by omega) (k + 1) (va_up y (304 + (k / 16)) ((y (304 + (k / 16))) ||| ((gv g 272 16 / 2 ^ (k - sa) % 2) * 2 ^ (k % 16)))) _ _ ls (by omega) (sh_step hJ (by omega) (Nat.mod_lt _ (by decide)) (su_b hq)) (lv_sub hl [0, 3, 4, 5] rfl) hP hD hS
                · omega
              · skip
                refine lv_iadd hx hb d_M_shift_36 ?_
                refine lv_istore (lv' := [(4, .int ((nI k) + (-(nI sa)))), (3, .int (nI k)), (0, .ref mo), (1, .int (-(nI sa))), (2, .int (nI fi))]) hx hb d_M_shift_37 hl (by decide) rfl (fun ls hl => ?_)
                refine lv_iload hx hb d_M_shift_39 (lv_at hl 0 rfl) ?_
                refine lv_if_ge (tgt := 48) hx hb d_M_shift_41 (by decide) (fun h41 => ?_) (fun h41 => ?_)
                · exact absurd (nsub_neg2 (by omega) (by omega)) (Int32.not_lt.mpr h41)
                · refine lv_iconst (v := nI 0) hx hb d_M_shift_44 (by decide) ?_
                  refine lv_goto (tgt := 69) hx hb d_M_shift_45 (by decide) ?_
                  have b3 : 0 < 2 := (by decide)
                  refine lv_istore (lv' := [(5, .int (nI 0)), (4, .int ((nI k) + (-(nI sa)))), (3, .int (nI k)), (0, .ref mo), (1, .int (-(nI sa))), (2, .int (nI fi))]) hx hb d_M_shift_69 hl (by decide) rfl (fun ls hl => ?_)
                  refine lv_aload_n hx hb d_M_shift_71 rfl (lv_at hl 3 rfl) ?_
                  refine va_get (D := E.1) (ci := 8) (v := .ref mw) (C := "WideStackModel") (T := T_M) (N := 15) hx hb hts in_M hown hK hP 0 rfl rfl 11 (by decide) (hts _ t_758) (fun _ h9 => h9) rfl d_M_shift_72 ?_
                  refine lv_sipush (v := nI 304) hx hb d_M_shift_75 (by decide) ?_
                  refine lv_iload_n hx hb d_M_shift_78 rfl (lv_at hl 2 rfl) ?_
                  refine lv_bipush (v := nI 16) hx hb d_M_shift_79 (by decide) ?_
                  refine lv_idiv hx hb d_M_shift_81 (by decide) ?_
                  refine k_top (pk_div (by omega) (by decide) (by decide)) ?_
                  refine lv_iadd hx hb d_M_shift_82 ?_
                  refine k_top (nI_add _ _) ?_
                  refine lv_dup2_11 hx hb d_M_shift_83 rfl rfl ?_
                  refine k_ialdN hx hb hK hP 1 rfl (i := (304 + (k / 16))) (by omega) (by omega) d_M_shift_84 ?_
                  refine lv_iload hx hb d_M_shift_85 (lv_at hl 0 rfl) ?_
                  refine lv_iload_n hx hb d_M_shift_87 rfl (lv_at hl 2 rfl) ?_
                  refine lv_bipush (v := nI 16) hx hb d_M_shift_88 (by decide) ?_
                  refine lv_irem hx hb d_M_shift_90 (by decide) ?_
                  refine k_top (pk_rem (by omega) (by decide) (by decide)) ?_
                  refine lv_ishl hx hb d_M_shift_91 ?_
                  refine k_top (k_shlN (by omega) (Nat.lt_trans (sh_lt b3 (Nat.mod_lt _ (by decide))) (by decide))) ?_
                  refine lv_ior hx hb d_M_shift_92 ?_
                  refine k_top (r_or (by omega) (Nat.lt_trans (sh_lt b3 (Nat.mod_lt _ (by decide))) (by decide))) ?_
                  refine k_iastN hx hb hK hP hD hS 1 rfl (i := (304 + (k / 16))) (by omega) (by omega) d_M_shift_93 (fun H locs hP hD hS => ?_)
                  have hP : va_P E.1 vwCl [(mo, .inr (8, [.int (nI len), .ref mb, .int (kb on), .int (nI en), .int (nI gas), .int (nI ctr), .int (nI siz), .int (nI hgt), .int (nI frm), .int (nI ret), .ref mm, .ref mw, .ref mh, .ref ml, .int (kb ay)])), (mw, .inl (E.2.1 0, 370, .inl (nF (va_up y (304 + (k / 16)) ((y (304 + (k / 16))) ||| (0 * 2 ^ (k % 16)))))))] H := hP
                  have hD : va_D A [(mo, .inr (8, [.int (nI len), .ref mb, .int (kb on), .int (nI en), .int (nI gas), .int (nI ctr), .int (nI siz), .int (nI hgt), .int (nI frm), .int (nI ret), .ref mm, .ref mw, .ref mh, .ref ml, .int (kb ay)])), (mw, .inl (E.2.1 0, 370, .inl (nF (va_up y (304 + (k / 16)) ((y (304 + (k / 16))) ||| (0 * 2 ^ (k % 16)))))))] := hD
                  refine lv_iinc (k := 2) (v := nI (k + 1)) (lv' := [(3, .int (nI (k + 1))), (5, .int (nI 0)), (4, .int ((nI k) + (-(nI sa)))), (0, .ref mo), (1, .int (-(nI sa))), (2, .int (nI fi))]) hx hb d_M_shift_94 hl rfl (k_inc _) (by decide) rfl (fun ls hl => ?_)
                  refine lv_goto (tgt := 27) hx hb d_M_shift_97 (by decide) ?_
                  exact ih_n1 (n1 - 1) (by omega) (k + 1) (va_up y (304 + (k / 16)) ((y (304 + (k / 16))) ||| (0 * 2 ^ (k % 16)))) _ _ ls (by omega) (sh_step hJ (by omega) (by decide) (su_0 hq)) (lv_sub hl [0, 3, 4, 5] rfl) hP hD hS
        exact key27 256 0 z _ _ ls (by omega) (by (obtain rfl : i = 16 := by omega); exact sh_0 hI) (lv_sub hl [0, 1, 2, 3] rfl) hP hD hS
      · refine lv_aload_n hx hb d_M_shift_8 rfl (lv_at hl 1 rfl) ?_
        refine va_get (D := E.1) (ci := 8) (v := .ref mw) (C := "WideStackModel") (T := T_M) (N := 15) hx hb hts in_M hown hK hP 0 rfl rfl 11 (by decide) (hts _ t_758) (fun _ h9 => h9) rfl d_M_shift_9 ?_
        refine lv_sipush (v := nI 304) hx hb d_M_shift_12 (by decide) ?_
        refine lv_iload_n hx hb d_M_shift_15 rfl (lv_at hl 0 rfl) ?_
        refine lv_iadd hx hb d_M_shift_16 ?_
        refine k_top (nI_add _ _) ?_
        refine lv_iconst (v := nI 0) hx hb d_M_shift_17 (by decide) ?_
        refine k_iastN hx hb hK hP hD hS 1 rfl (i := (304 + i)) (by omega) (by omega) d_M_shift_18 (fun H locs hP hD hS => ?_)
        have hP : va_P E.1 vwCl [(mo, .inr (8, [.int (nI len), .ref mb, .int (kb on), .int (nI en), .int (nI gas), .int (nI ctr), .int (nI siz), .int (nI hgt), .int (nI frm), .int (nI ret), .ref mm, .ref mw, .ref mh, .ref ml, .int (kb ay)])), (mw, .inl (E.2.1 0, 370, .inl (nF (va_up z (304 + i) 0))))] H := hP
        have hD : va_D A [(mo, .inr (8, [.int (nI len), .ref mb, .int (kb on), .int (nI en), .int (nI gas), .int (nI ctr), .int (nI siz), .int (nI hgt), .int (nI frm), .int (nI ret), .ref mm, .ref mw, .ref mh, .ref ml, .int (kb ay)])), (mw, .inl (E.2.1 0, 370, .inl (nF (va_up z (304 + i) 0))))] := hD
        refine lv_iinc (k := 0) (v := nI (i + 1)) (lv' := [(3, .int (nI (i + 1))), (0, .ref mo), (1, .int (-(nI sa))), (2, .int (nI fi))]) hx hb d_M_shift_19 hl rfl (k_inc _) (by decide) rfl (fun ls hl => ?_)
        refine lv_goto (tgt := 2) hx hb d_M_shift_22 (by decide) ?_
        exact ih (n - 1) (by omega) (i + 1) (va_up z (304 + i) 0) _ _ ls (by omega) (zr_step hI) (lv_sub hl [0, 1, 2, 3] rfl) hP hD hS
  exact key2 16 0 g _ _ ls (by omega) (zr_0 hg) (lv_sub hl [0, 1, 2, 3] rfl) hP hD hS

abbrev y_M_extend : MethodName := ⟨"WideStackModel", "extend", "()V"⟩
theorem d_M_extend_0 : decode prog_12_method_30_code 0 = .ok (.aload_n 0, 1) := by decide +kernel
theorem d_M_extend_1 : decode prog_12_method_30_code 1 = .ok (.sipush 304, 3) := by decide +kernel
theorem d_M_extend_4 : decode prog_12_method_30_code 4 = .ok (.sipush 272, 3) := by decide +kernel
theorem d_M_extend_7 : decode prog_12_method_30_code 7 = .ok (.invokevirtual 81, 3) := by decide +kernel
theorem d_M_extend_10 : decode prog_12_method_30_code 10 = .ok (.aload_n 0, 1) := by decide +kernel
theorem d_M_extend_11 : decode prog_12_method_30_code 11 = .ok (.sipush 256, 3) := by decide +kernel
theorem d_M_extend_14 : decode prog_12_method_30_code 14 = .ok (.invokevirtual 88, 3) := by decide +kernel
theorem d_M_extend_17 : decode prog_12_method_30_code 17 = .ok (.istore_n 1, 1) := by decide +kernel
theorem d_M_extend_18 : decode prog_12_method_30_code 18 = .ok (.iload_n 1, 1) := by decide +kernel
theorem d_M_extend_19 : decode prog_12_method_30_code 19 = .ok (.bipush 30, 2) := by decide +kernel
theorem d_M_extend_21 : decode prog_12_method_30_code 21 = .ok (.if_icmp .le 4, 3) := by decide +kernel
theorem d_M_extend_24 : decode prog_12_method_30_code 24 = .ok (.return_, 1) := by decide +kernel
theorem d_M_extend_25 : decode prog_12_method_30_code 25 = .ok (.aload_n 0, 1) := by decide +kernel
theorem d_M_extend_26 : decode prog_12_method_30_code 26 = .ok (.sipush 272, 3) := by decide +kernel
theorem d_M_extend_29 : decode prog_12_method_30_code 29 = .ok (.bipush 8, 2) := by decide +kernel
theorem d_M_extend_31 : decode prog_12_method_30_code 31 = .ok (.iload_n 1, 1) := by decide +kernel
theorem d_M_extend_32 : decode prog_12_method_30_code 32 = .ok (.imul, 1) := by decide +kernel
theorem d_M_extend_33 : decode prog_12_method_30_code 33 = .ok (.bipush 7, 2) := by decide +kernel
theorem d_M_extend_35 : decode prog_12_method_30_code 35 = .ok (.iadd, 1) := by decide +kernel
theorem d_M_extend_36 : decode prog_12_method_30_code 36 = .ok (.invokevirtual 85, 3) := by decide +kernel
theorem d_M_extend_39 : decode prog_12_method_30_code 39 = .ok (.istore_n 2, 1) := by decide +kernel
theorem d_M_extend_40 : decode prog_12_method_30_code 40 = .ok (.bipush 8, 2) := by decide +kernel
theorem d_M_extend_42 : decode prog_12_method_30_code 42 = .ok (.iload_n 1, 1) := by decide +kernel
theorem d_M_extend_43 : decode prog_12_method_30_code 43 = .ok (.imul, 1) := by decide +kernel
theorem d_M_extend_44 : decode prog_12_method_30_code 44 = .ok (.bipush 8, 2) := by decide +kernel
theorem d_M_extend_46 : decode prog_12_method_30_code 46 = .ok (.iadd, 1) := by decide +kernel
theorem d_M_extend_47 : decode prog_12_method_30_code 47 = .ok (.istore_n 3, 1) := by decide +kernel
theorem d_M_extend_48 : decode prog_12_method_30_code 48 = .ok (.iload_n 3, 1) := by decide +kernel
theorem d_M_extend_49 : decode prog_12_method_30_code 49 = .ok (.sipush 256, 3) := by decide +kernel
theorem d_M_extend_52 : decode prog_12_method_30_code 52 = .ok (.if_icmp .ge 51, 3) := by decide +kernel
theorem d_M_extend_55 : decode prog_12_method_30_code 55 = .ok (.aload_n 0, 1) := by decide +kernel
theorem d_M_extend_56 : decode prog_12_method_30_code 56 = .ok (.getfield 16, 3) := by decide +kernel
theorem d_M_extend_59 : decode prog_12_method_30_code 59 = .ok (.sipush 304, 3) := by decide +kernel
theorem d_M_extend_62 : decode prog_12_method_30_code 62 = .ok (.iload_n 3, 1) := by decide +kernel
theorem d_M_extend_63 : decode prog_12_method_30_code 63 = .ok (.bipush 16, 2) := by decide +kernel
theorem d_M_extend_65 : decode prog_12_method_30_code 65 = .ok (.idiv, 1) := by decide +kernel
theorem d_M_extend_66 : decode prog_12_method_30_code 66 = .ok (.iadd, 1) := by decide +kernel
theorem d_M_extend_67 : decode prog_12_method_30_code 67 = .ok (.aload_n 0, 1) := by decide +kernel
theorem d_M_extend_68 : decode prog_12_method_30_code 68 = .ok (.getfield 16, 3) := by decide +kernel
theorem d_M_extend_71 : decode prog_12_method_30_code 71 = .ok (.sipush 304, 3) := by decide +kernel
theorem d_M_extend_74 : decode prog_12_method_30_code 74 = .ok (.iload_n 3, 1) := by decide +kernel
theorem d_M_extend_75 : decode prog_12_method_30_code 75 = .ok (.bipush 16, 2) := by decide +kernel
theorem d_M_extend_77 : decode prog_12_method_30_code 77 = .ok (.idiv, 1) := by decide +kernel
theorem d_M_extend_78 : decode prog_12_method_30_code 78 = .ok (.iadd, 1) := by decide +kernel
theorem d_M_extend_79 : decode prog_12_method_30_code 79 = .ok (.iaload, 1) := by decide +kernel
theorem d_M_extend_80 : decode prog_12_method_30_code 80 = .ok (.iconst 1, 1) := by decide +kernel
theorem d_M_extend_81 : decode prog_12_method_30_code 81 = .ok (.iload_n 3, 1) := by decide +kernel
theorem d_M_extend_82 : decode prog_12_method_30_code 82 = .ok (.bipush 16, 2) := by decide +kernel
theorem d_M_extend_84 : decode prog_12_method_30_code 84 = .ok (.irem, 1) := by decide +kernel
theorem d_M_extend_85 : decode prog_12_method_30_code 85 = .ok (.ishl, 1) := by decide +kernel
theorem d_M_extend_86 : decode prog_12_method_30_code 86 = .ok (.iconst (-1), 1) := by decide +kernel
theorem d_M_extend_87 : decode prog_12_method_30_code 87 = .ok (.ixor, 1) := by decide +kernel
theorem d_M_extend_88 : decode prog_12_method_30_code 88 = .ok (.iand, 1) := by decide +kernel
theorem d_M_extend_89 : decode prog_12_method_30_code 89 = .ok (.iload_n 2, 1) := by decide +kernel
theorem d_M_extend_90 : decode prog_12_method_30_code 90 = .ok (.iload_n 3, 1) := by decide +kernel
theorem d_M_extend_91 : decode prog_12_method_30_code 91 = .ok (.bipush 16, 2) := by decide +kernel
theorem d_M_extend_93 : decode prog_12_method_30_code 93 = .ok (.irem, 1) := by decide +kernel
theorem d_M_extend_94 : decode prog_12_method_30_code 94 = .ok (.ishl, 1) := by decide +kernel
theorem d_M_extend_95 : decode prog_12_method_30_code 95 = .ok (.ior, 1) := by decide +kernel
theorem d_M_extend_96 : decode prog_12_method_30_code 96 = .ok (.iastore, 1) := by decide +kernel
theorem d_M_extend_97 : decode prog_12_method_30_code 97 = .ok (.iinc 3 1, 3) := by decide +kernel
theorem d_M_extend_100 : decode prog_12_method_30_code 100 = .ok (.goto (-52), 3) := by decide +kernel
theorem d_M_extend_103 : decode prog_12_method_30_code 103 = .ok (.return_, 1) := by decide +kernel
def rm_c_M_extend : Room := { frames := 1, cells := 0, slots := 0, locals := 23 }
set_option maxHeartbeats 4000000 in
set_option maxRecDepth 100000 in
theorem c_M_extend (l : Launch) (E : kE) (mo mb mm mw mh ml len en gas ctr siz hgt frm ret : Nat) (on ay : Bool) (g : Nat → Nat) (hg : ∀ j, g j < 65536) : Kv l y_M_extend (kW y_M_extend prog_12_method_30_code 4 (none)) rm_c_M_extend E [.ref mo] [(mo, .inr (8, [.int (nI len), .ref mb, .int (kb on), .int (nI en), .int (nI gas), .int (nI ctr), .int (nI siz), .int (nI hgt), .int (nI frm), .int (nI ret), .ref mm, .ref mw, .ref mh, .ref ml, .int (kb ay)])), (mw, .inl (E.2.1 0, 370, .inl (nF g)))] (S := Nat → Nat) (fun u => gv u 304 16 = m_sext (gv g 256 16) (gv g 272 16) ∧ fr1 g u 304 16 ∧ ∀ j, u j < 65536) (fun u => [(mo, .inr (8, [.int (nI len), .ref mb, .int (kb on), .int (nI en), .int (nI gas), .int (nI ctr), .int (nI siz), .int (nI hgt), .int (nI frm), .int (nI ret), .ref mm, .ref mw, .ref mh, .ref ml, .int (kb ay)])), (mw, .inl (E.2.1 0, 370, .inl (nF u)))]) := by
  refine Kv.ofW (cc := prog_12_method_30_code) (maxL := 4) (by decide) (Nat.le_of_ble_eq_true rfl) ?_
  intro p e s m args below meth c A ls Q hx hb hts hown hml hK hG hA hP hD hS hl hret
  have hl : lv_has ls 4 [(0, .ref mo)] := hl
  refine lv_aload_n hx hb d_M_extend_0 rfl (lv_at hl 0 rfl) ?_
  refine lv_sipush (v := nI 304) hx hb d_M_extend_1 (by decide) ?_
  refine lv_sipush (v := nI 272) hx hb d_M_extend_4 (by decide) ?_
  refine k_Vv (As := [.int (nI 304), .int (nI 272)]) (rest := []) ⟨hx, hb, hml, hown, hts⟩ (c_M_copy l E mo mb mm mw mh ml len en gas ctr siz hgt frm ret on ay g hg 304 272 (by decide) (by decide) (by decide)) (k_cwV 2 hts t_873 t_875 t_35 t_71 t_876 (by decide +kernel) ⟨Nat.le_of_ble_eq_true rfl, Nat.le_of_ble_eq_true rfl⟩) hK hG hA hP hD hS [0, 1] rfl (by decide) 0 rfl rfl (fun _ => rfl) rfl hl.1 rfl (Nat.le_of_ble_eq_true rfl) d_M_extend_7 ⟨Nat.zero_le _, Nat.zero_le _⟩ (fun u0 H locs hu0 hP hD hS => ?_)
  have hP : va_P E.1 vwCl [(mo, .inr (8, [.int (nI len), .ref mb, .int (kb on), .int (nI en), .int (nI gas), .int (nI ctr), .int (nI siz), .int (nI hgt), .int (nI frm), .int (nI ret), .ref mm, .ref mw, .ref mh, .ref ml, .int (kb ay)])), (mw, .inl (E.2.1 0, 370, .inl (nF (cpy g 304 272))))] H := hP
  have hD : va_D A [(mo, .inr (8, [.int (nI len), .ref mb, .int (kb on), .int (nI en), .int (nI gas), .int (nI ctr), .int (nI siz), .int (nI hgt), .int (nI frm), .int (nI ret), .ref mm, .ref mw, .ref mh, .ref ml, .int (kb ay)])), (mw, .inl (E.2.1 0, 370, .inl (nF (cpy g 304 272))))] := hD
  refine lv_aload_n hx hb d_M_extend_10 rfl (lv_at hl 0 rfl) ?_
  refine lv_sipush (v := nI 256) hx hb d_M_extend_11 (by decide) ?_
  refine k_Vp (As := [.int (nI 256)]) (rest := []) ⟨hx, hb, hml, hown, hts⟩ (c_M_small l E mo mb mm mw mh ml len en gas ctr siz hgt frm ret on ay (cpy g 304 272) (cpy_16 hg) 256 (by decide)) (k_cwV 1 hts t_857 t_859 t_32 t_71 t_860 (by decide +kernel) ⟨Nat.le_of_ble_eq_true rfl, Nat.le_of_ble_eq_true rfl⟩) hK hG hA hP hD hS [0, 1] rfl (by decide) 0 rfl rfl rfl hl.1 rfl (Nat.le_of_ble_eq_true rfl) d_M_extend_14 ⟨Nat.zero_le _, Nat.zero_le _⟩ (fun r14 hu14 => ?_)
  have hu14 := hu14.trans (by rw [gv_cpy_out (by decide)])
  subst hu14
  refine lv_istore_n (lv' := [(1, .int (nI (min (gv g 256 16) 65535))), (0, .ref mo)]) hx hb d_M_extend_17 rfl hl (by decide) rfl (fun ls hl => ?_)
  refine lv_iload_n hx hb d_M_extend_18 rfl (lv_at hl 0 rfl) ?_
  refine lv_bipush (v := nI 30) hx hb d_M_extend_19 (by decide) ?_
  refine kn_le (tgt := 25) hx hb (by omega) (by omega) d_M_extend_21 (by decide) (fun h21 => ?_) (fun h21 => ?_)
  · refine lv_aload_n hx hb d_M_extend_25 rfl (lv_at hl 1 rfl) ?_
    refine lv_sipush (v := nI 272) hx hb d_M_extend_26 (by decide) ?_
    refine lv_bipush (v := nI 8) hx hb d_M_extend_29 (by decide) ?_
    refine lv_iload_n hx hb d_M_extend_31 rfl (lv_at hl 0 rfl) ?_
    refine lv_imul hx hb d_M_extend_32 ?_
    refine k_top (pk_mul _ _) ?_
    refine lv_bipush (v := nI 7) hx hb d_M_extend_33 (by decide) ?_
    refine lv_iadd hx hb d_M_extend_35 ?_
    refine k_top (nI_add _ _) ?_
    have b3 : gv g 272 16 / 2 ^ (8 * min (gv g 256 16) 65535 + 7) % 2 < 2 := Nat.mod_lt _ (by decide)
    refine k_Vp (As := [.int (nI 272), .int (nI ((8 * (min (gv g 256 16) 65535)) + 7))]) (rest := []) ⟨hx, hb, hml, hown, hts⟩ (c_M_bit l E mo mb mm mw mh ml len en gas ctr siz hgt frm ret on ay (cpy g 304 272) (cpy_16 hg) 272 (8 * min (gv g 256 16) 65535 + 7) (by decide) (by omega)) (k_cwV 2 hts t_914 t_916 t_45 t_71 t_917 (by decide +kernel) ⟨Nat.le_of_ble_eq_true rfl, Nat.le_of_ble_eq_true rfl⟩) hK hG hA hP hD hS [0, 1] rfl (by decide) 0 rfl rfl rfl hl.1 rfl (Nat.le_of_ble_eq_true rfl) d_M_extend_36 ⟨Nat.zero_le _, Nat.zero_le _⟩ (fun r36 hu36 => ?_)
    have hu36 := hu36.trans (by rw [gv_cpy_out (by decide)])
    subst hu36
    refine lv_istore_n (lv' := [(2, .int (nI (gv g 272 16 / 2 ^ (8 * min (gv g 256 16) 65535 + 7) % 2))), (1, .int (nI (min (gv g 256 16) 65535))), (0, .ref mo)]) hx hb d_M_extend_39 rfl hl (by decide) rfl (fun ls hl => ?_)
    refine lv_bipush (v := nI 8) hx hb d_M_extend_40 (by decide) ?_
    refine lv_iload_n hx hb d_M_extend_42 rfl (lv_at hl 1 rfl) ?_
    refine lv_imul hx hb d_M_extend_43 ?_
    refine k_top (pk_mul _ _) ?_
    refine lv_bipush (v := nI 8) hx hb d_M_extend_44 (by decide) ?_
    refine lv_iadd hx hb d_M_extend_46 ?_
    refine k_top (nI_add _ _) ?_
    refine lv_istore_n (lv' := [(3, .int (nI ((8 * (min (gv g 256 16) 65535)) + 8))), (2, .int (nI (gv g 272 16 / 2 ^ (8 * min (gv g 256 16) 65535 + 7) % 2))), (1, .int (nI (min (gv g 256 16) 65535))), (0, .ref mo)]) hx hb d_M_extend_47 rfl hl (by decide) rfl (fun ls hl => ?_)
    have key48 : ∀ (n : Nat) (k : Nat) (z : Nat → Nat) (H : Heap) (locs : List Loc) (ls : Array Slot), k + n = 256 → (exI g z (gv g 272 16) (8 * min (gv g 256 16) 65535 + 8) (gv g 272 16 / 2 ^ (8 * min (gv g 256 16) 65535 + 7) % 2) k) → lv_has ls 4 [(3, .int (nI k)), (2, .int (nI (gv g 272 16 / 2 ^ (8 * min (gv g 256 16) 65535 + 7) % 2))), (0, .ref mo)] → va_P E.1 vwCl [(mo, .inr (8, [.int (nI len), .ref mb, .int (kb on), .int (nI en), .int (nI gas), .int (nI ctr), .int (nI siz), .int (nI hgt), .int (nI frm), .int (nI ret), .ref mm, .ref mw, .ref mh, .ref ml, .int (kb ay)])), (mw, .inl (E.2.1 0, 370, .inl (nF z)))] H → va_D A [(mo, .inr (8, [.int (nI len), .ref mb, .int (kb on), .int (nI en), .int (nI gas), .int (nI ctr), .int (nI siz), .int (nI hgt), .int (nI frm), .int (nI ret), .ref mm, .ref mw, .ref mh, .ref ml, .int (kb ay)])), (mw, .inl (E.2.1 0, 370, .inl (nF z)))] → va_S A s.heap H locs → W p l e rm_c_M_extend s m args below meth c H locs 0 0 Q (F0 m 48 ls []) := by
      intro n
      induction n using Nat.strongRecOn with
      | ind n ih =>
        intro k z H locs ls hn hI hl hP hD hS
        have b1 := hI.2.2.2.1 (304 + k / 16)
        refine lv_iload_n hx hb d_M_extend_48 rfl (lv_at hl 0 rfl) ?_
        refine lv_sipush (v := nI 256) hx hb d_M_extend_49 (by decide) ?_
        refine kn_ge (tgt := 103) hx hb (by omega) (by omega) d_M_extend_52 (by decide) (fun h52 => ?_) (fun h52 => ?_)
        · obtain rfl : k = 256 := by omega
          exact hret _ ls _ _ z d_M_extend_103 ⟨by have e := ex_fin (by omega) (gv_lt16 hg 272) rfl hI; rw [e]; congr 1; omega, hI.2.2.1, hI.2.2.2.1⟩ hP hS
        · refine lv_aload_n hx hb d_M_extend_55 rfl (lv_at hl 2 rfl) ?_
          refine va_get (D := E.1) (ci := 8) (v := .ref mw) (C := "WideStackModel") (T := T_M) (N := 15) hx hb hts in_M hown hK hP 0 rfl rfl 11 (by decide) (hts _ t_758) (fun _ h9 => h9) rfl d_M_extend_56 ?_
          refine lv_sipush (v := nI 304) hx hb d_M_extend_59 (by decide) ?_
          refine lv_iload_n hx hb d_M_extend_62 rfl (lv_at hl 0 rfl) ?_
          refine lv_bipush (v := nI 16) hx hb d_M_extend_63 (by decide) ?_
          refine lv_idiv hx hb d_M_extend_65 (by decide) ?_
          refine k_top (pk_div (by omega) (by decide) (by decide)) ?_
          refine lv_iadd hx hb d_M_extend_66 ?_
          refine k_top (nI_add _ _) ?_
          refine lv_aload_n hx hb d_M_extend_67 rfl (lv_at hl 2 rfl) ?_
          refine va_get (D := E.1) (ci := 8) (v := .ref mw) (C := "WideStackModel") (T := T_M) (N := 15) hx hb hts in_M hown hK hP 0 rfl rfl 11 (by decide) (hts _ t_758) (fun _ h9 => h9) rfl d_M_extend_68 ?_
          refine lv_sipush (v := nI 304) hx hb d_M_extend_71 (by decide) ?_
          refine lv_iload_n hx hb d_M_extend_74 rfl (lv_at hl 0 rfl) ?_
          refine lv_bipush (v := nI 16) hx hb d_M_extend_75 (by decide) ?_
          refine lv_idiv hx hb d_M_extend_77 (by decide) ?_
          refine k_top (pk_div (by omega) (by decide) (by decide)) ?_
          refine lv_iadd hx hb d_M_extend_78 ?_
          refine k_top (nI_add _ _) ?_
          refine k_ialdN hx hb hK hP 1 rfl (i := (304 + (k / 16))) (by omega) (by omega) d_M_extend_79 ?_
          refine lv_iconst (v := nI 1) hx hb d_M_extend_80 (by decide) ?_
          refine lv_iload_n hx hb d_M_extend_81 rfl (lv_at hl 0 rfl) ?_
          refine lv_bipush (v := nI 16) hx hb d_M_extend_82 (by decide) ?_
          refine lv_irem hx hb d_M_extend_84 (by decide) ?_
          refine k_top (pk_rem (by omega) (by decide) (by decide)) ?_
          refine lv_ishl hx hb d_M_extend_85 ?_
          refine k_top (k_shlN (by omega) (Nat.lt_trans (sh_lt (by decide) (Nat.mod_lt _ (by decide))) (by decide))) ?_
          refine lv_iconst (v := -1) hx hb d_M_extend_86 (by decide) ?_
          refine lv_ixor hx hb d_M_extend_87 ?_
          refine lv_iand hx hb d_M_extend_88 ?_
          refine k_top (r_andn b1 (sh_lt (by decide) (Nat.mod_lt _ (by decide)))) ?_
          refine lv_iload_n hx hb d_M_extend_89 rfl (lv_at hl 1 rfl) ?_
          refine lv_iload_n hx hb d_M_extend_90 rfl (lv_at hl 0 rfl) ?_
          refine lv_bipush (v := nI 16) hx hb d_M_extend_91 (by decide) ?_
          refine lv_irem hx hb d_M_extend_93 (by decide) ?_
          refine k_top (pk_rem (by omega) (by decide) (by decide)) ?_
          refine lv_ishl hx hb d_M_extend_94 ?_
          refine k_top (k_shlN (by omega) (Nat.lt_trans (sh_lt b3 (Nat.mod_lt _ (by decide))) (by decide))) ?_
          refine lv_ior hx hb d_M_extend_95 ?_
          refine k_top (r_or (Nat.lt_of_le_of_lt Nat.and_le_left (by omega)) (Nat.lt_trans (sh_lt b3 (Nat.mod_lt _ (by decide))) (by decide))) ?_
          refine k_iastN hx hb hK hP hD hS 1 rfl (i := (304 + (k / 16))) (by omega) (by omega) d_M_extend_96 (fun H locs hP hD hS => ?_)
          have hP : va_P E.1 vwCl [(mo, .inr (8, [.int (nI len), .ref mb, .int (kb on), .int (nI en), .int (nI gas), .int (nI ctr), .int (nI siz), .int (nI hgt), .int (nI frm), .int (nI ret), .ref mm, .ref mw, .ref mh, .ref ml, .int (kb ay)])), (mw, .inl (E.2.1 0, 370, .inl (nF (va_up z (304 + (k / 16)) ((z (304 + k / 16) &&& (65535 ^^^ (1 * 2 ^ (k % 16)))) ||| ((gv g 272 16 / 2 ^ (8 * min (gv g 256 16) 65535 + 7) % 2) * 2 ^ (k % 16)))))))] H := hP
          have hD : va_D A [(mo, .inr (8, [.int (nI len), .ref mb, .int (kb on), .int (nI en), .int (nI gas), .int (nI ctr), .int (nI siz), .int (nI hgt), .int (nI frm), .int (nI ret), .ref mm, .ref mw, .ref mh, .ref ml, .int (kb ay)])), (mw, .inl (E.2.1 0, 370, .inl (nF (va_up z (304 + (k / 16)) ((z (304 + k / 16) &&& (65535 ^^^ (1 * 2 ^ (k % 16)))) ||| ((gv g 272 16 / 2 ^ (8 * min (gv g 256 16) 65535 + 7) % 2) * 2 ^ (k % 16)))))))] := hD
          refine lv_iinc (k := 0) (v := nI (k + 1)) (lv' := [(3, .int (nI (k + 1))), (2, .int (nI (gv g 272 16 / 2 ^ (8 * min (gv g 256 16) 65535 + 7) % 2))), (0, .ref mo)]) hx hb d_M_extend_97 hl rfl (k_inc _) (by decide) rfl (fun ls hl => ?_)
          refine lv_goto (tgt := 48) hx hb d_M_extend_100 (by decide) ?_
          exact ih (n - 1) (by omega) (k + 1) (va_up z (304 + (k / 16)) ((z (304 + k / 16) &&& (65535 ^^^ (1 * 2 ^ (k % 16)))) ||| ((gv g 272 16 / 2 ^ (8 * min (gv g 256 16) 65535 + 7) % 2) * 2 ^ (k % 16)))) _ _ ls (by omega) (ex_step b3 (by omega) hI) (lv_sub hl [0, 1, 2] rfl) hP hD hS
    exact key48 (256 - (8 * min (gv g 256 16) 65535 + 8)) (8 * min (gv g 256 16) 65535 + 8) (cpy g 304 272) _ _ ls (by omega) ⟨Nat.le_refl _, by omega, fun j hj => cpy_out hj, cpy_16 hg, fun q => by rw [if_neg (by omega), gv_cpy]⟩ (lv_sub hl [0, 1, 3] rfl) hP hD hS
  · exact hret _ ls _ _ (cpy g 304 272) d_M_extend_24 ⟨by rw [gv_cpy]; exact sext_big (by omega), fun j hj => cpy_out hj, cpy_16 hg⟩ hP hS

