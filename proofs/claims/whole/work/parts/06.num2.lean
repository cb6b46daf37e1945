/-! words and the model's numbers -/
theorem kK7 : 2147483648 * kK ^ 7 = 2 ^ 255 := by decide
theorem kK8 : kK ^ 8 = mM := by decide
theorem wv_lt8 (f : Nat → Int32) : wv f 8 < mM := by rw [← kK8]; exact wv_lt f 8
theorem wv_neg (f : Nat → Int32) : m_isneg (wv f 8) = decide (2147483648 ≤ uw (f 7)) := by
  unfold m_isneg
  rw [← kK7, decide_eq_decide, wv_s]
  have h1 := wv_lt f 7
  constructor
  · intro h
    apply Nat.le_of_not_lt
    intro q
    have h2 := Nat.mul_le_mul_right (kK ^ 7) (Nat.succ_le_of_lt q)
    rw [Nat.succ_mul] at h2
    omega
  · intro h
    have h2 := Nat.mul_le_mul_right (kK ^ 7) h
    omega
/-- one part: the number of a word whose upper parts are 0 -/
theorem wv_one {f : Nat → Int32} (h : ∀ j, 0 < j → j < 8 → f j = 0) : wv f 8 = uw (f 0) := by
  have h1 : wv f 8 + wv (fun _ => (0 : Int32)) 1 = wv (fun _ => (0 : Int32)) 8 + wv f 1 := by
    unfold wv
    exact bv_split (by decide) (fun j a b => by rw [h j (by omega) b])
  have h2 : ∀ k, wv (fun _ => (0 : Int32)) k = 0 := fun k => wv_is0.mpr (fun _ _ => rfl)
  rw [h2, h2] at h1
  have h3 : wv f 1 = uw (f 0) := by rw [wv_s, wv_0]; simp
  omega
theorem wv_big {f : Nat → Int32} {p : Nat} (h0 : 0 < p) (hp : p < 8) (h : ¬ f p = 0) : kK ≤ wv f 8 := by
  have h1 : 0 < uw (f p) := Nat.pos_of_ne_zero (fun q => h ((uw_zero _).mpr q))
  have h2 := bv_split (B := kK) (f := fun j => uw (f j)) (g := fun j => if j ≤ p then 0 else uw (f j)) (k := p + 1) (n := 8) hp (fun j a b => by rw [if_neg (by omega)])
  have h3 : bv kK (fun j => if j ≤ p then 0 else uw (f j)) (p + 1) = 0 := bv_zero (fun j hj => if_pos (by omega))
  rw [h3] at h2
  have h7 : bv kK (fun j => uw (f j)) (p + 1) = bv kK (fun j => uw (f j)) p + uw (f p) * kK ^ p := rfl
  have h4 : wv f 8 = bv kK (fun j => uw (f j)) 8 := rfl
  have h5 : kK ≤ kK ^ p := by
    have := Nat.pow_le_pow_right (show 0 < kK by decide) (show 1 ≤ p from h0)
    rwa [Nat.pow_one] at this
  have h6 : kK ^ p ≤ uw (f p) * kK ^ p := Nat.le_mul_of_pos_left _ h1
  omega
theorem uw_63 (x : Int32) : uw x < 2 ^ 63 := Nat.lt_trans (uw_lt' x) (by decide)
theorem uw_31 {x : Int32} (h : ¬ x < 0) : uw x < 2147483648 := Nat.lt_of_not_le (fun q => h ((uw_neg x).mpr q))
theorem uw_le {x : Int32} {m : Nat} (h : ¬ x < 0) (hm : m < 2147483648) : x ≤ nI m ↔ uw x ≤ m := by
  have e := nI_leI (a := uw x) (b := m) (uw_31 h) hm
  rw [nI_uw] at e
  exact e
theorem wv_am1 {f : Nat → Int32} {lim : Nat} (h : ∀ j, 0 < j → j < 8 → f j = 0) (hl : lim < 2147483648) (h0 : f 0 < 0) : nI lim = nI (min (wv f 8) lim) := by
  rw [wv_one h, Nat.min_eq_right (by have := (uw_neg _).mp h0; omega)]
theorem wv_am2 {f : Nat → Int32} {lim : Nat} (h : ∀ j, 0 < j → j < 8 → f j = 0) (hl : lim < 2147483648) (h0 : ¬ f 0 < 0) (h1 : f 0 ≤ nI lim) : f 0 = nI (min (wv f 8) lim) := by
  rw [wv_one h, Nat.min_eq_left ((uw_le h0 hl).mp h1), nI_uw]
theorem wv_am3 {f : Nat → Int32} {lim : Nat} (h : ∀ j, 0 < j → j < 8 → f j = 0) (hl : lim < 2147483648) (h0 : ¬ f 0 < 0) (h1 : ¬ f 0 ≤ nI lim) : nI lim = nI (min (wv f 8) lim) := by
  have q : ¬ uw (f 0) ≤ lim := fun q => h1 ((uw_le h0 hl).mpr q)
  rw [wv_one h, Nat.min_eq_right (by omega)]
theorem uw_nge0 {x : Int32} (h : ¬ 0 ≤ x) : 2147483648 ≤ uw x := (uw_neg x).mp (Int32.not_le.mp h)
theorem uw_ge0 {x : Int32} (h : 0 ≤ x) : ¬ 2147483648 ≤ uw x := fun q => (Int32.not_lt.mpr h) ((uw_neg x).mpr q)
theorem k_decm (k : Nat) : nI k + Int32.ofInt (-1) = m1 k := by
  cases k with
  | zero => decide
  | succ k => exact k_dec k
