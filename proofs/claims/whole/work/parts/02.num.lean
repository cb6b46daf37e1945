/-! numbers out of digits: bv B f k = f 0 + f 1 * B + .. (k digits) -/
def bv (B : Nat) (f : Nat → Nat) : Nat → Nat
  | 0 => 0
  | k + 1 => bv B f k + f k * B ^ k
theorem bv_0 (B : Nat) (f : Nat → Nat) : bv B f 0 = 0 := rfl
theorem bv_s (B : Nat) (f : Nat → Nat) (k : Nat) : bv B f (k + 1) = bv B f k + f k * B ^ k := rfl
theorem bv_lt {B : Nat} {f : Nat → Nat} : ∀ {k : Nat}, (∀ j, j < k → f j < B) → bv B f k < B ^ k
  | 0, _ => by simp [bv]
  | k + 1, h => by
    have h1 := bv_lt (B := B) (f := f) (k := k) (fun j hj => h j (by omega))
    have h2 := Nat.mul_le_mul_right (B ^ k) (Nat.succ_le_of_lt (h k (by omega)))
    rw [Nat.succ_mul] at h2
    rw [bv_s, Nat.pow_succ, Nat.mul_comm (B ^ k) B]
    omega
theorem bv_congr {B : Nat} {f g : Nat → Nat} : ∀ {k : Nat}, (∀ j, j < k → f j = g j) → bv B f k = bv B g k
  | 0, _ => rfl
  | k + 1, h => by
    rw [bv_s, bv_s, bv_congr (fun j hj => h j (by omega)), h k (by omega)]
theorem k_dm {a b u v P : Nat} (ha : a < P) (hb : b < P) (h : a + u * P = b + v * P) : a = b ∧ u = v := by
  have h1 : (a + u * P) % P = a := by rw [Nat.add_mul_mod_self_right, Nat.mod_eq_of_lt ha]
  have h2 : (b + v * P) % P = b := by rw [Nat.add_mul_mod_self_right, Nat.mod_eq_of_lt hb]
  have h3 : a = b := by rw [← h1, ← h2, h]
  refine ⟨h3, ?_⟩
  subst h3
  exact Nat.eq_of_mul_eq_mul_right (Nat.lt_of_le_of_lt (Nat.zero_le _) ha) (Nat.add_left_cancel h)
theorem bv_inj {B : Nat} {f g : Nat → Nat} : ∀ {k : Nat}, (∀ j, j < k → f j < B) → (∀ j, j < k → g j < B) → bv B f k = bv B g k → ∀ j, j < k → f j = g j
  | 0, _, _, _, j, hj => absurd hj (Nat.not_lt_zero j)
  | k + 1, hf, hg, h, j, hj => by
    obtain ⟨h1, h2⟩ := k_dm (bv_lt (fun j hj => hf j (by omega))) (bv_lt (fun j hj => hg j (by omega))) h
    by_cases e : j = k
    · subst e; exact h2
    · exact bv_inj (fun j hj => hf j (by omega)) (fun j hj => hg j (by omega)) h1 j (by omega)
theorem bv_split {B : Nat} {f g : Nat → Nat} {k : Nat} : ∀ {n : Nat}, k ≤ n → (∀ j, k ≤ j → j < n → f j = g j) → bv B f n + bv B g k = bv B g n + bv B f k
  | 0, hk, _ => by
    have : k = 0 := by omega
    subst this
    rfl
  | n + 1, hk, h => by
    by_cases e : k = n + 1
    · subst e; exact Nat.add_comm _ _
    · have := bv_split (B := B) (f := f) (g := g) (n := n) (k := k) (by omega) (fun j h1 h2 => h j h1 (by omega))
      rw [bv_s, bv_s, h n (by omega) (by omega)]
      omega
theorem bv_less {B : Nat} {f g : Nat → Nat} {k n : Nat} (hk : k < n) (hB : ∀ j, j < k → f j < B) (h : ∀ j, k < j → j < n → f j = g j) (hl : f k < g k) : bv B f n < bv B g n := by
  have h1 := bv_split (B := B) (f := f) (g := g) (k := k + 1) (n := n) hk (fun j a b => h j (by omega) b)
  rw [bv_s, bv_s] at h1
  have h4 := bv_lt hB
  have h5 := Nat.mul_le_mul_right (B ^ k) (Nat.succ_le_of_lt hl)
  rw [Nat.succ_mul] at h5
  omega
theorem bv_up {B : Nat} {f : Nat → Nat} {k x : Nat} : ∀ {n : Nat}, k < n → bv B (va_up f k x) n + f k * B ^ k = bv B f n + x * B ^ k
  | 0, h => absurd h (Nat.not_lt_zero k)
  | n + 1, h => by
    rw [bv_s, bv_s]
    by_cases e : k = n
    · subst e
      rw [va_up_self, bv_congr (g := f) (fun j hj => va_up_ne f x (by omega))]
      omega
    · rw [va_up_ne f x (Ne.symm e)]
      have := bv_up (B := B) (f := f) (x := x) (n := n) (k := k) (by omega)
      omega
theorem bv_zero {B : Nat} {f : Nat → Nat} : ∀ {k : Nat}, (∀ j, j < k → f j = 0) → bv B f k = 0
  | 0, _ => rfl
  | k + 1, h => by
    rw [bv_s, bv_zero (fun j hj => h j (by omega)), h k (by omega)]
    simp
theorem bv_is0 {B : Nat} (hB : 0 < B) {f : Nat → Nat} : ∀ {k : Nat}, bv B f k = 0 → ∀ j, j < k → f j = 0
  | 0, _, j, hj => absurd hj (Nat.not_lt_zero j)
  | k + 1, h, j, hj => by
    rw [bv_s] at h
    have h1 : bv B f k = 0 := by omega
    have h2 : f k * B ^ k = 0 := by omega
    by_cases e : j = k
    · subst e
      exact (Nat.mul_eq_zero.mp h2).resolve_right (Nat.ne_of_gt (Nat.pow_pos hB))
    · exact bv_is0 hB h1 j (by omega)
theorem bv_add {B n : Nat} {f : Nat → Nat} : ∀ {k : Nat}, bv B f (n + k) = bv B f n + bv B (fun j => f (n + j)) k * B ^ n
  | 0 => by simp [bv]
  | k + 1 => by
    show bv B f (n + k) + f (n + k) * B ^ (n + k) = bv B f n + (bv B (fun j => f (n + j)) k + f (n + k) * B ^ k) * B ^ n
    rw [bv_add (k := k), Nat.add_mul, Nat.pow_add, Nat.mul_assoc (f _) (B ^ k), Nat.mul_comm (B ^ n) (B ^ k)]
    omega
/-- a place is a digit -/
theorem bv_dig {B : Nat} {f : Nat → Nat} {p n : Nat} (hf : ∀ j, j < n → f j < B) (h : p < n) : bv B f n / B ^ p % B = f p := by
  have hpos : 0 < B ^ p := Nat.lt_of_le_of_lt (Nat.zero_le _) (bv_lt (f := f) (fun j hj => hf j (by omega)))
  obtain ⟨k, rfl⟩ : ∃ k, n = p + (k + 1) := ⟨n - p - 1, by omega⟩
  have h1 : bv B (fun j => f (p + j)) (k + 1) = f p + bv B (fun j => f (p + (1 + j))) k * B := by
    have := bv_add (B := B) (n := 1) (k := k) (f := fun j => f (p + j))
    rw [Nat.add_comm 1 k] at this
    rw [this]
    simp [bv]
  rw [bv_add, Nat.add_mul_div_right _ _ hpos, Nat.div_eq_of_lt (bv_lt (fun j hj => hf j (by omega))), Nat.zero_add, h1, Nat.add_mul_mod_self_right, Nat.mod_eq_of_lt (hf p (by omega))]
/-- .. and the digits make the number -/
theorem bv_of {B : Nat} {f : Nat → Nat} {X : Nat} : ∀ {n : Nat}, (∀ p, p < n → f p = X / B ^ p % B) → bv B f n = X % B ^ n
  | 0, _ => by simp [bv, Nat.mod_one]
  | n + 1, h => by
    rw [bv_s, bv_of (fun p hp => h p (by omega)), h n (by omega), Nat.pow_succ, Nat.mod_mul, Nat.mul_comm]
/-- an int without its sign -/
def kK : Nat := 4294967296
theorem kK_eq : kK = 4294967296 := rfl
def uw (x : Int32) : Nat := x.toBitVec.toNat
theorem uw_lt (x : Int32) : uw x < kK := x.toBitVec.isLt
theorem uw_lt' (x : Int32) : uw x < 4294967296 := x.toBitVec.isLt
theorem uw_nI (n : Nat) : uw (nI n) = n % 4294967296 := by
  show (BitVec.ofNat 32 n).toNat = n % 4294967296
  exact BitVec.toNat_ofNat ..
theorem uw_nI' {n : Nat} (h : n < 4294967296) : uw (nI n) = n := by rw [uw_nI]; exact Nat.mod_eq_of_lt h
theorem uw_inj {x y : Int32} (h : uw x = uw y) : x = y := Int32.toBitVec_inj.mp (BitVec.eq_of_toNat_eq h)
theorem nI_uw (x : Int32) : nI (uw x) = x := uw_inj (uw_nI' (uw_lt' x))
theorem uw_0 : uw 0 = 0 := by decide
theorem uw_zero (x : Int32) : x = 0 ↔ uw x = 0 := ⟨fun h => by rw [h]; exact uw_0, fun h => uw_inj (by rw [h]; exact uw_0.symm)⟩
theorem uw_toInt (x : Int32) : x.toInt = if uw x < 2147483648 then (uw x : Int) else (uw x : Int) - 4294967296 := by
  have h0 : x.toInt = if 2 * uw x < 4294967296 then (uw x : Int) else (uw x : Int) - 4294967296 := BitVec.toInt_eq_toNat_cond _
  rw [h0]
  by_cases h : uw x < 2147483648
  · rw [if_pos h, if_pos (by omega)]
  · rw [if_neg h, if_neg (by omega)]
theorem uw_neg (x : Int32) : x < 0 ↔ 2147483648 ≤ uw x := by
  rw [Int32.lt_iff_toInt_lt, uw_toInt, Int32.toInt_zero]
  have := uw_lt' x
  by_cases h : uw x < 2147483648
  · rw [if_pos h]; omega
  · rw [if_neg h]; omega
theorem nI_eq32 {a b : Nat} (ha : a < 4294967296) (hb : b < 4294967296) : nI a = nI b ↔ a = b := ⟨fun h => by rw [← uw_nI' ha, ← uw_nI' hb, h], fun h => by rw [h]⟩
/-- the number of a word's first k parts, the lowest first -/
def wv (f : Nat → Int32) (k : Nat) : Nat := bv kK (fun j => uw (f j)) k
theorem wv_0 (f : Nat → Int32) : wv f 0 = 0 := rfl
theorem wv_s (f : Nat → Int32) (k : Nat) : wv f (k + 1) = wv f k + uw (f k) * kK ^ k := rfl
theorem wv_lt (f : Nat → Int32) (k : Nat) : wv f k < kK ^ k := bv_lt (fun j _ => uw_lt (f j))
theorem wv_congr {f g : Nat → Int32} {k : Nat} (h : ∀ j, j < k → f j = g j) : wv f k = wv g k := bv_congr (fun j hj => by rw [h j hj])
theorem wv_inj {f g : Nat → Int32} {k : Nat} (h : wv f k = wv g k) : ∀ j, j < k → f j = g j := fun j hj => uw_inj (bv_inj (fun j _ => uw_lt (f j)) (fun j _ => uw_lt (g j)) h j hj)
theorem wv_less {f g : Nat → Int32} {k n : Nat} (hk : k < n) (h : ∀ j, k < j → j < n → f j = g j) (hl : uw (f k) < uw (g k)) : wv f n < wv g n := bv_less hk (fun j _ => uw_lt (f j)) (fun j a b => by rw [h j a b]) hl
theorem uw_upd (f : Nat → Int32) (k : Nat) (x : Int32) : (fun j => uw (upd f k x j)) = va_up (fun j => uw (f j)) k (uw x) := by
  funext j
  by_cases h : j = k
  · subst h; rw [pk_us, va_up_self]
  · rw [pk_un h, va_up_ne _ _ h]
theorem wv_upd {f : Nat → Int32} {k : Nat} {x : Int32} {n : Nat} (h : k < n) : wv (upd f k x) n + uw (f k) * kK ^ k = wv f n + uw x * kK ^ k := by
  unfold wv
  rw [uw_upd]
  exact bv_up (f := fun j => uw (f j)) h
theorem wv_upd_lo {f : Nat → Int32} {k : Nat} {x : Int32} : wv (upd f k x) k = wv f k := wv_congr (fun j hj => pk_un (by omega))
theorem wv_is0 {f : Nat → Int32} {k : Nat} : wv f k = 0 ↔ ∀ j, j < k → f j = 0 := by
  refine ⟨fun h j hj => (uw_zero _).mpr (bv_is0 (by decide) h j hj), fun h => bv_zero (fun j hj => (uw_zero _).mp (h j hj))⟩
theorem k_lo (x : Int32) : x.toInt64 &&& 4294967295 = lN (uw x) := by
  have h0 := uw_lt' x
  apply uN_inj
  rw [uN_lo]
  have h1 : uN (lN (uw x)) = uw x := by
    show (BitVec.ofNat 64 (uw x)).toNat = uw x
    rw [BitVec.toNat_ofNat]
    exact Nat.mod_eq_of_lt (by omega)
  have h2 : uN x.toInt64 = (x.toBitVec.signExtend 64).toNat := by
    show x.toInt64.toBitVec.toNat = _
    rw [Int32.toBitVec_toInt64]
  have h3 : (x.toBitVec.setWidth 64).toNat = uw x := by
    rw [BitVec.toNat_setWidth]
    exact Nat.mod_eq_of_lt (by show uw x < _; omega)
  rw [h1, h2, BitVec.toNat_signExtend, h3]
  split <;> omega
theorem k_cmp0 {a b : Nat} (ha : a < 2 ^ 63) (hb : b < 2 ^ 63) : lg_cmp (lN a) (lN b) = 0 ↔ a = b := by
  rw [lg_cmp_eq, pk_lEQ ha hb]
theorem k_cmpge {a b : Nat} (ha : a < 2 ^ 63) (hb : b < 2 ^ 63) : 0 ≤ lg_cmp (lN a) (lN b) ↔ b ≤ a := by
  rw [lg_cmp_ge, pk_lLE hb ha]
theorem k_mdm (s K P : Nat) : s % K * P + s / K * (K * P) = s * P := by
  rw [← Nat.mul_assoc, ← Nat.add_mul]
  congr 1
  have := Nat.mod_add_div s K
  rw [Nat.mul_comm K] at this
  exact this
theorem st_add {T a b c P x y K : Nat} (h : T + c * P = a + b) : (T + (x + y + c) % K * P) + (x + y + c) / K * (K * P) = (a + x * P) + (b + y * P) := by
  have h1 := k_mdm (x + y + c) K P
  rw [Nat.add_mul, Nat.add_mul] at h1
  omega
theorem st_sub {T a b c c' P K x y t : Nat} (h : T + b = a + c * P) (hs : t + y + c = x + c' * K) : (T + t * P) + (b + y * P) = (a + x * P) + c' * (K * P) := by
  have h1 : (t + y + c) * P = (x + c' * K) * P := by rw [hs]
  rw [Nat.add_mul, Nat.add_mul, Nat.add_mul, Nat.mul_assoc] at h1
  omega
theorem bv_bit {s n p i : Nat} {f : Nat → Nat} (hf : ∀ j, j < n → f j < 2 ^ s) (hp : p < n) (hi : i < s) : (bv (2 ^ s) f n).testBit (s * p + i) = (f p).testBit i := by
  have h := bv_dig hf hp
  rw [← h, Nat.testBit_mod_two_pow, ← Nat.pow_mul, Nat.testBit_div_two_pow]
  simp [hi, Nat.add_comm]
theorem bv_bit_ge {s n i : Nat} {f : Nat → Nat} (hf : ∀ j, j < n → f j < 2 ^ s) (hi : s * n ≤ i) : (bv (2 ^ s) f n).testBit i = false := by
  apply Nat.testBit_lt_two_pow
  refine Nat.lt_of_lt_of_le (bv_lt hf) ?_
  rw [← Nat.pow_mul]
  exact Nat.pow_le_pow_right (by decide) hi
