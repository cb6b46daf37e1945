/-! what an instruction does in the reference -/
theorem lo16 {u : Nat → Nat} (h : ∀ j, u j < 65536) : gv u 320 16 = gv u 320 33 % mM := by
  have e := gv_add (g := u) (r := 320) (n := 16) (k := 17)
  rw [show (33 : Nat) = 16 + 17 from rfl, e, g16m, Nat.add_mul_mod_self_right, Nat.mod_eq_of_lt (gv_lt16 h 320)]
/-- the first row, the second, the third -/
theorem rk_cp {g u : Nat → Nat} {S : Nat} (hg : ∀ j, u j < 65536) (h : gv u 320 33 = S) (hf : fr3 g u) : qE g (cpy u 304 320) (S % mM) := ⟨by rw [gv_cpy, lo16 hg, h], fun j hj => (cpy_out (by omega)).trans (hf j hj), cpy_16 hg⟩
theorem rk_1 {g u : Nat → Nat} (hu : gv u 320 33 = gv g 256 16 + gv g 272 16 ∧ fr1 g u 320 33 ∧ ∀ j, u j < 65536) : qE g (cpy u 304 320) ((gv g 256 16 + gv g 272 16) % mM) := rk_cp hu.2.2 hu.1 (fun j hj => hu.2.1 j (by omega))
theorem rk_2 {g u : Nat → Nat} (hu : gv u 320 33 = gv g 256 16 * gv g 272 16 ∧ fr1 g u 320 33 ∧ ∀ j, u j < 65536) : qE g (cpy u 304 320) (gv g 256 16 * gv g 272 16 % mM) := rk_cp hu.2.2 hu.1 (fun j hj => hu.2.1 j (by omega))
theorem rk_3 {g v u : Nat → Nat} (hv : gv v 272 16 = m_neg (gv g 272 16) ∧ fr1 g v 272 16 ∧ ∀ j, v j < 65536) (hu : gv u 320 33 = gv v 256 16 + gv v 272 16 ∧ fr1 v u 320 33 ∧ ∀ j, u j < 65536) : qE g (cpy u 304 320) ((gv g 256 16 + (mM - gv g 272 16)) % mM) := by
  have e : gv u 320 33 = gv g 256 16 + (mM - gv g 272 16) % mM := by rw [hu.1, hv.1, fr1_gv hv.2.1 (by omega)]; unfold m_neg; rfl
  have h := rk_cp (g := g) hu.2.2 e (fun j hj => (hu.2.1 j (by omega)).trans (hv.2.1 j (by omega)))
  rw [Nat.add_mod_mod] at h
  exact h
theorem rk_r {g u w : Nat → Nat} {S : Nat} (hg : ∀ j, g j < 65536) (h : gv u 320 33 = S) (hf : fr1 g u 320 33) (hw : dvP u w 288) : qE g (cpy w 304 353) (m_rem S (gv g 288 16)) := by
  obtain ⟨w1, w2, w3, w4⟩ := hw
  have eC : gv u 288 16 = gv g 288 16 := fr1_gv hf (by omega)
  rw [h, eC] at w2
  refine ⟨?_, fun j hj => (cpy_out (by omega)).trans ((w3 j (by omega)).trans (hf j (by omega))), cpy_16 w4⟩
  rw [gv_cpy, rest16 (by rw [w2]; exact m_rem_lt (gv_lt16 hg 288)), w2]
def jn (o a b : Nat) : Nat := if o = 22 then a &&& b else if o = 23 then a ||| b else if o = 24 then a ^^^ b else 65535 - a
theorem mo_1 (a b c : Nat) : m_op 1 a b c = (a + b) % mM := rfl
theorem mo_2 (a b c : Nat) : m_op 2 a b c = a * b % mM := rfl
theorem mo_3 (a b c : Nat) : m_op 3 a b c = (a + (mM - b)) % mM := rfl
theorem mo_4 (a b c : Nat) : m_op 4 a b c = a / b := rfl
theorem mo_5 (a b c : Nat) : m_op 5 a b c = m_sdiv a b := rfl
theorem mo_6 (a b c : Nat) : m_op 6 a b c = m_rem a b := rfl
theorem mo_7 (a b c : Nat) : m_op 7 a b c = m_srem a b := rfl
theorem mo_8 (a b c : Nat) : m_op 8 a b c = m_rem (a + b) c := rfl
theorem mo_9 (a b c : Nat) : m_op 9 a b c = m_rem (a * b) c := rfl
theorem mo_11 (a b c : Nat) : m_op 11 a b c = m_sext a b := rfl
theorem mo_22 (a b c : Nat) : m_op 22 a b c = a &&& b := rfl
theorem mo_23 (a b c : Nat) : m_op 23 a b c = a ||| b := rfl
theorem mo_24 (a b c : Nat) : m_op 24 a b c = a ^^^ b := rfl
theorem mo_25 (a b c : Nat) : m_op 25 a b c = mM - 1 - a := rfl
theorem mo_26 (a b c : Nat) : m_op 26 a b c = m_byte a b := rfl
theorem mo_27 (a b c : Nat) : m_op 27 a b c = m_shl a b := rfl
theorem mo_28 (a b c : Nat) : m_op 28 a b c = m_shr a b := rfl
theorem mo_29 (a b c : Nat) : m_op 29 a b c = m_sar a b := rfl
theorem jn_22 (a b : Nat) : jn 22 a b = a &&& b := if_pos rfl
theorem jn_23 (a b : Nat) : jn 23 a b = a ||| b := by unfold jn; rw [if_neg (by decide), if_pos rfl]
theorem jn_24 (a b : Nat) : jn 24 a b = a ^^^ b := by unfold jn; rw [if_neg (by decide), if_neg (by decide), if_pos rfl]
theorem jn_25 (a b : Nat) : jn 25 a b = 65535 - a := by unfold jn; rw [if_neg (by decide), if_neg (by decide), if_neg (by decide)]
theorem quo_4 (A B : Nat) : m_quo false false A B = A / B := rfl
theorem quo_6 (A B : Nat) : m_quo false true A B = m_rem A B := rfl
theorem quo_5 (A B : Nat) : m_quo true false A B = m_sdiv A B := by
  unfold m_quo m_sdiv m_abs
  rw [Bool.true_and, Bool.true_and]
  cases m_isneg A <;> cases m_isneg B <;> rfl
theorem quo_7 (A B : Nat) : m_quo true true A B = m_srem A B := by
  unfold m_quo m_srem m_abs
  rw [Bool.true_and, Bool.true_and]
  cases m_isneg A <;> cases m_isneg B <;> rfl
def m_hold (o A B : Nat) : Bool := if o = 16 then decide (A < B) else if o = 17 then decide (B < A) else if o = 18 then m_slt A B else if o = 19 then m_slt B A else if o = 20 then decide (A = B) else decide (A = 0)
theorem ho_16 (a b : Nat) : m_hold 16 a b = decide (a < b) := rfl
theorem ho_17 (a b : Nat) : m_hold 17 a b = decide (b < a) := rfl
theorem ho_18 (a b : Nat) : m_hold 18 a b = m_slt a b := rfl
theorem ho_19 (a b : Nat) : m_hold 19 a b = m_slt b a := rfl
theorem ho_20 (a b : Nat) : m_hold 20 a b = decide (a = b) := rfl
theorem ho_21 (a b : Nat) : m_hold 21 a b = decide (a = 0) := rfl
theorem hold_op {o A B C : Nat} (h1 : 16 ≤ o) (h2 : o ≤ 21) : m_op o A B C = m_b (m_hold o A B) := by
  rcases (by omega : o = 16 ∨ o = 17 ∨ o = 18 ∨ o = 19 ∨ o = 20 ∨ o = 21) with rfl | rfl | rfl | rfl | rfl | rfl <;> rfl
theorem hold_20 {A B : Nat} : (kb (decide (A < B)) = 0 → kb (decide (B < A)) = 0 → nI 1 = kb (decide (A = B))) ∧ (¬ kb (decide (A < B)) = 0 → nI 0 = kb (decide (A = B))) ∧ (¬ kb (decide (B < A)) = 0 → nI 0 = kb (decide (A = B))) := by
  refine ⟨fun h1 h2 => ?_, fun h => ?_, fun h => ?_⟩
  · have := of_decide_eq_false (kb_0.mp h1); have := of_decide_eq_false (kb_0.mp h2)
    rw [decide_eq_true (by omega : A = B)]; rfl
  · have := of_decide_eq_true (kb_n0 h)
    rw [decide_eq_false (by omega : ¬ A = B)]; rfl
  · have := of_decide_eq_true (kb_n0 h)
    rw [decide_eq_false (by omega : ¬ A = B)]; rfl
/-- digits joined -/
theorem jn_lt {o a b : Nat} (ha : a < 65536) (hb : b < 65536) : jn o a b < 65536 := by
  unfold jn
  split
  · exact Nat.lt_of_le_of_lt Nat.and_le_left ha
  · split
    · exact or_lt16 ha hb
    · split
      · exact Nat.xor_lt_two_pow (n := 16) ha hb
      · omega
def jnI (g z : Nat → Nat) (o i : Nat) : Prop := (∀ j, j < i → z (304 + j) = jn o (g (256 + j)) (g (272 + j))) ∧ (∀ j, j < 304 ∨ 304 + i ≤ j → z j = g j) ∧ ∀ j, z j < 65536
theorem jn_step {g z : Nat → Nat} {o i x : Nat} (hx : x = jn o (z (256 + i)) (z (272 + i))) (hi : i < 16) (h : jnI g z o i) : jnI g (va_up z (304 + i) x) o (i + 1) := by
  obtain ⟨h1, h2, h3⟩ := h
  refine ⟨fun j hj => ?_, fun j hj => (va_up_ne _ _ (by omega)).trans (h2 j (by omega)), g16_up h3 (by rw [hx]; exact jn_lt (h3 _) (h3 _))⟩
  by_cases e : j = i
  · subst e; rw [va_up_self, hx, h2 (256 + j) (by omega), h2 (272 + j) (by omega)]
  · rw [va_up_ne _ _ (by omega)]; exact h1 j (by omega)
theorem jn_fin {g z : Nat → Nat} {o C : Nat} (hg : ∀ j, g j < 65536) (h1 : 22 ≤ o) (h2 : o ≤ 25) (h : jnI g z o 16) : gv z 304 16 = m_op o (gv g 256 16) (gv g 272 16) C := by
  obtain ⟨a1, a2, a3⟩ := h
  have key : ∀ q, q < 256 → (gv z 304 16).testBit q = (jn o (g (256 + q / 16)) (g (272 + q / 16))).testBit (q % 16) := fun q hq => by
    rw [gv_tb a3 hq, a1 (q / 16) (by omega)]
  apply Nat.eq_of_testBit_eq
  intro q
  rcases Nat.lt_or_ge q 256 with hq | hq
  · rw [key q hq]
    have eA := gv_tb (g := g) (r := 256) (n := 16) hg hq
    have eB := gv_tb (g := g) (r := 272) (n := 16) hg hq
    rcases (by omega : o = 22 ∨ o = 23 ∨ o = 24 ∨ o = 25) with rfl | rfl | rfl | rfl
    · rw [jn_22, mo_22, Nat.testBit_and, Nat.testBit_and, eA, eB]
    · rw [jn_23, mo_23, Nat.testBit_or, Nat.testBit_or, eA, eB]
    · rw [jn_24, mo_24, Nat.testBit_xor, Nat.testBit_xor, eA, eB]
    · rw [jn_25, mo_25]
      have l1 := hg (256 + q / 16)
      have l2 := gv_lt16 hg 256
      rw [show 65535 - g (256 + q / 16) = 2 ^ 16 - (g (256 + q / 16) + 1) by omega, Nat.testBit_two_pow_sub_succ l1, show mM - 1 - gv g 256 16 = 2 ^ 256 - (gv g 256 16 + 1) by rw [show mM = 2 ^ 256 from rfl]; omega, Nat.testBit_two_pow_sub_succ l2, eA, decide_eq_true hq, decide_eq_true (Nat.mod_lt q (by decide : 0 < 16))]
  · have hl : m_op o (gv g 256 16) (gv g 272 16) C < mM := by
      have l1 := gv_lt16 hg 256
      have l2 := gv_lt16 hg 272
      rcases (by omega : o = 22 ∨ o = 23 ∨ o = 24 ∨ o = 25) with rfl | rfl | rfl | rfl
      · rw [mo_22]; exact Nat.lt_of_le_of_lt Nat.and_le_left l1
      · rw [mo_23]; exact Nat.or_lt_two_pow (n := 256) l1 l2
      · rw [mo_24]; exact Nat.xor_lt_two_pow (n := 256) l1 l2
      · rw [mo_25]; omega
    rw [gv_tb_ge a3 hq]
    exact (Nat.testBit_lt_two_pow (Nat.lt_of_lt_of_le hl (Nat.pow_le_pow_right (n := 2) (by decide) hq))).symm
theorem fin0 {X Y P p : Nat} {b : Nat → Nat} (h : X + m_num b p 0 * P = Y) : X = Y := by
  have e : m_num b p 0 = 0 := rfl
  rw [e, Nat.zero_mul, Nat.add_zero] at h
  exact h
/-- memory -/
theorem gv_low {g : Nat → Nat} {r : Nat} : g r % 256 = gv g r 16 % 256 := by
  have e : gv g r 16 = gv g r 1 + gv g (r + 1) 15 * 65536 ^ 1 := gv_add (g := g) (r := r) (n := 1) (k := 15)
  have e1 : gv g r 1 = g r := by rw [gv_s, gv_0, Nat.pow_zero, Nat.mul_one, Nat.zero_add, Nat.add_zero]
  rw [e1, Nat.pow_one] at e
  omega
theorem mm_83 {A B : Nat} {mem : Nat → Nat} : va_up mem A (B % 256) = m_mem 83 A B mem := by
  funext k
  unfold m_mem
  by_cases e : k = A
  · subst e; rw [va_up_self, if_pos ⟨rfl, rfl⟩]
  · rw [va_up_ne _ _ e, if_neg (fun q => e q.2), if_neg (fun q => absurd q.1 (by decide))]
theorem mm_81 {A B : Nat} {mem : Nat → Nat} {o : Nat} (h2 : o ≠ 82) (h3 : o ≠ 83) : mem = m_mem o A B mem := by
  funext k
  unfold m_mem
  rw [if_neg (fun q => h3 q.1), if_neg (fun q => h2 q.1)]
theorem mm_82s {A B i : Nat} {mem y : Nat → Nat} (hI : ∀ k, y k = if A ≤ k ∧ k < A + i then m_byte (k - A) B else mem k) (k : Nat) : va_up y (A + i) (m_byte i B) k = if A ≤ k ∧ k < A + (i + 1) then m_byte (k - A) B else mem k := by
  by_cases e : k = A + i
  · subst e; rw [va_up_self, if_pos (by omega), Nat.add_sub_cancel_left]
  · rw [va_up_ne _ _ e, hI k]
    by_cases q : A ≤ k ∧ k < A + i
    · rw [if_pos q, if_pos (by omega)]
    · rw [if_neg q, if_neg (by omega)]
theorem mm_82 {A B : Nat} {mem y : Nat → Nat} (hI : ∀ k, y k = if A ≤ k ∧ k < A + 32 then m_byte (k - A) B else mem k) : y = m_mem 82 A B mem := by
  funext k
  have e : m_mem 82 A B mem k = if A ≤ k ∧ k < A + 32 then m_byte (k - A) B else mem k := by
    unfold m_mem
    rw [if_neg (fun w : (82 : Nat) = 83 ∧ k = A => absurd w.1 (by decide))]
    by_cases q : A ≤ k ∧ k < A + 32
    · rw [if_pos (⟨rfl, q⟩ : (82 : Nat) = 82 ∧ A ≤ k ∧ k < A + 32), if_pos q]
    · rw [if_neg (fun w : (82 : Nat) = 82 ∧ A ≤ k ∧ k < A + 32 => q w.2), if_neg q]
  rw [hI k, e]
def ldI (g z mem : Nat → Nat) (A i : Nat) : Prop := gv z 304 i + m_num mem A (32 - 2 * i) * 65536 ^ i = m_num mem A 32 ∧ fr1 g z 304 16 ∧ ∀ j, z j < 65536
theorem ld_or {x y : Nat} (hx : x < 256) (hy : y < 256) : x ||| y * 256 = x + y * 256 := by
  have h := Nat.two_pow_add_eq_or_of_lt (i := 8) (b := x) hx y
  rw [Nat.or_comm, Nat.mul_comm y 256]
  show 2 ^ 8 * y ||| x = x + 2 ^ 8 * y
  omega
theorem ld_step {g z mem : Nat → Nat} {A i : Nat} (hi : i < 16) (hm : ∀ j, mem j < 256) (h : ldI g z mem A i) : ldI g (va_up z (304 + i) (mem (A + 31 - 2 * i) ||| mem (A + 30 - 2 * i) * 256)) mem A (i + 1) := by
  obtain ⟨h1, h2, h3⟩ := h
  have b1 := hm (A + 31 - 2 * i)
  have b2 := hm (A + 30 - 2 * i)
  rw [ld_or b1 b2]
  refine ⟨?_, fr1_up h2 (by omega), g16_up h3 (by omega)⟩
  have e : m_num mem A (32 - 2 * i) = m_num mem A (32 - 2 * (i + 1)) * 65536 + (mem (A + 31 - 2 * i) + mem (A + 30 - 2 * i) * 256) := by
    rw [show 32 - 2 * i = 32 - 2 * (i + 1) + 1 + 1 by omega]
    show (m_num mem A (32 - 2 * (i + 1)) * 256 + mem (A + (32 - 2 * (i + 1)))) * 256 + mem (A + (32 - 2 * (i + 1) + 1)) = _
    rw [show A + (32 - 2 * (i + 1)) = A + 30 - 2 * i by omega, show A + (32 - 2 * (i + 1) + 1) = A + 31 - 2 * i by omega]
    omega
  rw [gv_push, p16s, ← h1, e]
  generalize mem (A + 31 - 2 * i) + mem (A + 30 - 2 * i) * 256 = d
  rw [Nat.add_mul, Nat.mul_assoc]
  omega
/-- a number read -/
def rdI (g z b : Nat → Nat) (c n k : Nat) : Prop := gv z 304 16 + m_num b (c + 1) (n - k) * 256 ^ k = m_num b (c + 1) n ∧ gv z 304 16 < 256 ^ k ∧ fr1 g z 304 16 ∧ ∀ j, z j < 65536
theorem rd_dig {z : Nat → Nat} {k : Nat} (hz : ∀ j, z j < 65536) (hk : k < 32) (h : gv z 304 16 < 256 ^ k) : z (304 + k / 2) < 2 ^ (8 * (k % 2)) := by
  have e := gv_dig (g := z) (r := 304) (p := k / 2) (n := 16) hz (by omega)
  have h2 : gv z 304 16 / 65536 ^ (k / 2) < 2 ^ (8 * (k % 2)) := by
    rw [Nat.div_lt_iff_lt_mul (Nat.pow_pos (by decide))]
    have e2 : 2 ^ (8 * (k % 2)) * 65536 ^ (k / 2) = 256 ^ k := by
      rw [show (65536 : Nat) = 2 ^ 16 from rfl, show (256 : Nat) = 2 ^ 8 from rfl, ← Nat.pow_mul, ← Nat.pow_mul, ← Nat.pow_add]
      congr 1
      omega
    rw [e2]
    exact h
  rw [← e]
  exact Nat.lt_of_le_of_lt (Nat.mod_le _ _) h2
theorem rd_or {x y s : Nat} (hx : x < 2 ^ s) : x ||| y * 2 ^ s = x + y * 2 ^ s := by
  have h := Nat.two_pow_add_eq_or_of_lt (i := s) (b := x) hx y
  rw [Nat.or_comm, Nat.mul_comm y (2 ^ s)]
  omega
theorem rd_step {g z b : Nat → Nat} {c n k : Nat} (hk : k < n) (hn : n ≤ 32) (hb : ∀ j, b j < 256) (h : rdI g z b c n k) : rdI g (va_up z (304 + k / 2) (z (304 + k / 2) ||| b (c + n - k) * 2 ^ (8 * (k % 2)))) b c n (k + 1) := by
  obtain ⟨h1, h2, h3, h4⟩ := h
  have d := rd_dig h4 (by omega) h2
  have bb := hb (c + n - k)
  have e2 : 2 ^ (8 * (k % 2)) * 65536 ^ (k / 2) = 256 ^ k := by
    rw [show (65536 : Nat) = 2 ^ 16 from rfl, show (256 : Nat) = 2 ^ 8 from rfl, ← Nat.pow_mul, ← Nat.pow_mul, ← Nat.pow_add]
    congr 1
    omega
  have hX : z (304 + k / 2) ||| b (c + n - k) * 2 ^ (8 * (k % 2)) < 65536 := by
    rw [rd_or d]
    rcases (by omega : k % 2 = 0 ∨ k % 2 = 1) with q | q
    · rw [q] at d ⊢; simp at d ⊢; omega
    · rw [q] at d ⊢; simp at d ⊢; omega
  have u := gv_up (g := z) (r := 304) (i := k / 2) (n := 16) (x := z (304 + k / 2) ||| b (c + n - k) * 2 ^ (8 * (k % 2))) (by omega)
  rw [rd_or d, Nat.add_mul, Nat.mul_assoc, e2] at u
  have v : gv (va_up z (304 + k / 2) (z (304 + k / 2) ||| b (c + n - k) * 2 ^ (8 * (k % 2)))) 304 16 = gv z 304 16 + b (c + n - k) * 256 ^ k := by rw [rd_or d]; omega
  have e : m_num b (c + 1) (n - k) = m_num b (c + 1) (n - (k + 1)) * 256 + b (c + n - k) := by
    rw [show n - k = n - (k + 1) + 1 by omega]
    show m_num b (c + 1) (n - (k + 1)) * 256 + b (c + 1 + (n - (k + 1))) = _
    rw [show c + 1 + (n - (k + 1)) = c + n - k by omega]
  refine ⟨?_, ?_, fr1_up h3 (by omega), g16_up h4 hX⟩
  · rw [v, ← h1, e, Nat.add_mul, Nat.pow_succ, Nat.mul_comm (256 ^ k) 256, ← Nat.mul_assoc]
    omega
  · rw [v, Nat.pow_succ]
    have : b (c + n - k) * 256 ^ k ≤ 255 * 256 ^ k := Nat.mul_le_mul_right _ (by omega)
    omega

abbrev y_M_reckons : MethodName := ⟨"WideStackModel", "reckons", "(I)V"⟩
theorem d_M_reckons_0 : decode prog_12_method_40_code 0 = .ok (.iload_n 1, 1) := by decide +kernel
theorem d_M_reckons_1 : decode prog_12_method_40_code 1 = .ok (.iconst 3, 1) := by decide +kernel
theorem d_M_reckons_2 : decode prog_12_method_40_code 2 = .ok (.if_icmp .ne 10, 3) := by decide +kernel
theorem d_M_reckons_5 : decode prog_12_method_40_code 5 = .ok (.aload_n 0, 1) := by decide +kernel
theorem d_M_reckons_6 : decode prog_12_method_40_code 6 = .ok (.sipush 272, 3) := by decide +kernel
theorem d_M_reckons_9 : decode prog_12_method_40_code 9 = .ok (.invokevirtual 72, 3) := by decide +kernel
theorem d_M_reckons_12 : decode prog_12_method_40_code 12 = .ok (.iload_n 1, 1) := by decide +kernel
theorem d_M_reckons_13 : decode prog_12_method_40_code 13 = .ok (.iconst 1, 1) := by decide +kernel
theorem d_M_reckons_14 : decode prog_12_method_40_code 14 = .ok (.if_icmp .eq 14, 3) := by decide +kernel
theorem d_M_reckons_17 : decode prog_12_method_40_code 17 = .ok (.iload_n 1, 1) := by decide +kernel
theorem d_M_reckons_18 : decode prog_12_method_40_code 18 = .ok (.iconst 3, 1) := by decide +kernel
theorem d_M_reckons_19 : decode prog_12_method_40_code 19 = .ok (.if_icmp .eq 9, 3) := by decide +kernel
theorem d_M_reckons_22 : decode prog_12_method_40_code 22 = .ok (.iload_n 1, 1) := by decide +kernel
theorem d_M_reckons_23 : decode prog_12_method_40_code 23 = .ok (.bipush 8, 2) := by decide +kernel
theorem d_M_reckons_25 : decode prog_12_method_40_code 25 = .ok (.if_icmp .ne 7, 3) := by decide +kernel
theorem d_M_reckons_28 : decode prog_12_method_40_code 28 = .ok (.aload_n 0, 1) := by decide +kernel
theorem d_M_reckons_29 : decode prog_12_method_40_code 29 = .ok (.invokevirtual 166, 3) := by decide +kernel
theorem d_M_reckons_32 : decode prog_12_method_40_code 32 = .ok (.iload_n 1, 1) := by decide +kernel
theorem d_M_reckons_33 : decode prog_12_method_40_code 33 = .ok (.iconst 2, 1) := by decide +kernel
theorem d_M_reckons_34 : decode prog_12_method_40_code 34 = .ok (.if_icmp .eq 9, 3) := by decide +kernel
theorem d_M_reckons_37 : decode prog_12_method_40_code 37 = .ok (.iload_n 1, 1) := by decide +kernel
theorem d_M_reckons_38 : decode prog_12_method_40_code 38 = .ok (.bipush 9, 2) := by decide +kernel
theorem d_M_reckons_40 : decode prog_12_method_40_code 40 = .ok (.if_icmp .ne 7, 3) := by decide +kernel
theorem d_M_reckons_43 : decode prog_12_method_40_code 43 = .ok (.aload_n 0, 1) := by decide +kernel
theorem d_M_reckons_44 : decode prog_12_method_40_code 44 = .ok (.invokevirtual 169, 3) := by decide +kernel
theorem d_M_reckons_47 : decode prog_12_method_40_code 47 = .ok (.iload_n 1, 1) := by decide +kernel
theorem d_M_reckons_48 : decode prog_12_method_40_code 48 = .ok (.iconst 3, 1) := by decide +kernel
theorem d_M_reckons_49 : decode prog_12_method_40_code 49 = .ok (.if_icmp .gt 16, 3) := by decide +kernel
theorem d_M_reckons_52 : decode prog_12_method_40_code 52 = .ok (.aload_n 0, 1) := by decide +kernel
theorem d_M_reckons_53 : decode prog_12_method_40_code 53 = .ok (.sipush 304, 3) := by decide +kernel
theorem d_M_reckons_56 : decode prog_12_method_40_code 56 = .ok (.sipush 320, 3) := by decide +kernel
theorem d_M_reckons_59 : decode prog_12_method_40_code 59 = .ok (.invokevirtual 81, 3) := by decide +kernel
theorem d_M_reckons_62 : decode prog_12_method_40_code 62 = .ok (.goto 85, 3) := by decide +kernel
theorem d_M_reckons_65 : decode prog_12_method_40_code 65 = .ok (.iload_n 1, 1) := by decide +kernel
theorem d_M_reckons_66 : decode prog_12_method_40_code 66 = .ok (.bipush 8, 2) := by decide +kernel
theorem d_M_reckons_68 : decode prog_12_method_40_code 68 = .ok (.if_icmp .eq 9, 3) := by decide +kernel
theorem d_M_reckons_71 : decode prog_12_method_40_code 71 = .ok (.iload_n 1, 1) := by decide +kernel
theorem d_M_reckons_72 : decode prog_12_method_40_code 72 = .ok (.bipush 9, 2) := by decide +kernel
theorem d_M_reckons_74 : decode prog_12_method_40_code 74 = .ok (.if_icmp .ne 23, 3) := by decide +kernel
theorem d_M_reckons_77 : decode prog_12_method_40_code 77 = .ok (.aload_n 0, 1) := by decide +kernel
theorem d_M_reckons_78 : decode prog_12_method_40_code 78 = .ok (.sipush 288, 3) := by decide +kernel
theorem d_M_reckons_81 : decode prog_12_method_40_code 81 = .ok (.invokevirtual 78, 3) := by decide +kernel
theorem d_M_reckons_84 : decode prog_12_method_40_code 84 = .ok (.aload_n 0, 1) := by decide +kernel
theorem d_M_reckons_85 : decode prog_12_method_40_code 85 = .ok (.sipush 304, 3) := by decide +kernel
theorem d_M_reckons_88 : decode prog_12_method_40_code 88 = .ok (.sipush 353, 3) := by decide +kernel
theorem d_M_reckons_91 : decode prog_12_method_40_code 91 = .ok (.invokevirtual 81, 3) := by decide +kernel
theorem d_M_reckons_94 : decode prog_12_method_40_code 94 = .ok (.goto 53, 3) := by decide +kernel
theorem d_M_reckons_97 : decode prog_12_method_40_code 97 = .ok (.iload_n 1, 1) := by decide +kernel
theorem d_M_reckons_98 : decode prog_12_method_40_code 98 = .ok (.bipush 11, 2) := by decide +kernel
theorem d_M_reckons_100 : decode prog_12_method_40_code 100 = .ok (.if_icmp .ne 10, 3) := by decide +kernel
theorem d_M_reckons_103 : decode prog_12_method_40_code 103 = .ok (.aload_n 0, 1) := by decide +kernel
theorem d_M_reckons_104 : decode prog_12_method_40_code 104 = .ok (.invokevirtual 172, 3) := by decide +kernel
theorem d_M_reckons_107 : decode prog_12_method_40_code 107 = .ok (.goto 40, 3) := by decide +kernel
theorem d_M_reckons_110 : decode prog_12_method_40_code 110 = .ok (.aload_n 0, 1) := by decide +kernel
theorem d_M_reckons_111 : decode prog_12_method_40_code 111 = .ok (.iload_n 1, 1) := by decide +kernel
theorem d_M_reckons_112 : decode prog_12_method_40_code 112 = .ok (.iconst 5, 1) := by decide +kernel
theorem d_M_reckons_113 : decode prog_12_method_40_code 113 = .ok (.if_icmp .eq 9, 3) := by decide +kernel
theorem d_M_reckons_116 : decode prog_12_method_40_code 116 = .ok (.iload_n 1, 1) := by decide +kernel
theorem d_M_reckons_117 : decode prog_12_method_40_code 117 = .ok (.bipush 7, 2) := by decide +kernel
theorem d_M_reckons_119 : decode prog_12_method_40_code 119 = .ok (.if_icmp .ne 7, 3) := by decide +kernel
theorem d_M_reckons_122 : decode prog_12_method_40_code 122 = .ok (.iconst 1, 1) := by decide +kernel
theorem d_M_reckons_123 : decode prog_12_method_40_code 123 = .ok (.goto 4, 3) := by decide +kernel
theorem d_M_reckons_126 : decode prog_12_method_40_code 126 = .ok (.iconst 0, 1) := by decide +kernel
theorem d_M_reckons_127 : decode prog_12_method_40_code 127 = .ok (.iload_n 1, 1) := by decide +kernel
theorem d_M_reckons_128 : decode prog_12_method_40_code 128 = .ok (.bipush 6, 2) := by decide +kernel
theorem d_M_reckons_130 : decode prog_12_method_40_code 130 = .ok (.if_icmp .eq 9, 3) := by decide +kernel
theorem d_M_reckons_133 : decode prog_12_method_40_code 133 = .ok (.iload_n 1, 1) := by decide +kernel
theorem d_M_reckons_134 : decode prog_12_method_40_code 134 = .ok (.bipush 7, 2) := by decide +kernel
theorem d_M_reckons_136 : decode prog_12_method_40_code 136 = .ok (.if_icmp .ne 7, 3) := by decide +kernel
theorem d_M_reckons_139 : decode prog_12_method_40_code 139 = .ok (.iconst 1, 1) := by decide +kernel
theorem d_M_reckons_140 : decode prog_12_method_40_code 140 = .ok (.goto 4, 3) := by decide +kernel
theorem d_M_reckons_143 : decode prog_12_method_40_code 143 = .ok (.iconst 0, 1) := by decide +kernel
theorem d_M_reckons_144 : decode prog_12_method_40_code 144 = .ok (.invokevirtual 175, 3) := by decide +kernel
theorem d_M_reckons_147 : decode prog_12_method_40_code 147 = .ok (.return_, 1) := by decide +kernel
def rm_c_M_reckons : Room := { frames := 3, cells := 0, slots := 0, locals := 74 }
set_option maxHeartbeats 4000000 in
set_option maxRecDepth 100000 in
theorem c_M_reckons (l : Launch) (E : kE) (mo mb mm mw mh ml len en gas ctr siz hgt frm ret : Nat) (on ay : Bool) (g : Nat → Nat) (hg : ∀ j, g j < 65536) (o : Nat) (ho : 1 ≤ o ∧ o ≤ 11 ∧ o ≠ 10) : Kv l y_M_reckons (kW y_M_reckons prog_12_method_40_code 2 (none)) rm_c_M_reckons E [.ref mo, .int (nI o)] [(mo, .inr (8, [.int (nI len), .ref mb, .int (kb on), .int (nI en), .int (nI gas), .int (nI ctr), .int (nI siz), .int (nI hgt), .int (nI frm), .int (nI ret), .ref mm, .ref mw, .ref mh, .ref ml, .int (kb ay)])), (mw, .inl (E.2.1 0, 370, .inl (nF g)))] (S := Nat → Nat) (fun u => qE g u (m_op o (gv g 256 16) (gv g 272 16) (gv g 288 16))) (fun u => [(mo, .inr (8, [.int (nI len), .ref mb, .int (kb on), .int (nI en), .int (nI gas), .int (nI ctr), .int (nI siz), .int (nI hgt), .int (nI frm), .int (nI ret), .ref mm, .ref mw, .ref mh, .ref ml, .int (kb ay)])), (mw, .inl (E.2.1 0, 370, .inl (nF u)))]) := by
  refine Kv.ofW (cc := prog_12_method_40_code) (maxL := 2) (by decide) (Nat.le_of_ble_eq_true rfl) ?_
  intro p e s m args below meth c A ls Q hx hb hts hown hml hK hG hA hP hD hS hl hret
  have hl : lv_has ls 2 [(0, .ref mo), (1, .int (nI o))] := hl
  rcases (by omega : o = 1 ∨ o = 2 ∨ o = 3 ∨ o = 4 ∨ o = 5 ∨ o = 6 ∨ o = 7 ∨ o = 8 ∨ o = 9 ∨ o = 11) with rfl | rfl | rfl | rfl | rfl | rfl | rfl | rfl | rfl | rfl
  · skip
    refine lv_iload_n hx hb d_M_reckons_0 rfl (lv_at hl 1 rfl) ?_
    refine lv_iconst (v := nI 3) hx hb d_M_reckons_1 (by decide) ?_
    refine kn_ne (tgt := 12) hx hb (by omega) (by omega) d_M_reckons_2 (by decide) (fun h2 => ?_) (fun h2 => ?_)
    · refine lv_iload_n hx hb d_M_reckons_12 rfl (lv_at hl 1 rfl) ?_
      refine lv_iconst (v := nI 1) hx hb d_M_reckons_13 (by decide) ?_
      refine kn_eq (tgt := 28) hx hb (by omega) (by omega) d_M_reckons_14 (by decide) (fun h14 => ?_) (fun h14 => ?_)
      · refine lv_aload_n hx hb d_M_reckons_28 rfl (lv_at hl 0 rfl) ?_
        refine k_Vv (As := []) (rest := []) ⟨hx, hb, hml, hown, hts⟩ (c_M_sum l E mo mb mm mw mh ml len en gas ctr siz hgt frm ret on ay g hg) (k_cwV 0 hts t_889 t_891 t_39 t_71 t_892 (by decide +kernel) ⟨Nat.le_of_ble_eq_true rfl, Nat.le_of_ble_eq_true rfl⟩) hK hG hA hP hD hS [0, 1] rfl (by decide) 0 rfl rfl (fun _ => rfl) rfl hl.1 rfl (Nat.le_of_ble_eq_true rfl) d_M_reckons_29 ⟨Nat.zero_le _, Nat.zero_le _⟩ (fun u2 H locs hu2 hP hD hS => ?_)
        have hP : va_P E.1 vwCl [(mo, .inr (8, [.int (nI len), .ref mb, .int (kb on), .int (nI en), .int (nI gas), .int (nI ctr), .int (nI siz), .int (nI hgt), .int (nI frm), .int (nI ret), .ref mm, .ref mw, .ref mh, .ref ml, .int (kb ay)])), (mw, .inl (E.2.1 0, 370, .inl (nF u2)))] H := hP
        have hD : va_D A [(mo, .inr (8, [.int (nI len), .ref mb, .int (kb on), .int (nI en), .int (nI gas), .int (nI ctr), .int (nI siz), .int (nI hgt), .int (nI frm), .int (nI ret), .ref mm, .ref mw, .ref mh, .ref ml, .int (kb ay)])), (mw, .inl (E.2.1 0, 370, .inl (nF u2)))] := hD
        refine lv_iload_n hx hb d_M_reckons_32 rfl (lv_at hl 1 rfl) ?_
        refine lv_iconst (v := nI 2) hx hb d_M_reckons_33 (by decide) ?_
        refine kn_eq (tgt := 43) hx hb (by omega) (by omega) d_M_reckons_34 (by decide) (fun h34 => ?_) (fun h34 => ?_)
        · omega
        · refine lv_iload_n hx hb d_M_reckons_37 rfl (lv_at hl 1 rfl) ?_
          refine lv_bipush (v := nI 9) hx hb d_M_reckons_38 (by decide) ?_
          refine kn_ne (tgt := 47) hx hb (by omega) (by omega) d_M_reckons_40 (by decide) (fun h40 => ?_) (fun h40 => ?_)
          · refine lv_iload_n hx hb d_M_reckons_47 rfl (lv_at hl 1 rfl) ?_
            refine lv_iconst (v := nI 3) hx hb d_M_reckons_48 (by decide) ?_
            refine kn_gt (tgt := 65) hx hb (by omega) (by omega) d_M_reckons_49 (by decide) (fun h49 => ?_) (fun h49 => ?_)
            · omega
            · refine lv_aload_n hx hb d_M_reckons_52 rfl (lv_at hl 0 rfl) ?_
              refine lv_sipush (v := nI 304) hx hb d_M_reckons_53 (by decide) ?_
              refine lv_sipush (v := nI 320) hx hb d_M_reckons_56 (by decide) ?_
              refine k_Vv (As := [.int (nI 304), .int (nI 320)]) (rest := []) ⟨hx, hb, hml, hown, hts⟩ (c_M_copy l E mo mb mm mw mh ml len en gas ctr siz hgt frm ret on ay u2 hu2.2.2 304 320 (by decide) (by decide) (by decide)) (k_cwV 2 hts t_873 t_875 t_35 t_71 t_876 (by decide +kernel) ⟨Nat.le_of_ble_eq_true rfl, Nat.le_of_ble_eq_true rfl⟩) hK hG hA hP hD hS [0, 1] rfl (by decide) 0 rfl rfl (fun _ => rfl) rfl hl.1 rfl (Nat.le_of_ble_eq_true rfl) d_M_reckons_59 ⟨Nat.zero_le _, Nat.zero_le _⟩ (fun u9 H locs hu9 hP hD hS => ?_)
              have hP : va_P E.1 vwCl [(mo, .inr (8, [.int (nI len), .ref mb, .int (kb on), .int (nI en), .int (nI gas), .int (nI ctr), .int (nI siz), .int (nI hgt), .int (nI frm), .int (nI ret), .ref mm, .ref mw, .ref mh, .ref ml, .int (kb ay)])), (mw, .inl (E.2.1 0, 370, .inl (nF (cpy u2 304 320))))] H := hP
              have hD : va_D A [(mo, .inr (8, [.int (nI len), .ref mb, .int (kb on), .int (nI en), .int (nI gas), .int (nI ctr), .int (nI siz), .int (nI hgt), .int (nI frm), .int (nI ret), .ref mm, .ref mw, .ref mh, .ref ml, .int (kb ay)])), (mw, .inl (E.2.1 0, 370, .inl (nF (cpy u2 304 320))))] := hD
              refine lv_goto (tgt := 147) hx hb d_M_reckons_62 (by decide) ?_
              exact hret _ ls _ _ (cpy u2 304 320) d_M_reckons_147 (by rw [mo_1]; exact rk_1 hu2) hP hS
          · omega
      · omega
    · omega
  · skip
    refine lv_iload_n hx hb d_M_reckons_0 rfl (lv_at hl 1 rfl) ?_
    refine lv_iconst (v := nI 3) hx hb d_M_reckons_1 (by decide) ?_
    refine kn_ne (tgt := 12) hx hb (by omega) (by omega) d_M_reckons_2 (by decide) (fun h2 => ?_) (fun h2 => ?_)
    · refine lv_iload_n hx hb d_M_reckons_12 rfl (lv_at hl 1 rfl) ?_
      refine lv_iconst (v := nI 1) hx hb d_M_reckons_13 (by decide) ?_
      refine kn_eq (tgt := 28) hx hb (by omega) (by omega) d_M_reckons_14 (by decide) (fun h14 => ?_) (fun h14 => ?_)
      · omega
      · refine lv_iload_n hx hb d_M_reckons_17 rfl (lv_at hl 1 rfl) ?_
        refine lv_iconst (v := nI 3) hx hb d_M_reckons_18 (by decide) ?_
        refine kn_eq (tgt := 28) hx hb (by omega) (by omega) d_M_reckons_19 (by decide) (fun h19 => ?_) (fun h19 => ?_)
        · omega
        · refine lv_iload_n hx hb d_M_reckons_22 rfl (lv_at hl 1 rfl) ?_
          refine lv_bipush (v := nI 8) hx hb d_M_reckons_23 (by decide) ?_
          refine kn_ne (tgt := 32) hx hb (by omega) (by omega) d_M_reckons_25 (by decide) (fun h25 => ?_) (fun h25 => ?_)
          · refine lv_iload_n hx hb d_M_reckons_32 rfl (lv_at hl 1 rfl) ?_
            refine lv_iconst (v := nI 2) hx hb d_M_reckons_33 (by decide) ?_
            refine kn_eq (tgt := 43) hx hb (by omega) (by omega) d_M_reckons_34 (by decide) (fun h34 => ?_) (fun h34 => ?_)
            · refine lv_aload_n hx hb d_M_reckons_43 rfl (lv_at hl 0 rfl) ?_
              refine k_Vv (As := []) (rest := []) ⟨hx, hb, hml, hown, hts⟩ (c_M_product l E mo mb mm mw mh ml len en gas ctr siz hgt frm ret on ay g hg) (k_cwV 0 hts t_893 t_895 t_40 t_71 t_896 (by decide +kernel) ⟨Nat.le_of_ble_eq_true rfl, Nat.le_of_ble_eq_true rfl⟩) hK hG hA hP hD hS [0, 1] rfl (by decide) 0 rfl rfl (fun _ => rfl) rfl hl.1 rfl (Nat.le_of_ble_eq_true rfl) d_M_reckons_44 ⟨Nat.zero_le _, Nat.zero_le _⟩ (fun u2 H locs hu2 hP hD hS => ?_)
              have hP : va_P E.1 vwCl [(mo, .inr (8, [.int (nI len), .ref mb, .int (kb on), .int (nI en), .int (nI gas), .int (nI ctr), .int (nI siz), .int (nI hgt), .int (nI frm), .int (nI ret), .ref mm, .ref mw, .ref mh, .ref ml, .int (kb ay)])), (mw, .inl (E.2.1 0, 370, .inl (nF u2)))] H := hP
              have hD : va_D A [(mo, .inr (8, [.int (nI len), .ref mb, .int (kb on), .int (nI en), .int (nI gas), .int (nI ctr), .int (nI siz), .int (nI hgt), .int (nI frm), .int (nI ret), .ref mm, .ref mw, .ref mh, .ref ml, .int (kb ay)])), (mw, .inl (E.2.1 0, 370, .inl (nF u2)))] := hD
              refine lv_iload_n hx hb d_M_reckons_47 rfl (lv_at hl 1 rfl) ?_
              refine lv_iconst (v := nI 3) hx hb d_M_reckons_48 (by decide) ?_
              refine kn_gt (tgt := 65) hx hb (by omega) (by omega) d_M_reckons_49 (by decide) (fun h49 => ?_) (fun h49 => ?_)
              · omega
              · refine lv_aload_n hx hb d_M_reckons_52 rfl (lv_at hl 0 rfl) ?_
                refine lv_sipush (v := nI 304) hx hb d_M_reckons_53 (by decide) ?_
                refine lv_sipush (v := nI 320) hx hb d_M_reckons_56 (by decide) ?_
                refine k_Vv (As := [.int (nI 304), .int (nI 320)]) (rest := []) ⟨hx, hb, hml, hown, hts⟩ (c_M_copy l E mo mb mm mw mh ml len en gas ctr siz hgt frm ret on ay u2 hu2.2.2 304 320 (by decide) (by decide) (by decide)) (k_cwV 2 hts t_873 t_875 t_35 t_71 t_876 (by decide +kernel) ⟨Nat.le_of_ble_eq_true rfl, Nat.le_of_ble_eq_true rfl⟩) hK hG hA hP hD hS [0, 1] rfl (by decide) 0 rfl rfl (fun _ => rfl) rfl hl.1 rfl (Nat.le_of_ble_eq_true rfl) d_M_reckons_59 ⟨Nat.zero_le _, Nat.zero_le _⟩ (fun u9 H locs hu9 hP hD hS => ?_)
                have hP : va_P E.1 vwCl [(mo, .inr (8, [.int (nI len), .ref mb, .int (kb on), .int (nI en), .int (nI gas), .int (nI ctr), .int (nI siz), .int (nI hgt), .int (nI frm), .int (nI ret), .ref mm, .ref mw, .ref mh, .ref ml, .int (kb ay)])), (mw, .inl (E.2.1 0, 370, .inl (nF (cpy u2 304 320))))] H := hP
                have hD : va_D A [(mo, .inr (8, [.int (nI len), .ref mb, .int (kb on), .int (nI en), .int (nI gas), .int (nI ctr), .int (nI siz), .int (nI hgt), .int (nI frm), .int (nI ret), .ref mm, .ref mw, .ref mh, .ref ml, .int (kb ay)])), (mw, .inl (E.2.1 0, 370, .inl (nF (cpy u2 304 320))))] := hD
                refine lv_goto (tgt := 147) hx hb d_M_reckons_62 (by decide) ?_
                exact hret _ ls _ _ (cpy u2 304 320) d_M_reckons_147 (by rw [mo_2]; exact rk_2 hu2) hP hS
            · omega
          · omega
    · omega
  · skip
    refine lv_iload_n hx hb d_M_reckons_0 rfl (lv_at hl 1 rfl) ?_
    refine lv_iconst (v := nI 3) hx hb d_M_reckons_1 (by decide) ?_
    refine kn_ne (tgt := 12) hx hb (by omega) (by omega) d_M_reckons_2 (by decide) (fun h2 => ?_) (fun h2 => ?_)
    · omega
    · refine lv_aload_n hx hb d_M_reckons_5 rfl (lv_at hl 0 rfl) ?_
      refine lv_sipush (v := nI 272) hx hb d_M_reckons_6 (by decide) ?_
      refine k_Vv (As := [.int (nI 272)]) (rest := []) ⟨hx, hb, hml, hown, hts⟩ (c_M_negate l E mo mb mm mw mh ml len en gas ctr siz hgt frm ret on ay g hg 272 (by decide)) (k_cwV 1 hts t_885 t_887 t_38 t_71 t_888 (by decide +kernel) ⟨Nat.le_of_ble_eq_true rfl, Nat.le_of_ble_eq_true rfl⟩) hK hG hA hP hD hS [0, 1] rfl (by decide) 0 rfl rfl (fun _ => rfl) rfl hl.1 rfl (Nat.le_of_ble_eq_true rfl) d_M_reckons_9 ⟨Nat.zero_le _, Nat.zero_le _⟩ (fun u1 H locs hu1 hP hD hS => ?_)
      have hP : va_P E.1 vwCl [(mo, .inr (8, [.int (nI len), .ref mb, .int (kb on), .int (nI en), .int (nI gas), .int (nI ctr), .int (nI siz), .int (nI hgt), .int (nI frm), .int (nI ret), .ref mm, .ref mw, .ref mh, .ref ml, .int (kb ay)])), (mw, .inl (E.2.1 0, 370, .inl (nF u1)))] H := hP
      have hD : va_D A [(mo, .inr (8, [.int (nI len), .ref mb, .int (kb on), .int (nI en), .int (nI gas), .int (nI ctr), .int (nI siz), .int (nI hgt), .int (nI frm), .int (nI ret), .ref mm, .ref mw, .ref mh, .ref ml, .int (kb ay)])), (mw, .inl (E.2.1 0, 370, .inl (nF u1)))] := hD
      refine lv_iload_n hx hb d_M_reckons_12 rfl (lv_at hl 1 rfl) ?_
      refine lv_iconst (v := nI 1) hx hb d_M_reckons_13 (by decide) ?_
      refine kn_eq (tgt := 28) hx hb (by omega) (by omega) d_M_reckons_14 (by decide) (fun h14 => ?_) (fun h14 => ?_)
      · omega
      · refine lv_iload_n hx hb d_M_reckons_17 rfl (lv_at hl 1 rfl) ?_
        refine lv_iconst (v := nI 3) hx hb d_M_reckons_18 (by decide) ?_
        refine kn_eq (tgt := 28) hx hb (by omega) (by omega) d_M_reckons_19 (by decide) (fun h19 => ?_) (fun h19 => ?_)
        · refine lv_aload_n hx hb d_M_reckons_28 rfl (lv_at hl 0 rfl) ?_
          refine k_Vv (As := []) (rest := []) ⟨hx, hb, hml, hown, hts⟩ (c_M_sum l E mo mb mm mw mh ml len en gas ctr siz hgt frm ret on ay u1 hu1.2.2) (k_cwV 0 hts t_889 t_891 t_39 t_71 t_892 (by decide +kernel) ⟨Nat.le_of_ble_eq_true rfl, Nat.le_of_ble_eq_true rfl⟩) hK hG hA hP hD hS [0, 1] rfl (by decide) 0 rfl rfl (fun _ => rfl) rfl hl.1 rfl (Nat.le_of_ble_eq_true rfl) d_M_reckons_29 ⟨Nat.zero_le _, Nat.zero_le _⟩ (fun u2 H locs hu2 hP hD hS => ?_)
          have hP : va_P E.1 vwCl [(mo, .inr (8, [.int (nI len), .ref mb, .int (kb on), .int (nI en), .int (nI gas), .int (nI ctr), .int (nI siz), .int (nI hgt), .int (nI frm), .int (nI ret), .ref mm, .ref mw, .ref mh, .ref ml, .int (kb ay)])), (mw, .inl (E.2.1 0, 370, .inl (nF u2)))] H := hP
          have hD : va_D A [(mo, .inr (8, [.int (nI len), .ref mb, .int (kb on), .int (nI en), .int (nI gas), .int (nI ctr), .int (nI siz), .int (nI hgt), .int (nI frm), .int (nI ret), .ref mm, .ref mw, .ref mh, .ref ml, .int (kb ay)])), (mw, .inl (E.2.1 0, 370, .inl (nF u2)))] := hD
          refine lv_iload_n hx hb d_M_reckons_32 rfl (lv_at hl 1 rfl) ?_
          refine lv_iconst (v := nI 2) hx hb d_M_reckons_33 (by decide) ?_
          refine kn_eq (tgt := 43) hx hb (by omega) (by omega) d_M_reckons_34 (by decide) (fun h34 => ?_) (fun h34 => ?_)
          · omega
          · refine lv_iload_n hx hb d_M_reckons_37 rfl (lv_at hl 1 rfl) ?_
            refine lv_bipush (v := nI 9) hx hb d_M_reckons_38 (by decide) ?_
            refine kn_ne (tgt := 47) hx hb (by omega) (by omega) d_M_reckons_40 (by decide) (fun h40 => ?_) (fun h40 => ?_)
            · refine lv_iload_n hx hb d_M_reckons_47 rfl (lv_at hl 1 rfl) ?_
              refine lv_iconst (v := nI 3) hx hb d_M_reckons_48 (by decide) ?_
              refine kn_gt (tgt := 65) hx hb (by omega) (by omega) d_M_reckons_49 (by decide) (fun h49 => ?_) (fun h49 => ?_)
              · omega
              · refine lv_aload_n hx hb d_M_reckons_52 rfl (lv_at hl 0 rfl) ?_
                refine lv_sipush (v := nI 304) hx hb d_M_reckons_53 (by decide) ?_
                refine lv_sipush (v := nI 320) hx hb d_M_reckons_56 (by decide) ?_
                refine k_Vv (As := [.int (nI 304), .int (nI 320)]) (rest := []) ⟨hx, hb, hml, hown, hts⟩ (c_M_copy l E mo mb mm mw mh ml len en gas ctr siz hgt frm ret on ay u2 hu2.2.2 304 320 (by decide) (by decide) (by decide)) (k_cwV 2 hts t_873 t_875 t_35 t_71 t_876 (by decide +kernel) ⟨Nat.le_of_ble_eq_true rfl, Nat.le_of_ble_eq_true rfl⟩) hK hG hA hP hD hS [0, 1] rfl (by decide) 0 rfl rfl (fun _ => rfl) rfl hl.1 rfl (Nat.le_of_ble_eq_true rfl) d_M_reckons_59 ⟨Nat.zero_le _, Nat.zero_le _⟩ (fun u9 H locs hu9 hP hD hS => ?_)
                have hP : va_P E.1 vwCl [(mo, .inr (8, [.int (nI len), .ref mb, .int (kb on), .int (nI en), .int (nI gas), .int (nI ctr), .int (nI siz), .int (nI hgt), .int (nI frm), .int (nI ret), .ref mm, .ref mw, .ref mh, .ref ml, .int (kb ay)])), (mw, .inl (E.2.1 0, 370, .inl (nF (cpy u2 304 320))))] H := hP
                have hD : va_D A [(mo, .inr (8, [.int (nI len), .ref mb, .int (kb on), .int (nI en), .int (nI gas), .int (nI ctr), .int (nI siz), .int (nI hgt), .int (nI frm), .int (nI ret), .ref mm, .ref mw, .ref mh, .ref ml, .int (kb ay)])), (mw, .inl (E.2.1 0, 370, .inl (nF (cpy u2 304 320))))] := hD
                refine lv_goto (tgt := 147) hx hb d_M_reckons_62 (by decide) ?_
                exact hret _ ls _ _ (cpy u2 304 320) d_M_reckons_147 (by rw [mo_3]; exact rk_3 hu1 hu2) hP hS
            · omega
        · omega
  · skip
    refine lv_iload_n hx hb d_M_reckons_0 rfl (lv_at hl 1 rfl) ?_
    refine lv_iconst (v := nI 3) hx hb d_M_reckons_1 (by decide) ?_
    refine kn_ne (tgt := 12) hx hb (by omega) (by omega) d_M_reckons_2 (by decide) (fun h2 => ?_) (fun h2 => ?_)
    · refine lv_iload_n hx hb d_M_reckons_12 rfl (lv_at hl 1 rfl) ?_
      refine lv_iconst (v := nI 1) hx hb d_M_reckons_13 (by decide) ?_
      refine kn_eq (tgt := 28) hx hb (by omega) (by omega) d_M_reckons_14 (by decide) (fun h14 => ?_) (fun h14 => ?_)
      · omega
      · refine lv_iload_n hx hb d_M_reckons_17 rfl (lv_at hl 1 rfl) ?_
        refine lv_iconst (v := nI 3) hx hb d_M_reckons_18 (by decide) ?_
        refine kn_eq (tgt := 28) hx hb (by omega) (by omega) d_M_reckons_19 (by decide) (fun h19 => ?_) (fun h19 => ?_)
        · omega
        · refine lv_iload_n hx hb d_M_reckons_22 rfl (lv_at hl 1 rfl) ?_
          refine lv_bipush (v := nI 8) hx hb d_M_reckons_23 (by decide) ?_
          refine kn_ne (tgt := 32) hx hb (by omega) (by omega) d_M_reckons_25 (by decide) (fun h25 => ?_) (fun h25 => ?_)
          · refine lv_iload_n hx hb d_M_reckons_32 rfl (lv_at hl 1 rfl) ?_
            refine lv_iconst (v := nI 2) hx hb d_M_reckons_33 (by decide) ?_
            refine kn_eq (tgt := 43) hx hb (by omega) (by omega) d_M_reckons_34 (by decide) (fun h34 => ?_) (fun h34 => ?_)
            · omega
            · refine lv_iload_n hx hb d_M_reckons_37 rfl (lv_at hl 1 rfl) ?_
              refine lv_bipush (v := nI 9) hx hb d_M_reckons_38 (by decide) ?_
              refine kn_ne (tgt := 47) hx hb (by omega) (by omega) d_M_reckons_40 (by decide) (fun h40 => ?_) (fun h40 => ?_)
              · refine lv_iload_n hx hb d_M_reckons_47 rfl (lv_at hl 1 rfl) ?_
                refine lv_iconst (v := nI 3) hx hb d_M_reckons_48 (by decide) ?_
                refine kn_gt (tgt := 65) hx hb (by omega) (by omega) d_M_reckons_49 (by decide) (fun h49 => ?_) (fun h49 => ?_)
                · refine lv_iload_n hx hb d_M_reckons_65 rfl (lv_at hl 1 rfl) ?_
                  refine lv_bipush (v := nI 8) hx hb d_M_reckons_66 (by decide) ?_
                  refine kn_eq (tgt := 77) hx hb (by omega) (by omega) d_M_reckons_68 (by decide) (fun h68 => ?_) (fun h68 => ?_)
                  · omega
                  · refine lv_iload_n hx hb d_M_reckons_71 rfl (lv_at hl 1 rfl) ?_
                    refine lv_bipush (v := nI 9) hx hb d_M_reckons_72 (by decide) ?_
                    refine kn_ne (tgt := 97) hx hb (by omega) (by omega) d_M_reckons_74 (by decide) (fun h74 => ?_) (fun h74 => ?_)
                    · refine lv_iload_n hx hb d_M_reckons_97 rfl (lv_at hl 1 rfl) ?_
                      refine lv_bipush (v := nI 11) hx hb d_M_reckons_98 (by decide) ?_
                      refine kn_ne (tgt := 110) hx hb (by omega) (by omega) d_M_reckons_100 (by decide) (fun h100 => ?_) (fun h100 => ?_)
                      · refine lv_aload_n hx hb d_M_reckons_110 rfl (lv_at hl 0 rfl) ?_
                        refine lv_iload_n hx hb d_M_reckons_111 rfl (lv_at hl 1 rfl) ?_
                        refine lv_iconst (v := nI 5) hx hb d_M_reckons_112 (by decide) ?_
                        refine kn_eq (tgt := 122) hx hb (by omega) (by omega) d_M_reckons_113 (by decide) (fun h113 => ?_) (fun h113 => ?_)
                        · omega
                        · refine lv_iload_n hx hb d_M_reckons_116 rfl (lv_at hl 1 rfl) ?_
                          refine lv_bipush (v := nI 7) hx hb d_M_reckons_117 (by decide) ?_
                          refine kn_ne (tgt := 126) hx hb (by omega) (by omega) d_M_reckons_119 (by decide) (fun h119 => ?_) (fun h119 => ?_)
                          · refine lv_iconst (v := nI 0) hx hb d_M_reckons_126 (by decide) ?_
                            refine lv_iload_n hx hb d_M_reckons_127 rfl (lv_at hl 1 rfl) ?_
                            refine lv_bipush (v := nI 6) hx hb d_M_reckons_128 (by decide) ?_
                            refine kn_eq (tgt := 139) hx hb (by omega) (by omega) d_M_reckons_130 (by decide) (fun h130 => ?_) (fun h130 => ?_)
                            · omega
                            · refine lv_iload_n hx hb d_M_reckons_133 rfl (lv_at hl 1 rfl) ?_
                              refine lv_bipush (v := nI 7) hx hb d_M_reckons_134 (by decide) ?_
                              refine kn_ne (tgt := 143) hx hb (by omega) (by omega) d_M_reckons_136 (by decide) (fun h136 => ?_) (fun h136 => ?_)
                              · refine lv_iconst (v := nI 0) hx hb d_M_reckons_143 (by decide) ?_
                                have hst : (.int (nI 0) :: .int (nI 0) :: .ref mo :: [] : List Value) = .int (kb false) :: .int (kb false) :: .ref mo :: [] := rfl
                                rw [hst]
                                refine k_Vv (As := [.int (kb false), .int (kb false)]) (rest := []) ⟨hx, hb, hml, hown, hts⟩ (c_M_quotient l E mo mb mm mw mh ml len en gas ctr siz hgt frm ret on ay g hg false false) (k_cwV 2 hts t_918 t_920 t_46 t_71 t_921 (by decide +kernel) ⟨Nat.le_of_ble_eq_true rfl, Nat.le_of_ble_eq_true rfl⟩) hK hG hA hP hD hS [0, 1] rfl (by decide) 0 rfl rfl (fun _ => rfl) rfl hl.1 rfl (Nat.le_of_ble_eq_true rfl) d_M_reckons_144 ⟨Nat.zero_le _, Nat.zero_le _⟩ (fun u4 H locs hu4 hP hD hS => ?_)
                                have hP : va_P E.1 vwCl [(mo, .inr (8, [.int (nI len), .ref mb, .int (kb on), .int (nI en), .int (nI gas), .int (nI ctr), .int (nI siz), .int (nI hgt), .int (nI frm), .int (nI ret), .ref mm, .ref mw, .ref mh, .ref ml, .int (kb ay)])), (mw, .inl (E.2.1 0, 370, .inl (nF u4)))] H := hP
                                have hD : va_D A [(mo, .inr (8, [.int (nI len), .ref mb, .int (kb on), .int (nI en), .int (nI gas), .int (nI ctr), .int (nI siz), .int (nI hgt), .int (nI frm), .int (nI ret), .ref mm, .ref mw, .ref mh, .ref ml, .int (kb ay)])), (mw, .inl (E.2.1 0, 370, .inl (nF u4)))] := hD
                                exact hret _ ls _ _ (u4) d_M_reckons_147 (by rw [mo_4]; exact (by rw [← quo_4]; exact hu4)) hP hS
                              · omega
                          · omega
                      · omega
                    · omega
                · omega
              · omega
          · omega
    · omega
  · skip
    refine lv_iload_n hx hb d_M_reckons_0 rfl (lv_at hl 1 rfl) ?_
    refine lv_iconst (v := nI 3) hx hb d_M_reckons_1 (by decide) ?_
    refine kn_ne (tgt := 12) hx hb (by omega) (by omega) d_M_reckons_2 (by decide) (fun h2 => ?_) (fun h2 => ?_)
    · refine lv_iload_n hx hb d_M_reckons_12 rfl (lv_at hl 1 rfl) ?_
      refine lv_iconst (v := nI 1) hx hb d_M_reckons_13 (by decide) ?_
      refine kn_eq (tgt := 28) hx hb (by omega) (by omega) d_M_reckons_14 (by decide) (fun h14 => ?_) (fun h14 => ?_)
      · omega
      · refine lv_iload_n hx hb d_M_reckons_17 rfl (lv_at hl 1 rfl) ?_
        refine lv_iconst (v := nI 3) hx hb d_M_reckons_18 (by decide) ?_
        refine kn_eq (tgt := 28) hx hb (by omega) (by omega) d_M_reckons_19 (by decide) (fun h19 => ?_) (fun h19 => ?_)
        · omega
        · refine lv_iload_n hx hb d_M_reckons_22 rfl (lv_at hl 1 rfl) ?_
          refine lv_bipush (v := nI 8) hx hb d_M_reckons_23 (by decide) ?_
          refine kn_ne (tgt := 32) hx hb (by omega) (by omega) d_M_reckons_25 (by decide) (fun h25 => ?_) (fun h25 => ?_)
          · refine lv_iload_n hx hb d_M_reckons_32 rfl (lv_at hl 1 rfl) ?_
            refine lv_iconst (v := nI 2) hx hb d_M_reckons_33 (by decide) ?_
            refine kn_eq (tgt := 43) hx hb (by omega) (by omega) d_M_reckons_34 (by decide) (fun h34 => ?_) (fun h34 => ?_)
            · omega
            · refine lv_iload_n hx hb d_M_reckons_37 rfl (lv_at hl 1 rfl) ?_
              refine lv_bipush (v := nI 9) hx hb d_M_reckons_38 (by decide) ?_
              refine kn_ne (tgt := 47) hx hb (by omega) (by omega) d_M_reckons_40 (by decide) (fun h40 => ?_) (fun h40 => ?_)
              · refine lv_iload_n hx hb d_M_reckons_47 rfl (lv_at hl 1 rfl) ?_
                refine lv_iconst (v := nI 3) hx hb d_M_reckons_48 (by decide) ?_
                refine kn_gt (tgt := 65) hx hb (by omega) (by omega) d_M_reckons_49 (by decide) (fun h49 => ?_) (fun h49 => ?_)
                · refine lv_iload_n hx hb d_M_reckons_65 rfl (lv_at hl 1 rfl) ?_
                  refine lv_bipush (v := nI 8) hx hb d_M_reckons_66 (by decide) ?_
                  refine kn_eq (tgt := 77) hx hb (by omega) (by omega) d_M_reckons_68 (by decide) (fun h68 => ?_) (fun h68 => ?_)
                  · omega
                  · refine lv_iload_n hx hb d_M_reckons_71 rfl (lv_at hl 1 rfl) ?_
                    refine lv_bipush (v := nI 9) hx hb d_M_reckons_72 (by decide) ?_
                    refine kn_ne (tgt := 97) hx hb (by omega) (by omega) d_M_reckons_74 (by decide) (fun h74 => ?_) (fun h74 => ?_)
                    · refine lv_iload_n hx hb d_M_reckons_97 rfl (lv_at hl 1 rfl) ?_
                      refine lv_bipush (v := nI 11) hx hb d_M_reckons_98 (by decide) ?_
                      refine kn_ne (tgt := 110) hx hb (by omega) (by omega) d_M_reckons_100 (by decide) (fun h100 => ?_) (fun h100 => ?_)
                      · refine lv_aload_n hx hb d_M_reckons_110 rfl (lv_at hl 0 rfl) ?_
                        refine lv_iload_n hx hb d_M_reckons_111 rfl (lv_at hl 1 rfl) ?_
                        refine lv_iconst (v := nI 5) hx hb d_M_reckons_112 (by decide) ?_
                        refine kn_eq (tgt := 122) hx hb (by omega) (by omega) d_M_reckons_113 (by decide) (fun h113 => ?_) (fun h113 => ?_)
                        · refine lv_iconst (v := nI 1) hx hb d_M_reckons_122 (by decide) ?_
                          refine lv_goto (tgt := 127) hx hb d_M_reckons_123 (by decide) ?_
                          refine lv_iload_n hx hb d_M_reckons_127 rfl (lv_at hl 1 rfl) ?_
                          refine lv_bipush (v := nI 6) hx hb d_M_reckons_128 (by decide) ?_
                          refine kn_eq (tgt := 139) hx hb (by omega) (by omega) d_M_reckons_130 (by decide) (fun h130 => ?_) (fun h130 => ?_)
                          · omega
                          · refine lv_iload_n hx hb d_M_reckons_133 rfl (lv_at hl 1 rfl) ?_
                            refine lv_bipush (v := nI 7) hx hb d_M_reckons_134 (by decide) ?_
                            refine kn_ne (tgt := 143) hx hb (by omega) (by omega) d_M_reckons_136 (by decide) (fun h136 => ?_) (fun h136 => ?_)
                            · refine lv_iconst (v := nI 0) hx hb d_M_reckons_143 (by decide) ?_
                              have hst : (.int (nI 0) :: .int (nI 1) :: .ref mo :: [] : List Value) = .int (kb false) :: .int (kb true) :: .ref mo :: [] := rfl
                              rw [hst]
                              refine k_Vv (As := [.int (kb true), .int (kb false)]) (rest := []) ⟨hx, hb, hml, hown, hts⟩ (c_M_quotient l E mo mb mm mw mh ml len en gas ctr siz hgt frm ret on ay g hg true false) (k_cwV 2 hts t_918 t_920 t_46 t_71 t_921 (by decide +kernel) ⟨Nat.le_of_ble_eq_true rfl, Nat.le_of_ble_eq_true rfl⟩) hK hG hA hP hD hS [0, 1] rfl (by decide) 0 rfl rfl (fun _ => rfl) rfl hl.1 rfl (Nat.le_of_ble_eq_true rfl) d_M_reckons_144 ⟨Nat.zero_le _, Nat.zero_le _⟩ (fun u4 H locs hu4 hP hD hS => ?_)
                              have hP : va_P E.1 vwCl [(mo, .inr (8, [.int (nI len), .ref mb, .int (kb on), .int (nI en), .int (nI gas), .int (nI ctr), .int (nI siz), .int (nI hgt), .int (nI frm), .int (nI ret), .ref mm, .ref mw, .ref mh, .ref ml, .int (kb ay)])), (mw, .inl (E.2.1 0, 370, .inl (nF u4)))] H := hP
                              have hD : va_D A [(mo, .inr (8, [.int (nI len), .ref mb, .int (kb on), .int (nI en), .int (nI gas), .int (nI ctr), .int (nI siz), .int (nI hgt), .int (nI frm), .int (nI ret), .ref mm, .ref mw, .ref mh, .ref ml, .int (kb ay)])), (mw, .inl (E.2.1 0, 370, .inl (nF u4)))] := hD
                              exact hret _ ls _ _ (u4) d_M_reckons_147 (by rw [mo_5]; exact (by rw [← quo_5]; exact hu4)) hP hS
                            · omega
                        · omega
                      · omega
                    · omega
                · omega
              · omega
          · omega
    · omega
  · skip
    refine lv_iload_n hx hb d_M_reckons_0 rfl (lv_at hl 1 rfl) ?_
    refine lv_iconst (v := nI 3) hx hb d_M_reckons_1 (by decide) ?_
    refine kn_ne (tgt := 12) hx hb (by omega) (by omega) d_M_reckons_2 (by decide) (fun h2 => ?_) (fun h2 => ?_)
    · refine lv_iload_n hx hb d_M_reckons_12 rfl (lv_at hl 1 rfl) ?_
      refine lv_iconst (v := nI 1) hx hb d_M_reckons_13 (by decide) ?_
      refine kn_eq (tgt := 28) hx hb (by omega) (by omega) d_M_reckons_14 (by decide) (fun h14 => ?_) (fun h14 => ?_)
      · omega
      · refine lv_iload_n hx hb d_M_reckons_17 rfl (lv_at hl 1 rfl) ?_
        refine lv_iconst (v := nI 3) hx hb d_M_reckons_18 (by decide) ?_
        refine kn_eq (tgt := 28) hx hb (by omega) (by omega) d_M_reckons_19 (by decide) (fun h19 => ?_) (fun h19 => ?_)
        · omega
        · refine lv_iload_n hx hb d_M_reckons_22 rfl (lv_at hl 1 rfl) ?_
          refine lv_bipush (v := nI 8) hx hb d_M_reckons_23 (by decide) ?_
          refine kn_ne (tgt := 32) hx hb (by omega) (by omega) d_M_reckons_25 (by decide) (fun h25 => ?_) (fun h25 => ?_)
          · refine lv_iload_n hx hb d_M_reckons_32 rfl (lv_at hl 1 rfl) ?_
            refine lv_iconst (v := nI 2) hx hb d_M_reckons_33 (by decide) ?_
            refine kn_eq (tgt := 43) hx hb (by omega) (by omega) d_M_reckons_34 (by decide) (fun h34 => ?_) (fun h34 => ?_)
            · omega
            · refine lv_iload_n hx hb d_M_reckons_37 rfl (lv_at hl 1 rfl) ?_
              refine lv_bipush (v := nI 9) hx hb d_M_reckons_38 (by decide) ?_
              refine kn_ne (tgt := 47) hx hb (by omega) (by omega) d_M_reckons_40 (by decide) (fun h40 => ?_) (fun h40 => ?_)
              · refine lv_iload_n hx hb d_M_reckons_47 rfl (lv_at hl 1 rfl) ?_
                refine lv_iconst (v := nI 3) hx hb d_M_reckons_48 (by decide) ?_
                refine kn_gt (tgt := 65) hx hb (by omega) (by omega) d_M_reckons_49 (by decide) (fun h49 => ?_) (fun h49 => ?_)
                · refine lv_iload_n hx hb d_M_reckons_65 rfl (lv_at hl 1 rfl) ?_
                  refine lv_bipush (v := nI 8) hx hb d_M_reckons_66 (by decide) ?_
                  refine kn_eq (tgt := 77) hx hb (by omega) (by omega) d_M_reckons_68 (by decide) (fun h68 => ?_) (fun h68 => ?_)
                  · omega
                  · refine lv_iload_n hx hb d_M_reckons_71 rfl (lv_at hl 1 rfl) ?_
                    refine lv_bipush (v := nI 9) hx hb d_M_reckons_72 (by decide) ?_
                    refine kn_ne (tgt := 97) hx hb (by omega) (by omega) d_M_reckons_74 (by decide) (fun h74 => ?_) (fun h74 => ?_)
                    · refine lv_iload_n hx hb d_M_reckons_97 rfl (lv_at hl 1 rfl) ?_
                      refine lv_bipush (v := nI 11) hx hb d_M_reckons_98 (by decide) ?_
                      refine kn_ne (tgt := 110) hx hb (by omega) (by omega) d_M_reckons_100 (by decide) (fun h100 => ?_) (fun h100 => ?_)
                      · refine lv_aload_n hx hb d_M_reckons_110 rfl (lv_at hl 0 rfl) ?_
                        refine lv_iload_n hx hb d_M_reckons_111 rfl (lv_at hl 1 rfl) ?_
                        refine lv_iconst (v := nI 5) hx hb d_M_reckons_112 (by decide) ?_
                        refine kn_eq (tgt := 122) hx hb (by omega) (by omega) d_M_reckons_113 (by decide) (fun h113 => ?_) (fun h113 => ?_)
                        · omega
                        · refine lv_iload_n hx hb d_M_reckons_116 rfl (lv_at hl 1 rfl) ?_
                          refine lv_bipush (v := nI 7) hx hb d_M_reckons_117 (by decide) ?_
                          refine kn_ne (tgt := 126) hx hb (by omega) (by omega) d_M_reckons_119 (by decide) (fun h119 => ?_) (fun h119 => ?_)
                          · refine lv_iconst (v := nI 0) hx hb d_M_reckons_126 (by decide) ?_
                            refine lv_iload_n hx hb d_M_reckons_127 rfl (lv_at hl 1 rfl) ?_
                            refine lv_bipush (v := nI 6) hx hb d_M_reckons_128 (by decide) ?_
                            refine kn_eq (tgt := 139) hx hb (by omega) (by omega) d_M_reckons_130 (by decide) (fun h130 => ?_) (fun h130 => ?_)
                            · refine lv_iconst (v := nI 1) hx hb d_M_reckons_139 (by decide) ?_
                              refine lv_goto (tgt := 144) hx hb d_M_reckons_140 (by decide) ?_
                              have hst : (.int (nI 1) :: .int (nI 0) :: .ref mo :: [] : List Value) = .int (kb true) :: .int (kb false) :: .ref mo :: [] := rfl
                              rw [hst]
                              refine k_Vv (As := [.int (kb false), .int (kb true)]) (rest := []) ⟨hx, hb, hml, hown, hts⟩ (c_M_quotient l E mo mb mm mw mh ml len en gas ctr siz hgt frm ret on ay g hg false true) (k_cwV 2 hts t_918 t_920 t_46 t_71 t_921 (by decide +kernel) ⟨Nat.le_of_ble_eq_true rfl, Nat.le_of_ble_eq_true rfl⟩) hK hG hA hP hD hS [0, 1] rfl (by decide) 0 rfl rfl (fun _ => rfl) rfl hl.1 rfl (Nat.le_of_ble_eq_true rfl) d_M_reckons_144 ⟨Nat.zero_le _, Nat.zero_le _⟩ (fun u4 H locs hu4 hP hD hS => ?_)
                              have hP : va_P E.1 vwCl [(mo, .inr (8, [.int (nI len), .ref mb, .int (kb on), .int (nI en), .int (nI gas), .int (nI ctr), .int (nI siz), .int (nI hgt), .int (nI frm), .int (nI ret), .ref mm, .ref mw, .ref mh, .ref ml, .int (kb ay)])), (mw, .inl (E.2.1 0, 370, .inl (nF u4)))] H := hP
                              have hD : va_D A [(mo, .inr (8, [.int (nI len), .ref mb, .int (kb on), .int (nI en), .int (nI gas), .int (nI ctr), .int (nI siz), .int (nI hgt), .int (nI frm), .int (nI ret), .ref mm, .ref mw, .ref mh, .ref ml, .int (kb ay)])), (mw, .inl (E.2.1 0, 370, .inl (nF u4)))] := hD
                              exact hret _ ls _ _ (u4) d_M_reckons_147 (by rw [mo_6]; exact (by rw [← quo_6]; exact hu4)) hP hS
                            · omega
                          · omega
                      · omega
                    · omega
                · omega
              · omega
          · omega
    · omega
  · skip
    refine lv_iload_n hx hb d_M_reckons_0 rfl (lv_at hl 1 rfl) ?_
    refine lv_iconst (v := nI 3) hx hb d_M_reckons_1 (by decide) ?_
    refine kn_ne (tgt := 12) hx hb (by omega) (by omega) d_M_reckons_2 (by decide) (fun h2 => ?_) (fun h2 => ?_)
    · refine lv_iload_n hx hb d_M_reckons_12 rfl (lv_at hl 1 rfl) ?_
      refine lv_iconst (v := nI 1) hx hb d_M_reckons_13 (by decide) ?_
      refine kn_eq (tgt := 28) hx hb (by omega) (by omega) d_M_reckons_14 (by decide) (fun h14 => ?_) (fun h14 => ?_)
      · omega
      · refine lv_iload_n hx hb d_M_reckons_17 rfl (lv_at hl 1 rfl) ?_
        refine lv_iconst (v := nI 3) hx hb d_M_reckons_18 (by decide) ?_
        refine kn_eq (tgt := 28) hx hb (by omega) (by omega) d_M_reckons_19 (by decide) (fun h19 => ?_) (fun h19 => ?_)
        · omega
        · refine lv_iload_n hx hb d_M_reckons_22 rfl (lv_at hl 1 rfl) ?_
          refine lv_bipush (v := nI 8) hx hb d_M_reckons_23 (by decide) ?_
          refine kn_ne (tgt := 32) hx hb (by omega) (by omega) d_M_reckons_25 (by decide) (fun h25 => ?_) (fun h25 => ?_)
          · refine lv_iload_n hx hb d_M_reckons_32 rfl (lv_at hl 1 rfl) ?_
            refine lv_iconst (v := nI 2) hx hb d_M_reckons_33 (by decide) ?_
            refine kn_eq (tgt := 43) hx hb (by omega) (by omega) d_M_reckons_34 (by decide) (fun h34 => ?_) (fun h34 => ?_)
            · omega
            · refine lv_iload_n hx hb d_M_reckons_37 rfl (lv_at hl 1 rfl) ?_
              refine lv_bipush (v := nI 9) hx hb d_M_reckons_38 (by decide) ?_
              refine kn_ne (tgt := 47) hx hb (by omega) (by omega) d_M_reckons_40 (by decide) (fun h40 => ?_) (fun h40 => ?_)
              · refine lv_iload_n hx hb d_M_reckons_47 rfl (lv_at hl 1 rfl) ?_
                refine lv_iconst (v := nI 3) hx hb d_M_reckons_48 (by decide) ?_
                refine kn_gt (tgt := 65) hx hb (by omega) (by omega) d_M_reckons_49 (by decide) (fun h49 => ?_) (fun h49 => ?_)
                · refine lv_iload_n hx hb d_M_reckons_65 rfl (lv_at hl 1 rfl) ?_
                  refine lv_bipush (v := nI 8) hx hb d_M_reckons_66 (by decide) ?_
                  refine kn_eq (tgt := 77) hx hb (by omega) (by omega) d_M_reckons_68 (by decide) (fun h68 => ?_) (fun h68 => ?_)
                  · omega
                  · refine lv_iload_n hx hb d_M_reckons_71 rfl (lv_at hl 1 rfl) ?_
                    refine lv_bipush (v := nI 9) hx hb d_M_reckons_72 (by decide) ?_
                    refine kn_ne (tgt := 97) hx hb (by omega) (by omega) d_M_reckons_74 (by decide) (fun h74 => ?_) (fun h74 => ?_)
                    · refine lv_iload_n hx hb d_M_reckons_97 rfl (lv_at hl 1 rfl) ?_
                      refine lv_bipush (v := nI 11) hx hb d_M_reckons_98 (by decide) ?_
                      refine kn_ne (tgt := 110) hx hb (by omega) (by omega) d_M_reckons_100 (by decide) (fun h100 => ?_) (fun h100 => ?_)
                      · refine lv_aload_n hx hb d_M_reckons_110 rfl (lv_at hl 0 rfl) ?_
                        refine lv_iload_n hx hb d_M_reckons_111 rfl (lv_at hl 1 rfl) ?_
                        refine lv_iconst (v := nI 5) hx hb d_M_reckons_112 (by decide) ?_
                        refine kn_eq (tgt := 122) hx hb (by omega) (by omega) d_M_reckons_113 (by decide) (fun h113 => ?_) (fun h113 => ?_)
                        · omega
                        · refine lv_iload_n hx hb d_M_reckons_116 rfl (lv_at hl 1 rfl) ?_
                          refine lv_bipush (v := nI 7) hx hb d_M_reckons_117 (by decide) ?_
                          refine kn_ne (tgt := 126) hx hb (by omega) (by omega) d_M_reckons_119 (by decide) (fun h119 => ?_) (fun h119 => ?_)
                          · omega
                          · refine lv_iconst (v := nI 1) hx hb d_M_reckons_122 (by decide) ?_
                            refine lv_goto (tgt := 127) hx hb d_M_reckons_123 (by decide) ?_
                            refine lv_iload_n hx hb d_M_reckons_127 rfl (lv_at hl 1 rfl) ?_
                            refine lv_bipush (v := nI 6) hx hb d_M_reckons_128 (by decide) ?_
                            refine kn_eq (tgt := 139) hx hb (by omega) (by omega) d_M_reckons_130 (by decide) (fun h130 => ?_) (fun h130 => ?_)
                            · omega
                            · refine lv_iload_n hx hb d_M_reckons_133 rfl (lv_at hl 1 rfl) ?_
                              refine lv_bipush (v := nI 7) hx hb d_M_reckons_134 (by decide) ?_
                              refine kn_ne (tgt := 143) hx hb (by omega) (by omega) d_M_reckons_136 (by decide) (fun h136 => ?_) (fun h136 => ?_)
                              · omega
                              · refine lv_iconst (v := nI 1) hx hb d_M_reckons_139 (by decide) ?_
                                refine lv_goto (tgt := 144) hx hb d_M_reckons_140 (by decide) ?_
                                have hst : (.int (nI 1) :: .int (nI 1) :: .ref mo :: [] : List Value) = .int (kb true) :: .int (kb true) :: .ref mo :: [] := rfl
                                rw [hst]
                                refine k_Vv (As := [.int (kb true), .int (kb true)]) (rest := []) ⟨hx, hb, hml, hown, hts⟩ (c_M_quotient l E mo mb mm mw mh ml len en gas ctr siz hgt frm ret on ay g hg true true) (k_cwV 2 hts t_918 t_920 t_46 t_71 t_921 (by decide +kernel) ⟨Nat.le_of_ble_eq_true rfl, Nat.le_of_ble_eq_true rfl⟩) hK hG hA hP hD hS [0, 1] rfl (by decide) 0 rfl rfl (fun _ => rfl) rfl hl.1 rfl (Nat.le_of_ble_eq_true rfl) d_M_reckons_144 ⟨Nat.zero_le _, Nat.zero_le _⟩ (fun u4 H locs hu4 hP hD hS => ?_)
                                have hP : va_P E.1 vwCl [(mo, .inr (8, [.int (nI len), .ref mb, .int (kb on), .int (nI en), .int (nI gas), .int (nI ctr), .int (nI siz), .int (nI hgt), .int (nI frm), .int (nI ret), .ref mm, .ref mw, .ref mh, .ref ml, .int (kb ay)])), (mw, .inl (E.2.1 0, 370, .inl (nF u4)))] H := hP
                                have hD : va_D A [(mo, .inr (8, [.int (nI len), .ref mb, .int (kb on), .int (nI en), .int (nI gas), .int (nI ctr), .int (nI siz), .int (nI hgt), .int (nI frm), .int (nI ret), .ref mm, .ref mw, .ref mh, .ref ml, .int (kb ay)])), (mw, .inl (E.2.1 0, 370, .inl (nF u4)))] := hD
                                exact hret _ ls _ _ (u4) d_M_reckons_147 (by rw [mo_7]; exact (by rw [← quo_7]; exact hu4)) hP hS
                      · omega
                    · omega
                · omega
              · omega
          · omega
    · omega
  · skip
    refine lv_iload_n hx hb d_M_reckons_0 rfl (lv_at hl 1 rfl) ?_
    refine lv_iconst (v := nI 3) hx hb d_M_reckons_1 (by decide) ?_
    refine kn_ne (tgt := 12) hx hb (by omega) (by omega) d_M_reckons_2 (by decide) (fun h2 => ?_) (fun h2 => ?_)
    · refine lv_iload_n hx hb d_M_reckons_12 rfl (lv_at hl 1 rfl) ?_
      refine lv_iconst (v := nI 1) hx hb d_M_reckons_13 (by decide) ?_
      refine kn_eq (tgt := 28) hx hb (by omega) (by omega) d_M_reckons_14 (by decide) (fun h14 => ?_) (fun h14 => ?_)
      · omega
      · refine lv_iload_n hx hb d_M_reckons_17 rfl (lv_at hl 1 rfl) ?_
        refine lv_iconst (v := nI 3) hx hb d_M_reckons_18 (by decide) ?_
        refine kn_eq (tgt := 28) hx hb (by omega) (by omega) d_M_reckons_19 (by decide) (fun h19 => ?_) (fun h19 => ?_)
        · omega
        · refine lv_iload_n hx hb d_M_reckons_22 rfl (lv_at hl 1 rfl) ?_
          refine lv_bipush (v := nI 8) hx hb d_M_reckons_23 (by decide) ?_
          refine kn_ne (tgt := 32) hx hb (by omega) (by omega) d_M_reckons_25 (by decide) (fun h25 => ?_) (fun h25 => ?_)
          · omega
          · refine lv_aload_n hx hb d_M_reckons_28 rfl (lv_at hl 0 rfl) ?_
            refine k_Vv (As := []) (rest := []) ⟨hx, hb, hml, hown, hts⟩ (c_M_sum l E mo mb mm mw mh ml len en gas ctr siz hgt frm ret on ay g hg) (k_cwV 0 hts t_889 t_891 t_39 t_71 t_892 (by decide +kernel) ⟨Nat.le_of_ble_eq_true rfl, Nat.le_of_ble_eq_true rfl⟩) hK hG hA hP hD hS [0, 1] rfl (by decide) 0 rfl rfl (fun _ => rfl) rfl hl.1 rfl (Nat.le_of_ble_eq_true rfl) d_M_reckons_29 ⟨Nat.zero_le _, Nat.zero_le _⟩ (fun u2 H locs hu2 hP hD hS => ?_)
            have hP : va_P E.1 vwCl [(mo, .inr (8, [.int (nI len), .ref mb, .int (kb on), .int (nI en), .int (nI gas), .int (nI ctr), .int (nI siz), .int (nI hgt), .int (nI frm), .int (nI ret), .ref mm, .ref mw, .ref mh, .ref ml, .int (kb ay)])), (mw, .inl (E.2.1 0, 370, .inl (nF u2)))] H := hP
            have hD : va_D A [(mo, .inr (8, [.int (nI len), .ref mb, .int (kb on), .int (nI en), .int (nI gas), .int (nI ctr), .int (nI siz), .int (nI hgt), .int (nI frm), .int (nI ret), .ref mm, .ref mw, .ref mh, .ref ml, .int (kb ay)])), (mw, .inl (E.2.1 0, 370, .inl (nF u2)))] := hD
            refine lv_iload_n hx hb d_M_reckons_32 rfl (lv_at hl 1 rfl) ?_
            refine lv_iconst (v := nI 2) hx hb d_M_reckons_33 (by decide) ?_
            refine kn_eq (tgt := 43) hx hb (by omega) (by omega) d_M_reckons_34 (by decide) (fun h34 => ?_) (fun h34 => ?_)
            · omega
            · refine lv_iload_n hx hb d_M_reckons_37 rfl (lv_at hl 1 rfl) ?_
              refine lv_bipush (v := nI 9) hx hb d_M_reckons_38 (by decide) ?_
              refine kn_ne (tgt := 47) hx hb (by omega) (by omega) d_M_reckons_40 (by decide) (fun h40 => ?_) (fun h40 => ?_)
              · refine lv_iload_n hx hb d_M_reckons_47 rfl (lv_at hl 1 rfl) ?_
                refine lv_iconst (v := nI 3) hx hb d_M_reckons_48 (by decide) ?_
                refine kn_gt (tgt := 65) hx hb (by omega) (by omega) d_M_reckons_49 (by decide) (fun h49 => ?_) (fun h49 => ?_)
                · refine lv_iload_n hx hb d_M_reckons_65 rfl (lv_at hl 1 rfl) ?_
                  refine lv_bipush (v := nI 8) hx hb d_M_reckons_66 (by decide) ?_
                  refine kn_eq (tgt := 77) hx hb (by omega) (by omega) d_M_reckons_68 (by decide) (fun h68 => ?_) (fun h68 => ?_)
                  · refine lv_aload_n hx hb d_M_reckons_77 rfl (lv_at hl 0 rfl) ?_
                    refine lv_sipush (v := nI 288) hx hb d_M_reckons_78 (by decide) ?_
                    refine k_Vv (As := [.int (nI 288)]) (rest := []) ⟨hx, hb, hml, hown, hts⟩ (c_M_divide l E mo mb mm mw mh ml len en gas ctr siz hgt frm ret on ay u2 hu2.2.2 288 (by decide)) (k_cwV 1 hts t_898 t_900 t_41 t_71 t_901 (by decide +kernel) ⟨Nat.le_of_ble_eq_true rfl, Nat.le_of_ble_eq_true rfl⟩) hK hG hA hP hD hS [0, 1] rfl (by decide) 0 rfl rfl (fun _ => rfl) rfl hl.1 rfl (Nat.le_of_ble_eq_true rfl) d_M_reckons_81 ⟨Nat.zero_le _, Nat.zero_le _⟩ (fun u3 H locs hu3 hP hD hS => ?_)
                    have hP : va_P E.1 vwCl [(mo, .inr (8, [.int (nI len), .ref mb, .int (kb on), .int (nI en), .int (nI gas), .int (nI ctr), .int (nI siz), .int (nI hgt), .int (nI frm), .int (nI ret), .ref mm, .ref mw, .ref mh, .ref ml, .int (kb ay)])), (mw, .inl (E.2.1 0, 370, .inl (nF u3)))] H := hP
                    have hD : va_D A [(mo, .inr (8, [.int (nI len), .ref mb, .int (kb on), .int (nI en), .int (nI gas), .int (nI ctr), .int (nI siz), .int (nI hgt), .int (nI frm), .int (nI ret), .ref mm, .ref mw, .ref mh, .ref ml, .int (kb ay)])), (mw, .inl (E.2.1 0, 370, .inl (nF u3)))] := hD
                    refine lv_aload_n hx hb d_M_reckons_84 rfl (lv_at hl 0 rfl) ?_
                    refine lv_sipush (v := nI 304) hx hb d_M_reckons_85 (by decide) ?_
                    refine lv_sipush (v := nI 353) hx hb d_M_reckons_88 (by decide) ?_
                    refine k_Vv (As := [.int (nI 304), .int (nI 353)]) (rest := []) ⟨hx, hb, hml, hown, hts⟩ (c_M_copy l E mo mb mm mw mh ml len en gas ctr siz hgt frm ret on ay u3 hu3.2.2.2 304 353 (by decide) (by decide) (by decide)) (k_cwV 2 hts t_873 t_875 t_35 t_71 t_876 (by decide +kernel) ⟨Nat.le_of_ble_eq_true rfl, Nat.le_of_ble_eq_true rfl⟩) hK hG hA hP hD hS [0, 1] rfl (by decide) 0 rfl rfl (fun _ => rfl) rfl hl.1 rfl (Nat.le_of_ble_eq_true rfl) d_M_reckons_91 ⟨Nat.zero_le _, Nat.zero_le _⟩ (fun u9 H locs hu9 hP hD hS => ?_)
                    have hP : va_P E.1 vwCl [(mo, .inr (8, [.int (nI len), .ref mb, .int (kb on), .int (nI en), .int (nI gas), .int (nI ctr), .int (nI siz), .int (nI hgt), .int (nI frm), .int (nI ret), .ref mm, .ref mw, .ref mh, .ref ml, .int (kb ay)])), (mw, .inl (E.2.1 0, 370, .inl (nF (cpy u3 304 353))))] H := hP
                    have hD : va_D A [(mo, .inr (8, [.int (nI len), .ref mb, .int (kb on), .int (nI en), .int (nI gas), .int (nI ctr), .int (nI siz), .int (nI hgt), .int (nI frm), .int (nI ret), .ref mm, .ref mw, .ref mh, .ref ml, .int (kb ay)])), (mw, .inl (E.2.1 0, 370, .inl (nF (cpy u3 304 353))))] := hD
                    refine lv_goto (tgt := 147) hx hb d_M_reckons_94 (by decide) ?_
                    exact hret _ ls _ _ (cpy u3 304 353) d_M_reckons_147 (by rw [mo_8]; exact rk_r hg hu2.1 hu2.2.1 hu3) hP hS
                  · omega
                · omega
              · omega
    · omega
  · skip
    refine lv_iload_n hx hb d_M_reckons_0 rfl (lv_at hl 1 rfl) ?_
    refine lv_iconst (v := nI 3) hx hb d_M_reckons_1 (by decide) ?_
    refine kn_ne (tgt := 12) hx hb (by omega) (by omega) d_M_reckons_2 (by decide) (fun h2 => ?_) (fun h2 => ?_)
    · refine lv_iload_n hx hb d_M_reckons_12 rfl (lv_at hl 1 rfl) ?_
      refine lv_iconst (v := nI 1) hx hb d_M_reckons_13 (by decide) ?_
      refine kn_eq (tgt := 28) hx hb (by omega) (by omega) d_M_reckons_14 (by decide) (fun h14 => ?_) (fun h14 => ?_)
      · omega
      · refine lv_iload_n hx hb d_M_reckons_17 rfl (lv_at hl 1 rfl) ?_
        refine lv_iconst (v := nI 3) hx hb d_M_reckons_18 (by decide) ?_
        refine kn_eq (tgt := 28) hx hb (by omega) (by omega) d_M_reckons_19 (by decide) (fun h19 => ?_) (fun h19 => ?_)
        · omega
        · refine lv_iload_n hx hb d_M_reckons_22 rfl (lv_at hl 1 rfl) ?_
          refine lv_bipush (v := nI 8) hx hb d_M_reckons_23 (by decide) ?_
          refine kn_ne (tgt := 32) hx hb (by omega) (by omega) d_M_reckons_25 (by decide) (fun h25 => ?_) (fun h25 => ?_)
          · refine lv_iload_n hx hb d_M_reckons_32 rfl (lv_at hl 1 rfl) ?_
            refine lv_iconst (v := nI 2) hx hb d_M_reckons_33 (by decide) ?_
            refine kn_eq (tgt := 43) hx hb (by omega) (by omega) d_M_reckons_34 (by decide) (fun h34 => ?_) (fun h34 => ?_)
            · omega
            · refine lv_iload_n hx hb d_M_reckons_37 rfl (lv_at hl 1 rfl) ?_
              refine lv_bipush (v := nI 9) hx hb d_M_reckons_38 (by decide) ?_
              refine kn_ne (tgt := 47) hx hb (by omega) (by omega) d_M_reckons_40 (by decide) (fun h40 => ?_) (fun h40 => ?_)
              · omega
              · refine lv_aload_n hx hb d_M_reckons_43 rfl (lv_at hl 0 rfl) ?_
                refine k_Vv (As := []) (rest := []) ⟨hx, hb, hml, hown, hts⟩ (c_M_product l E mo mb mm mw mh ml len en gas ctr siz hgt frm ret on ay g hg) (k_cwV 0 hts t_893 t_895 t_40 t_71 t_896 (by decide +kernel) ⟨Nat.le_of_ble_eq_true rfl, Nat.le_of_ble_eq_true rfl⟩) hK hG hA hP hD hS [0, 1] rfl (by decide) 0 rfl rfl (fun _ => rfl) rfl hl.1 rfl (Nat.le_of_ble_eq_true rfl) d_M_reckons_44 ⟨Nat.zero_le _, Nat.zero_le _⟩ (fun u2 H locs hu2 hP hD hS => ?_)
                have hP : va_P E.1 vwCl [(mo, .inr (8, [.int (nI len), .ref mb, .int (kb on), .int (nI en), .int (nI gas), .int (nI ctr), .int (nI siz), .int (nI hgt), .int (nI frm), .int (nI ret), .ref mm, .ref mw, .ref mh, .ref ml, .int (kb ay)])), (mw, .inl (E.2.1 0, 370, .inl (nF u2)))] H := hP
                have hD : va_D A [(mo, .inr (8, [.int (nI len), .ref mb, .int (kb on), .int (nI en), .int (nI gas), .int (nI ctr), .int (nI siz), .int (nI hgt), .int (nI frm), .int (nI ret), .ref mm, .ref mw, .ref mh, .ref ml, .int (kb ay)])), (mw, .inl (E.2.1 0, 370, .inl (nF u2)))] := hD
                refine lv_iload_n hx hb d_M_reckons_47 rfl (lv_at hl 1 rfl) ?_
                refine lv_iconst (v := nI 3) hx hb d_M_reckons_48 (by decide) ?_
                refine kn_gt (tgt := 65) hx hb (by omega) (by omega) d_M_reckons_49 (by decide) (fun h49 => ?_) (fun h49 => ?_)
                · refine lv_iload_n hx hb d_M_reckons_65 rfl (lv_at hl 1 rfl) ?_
                  refine lv_bipush (v := nI 8) hx hb d_M_reckons_66 (by decide) ?_
                  refine kn_eq (tgt := 77) hx hb (by omega) (by omega) d_M_reckons_68 (by decide) (fun h68 => ?_) (fun h68 => ?_)
                  · omega
                  · refine lv_iload_n hx hb d_M_reckons_71 rfl (lv_at hl 1 rfl) ?_
                    refine lv_bipush (v := nI 9) hx hb d_M_reckons_72 (by decide) ?_
                    refine kn_ne (tgt := 97) hx hb (by omega) (by omega) d_M_reckons_74 (by decide) (fun h74 => ?_) (fun h74 => ?_)
                    · omega
                    · refine lv_aload_n hx hb d_M_reckons_77 rfl (lv_at hl 0 rfl) ?_
                      refine lv_sipush (v := nI 288) hx hb d_M_reckons_78 (by decide) ?_
                      refine k_Vv (As := [.int (nI 288)]) (rest := []) ⟨hx, hb, hml, hown, hts⟩ (c_M_divide l E mo mb mm mw mh ml len en gas ctr siz hgt frm ret on ay u2 hu2.2.2 288 (by decide)) (k_cwV 1 hts t_898 t_900 t_41 t_71 t_901 (by decide +kernel) ⟨Nat.le_of_ble_eq_true rfl, Nat.le_of_ble_eq_true rfl⟩) hK hG hA hP hD hS [0, 1] rfl (by decide) 0 rfl rfl (fun _ => rfl) rfl hl.1 rfl (Nat.le_of_ble_eq_true rfl) d_M_reckons_81 ⟨Nat.zero_le _, Nat.zero_le _⟩ (fun u3 H locs hu3 hP hD hS => ?_)
                      have hP : va_P E.1 vwCl [(mo, .inr (8, [.int (nI len), .ref mb, .int (kb on), .int (nI en), .int (nI gas), .int (nI ctr), .int (nI siz), .int (nI hgt), .int (nI frm), .int (nI ret), .ref mm, .ref mw, .ref mh, .ref ml, .int (kb ay)])), (mw, .inl (E.2.1 0, 370, .inl (nF u3)))] H := hP
                      have hD : va_D A [(mo, .inr (8, [.int (nI len), .ref mb, .int (kb on), .int (nI en), .int (nI gas), .int (nI ctr), .int (nI siz), .int (nI hgt), .int (nI frm), .int (nI ret), .ref mm, .ref mw, .ref mh, .ref ml, .int (kb ay)])), (mw, .inl (E.2.1 0, 370, .inl (nF u3)))] := hD
                      refine lv_aload_n hx hb d_M_reckons_84 rfl (lv_at hl 0 rfl) ?_
                      refine lv_sipush (v := nI 304) hx hb d_M_reckons_85 (by decide) ?_
                      refine lv_sipush (v := nI 353) hx hb d_M_reckons_88 (by decide) ?_
                      refine k_Vv (As := [.int (nI 304), .int (nI 353)]) (rest := []) ⟨hx, hb, hml, hown, hts⟩ (c_M_copy l E mo mb mm mw mh ml len en gas ctr siz hgt frm ret on ay u3 hu3.2.2.2 304 353 (by decide) (by decide) (by decide)) (k_cwV 2 hts t_873 t_875 t_35 t_71 t_876 (by decide +kernel) ⟨Nat.le_of_ble_eq_true rfl, Nat.le_of_ble_eq_true rfl⟩) hK hG hA hP hD hS [0, 1] rfl (by decide) 0 rfl rfl (fun _ => rfl) rfl hl.1 rfl (Nat.le_of_ble_eq_true rfl) d_M_reckons_91 ⟨Nat.zero_le _, Nat.zero_le _⟩ (fun u9 H locs hu9 hP hD hS => ?_)
                      have hP : va_P E.1 vwCl [(mo, .inr (8, [.int (nI len), .ref mb, .int (kb on), .int (nI en), .int (nI gas), .int (nI ctr), .int (nI siz), .int (nI hgt), .int (nI frm), .int (nI ret), .ref mm, .ref mw, .ref mh, .ref ml, .int (kb ay)])), (mw, .inl (E.2.1 0, 370, .inl (nF (cpy u3 304 353))))] H := hP
                      have hD : va_D A [(mo, .inr (8, [.int (nI len), .ref mb, .int (kb on), .int (nI en), .int (nI gas), .int (nI ctr), .int (nI siz), .int (nI hgt), .int (nI frm), .int (nI ret), .ref mm, .ref mw, .ref mh, .ref ml, .int (kb ay)])), (mw, .inl (E.2.1 0, 370, .inl (nF (cpy u3 304 353))))] := hD
                      refine lv_goto (tgt := 147) hx hb d_M_reckons_94 (by decide) ?_
                      exact hret _ ls _ _ (cpy u3 304 353) d_M_reckons_147 (by rw [mo_9]; exact rk_r hg hu2.1 hu2.2.1 hu3) hP hS
                · omega
          · omega
    · omega
  · skip
    refine lv_iload_n hx hb d_M_reckons_0 rfl (lv_at hl 1 rfl) ?_
    refine lv_iconst (v := nI 3) hx hb d_M_reckons_1 (by decide) ?_
    refine kn_ne (tgt := 12) hx hb (by omega) (by omega) d_M_reckons_2 (by decide) (fun h2 => ?_) (fun h2 => ?_)
    · refine lv_iload_n hx hb d_M_reckons_12 rfl (lv_at hl 1 rfl) ?_
      refine lv_iconst (v := nI 1) hx hb d_M_reckons_13 (by decide) ?_
      refine kn_eq (tgt := 28) hx hb (by omega) (by omega) d_M_reckons_14 (by decide) (fun h14 => ?_) (fun h14 => ?_)
      · omega
      · refine lv_iload_n hx hb d_M_reckons_17 rfl (lv_at hl 1 rfl) ?_
        refine lv_iconst (v := nI 3) hx hb d_M_reckons_18 (by decide) ?_
        refine kn_eq (tgt := 28) hx hb (by omega) (by omega) d_M_reckons_19 (by decide) (fun h19 => ?_) (fun h19 => ?_)
        · omega
        · refine lv_iload_n hx hb d_M_reckons_22 rfl (lv_at hl 1 rfl) ?_
          refine lv_bipush (v := nI 8) hx hb d_M_reckons_23 (by decide) ?_
          refine kn_ne (tgt := 32) hx hb (by omega) (by omega) d_M_reckons_25 (by decide) (fun h25 => ?_) (fun h25 => ?_)
          · refine lv_iload_n hx hb d_M_reckons_32 rfl (lv_at hl 1 rfl) ?_
            refine lv_iconst (v := nI 2) hx hb d_M_reckons_33 (by decide) ?_
            refine kn_eq (tgt := 43) hx hb (by omega) (by omega) d_M_reckons_34 (by decide) (fun h34 => ?_) (fun h34 => ?_)
            · omega
            · refine lv_iload_n hx hb d_M_reckons_37 rfl (lv_at hl 1 rfl) ?_
              refine lv_bipush (v := nI 9) hx hb d_M_reckons_38 (by decide) ?_
              refine kn_ne (tgt := 47) hx hb (by omega) (by omega) d_M_reckons_40 (by decide) (fun h40 => ?_) (fun h40 => ?_)
              · refine lv_iload_n hx hb d_M_reckons_47 rfl (lv_at hl 1 rfl) ?_
                refine lv_iconst (v := nI 3) hx hb d_M_reckons_48 (by decide) ?_
                refine kn_gt (tgt := 65) hx hb (by omega) (by omega) d_M_reckons_49 (by decide) (fun h49 => ?_) (fun h49 => ?_)
                · refine lv_iload_n hx hb d_M_reckons_65 rfl (lv_at hl 1 rfl) ?_
                  refine lv_bipush (v := nI 8) hx hb d_M_reckons_66 (by decide) ?_
                  refine kn_eq (tgt := 77) hx hb (by omega) (by omega) d_M_reckons_68 (by decide) (fun h68 => ?_) (fun h68 => ?_)
                  · omega
                  · refine lv_iload_n hx hb d_M_reckons_71 rfl (lv_at hl 1 rfl) ?_
                    refine lv_bipush (v := nI 9) hx hb d_M_reckons_72 (by decide) ?_
                    refine kn_ne (tgt := 97) hx hb (by omega) (by omega) d_M_reckons_74 (by decide) (fun h74 => ?_) (fun h74 => ?_)
                    · refine lv_iload_n hx hb d_M_reckons_97 rfl (lv_at hl 1 rfl) ?_
                      refine lv_bipush (v := nI 11) hx hb d_M_reckons_98 (by decide) ?_
                      refine kn_ne (tgt := 110) hx hb (by omega) (by omega) d_M_reckons_100 (by decide) (fun h100 => ?_) (fun h100 => ?_)
                      · omega
                      · refine lv_aload_n hx hb d_M_reckons_103 rfl (lv_at hl 0 rfl) ?_
                        refine k_Vv (As := []) (rest := []) ⟨hx, hb, hml, hown, hts⟩ (c_M_extend l E mo mb mm mw mh ml len en gas ctr siz hgt frm ret on ay g hg) (k_cwV 0 hts t_910 t_912 t_44 t_71 t_913 (by decide +kernel) ⟨Nat.le_of_ble_eq_true rfl, Nat.le_of_ble_eq_true rfl⟩) hK hG hA hP hD hS [0, 1] rfl (by decide) 0 rfl rfl (fun _ => rfl) rfl hl.1 rfl (Nat.le_of_ble_eq_true rfl) d_M_reckons_104 ⟨Nat.zero_le _, Nat.zero_le _⟩ (fun u4 H locs hu4 hP hD hS => ?_)
                        have hP : va_P E.1 vwCl [(mo, .inr (8, [.int (nI len), .ref mb, .int (kb on), .int (nI en), .int (nI gas), .int (nI ctr), .int (nI siz), .int (nI hgt), .int (nI frm), .int (nI ret), .ref mm, .ref mw, .ref mh, .ref ml, .int (kb ay)])), (mw, .inl (E.2.1 0, 370, .inl (nF u4)))] H := hP
                        have hD : va_D A [(mo, .inr (8, [.int (nI len), .ref mb, .int (kb on), .int (nI en), .int (nI gas), .int (nI ctr), .int (nI siz), .int (nI hgt), .int (nI frm), .int (nI ret), .ref mm, .ref mw, .ref mh, .ref ml, .int (kb ay)])), (mw, .inl (E.2.1 0, 370, .inl (nF u4)))] := hD
                        refine lv_goto (tgt := 147) hx hb d_M_reckons_107 (by decide) ?_
                        exact hret _ ls _ _ (u4) d_M_reckons_147 (by rw [mo_11]; exact ⟨hu4.1, fun j hj => hu4.2.1 j (by omega), hu4.2.2⟩) hP hS
                    · omega
                · omega
              · omega
          · omega
    · omega

abbrev y_M_holds : MethodName := ⟨"WideStackModel", "holds", "(I)Z"⟩
theorem d_M_holds_0 : decode prog_12_method_41_code 0 = .ok (.iload_n 1, 1) := by decide +kernel
theorem d_M_holds_1 : decode prog_12_method_41_code 1 = .ok (.bipush 16, 2) := by decide +kernel
theorem d_M_holds_3 : decode prog_12_method_41_code 3 = .ok (.if_icmp .ne 14, 3) := by decide +kernel
theorem d_M_holds_6 : decode prog_12_method_41_code 6 = .ok (.aload_n 0, 1) := by decide +kernel
theorem d_M_holds_7 : decode prog_12_method_41_code 7 = .ok (.sipush 256, 3) := by decide +kernel
theorem d_M_holds_10 : decode prog_12_method_41_code 10 = .ok (.sipush 272, 3) := by decide +kernel
theorem d_M_holds_13 : decode prog_12_method_41_code 13 = .ok (.invokevirtual 56, 3) := by decide +kernel
theorem d_M_holds_16 : decode prog_12_method_41_code 16 = .ok (.ireturn, 1) := by decide +kernel
theorem d_M_holds_17 : decode prog_12_method_41_code 17 = .ok (.iload_n 1, 1) := by decide +kernel
theorem d_M_holds_18 : decode prog_12_method_41_code 18 = .ok (.bipush 17, 2) := by decide +kernel
theorem d_M_holds_20 : decode prog_12_method_41_code 20 = .ok (.if_icmp .ne 14, 3) := by decide +kernel
theorem d_M_holds_23 : decode prog_12_method_41_code 23 = .ok (.aload_n 0, 1) := by decide +kernel
theorem d_M_holds_24 : decode prog_12_method_41_code 24 = .ok (.sipush 272, 3) := by decide +kernel
theorem d_M_holds_27 : decode prog_12_method_41_code 27 = .ok (.sipush 256, 3) := by decide +kernel
theorem d_M_holds_30 : decode prog_12_method_41_code 30 = .ok (.invokevirtual 56, 3) := by decide +kernel
theorem d_M_holds_33 : decode prog_12_method_41_code 33 = .ok (.ireturn, 1) := by decide +kernel
theorem d_M_holds_34 : decode prog_12_method_41_code 34 = .ok (.iload_n 1, 1) := by decide +kernel
theorem d_M_holds_35 : decode prog_12_method_41_code 35 = .ok (.bipush 18, 2) := by decide +kernel
theorem d_M_holds_37 : decode prog_12_method_41_code 37 = .ok (.if_icmp .ne 14, 3) := by decide +kernel
theorem d_M_holds_40 : decode prog_12_method_41_code 40 = .ok (.aload_n 0, 1) := by decide +kernel
theorem d_M_holds_41 : decode prog_12_method_41_code 41 = .ok (.sipush 256, 3) := by decide +kernel
theorem d_M_holds_44 : decode prog_12_method_41_code 44 = .ok (.sipush 272, 3) := by decide +kernel
theorem d_M_holds_47 : decode prog_12_method_41_code 47 = .ok (.invokevirtual 179, 3) := by decide +kernel
theorem d_M_holds_50 : decode prog_12_method_41_code 50 = .ok (.ireturn, 1) := by decide +kernel
theorem d_M_holds_51 : decode prog_12_method_41_code 51 = .ok (.iload_n 1, 1) := by decide +kernel
theorem d_M_holds_52 : decode prog_12_method_41_code 52 = .ok (.bipush 19, 2) := by decide +kernel
theorem d_M_holds_54 : decode prog_12_method_41_code 54 = .ok (.if_icmp .ne 14, 3) := by decide +kernel
theorem d_M_holds_57 : decode prog_12_method_41_code 57 = .ok (.aload_n 0, 1) := by decide +kernel
theorem d_M_holds_58 : decode prog_12_method_41_code 58 = .ok (.sipush 272, 3) := by decide +kernel
theorem d_M_holds_61 : decode prog_12_method_41_code 61 = .ok (.sipush 256, 3) := by decide +kernel
theorem d_M_holds_64 : decode prog_12_method_41_code 64 = .ok (.invokevirtual 179, 3) := by decide +kernel
theorem d_M_holds_67 : decode prog_12_method_41_code 67 = .ok (.ireturn, 1) := by decide +kernel
theorem d_M_holds_68 : decode prog_12_method_41_code 68 = .ok (.iload_n 1, 1) := by decide +kernel
theorem d_M_holds_69 : decode prog_12_method_41_code 69 = .ok (.bipush 21, 2) := by decide +kernel
theorem d_M_holds_71 : decode prog_12_method_41_code 71 = .ok (.if_icmp .ne 13, 3) := by decide +kernel
theorem d_M_holds_74 : decode prog_12_method_41_code 74 = .ok (.aload_n 0, 1) := by decide +kernel
theorem d_M_holds_75 : decode prog_12_method_41_code 75 = .ok (.sipush 256, 3) := by decide +kernel
theorem d_M_holds_78 : decode prog_12_method_41_code 78 = .ok (.invokevirtual 62, 3) := by decide +kernel
theorem d_M_holds_81 : decode prog_12_method_41_code 81 = .ok (.goto 34, 3) := by decide +kernel
theorem d_M_holds_84 : decode prog_12_method_41_code 84 = .ok (.aload_n 0, 1) := by decide +kernel
theorem d_M_holds_85 : decode prog_12_method_41_code 85 = .ok (.sipush 256, 3) := by decide +kernel
theorem d_M_holds_88 : decode prog_12_method_41_code 88 = .ok (.sipush 272, 3) := by decide +kernel
theorem d_M_holds_91 : decode prog_12_method_41_code 91 = .ok (.invokevirtual 56, 3) := by decide +kernel
theorem d_M_holds_94 : decode prog_12_method_41_code 94 = .ok (.ifCond .ne 20, 3) := by decide +kernel
theorem d_M_holds_97 : decode prog_12_method_41_code 97 = .ok (.aload_n 0, 1) := by decide +kernel
theorem d_M_holds_98 : decode prog_12_method_41_code 98 = .ok (.sipush 272, 3) := by decide +kernel
theorem d_M_holds_101 : decode prog_12_method_41_code 101 = .ok (.sipush 256, 3) := by decide +kernel
theorem d_M_holds_104 : decode prog_12_method_41_code 104 = .ok (.invokevirtual 56, 3) := by decide +kernel
theorem d_M_holds_107 : decode prog_12_method_41_code 107 = .ok (.ifCond .ne 7, 3) := by decide +kernel
theorem d_M_holds_110 : decode prog_12_method_41_code 110 = .ok (.iconst 1, 1) := by decide +kernel
theorem d_M_holds_111 : decode prog_12_method_41_code 111 = .ok (.goto 4, 3) := by decide +kernel
theorem d_M_holds_114 : decode prog_12_method_41_code 114 = .ok (.iconst 0, 1) := by decide +kernel
theorem d_M_holds_115 : decode prog_12_method_41_code 115 = .ok (.ireturn, 1) := by decide +kernel
def rm_c_M_holds : Room := { frames := 2, cells := 0, slots := 0, locals := 45 }
set_option maxHeartbeats 4000000 in
set_option maxRecDepth 100000 in
theorem c_M_holds (l : Launch) (E : kE) (mo mb mm mw mh ml len en gas ctr siz hgt frm ret : Nat) (on ay : Bool) (g : Nat → Nat) (hg : ∀ j, g j < 65536) (o : Nat) (ho : 16 ≤ o ∧ o ≤ 21) : Kp l y_M_holds (kW y_M_holds prog_12_method_41_code 2 (some .boolean)) rm_c_M_holds E [.ref mo, .int (nI o)] [(mo, .inr (8, [.int (nI len), .ref mb, .int (kb on), .int (nI en), .int (nI gas), .int (nI ctr), .int (nI siz), .int (nI hgt), .int (nI frm), .int (nI ret), .ref mm, .ref mw, .ref mh, .ref ml, .int (kb ay)])), (mw, .inl (E.2.1 0, 370, .inl (nF g)))] (fun r => r = kb (m_hold o (gv g 256 16) (gv g 272 16))) := by
  refine Kp.ofZ (cc := prog_12_method_41_code) (maxL := 2) (by decide) (Nat.le_of_ble_eq_true rfl) ?_
  intro p e s m args below meth c A ls Q hx hb hts hown hml hK hG hA hP hD hS hl hret
  have hl : lv_has ls 2 [(0, .ref mo), (1, .int (nI o))] := hl
  rcases (by omega : o = 16 ∨ o = 17 ∨ o = 18 ∨ o = 19 ∨ o = 20 ∨ o = 21) with rfl | rfl | rfl | rfl | rfl | rfl
  · skip
    refine lv_iload_n hx hb d_M_holds_0 rfl (lv_at hl 1 rfl) ?_
    refine lv_bipush (v := nI 16) hx hb d_M_holds_1 (by decide) ?_
    refine kn_ne (tgt := 17) hx hb (by omega) (by omega) d_M_holds_3 (by decide) (fun h3 => ?_) (fun h3 => ?_)
    · omega
    · refine lv_aload_n hx hb d_M_holds_6 rfl (lv_at hl 0 rfl) ?_
      refine lv_sipush (v := nI 256) hx hb d_M_holds_7 (by decide) ?_
      refine lv_sipush (v := nI 272) hx hb d_M_holds_10 (by decide) ?_
      refine k_Vp (As := [.int (nI 256), .int (nI 272)]) (rest := []) ⟨hx, hb, hml, hown, hts⟩ (c_M_below l E mo mb mm mw mh ml len en gas ctr siz hgt frm ret on ay g hg 256 272 (by decide) (by decide)) (k_cwV 2 hts t_934 t_936 t_50 t_71 t_937 (by decide +kernel) ⟨Nat.le_of_ble_eq_true rfl, Nat.le_of_ble_eq_true rfl⟩) hK hG hA hP hD hS [0, 1] rfl (by decide) 0 rfl rfl rfl hl.1 rfl (Nat.le_of_ble_eq_true rfl) d_M_holds_13 ⟨Nat.zero_le _, Nat.zero_le _⟩ (fun r13 hu13 => ?_)
      subst hu13
      exact hret _ ls _ d_M_holds_16 (kb_nar _) (congrArg kb (ho_16 _ _).symm)
  · skip
    refine lv_iload_n hx hb d_M_holds_0 rfl (lv_at hl 1 rfl) ?_
    refine lv_bipush (v := nI 16) hx hb d_M_holds_1 (by decide) ?_
    refine kn_ne (tgt := 17) hx hb (by omega) (by omega) d_M_holds_3 (by decide) (fun h3 => ?_) (fun h3 => ?_)
    · refine lv_iload_n hx hb d_M_holds_17 rfl (lv_at hl 1 rfl) ?_
      refine lv_bipush (v := nI 17) hx hb d_M_holds_18 (by decide) ?_
      refine kn_ne (tgt := 34) hx hb (by omega) (by omega) d_M_holds_20 (by decide) (fun h20 => ?_) (fun h20 => ?_)
      · omega
      · refine lv_aload_n hx hb d_M_holds_23 rfl (lv_at hl 0 rfl) ?_
        refine lv_sipush (v := nI 272) hx hb d_M_holds_24 (by decide) ?_
        refine lv_sipush (v := nI 256) hx hb d_M_holds_27 (by decide) ?_
        refine k_Vp (As := [.int (nI 272), .int (nI 256)]) (rest := []) ⟨hx, hb, hml, hown, hts⟩ (c_M_below l E mo mb mm mw mh ml len en gas ctr siz hgt frm ret on ay g hg 272 256 (by decide) (by decide)) (k_cwV 2 hts t_934 t_936 t_50 t_71 t_937 (by decide +kernel) ⟨Nat.le_of_ble_eq_true rfl, Nat.le_of_ble_eq_true rfl⟩) hK hG hA hP hD hS [0, 1] rfl (by decide) 0 rfl rfl rfl hl.1 rfl (Nat.le_of_ble_eq_true rfl) d_M_holds_30 ⟨Nat.zero_le _, Nat.zero_le _⟩ (fun r30 hu30 => ?_)
        subst hu30
        exact hret _ ls _ d_M_holds_33 (kb_nar _) (congrArg kb (ho_17 _ _).symm)
    · omega
  · skip
    refine lv_iload_n hx hb d_M_holds_0 rfl (lv_at hl 1 rfl) ?_
    refine lv_bipush (v := nI 16) hx hb d_M_holds_1 (by decide) ?_
    refine kn_ne (tgt := 17) hx hb (by omega) (by omega) d_M_holds_3 (by decide) (fun h3 => ?_) (fun h3 => ?_)
    · refine lv_iload_n hx hb d_M_holds_17 rfl (lv_at hl 1 rfl) ?_
      refine lv_bipush (v := nI 17) hx hb d_M_holds_18 (by decide) ?_
      refine kn_ne (tgt := 34) hx hb (by omega) (by omega) d_M_holds_20 (by decide) (fun h20 => ?_) (fun h20 => ?_)
      · refine lv_iload_n hx hb d_M_holds_34 rfl (lv_at hl 1 rfl) ?_
        refine lv_bipush (v := nI 18) hx hb d_M_holds_35 (by decide) ?_
        refine kn_ne (tgt := 51) hx hb (by omega) (by omega) d_M_holds_37 (by decide) (fun h37 => ?_) (fun h37 => ?_)
        · omega
        · refine lv_aload_n hx hb d_M_holds_40 rfl (lv_at hl 0 rfl) ?_
          refine lv_sipush (v := nI 256) hx hb d_M_holds_41 (by decide) ?_
          refine lv_sipush (v := nI 272) hx hb d_M_holds_44 (by decide) ?_
          refine k_Vp (As := [.int (nI 256), .int (nI 272)]) (rest := []) ⟨hx, hb, hml, hown, hts⟩ (c_M_belowSigned l E mo mb mm mw mh ml len en gas ctr siz hgt frm ret on ay g hg 256 272 (by decide) (by decide)) (k_cwV 2 hts t_938 t_940 t_51 t_71 t_941 (by decide +kernel) ⟨Nat.le_of_ble_eq_true rfl, Nat.le_of_ble_eq_true rfl⟩) hK hG hA hP hD hS [0, 1] rfl (by decide) 0 rfl rfl rfl hl.1 rfl (Nat.le_of_ble_eq_true rfl) d_M_holds_47 ⟨Nat.zero_le _, Nat.zero_le _⟩ (fun r47 hu47 => ?_)
          subst hu47
          exact hret _ ls _ d_M_holds_50 (kb_nar _) (congrArg kb (ho_18 _ _).symm)
      · omega
    · omega
  · skip
    refine lv_iload_n hx hb d_M_holds_0 rfl (lv_at hl 1 rfl) ?_
    refine lv_bipush (v := nI 16) hx hb d_M_holds_1 (by decide) ?_
    refine kn_ne (tgt := 17) hx hb (by omega) (by omega) d_M_holds_3 (by decide) (fun h3 => ?_) (fun h3 => ?_)
    · refine lv_iload_n hx hb d_M_holds_17 rfl (lv_at hl 1 rfl) ?_
      refine lv_bipush (v := nI 17) hx hb d_M_holds_18 (by decide) ?_
      refine kn_ne (tgt := 34) hx hb (by omega) (by omega) d_M_holds_20 (by decide) (fun h20 => ?_) (fun h20 => ?_)
      · refine lv_iload_n hx hb d_M_holds_34 rfl (lv_at hl 1 rfl) ?_
        refine lv_bipush (v := nI 18) hx hb d_M_holds_35 (by decide) ?_
        refine kn_ne (tgt := 51) hx hb (by omega) (by omega) d_M_holds_37 (by decide) (fun h37 => ?_) (fun h37 => ?_)
        · refine lv_iload_n hx hb d_M_holds_51 rfl (lv_at hl 1 rfl) ?_
          refine lv_bipush (v := nI 19) hx hb d_M_holds_52 (by decide) ?_
          refine kn_ne (tgt := 68) hx hb (by omega) (by omega) d_M_holds_54 (by decide) (fun h54 => ?_) (fun h54 => ?_)
          · omega
          · refine lv_aload_n hx hb d_M_holds_57 rfl (lv_at hl 0 rfl) ?_
            refine lv_sipush (v := nI 272) hx hb d_M_holds_58 (by decide) ?_
            refine lv_sipush (v := nI 256) hx hb d_M_holds_61 (by decide) ?_
            refine k_Vp (As := [.int (nI 272), .int (nI 256)]) (rest := []) ⟨hx, hb, hml, hown, hts⟩ (c_M_belowSigned l E mo mb mm mw mh ml len en gas ctr siz hgt frm ret on ay g hg 272 256 (by decide) (by decide)) (k_cwV 2 hts t_938 t_940 t_51 t_71 t_941 (by decide +kernel) ⟨Nat.le_of_ble_eq_true rfl, Nat.le_of_ble_eq_true rfl⟩) hK hG hA hP hD hS [0, 1] rfl (by decide) 0 rfl rfl rfl hl.1 rfl (Nat.le_of_ble_eq_true rfl) d_M_holds_64 ⟨Nat.zero_le _, Nat.zero_le _⟩ (fun r64 hu64 => ?_)
            subst hu64
            exact hret _ ls _ d_M_holds_67 (kb_nar _) (congrArg kb (ho_19 _ _).symm)
        · omega
      · omega
    · omega
  · skip
    refine lv_iload_n hx hb d_M_holds_0 rfl (lv_at hl 1 rfl) ?_
    refine lv_bipush (v := nI 16) hx hb d_M_holds_1 (by decide) ?_
    refine kn_ne (tgt := 17) hx hb (by omega) (by omega) d_M_holds_3 (by decide) (fun h3 => ?_) (fun h3 => ?_)
    · refine lv_iload_n hx hb d_M_holds_17 rfl (lv_at hl 1 rfl) ?_
      refine lv_bipush (v := nI 17) hx hb d_M_holds_18 (by decide) ?_
      refine kn_ne (tgt := 34) hx hb (by omega) (by omega) d_M_holds_20 (by decide) (fun h20 => ?_) (fun h20 => ?_)
      · refine lv_iload_n hx hb d_M_holds_34 rfl (lv_at hl 1 rfl) ?_
        refine lv_bipush (v := nI 18) hx hb d_M_holds_35 (by decide) ?_
        refine kn_ne (tgt := 51) hx hb (by omega) (by omega) d_M_holds_37 (by decide) (fun h37 => ?_) (fun h37 => ?_)
        · refine lv_iload_n hx hb d_M_holds_51 rfl (lv_at hl 1 rfl) ?_
          refine lv_bipush (v := nI 19) hx hb d_M_holds_52 (by decide) ?_
          refine kn_ne (tgt := 68) hx hb (by omega) (by omega) d_M_holds_54 (by decide) (fun h54 => ?_) (fun h54 => ?_)
          · refine lv_iload_n hx hb d_M_holds_68 rfl (lv_at hl 1 rfl) ?_
            refine lv_bipush (v := nI 21) hx hb d_M_holds_69 (by decide) ?_
            refine kn_ne (tgt := 84) hx hb (by omega) (by omega) d_M_holds_71 (by decide) (fun h71 => ?_) (fun h71 => ?_)
            · refine lv_aload_n hx hb d_M_holds_84 rfl (lv_at hl 0 rfl) ?_
              refine lv_sipush (v := nI 256) hx hb d_M_holds_85 (by decide) ?_
              refine lv_sipush (v := nI 272) hx hb d_M_holds_88 (by decide) ?_
              refine k_Vp (As := [.int (nI 256), .int (nI 272)]) (rest := []) ⟨hx, hb, hml, hown, hts⟩ (c_M_below l E mo mb mm mw mh ml len en gas ctr siz hgt frm ret on ay g hg 256 272 (by decide) (by decide)) (k_cwV 2 hts t_934 t_936 t_50 t_71 t_937 (by decide +kernel) ⟨Nat.le_of_ble_eq_true rfl, Nat.le_of_ble_eq_true rfl⟩) hK hG hA hP hD hS [0, 1] rfl (by decide) 0 rfl rfl rfl hl.1 rfl (Nat.le_of_ble_eq_true rfl) d_M_holds_91 ⟨Nat.zero_le _, Nat.zero_le _⟩ (fun r91 hu91 => ?_)
              subst hu91
              refine lv_if_ne (tgt := 114) hx hb d_M_holds_94 (by decide) (fun h94 => ?_) (fun h94 => ?_)
              · refine lv_iconst (v := nI 0) hx hb d_M_holds_114 (by decide) ?_
                first | exact hret _ ls _ d_M_holds_115 (by decide) ((hold_20.1 h94 h107).trans (congrArg kb (ho_20 _ _).symm)) | exact hret _ ls _ d_M_holds_115 (by decide) ((hold_20.2.1 h94).trans (congrArg kb (ho_20 _ _).symm)) | exact hret _ ls _ d_M_holds_115 (by decide) ((hold_20.2.2 h107).trans (congrArg kb (ho_20 _ _).symm))
              · refine lv_aload_n hx hb d_M_holds_97 rfl (lv_at hl 0 rfl) ?_
                refine lv_sipush (v := nI 272) hx hb d_M_holds_98 (by decide) ?_
                refine lv_sipush (v := nI 256) hx hb d_M_holds_101 (by decide) ?_
                refine k_Vp (As := [.int (nI 272), .int (nI 256)]) (rest := []) ⟨hx, hb, hml, hown, hts⟩ (c_M_below l E mo mb mm mw mh ml len en gas ctr siz hgt frm ret on ay g hg 272 256 (by decide) (by decide)) (k_cwV 2 hts t_934 t_936 t_50 t_71 t_937 (by decide +kernel) ⟨Nat.le_of_ble_eq_true rfl, Nat.le_of_ble_eq_true rfl⟩) hK hG hA hP hD hS [0, 1] rfl (by decide) 0 rfl rfl rfl hl.1 rfl (Nat.le_of_ble_eq_true rfl) d_M_holds_104 ⟨Nat.zero_le _, Nat.zero_le _⟩ (fun r104 hu104 => ?_)
                subst hu104
                refine lv_if_ne (tgt := 114) hx hb d_M_holds_107 (by decide) (fun h107 => ?_) (fun h107 => ?_)
                · refine lv_iconst (v := nI 0) hx hb d_M_holds_114 (by decide) ?_
                  first | exact hret _ ls _ d_M_holds_115 (by decide) ((hold_20.1 h94 h107).trans (congrArg kb (ho_20 _ _).symm)) | exact hret _ ls _ d_M_holds_115 (by decide) ((hold_20.2.1 h94).trans (congrArg kb (ho_20 _ _).symm)) | exact hret _ ls _ d_M_holds_115 (by decide) ((hold_20.2.2 h107).trans (congrArg kb (ho_20 _ _).symm))
                · refine lv_iconst (v := nI 1) hx hb d_M_holds_110 (by decide) ?_
                  refine lv_goto (tgt := 115) hx hb d_M_holds_111 (by decide) ?_
                  first | exact hret _ ls _ d_M_holds_115 (by decide) ((hold_20.1 h94 h107).trans (congrArg kb (ho_20 _ _).symm)) | exact hret _ ls _ d_M_holds_115 (by decide) ((hold_20.2.1 h94).trans (congrArg kb (ho_20 _ _).symm)) | exact hret _ ls _ d_M_holds_115 (by decide) ((hold_20.2.2 h107).trans (congrArg kb (ho_20 _ _).symm))
            · omega
          · omega
        · omega
      · omega
    · omega
  · skip
    refine lv_iload_n hx hb d_M_holds_0 rfl (lv_at hl 1 rfl) ?_
    refine lv_bipush (v := nI 16) hx hb d_M_holds_1 (by decide) ?_
    refine kn_ne (tgt := 17) hx hb (by omega) (by omega) d_M_holds_3 (by decide) (fun h3 => ?_) (fun h3 => ?_)
    · refine lv_iload_n hx hb d_M_holds_17 rfl (lv_at hl 1 rfl) ?_
      refine lv_bipush (v := nI 17) hx hb d_M_holds_18 (by decide) ?_
      refine kn_ne (tgt := 34) hx hb (by omega) (by omega) d_M_holds_20 (by decide) (fun h20 => ?_) (fun h20 => ?_)
      · refine lv_iload_n hx hb d_M_holds_34 rfl (lv_at hl 1 rfl) ?_
        refine lv_bipush (v := nI 18) hx hb d_M_holds_35 (by decide) ?_
        refine kn_ne (tgt := 51) hx hb (by omega) (by omega) d_M_holds_37 (by decide) (fun h37 => ?_) (fun h37 => ?_)
        · refine lv_iload_n hx hb d_M_holds_51 rfl (lv_at hl 1 rfl) ?_
          refine lv_bipush (v := nI 19) hx hb d_M_holds_52 (by decide) ?_
          refine kn_ne (tgt := 68) hx hb (by omega) (by omega) d_M_holds_54 (by decide) (fun h54 => ?_) (fun h54 => ?_)
          · refine lv_iload_n hx hb d_M_holds_68 rfl (lv_at hl 1 rfl) ?_
            refine lv_bipush (v := nI 21) hx hb d_M_holds_69 (by decide) ?_
            refine kn_ne (tgt := 84) hx hb (by omega) (by omega) d_M_holds_71 (by decide) (fun h71 => ?_) (fun h71 => ?_)
            · omega
            · refine lv_aload_n hx hb d_M_holds_74 rfl (lv_at hl 0 rfl) ?_
              refine lv_sipush (v := nI 256) hx hb d_M_holds_75 (by decide) ?_
              refine k_Vp (As := [.int (nI 256)]) (rest := []) ⟨hx, hb, hml, hown, hts⟩ (c_M_isZero l E mo mb mm mw mh ml len en gas ctr siz hgt frm ret on ay g hg 256 (by decide)) (k_cwV 1 hts t_861 t_863 t_33 t_71 t_864 (by decide +kernel) ⟨Nat.le_of_ble_eq_true rfl, Nat.le_of_ble_eq_true rfl⟩) hK hG hA hP hD hS [0, 1] rfl (by decide) 0 rfl rfl rfl hl.1 rfl (Nat.le_of_ble_eq_true rfl) d_M_holds_78 ⟨Nat.zero_le _, Nat.zero_le _⟩ (fun r78 hu78 => ?_)
              subst hu78
              refine lv_goto (tgt := 115) hx hb d_M_holds_81 (by decide) ?_
              exact hret _ ls _ d_M_holds_115 (kb_nar _) (congrArg kb (ho_21 _ _).symm)
          · omega
        · omega
      · omega
    · omega

abbrev y_M_joins : MethodName := ⟨"WideStackModel", "joins", "(I)V"⟩
theorem d_M_joins_0 : decode prog_12_method_42_code 0 = .ok (.iconst 0, 1) := by decide +kernel
theorem d_M_joins_1 : decode prog_12_method_42_code 1 = .ok (.istore_n 2, 1) := by decide +kernel
theorem d_M_joins_2 : decode prog_12_method_42_code 2 = .ok (.iload_n 2, 1) := by decide +kernel
theorem d_M_joins_3 : decode prog_12_method_42_code 3 = .ok (.bipush 16, 2) := by decide +kernel
theorem d_M_joins_5 : decode prog_12_method_42_code 5 = .ok (.if_icmp .ge 85, 3) := by decide +kernel
theorem d_M_joins_8 : decode prog_12_method_42_code 8 = .ok (.aload_n 0, 1) := by decide +kernel
theorem d_M_joins_9 : decode prog_12_method_42_code 9 = .ok (.getfield 16, 3) := by decide +kernel
theorem d_M_joins_12 : decode prog_12_method_42_code 12 = .ok (.sipush 256, 3) := by decide +kernel
theorem d_M_joins_15 : decode prog_12_method_42_code 15 = .ok (.iload_n 2, 1) := by decide +kernel
theorem d_M_joins_16 : decode prog_12_method_42_code 16 = .ok (.iadd, 1) := by decide +kernel
theorem d_M_joins_17 : decode prog_12_method_42_code 17 = .ok (.iaload, 1) := by decide +kernel
theorem d_M_joins_18 : decode prog_12_method_42_code 18 = .ok (.istore_n 3, 1) := by decide +kernel
theorem d_M_joins_19 : decode prog_12_method_42_code 19 = .ok (.aload_n 0, 1) := by decide +kernel
theorem d_M_joins_20 : decode prog_12_method_42_code 20 = .ok (.getfield 16, 3) := by decide +kernel
theorem d_M_joins_23 : decode prog_12_method_42_code 23 = .ok (.sipush 272, 3) := by decide +kernel
theorem d_M_joins_26 : decode prog_12_method_42_code 26 = .ok (.iload_n 2, 1) := by decide +kernel
theorem d_M_joins_27 : decode prog_12_method_42_code 27 = .ok (.iadd, 1) := by decide +kernel
theorem d_M_joins_28 : decode prog_12_method_42_code 28 = .ok (.iaload, 1) := by decide +kernel
theorem d_M_joins_29 : decode prog_12_method_42_code 29 = .ok (.istore 4, 2) := by decide +kernel
theorem d_M_joins_31 : decode prog_12_method_42_code 31 = .ok (.aload_n 0, 1) := by decide +kernel
theorem d_M_joins_32 : decode prog_12_method_42_code 32 = .ok (.getfield 16, 3) := by decide +kernel
theorem d_M_joins_35 : decode prog_12_method_42_code 35 = .ok (.sipush 304, 3) := by decide +kernel
theorem d_M_joins_38 : decode prog_12_method_42_code 38 = .ok (.iload_n 2, 1) := by decide +kernel
theorem d_M_joins_39 : decode prog_12_method_42_code 39 = .ok (.iadd, 1) := by decide +kernel
theorem d_M_joins_40 : decode prog_12_method_42_code 40 = .ok (.iload_n 1, 1) := by decide +kernel
theorem d_M_joins_41 : decode prog_12_method_42_code 41 = .ok (.bipush 22, 2) := by decide +kernel
theorem d_M_joins_43 : decode prog_12_method_42_code 43 = .ok (.if_icmp .ne 10, 3) := by decide +kernel
theorem d_M_joins_46 : decode prog_12_method_42_code 46 = .ok (.iload_n 3, 1) := by decide +kernel
theorem d_M_joins_47 : decode prog_12_method_42_code 47 = .ok (.iload 4, 2) := by decide +kernel
theorem d_M_joins_49 : decode prog_12_method_42_code 49 = .ok (.iand, 1) := by decide +kernel
theorem d_M_joins_50 : decode prog_12_method_42_code 50 = .ok (.goto 33, 3) := by decide +kernel
theorem d_M_joins_53 : decode prog_12_method_42_code 53 = .ok (.iload_n 1, 1) := by decide +kernel
theorem d_M_joins_54 : decode prog_12_method_42_code 54 = .ok (.bipush 23, 2) := by decide +kernel
theorem d_M_joins_56 : decode prog_12_method_42_code 56 = .ok (.if_icmp .ne 10, 3) := by decide +kernel
theorem d_M_joins_59 : decode prog_12_method_42_code 59 = .ok (.iload_n 3, 1) := by decide +kernel
theorem d_M_joins_60 : decode prog_12_method_42_code 60 = .ok (.iload 4, 2) := by decide +kernel
theorem d_M_joins_62 : decode prog_12_method_42_code 62 = .ok (.ior, 1) := by decide +kernel
theorem d_M_joins_63 : decode prog_12_method_42_code 63 = .ok (.goto 20, 3) := by decide +kernel
theorem d_M_joins_66 : decode prog_12_method_42_code 66 = .ok (.iload_n 1, 1) := by decide +kernel
theorem d_M_joins_67 : decode prog_12_method_42_code 67 = .ok (.bipush 24, 2) := by decide +kernel
theorem d_M_joins_69 : decode prog_12_method_42_code 69 = .ok (.if_icmp .ne 10, 3) := by decide +kernel
theorem d_M_joins_72 : decode prog_12_method_42_code 72 = .ok (.iload_n 3, 1) := by decide +kernel
theorem d_M_joins_73 : decode prog_12_method_42_code 73 = .ok (.iload 4, 2) := by decide +kernel
theorem d_M_joins_75 : decode prog_12_method_42_code 75 = .ok (.ixor, 1) := by decide +kernel
theorem d_M_joins_76 : decode prog_12_method_42_code 76 = .ok (.goto 7, 3) := by decide +kernel
theorem d_M_joins_79 : decode prog_12_method_42_code 79 = .ok (.iload_n 3, 1) := by decide +kernel
theorem d_M_joins_80 : decode prog_12_method_42_code 80 = .ok (.ldc 52, 2) := by decide +kernel
theorem d_M_joins_82 : decode prog_12_method_42_code 82 = .ok (.ixor, 1) := by decide +kernel
theorem d_M_joins_83 : decode prog_12_method_42_code 83 = .ok (.iastore, 1) := by decide +kernel
theorem d_M_joins_84 : decode prog_12_method_42_code 84 = .ok (.iinc 2 1, 3) := by decide +kernel
theorem d_M_joins_87 : decode prog_12_method_42_code 87 = .ok (.goto (-85), 3) := by decide +kernel
theorem d_M_joins_90 : decode prog_12_method_42_code 90 = .ok (.return_, 1) := by decide +kernel
def rm_c_M_joins : Room := { frames := 0, cells := 0, slots := 0, locals := 0 }
set_option maxHeartbeats 4000000 in
set_option maxRecDepth 100000 in
theorem c_M_joins (l : Launch) (E : kE) (mo mb mm mw mh ml len en gas ctr siz hgt frm ret : Nat) (on ay : Bool) (g : Nat → Nat) (hg : ∀ j, g j < 65536) (o : Nat) (ho : 22 ≤ o ∧ o ≤ 25) : Kv l y_M_joins (kW y_M_joins prog_12_method_42_code 5 (none)) rm_c_M_joins E [.ref mo, .int (nI o)] [(mo, .inr (8, [.int (nI len), .ref mb, .int (kb on), .int (nI en), .int (nI gas), .int (nI ctr), .int (nI siz), .int (nI hgt), .int (nI frm), .int (nI ret), .ref mm, .ref mw, .ref mh, .ref ml, .int (kb ay)])), (mw, .inl (E.2.1 0, 370, .inl (nF g)))] (S := Nat → Nat) (fun u => (∀ C, gv u 304 16 = m_op o (gv g 256 16) (gv g 272 16) C) ∧ fr1 g u 304 16 ∧ ∀ j, u j < 65536) (fun u => [(mo, .inr (8, [.int (nI len), .ref mb, .int (kb on), .int (nI en), .int (nI gas), .int (nI ctr), .int (nI siz), .int (nI hgt), .int (nI frm), .int (nI ret), .ref mm, .ref mw, .ref mh, .ref ml, .int (kb ay)])), (mw, .inl (E.2.1 0, 370, .inl (nF u)))]) := by
  refine Kv.ofW (cc := prog_12_method_42_code) (maxL := 5) (by decide) (Nat.le_of_ble_eq_true rfl) ?_
  intro p e s m args below meth c A ls Q hx hb hts hown hml hK hG hA hP hD hS hl hret
  have hl : lv_has ls 5 [(0, .ref mo), (1, .int (nI o))] := hl
  refine lv_iconst (v := nI 0) hx hb d_M_joins_0 (by decide) ?_
  refine lv_istore_n (lv' := [(2, .int (nI 0)), (0, .ref mo), (1, .int (nI o))]) hx hb d_M_joins_1 rfl hl (by decide) rfl (fun ls hl => ?_)
  have key2 : ∀ (n : Nat) (i : Nat) (z : Nat → Nat) (H : Heap) (locs : List Loc) (ls : Array Slot), i + n = 16 → (jnI g z o i) → lv_has ls 5 [(2, .int (nI i)), (0, .ref mo), (1, .int (nI o))] → va_P E.1 vwCl [(mo, .inr (8, [.int (nI len), .ref mb, .int (kb on), .int (nI en), .int (nI gas), .int (nI ctr), .int (nI siz), .int (nI hgt), .int (nI frm), .int (nI ret), .ref mm, .ref mw, .ref mh, .ref ml, .int (kb ay)])), (mw, .inl (E.2.1 0, 370, .inl (nF z)))] H → va_D A [(mo, .inr (8, [.int (nI len), .ref mb, .int (kb on), .int (nI en), .int (nI gas), .int (nI ctr), .int (nI siz), .int (nI hgt), .int (nI frm), .int (nI ret), .ref mm, .ref mw, .ref mh, .ref ml, .int (kb ay)])), (mw, .inl (E.2.1 0, 370, .inl (nF z)))] → va_S A s.heap H locs → W p l e rm_c_M_joins s m args below meth c H locs 0 0 Q (F0 m 2 ls []) := by
    intro n
    induction n using Nat.strongRecOn with
    | ind n ih =>
      intro i z H locs ls hn hI hl hP hD hS
      have b1 := hI.2.2 (256 + i)
      have b2 := hI.2.2 (272 + i)
      refine lv_iload_n hx hb d_M_joins_2 rfl (lv_at hl 0 rfl) ?_
      refine lv_bipush (v := nI 16) hx hb d_M_joins_3 (by decide) ?_
      refine kn_ge (tgt := 90) hx hb (by omega) (by omega) d_M_joins_5 (by decide) (fun h5 => ?_) (fun h5 => ?_)
      · obtain rfl : i = 16 := by omega
        exact hret _ ls _ _ z d_M_joins_90 ⟨fun C => jn_fin hg ho.1 ho.2 hI, hI.2.1, hI.2.2⟩ hP hS
      · refine lv_aload_n hx hb d_M_joins_8 rfl (lv_at hl 1 rfl) ?_
        refine va_get (D := E.1) (ci := 8) (v := .ref mw) (C := "WideStackModel") (T := T_M) (N := 15) hx hb hts in_M hown hK hP 0 rfl rfl 11 (by decide) (hts _ t_758) (fun _ h9 => h9) rfl d_M_joins_9 ?_
        refine lv_sipush (v := nI 256) hx hb d_M_joins_12 (by decide) ?_
        refine lv_iload_n hx hb d_M_joins_15 rfl (lv_at hl 0 rfl) ?_
        refine lv_iadd hx hb d_M_joins_16 ?_
        refine k_top (nI_add _ _) ?_
        refine k_ialdN hx hb hK hP 1 rfl (i := (256 + i)) (by omega) (by omega) d_M_joins_17 ?_
        refine lv_istore_n (lv' := [(3, .int (nI (z (256 + i)))), (2, .int (nI i)), (0, .ref mo), (1, .int (nI o))]) hx hb d_M_joins_18 rfl hl (by decide) rfl (fun ls hl => ?_)
        refine lv_aload_n hx hb d_M_joins_19 rfl (lv_at hl 2 rfl) ?_
        refine va_get (D := E.1) (ci := 8) (v := .ref mw) (C := "WideStackModel") (T := T_M) (N := 15) hx hb hts in_M hown hK hP 0 rfl rfl 11 (by decide) (hts _ t_758) (fun _ h9 => h9) rfl d_M_joins_20 ?_
        refine lv_sipush (v := nI 272) hx hb d_M_joins_23 (by decide) ?_
        refine lv_iload_n hx hb d_M_joins_26 rfl (lv_at hl 1 rfl) ?_
        refine lv_iadd hx hb d_M_joins_27 ?_
        refine k_top (nI_add _ _) ?_
        refine k_ialdN hx hb hK hP 1 rfl (i := (272 + i)) (by omega) (by omega) d_M_joins_28 ?_
        refine lv_istore (lv' := [(4, .int (nI (z (272 + i)))), (3, .int (nI (z (256 + i)))), (2, .int (nI i)), (0, .ref mo), (1, .int (nI o))]) hx hb d_M_joins_29 hl (by decide) rfl (fun ls hl => ?_)
        refine lv_aload_n hx hb d_M_joins_31 rfl (lv_at hl 3 rfl) ?_
        refine va_get (D := E.1) (ci := 8) (v := .ref mw) (C := "WideStackModel") (T := T_M) (N := 15) hx hb hts in_M hown hK hP 0 rfl rfl 11 (by decide) (hts _ t_758) (fun _ h9 => h9) rfl d_M_joins_32 ?_
        refine lv_sipush (v := nI 304) hx hb d_M_joins_35 (by decide) ?_
        refine lv_iload_n hx hb d_M_joins_38 rfl (lv_at hl 2 rfl) ?_
        refine lv_iadd hx hb d_M_joins_39 ?_
        refine k_top (nI_add _ _) ?_
        refine lv_iload_n hx hb d_M_joins_40 rfl (lv_at hl 4 rfl) ?_
        refine lv_bipush (v := nI 22) hx hb d_M_joins_41 (by decide) ?_
        refine kn_ne (tgt := 53) hx hb (by omega) (by omega) d_M_joins_43 (by decide) (fun h43 => ?_) (fun h43 => ?_)
        · refine lv_iload_n hx hb d_M_joins_53 rfl (lv_at hl 4 rfl) ?_
          refine lv_bipush (v := nI 23) hx hb d_M_joins_54 (by decide) ?_
          refine kn_ne (tgt := 66) hx hb (by omega) (by omega) d_M_joins_56 (by decide) (fun h56 => ?_) (fun h56 => ?_)
          · refine lv_iload_n hx hb d_M_joins_66 rfl (lv_at hl 4 rfl) ?_
            refine lv_bipush (v := nI 24) hx hb d_M_joins_67 (by decide) ?_
            refine kn_ne (tgt := 79) hx hb (by omega) (by omega) d_M_joins_69 (by decide) (fun h69 => ?_) (fun h69 => ?_)
            · refine lv_iload_n hx hb d_M_joins_79 rfl (lv_at hl 1 rfl) ?_
              refine lv_ldc (v := 65535) hx hb hown (hts _ t_827) d_M_joins_80 ?_
              refine k_top (y := nI 65535) (by decide) ?_
              refine lv_ixor hx hb d_M_joins_82 ?_
              refine k_top (r_not16 (by omega)) ?_
              refine k_iastN hx hb hK hP hD hS 1 rfl (i := (304 + i)) (by omega) (by omega) d_M_joins_83 (fun H locs hP hD hS => ?_)
              have hP : va_P E.1 vwCl [(mo, .inr (8, [.int (nI len), .ref mb, .int (kb on), .int (nI en), .int (nI gas), .int (nI ctr), .int (nI siz), .int (nI hgt), .int (nI frm), .int (nI ret), .ref mm, .ref mw, .ref mh, .ref ml, .int (kb ay)])), (mw, .inl (E.2.1 0, 370, .inl (nF (va_up z (304 + i) (65535 - (z (256 + i)))))))] H := hP
              have hD : va_D A [(mo, .inr (8, [.int (nI len), .ref mb, .int (kb on), .int (nI en), .int (nI gas), .int (nI ctr), .int (nI siz), .int (nI hgt), .int (nI frm), .int (nI ret), .ref mm, .ref mw, .ref mh, .ref ml, .int (kb ay)])), (mw, .inl (E.2.1 0, 370, .inl (nF (va_up z (304 + i) (65535 - (z (256 + i)))))))] := hD
              refine lv_iinc (k := 2) (v := nI (i + 1)) (lv' := [(2, .int (nI (i + 1))), (4, .int (nI (z (272 + i)))), (3, .int (nI (z (256 + i)))), (0, .ref mo), (1, .int (nI o))]) hx hb d_M_joins_84 hl rfl (k_inc _) (by decide) rfl (fun ls hl => ?_)
              refine lv_goto (tgt := 2) hx hb d_M_joins_87 (by decide) ?_
              exact ih (n - 1) (by omega) (i + 1) (va_up z (304 + i) (65535 - (z (256 + i)))) _ _ ls (by omega) (jn_step (by unfold jn; first | rw [if_pos h43] | rw [if_neg h43, if_pos h56] | rw [if_neg h43, if_neg h56, if_pos h69] | rw [if_neg h43, if_neg h56, if_neg h69]) (by omega) hI) (lv_sub hl [0, 3, 4] rfl) hP hD hS
            · refine lv_iload_n hx hb d_M_joins_72 rfl (lv_at hl 1 rfl) ?_
              refine lv_iload hx hb d_M_joins_73 (lv_at hl 0 rfl) ?_
              refine lv_ixor hx hb d_M_joins_75 ?_
              refine k_top (r_xor (by omega) (by omega)) ?_
              refine lv_goto (tgt := 83) hx hb d_M_joins_76 (by decide) ?_
              refine k_iastN hx hb hK hP hD hS 1 rfl (i := (304 + i)) (by omega) (by omega) d_M_joins_83 (fun H locs hP hD hS => ?_)
              have hP : va_P E.1 vwCl [(mo, .inr (8, [.int (nI len), .ref mb, .int (kb on), .int (nI en), .int (nI gas), .int (nI ctr), .int (nI siz), .int (nI hgt), .int (nI frm), .int (nI ret), .ref mm, .ref mw, .ref mh, .ref ml, .int (kb ay)])), (mw, .inl (E.2.1 0, 370, .inl (nF (va_up z (304 + i) ((z (256 + i)) ^^^ (z (272 + i)))))))] H := hP
              have hD : va_D A [(mo, .inr (8, [.int (nI len), .ref mb, .int (kb on), .int (nI en), .int (nI gas), .int (nI ctr), .int (nI siz), .int (nI hgt), .int (nI frm), .int (nI ret), .ref mm, .ref mw, .ref mh, .ref ml, .int (kb ay)])), (mw, .inl (E.2.1 0, 370, .inl (nF (va_up z (304 + i) ((z (256 + i)) ^^^ (z (272 + i)))))))] := hD
              refine lv_iinc (k := 2) (v := nI (i + 1)) (lv' := [(2, .int (nI (i + 1))), (4, .int (nI (z (272 + i)))), (3, .int (nI (z (256 + i)))), (0, .ref mo), (1, .int (nI o))]) hx hb d_M_joins_84 hl rfl (k_inc _) (by decide) rfl (fun ls hl => ?_)
              refine lv_goto (tgt := 2) hx hb d_M_joins_87 (by decide) ?_
              exact ih (n - 1) (by omega) (i + 1) (va_up z (304 + i) ((z (256 + i)) ^^^ (z (272 + i)))) _ _ ls (by omega) (jn_step (by unfold jn; first | rw [if_pos h43] | rw [if_neg h43, if_pos h56] | rw [if_neg h43, if_neg h56, if_pos h69] | rw [if_neg h43, if_neg h56, if_neg h69]) (by omega) hI) (lv_sub hl [0, 3, 4] rfl) hP hD hS
          · refine lv_iload_n hx hb d_M_joins_59 rfl (lv_at hl 1 rfl) ?_
            refine lv_iload hx hb d_M_joins_60 (lv_at hl 0 rfl) ?_
            refine lv_ior hx hb d_M_joins_62 ?_
            refine k_top (r_or (by omega) (by omega)) ?_
            refine lv_goto (tgt := 83) hx hb d_M_joins_63 (by decide) ?_
            refine k_iastN hx hb hK hP hD hS 1 rfl (i := (304 + i)) (by omega) (by omega) d_M_joins_83 (fun H locs hP hD hS => ?_)
            have hP : va_P E.1 vwCl [(mo, .inr (8, [.int (nI len), .ref mb, .int (kb on), .int (nI en), .int (nI gas), .int (nI ctr), .int (nI siz), .int (nI hgt), .int (nI frm), .int (nI ret), .ref mm, .ref mw, .ref mh, .ref ml, .int (kb ay)])), (mw, .inl (E.2.1 0, 370, .inl (nF (va_up z (304 + i) ((z (256 + i)) ||| (z (272 + i)))))))] H := hP
            have hD : va_D A [(mo, .inr (8, [.int (nI len), .ref mb, .int (kb on), .int (nI en), .int (nI gas), .int (nI ctr), .int (nI siz), .int (nI hgt), .int (nI frm), .int (nI ret), .ref mm, .ref mw, .ref mh, .ref ml, .int (kb ay)])), (mw, .inl (E.2.1 0, 370, .inl (nF (va_up z (304 + i) ((z (256 + i)) ||| (z (272 + i)))))))] := hD
            refine lv_iinc (k := 2) (v := nI (i + 1)) (lv' := [(2, .int (nI (i + 1))), (4, .int (nI (z (272 + i)))), (3, .int (nI (z (256 + i)))), (0, .ref mo), (1, .int (nI o))]) hx hb d_M_joins_84 hl rfl (k_inc _) (by decide) rfl (fun ls hl => ?_)
            refine lv_goto (tgt := 2) hx hb d_M_joins_87 (by decide) ?_
            exact ih (n - 1) (by omega) (i + 1) (va_up z (304 + i) ((z (256 + i)) ||| (z (272 + i)))) _ _ ls (by omega) (jn_step (by unfold jn; first | rw [if_pos h43] | rw [if_neg h43, if_pos h56] | rw [if_neg h43, if_neg h56, if_pos h69] | rw [if_neg h43, if_neg h56, if_neg h69]) (by omega) hI) (lv_sub hl [0, 3, 4] rfl) hP hD hS
        · refine lv_iload_n hx hb d_M_joins_46 rfl (lv_at hl 1 rfl) ?_
          refine lv_iload hx hb d_M_joins_47 (lv_at hl 0 rfl) ?_
          refine lv_iand hx hb d_M_joins_49 ?_
          refine k_top (r_and (by omega) (by omega)) ?_
          refine lv_goto (tgt := 83) hx hb d_M_joins_50 (by decide) ?_
          refine k_iastN hx hb hK hP hD hS 1 rfl (i := (304 + i)) (by omega) (by omega) d_M_joins_83 (fun H locs hP hD hS => ?_)
          have hP : va_P E.1 vwCl [(mo, .inr (8, [.int (nI len), .ref mb, .int (kb on), .int (nI en), .int (nI gas), .int (nI ctr), .int (nI siz), .int (nI hgt), .int (nI frm), .int (nI ret), .ref mm, .ref mw, .ref mh, .ref ml, .int (kb ay)])), (mw, .inl (E.2.1 0, 370, .inl (nF (va_up z (304 + i) ((z (256 + i)) &&& (z (272 + i)))))))] H := hP
          have hD : va_D A [(mo, .inr (8, [.int (nI len), .ref mb, .int (kb on), .int (nI en), .int (nI gas), .int (nI ctr), .int (nI siz), .int (nI hgt), .int (nI frm), .int (nI ret), .ref mm, .ref mw, .ref mh, .ref ml, .int (kb ay)])), (mw, .inl (E.2.1 0, 370, .inl (nF (va_up z (304 + i) ((z (256 + i)) &&& (z (272 + i)))))))] := hD
          refine lv_iinc (k := 2) (v := nI (i + 1)) (lv' := [(2, .int (nI (i + 1))), (4, .int (nI (z (272 + i)))), (3, .int (nI (z (256 + i)))), (0, .ref mo), (1, .int (nI o))]) hx hb d_M_joins_84 hl rfl (k_inc _) (by decide) rfl (fun ls hl => ?_)
          refine lv_goto (tgt := 2) hx hb d_M_joins_87 (by decide) ?_
          exact ih (n - 1) (by omega) (i + 1) (va_up z (304 + i) ((z (256 + i)) &&& (z (272 + i)))) _ _ ls (by omega) (jn_step (by unfold jn; first | rw [if_pos h43] | rw [if_neg h43, if_pos h56] | rw [if_neg h43, if_neg h56, if_pos h69] | rw [if_neg h43, if_neg h56, if_neg h69]) (by omega) hI) (lv_sub hl [0, 3, 4] rfl) hP hD hS
  exact key2 16 0 g _ _ ls (by omega) ⟨fun j hj => absurd hj (Nat.not_lt_zero j), fun _ _ => rfl, hg⟩ (lv_sub hl [0, 1, 2] rfl) hP hD hS

theorem rm_le {o A B : Nat} (ho : 81 ≤ o ∧ o ≤ 83) (h : m_used o A B ≤ 160) : A + 1 ≤ 160 := by
  unfold m_used at h
  rcases (by omega : o = 81 ∨ o = 82 ∨ o = 83) with rfl | rfl | rfl
  · rw [if_pos (Or.inl rfl)] at h; omega
  · rw [if_pos (Or.inr rfl)] at h; omega
  · rw [if_neg (by decide), if_pos rfl] at h; omega
theorem rm_le2 {o A B : Nat} (ho : 81 ≤ o ∧ o ≤ 83) (h : m_used o A B ≤ 160) (q : o ≠ 83) : A + 32 ≤ 160 := by
  unfold m_used at h
  rcases (by omega : o = 81 ∨ o = 82) with rfl | rfl
  · rw [if_pos (Or.inl rfl)] at h; omega
  · rw [if_pos (Or.inr rfl)] at h; omega

abbrev y_M_remembers : MethodName := ⟨"WideStackModel", "remembers", "(I)V"⟩
theorem d_M_remembers_0 : decode prog_12_method_43_code 0 = .ok (.aload_n 0, 1) := by decide +kernel
theorem d_M_remembers_1 : decode prog_12_method_43_code 1 = .ok (.sipush 256, 3) := by decide +kernel
theorem d_M_remembers_4 : decode prog_12_method_43_code 4 = .ok (.invokevirtual 88, 3) := by decide +kernel
theorem d_M_remembers_7 : decode prog_12_method_43_code 7 = .ok (.istore_n 2, 1) := by decide +kernel
theorem d_M_remembers_8 : decode prog_12_method_43_code 8 = .ok (.iload_n 1, 1) := by decide +kernel
theorem d_M_remembers_9 : decode prog_12_method_43_code 9 = .ok (.bipush 83, 2) := by decide +kernel
theorem d_M_remembers_11 : decode prog_12_method_43_code 11 = .ok (.if_icmp .ne 21, 3) := by decide +kernel
theorem d_M_remembers_14 : decode prog_12_method_43_code 14 = .ok (.aload_n 0, 1) := by decide +kernel
theorem d_M_remembers_15 : decode prog_12_method_43_code 15 = .ok (.getfield 13, 3) := by decide +kernel
theorem d_M_remembers_18 : decode prog_12_method_43_code 18 = .ok (.iload_n 2, 1) := by decide +kernel
theorem d_M_remembers_19 : decode prog_12_method_43_code 19 = .ok (.aload_n 0, 1) := by decide +kernel
theorem d_M_remembers_20 : decode prog_12_method_43_code 20 = .ok (.getfield 16, 3) := by decide +kernel
theorem d_M_remembers_23 : decode prog_12_method_43_code 23 = .ok (.sipush 272, 3) := by decide +kernel
theorem d_M_remembers_26 : decode prog_12_method_43_code 26 = .ok (.iaload, 1) := by decide +kernel
theorem d_M_remembers_27 : decode prog_12_method_43_code 27 = .ok (.sipush 255, 3) := by decide +kernel
theorem d_M_remembers_30 : decode prog_12_method_43_code 30 = .ok (.iand, 1) := by decide +kernel
theorem d_M_remembers_31 : decode prog_12_method_43_code 31 = .ok (.iastore, 1) := by decide +kernel
theorem d_M_remembers_32 : decode prog_12_method_43_code 32 = .ok (.iconst 0, 1) := by decide +kernel
theorem d_M_remembers_33 : decode prog_12_method_43_code 33 = .ok (.istore_n 3, 1) := by decide +kernel
theorem d_M_remembers_34 : decode prog_12_method_43_code 34 = .ok (.iload_n 3, 1) := by decide +kernel
theorem d_M_remembers_35 : decode prog_12_method_43_code 35 = .ok (.bipush 32, 2) := by decide +kernel
theorem d_M_remembers_37 : decode prog_12_method_43_code 37 = .ok (.if_icmp .ge 31, 3) := by decide +kernel
theorem d_M_remembers_40 : decode prog_12_method_43_code 40 = .ok (.iload_n 1, 1) := by decide +kernel
theorem d_M_remembers_41 : decode prog_12_method_43_code 41 = .ok (.bipush 82, 2) := by decide +kernel
theorem d_M_remembers_43 : decode prog_12_method_43_code 43 = .ok (.if_icmp .ne 25, 3) := by decide +kernel
theorem d_M_remembers_46 : decode prog_12_method_43_code 46 = .ok (.aload_n 0, 1) := by decide +kernel
theorem d_M_remembers_47 : decode prog_12_method_43_code 47 = .ok (.getfield 13, 3) := by decide +kernel
theorem d_M_remembers_50 : decode prog_12_method_43_code 50 = .ok (.iload_n 2, 1) := by decide +kernel
theorem d_M_remembers_51 : decode prog_12_method_43_code 51 = .ok (.iload_n 3, 1) := by decide +kernel
theorem d_M_remembers_52 : decode prog_12_method_43_code 52 = .ok (.iadd, 1) := by decide +kernel
theorem d_M_remembers_53 : decode prog_12_method_43_code 53 = .ok (.aload_n 0, 1) := by decide +kernel
theorem d_M_remembers_54 : decode prog_12_method_43_code 54 = .ok (.sipush 272, 3) := by decide +kernel
theorem d_M_remembers_57 : decode prog_12_method_43_code 57 = .ok (.iload_n 3, 1) := by decide +kernel
theorem d_M_remembers_58 : decode prog_12_method_43_code 58 = .ok (.invokevirtual 154, 3) := by decide +kernel
theorem d_M_remembers_61 : decode prog_12_method_43_code 61 = .ok (.iastore, 1) := by decide +kernel
theorem d_M_remembers_62 : decode prog_12_method_43_code 62 = .ok (.iinc 3 1, 3) := by decide +kernel
theorem d_M_remembers_65 : decode prog_12_method_43_code 65 = .ok (.goto (-31), 3) := by decide +kernel
theorem d_M_remembers_68 : decode prog_12_method_43_code 68 = .ok (.iconst 0, 1) := by decide +kernel
theorem d_M_remembers_69 : decode prog_12_method_43_code 69 = .ok (.istore_n 3, 1) := by decide +kernel
theorem d_M_remembers_70 : decode prog_12_method_43_code 70 = .ok (.iload_n 3, 1) := by decide +kernel
theorem d_M_remembers_71 : decode prog_12_method_43_code 71 = .ok (.bipush 16, 2) := by decide +kernel
theorem d_M_remembers_73 : decode prog_12_method_43_code 73 = .ok (.if_icmp .ge 55, 3) := by decide +kernel
theorem d_M_remembers_76 : decode prog_12_method_43_code 76 = .ok (.iload_n 1, 1) := by decide +kernel
theorem d_M_remembers_77 : decode prog_12_method_43_code 77 = .ok (.bipush 81, 2) := by decide +kernel
theorem d_M_remembers_79 : decode prog_12_method_43_code 79 = .ok (.if_icmp .ne 49, 3) := by decide +kernel
theorem d_M_remembers_82 : decode prog_12_method_43_code 82 = .ok (.aload_n 0, 1) := by decide +kernel
theorem d_M_remembers_83 : decode prog_12_method_43_code 83 = .ok (.getfield 16, 3) := by decide +kernel
theorem d_M_remembers_86 : decode prog_12_method_43_code 86 = .ok (.sipush 304, 3) := by decide +kernel
theorem d_M_remembers_89 : decode prog_12_method_43_code 89 = .ok (.iload_n 3, 1) := by decide +kernel
theorem d_M_remembers_90 : decode prog_12_method_43_code 90 = .ok (.iadd, 1) := by decide +kernel
theorem d_M_remembers_91 : decode prog_12_method_43_code 91 = .ok (.aload_n 0, 1) := by decide +kernel
theorem d_M_remembers_92 : decode prog_12_method_43_code 92 = .ok (.getfield 13, 3) := by decide +kernel
theorem d_M_remembers_95 : decode prog_12_method_43_code 95 = .ok (.iload_n 2, 1) := by decide +kernel
theorem d_M_remembers_96 : decode prog_12_method_43_code 96 = .ok (.bipush 31, 2) := by decide +kernel
theorem d_M_remembers_98 : decode prog_12_method_43_code 98 = .ok (.iadd, 1) := by decide +kernel
theorem d_M_remembers_99 : decode prog_12_method_43_code 99 = .ok (.iconst 2, 1) := by decide +kernel
theorem d_M_remembers_100 : decode prog_12_method_43_code 100 = .ok (.iload_n 3, 1) := by decide +kernel
theorem d_M_remembers_101 : decode prog_12_method_43_code 101 = .ok (.imul, 1) := by decide +kernel
theorem d_M_remembers_102 : decode prog_12_method_43_code 102 = .ok (.isub, 1) := by decide +kernel
theorem d_M_remembers_103 : decode prog_12_method_43_code 103 = .ok (.iaload, 1) := by decide +kernel
theorem d_M_remembers_104 : decode prog_12_method_43_code 104 = .ok (.aload_n 0, 1) := by decide +kernel
theorem d_M_remembers_105 : decode prog_12_method_43_code 105 = .ok (.getfield 13, 3) := by decide +kernel
theorem d_M_remembers_108 : decode prog_12_method_43_code 108 = .ok (.iload_n 2, 1) := by decide +kernel
theorem d_M_remembers_109 : decode prog_12_method_43_code 109 = .ok (.bipush 30, 2) := by decide +kernel
theorem d_M_remembers_111 : decode prog_12_method_43_code 111 = .ok (.iadd, 1) := by decide +kernel
theorem d_M_remembers_112 : decode prog_12_method_43_code 112 = .ok (.iconst 2, 1) := by decide +kernel
theorem d_M_remembers_113 : decode prog_12_method_43_code 113 = .ok (.iload_n 3, 1) := by decide +kernel
theorem d_M_remembers_114 : decode prog_12_method_43_code 114 = .ok (.imul, 1) := by decide +kernel
theorem d_M_remembers_115 : decode prog_12_method_43_code 115 = .ok (.isub, 1) := by decide +kernel
theorem d_M_remembers_116 : decode prog_12_method_43_code 116 = .ok (.iaload, 1) := by decide +kernel
theorem d_M_remembers_117 : decode prog_12_method_43_code 117 = .ok (.bipush 8, 2) := by decide +kernel
theorem d_M_remembers_119 : decode prog_12_method_43_code 119 = .ok (.ishl, 1) := by decide +kernel
theorem d_M_remembers_120 : decode prog_12_method_43_code 120 = .ok (.ior, 1) := by decide +kernel
theorem d_M_remembers_121 : decode prog_12_method_43_code 121 = .ok (.iastore, 1) := by decide +kernel
theorem d_M_remembers_122 : decode prog_12_method_43_code 122 = .ok (.iinc 3 1, 3) := by decide +kernel
theorem d_M_remembers_125 : decode prog_12_method_43_code 125 = .ok (.goto (-55), 3) := by decide +kernel
theorem d_M_remembers_128 : decode prog_12_method_43_code 128 = .ok (.return_, 1) := by decide +kernel
def rm_c_M_remembers : Room := { frames := 1, cells := 0, slots := 0, locals := 23 }
set_option maxHeartbeats 4000000 in
set_option maxRecDepth 100000 in
theorem c_M_remembers (l : Launch) (E : kE) (mo mb mm mw mh ml len en gas ctr siz hgt frm ret : Nat) (on ay : Bool) (g : Nat → Nat) (hg : ∀ j, g j < 65536) (mem : Nat → Nat) (hm : ∀ j, mem j < 256) (o : Nat) (ho : 81 ≤ o ∧ o ≤ 83) (hu0 : m_used o (gv g 256 16) (gv g 272 16) ≤ 160) : Kv l y_M_remembers (kW y_M_remembers prog_12_method_43_code 4 (none)) rm_c_M_remembers E [.ref mo, .int (nI o)] [(mo, .inr (8, [.int (nI len), .ref mb, .int (kb on), .int (nI en), .int (nI gas), .int (nI ctr), .int (nI siz), .int (nI hgt), .int (nI frm), .int (nI ret), .ref mm, .ref mw, .ref mh, .ref ml, .int (kb ay)])), (mm, .inl (E.2.1 0, 160, .inl (nF mem))), (mw, .inl (E.2.1 0, 370, .inl (nF g)))] (S := Nat → Nat) (fun u => (o = 81 → gv u 304 16 = m_num mem (gv g 256 16) 32) ∧ fr1 g u 304 16 ∧ ∀ j, u j < 65536) (fun u => [(mo, .inr (8, [.int (nI len), .ref mb, .int (kb on), .int (nI en), .int (nI gas), .int (nI ctr), .int (nI siz), .int (nI hgt), .int (nI frm), .int (nI ret), .ref mm, .ref mw, .ref mh, .ref ml, .int (kb ay)])), (mm, .inl (E.2.1 0, 160, .inl (nF (m_mem o (gv g 256 16) (gv g 272 16) mem)))), (mw, .inl (E.2.1 0, 370, .inl (nF u)))]) := by
  refine Kv.ofW (cc := prog_12_method_43_code) (maxL := 4) (by decide) (Nat.le_of_ble_eq_true rfl) ?_
  intro p e s m args below meth c A ls Q hx hb hts hown hml hK hG hA hP hD hS hl hret
  have hl : lv_has ls 4 [(0, .ref mo), (1, .int (nI o))] := hl
  have hQa : gv g 256 16 + 1 ≤ 160 := rm_le ho hu0
  have hQ2 : o ≠ 83 → gv g 256 16 + 32 ≤ 160 := rm_le2 ho hu0
  rcases (by omega : o = 81 ∨ o = 82 ∨ o = 83) with rfl | rfl | rfl
  · skip
    have hQ2 := hQ2 (by decide)
    refine lv_aload_n hx hb d_M_remembers_0 rfl (lv_at hl 0 rfl) ?_
    refine lv_sipush (v := nI 256) hx hb d_M_remembers_1 (by decide) ?_
    refine k_Vp (As := [.int (nI 256)]) (rest := []) ⟨hx, hb, hml, hown, hts⟩ (c_M_small l E mo mb mm mw mh ml len en gas ctr siz hgt frm ret on ay g hg 256 (by decide)) (k_cwV 1 hts t_857 t_859 t_32 t_71 t_860 (by decide +kernel) ⟨Nat.le_of_ble_eq_true rfl, Nat.le_of_ble_eq_true rfl⟩) hK hG hA hP hD hS [0, 2] rfl (by decide) 0 rfl rfl rfl hl.1 rfl (Nat.le_of_ble_eq_true rfl) d_M_remembers_4 ⟨Nat.zero_le _, Nat.zero_le _⟩ (fun r4 hu4 => ?_)
    have hu4 := hu4.trans (by rw [Nat.min_eq_left (by omega)])
    subst hu4
    refine lv_istore_n (lv' := [(2, .int (nI (gv g 256 16))), (0, .ref mo), (1, .int (nI 81))]) hx hb d_M_remembers_7 rfl hl (by decide) rfl (fun ls hl => ?_)
    refine lv_iload_n hx hb d_M_remembers_8 rfl (lv_at hl 2 rfl) ?_
    refine lv_bipush (v := nI 83) hx hb d_M_remembers_9 (by decide) ?_
    refine kn_ne (tgt := 32) hx hb (by omega) (by omega) d_M_remembers_11 (by decide) (fun h11 => ?_) (fun h11 => ?_)
    · refine lv_iconst (v := nI 0) hx hb d_M_remembers_32 (by decide) ?_
      refine lv_istore_n (lv' := [(3, .int (nI 0)), (2, .int (nI (gv g 256 16))), (0, .ref mo), (1, .int (nI 81))]) hx hb d_M_remembers_33 rfl hl (by decide) rfl (fun ls hl => ?_)
      refine lv_iload_n hx hb d_M_remembers_34 rfl (lv_at hl 0 rfl) ?_
      refine lv_bipush (v := nI 32) hx hb d_M_remembers_35 (by decide) ?_
      refine kn_ge (tgt := 68) hx hb (by omega) (by omega) d_M_remembers_37 (by decide) (fun h37 => ?_) (fun h37 => ?_)
      · omega
      · refine lv_iload_n hx hb d_M_remembers_40 rfl (lv_at hl 3 rfl) ?_
        refine lv_bipush (v := nI 82) hx hb d_M_remembers_41 (by decide) ?_
        refine kn_ne (tgt := 68) hx hb (by omega) (by omega) d_M_remembers_43 (by decide) (fun h43 => ?_) (fun h43 => ?_)
        · refine lv_iconst (v := nI 0) hx hb d_M_remembers_68 (by decide) ?_
          refine lv_istore_n (lv' := [(3, .int (nI 0)), (2, .int (nI (gv g 256 16))), (0, .ref mo), (1, .int (nI 81))]) hx hb d_M_remembers_69 rfl hl (by decide) rfl (fun ls hl => ?_)
          have key70 : ∀ (n : Nat) (i : Nat) (z : Nat → Nat) (H : Heap) (locs : List Loc) (ls : Array Slot), i + n = 16 → (ldI g z mem (gv g 256 16) i) → lv_has ls 4 [(3, .int (nI i)), (2, .int (nI (gv g 256 16))), (0, .ref mo), (1, .int (nI 81))] → va_P E.1 vwCl [(mo, .inr (8, [.int (nI len), .ref mb, .int (kb on), .int (nI en), .int (nI gas), .int (nI ctr), .int (nI siz), .int (nI hgt), .int (nI frm), .int (nI ret), .ref mm, .ref mw, .ref mh, .ref ml, .int (kb ay)])), (mm, .inl (E.2.1 0, 160, .inl (nF mem))), (mw, .inl (E.2.1 0, 370, .inl (nF z)))] H → va_D A [(mo, .inr (8, [.int (nI len), .ref mb, .int (kb on), .int (nI en), .int (nI gas), .int (nI ctr), .int (nI siz), .int (nI hgt), .int (nI frm), .int (nI ret), .ref mm, .ref mw, .ref mh, .ref ml, .int (kb ay)])), (mm, .inl (E.2.1 0, 160, .inl (nF mem))), (mw, .inl (E.2.1 0, 370, .inl (nF z)))] → va_S A s.heap H locs → W p l e rm_c_M_remembers s m args below meth c H locs 0 0 Q (F0 m 70 ls []) := by
            intro n
            induction n using Nat.strongRecOn with
            | ind n ih =>
              intro i z H locs ls hn hI hl hP hD hS
              have c1 := hm (gv g 256 16 + 31 - 2 * i)
              have c2 := hm (gv g 256 16 + 30 - 2 * i)
              refine lv_iload_n hx hb d_M_remembers_70 rfl (lv_at hl 0 rfl) ?_
              refine lv_bipush (v := nI 16) hx hb d_M_remembers_71 (by decide) ?_
              refine kn_ge (tgt := 128) hx hb (by omega) (by omega) d_M_remembers_73 (by decide) (fun h73 => ?_) (fun h73 => ?_)
              · obtain rfl : i = 16 := by omega
                exact hret _ ls _ _ z d_M_remembers_128 ⟨fun _ => by have e := hI.1; rw [show 32 - 2 * 16 = 0 from rfl] at e; exact fin0 e, hI.2.1, hI.2.2⟩ (by rw [← mm_81 (by decide) (by decide)]; exact hP) hS
              · refine lv_iload_n hx hb d_M_remembers_76 rfl (lv_at hl 3 rfl) ?_
                refine lv_bipush (v := nI 81) hx hb d_M_remembers_77 (by decide) ?_
                refine kn_ne (tgt := 128) hx hb (by omega) (by omega) d_M_remembers_79 (by decide) (fun h79 => ?_) (fun h79 => ?_)
                · omega
                · refine lv_aload_n hx hb d_M_remembers_82 rfl (lv_at hl 2 rfl) ?_
                  refine va_get (D := E.1) (ci := 8) (v := .ref mw) (C := "WideStackModel") (T := T_M) (N := 15) hx hb hts in_M hown hK hP 0 rfl rfl 11 (by decide) (hts _ t_758) (fun _ h9 => h9) rfl d_M_remembers_83 ?_
                  refine lv_sipush (v := nI 304) hx hb d_M_remembers_86 (by decide) ?_
                  refine lv_iload_n hx hb d_M_remembers_89 rfl (lv_at hl 0 rfl) ?_
                  refine lv_iadd hx hb d_M_remembers_90 ?_
                  refine k_top (nI_add _ _) ?_
                  refine lv_aload_n hx hb d_M_remembers_91 rfl (lv_at hl 2 rfl) ?_
                  refine va_get (D := E.1) (ci := 8) (v := .ref mm) (C := "WideStackModel") (T := T_M) (N := 15) hx hb hts in_M hown hK hP 0 rfl rfl 10 (by decide) (hts _ t_757) (fun _ h9 => h9) rfl d_M_remembers_92 ?_
                  refine lv_iload_n hx hb d_M_remembers_95 rfl (lv_at hl 1 rfl) ?_
                  refine lv_bipush (v := nI 31) hx hb d_M_remembers_96 (by decide) ?_
                  refine lv_iadd hx hb d_M_remembers_98 ?_
                  refine k_top (nI_add _ _) ?_
                  refine lv_iconst (v := nI 2) hx hb d_M_remembers_99 (by decide) ?_
                  refine lv_iload_n hx hb d_M_remembers_100 rfl (lv_at hl 0 rfl) ?_
                  refine lv_imul hx hb d_M_remembers_101 ?_
                  refine k_top (pk_mul _ _) ?_
                  refine lv_isub hx hb d_M_remembers_102 ?_
                  refine k_top (pk_sub (by omega)) ?_
                  refine k_ialdN hx hb hK hP 1 rfl (i := (((gv g 256 16) + 31) - (2 * i))) (by omega) (by omega) d_M_remembers_103 ?_
                  refine lv_aload_n hx hb d_M_remembers_104 rfl (lv_at hl 2 rfl) ?_
                  refine va_get (D := E.1) (ci := 8) (v := .ref mm) (C := "WideStackModel") (T := T_M) (N := 15) hx hb hts in_M hown hK hP 0 rfl rfl 10 (by decide) (hts _ t_757) (fun _ h9 => h9) rfl d_M_remembers_105 ?_
                  refine lv_iload_n hx hb d_M_remembers_108 rfl (lv_at hl 1 rfl) ?_
                  refine lv_bipush (v := nI 30) hx hb d_M_remembers_109 (by decide) ?_
                  refine lv_iadd hx hb d_M_remembers_111 ?_
                  refine k_top (nI_add _ _) ?_
                  refine lv_iconst (v := nI 2) hx hb d_M_remembers_112 (by decide) ?_
                  refine lv_iload_n hx hb d_M_remembers_113 rfl (lv_at hl 0 rfl) ?_
                  refine lv_imul hx hb d_M_remembers_114 ?_
                  refine k_top (pk_mul _ _) ?_
                  refine lv_isub hx hb d_M_remembers_115 ?_
                  refine k_top (pk_sub (by omega)) ?_
                  refine k_ialdN hx hb hK hP 1 rfl (i := (((gv g 256 16) + 30) - (2 * i))) (by omega) (by omega) d_M_remembers_116 ?_
                  refine lv_bipush (v := nI 8) hx hb d_M_remembers_117 (by decide) ?_
                  refine lv_ishl hx hb d_M_remembers_119 ?_
                  refine k_top (k_shlN (by decide) (by omega)) ?_
                  refine lv_ior hx hb d_M_remembers_120 ?_
                  refine k_top (r_or (by omega) (by omega)) ?_
                  refine k_iastN hx hb hK hP hD hS 2 rfl (i := (304 + i)) (by omega) (by omega) d_M_remembers_121 (fun H locs hP hD hS => ?_)
                  have hP : va_P E.1 vwCl [(mo, .inr (8, [.int (nI len), .ref mb, .int (kb on), .int (nI en), .int (nI gas), .int (nI ctr), .int (nI siz), .int (nI hgt), .int (nI frm), .int (nI ret), .ref mm, .ref mw, .ref mh, .ref ml, .int (kb ay)])), (mm, .inl (E.2.1 0, 160, .inl (nF mem))), (mw, .inl (E.2.1 0, 370, .inl (nF (va_up z (304 + i) ((mem (((gv g 256 16) + 31) - (2 * i))) ||| ((mem (((gv g 256 16) + 30) - (2 * i))) * 256))))))] H := hP
                  have hD : va_D A [(mo, .inr (8, [.int (nI len), .ref mb, .int (kb on), .int (nI en), .int (nI gas), .int (nI ctr), .int (nI siz), .int (nI hgt), .int (nI frm), .int (nI ret), .ref mm, .ref mw, .ref mh, .ref ml, .int (kb ay)])), (mm, .inl (E.2.1 0, 160, .inl (nF mem))), (mw, .inl (E.2.1 0, 370, .inl (nF (va_up z (304 + i) ((mem (((gv g 256 16) + 31) - (2 * i))) ||| ((mem (((gv g 256 16) + 30) - (2 * i))) * 256))))))] := hD
                  refine lv_iinc (k := 0) (v := nI (i + 1)) (lv' := [(3, .int (nI (i + 1))), (2, .int (nI (gv g 256 16))), (0, .ref mo), (1, .int (nI 81))]) hx hb d_M_remembers_122 hl rfl (k_inc _) (by decide) rfl (fun ls hl => ?_)
                  refine lv_goto (tgt := 70) hx hb d_M_remembers_125 (by decide) ?_
                  exact ih (n - 1) (by omega) (i + 1) (va_up z (304 + i) ((mem (((gv g 256 16) + 31) - (2 * i))) ||| ((mem (((gv g 256 16) + 30) - (2 * i))) * 256))) _ _ ls (by omega) (ld_step (by omega) hm hI) (lv_sub hl [0, 1, 2, 3] rfl) hP hD hS
          exact key70 16 0 g _ _ ls (by omega) ⟨by rw [gv_0, Nat.pow_zero, Nat.mul_one, Nat.zero_add], fr1_0, hg⟩ (lv_sub hl [0, 1, 2, 3] rfl) hP hD hS
        · omega
    · omega
  · skip
    have hQ2 := hQ2 (by decide)
    refine lv_aload_n hx hb d_M_remembers_0 rfl (lv_at hl 0 rfl) ?_
    refine lv_sipush (v := nI 256) hx hb d_M_remembers_1 (by decide) ?_
    refine k_Vp (As := [.int (nI 256)]) (rest := []) ⟨hx, hb, hml, hown, hts⟩ (c_M_small l E mo mb mm mw mh ml len en gas ctr siz hgt frm ret on ay g hg 256 (by decide)) (k_cwV 1 hts t_857 t_859 t_32 t_71 t_860 (by decide +kernel) ⟨Nat.le_of_ble_eq_true rfl, Nat.le_of_ble_eq_true rfl⟩) hK hG hA hP hD hS [0, 2] rfl (by decide) 0 rfl rfl rfl hl.1 rfl (Nat.le_of_ble_eq_true rfl) d_M_remembers_4 ⟨Nat.zero_le _, Nat.zero_le _⟩ (fun r4 hu4 => ?_)
    have hu4 := hu4.trans (by rw [Nat.min_eq_left (by omega)])
    subst hu4
    refine lv_istore_n (lv' := [(2, .int (nI (gv g 256 16))), (0, .ref mo), (1, .int (nI 82))]) hx hb d_M_remembers_7 rfl hl (by decide) rfl (fun ls hl => ?_)
    refine lv_iload_n hx hb d_M_remembers_8 rfl (lv_at hl 2 rfl) ?_
    refine lv_bipush (v := nI 83) hx hb d_M_remembers_9 (by decide) ?_
    refine kn_ne (tgt := 32) hx hb (by omega) (by omega) d_M_remembers_11 (by decide) (fun h11 => ?_) (fun h11 => ?_)
    · refine lv_iconst (v := nI 0) hx hb d_M_remembers_32 (by decide) ?_
      refine lv_istore_n (lv' := [(3, .int (nI 0)), (2, .int (nI (gv g 256 16))), (0, .ref mo), (1, .int (nI 82))]) hx hb d_M_remembers_33 rfl hl (by decide) rfl (fun ls hl => ?_)
      have key34 : ∀ (n : Nat) (i : Nat) (y : Nat → Nat) (H : Heap) (locs : List Loc) (ls : Array Slot), i + n = 32 → (∀ k, y k = if gv g 256 16 ≤ k ∧ k < gv g 256 16 + i then m_byte (k - gv g 256 16) (gv g 272 16) else mem k) → lv_has ls 4 [(3, .int (nI i)), (2, .int (nI (gv g 256 16))), (0, .ref mo), (1, .int (nI 82))] → va_P E.1 vwCl [(mo, .inr (8, [.int (nI len), .ref mb, .int (kb on), .int (nI en), .int (nI gas), .int (nI ctr), .int (nI siz), .int (nI hgt), .int (nI frm), .int (nI ret), .ref mm, .ref mw, .ref mh, .ref ml, .int (kb ay)])), (mm, .inl (E.2.1 0, 160, .inl (nF y))), (mw, .inl (E.2.1 0, 370, .inl (nF g)))] H → va_D A [(mo, .inr (8, [.int (nI len), .ref mb, .int (kb on), .int (nI en), .int (nI gas), .int (nI ctr), .int (nI siz), .int (nI hgt), .int (nI frm), .int (nI ret), .ref mm, .ref mw, .ref mh, .ref ml, .int (kb ay)])), (mm, .inl (E.2.1 0, 160, .inl (nF y))), (mw, .inl (E.2.1 0, 370, .inl (nF g)))] → va_S A s.heap H locs → W p l e rm_c_M_remembers s m args below meth c H locs 0 0 Q (F0 m 34 ls []) := by
        intro n
        induction n using Nat.strongRecOn with
        | ind n ih =>
          intro i y H locs ls hn hI hl hP hD hS
          refine lv_iload_n hx hb d_M_remembers_34 rfl (lv_at hl 0 rfl) ?_
          refine lv_bipush (v := nI 32) hx hb d_M_remembers_35 (by decide) ?_
          refine kn_ge (tgt := 68) hx hb (by omega) (by omega) d_M_remembers_37 (by decide) (fun h37 => ?_) (fun h37 => ?_)
          · obtain rfl : i = 32 := by omega
            obtain rfl := mm_82 hI
            have hP : va_P E.1 vwCl [(mo, .inr (8, [.int (nI len), .ref mb, .int (kb on), .int (nI en), .int (nI gas), .int (nI ctr), .int (nI siz), .int (nI hgt), .int (nI frm), .int (nI ret), .ref mm, .ref mw, .ref mh, .ref ml, .int (kb ay)])), (mm, .inl (E.2.1 0, 160, .inl (nF (m_mem 82 (gv g 256 16) (gv g 272 16) mem)))), (mw, .inl (E.2.1 0, 370, .inl (nF g)))] H := hP
            have hD : va_D A [(mo, .inr (8, [.int (nI len), .ref mb, .int (kb on), .int (nI en), .int (nI gas), .int (nI ctr), .int (nI siz), .int (nI hgt), .int (nI frm), .int (nI ret), .ref mm, .ref mw, .ref mh, .ref ml, .int (kb ay)])), (mm, .inl (E.2.1 0, 160, .inl (nF (m_mem 82 (gv g 256 16) (gv g 272 16) mem)))), (mw, .inl (E.2.1 0, 370, .inl (nF g)))] := hD
            refine lv_iconst (v := nI 0) hx hb d_M_remembers_68 (by decide) ?_
            refine lv_istore_n (lv' := [(3, .int (nI 0)), (2, .int (nI (gv g 256 16))), (0, .ref mo), (1, .int (nI 82))]) hx hb d_M_remembers_69 rfl hl (by decide) rfl (fun ls hl => ?_)
            refine lv_iload_n hx hb d_M_remembers_70 rfl (lv_at hl 0 rfl) ?_
            refine lv_bipush (v := nI 16) hx hb d_M_remembers_71 (by decide) ?_
            refine kn_ge (tgt := 128) hx hb (by omega) (by omega) d_M_remembers_73 (by decide) (fun h73 => ?_) (fun h73 => ?_)
            · omega
            · refine lv_iload_n hx hb d_M_remembers_76 rfl (lv_at hl 3 rfl) ?_
              refine lv_bipush (v := nI 81) hx hb d_M_remembers_77 (by decide) ?_
              refine kn_ne (tgt := 128) hx hb (by omega) (by omega) d_M_remembers_79 (by decide) (fun h79 => ?_) (fun h79 => ?_)
              · exact hret _ ls _ _ g d_M_remembers_128 ⟨fun q => absurd q (by decide), fr1_0, hg⟩ hP hS
              · omega
          · refine lv_iload_n hx hb d_M_remembers_40 rfl (lv_at hl 3 rfl) ?_
            refine lv_bipush (v := nI 82) hx hb d_M_remembers_41 (by decide) ?_
            refine kn_ne (tgt := 68) hx hb (by omega) (by omega) d_M_remembers_43 (by decide) (fun h43 => ?_) (fun h43 => ?_)
            · omega
            · refine lv_aload_n hx hb d_M_remembers_46 rfl (lv_at hl 2 rfl) ?_
              refine va_get (D := E.1) (ci := 8) (v := .ref mm) (C := "WideStackModel") (T := T_M) (N := 15) hx hb hts in_M hown hK hP 0 rfl rfl 10 (by decide) (hts _ t_757) (fun _ h9 => h9) rfl d_M_remembers_47 ?_
              refine lv_iload_n hx hb d_M_remembers_50 rfl (lv_at hl 1 rfl) ?_
              refine lv_iload_n hx hb d_M_remembers_51 rfl (lv_at hl 0 rfl) ?_
              refine lv_iadd hx hb d_M_remembers_52 ?_
              refine k_top (nI_add _ _) ?_
              refine lv_aload_n hx hb d_M_remembers_53 rfl (lv_at hl 2 rfl) ?_
              refine lv_sipush (v := nI 272) hx hb d_M_remembers_54 (by decide) ?_
              refine lv_iload_n hx hb d_M_remembers_57 rfl (lv_at hl 0 rfl) ?_
              refine k_Vp (As := [.int (nI 272), .int (nI i)]) (rest := [.int (nI ((gv g 256 16) + i)), .ref mm]) ⟨hx, hb, hml, hown, hts⟩ (c_M_byteOf l E mo mb mm mw mh ml len en gas ctr siz hgt frm ret on ay g hg 272 i (by decide) (by omega)) (k_cwV 2 hts t_950 t_952 t_54 t_71 t_953 (by decide +kernel) ⟨Nat.le_of_ble_eq_true rfl, Nat.le_of_ble_eq_true rfl⟩) hK hG hA hP hD hS [0, 2] rfl (by decide) 0 rfl rfl rfl hl.1 rfl (Nat.le_of_ble_eq_true rfl) d_M_remembers_58 ⟨Nat.zero_le _, Nat.zero_le _⟩ (fun r58 hu58 => ?_)
              subst hu58
              refine k_iastN hx hb hK hP hD hS 1 rfl (i := ((gv g 256 16) + i)) (by omega) (by omega) d_M_remembers_61 (fun H locs hP hD hS => ?_)
              have hP : va_P E.1 vwCl [(mo, .inr (8, [.int (nI len), .ref mb, .int (kb on), .int (nI en), .int (nI gas), .int (nI ctr), .int (nI siz), .int (nI hgt), .int (nI frm), .int (nI ret), .ref mm, .ref mw, .ref mh, .ref ml, .int (kb ay)])), (mm, .inl (E.2.1 0, 160, .inl (nF (va_up y ((gv g 256 16) + i) (m_byte i (gv g 272 16)))))), (mw, .inl (E.2.1 0, 370, .inl (nF g)))] H := hP
              have hD : va_D A [(mo, .inr (8, [.int (nI len), .ref mb, .int (kb on), .int (nI en), .int (nI gas), .int (nI ctr), .int (nI siz), .int (nI hgt), .int (nI frm), .int (nI ret), .ref mm, .ref mw, .ref mh, .ref ml, .int (kb ay)])), (mm, .inl (E.2.1 0, 160, .inl (nF (va_up y ((gv g 256 16) + i) (m_byte i (gv g 272 16)))))), (mw, .inl (E.2.1 0, 370, .inl (nF g)))] := hD
              refine lv_iinc (k := 0) (v := nI (i + 1)) (lv' := [(3, .int (nI (i + 1))), (2, .int (nI (gv g 256 16))), (0, .ref mo), (1, .int (nI 82))]) hx hb d_M_remembers_62 hl rfl (k_inc _) (by decide) rfl (fun ls hl => ?_)
              refine lv_goto (tgt := 34) hx hb d_M_remembers_65 (by decide) ?_
              exact ih (n - 1) (by omega) (i + 1) (va_up y ((gv g 256 16) + i) (m_byte i (gv g 272 16))) _ _ ls (by omega) (fun k => mm_82s hI k) (lv_sub hl [0, 1, 2, 3] rfl) hP hD hS
      exact key34 32 0 mem _ _ ls (by omega) (fun k => by rw [if_neg (by omega)]) (lv_sub hl [0, 1, 2, 3] rfl) hP hD hS
    · omega
  · skip
    refine lv_aload_n hx hb d_M_remembers_0 rfl (lv_at hl 0 rfl) ?_
    refine lv_sipush (v := nI 256) hx hb d_M_remembers_1 (by decide) ?_
    refine k_Vp (As := [.int (nI 256)]) (rest := []) ⟨hx, hb, hml, hown, hts⟩ (c_M_small l E mo mb mm mw mh ml len en gas ctr siz hgt frm ret on ay g hg 256 (by decide)) (k_cwV 1 hts t_857 t_859 t_32 t_71 t_860 (by decide +kernel) ⟨Nat.le_of_ble_eq_true rfl, Nat.le_of_ble_eq_true rfl⟩) hK hG hA hP hD hS [0, 2] rfl (by decide) 0 rfl rfl rfl hl.1 rfl (Nat.le_of_ble_eq_true rfl) d_M_remembers_4 ⟨Nat.zero_le _, Nat.zero_le _⟩ (fun r4 hu4 => ?_)
    have hu4 := hu4.trans (by rw [Nat.min_eq_left (by omega)])
    subst hu4
    refine lv_istore_n (lv' := [(2, .int (nI (gv g 256 16))), (0, .ref mo), (1, .int (nI 83))]) hx hb d_M_remembers_7 rfl hl (by decide) rfl (fun ls hl => ?_)
    refine lv_iload_n hx hb d_M_remembers_8 rfl (lv_at hl 2 rfl) ?_
    refine lv_bipush (v := nI 83) hx hb d_M_remembers_9 (by decide) ?_
    refine kn_ne (tgt := 32) hx hb (by omega) (by omega) d_M_remembers_11 (by decide) (fun h11 => ?_) (fun h11 => ?_)
    · omega
    · refine lv_aload_n hx hb d_M_remembers_14 rfl (lv_at hl 1 rfl) ?_
      refine va_get (D := E.1) (ci := 8) (v := .ref mm) (C := "WideStackModel") (T := T_M) (N := 15) hx hb hts in_M hown hK hP 0 rfl rfl 10 (by decide) (hts _ t_757) (fun _ h9 => h9) rfl d_M_remembers_15 ?_
      refine lv_iload_n hx hb d_M_remembers_18 rfl (lv_at hl 0 rfl) ?_
      refine lv_aload_n hx hb d_M_remembers_19 rfl (lv_at hl 1 rfl) ?_
      refine va_get (D := E.1) (ci := 8) (v := .ref mw) (C := "WideStackModel") (T := T_M) (N := 15) hx hb hts in_M hown hK hP 0 rfl rfl 11 (by decide) (hts _ t_758) (fun _ h9 => h9) rfl d_M_remembers_20 ?_
      refine lv_sipush (v := nI 272) hx hb d_M_remembers_23 (by decide) ?_
      refine k_ialdN hx hb hK hP 2 rfl (i := 272) (by omega) (by omega) d_M_remembers_26 ?_
      refine lv_sipush (v := nI 255) hx hb d_M_remembers_27 (by decide) ?_
      refine lv_iand hx hb d_M_remembers_30 ?_
      refine k_top (pk_andN (Nat.lt_trans (hg 272) (by decide)) 8 (by decide)) ?_
      have b1 := hg 272
      refine k_top (congrArg nI gv_low) ?_
      refine k_iastN hx hb hK hP hD hS 1 rfl (i := (gv g 256 16)) (by omega) (by omega) d_M_remembers_31 (fun H locs hP hD hS => ?_)
      have hP : va_P E.1 vwCl [(mo, .inr (8, [.int (nI len), .ref mb, .int (kb on), .int (nI en), .int (nI gas), .int (nI ctr), .int (nI siz), .int (nI hgt), .int (nI frm), .int (nI ret), .ref mm, .ref mw, .ref mh, .ref ml, .int (kb ay)])), (mm, .inl (E.2.1 0, 160, .inl (nF (va_up mem (gv g 256 16) (gv g 272 16 % 256))))), (mw, .inl (E.2.1 0, 370, .inl (nF g)))] H := hP
      have hD : va_D A [(mo, .inr (8, [.int (nI len), .ref mb, .int (kb on), .int (nI en), .int (nI gas), .int (nI ctr), .int (nI siz), .int (nI hgt), .int (nI frm), .int (nI ret), .ref mm, .ref mw, .ref mh, .ref ml, .int (kb ay)])), (mm, .inl (E.2.1 0, 160, .inl (nF (va_up mem (gv g 256 16) (gv g 272 16 % 256))))), (mw, .inl (E.2.1 0, 370, .inl (nF g)))] := hD
      rw [mm_83] at hP hD
      have hP : va_P E.1 vwCl [(mo, .inr (8, [.int (nI len), .ref mb, .int (kb on), .int (nI en), .int (nI gas), .int (nI ctr), .int (nI siz), .int (nI hgt), .int (nI frm), .int (nI ret), .ref mm, .ref mw, .ref mh, .ref ml, .int (kb ay)])), (mm, .inl (E.2.1 0, 160, .inl (nF (m_mem 83 (gv g 256 16) (gv g 272 16) mem)))), (mw, .inl (E.2.1 0, 370, .inl (nF g)))] H := hP
      have hD : va_D A [(mo, .inr (8, [.int (nI len), .ref mb, .int (kb on), .int (nI en), .int (nI gas), .int (nI ctr), .int (nI siz), .int (nI hgt), .int (nI frm), .int (nI ret), .ref mm, .ref mw, .ref mh, .ref ml, .int (kb ay)])), (mm, .inl (E.2.1 0, 160, .inl (nF (m_mem 83 (gv g 256 16) (gv g 272 16) mem)))), (mw, .inl (E.2.1 0, 370, .inl (nF g)))] := hD
      refine lv_iconst (v := nI 0) hx hb d_M_remembers_32 (by decide) ?_
      refine lv_istore_n (lv' := [(3, .int (nI 0)), (2, .int (nI (gv g 256 16))), (0, .ref mo), (1, .int (nI 83))]) hx hb d_M_remembers_33 rfl hl (by decide) rfl (fun ls hl => ?_)
      refine lv_iload_n hx hb d_M_remembers_34 rfl (lv_at hl 0 rfl) ?_
      refine lv_bipush (v := nI 32) hx hb d_M_remembers_35 (by decide) ?_
      refine kn_ge (tgt := 68) hx hb (by omega) (by omega) d_M_remembers_37 (by decide) (fun h37 => ?_) (fun h37 => ?_)
      · omega
      · refine lv_iload_n hx hb d_M_remembers_40 rfl (lv_at hl 3 rfl) ?_
        refine lv_bipush (v := nI 82) hx hb d_M_remembers_41 (by decide) ?_
        refine kn_ne (tgt := 68) hx hb (by omega) (by omega) d_M_remembers_43 (by decide) (fun h43 => ?_) (fun h43 => ?_)
        · refine lv_iconst (v := nI 0) hx hb d_M_remembers_68 (by decide) ?_
          refine lv_istore_n (lv' := [(3, .int (nI 0)), (2, .int (nI (gv g 256 16))), (0, .ref mo), (1, .int (nI 83))]) hx hb d_M_remembers_69 rfl hl (by decide) rfl (fun ls hl => ?_)
          refine lv_iload_n hx hb d_M_remembers_70 rfl (lv_at hl 0 rfl) ?_
          refine lv_bipush (v := nI 16) hx hb d_M_remembers_71 (by decide) ?_
          refine kn_ge (tgt := 128) hx hb (by omega) (by omega) d_M_remembers_73 (by decide) (fun h73 => ?_) (fun h73 => ?_)
          · omega
          · refine lv_iload_n hx hb d_M_remembers_76 rfl (lv_at hl 3 rfl) ?_
            refine lv_bipush (v := nI 81) hx hb d_M_remembers_77 (by decide) ?_
            refine kn_ne (tgt := 128) hx hb (by omega) (by omega) d_M_remembers_79 (by decide) (fun h79 => ?_) (fun h79 => ?_)
            · exact hret _ ls _ _ g d_M_remembers_128 ⟨fun q => absurd q (by decide), fr1_0, hg⟩ hP hS
            · omega
        · omega

theorem rd_sh {b k : Nat} (h : b < 256) : b * 2 ^ (8 * (k % 2)) < 4294967296 := by
  rcases (by omega : k % 2 = 0 ∨ k % 2 = 1) with q | q <;> rw [q] <;> simp <;> omega

abbrev y_M_reads : MethodName := ⟨"WideStackModel", "reads", "(I)V"⟩
theorem d_M_reads_0 : decode prog_12_method_44_code 0 = .ok (.aload_n 0, 1) := by decide +kernel
theorem d_M_reads_1 : decode prog_12_method_44_code 1 = .ok (.sipush 304, 3) := by decide +kernel
theorem d_M_reads_4 : decode prog_12_method_44_code 4 = .ok (.iconst 0, 1) := by decide +kernel
theorem d_M_reads_5 : decode prog_12_method_44_code 5 = .ok (.invokevirtual 148, 3) := by decide +kernel
theorem d_M_reads_8 : decode prog_12_method_44_code 8 = .ok (.iconst 0, 1) := by decide +kernel
theorem d_M_reads_9 : decode prog_12_method_44_code 9 = .ok (.istore_n 2, 1) := by decide +kernel
theorem d_M_reads_10 : decode prog_12_method_44_code 10 = .ok (.iload_n 2, 1) := by decide +kernel
theorem d_M_reads_11 : decode prog_12_method_44_code 11 = .ok (.iload_n 1, 1) := by decide +kernel
theorem d_M_reads_12 : decode prog_12_method_44_code 12 = .ok (.if_icmp .ge 43, 3) := by decide +kernel
theorem d_M_reads_15 : decode prog_12_method_44_code 15 = .ok (.aload_n 0, 1) := by decide +kernel
theorem d_M_reads_16 : decode prog_12_method_44_code 16 = .ok (.getfield 16, 3) := by decide +kernel
theorem d_M_reads_19 : decode prog_12_method_44_code 19 = .ok (.sipush 304, 3) := by decide +kernel
theorem d_M_reads_22 : decode prog_12_method_44_code 22 = .ok (.iload_n 2, 1) := by decide +kernel
theorem d_M_reads_23 : decode prog_12_method_44_code 23 = .ok (.iconst 2, 1) := by decide +kernel
theorem d_M_reads_24 : decode prog_12_method_44_code 24 = .ok (.idiv, 1) := by decide +kernel
theorem d_M_reads_25 : decode prog_12_method_44_code 25 = .ok (.iadd, 1) := by decide +kernel
theorem d_M_reads_26 : decode prog_12_method_44_code 26 = .ok (.dup2, 1) := by decide +kernel
theorem d_M_reads_27 : decode prog_12_method_44_code 27 = .ok (.iaload, 1) := by decide +kernel
theorem d_M_reads_28 : decode prog_12_method_44_code 28 = .ok (.aload_n 0, 1) := by decide +kernel
theorem d_M_reads_29 : decode prog_12_method_44_code 29 = .ok (.aload_n 0, 1) := by decide +kernel
theorem d_M_reads_30 : decode prog_12_method_44_code 30 = .ok (.getfield 100, 3) := by decide +kernel
theorem d_M_reads_33 : decode prog_12_method_44_code 33 = .ok (.iload_n 1, 1) := by decide +kernel
theorem d_M_reads_34 : decode prog_12_method_44_code 34 = .ok (.iadd, 1) := by decide +kernel
theorem d_M_reads_35 : decode prog_12_method_44_code 35 = .ok (.iload_n 2, 1) := by decide +kernel
theorem d_M_reads_36 : decode prog_12_method_44_code 36 = .ok (.isub, 1) := by decide +kernel
theorem d_M_reads_37 : decode prog_12_method_44_code 37 = .ok (.invokevirtual 41, 3) := by decide +kernel
theorem d_M_reads_40 : decode prog_12_method_44_code 40 = .ok (.bipush 8, 2) := by decide +kernel
theorem d_M_reads_42 : decode prog_12_method_44_code 42 = .ok (.iload_n 2, 1) := by decide +kernel
theorem d_M_reads_43 : decode prog_12_method_44_code 43 = .ok (.iconst 2, 1) := by decide +kernel
theorem d_M_reads_44 : decode prog_12_method_44_code 44 = .ok (.irem, 1) := by decide +kernel
theorem d_M_reads_45 : decode prog_12_method_44_code 45 = .ok (.imul, 1) := by decide +kernel
theorem d_M_reads_46 : decode prog_12_method_44_code 46 = .ok (.ishl, 1) := by decide +kernel
theorem d_M_reads_47 : decode prog_12_method_44_code 47 = .ok (.ior, 1) := by decide +kernel
theorem d_M_reads_48 : decode prog_12_method_44_code 48 = .ok (.iastore, 1) := by decide +kernel
theorem d_M_reads_49 : decode prog_12_method_44_code 49 = .ok (.iinc 2 1, 3) := by decide +kernel
theorem d_M_reads_52 : decode prog_12_method_44_code 52 = .ok (.goto (-42), 3) := by decide +kernel
theorem d_M_reads_55 : decode prog_12_method_44_code 55 = .ok (.return_, 1) := by decide +kernel
def rm_c_M_reads : Room := { frames := 1, cells := 0, slots := 0, locals := 23 }
set_option maxHeartbeats 4000000 in
set_option maxRecDepth 100000 in
theorem c_M_reads (l : Launch) (E : kE) (mo mb mm mw mh ml len en gas ctr siz hgt frm ret : Nat) (on ay : Bool) (g : Nat → Nat) (hg : ∀ j, g j < 65536) (nb bb : Nat → Nat) (okb : okB len bb nb) (nn : Nat) (hn0 : 1 ≤ nn ∧ nn ≤ 32) (hc : ctr < 1000) : Kv l y_M_reads (kW y_M_reads prog_12_method_44_code 3 (none)) rm_c_M_reads E [.ref mo, .int (nI nn)] [(mo, .inr (8, [.int (nI len), .ref mb, .int (kb on), .int (nI en), .int (nI gas), .int (nI ctr), .int (nI siz), .int (nI hgt), .int (nI frm), .int (nI ret), .ref mm, .ref mw, .ref mh, .ref ml, .int (kb ay)])), (mb, .inl (E.2.1 0, 96, .inl (nF nb))), (mw, .inl (E.2.1 0, 370, .inl (nF g)))] (S := Nat → Nat) (fun u => gv u 304 16 = m_num bb (ctr + 1) nn ∧ fr1 g u 304 16 ∧ ∀ j, u j < 65536) (fun u => [(mo, .inr (8, [.int (nI len), .ref mb, .int (kb on), .int (nI en), .int (nI gas), .int (nI ctr), .int (nI siz), .int (nI hgt), .int (nI frm), .int (nI ret), .ref mm, .ref mw, .ref mh, .ref ml, .int (kb ay)])), (mb, .inl (E.2.1 0, 96, .inl (nF nb))), (mw, .inl (E.2.1 0, 370, .inl (nF u)))]) := by
  refine Kv.ofW (cc := prog_12_method_44_code) (maxL := 3) (by decide) (Nat.le_of_ble_eq_true rfl) ?_
  intro p e s m args below meth c A ls Q hx hb hts hown hml hK hG hA hP hD hS hl hret
  have hl : lv_has ls 3 [(0, .ref mo), (1, .int (nI nn))] := hl
  refine lv_aload_n hx hb d_M_reads_0 rfl (lv_at hl 0 rfl) ?_
  refine lv_sipush (v := nI 304) hx hb d_M_reads_1 (by decide) ?_
  refine lv_iconst (v := nI 0) hx hb d_M_reads_4 (by decide) ?_
  refine k_Vv (As := [.int (nI 304), .int (nI 0)]) (rest := []) ⟨hx, hb, hml, hown, hts⟩ (c_M_number l E mo mb mm mw mh ml len en gas ctr siz hgt frm ret on ay g hg 304 0 (by decide) (by decide)) (k_cwV 2 hts t_942 t_944 t_52 t_71 t_945 (by decide +kernel) ⟨Nat.le_of_ble_eq_true rfl, Nat.le_of_ble_eq_true rfl⟩) hK hG hA hP hD hS [0, 2] rfl (by decide) 0 rfl rfl (fun _ => rfl) rfl hl.1 rfl (Nat.le_of_ble_eq_true rfl) d_M_reads_5 ⟨Nat.zero_le _, Nat.zero_le _⟩ (fun u0 H locs hu0 hP hD hS => ?_)
  have hP : va_P E.1 vwCl [(mo, .inr (8, [.int (nI len), .ref mb, .int (kb on), .int (nI en), .int (nI gas), .int (nI ctr), .int (nI siz), .int (nI hgt), .int (nI frm), .int (nI ret), .ref mm, .ref mw, .ref mh, .ref ml, .int (kb ay)])), (mb, .inl (E.2.1 0, 96, .inl (nF nb))), (mw, .inl (E.2.1 0, 370, .inl (nF (nmb g 304 0))))] H := hP
  have hD : va_D A [(mo, .inr (8, [.int (nI len), .ref mb, .int (kb on), .int (nI en), .int (nI gas), .int (nI ctr), .int (nI siz), .int (nI hgt), .int (nI frm), .int (nI ret), .ref mm, .ref mw, .ref mh, .ref ml, .int (kb ay)])), (mb, .inl (E.2.1 0, 96, .inl (nF nb))), (mw, .inl (E.2.1 0, 370, .inl (nF (nmb g 304 0))))] := hD
  refine lv_iconst (v := nI 0) hx hb d_M_reads_8 (by decide) ?_
  refine lv_istore_n (lv' := [(2, .int (nI 0)), (0, .ref mo), (1, .int (nI nn))]) hx hb d_M_reads_9 rfl hl (by decide) rfl (fun ls hl => ?_)
  have key10 : ∀ (n : Nat) (k : Nat) (z : Nat → Nat) (H : Heap) (locs : List Loc) (ls : Array Slot), k + n = nn → (rdI g z bb ctr nn k) → lv_has ls 3 [(2, .int (nI k)), (0, .ref mo), (1, .int (nI nn))] → va_P E.1 vwCl [(mo, .inr (8, [.int (nI len), .ref mb, .int (kb on), .int (nI en), .int (nI gas), .int (nI ctr), .int (nI siz), .int (nI hgt), .int (nI frm), .int (nI ret), .ref mm, .ref mw, .ref mh, .ref ml, .int (kb ay)])), (mb, .inl (E.2.1 0, 96, .inl (nF nb))), (mw, .inl (E.2.1 0, 370, .inl (nF z)))] H → va_D A [(mo, .inr (8, [.int (nI len), .ref mb, .int (kb on), .int (nI en), .int (nI gas), .int (nI ctr), .int (nI siz), .int (nI hgt), .int (nI frm), .int (nI ret), .ref mm, .ref mw, .ref mh, .ref ml, .int (kb ay)])), (mb, .inl (E.2.1 0, 96, .inl (nF nb))), (mw, .inl (E.2.1 0, 370, .inl (nF z)))] → va_S A s.heap H locs → W p l e rm_c_M_reads s m args below meth c H locs 0 0 Q (F0 m 10 ls []) := by
    intro n
    induction n using Nat.strongRecOn with
    | ind n ih =>
      intro k z H locs ls hn hI hl hP hD hS
      have b1 := hI.2.2.2 (304 + k / 2)
      have b2 := okb.2.2.1 (ctr + nn - k)
      have b3 : bb (ctr + nn - k) * 2 ^ (8 * (k % 2)) < 4294967296 := rd_sh b2
      refine lv_iload_n hx hb d_M_reads_10 rfl (lv_at hl 0 rfl) ?_
      refine lv_iload_n hx hb d_M_reads_11 rfl (lv_at hl 2 rfl) ?_
      refine kn_ge (tgt := 55) hx hb (by omega) (by omega) d_M_reads_12 (by decide) (fun h12 => ?_) (fun h12 => ?_)
      · obtain rfl : k = nn := by omega
        exact hret _ ls _ _ z d_M_reads_55 ⟨by have e := hI.1; rw [Nat.sub_self] at e; exact fin0 e, hI.2.2⟩ hP hS
      · refine lv_aload_n hx hb d_M_reads_15 rfl (lv_at hl 1 rfl) ?_
        refine va_get (D := E.1) (ci := 8) (v := .ref mw) (C := "WideStackModel") (T := T_M) (N := 15) hx hb hts in_M hown hK hP 0 rfl rfl 11 (by decide) (hts _ t_758) (fun _ h9 => h9) rfl d_M_reads_16 ?_
        refine lv_sipush (v := nI 304) hx hb d_M_reads_19 (by decide) ?_
        refine lv_iload_n hx hb d_M_reads_22 rfl (lv_at hl 0 rfl) ?_
        refine lv_iconst (v := nI 2) hx hb d_M_reads_23 (by decide) ?_
        refine lv_idiv hx hb d_M_reads_24 (by decide) ?_
        refine k_top (pk_div (by omega) (by decide) (by decide)) ?_
        refine lv_iadd hx hb d_M_reads_25 ?_
        refine k_top (nI_add _ _) ?_
        refine lv_dup2_11 hx hb d_M_reads_26 rfl rfl ?_
        refine k_ialdN hx hb hK hP 2 rfl (i := (304 + (k / 2))) (by omega) (by omega) d_M_reads_27 ?_
        refine lv_aload_n hx hb d_M_reads_28 rfl (lv_at hl 1 rfl) ?_
        refine lv_aload_n hx hb d_M_reads_29 rfl (lv_at hl 1 rfl) ?_
        refine va_get (D := E.1) (ci := 8) (v := .int (nI ctr)) (C := "WideStackModel") (T := T_M) (N := 15) hx hb hts in_M hown hK hP 0 rfl rfl 5 (by decide) (hts _ t_752) (fun _ h9 => h9) rfl d_M_reads_30 ?_
        refine lv_iload_n hx hb d_M_reads_33 rfl (lv_at hl 2 rfl) ?_
        refine lv_iadd hx hb d_M_reads_34 ?_
        refine k_top (nI_add _ _) ?_
        refine lv_iload_n hx hb d_M_reads_35 rfl (lv_at hl 0 rfl) ?_
        refine lv_isub hx hb d_M_reads_36 ?_
        refine k_top (pk_sub (by omega)) ?_
        refine k_Vp (As := [.int (nI ((ctr + nn) - k))]) (rest := [.int (nI (z (304 + (k / 2)))), .int (nI (304 + (k / 2))), .ref mw]) ⟨hx, hb, hml, hown, hts⟩ (c_M_at l E mo mb mm mw mh ml len en gas ctr siz hgt frm ret on ay nb bb okb (ctr + nn - k) (by omega)) (k_cwV 1 hts t_809 t_811 t_27 t_71 t_812 (by decide +kernel) ⟨Nat.le_of_ble_eq_true rfl, Nat.le_of_ble_eq_true rfl⟩) hK hG hA hP hD hS [0, 1] rfl (by decide) 0 rfl rfl rfl hl.1 rfl (Nat.le_of_ble_eq_true rfl) d_M_reads_37 ⟨Nat.zero_le _, Nat.zero_le _⟩ (fun r37 hu37 => ?_)
        subst hu37
        refine lv_bipush (v := nI 8) hx hb d_M_reads_40 (by decide) ?_
        refine lv_iload_n hx hb d_M_reads_42 rfl (lv_at hl 0 rfl) ?_
        refine lv_iconst (v := nI 2) hx hb d_M_reads_43 (by decide) ?_
        refine lv_irem hx hb d_M_reads_44 (by decide) ?_
        refine k_top (pk_rem (by omega) (by decide) (by decide)) ?_
        refine lv_imul hx hb d_M_reads_45 ?_
        refine k_top (pk_mul _ _) ?_
        refine lv_ishl hx hb d_M_reads_46 ?_
        refine k_top (k_shlN (by omega) b3) ?_
        refine lv_ior hx hb d_M_reads_47 ?_
        refine k_top (r_or (by omega) b3) ?_
        refine k_iastN hx hb hK hP hD hS 2 rfl (i := (304 + (k / 2))) (by omega) (by omega) d_M_reads_48 (fun H locs hP hD hS => ?_)
        have hP : va_P E.1 vwCl [(mo, .inr (8, [.int (nI len), .ref mb, .int (kb on), .int (nI en), .int (nI gas), .int (nI ctr), .int (nI siz), .int (nI hgt), .int (nI frm), .int (nI ret), .ref mm, .ref mw, .ref mh, .ref ml, .int (kb ay)])), (mb, .inl (E.2.1 0, 96, .inl (nF nb))), (mw, .inl (E.2.1 0, 370, .inl (nF (va_up z (304 + (k / 2)) ((z (304 + (k / 2))) ||| ((bb (ctr + nn - k)) * 2 ^ (8 * (k % 2))))))))] H := hP
        have hD : va_D A [(mo, .inr (8, [.int (nI len), .ref mb, .int (kb on), .int (nI en), .int (nI gas), .int (nI ctr), .int (nI siz), .int (nI hgt), .int (nI frm), .int (nI ret), .ref mm, .ref mw, .ref mh, .ref ml, .int (kb ay)])), (mb, .inl (E.2.1 0, 96, .inl (nF nb))), (mw, .inl (E.2.1 0, 370, .inl (nF (va_up z (304 + (k / 2)) ((z (304 + (k / 2))) ||| ((bb (ctr + nn - k)) * 2 ^ (8 * (k % 2))))))))] := hD
        refine lv_iinc (k := 0) (v := nI (k + 1)) (lv' := [(2, .int (nI (k + 1))), (0, .ref mo), (1, .int (nI nn))]) hx hb d_M_reads_49 hl rfl (k_inc _) (by decide) rfl (fun ls hl => ?_)
        refine lv_goto (tgt := 10) hx hb d_M_reads_52 (by decide) ?_
        exact ih (n - 1) (by omega) (k + 1) (va_up z (304 + (k / 2)) ((z (304 + (k / 2))) ||| ((bb (ctr + nn - k)) * 2 ^ (8 * (k % 2))))) _ _ ls (by omega) (rd_step (by omega) hn0.2 okb.2.2.1 hI) (lv_sub hl [0, 1, 2] rfl) hP hD hS
  exact key10 nn 0 (nmb g 304 0) _ _ ls (by omega) ⟨by rw [gv_nmb, Nat.sub_zero, Nat.pow_zero, Nat.mul_one, Nat.zero_add], by rw [gv_nmb]; decide, fun j hj => nmb_out hj, nmb_16 hg (by decide)⟩ (lv_sub hl [0, 1, 2] rfl) hP hD hS

