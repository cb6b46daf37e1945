/-- a fact that the arithmetic needn't look at -/
def kHide (P : Prop) : Prop := P
theorem tk_rep {o : Nat} (h : 128 ≤ o ∧ o < 144) : m_takes o = o - 127 := by unfold m_takes; rw [if_neg (by omega), if_neg (by omega), if_neg (by omega), if_pos (by omega)]
theorem gv_rep {o : Nat} (h : 128 ≤ o ∧ o < 144) : m_gives o = o - 126 := by unfold m_gives; rw [if_pos (by omega)]
theorem tk_ex {o : Nat} (h : 144 ≤ o ∧ o ≤ 159) : m_takes o = o - 142 := by unfold m_takes; rw [if_neg (by omega), if_neg (by omega), if_neg (by omega), if_neg (by omega), if_pos (by omega)]
theorem gv_ex {o : Nat} (h : 144 ≤ o ∧ o ≤ 159) : m_gives o = o - 142 := by unfold m_gives; rw [if_neg (by omega), if_pos (by omega)]
theorem q161b {A B : Nat} (h : 0 < B → A + B ≤ 160) (q : 0 < min B 65535) : A ≤ 65535 := by omega
theorem q161c {A B : Nat} (h : 0 < B → A + B ≤ 160) : B ≤ 65535 := by omega
section SS
variable {b stk mem g u : Nat → Nat} {o gas ctr siz hgt A B C n : Nat}
theorem hi_c (h : 128 ≤ o) : ctr + 1 + m_numl o = (m_do b o gas ctr siz hgt A B C stk mem).1 := by
  by_cases q : 144 ≤ o
  · rw [md_hi q]
  · rw [md_rep q h]
theorem hi_h (h : 128 ≤ o) : (if o < 144 then hgt + 1 else hgt) = (m_do b o gas ctr siz hgt A B C stk mem).2.1 := by
  by_cases q : 144 ≤ o
  · rw [md_hi q, if_neg (by omega)]
  · rw [md_rep q h, if_pos (by omega)]
theorem hi_m (h : 128 ≤ o) : mem = (m_do b o gas ctr siz hgt A B C stk mem).2.2.2 := by
  by_cases q : 144 ≤ o
  · rw [md_hi q]
  · rw [md_rep q h]
theorem hi_s {i : Nat} (h : 128 ≤ o) (hsk : ∀ i, i < 16 → rR g i = stk i) (hh : hgt ≤ 16) (hi : i < 16) : (if o < 144 then va_up (rR g) hgt (rR g (hgt - (o - 127))) else va_up (va_up (rR g) (hgt - 1) (rR g (hgt - (o - 142)))) (hgt - (o - 142)) (rR g (hgt - 1))) i = (m_do b o gas ctr siz hgt A B C stk mem).2.2.1 i := by
  by_cases q : 144 ≤ o
  · have e : (m_do b o gas ctr siz hgt A B C stk mem).2.2.1 = va_up (va_up stk (hgt - 1) (stk (hgt - (o - 142)))) (hgt - (o - 142)) (stk (hgt - 1)) := by rw [md_hi q]
    rw [e, if_neg (Nat.not_lt.mpr q), hsk (hgt - (o - 142)) (by omega), hsk (hgt - 1) (by omega)]
    by_cases e1 : i = hgt - (o - 142)
    · rw [← e1, va_up_self, va_up_self]
    · rw [va_up_ne _ _ e1, va_up_ne _ _ e1]
      by_cases e2 : i = hgt - 1
      · rw [← e2, va_up_self, va_up_self]
      · rw [va_up_ne _ _ e2, va_up_ne _ _ e2, hsk i hi]
  · have e : (m_do b o gas ctr siz hgt A B C stk mem).2.2.1 = va_up stk hgt (stk (hgt - (o - 127))) := by rw [md_rep q h]
    rw [e, if_pos (Nat.lt_of_not_le q), hsk (hgt - (o - 127)) (by omega)]
    by_cases e1 : i = hgt
    · rw [← e1, va_up_self, va_up_self]
    · rw [va_up_ne _ _ e1, va_up_ne _ _ e1, hsk i hi]
theorem lo_j (hj : m_jumps o B = true) (h : ¬ 128 ≤ o) : A = (m_do b o gas ctr siz hgt A B C stk mem).1 := by rw [md_lo h, if_pos hj]
theorem lo_n (hj : m_jumps o B = false) (h : ¬ 128 ≤ o) : ctr + 1 + m_numl o = (m_do b o gas ctr siz hgt A B C stk mem).1 := by rw [md_lo h, if_neg (by rw [hj]; decide)]
theorem lo_h1 (ht : m_takes o = n) (hg : m_gives o = 1) (h : ¬ 128 ≤ o) : hgt - n + 1 = (m_do b o gas ctr siz hgt A B C stk mem).2.1 := by rw [md_lo h, ht, hg]
theorem gv_lo (h : ¬ 128 ≤ o) : m_gives o = 0 ∨ m_gives o = 1 := by unfold m_gives; rw [if_neg (by omega), if_neg (by omega)]; split <;> simp
theorem lo_h0 (ht : m_takes o = n) (hg : ¬ m_gives o = 1) (h : ¬ 128 ≤ o) : hgt - n = (m_do b o gas ctr siz hgt A B C stk mem).2.1 := by
  rw [md_lo h, ht]
  rcases gv_lo h with q | q
  · rw [q]; rfl
  · exact absurd q hg
theorem lo_m (h : ¬ 128 ≤ o) : m_mem o A B mem = (m_do b o gas ctr siz hgt A B C stk mem).2.2.2 := by rw [md_lo h]
theorem lo_s1 {i N : Nat} (ht : m_takes o = n) (hg : m_gives o = 1) (h : ¬ 128 ≤ o) (hsk : ∀ i, i < 16 → rR g i = stk i) (hd : doP (tk1 g hgt N) u o (m_res b o gas ctr siz A B C mem)) (hh : hgt - n < 16) (hi : i < 16) : rR (cpy u (16 * (hgt - n)) 304) i = (m_do b o gas ctr siz hgt A B C stk mem).2.2.1 i := by
  have e : (m_do b o gas ctr siz hgt A B C stk mem).2.2.1 = va_up stk (hgt - n) (m_res b o gas ctr siz A B C mem) := by rw [md_lo h, if_pos hg, ht]
  rw [e, rR_cp rfl hi, hd.1 hg]
  by_cases e1 : i = hgt - n
  · subst e1; rw [va_up_self, va_up_self]
  · rw [va_up_ne _ _ e1, va_up_ne _ _ e1, ← hsk i hi]
    exact rR_out hi (fun j hj => (hd.2.1 j hj).trans (tk1_lo hj))
theorem lo_s0 {i N X : Nat} (hg : ¬ m_gives o = 1) (h : ¬ 128 ≤ o) (hsk : ∀ i, i < 16 → rR g i = stk i) (hd : doP (tk1 g hgt N) u o X) (hi : i < 16) : rR u i = (m_do b o gas ctr siz hgt A B C stk mem).2.2.1 i := by
  have e : (m_do b o gas ctr siz hgt A B C stk mem).2.2.1 = stk := by rw [md_lo h, if_neg hg]
  rw [e, ← hsk i hi]
  exact rR_out hi (fun j hj => (hd.2.1 j hj).trans (tk1_lo hj))
end SS

