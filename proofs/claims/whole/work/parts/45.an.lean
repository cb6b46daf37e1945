/-! the analysis as numbers. hs: 0 a place that was not reached, else its height and one; lk: looked at -/
theorem m1_eq {k : Nat} (hk : k < 2147483648) : m1 k = -1 ↔ k = 0 := by
  cases k with
  | zero => exact ⟨fun _ => rfl, fun _ => rfl⟩
  | succ k =>
    refine ⟨fun h => ?_, fun h => absurd h (Nat.succ_ne_zero k)⟩
    have h : nI k = nI 4294967295 := h
    have := (nI_eq32 (by omega) (by decide)).mp h
    omega
theorem m1_nI {k i : Nat} (hk : k < 2147483648) (hi : i < 2147483648) : m1 k = nI i ↔ k = i + 1 := by
  cases k with
  | zero =>
    refine ⟨fun h => ?_, fun h => absurd h (by omega)⟩
    have h : nI 4294967295 = nI i := h
    have := (nI_eq32 (by decide) (by omega)).mp h
    omega
  | succ k =>
    show nI k = nI i ↔ _
    rw [nI_eq32 (by omega) (by omega)]
    omega
theorem m1_pos {k : Nat} (hk : k ≠ 0) : m1 k = nI (k - 1) := by
  cases k with
  | zero => exact absurd rfl hk
  | succ k => rfl
def a_rch (hs : Nat → Nat) (i x : Nat) : Nat → Nat := if hs i = 0 then va_up hs i (x + 1) else hs
def a_jmp (len : Nat) (b : Nat → Nat) (hs : Nat → Nat) (i x : Nat) : Nat × (Nat → Nat) :=
  if m_lat b i = 0 ∨ m_numl (b (m_lat b i - 1)) = 0 then (3, hs)
  else if m_marked len b (m_num b (m_lat b i) (m_numl (b (m_lat b i - 1)))) = false then (4, hs)
  else if b i = 87 then
    (if a_rch hs (i + 1) x (i + 1) = x + 1 then
      (if a_rch (a_rch hs (i + 1) x) (m_num b (m_lat b i) (m_numl (b (m_lat b i - 1)))) x (m_num b (m_lat b i) (m_numl (b (m_lat b i - 1)))) = x + 1 then 0 else 5, a_rch (a_rch hs (i + 1) x) (m_num b (m_lat b i) (m_numl (b (m_lat b i - 1)))) x)
    else (5, a_rch hs (i + 1) x))
  else (if a_rch hs (m_num b (m_lat b i) (m_numl (b (m_lat b i - 1)))) x (m_num b (m_lat b i) (m_numl (b (m_lat b i - 1)))) = x + 1 then 0 else 5, a_rch hs (m_num b (m_lat b i) (m_numl (b (m_lat b i - 1)))) x)
def a_look (len : Nat) (b : Nat → Nat) (hs : Nat → Nat) (i : Nat) : Nat × (Nat → Nat) :=
  if m_known (b i) = false then (1, hs)
  else if hs i - 1 < m_takes (b i) ∨ 16 < hs i - 1 - m_takes (b i) + m_gives (b i) then (2, hs)
  else if b i = 86 ∨ b i = 87 then a_jmp len b hs i (hs i - 1 - m_takes (b i) + m_gives (b i))
  else if b i = 0 ∨ b i = 243 then (0, hs)
  else (if a_rch hs (i + 1 + m_numl (b i)) (hs i - 1 - m_takes (b i) + m_gives (b i)) (i + 1 + m_numl (b i)) = hs i - 1 - m_takes (b i) + m_gives (b i) + 1 then 0 else 5, a_rch hs (i + 1 + m_numl (b i)) (hs i - 1 - m_takes (b i) + m_gives (b i)))
def a_lst (hs : Nat → Nat) (lk : Nat → Bool) (i : Nat) : Nat → Nat
  | 0 => i
  | n + 1 => if hs i ≠ 0 ∧ lk i = false then i else a_lst hs lk (i + 1) n
def a_least (hs : Nat → Nat) (lk : Nat → Bool) : Nat := a_lst hs lk 0 129
theorem a_lst_hit {hs : Nat → Nat} {lk : Nat → Bool} {j : Nat} (h : hs j ≠ 0 ∧ lk j = false) : ∀ {n i : Nat}, i ≤ j → j < i + n → (∀ x, i ≤ x → x < j → ¬ (hs x ≠ 0 ∧ lk x = false)) → a_lst hs lk i n = j
  | 0, i, h1, h2, _ => by omega
  | n + 1, i, h1, h2, h3 => by
    show (if hs i ≠ 0 ∧ lk i = false then i else a_lst hs lk (i + 1) n) = j
    by_cases e : i = j
    · subst e; rw [if_pos h]
    · rw [if_neg (h3 i (Nat.le_refl i) (by omega))]
      exact a_lst_hit h (by omega) (by omega) (fun x hx hx2 => h3 x (by omega) hx2)
theorem a_lst_no {hs : Nat → Nat} {lk : Nat → Bool} : ∀ {n i : Nat}, (∀ x, i ≤ x → x < i + n → ¬ (hs x ≠ 0 ∧ lk x = false)) → a_lst hs lk i n = i + n
  | 0, i, _ => rfl
  | n + 1, i, h3 => by
    show (if hs i ≠ 0 ∧ lk i = false then i else a_lst hs lk (i + 1) n) = i + (n + 1)
    rw [if_neg (h3 i (Nat.le_refl i) (by omega)), a_lst_no (fun x hx hx2 => h3 x (by omega) (by omega))]
    omega
theorem a_least_hit {hs : Nat → Nat} {lk : Nat → Bool} {j : Nat} (h : hs j ≠ 0 ∧ lk j = false) (hj : j < 129) (h3 : ∀ x, x < j → ¬ (hs x ≠ 0 ∧ lk x = false)) : a_least hs lk = j := a_lst_hit h (Nat.zero_le j) (by omega) (fun x _ hx => h3 x hx)
theorem a_least_no {hs : Nat → Nat} {lk : Nat → Bool} (h3 : ∀ x, x < 129 → ¬ (hs x ≠ 0 ∧ lk x = false)) : a_least hs lk = 129 := a_lst_no (fun x _ hx => h3 x (by omega))
theorem a_lst_in {hs : Nat → Nat} {lk : Nat → Bool} : ∀ {n i : Nat}, a_lst hs lk i n ≠ i + n → hs (a_lst hs lk i n) ≠ 0 ∧ lk (a_lst hs lk i n) = false ∧ a_lst hs lk i n < i + n
  | 0, i, h => absurd rfl h
  | n + 1, i, h => by
    have e : a_lst hs lk i (n + 1) = if hs i ≠ 0 ∧ lk i = false then i else a_lst hs lk (i + 1) n := rfl
    rw [e] at h ⊢
    by_cases q : hs i ≠ 0 ∧ lk i = false
    · rw [if_pos q]; exact ⟨q.1, q.2, by omega⟩
    · rw [if_neg q] at h ⊢
      have := a_lst_in (hs := hs) (lk := lk) (n := n) (i := i + 1) (by omega)
      exact ⟨this.1, this.2.1, by omega⟩
theorem a_least_in {hs : Nat → Nat} {lk : Nat → Bool} (h : a_least hs lk ≠ 129) : hs (a_least hs lk) ≠ 0 ∧ lk (a_least hs lk) = false ∧ a_least hs lk < 129 := a_lst_in (i := 0) (n := 129) (fun q => h q)
/-- rounds of the analysis: its answer, the heights -/
def a_go (len : Nat) (b : Nat → Nat) : Nat → (Nat → Nat) → (Nat → Bool) → Nat × (Nat → Nat)
  | 0, hs, _ => (0, hs)
  | n + 1, hs, lk => if a_least hs lk = 129 then (0, hs)
    else if (a_look len b hs (a_least hs lk)).1 = 0 then a_go len b n (a_look len b hs (a_least hs lk)).2 (va_up lk (a_least hs lk) true)
    else (8 * a_least hs lk + (a_look len b hs (a_least hs lk)).1, (a_look len b hs (a_least hs lk)).2)
def a_h0 : Nat → Nat := fun j => if j = 0 then 1 else 0
def a_judge (len : Nat) (b : Nat → Nat) : Nat × (Nat → Nat) := a_go len b 129 a_h0 (fun _ => false)
theorem a_go_no {len : Nat} {b : Nat → Nat} {n : Nat} {hs : Nat → Nat} {lk : Nat → Bool} (h : a_least hs lk = 129) : a_go len b n hs lk = (0, hs) := by
  cases n with
  | zero => rfl
  | succ n => show (if a_least hs lk = 129 then _ else _) = _; rw [if_pos h]
theorem a_go_on {len : Nat} {b : Nat → Nat} {n : Nat} {hs : Nat → Nat} {lk : Nat → Bool} (h : a_least hs lk ≠ 129) (h2 : (a_look len b hs (a_least hs lk)).1 = 0) : a_go len b (n + 1) hs lk = a_go len b n (a_look len b hs (a_least hs lk)).2 (va_up lk (a_least hs lk) true) := by
  show (if a_least hs lk = 129 then _ else _) = _
  rw [if_neg h, if_pos h2]
theorem a_go_end {len : Nat} {b : Nat → Nat} {n : Nat} {hs : Nat → Nat} {lk : Nat → Bool} (h : a_least hs lk ≠ 129) (h2 : (a_look len b hs (a_least hs lk)).1 ≠ 0) : a_go len b (n + 1) hs lk = (8 * a_least hs lk + (a_look len b hs (a_least hs lk)).1, (a_look len b hs (a_least hs lk)).2) := by
  show (if a_least hs lk = 129 then _ else _) = _
  rw [if_neg h, if_neg h2]
/-- what holds of the heights all along -/
def okH (len : Nat) (b : Nat → Nat) (hs : Nat → Nat) : Prop := ∀ j, hs j ≤ 17 ∧ (hs j ≠ 0 → j < 129 ∧ (len ≤ j ∨ m_nb b j = j))
theorem nb_in {b : Nat → Nat} {i : Nat} (h : m_nb b i = i) : ∀ {n : Nat}, n ≤ m_numl (b i) → m_nb b (i + 1 + n) = i + 1 + m_numl (b i) ∧ m_lat b (i + 1 + n) = i + 1
  | 0, _ => by
    constructor
    · show (if i = m_nb b i then i + 1 + m_numl (b i) else m_nb b i) = _; rw [if_pos h.symm]
    · show (if i = m_nb b i then i + 1 else m_lat b i) = _; rw [if_pos h.symm]
  | n + 1, hn => by
    obtain ⟨h1, h2⟩ := nb_in h (n := n) (by omega)
    have hne : ¬ i + 1 + n = m_nb b (i + 1 + n) := by omega
    constructor
    · show (if i + 1 + n = m_nb b (i + 1 + n) then i + 1 + n + 1 + m_numl (b (i + 1 + n)) else m_nb b (i + 1 + n)) = _; rw [if_neg hne, h1]
    · show (if i + 1 + n = m_nb b (i + 1 + n) then i + 1 + n + 1 else m_lat b (i + 1 + n)) = _; rw [if_neg hne, h2]
theorem okH_rch {len : Nat} {b hs : Nat → Nat} {i x : Nat} (h : okH len b hs) (hx : x ≤ 16) (hi : i < 129) (hn : len ≤ i ∨ m_nb b i = i) : okH len b (a_rch hs i x) := by
  intro j
  unfold a_rch
  by_cases e0 : hs i = 0
  · rw [if_pos e0]
    by_cases e : j = i
    · subst e; rw [va_up_self]; exact ⟨by omega, fun _ => ⟨hi, hn⟩⟩
    · rw [va_up_ne _ _ e]; exact h j
  · rw [if_neg e0]; exact h j
theorem mk_parts {len : Nat} {b : Nat → Nat} {i : Nat} (h : m_marked len b i = true) : i < len ∧ m_nb b i = i ∧ b i = 91 := by
  unfold m_marked at h
  obtain ⟨h1, h2⟩ := Bool.and_eq_true_iff.mp h
  obtain ⟨h3, h4⟩ := Bool.and_eq_true_iff.mp h1
  exact ⟨of_decide_eq_true h3, of_decide_eq_true h4, of_decide_eq_true h2⟩
theorem lat_in {b : Nat → Nat} {j : Nat} : m_lat b j ≠ 0 → m_nb b (m_lat b j - 1) = m_lat b j - 1 := by
  induction j with
  | zero => intro h; exact absurd rfl h
  | succ j ih =>
    intro h
    have e : m_lat b (j + 1) = if j = m_nb b j then j + 1 else m_lat b j := rfl
    rw [e] at h ⊢
    by_cases q : j = m_nb b j
    · rw [if_pos q]; exact q.symm
    · rw [if_neg q] at h ⊢; exact ih h
theorem okH_look {len : Nat} {b hs : Nat → Nat} {i : Nat} (hl : len ≤ 96) (hb0 : ∀ j, len ≤ j → b j = 0) (h : okH len b hs) (hi : hs i ≠ 0) : okH len b (a_look len b hs i).2 := by
  obtain ⟨hi1, hi2⟩ := (h i).2 hi
  unfold a_look
  by_cases c1 : m_known (b i) = false
  · rw [if_pos c1]; exact h
  rw [if_neg c1]
  by_cases c2 : hs i - 1 < m_takes (b i) ∨ 16 < hs i - 1 - m_takes (b i) + m_gives (b i)
  · rw [if_pos c2]; exact h
  rw [if_neg c2]
  have hin : b i ≠ 0 → i < len ∧ m_nb b i = i := fun q => by
    rcases Nat.lt_or_ge i len with w | w
    · rcases hi2 with q2 | q2
      · omega
      · exact ⟨w, q2⟩
    · exact absurd (hb0 i w) q
  by_cases c3 : b i = 86 ∨ b i = 87
  · rw [if_pos c3]
    obtain ⟨p1, p2⟩ := hin (by omega)
    have p3 := (nb_in p2 (n := 0) (Nat.zero_le _)).1
    have p4 : m_numl (b i) = 0 := by unfold m_numl; rw [if_neg (by omega)]
    rw [p4] at p3
    unfold a_jmp
    by_cases d1 : m_lat b i = 0 ∨ m_numl (b (m_lat b i - 1)) = 0
    · rw [if_pos d1]; exact h
    rw [if_neg d1]
    by_cases d2 : m_marked len b (m_num b (m_lat b i) (m_numl (b (m_lat b i - 1)))) = false
    · rw [if_pos d2]; exact h
    rw [if_neg d2]
    have hmk : m_marked len b (m_num b (m_lat b i) (m_numl (b (m_lat b i - 1)))) = true := by
      rcases Bool.eq_false_or_eq_true (m_marked len b (m_num b (m_lat b i) (m_numl (b (m_lat b i - 1))))) with q | q
      · exact q
      · exact absurd q d2
    obtain ⟨t1, t2, _⟩ := mk_parts hmk
    have k1 := okH_rch (x := hs i - 1 - m_takes (b i) + m_gives (b i)) h (by omega) (i := i + 1) (by omega) (Or.inr p3)
    by_cases d3 : b i = 87
    · rw [if_pos d3]
      by_cases d4 : a_rch hs (i + 1) (hs i - 1 - m_takes (b i) + m_gives (b i)) (i + 1) = hs i - 1 - m_takes (b i) + m_gives (b i) + 1
      · rw [if_pos d4]; exact okH_rch k1 (by omega) (by omega) (Or.inr t2)
      · rw [if_neg d4]; exact k1
    · rw [if_neg d3]; exact okH_rch h (by omega) (by omega) (Or.inr t2)
  rw [if_neg c3]
  by_cases c4 : b i = 0 ∨ b i = 243
  · rw [if_pos c4]; exact h
  rw [if_neg c4]
  obtain ⟨p1, p2⟩ := hin (by omega)
  have p3 := (nb_in p2 (n := m_numl (b i)) (Nat.le_refl _)).1
  have p4 := m_numl_le (b i)
  exact okH_rch h (by omega) (by omega) (Or.inr p3)
theorem okH_0 {len : Nat} {b : Nat → Nat} : okH len b a_h0 := by
  intro j
  unfold a_h0
  by_cases e : j = 0
  · subst e; rw [if_pos rfl]; exact ⟨by decide, fun _ => ⟨by decide, Or.inr rfl⟩⟩
  · rw [if_neg e]; exact ⟨by decide, fun q => absurd rfl q⟩
theorem a_look_le {len : Nat} {b hs : Nat → Nat} {i : Nat} : (a_look len b hs i).1 ≤ 5 := by
  unfold a_look a_jmp
  repeat' split
  all_goals try dsimp only
  all_goals (repeat' split) <;> omega
/-- how many places are not looked at -/
def a_cu (lk : Nat → Bool) : Nat → Nat
  | 0 => 0
  | n + 1 => a_cu lk n + (if lk n = false then 1 else 0)
theorem a_cu_ge {lk : Nat → Bool} {i : Nat} : ∀ {n : Nat}, n ≤ i → a_cu (va_up lk i true) n = a_cu lk n
  | 0, _ => rfl
  | n + 1, h => by
    show a_cu (va_up lk i true) n + _ = a_cu lk n + _
    rw [a_cu_ge (by omega), va_up_ne _ _ (by omega)]
theorem a_cu_lt {lk : Nat → Bool} {i : Nat} (h : lk i = false) : ∀ {n : Nat}, i < n → a_cu (va_up lk i true) n + 1 = a_cu lk n
  | 0, hn => by omega
  | n + 1, hn => by
    show a_cu (va_up lk i true) n + (if va_up lk i true n = false then 1 else 0) + 1 = a_cu lk n + (if lk n = false then 1 else 0)
    by_cases e : i = n
    · subst e; rw [a_cu_ge (Nat.le_refl i), va_up_self, h]; rfl
    · rw [va_up_ne _ _ (Ne.symm e), ← a_cu_lt h (n := n) (by omega)]; omega
theorem a_cu_pos {lk : Nat → Bool} {i : Nat} (h : lk i = false) {n : Nat} (hn : i < n) : 0 < a_cu lk n := by
  have := a_cu_lt h hn
  omega
theorem a_cu_all : ∀ n : Nat, a_cu (fun _ => false) n = n
  | 0 => rfl
  | n + 1 => by show a_cu (fun _ => false) n + 1 = n + 1; rw [a_cu_all n]
theorem a_go_ok {len : Nat} {b : Nat → Nat} (hl : len ≤ 96) (hb0 : ∀ j, len ≤ j → b j = 0) : ∀ {n : Nat} {hs : Nat → Nat} {lk : Nat → Bool}, okH len b hs → okH len b (a_go len b n hs lk).2
  | 0, hs, lk, h => h
  | n + 1, hs, lk, h => by
    by_cases c1 : a_least hs lk = 129
    · rw [a_go_no c1]; exact h
    · have k := okH_look hl hb0 h (a_least_in c1).1
      by_cases c2 : (a_look len b hs (a_least hs lk)).1 = 0
      · rw [a_go_on c1 c2]; exact a_go_ok hl hb0 k
      · rw [a_go_end c1 c2]; exact k
theorem a_judge_ok {len : Nat} {b : Nat → Nat} (hl : len ≤ 96) (hb0 : ∀ j, len ≤ j → b j = 0) : okH len b (a_judge len b).2 := a_go_ok hl hb0 okH_0
/-! the class's arrays -/
def okA (hs : Nat → Nat) (fh : Nat → Int32) : Prop := (∀ j, j < 129 → fh j = m1 (hs j)) ∧ ∀ j, hs j ≤ 17
def okL (lk : Nat → Bool) (fl : Nat → Int32) : Prop := ∀ j, j < 129 → fl j = kb (lk j)
theorem okA_0 {hs : Nat → Nat} {fh : Nat → Int32} {i : Nat} (h : okA hs fh) (hi : i < 129) (q : fh i = -1) : hs i = 0 := by
  have := h.2 i
  rw [h.1 i hi] at q
  exact (m1_eq (by omega)).mp q
theorem okA_1 {hs : Nat → Nat} {fh : Nat → Int32} {i : Nat} (h : okA hs fh) (hi : i < 129) (q : ¬ fh i = -1) : hs i ≠ 0 := by
  have := h.2 i
  rw [h.1 i hi] at q
  exact fun e => q ((m1_eq (by omega)).mpr e)
theorem ls_next {hs : Nat → Nat} {lk : Nat → Bool} {i : Nat} (hI : ∀ x, x < i → ¬ (hs x ≠ 0 ∧ lk x = false)) (h : ¬ (hs i ≠ 0 ∧ lk i = false)) : ∀ x, x < i + 1 → ¬ (hs x ≠ 0 ∧ lk x = false) := by
  intro x hx
  by_cases e : x = i
  · subst e; exact h
  · exact hI x (by omega)
theorem okL_1 {lk : Nat → Bool} {fl : Nat → Int32} {i : Nat} (h : okL lk fl) (hi : i < 129) (q : ¬ fl i = 0) : lk i = true := by
  rw [h i hi] at q
  exact kb_n0 q
theorem okL_0 {lk : Nat → Bool} {fl : Nat → Int32} {i : Nat} (h : okL lk fl) (hi : i < 129) (q : fl i = 0) : lk i = false := by
  rw [h i hi] at q
  exact kb_0.mp q
theorem ls_hit {hs : Nat → Nat} {lk : Nat → Bool} {i : Nat} (hI : ∀ x, x < i → ¬ (hs x ≠ 0 ∧ lk x = false)) (hi : i < 129) (h : hs i ≠ 0 ∧ lk i = false) : nI i = if a_least hs lk = 129 then -1 else nI (a_least hs lk) := by
  rw [a_least_hit h hi hI, if_neg (by omega)]
theorem ls_no {hs : Nat → Nat} {lk : Nat → Bool} {i : Nat} (hI : ∀ x, x < i → ¬ (hs x ≠ 0 ∧ lk x = false)) (hi : i = 129) : (-1 : Int32) = if a_least hs lk = 129 then -1 else nI (a_least hs lk) := by
  subst hi
  rw [if_pos (a_least_no hI)]
theorem rc_new {hs : Nat → Nat} {fh : Nat → Int32} {i x : Nat} (h : okA hs fh) (hi : i < 129) (q : fh i = -1) : nI 1 = kb (decide (a_rch hs i x i = x + 1)) ∧ ∀ j, j < 129 → upd fh i (nI x) j = m1 (a_rch hs i x j) := by
  unfold a_rch
  rw [if_pos (okA_0 h hi q)]
  refine ⟨by rw [va_up_self, decide_eq_true rfl]; rfl, fun j hj => ?_⟩
  by_cases e : j = i
  · subst e; rw [pk_us, va_up_self]; rfl
  · rw [pk_un e, va_up_ne _ _ e]; exact h.1 j hj
theorem rc_old {hs : Nat → Nat} {fh : Nat → Int32} {i x : Nat} {r : Int32} (h : okA hs fh) (hi : i < 129) (hx : x ≤ 16) (q : ¬ fh i = -1) (hr : (fh i = nI x ∧ r = nI 1) ∨ (¬ fh i = nI x ∧ r = nI 0)) : r = kb (decide (a_rch hs i x i = x + 1)) ∧ ∀ j, j < 129 → fh j = m1 (a_rch hs i x j) := by
  unfold a_rch
  rw [if_neg (okA_1 h hi q)]
  refine ⟨?_, fun j hj => h.1 j hj⟩
  have h17 := h.2 i
  rw [h.1 i hi, m1_nI (by omega) (by omega)] at hr
  rcases hr with ⟨e, rfl⟩ | ⟨e, rfl⟩
  · rw [decide_eq_true e]; rfl
  · rw [decide_eq_false e]; rfl
theorem okA_rch {hs : Nat → Nat} {fh u : Nat → Int32} {i x : Nat} (h : okA hs fh) (hx : x ≤ 16) (hu : ∀ j, j < 129 → u j = m1 (a_rch hs i x j)) : okA (a_rch hs i x) u := by
  refine ⟨hu, fun j => ?_⟩
  unfold a_rch
  by_cases e0 : hs i = 0
  · rw [if_pos e0]
    by_cases e : j = i
    · subst e; rw [va_up_self]; omega
    · rw [va_up_ne _ _ e]; exact h.2 j
  · rw [if_neg e0]; exact h.2 j
section AJ
variable {len : Nat} {b hs : Nat → Nat} {i x T : Nat}
theorem aj_3 (h : m_lat b i = 0 ∨ m_numl (b (m_lat b i - 1)) = 0) : a_jmp len b hs i x = (3, hs) := by unfold a_jmp; rw [if_pos h]
theorem aj_4 (h : m_lat b i ≠ 0) (h1 : m_numl (b (m_lat b i - 1)) ≠ 0) (hT : m_num b (m_lat b i) (m_numl (b (m_lat b i - 1))) = T) (h2 : m_marked len b T = false) : a_jmp len b hs i x = (4, hs) := by
  unfold a_jmp; rw [if_neg (by omega), hT, if_pos h2]
theorem aj_f (h : m_lat b i ≠ 0) (h1 : m_numl (b (m_lat b i - 1)) ≠ 0) (hT : m_num b (m_lat b i) (m_numl (b (m_lat b i - 1))) = T) (h2 : m_marked len b T = true) (h3 : b i = 87) (h4 : a_rch hs (i + 1) x (i + 1) ≠ x + 1) : a_jmp len b hs i x = (5, a_rch hs (i + 1) x) := by
  unfold a_jmp; rw [if_neg (by omega), hT, if_neg (by rw [h2]; decide), if_pos h3, if_neg h4]
theorem aj_t (h : m_lat b i ≠ 0) (h1 : m_numl (b (m_lat b i - 1)) ≠ 0) (hT : m_num b (m_lat b i) (m_numl (b (m_lat b i - 1))) = T) (h2 : m_marked len b T = true) (h3 : b i = 87) (h4 : a_rch hs (i + 1) x (i + 1) = x + 1) : a_jmp len b hs i x = (if a_rch (a_rch hs (i + 1) x) T x T = x + 1 then 0 else 5, a_rch (a_rch hs (i + 1) x) T x) := by
  unfold a_jmp; rw [if_neg (by omega), hT, if_neg (by rw [h2]; decide), if_pos h3, if_pos h4]
theorem aj_u (h : m_lat b i ≠ 0) (h1 : m_numl (b (m_lat b i - 1)) ≠ 0) (hT : m_num b (m_lat b i) (m_numl (b (m_lat b i - 1))) = T) (h2 : m_marked len b T = true) (h3 : b i ≠ 87) : a_jmp len b hs i x = (if a_rch hs T x T = x + 1 then 0 else 5, a_rch hs T x) := by
  unfold a_jmp; rw [if_neg (by omega), hT, if_neg (by rw [h2]; decide), if_neg h3]
theorem al_1 (h : m_known (b i) = false) : a_look len b hs i = (1, hs) := by unfold a_look; rw [if_pos h]
theorem al_2 (h : m_known (b i) = true) (h2 : hs i - 1 < m_takes (b i) ∨ 16 < hs i - 1 - m_takes (b i) + m_gives (b i)) : a_look len b hs i = (2, hs) := by unfold a_look; rw [if_neg (by rw [h]; decide), if_pos h2]
theorem al_j (h : m_known (b i) = true) (h2 : ¬ (hs i - 1 < m_takes (b i) ∨ 16 < hs i - 1 - m_takes (b i) + m_gives (b i))) (h3 : b i = 86 ∨ b i = 87) : a_look len b hs i = a_jmp len b hs i (hs i - 1 - m_takes (b i) + m_gives (b i)) := by unfold a_look; rw [if_neg (by rw [h]; decide), if_neg h2, if_pos h3]
theorem al_0 (h : m_known (b i) = true) (h2 : ¬ (hs i - 1 < m_takes (b i) ∨ 16 < hs i - 1 - m_takes (b i) + m_gives (b i))) (h3 : ¬ (b i = 86 ∨ b i = 87)) (h4 : b i = 0 ∨ b i = 243) : a_look len b hs i = (0, hs) := by unfold a_look; rw [if_neg (by rw [h]; decide), if_neg h2, if_neg h3, if_pos h4]
theorem al_r (h : m_known (b i) = true) (h2 : ¬ (hs i - 1 < m_takes (b i) ∨ 16 < hs i - 1 - m_takes (b i) + m_gives (b i))) (h3 : ¬ (b i = 86 ∨ b i = 87)) (h4 : ¬ (b i = 0 ∨ b i = 243)) (hT : i + 1 + m_numl (b i) = T) (hx : hs i - 1 - m_takes (b i) + m_gives (b i) = x) : a_look len b hs i = (if a_rch hs T x T = x + 1 then 0 else 5, a_rch hs T x) := by unfold a_look; rw [if_neg (by rw [h]; decide), if_neg h2, if_neg h3, if_neg h4, hT, hx]
end AJ
theorem ar_5 {P : Prop} [Decidable P] (h : kb (decide P) = 0) : (5 : Nat) = if P then 0 else 5 := by rw [if_neg (of_decide_eq_false (kb_0.mp h))]
theorem ar_0 {P : Prop} [Decidable P] (h : ¬ kb (decide P) = 0) : (0 : Nat) = if P then 0 else 5 := by rw [if_pos (of_decide_eq_true (kb_n0 h))]
theorem aj_post {r x : Nat} {X : Nat × (Nat → Nat)} {hs : Nat → Nat} {u : Nat → Int32} (h : X = (x, hs)) (hr : r = x) (hk : okA hs u) : nI r = nI X.1 ∧ okA X.2 u := by subst h hr; exact ⟨rfl, hk⟩
theorem jd_0 {z : Nat → Int32} (h : ∀ j, j < 129 → z j = -1) : okA a_h0 (upd z 0 (nI 0)) := by
  refine ⟨fun j hj => ?_, fun j => ?_⟩
  · unfold a_h0
    by_cases e : j = 0
    · subst e; rw [pk_us, if_pos rfl]; rfl
    · rw [pk_un e, if_neg e, h j hj]; rfl
  · unfold a_h0; split <;> decide
theorem jd_l {y : Nat → Int32} {lk : Nat → Bool} {i : Nat} (h : okL lk y) : okL (va_up lk i true) (upd y i (nI 1)) := by
  intro j hj
  by_cases e : j = i
  · subst e; rw [pk_us, va_up_self]; rfl
  · rw [pk_un e, va_up_ne _ _ e, h j hj]

theorem fg_next {z y : Nat → Int32} {i : Nat} (hI : ∀ j, j < i → z j = -1 ∧ y j = nI 0) (j : Nat) (hj : j < i + 1) : upd z i (-1) j = -1 ∧ upd y i (nI 0) j = nI 0 := by
  by_cases e : j = i
  · subst e; rw [pk_us, pk_us]; exact ⟨rfl, rfl⟩
  · rw [pk_un e, pk_un e]; exact hI j (by omega)

abbrev y_An_forget : MethodName := ⟨"WideStack$Analyser", "forget", "()V"⟩
theorem d_An_forget_0 : decode prog_2_method_2_code 0 = .ok (.iconst 0, 1) := by decide +kernel
theorem d_An_forget_1 : decode prog_2_method_2_code 1 = .ok (.istore_n 1, 1) := by decide +kernel
theorem d_An_forget_2 : decode prog_2_method_2_code 2 = .ok (.iload_n 1, 1) := by decide +kernel
theorem d_An_forget_3 : decode prog_2_method_2_code 3 = .ok (.sipush 129, 3) := by decide +kernel
theorem d_An_forget_6 : decode prog_2_method_2_code 6 = .ok (.if_icmp .ge 23, 3) := by decide +kernel
theorem d_An_forget_9 : decode prog_2_method_2_code 9 = .ok (.aload_n 0, 1) := by decide +kernel
theorem d_An_forget_10 : decode prog_2_method_2_code 10 = .ok (.getfield 13, 3) := by decide +kernel
theorem d_An_forget_13 : decode prog_2_method_2_code 13 = .ok (.iload_n 1, 1) := by decide +kernel
theorem d_An_forget_14 : decode prog_2_method_2_code 14 = .ok (.iconst (-1), 1) := by decide +kernel
theorem d_An_forget_15 : decode prog_2_method_2_code 15 = .ok (.iastore, 1) := by decide +kernel
theorem d_An_forget_16 : decode prog_2_method_2_code 16 = .ok (.aload_n 0, 1) := by decide +kernel
theorem d_An_forget_17 : decode prog_2_method_2_code 17 = .ok (.getfield 17, 3) := by decide +kernel
theorem d_An_forget_20 : decode prog_2_method_2_code 20 = .ok (.iload_n 1, 1) := by decide +kernel
theorem d_An_forget_21 : decode prog_2_method_2_code 21 = .ok (.iconst 0, 1) := by decide +kernel
theorem d_An_forget_22 : decode prog_2_method_2_code 22 = .ok (.bastore, 1) := by decide +kernel
theorem d_An_forget_23 : decode prog_2_method_2_code 23 = .ok (.iinc 1 1, 3) := by decide +kernel
theorem d_An_forget_26 : decode prog_2_method_2_code 26 = .ok (.goto (-24), 3) := by decide +kernel
theorem d_An_forget_29 : decode prog_2_method_2_code 29 = .ok (.return_, 1) := by decide +kernel
def rm_c_A_forget : Room := { frames := 0, cells := 0, slots := 0, locals := 0 }
set_option maxHeartbeats 4000000 in
set_option maxRecDepth 100000 in
theorem c_A_forget (l : Launch) (E : kE) (an ah al aw : Nat) (fh fl : Nat → Int32) : Kv l y_An_forget (kW y_An_forget prog_2_method_2_code 2 (none)) rm_c_A_forget E [.ref an] [(an, .inr (6, [.ref ah, .ref al, .ref aw])), (ah, .inl (E.2.1 0, 129, .inl fh)), (al, .inl (E.2.1 1, 129, .inl fl))] (S := (Nat → Int32) × (Nat → Int32)) (fun u => ∀ j, j < 129 → u.1 j = -1 ∧ u.2 j = nI 0) (fun u => [(an, .inr (6, [.ref ah, .ref al, .ref aw])), (ah, .inl (E.2.1 0, 129, .inl u.1)), (al, .inl (E.2.1 1, 129, .inl u.2))]) := by
  refine Kv.ofW (cc := prog_2_method_2_code) (maxL := 2) (by decide) (Nat.le_of_ble_eq_true rfl) ?_
  intro p e s m args below meth c A ls Q hx hb hts hown hml hK hG hA hP hD hS hl hret
  have hl : lv_has ls 2 [(0, .ref an)] := hl
  refine lv_iconst (v := nI 0) hx hb d_An_forget_0 (by decide) ?_
  refine lv_istore_n (lv' := [(1, .int (nI 0)), (0, .ref an)]) hx hb d_An_forget_1 rfl hl (by decide) rfl (fun ls hl => ?_)
  have key2 : ∀ (n : Nat) (i : Nat) (z : Nat → Int32) (y : Nat → Int32) (H : Heap) (locs : List Loc) (ls : Array Slot), i + n = 129 → (∀ j, j < i → z j = -1 ∧ y j = nI 0) → lv_has ls 2 [(1, .int (nI i)), (0, .ref an)] → va_P E.1 vwCl [(an, .inr (6, [.ref ah, .ref al, .ref aw])), (ah, .inl (E.2.1 0, 129, .inl z)), (al, .inl (E.2.1 1, 129, .inl y))] H → va_D A [(an, .inr (6, [.ref ah, .ref al, .ref aw])), (ah, .inl (E.2.1 0, 129, .inl z)), (al, .inl (E.2.1 1, 129, .inl y))] → va_S A s.heap H locs → W p l e rm_c_A_forget s m args below meth c H locs 0 0 Q (F0 m 2 ls []) := by
    intro n
    induction n using Nat.strongRecOn with
    | ind n ih =>
      intro i z y H locs ls hn hI hl hP hD hS
      refine lv_iload_n hx hb d_An_forget_2 rfl (lv_at hl 0 rfl) ?_
      refine lv_sipush (v := nI 129) hx hb d_An_forget_3 (by decide) ?_
      refine kn_ge (tgt := 29) hx hb (by omega) (by omega) d_An_forget_6 (by decide) (fun h6 => ?_) (fun h6 => ?_)
      · exact hret _ ls _ _ (z, y) d_An_forget_29 (fun j hj => hI j (by omega)) hP hS
      · refine lv_aload_n hx hb d_An_forget_9 rfl (lv_at hl 1 rfl) ?_
        refine va_get (D := E.1) (ci := 6) (v := .ref ah) (C := "WideStack$Analyser") (T := T_An) (N := 3) hx hb hts in_An hown hK hP 0 rfl rfl 0 (by decide) (hts _ t_235) (fun _ h9 => h9) rfl d_An_forget_10 ?_
        refine lv_iload_n hx hb d_An_forget_13 rfl (lv_at hl 0 rfl) ?_
        refine lv_iconst (v := -1) hx hb d_An_forget_14 (by decide) ?_
        refine k_iast hx hb hK hP hD hS 1 rfl (i := i) (by omega) (by omega) d_An_forget_15 (fun H locs hP hD hS => ?_)
        have hP : va_P E.1 vwCl [(an, .inr (6, [.ref ah, .ref al, .ref aw])), (ah, .inl (E.2.1 0, 129, .inl (upd z i (-1)))), (al, .inl (E.2.1 1, 129, .inl y))] H := hP
        have hD : va_D A [(an, .inr (6, [.ref ah, .ref al, .ref aw])), (ah, .inl (E.2.1 0, 129, .inl (upd z i (-1)))), (al, .inl (E.2.1 1, 129, .inl y))] := hD
        refine lv_aload_n hx hb d_An_forget_16 rfl (lv_at hl 1 rfl) ?_
        refine va_get (D := E.1) (ci := 6) (v := .ref al) (C := "WideStack$Analyser") (T := T_An) (N := 3) hx hb hts in_An hown hK hP 0 rfl rfl 1 (by decide) (hts _ t_236) (fun _ h9 => h9) rfl d_An_forget_17 ?_
        refine lv_iload_n hx hb d_An_forget_20 rfl (lv_at hl 0 rfl) ?_
        refine lv_iconst (v := nI 0) hx hb d_An_forget_21 (by decide) ?_
        refine k_zast hx hb hK hP hD hS 2 rfl (i := i) (by omega) (by omega) (by decide) d_An_forget_22 (fun H locs hP hD hS => ?_)
        have hP : va_P E.1 vwCl [(an, .inr (6, [.ref ah, .ref al, .ref aw])), (ah, .inl (E.2.1 0, 129, .inl (upd z i (-1)))), (al, .inl (E.2.1 1, 129, .inl (upd y i (nI 0))))] H := hP
        have hD : va_D A [(an, .inr (6, [.ref ah, .ref al, .ref aw])), (ah, .inl (E.2.1 0, 129, .inl (upd z i (-1)))), (al, .inl (E.2.1 1, 129, .inl (upd y i (nI 0))))] := hD
        refine lv_iinc (k := 0) (v := nI (i + 1)) (lv' := [(1, .int (nI (i + 1))), (0, .ref an)]) hx hb d_An_forget_23 hl rfl (k_inc _) (by decide) rfl (fun ls hl => ?_)
        refine lv_goto (tgt := 2) hx hb d_An_forget_26 (by decide) ?_
        exact ih (n - 1) (by omega) (i + 1) (upd z i (-1)) (upd y i (nI 0)) _ _ ls (by omega) (fun j hj => fg_next hI j hj) (lv_sub hl [0, 1] rfl) hP hD hS
  exact key2 129 0 fh fl _ _ ls (by omega) (fun j hj => absurd hj (Nat.not_lt_zero j)) (lv_sub hl [0, 1] rfl) hP hD hS

abbrev y_An_heightAt : MethodName := ⟨"WideStack$Analyser", "heightAt", "(I)I"⟩
theorem d_An_heightAt_0 : decode prog_2_method_3_code 0 = .ok (.iload_n 1, 1) := by decide +kernel
theorem d_An_heightAt_1 : decode prog_2_method_3_code 1 = .ok (.ifCond .lt 19, 3) := by decide +kernel
theorem d_An_heightAt_4 : decode prog_2_method_3_code 4 = .ok (.iload_n 1, 1) := by decide +kernel
theorem d_An_heightAt_5 : decode prog_2_method_3_code 5 = .ok (.sipush 129, 3) := by decide +kernel
theorem d_An_heightAt_8 : decode prog_2_method_3_code 8 = .ok (.if_icmp .ge 12, 3) := by decide +kernel
theorem d_An_heightAt_11 : decode prog_2_method_3_code 11 = .ok (.aload_n 0, 1) := by decide +kernel
theorem d_An_heightAt_12 : decode prog_2_method_3_code 12 = .ok (.getfield 13, 3) := by decide +kernel
theorem d_An_heightAt_15 : decode prog_2_method_3_code 15 = .ok (.iload_n 1, 1) := by decide +kernel
theorem d_An_heightAt_16 : decode prog_2_method_3_code 16 = .ok (.iaload, 1) := by decide +kernel
theorem d_An_heightAt_17 : decode prog_2_method_3_code 17 = .ok (.goto 4, 3) := by decide +kernel
theorem d_An_heightAt_20 : decode prog_2_method_3_code 20 = .ok (.iconst (-1), 1) := by decide +kernel
theorem d_An_heightAt_21 : decode prog_2_method_3_code 21 = .ok (.ireturn, 1) := by decide +kernel
def rm_c_A_heightAt : Room := { frames := 0, cells := 0, slots := 0, locals := 0 }
set_option maxHeartbeats 4000000 in
set_option maxRecDepth 100000 in
theorem c_A_heightAt (l : Launch) (E : kE) (an ah al aw : Nat) (fh : Nat → Int32) (hs : Nat → Nat) (hH : okA hs fh) (x : Int32) : Kp l y_An_heightAt (kW y_An_heightAt prog_2_method_3_code 2 (some .int)) rm_c_A_heightAt E [.ref an, .int x] [(an, .inr (6, [.ref ah, .ref al, .ref aw])), (ah, .inl (E.2.1 0, 129, .inl fh))] (fun r => r = if m_in x 129 then m1 (hs x.toNatClampNeg) else -1) := by
  refine Kp.ofI (cc := prog_2_method_3_code) (maxL := 2) (by decide) (Nat.le_of_ble_eq_true rfl) ?_
  intro p e s m args below meth c A ls Q hx hb hts hown hml hK hG hA hP hD hS hl hret
  have hl : lv_has ls 2 [(0, .ref an), (1, .int x)] := hl
  refine lv_iload_n hx hb d_An_heightAt_0 rfl (lv_at hl 1 rfl) ?_
  refine lv_if_lt (tgt := 20) hx hb d_An_heightAt_1 (by decide) (fun h1 => ?_) (fun h1 => ?_)
  · refine lv_iconst (v := -1) hx hb d_An_heightAt_20 (by decide) ?_
    first | exact hret _ ls _ d_An_heightAt_21 (by rw [hin, if_pos rfl, nI_clamp (by omega)]; exact hH.1 j hj) | exact hret _ ls _ d_An_heightAt_21 (by rw [m_in_f1 h1]; rfl) | exact hret _ ls _ d_An_heightAt_21 (by rw [m_in_f2 h8]; rfl)
  · refine lv_iload_n hx hb d_An_heightAt_4 rfl (lv_at hl 1 rfl) ?_
    refine lv_sipush (v := nI 129) hx hb d_An_heightAt_5 (by decide) ?_
    refine lv_icmp_ge (tgt := 20) hx hb d_An_heightAt_8 (by decide) (fun h8 => ?_) (fun h8 => ?_)
    · refine lv_iconst (v := -1) hx hb d_An_heightAt_20 (by decide) ?_
      first | exact hret _ ls _ d_An_heightAt_21 (by rw [hin, if_pos rfl, nI_clamp (by omega)]; exact hH.1 j hj) | exact hret _ ls _ d_An_heightAt_21 (by rw [m_in_f1 h1]; rfl) | exact hret _ ls _ d_An_heightAt_21 (by rw [m_in_f2 h8]; rfl)
    · have hin := m_in_t (n := 129) (by decide) h1 h8
      obtain ⟨j, hj, rfl⟩ := m_in_of (by decide) hin
      refine lv_aload_n hx hb d_An_heightAt_11 rfl (lv_at hl 0 rfl) ?_
      refine va_get (D := E.1) (ci := 6) (v := .ref ah) (C := "WideStack$Analyser") (T := T_An) (N := 3) hx hb hts in_An hown hK hP 0 rfl rfl 0 (by decide) (hts _ t_235) (fun _ h9 => h9) rfl d_An_heightAt_12 ?_
      refine lv_iload_n hx hb d_An_heightAt_15 rfl (lv_at hl 1 rfl) ?_
      refine k_iald hx hb hK hP 1 rfl (i := j) (by omega) (by omega) d_An_heightAt_16 ?_
      refine lv_goto (tgt := 21) hx hb d_An_heightAt_17 (by decide) ?_
      first | exact hret _ ls _ d_An_heightAt_21 (by rw [hin, if_pos rfl, nI_clamp (by omega)]; exact hH.1 j hj) | exact hret _ ls _ d_An_heightAt_21 (by rw [m_in_f1 h1]; rfl) | exact hret _ ls _ d_An_heightAt_21 (by rw [m_in_f2 h8]; rfl)

abbrev y_An_leastToLookAt : MethodName := ⟨"WideStack$Analyser", "leastToLookAt", "()I"⟩
theorem d_An_leastToLookAt_0 : decode prog_2_method_5_code 0 = .ok (.iconst 0, 1) := by decide +kernel
theorem d_An_leastToLookAt_1 : decode prog_2_method_5_code 1 = .ok (.istore_n 1, 1) := by decide +kernel
theorem d_An_leastToLookAt_2 : decode prog_2_method_5_code 2 = .ok (.iload_n 1, 1) := by decide +kernel
theorem d_An_leastToLookAt_3 : decode prog_2_method_5_code 3 = .ok (.sipush 129, 3) := by decide +kernel
theorem d_An_leastToLookAt_6 : decode prog_2_method_5_code 6 = .ok (.if_icmp .ge 30, 3) := by decide +kernel
theorem d_An_leastToLookAt_9 : decode prog_2_method_5_code 9 = .ok (.aload_n 0, 1) := by decide +kernel
theorem d_An_leastToLookAt_10 : decode prog_2_method_5_code 10 = .ok (.getfield 13, 3) := by decide +kernel
theorem d_An_leastToLookAt_13 : decode prog_2_method_5_code 13 = .ok (.iload_n 1, 1) := by decide +kernel
theorem d_An_leastToLookAt_14 : decode prog_2_method_5_code 14 = .ok (.iaload, 1) := by decide +kernel
theorem d_An_leastToLookAt_15 : decode prog_2_method_5_code 15 = .ok (.iconst (-1), 1) := by decide +kernel
theorem d_An_leastToLookAt_16 : decode prog_2_method_5_code 16 = .ok (.if_icmp .eq 14, 3) := by decide +kernel
theorem d_An_leastToLookAt_19 : decode prog_2_method_5_code 19 = .ok (.aload_n 0, 1) := by decide +kernel
theorem d_An_leastToLookAt_20 : decode prog_2_method_5_code 20 = .ok (.getfield 17, 3) := by decide +kernel
theorem d_An_leastToLookAt_23 : decode prog_2_method_5_code 23 = .ok (.iload_n 1, 1) := by decide +kernel
theorem d_An_leastToLookAt_24 : decode prog_2_method_5_code 24 = .ok (.baload, 1) := by decide +kernel
theorem d_An_leastToLookAt_25 : decode prog_2_method_5_code 25 = .ok (.ifCond .ne 5, 3) := by decide +kernel
theorem d_An_leastToLookAt_28 : decode prog_2_method_5_code 28 = .ok (.iload_n 1, 1) := by decide +kernel
theorem d_An_leastToLookAt_29 : decode prog_2_method_5_code 29 = .ok (.ireturn, 1) := by decide +kernel
theorem d_An_leastToLookAt_30 : decode prog_2_method_5_code 30 = .ok (.iinc 1 1, 3) := by decide +kernel
theorem d_An_leastToLookAt_33 : decode prog_2_method_5_code 33 = .ok (.goto (-31), 3) := by decide +kernel
theorem d_An_leastToLookAt_36 : decode prog_2_method_5_code 36 = .ok (.iconst (-1), 1) := by decide +kernel
theorem d_An_leastToLookAt_37 : decode prog_2_method_5_code 37 = .ok (.ireturn, 1) := by decide +kernel
def rm_c_A_least : Room := { frames := 0, cells := 0, slots := 0, locals := 0 }
set_option maxHeartbeats 4000000 in
set_option maxRecDepth 100000 in
theorem c_A_least (l : Launch) (E : kE) (an ah al aw : Nat) (fh fl : Nat → Int32) (hs : Nat → Nat) (hH : okA hs fh) (lk : Nat → Bool) (hL : okL lk fl) : Kp l y_An_leastToLookAt (kW y_An_leastToLookAt prog_2_method_5_code 2 (some .int)) rm_c_A_least E [.ref an] [(an, .inr (6, [.ref ah, .ref al, .ref aw])), (ah, .inl (E.2.1 0, 129, .inl fh)), (al, .inl (E.2.1 1, 129, .inl fl))] (fun r => r = if a_least hs lk = 129 then -1 else nI (a_least hs lk)) := by
  refine Kp.ofI (cc := prog_2_method_5_code) (maxL := 2) (by decide) (Nat.le_of_ble_eq_true rfl) ?_
  intro p e s m args below meth c A ls Q hx hb hts hown hml hK hG hA hP hD hS hl hret
  have hl : lv_has ls 2 [(0, .ref an)] := hl
  refine lv_iconst (v := nI 0) hx hb d_An_leastToLookAt_0 (by decide) ?_
  refine lv_istore_n (lv' := [(1, .int (nI 0)), (0, .ref an)]) hx hb d_An_leastToLookAt_1 rfl hl (by decide) rfl (fun ls hl => ?_)
  have key2 : ∀ (n : Nat) (i : Nat) (ls : Array Slot), i + n = 129 → (∀ x, x < i → ¬ (hs x ≠ 0 ∧ lk x = false)) → lv_has ls 2 [(1, .int (nI i)), (0, .ref an)] → W p l e rm_c_A_least s m args below meth c s.heap [] 0 0 Q (F0 m 2 ls []) := by
    intro n
    induction n using Nat.strongRecOn with
    | ind n ih =>
      intro i ls hn hI hl
      refine lv_iload_n hx hb d_An_leastToLookAt_2 rfl (lv_at hl 0 rfl) ?_
      refine lv_sipush (v := nI 129) hx hb d_An_leastToLookAt_3 (by decide) ?_
      refine kn_ge (tgt := 36) hx hb (by omega) (by omega) d_An_leastToLookAt_6 (by decide) (fun h6 => ?_) (fun h6 => ?_)
      · refine lv_iconst (v := -1) hx hb d_An_leastToLookAt_36 (by decide) ?_
        exact hret _ ls _ d_An_leastToLookAt_37 (ls_no hI (by omega))
      · refine lv_aload_n hx hb d_An_leastToLookAt_9 rfl (lv_at hl 1 rfl) ?_
        refine va_get (D := E.1) (ci := 6) (v := .ref ah) (C := "WideStack$Analyser") (T := T_An) (N := 3) hx hb hts in_An hown hK hP 0 rfl rfl 0 (by decide) (hts _ t_235) (fun _ h9 => h9) rfl d_An_leastToLookAt_10 ?_
        refine lv_iload_n hx hb d_An_leastToLookAt_13 rfl (lv_at hl 0 rfl) ?_
        refine k_iald hx hb hK hP 1 rfl (i := i) (by omega) (by omega) d_An_leastToLookAt_14 ?_
        refine lv_iconst (v := -1) hx hb d_An_leastToLookAt_15 (by decide) ?_
        refine lv_icmp_eq (tgt := 30) hx hb d_An_leastToLookAt_16 (by decide) (fun h16 => ?_) (fun h16 => ?_)
        · refine lv_iinc (k := 0) (v := nI (i + 1)) (lv' := [(1, .int (nI (i + 1))), (0, .ref an)]) hx hb d_An_leastToLookAt_30 hl rfl (k_inc _) (by decide) rfl (fun ls hl => ?_)
          refine lv_goto (tgt := 2) hx hb d_An_leastToLookAt_33 (by decide) ?_
          exact ih (n - 1) (by omega) (i + 1) ls (by omega) (ls_next hI (by first | exact fun q => q.1 (okA_0 hH (by omega) h16) | exact fun q => absurd (q.2.symm.trans (okL_1 hL (by omega) h25)) (by decide))) (lv_sub hl [0, 1] rfl)
        · refine lv_aload_n hx hb d_An_leastToLookAt_19 rfl (lv_at hl 1 rfl) ?_
          refine va_get (D := E.1) (ci := 6) (v := .ref al) (C := "WideStack$Analyser") (T := T_An) (N := 3) hx hb hts in_An hown hK hP 0 rfl rfl 1 (by decide) (hts _ t_236) (fun _ h9 => h9) rfl d_An_leastToLookAt_20 ?_
          refine lv_iload_n hx hb d_An_leastToLookAt_23 rfl (lv_at hl 0 rfl) ?_
          refine k_zald hx hb hK hP 2 rfl (i := i) (by omega) (by omega) d_An_leastToLookAt_24 ?_
          refine lv_if_ne (tgt := 30) hx hb d_An_leastToLookAt_25 (by decide) (fun h25 => ?_) (fun h25 => ?_)
          · refine lv_iinc (k := 0) (v := nI (i + 1)) (lv' := [(1, .int (nI (i + 1))), (0, .ref an)]) hx hb d_An_leastToLookAt_30 hl rfl (k_inc _) (by decide) rfl (fun ls hl => ?_)
            refine lv_goto (tgt := 2) hx hb d_An_leastToLookAt_33 (by decide) ?_
            exact ih (n - 1) (by omega) (i + 1) ls (by omega) (ls_next hI (by first | exact fun q => q.1 (okA_0 hH (by omega) h16) | exact fun q => absurd (q.2.symm.trans (okL_1 hL (by omega) h25)) (by decide))) (lv_sub hl [0, 1] rfl)
          · refine lv_iload_n hx hb d_An_leastToLookAt_28 rfl (lv_at hl 0 rfl) ?_
            exact hret _ ls _ d_An_leastToLookAt_29 (ls_hit hI (by omega) ⟨okA_1 hH (by omega) h16, okL_0 hL (by omega) h25⟩)
  exact key2 129 0 ls (by omega) (fun j hj => absurd hj (Nat.not_lt_zero j)) (lv_sub hl [0, 1] rfl)

abbrev y_An_reach : MethodName := ⟨"WideStack$Analyser", "reach", "(II)Z"⟩
theorem d_An_reach_0 : decode prog_2_method_8_code 0 = .ok (.iload_n 1, 1) := by decide +kernel
theorem d_An_reach_1 : decode prog_2_method_8_code 1 = .ok (.ifCond .lt 10, 3) := by decide +kernel
theorem d_An_reach_4 : decode prog_2_method_8_code 4 = .ok (.iload_n 1, 1) := by decide +kernel
theorem d_An_reach_5 : decode prog_2_method_8_code 5 = .ok (.sipush 129, 3) := by decide +kernel
theorem d_An_reach_8 : decode prog_2_method_8_code 8 = .ok (.if_icmp .lt 5, 3) := by decide +kernel
theorem d_An_reach_11 : decode prog_2_method_8_code 11 = .ok (.iconst 1, 1) := by decide +kernel
theorem d_An_reach_12 : decode prog_2_method_8_code 12 = .ok (.ireturn, 1) := by decide +kernel
theorem d_An_reach_13 : decode prog_2_method_8_code 13 = .ok (.aload_n 0, 1) := by decide +kernel
theorem d_An_reach_14 : decode prog_2_method_8_code 14 = .ok (.getfield 13, 3) := by decide +kernel
theorem d_An_reach_17 : decode prog_2_method_8_code 17 = .ok (.iload_n 1, 1) := by decide +kernel
theorem d_An_reach_18 : decode prog_2_method_8_code 18 = .ok (.iaload, 1) := by decide +kernel
theorem d_An_reach_19 : decode prog_2_method_8_code 19 = .ok (.iconst (-1), 1) := by decide +kernel
theorem d_An_reach_20 : decode prog_2_method_8_code 20 = .ok (.if_icmp .ne 10, 3) := by decide +kernel
theorem d_An_reach_23 : decode prog_2_method_8_code 23 = .ok (.aload_n 0, 1) := by decide +kernel
theorem d_An_reach_24 : decode prog_2_method_8_code 24 = .ok (.getfield 13, 3) := by decide +kernel
theorem d_An_reach_27 : decode prog_2_method_8_code 27 = .ok (.iload_n 1, 1) := by decide +kernel
theorem d_An_reach_28 : decode prog_2_method_8_code 28 = .ok (.iload_n 2, 1) := by decide +kernel
theorem d_An_reach_29 : decode prog_2_method_8_code 29 = .ok (.iastore, 1) := by decide +kernel
theorem d_An_reach_30 : decode prog_2_method_8_code 30 = .ok (.aload_n 0, 1) := by decide +kernel
theorem d_An_reach_31 : decode prog_2_method_8_code 31 = .ok (.getfield 13, 3) := by decide +kernel
theorem d_An_reach_34 : decode prog_2_method_8_code 34 = .ok (.iload_n 1, 1) := by decide +kernel
theorem d_An_reach_35 : decode prog_2_method_8_code 35 = .ok (.iaload, 1) := by decide +kernel
theorem d_An_reach_36 : decode prog_2_method_8_code 36 = .ok (.iload_n 2, 1) := by decide +kernel
theorem d_An_reach_37 : decode prog_2_method_8_code 37 = .ok (.if_icmp .ne 7, 3) := by decide +kernel
theorem d_An_reach_40 : decode prog_2_method_8_code 40 = .ok (.iconst 1, 1) := by decide +kernel
theorem d_An_reach_41 : decode prog_2_method_8_code 41 = .ok (.goto 4, 3) := by decide +kernel
theorem d_An_reach_44 : decode prog_2_method_8_code 44 = .ok (.iconst 0, 1) := by decide +kernel
theorem d_An_reach_45 : decode prog_2_method_8_code 45 = .ok (.ireturn, 1) := by decide +kernel
def rm_c_A_reach : Room := { frames := 0, cells := 0, slots := 0, locals := 0 }
set_option maxHeartbeats 4000000 in
set_option maxRecDepth 100000 in
theorem c_A_reach (l : Launch) (E : kE) (an ah al aw : Nat) (fh : Nat → Int32) (hs : Nat → Nat) (hH : okA hs fh) (i x : Nat) (hi : i < 129) (hx0 : x ≤ 16) : Ki l y_An_reach (kW y_An_reach prog_2_method_8_code 3 (some .boolean)) rm_c_A_reach E [.ref an, .int (nI i), .int (nI x)] [(an, .inr (6, [.ref ah, .ref al, .ref aw])), (ah, .inl (E.2.1 0, 129, .inl fh))] (S := Nat → Int32) (fun r u => r = kb (decide (a_rch hs i x i = x + 1)) ∧ ∀ j, j < 129 → u j = m1 (a_rch hs i x j)) (fun u => [(an, .inr (6, [.ref ah, .ref al, .ref aw])), (ah, .inl (E.2.1 0, 129, .inl u))]) := by
  refine Ki.ofZ (cc := prog_2_method_8_code) (maxL := 3) (by decide) (Nat.le_of_ble_eq_true rfl) ?_
  intro p e s m args below meth c A ls Q hx hb hts hown hml hK hG hA hP hD hS hl hret
  have hl : lv_has ls 3 [(0, .ref an), (1, .int (nI i)), (2, .int (nI x))] := hl
  refine lv_iload_n hx hb d_An_reach_0 rfl (lv_at hl 1 rfl) ?_
  refine kn_iflt (tgt := 11) hx hb (by omega) d_An_reach_1 (by decide) ?_
  refine lv_iload_n hx hb d_An_reach_4 rfl (lv_at hl 1 rfl) ?_
  refine lv_sipush (v := nI 129) hx hb d_An_reach_5 (by decide) ?_
  refine kn_lt (tgt := 13) hx hb (by omega) (by omega) d_An_reach_8 (by decide) (fun h8 => ?_) (fun h8 => ?_)
  · refine lv_aload_n hx hb d_An_reach_13 rfl (lv_at hl 0 rfl) ?_
    refine va_get (D := E.1) (ci := 6) (v := .ref ah) (C := "WideStack$Analyser") (T := T_An) (N := 3) hx hb hts in_An hown hK hP 0 rfl rfl 0 (by decide) (hts _ t_235) (fun _ h9 => h9) rfl d_An_reach_14 ?_
    refine lv_iload_n hx hb d_An_reach_17 rfl (lv_at hl 1 rfl) ?_
    refine k_iald hx hb hK hP 1 rfl (i := i) (by omega) (by omega) d_An_reach_18 ?_
    refine lv_iconst (v := -1) hx hb d_An_reach_19 (by decide) ?_
    refine lv_icmp_ne (tgt := 30) hx hb d_An_reach_20 (by decide) (fun h20 => ?_) (fun h20 => ?_)
    · refine lv_aload_n hx hb d_An_reach_30 rfl (lv_at hl 0 rfl) ?_
      refine va_get (D := E.1) (ci := 6) (v := .ref ah) (C := "WideStack$Analyser") (T := T_An) (N := 3) hx hb hts in_An hown hK hP 0 rfl rfl 0 (by decide) (hts _ t_235) (fun _ h9 => h9) rfl d_An_reach_31 ?_
      refine lv_iload_n hx hb d_An_reach_34 rfl (lv_at hl 1 rfl) ?_
      refine k_iald hx hb hK hP 1 rfl (i := i) (by omega) (by omega) d_An_reach_35 ?_
      refine lv_iload_n hx hb d_An_reach_36 rfl (lv_at hl 2 rfl) ?_
      refine lv_icmp_ne (tgt := 44) hx hb d_An_reach_37 (by decide) (fun h37 => ?_) (fun h37 => ?_)
      · refine lv_iconst (v := nI 0) hx hb d_An_reach_44 (by decide) ?_
        first | exact hret _ ls _ _ _ (upd fh i (nI x)) d_An_reach_45 (by decide) (rc_new hH hi h20) hP hS | exact hret _ ls _ _ _ fh d_An_reach_45 (by decide) (rc_old hH hi hx0 h20 (Or.inl ⟨h37, rfl⟩)) hP hS | exact hret _ ls _ _ _ fh d_An_reach_45 (by decide) (rc_old hH hi hx0 h20 (Or.inr ⟨h37, rfl⟩)) hP hS
      · refine lv_iconst (v := nI 1) hx hb d_An_reach_40 (by decide) ?_
        refine lv_goto (tgt := 45) hx hb d_An_reach_41 (by decide) ?_
        first | exact hret _ ls _ _ _ (upd fh i (nI x)) d_An_reach_45 (by decide) (rc_new hH hi h20) hP hS | exact hret _ ls _ _ _ fh d_An_reach_45 (by decide) (rc_old hH hi hx0 h20 (Or.inl ⟨h37, rfl⟩)) hP hS | exact hret _ ls _ _ _ fh d_An_reach_45 (by decide) (rc_old hH hi hx0 h20 (Or.inr ⟨h37, rfl⟩)) hP hS
    · refine lv_aload_n hx hb d_An_reach_23 rfl (lv_at hl 0 rfl) ?_
      refine va_get (D := E.1) (ci := 6) (v := .ref ah) (C := "WideStack$Analyser") (T := T_An) (N := 3) hx hb hts in_An hown hK hP 0 rfl rfl 0 (by decide) (hts _ t_235) (fun _ h9 => h9) rfl d_An_reach_24 ?_
      refine lv_iload_n hx hb d_An_reach_27 rfl (lv_at hl 1 rfl) ?_
      refine lv_iload_n hx hb d_An_reach_28 rfl (lv_at hl 2 rfl) ?_
      refine k_iast hx hb hK hP hD hS 1 rfl (i := i) (by omega) (by omega) d_An_reach_29 (fun H locs hP hD hS => ?_)
      have hP : va_P E.1 vwCl [(an, .inr (6, [.ref ah, .ref al, .ref aw])), (ah, .inl (E.2.1 0, 129, .inl (upd fh i (nI x))))] H := hP
      have hD : va_D A [(an, .inr (6, [.ref ah, .ref al, .ref aw])), (ah, .inl (E.2.1 0, 129, .inl (upd fh i (nI x))))] := hD
      refine lv_aload_n hx hb d_An_reach_30 rfl (lv_at hl 0 rfl) ?_
      refine va_get (D := E.1) (ci := 6) (v := .ref ah) (C := "WideStack$Analyser") (T := T_An) (N := 3) hx hb hts in_An hown hK hP 0 rfl rfl 0 (by decide) (hts _ t_235) (fun _ h9 => h9) rfl d_An_reach_31 ?_
      refine lv_iload_n hx hb d_An_reach_34 rfl (lv_at hl 1 rfl) ?_
      refine k_iald hx hb hK hP 1 rfl (i := i) (by omega) (by omega) d_An_reach_35 ?_
      refine lv_iload_n hx hb d_An_reach_36 rfl (lv_at hl 2 rfl) ?_
      refine lv_icmp_ne (tgt := 44) hx hb d_An_reach_37 (by decide) (fun h37 => ?_) (fun h37 => ?_)
      · exact absurd pk_us h37
      · refine lv_iconst (v := nI 1) hx hb d_An_reach_40 (by decide) ?_
        refine lv_goto (tgt := 45) hx hb d_An_reach_41 (by decide) ?_
        first | exact hret _ ls _ _ _ (upd fh i (nI x)) d_An_reach_45 (by decide) (rc_new hH hi h20) hP hS | exact hret _ ls _ _ _ fh d_An_reach_45 (by decide) (rc_old hH hi hx0 h20 (Or.inl ⟨h37, rfl⟩)) hP hS | exact hret _ ls _ _ _ fh d_An_reach_45 (by decide) (rc_old hH hi hx0 h20 (Or.inr ⟨h37, rfl⟩)) hP hS
  · omega

abbrev y_An_lookAtJump : MethodName := ⟨"WideStack$Analyser", "lookAtJump", "(LWideStack$Program;II)I"⟩
theorem d_An_lookAtJump_0 : decode prog_2_method_7_code 0 = .ok (.aload_n 1, 1) := by decide +kernel
theorem d_An_lookAtJump_1 : decode prog_2_method_7_code 1 = .ok (.iload_n 2, 1) := by decide +kernel
theorem d_An_lookAtJump_2 : decode prog_2_method_7_code 2 = .ok (.invokevirtual 76, 3) := by decide +kernel
theorem d_An_lookAtJump_5 : decode prog_2_method_7_code 5 = .ok (.istore 4, 2) := by decide +kernel
theorem d_An_lookAtJump_7 : decode prog_2_method_7_code 7 = .ok (.iload 4, 2) := by decide +kernel
theorem d_An_lookAtJump_9 : decode prog_2_method_7_code 9 = .ok (.iconst (-1), 1) := by decide +kernel
theorem d_An_lookAtJump_10 : decode prog_2_method_7_code 10 = .ok (.if_icmp .eq 15, 3) := by decide +kernel
theorem d_An_lookAtJump_13 : decode prog_2_method_7_code 13 = .ok (.aload_n 1, 1) := by decide +kernel
theorem d_An_lookAtJump_14 : decode prog_2_method_7_code 14 = .ok (.iload 4, 2) := by decide +kernel
theorem d_An_lookAtJump_16 : decode prog_2_method_7_code 16 = .ok (.invokevirtual 41, 3) := by decide +kernel
theorem d_An_lookAtJump_19 : decode prog_2_method_7_code 19 = .ok (.invokestatic 79, 3) := by decide +kernel
theorem d_An_lookAtJump_22 : decode prog_2_method_7_code 22 = .ok (.ifCond .ne 5, 3) := by decide +kernel
theorem d_An_lookAtJump_25 : decode prog_2_method_7_code 25 = .ok (.iconst 3, 1) := by decide +kernel
theorem d_An_lookAtJump_26 : decode prog_2_method_7_code 26 = .ok (.ireturn, 1) := by decide +kernel
theorem d_An_lookAtJump_27 : decode prog_2_method_7_code 27 = .ok (.aload_n 1, 1) := by decide +kernel
theorem d_An_lookAtJump_28 : decode prog_2_method_7_code 28 = .ok (.iload 4, 2) := by decide +kernel
theorem d_An_lookAtJump_30 : decode prog_2_method_7_code 30 = .ok (.aload_n 0, 1) := by decide +kernel
theorem d_An_lookAtJump_31 : decode prog_2_method_7_code 31 = .ok (.getfield 21, 3) := by decide +kernel
theorem d_An_lookAtJump_34 : decode prog_2_method_7_code 34 = .ok (.invokevirtual 82, 3) := by decide +kernel
theorem d_An_lookAtJump_37 : decode prog_2_method_7_code 37 = .ok (.aload_n 0, 1) := by decide +kernel
theorem d_An_lookAtJump_38 : decode prog_2_method_7_code 38 = .ok (.getfield 21, 3) := by decide +kernel
theorem d_An_lookAtJump_41 : decode prog_2_method_7_code 41 = .ok (.invokestatic 86, 3) := by decide +kernel
theorem d_An_lookAtJump_44 : decode prog_2_method_7_code 44 = .ok (.istore 5, 2) := by decide +kernel
theorem d_An_lookAtJump_46 : decode prog_2_method_7_code 46 = .ok (.aload_n 1, 1) := by decide +kernel
theorem d_An_lookAtJump_47 : decode prog_2_method_7_code 47 = .ok (.iload 5, 2) := by decide +kernel
theorem d_An_lookAtJump_49 : decode prog_2_method_7_code 49 = .ok (.invokevirtual 90, 3) := by decide +kernel
theorem d_An_lookAtJump_52 : decode prog_2_method_7_code 52 = .ok (.ifCond .ne 5, 3) := by decide +kernel
theorem d_An_lookAtJump_55 : decode prog_2_method_7_code 55 = .ok (.iconst 4, 1) := by decide +kernel
theorem d_An_lookAtJump_56 : decode prog_2_method_7_code 56 = .ok (.ireturn, 1) := by decide +kernel
theorem d_An_lookAtJump_57 : decode prog_2_method_7_code 57 = .ok (.aload_n 1, 1) := by decide +kernel
theorem d_An_lookAtJump_58 : decode prog_2_method_7_code 58 = .ok (.iload_n 2, 1) := by decide +kernel
theorem d_An_lookAtJump_59 : decode prog_2_method_7_code 59 = .ok (.invokevirtual 41, 3) := by decide +kernel
theorem d_An_lookAtJump_62 : decode prog_2_method_7_code 62 = .ok (.bipush 87, 2) := by decide +kernel
theorem d_An_lookAtJump_64 : decode prog_2_method_7_code 64 = .ok (.if_icmp .ne 7, 3) := by decide +kernel
theorem d_An_lookAtJump_67 : decode prog_2_method_7_code 67 = .ok (.iconst 1, 1) := by decide +kernel
theorem d_An_lookAtJump_68 : decode prog_2_method_7_code 68 = .ok (.goto 4, 3) := by decide +kernel
theorem d_An_lookAtJump_71 : decode prog_2_method_7_code 71 = .ok (.iconst 0, 1) := by decide +kernel
theorem d_An_lookAtJump_72 : decode prog_2_method_7_code 72 = .ok (.istore 6, 2) := by decide +kernel
theorem d_An_lookAtJump_74 : decode prog_2_method_7_code 74 = .ok (.iload 6, 2) := by decide +kernel
theorem d_An_lookAtJump_76 : decode prog_2_method_7_code 76 = .ok (.ifCond .eq 18, 3) := by decide +kernel
theorem d_An_lookAtJump_79 : decode prog_2_method_7_code 79 = .ok (.aload_n 0, 1) := by decide +kernel
theorem d_An_lookAtJump_80 : decode prog_2_method_7_code 80 = .ok (.aload_n 1, 1) := by decide +kernel
theorem d_An_lookAtJump_81 : decode prog_2_method_7_code 81 = .ok (.iload_n 2, 1) := by decide +kernel
theorem d_An_lookAtJump_82 : decode prog_2_method_7_code 82 = .ok (.invokevirtual 69, 3) := by decide +kernel
theorem d_An_lookAtJump_85 : decode prog_2_method_7_code 85 = .ok (.iload_n 3, 1) := by decide +kernel
theorem d_An_lookAtJump_86 : decode prog_2_method_7_code 86 = .ok (.invokevirtual 72, 3) := by decide +kernel
theorem d_An_lookAtJump_89 : decode prog_2_method_7_code 89 = .ok (.ifCond .ne 5, 3) := by decide +kernel
theorem d_An_lookAtJump_92 : decode prog_2_method_7_code 92 = .ok (.iconst 5, 1) := by decide +kernel
theorem d_An_lookAtJump_93 : decode prog_2_method_7_code 93 = .ok (.ireturn, 1) := by decide +kernel
theorem d_An_lookAtJump_94 : decode prog_2_method_7_code 94 = .ok (.aload_n 0, 1) := by decide +kernel
theorem d_An_lookAtJump_95 : decode prog_2_method_7_code 95 = .ok (.iload 5, 2) := by decide +kernel
theorem d_An_lookAtJump_97 : decode prog_2_method_7_code 97 = .ok (.iload_n 3, 1) := by decide +kernel
theorem d_An_lookAtJump_98 : decode prog_2_method_7_code 98 = .ok (.invokevirtual 72, 3) := by decide +kernel
theorem d_An_lookAtJump_101 : decode prog_2_method_7_code 101 = .ok (.ifCond .eq 7, 3) := by decide +kernel
theorem d_An_lookAtJump_104 : decode prog_2_method_7_code 104 = .ok (.iconst 0, 1) := by decide +kernel
theorem d_An_lookAtJump_105 : decode prog_2_method_7_code 105 = .ok (.goto 4, 3) := by decide +kernel
theorem d_An_lookAtJump_108 : decode prog_2_method_7_code 108 = .ok (.iconst 5, 1) := by decide +kernel
theorem d_An_lookAtJump_109 : decode prog_2_method_7_code 109 = .ok (.ireturn, 1) := by decide +kernel
def rm_c_A_lookAtJump : Room := { frames := 3, cells := 0, slots := 0, locals := 67 }
set_option maxHeartbeats 4000000 in
set_option maxRecDepth 100000 in
theorem c_A_lookAtJump (l : Launch) (E : kE) (an ah al aw : Nat) (fh fn : Nat → Int32) (hs : Nat → Nat) (hH : okA hs fh) (q qb qg qf len : Nat) (lat nxt : Int32) (fb fg ff : Nat → Int32) (bb : Nat → Nat) (ok : okP len bb fb fg ff lat nxt) (i x : Nat) (hi : i < len) (hj : bb i = 86 ∨ bb i = 87) (hx0 : x ≤ 16) : Ki l y_An_lookAtJump (kW y_An_lookAtJump prog_2_method_7_code 7 (some .int)) rm_c_A_lookAtJump E [.ref an, .ref q, .int (nI i), .int (nI x)] [(an, .inr (6, [.ref ah, .ref al, .ref aw])), (ah, .inl (E.2.1 0, 129, .inl fh)), (aw, .inl (E.2.1 0, 8, .inl fn)), (q, .inr (0, [.ref qb, .ref qg, .ref qf, .int (nI len), .int lat, .int nxt])), (qb, .inl (E.2.1 0, 96, .inl fb)), (qg, .inl (E.2.1 1, 96, .inl fg)), (qf, .inl (E.2.1 0, 96, .inl ff))] (S := (Nat → Int32) × (Nat → Int32)) (fun r u => r = nI (a_jmp len bb hs i x).1 ∧ okA (a_jmp len bb hs i x).2 u.1) (fun u => [(an, .inr (6, [.ref ah, .ref al, .ref aw])), (ah, .inl (E.2.1 0, 129, .inl u.1)), (aw, .inl (E.2.1 0, 8, .inl u.2)), (q, .inr (0, [.ref qb, .ref qg, .ref qf, .int (nI len), .int lat, .int nxt])), (qb, .inl (E.2.1 0, 96, .inl fb)), (qg, .inl (E.2.1 1, 96, .inl fg)), (qf, .inl (E.2.1 0, 96, .inl ff))]) := by
  refine Ki.ofI (cc := prog_2_method_7_code) (maxL := 7) (by decide) (Nat.le_of_ble_eq_true rfl) ?_
  intro p e s m args below meth c A ls Q hx hb hts hown hml hK hG hA hP hD hS hl hret
  have hl : lv_has ls 7 [(0, .ref an), (1, .ref q), (2, .int (nI i)), (3, .int (nI x))] := hl
  have hlen := ok.1
  have hll := m_lat_le bb i
  have hnl : m_numl (bb i) = 0 := by unfold m_numl; rw [if_neg (by omega)]
  refine lv_aload_n hx hb d_An_lookAtJump_0 rfl (lv_at hl 1 rfl) ?_
  refine lv_iload_n hx hb d_An_lookAtJump_1 rfl (lv_at hl 2 rfl) ?_
  refine k_Vp (As := [.int (nI i)]) (rest := []) ⟨hx, hb, hml, hown, hts⟩ (c_P_placeBefore l E q qb qg qf len lat nxt fb fg ff bb ok i hi) (k_cwV 1 hts t_714 t_715 t_716 t_63 t_717 (by decide +kernel) ⟨Nat.le_of_ble_eq_true rfl, Nat.le_of_ble_eq_true rfl⟩) hK hG hA hP hD hS [3, 4, 5, 6] rfl (by decide) 3 rfl rfl rfl hl.1 rfl (Nat.le_of_ble_eq_true rfl) d_An_lookAtJump_2 ⟨Nat.zero_le _, Nat.zero_le _⟩ (fun r2 hu2 => ?_)
  subst hu2
  refine lv_istore (lv' := [(4, .int (m1 (m_lat bb i))), (0, .ref an), (1, .ref q), (2, .int (nI i)), (3, .int (nI x))]) hx hb d_An_lookAtJump_5 hl (by decide) rfl (fun ls hl => ?_)
  refine lv_iload hx hb d_An_lookAtJump_7 (lv_at hl 0 rfl) ?_
  refine lv_iconst (v := -1) hx hb d_An_lookAtJump_9 (by decide) ?_
  refine lv_icmp_eq (tgt := 25) hx hb d_An_lookAtJump_10 (by decide) (fun h10 => ?_) (fun h10 => ?_)
  · refine lv_iconst (v := nI 3) hx hb d_An_lookAtJump_25 (by decide) ?_
    first | exact hret _ ls _ _ _ (fh, fn) d_An_lookAtJump_26 (aj_post (aj_3 (Or.inl ((m1_eq (by omega)).mp h10))) rfl hH) hP hS | exact hret _ ls _ _ _ (fh, fn) d_An_lookAtJump_26 (aj_post (aj_3 (Or.inr h22)) rfl hH) hP hS
  · have hq0 : m_lat bb i ≠ 0 := fun q => h10 ((m1_eq (by omega)).mpr q)
    rw [m1_pos hq0] at hl
    have hl : lv_has ls 7 [(4, .int (nI (m_lat bb i - 1))), (0, .ref an), (1, .ref q), (2, .int (nI i)), (3, .int (nI x))] := hl
    refine lv_aload_n hx hb d_An_lookAtJump_13 rfl (lv_at hl 2 rfl) ?_
    refine lv_iload hx hb d_An_lookAtJump_14 (lv_at hl 0 rfl) ?_
    refine k_Vp (As := [.int (nI (m_lat bb i - 1))]) (rest := []) ⟨hx, hb, hml, hown, hts⟩ (c_P_byteAt l E q qb qg qf len lat nxt fb fg ff bb ok (m_lat bb i - 1) (by omega)) (k_cwV 1 hts t_703 t_332 t_333 t_63 t_334 (by decide +kernel) ⟨Nat.le_of_ble_eq_true rfl, Nat.le_of_ble_eq_true rfl⟩) hK hG hA hP hD hS [3, 4, 5, 6] rfl (by decide) 3 rfl rfl rfl hl.1 rfl (Nat.le_of_ble_eq_true rfl) d_An_lookAtJump_16 ⟨Nat.zero_le _, Nat.zero_le _⟩ (fun r16 hu16 => ?_)
    subst hu16
    refine k_Sp (As := [.int (nI (bb (m_lat bb i - 1)))]) (rest := []) ⟨hx, hb, hml, hown, hts⟩ (c_I_numberLength l E (bb (m_lat bb i - 1)) (ok.2.2.1 _)) (k_cwS 1 hts t_718 t_264 t_72 t_265 (by decide +kernel) ⟨Nat.le_of_ble_eq_true rfl, Nat.le_of_ble_eq_true rfl⟩) hK hG hA hP hD hS [] rfl (by decide) rfl hl.1 rfl (Nat.le_of_ble_eq_true rfl) d_An_lookAtJump_19 ⟨Nat.zero_le _, Nat.zero_le _⟩ (fun r19 hu19 => ?_)
    subst hu19
    refine kn_ifne (tgt := 27) hx hb (Nat.lt_of_le_of_lt (m_numl_le _) (by decide)) d_An_lookAtJump_22 (by decide) (fun h22 => ?_) (fun h22 => ?_)
    · refine lv_aload_n hx hb d_An_lookAtJump_27 rfl (lv_at hl 2 rfl) ?_
      refine lv_iload hx hb d_An_lookAtJump_28 (lv_at hl 0 rfl) ?_
      refine lv_aload_n hx hb d_An_lookAtJump_30 rfl (lv_at hl 1 rfl) ?_
      refine va_get (D := E.1) (ci := 6) (v := .ref aw) (C := "WideStack$Analyser") (T := T_An) (N := 3) hx hb hts in_An hown hK hP 0 rfl rfl 2 (by decide) (hts _ t_237) (fun _ h9 => h9) rfl d_An_lookAtJump_31 ?_
      refine k_Vv (As := [.int (nI (m_lat bb i - 1)), .ref aw]) (rest := []) ⟨hx, hb, hml, hown, hts⟩ (c_P_readNumber l E q qb qg qf len lat nxt fb fg ff bb ok (m_lat bb i - 1) aw fn (by omega)) (k_cwV 2 hts t_719 t_456 t_457 t_63 t_458 (by decide +kernel) ⟨Nat.le_of_ble_eq_true rfl, Nat.le_of_ble_eq_true rfl⟩) hK hG hA hP hD hS [3, 4, 5, 6, 2] rfl (by decide) 3 rfl rfl (fun _ => rfl) rfl hl.1 rfl (Nat.le_of_ble_eq_true rfl) d_An_lookAtJump_34 ⟨Nat.zero_le _, Nat.zero_le _⟩ (fun u0 H locs hu0 hP hD hS => ?_)
      have hP : va_P E.1 vwCl [(an, .inr (6, [.ref ah, .ref al, .ref aw])), (ah, .inl (E.2.1 0, 129, .inl fh)), (aw, .inl (E.2.1 0, 8, .inl u0)), (q, .inr (0, [.ref qb, .ref qg, .ref qf, .int (nI len), .int lat, .int nxt])), (qb, .inl (E.2.1 0, 96, .inl fb)), (qg, .inl (E.2.1 1, 96, .inl fg)), (qf, .inl (E.2.1 0, 96, .inl ff))] H := hP
      have hD : va_D A [(an, .inr (6, [.ref ah, .ref al, .ref aw])), (ah, .inl (E.2.1 0, 129, .inl fh)), (aw, .inl (E.2.1 0, 8, .inl u0)), (q, .inr (0, [.ref qb, .ref qg, .ref qf, .int (nI len), .int lat, .int nxt])), (qb, .inl (E.2.1 0, 96, .inl fb)), (qg, .inl (E.2.1 1, 96, .inl fg)), (qf, .inl (E.2.1 0, 96, .inl ff))] := hD
      rw [Nat.sub_add_cancel (Nat.pos_of_ne_zero hq0)] at hu0
      generalize hTd : m_num bb (m_lat bb i) (m_numl (bb (m_lat bb i - 1))) = T at hu0
      refine lv_aload_n hx hb d_An_lookAtJump_37 rfl (lv_at hl 1 rfl) ?_
      refine va_get (D := E.1) (ci := 6) (v := .ref aw) (C := "WideStack$Analyser") (T := T_An) (N := 3) hx hb hts in_An hown hK hP 0 rfl rfl 2 (by decide) (hts _ t_237) (fun _ h9 => h9) rfl d_An_lookAtJump_38 ?_
      refine k_Sp (As := [.ref aw]) (rest := []) ⟨hx, hb, hml, hown, hts⟩ (c_P_asPlace l E aw u0) (k_cwS 1 hts t_720 t_405 t_63 t_406 (by decide +kernel) ⟨Nat.le_of_ble_eq_true rfl, Nat.le_of_ble_eq_true rfl⟩) hK hG hA hP hD hS [2] rfl (by decide) rfl hl.1 rfl (Nat.le_of_ble_eq_true rfl) d_An_lookAtJump_41 ⟨Nat.zero_le _, Nat.zero_le _⟩ (fun r41 hu41 => ?_)
      have hu41 := hu41.trans (by rw [hu0])
      subst hu41
      refine lv_istore (lv' := [(5, .int (nI (min T 96))), (4, .int (nI (m_lat bb i - 1))), (0, .ref an), (1, .ref q), (2, .int (nI i)), (3, .int (nI x))]) hx hb d_An_lookAtJump_44 hl (by decide) rfl (fun ls hl => ?_)
      refine lv_aload_n hx hb d_An_lookAtJump_46 rfl (lv_at hl 3 rfl) ?_
      refine lv_iload hx hb d_An_lookAtJump_47 (lv_at hl 0 rfl) ?_
      refine k_Vp (As := [.int (nI (min T 96))]) (rest := []) ⟨hx, hb, hml, hown, hts⟩ (c_P_mayJumpTo l E q qb qg qf len lat nxt fb fg ff bb ok (nI (min T 96))) (k_cwV 1 hts t_721 t_409 t_410 t_63 t_411 (by decide +kernel) ⟨Nat.le_of_ble_eq_true rfl, Nat.le_of_ble_eq_true rfl⟩) hK hG hA hP hD hS [3, 4, 5, 6] rfl (by decide) 3 rfl rfl rfl hl.1 rfl (Nat.le_of_ble_eq_true rfl) d_An_lookAtJump_49 ⟨Nat.zero_le _, Nat.zero_le _⟩ (fun r49 hu49 => ?_)
      have hu49 := hu49.trans (by rw [m_in_marked hlen])
      subst hu49
      refine lv_if_ne (tgt := 57) hx hb d_An_lookAtJump_52 (by decide) (fun h52 => ?_) (fun h52 => ?_)
      · obtain ⟨t1, t2, t3⟩ := mk_parts (kb_n0 h52)
        rw [Nat.min_eq_left (by omega : T ≤ 96)] at hl
        have hl : lv_has ls 7 [(5, .int (nI T)), (4, .int (nI (m_lat bb i - 1))), (0, .ref an), (1, .ref q), (2, .int (nI i)), (3, .int (nI x))] := hl
        refine lv_aload_n hx hb d_An_lookAtJump_57 rfl (lv_at hl 3 rfl) ?_
        refine lv_iload_n hx hb d_An_lookAtJump_58 rfl (lv_at hl 4 rfl) ?_
        refine k_Vp (As := [.int (nI i)]) (rest := []) ⟨hx, hb, hml, hown, hts⟩ (c_P_byteAt l E q qb qg qf len lat nxt fb fg ff bb ok i (by omega)) (k_cwV 1 hts t_703 t_332 t_333 t_63 t_334 (by decide +kernel) ⟨Nat.le_of_ble_eq_true rfl, Nat.le_of_ble_eq_true rfl⟩) hK hG hA hP hD hS [3, 4, 5, 6] rfl (by decide) 3 rfl rfl rfl hl.1 rfl (Nat.le_of_ble_eq_true rfl) d_An_lookAtJump_59 ⟨Nat.zero_le _, Nat.zero_le _⟩ (fun r59 hu59 => ?_)
        subst hu59
        refine lv_bipush (v := nI 87) hx hb d_An_lookAtJump_62 (by decide) ?_
        refine kn_ne (tgt := 71) hx hb (by omega) (by omega) d_An_lookAtJump_64 (by decide) (fun h64 => ?_) (fun h64 => ?_)
        · refine lv_iconst (v := nI 0) hx hb d_An_lookAtJump_71 (by decide) ?_
          refine lv_istore (lv' := [(6, .int (nI 0)), (5, .int (nI T)), (4, .int (nI (m_lat bb i - 1))), (0, .ref an), (1, .ref q), (2, .int (nI i)), (3, .int (nI x))]) hx hb d_An_lookAtJump_72 hl (by decide) rfl (fun ls hl => ?_)
          refine lv_iload hx hb d_An_lookAtJump_74 (lv_at hl 0 rfl) ?_
          refine kn_ifeq (tgt := 94) hx hb (by omega) d_An_lookAtJump_76 (by decide) (fun h76 => ?_) (fun h76 => ?_)
          · refine lv_aload_n hx hb d_An_lookAtJump_94 rfl (lv_at hl 3 rfl) ?_
            refine lv_iload hx hb d_An_lookAtJump_95 (lv_at hl 1 rfl) ?_
            refine lv_iload_n hx hb d_An_lookAtJump_97 rfl (lv_at hl 6 rfl) ?_
            refine k_Vi (As := [.int (nI T), .int (nI x)]) (rest := []) ⟨hx, hb, hml, hown, hts⟩ (c_A_reach l E an ah al aw fh hs hH T x (by omega) hx0) (k_cwV 2 hts t_723 t_725 t_25 t_69 t_726 (by decide +kernel) ⟨Nat.le_of_ble_eq_true rfl, Nat.le_of_ble_eq_true rfl⟩) hK hG hA hP hD hS [0, 1] rfl (by decide) 0 rfl rfl (fun _ => rfl) rfl hl.1 rfl (Nat.le_of_ble_eq_true rfl) d_An_lookAtJump_98 ⟨Nat.zero_le _, Nat.zero_le _⟩ (fun r u2 H locs hu2 hP hD hS => ?_)
            have hP : va_P E.1 vwCl [(an, .inr (6, [.ref ah, .ref al, .ref aw])), (ah, .inl (E.2.1 0, 129, .inl u2)), (aw, .inl (E.2.1 0, 8, .inl u0)), (q, .inr (0, [.ref qb, .ref qg, .ref qf, .int (nI len), .int lat, .int nxt])), (qb, .inl (E.2.1 0, 96, .inl fb)), (qg, .inl (E.2.1 1, 96, .inl fg)), (qf, .inl (E.2.1 0, 96, .inl ff))] H := hP
            have hD : va_D A [(an, .inr (6, [.ref ah, .ref al, .ref aw])), (ah, .inl (E.2.1 0, 129, .inl u2)), (aw, .inl (E.2.1 0, 8, .inl u0)), (q, .inr (0, [.ref qb, .ref qg, .ref qf, .int (nI len), .int lat, .int nxt])), (qb, .inl (E.2.1 0, 96, .inl fb)), (qg, .inl (E.2.1 1, 96, .inl fg)), (qf, .inl (E.2.1 0, 96, .inl ff))] := hD
            obtain ⟨e2, q2⟩ := hu2
            subst e2
            have hH2 := okA_rch hH hx0 q2
            refine lv_if_eq (tgt := 108) hx hb d_An_lookAtJump_101 (by decide) (fun h101 => ?_) (fun h101 => ?_)
            · refine lv_iconst (v := nI 5) hx hb d_An_lookAtJump_108 (by decide) ?_
              exact hret _ ls _ _ _ (u2, u0) d_An_lookAtJump_109 (aj_post (aj_u hq0 h22 hTd (kb_n0 h52) h64) (ar_5 h101) hH2) hP hS
            · refine lv_iconst (v := nI 0) hx hb d_An_lookAtJump_104 (by decide) ?_
              refine lv_goto (tgt := 109) hx hb d_An_lookAtJump_105 (by decide) ?_
              exact hret _ ls _ _ _ (u2, u0) d_An_lookAtJump_109 (aj_post (aj_u hq0 h22 hTd (kb_n0 h52) h64) (ar_0 h101) hH2) hP hS
          · exact absurd rfl h76
        · refine lv_iconst (v := nI 1) hx hb d_An_lookAtJump_67 (by decide) ?_
          refine lv_goto (tgt := 72) hx hb d_An_lookAtJump_68 (by decide) ?_
          refine lv_istore (lv' := [(6, .int (nI 1)), (5, .int (nI T)), (4, .int (nI (m_lat bb i - 1))), (0, .ref an), (1, .ref q), (2, .int (nI i)), (3, .int (nI x))]) hx hb d_An_lookAtJump_72 hl (by decide) rfl (fun ls hl => ?_)
          refine lv_iload hx hb d_An_lookAtJump_74 (lv_at hl 0 rfl) ?_
          refine kn_ifeq (tgt := 94) hx hb (by omega) d_An_lookAtJump_76 (by decide) (fun h76 => ?_) (fun h76 => ?_)
          · exact absurd h76 (by decide)
          · refine lv_aload_n hx hb d_An_lookAtJump_79 rfl (lv_at hl 3 rfl) ?_
            refine lv_aload_n hx hb d_An_lookAtJump_80 rfl (lv_at hl 4 rfl) ?_
            refine lv_iload_n hx hb d_An_lookAtJump_81 rfl (lv_at hl 5 rfl) ?_
            refine k_Vp (As := [.int (nI i)]) (rest := [.ref an]) ⟨hx, hb, hml, hown, hts⟩ (c_P_placeBehind l E q qb qg qf len lat nxt fb fg ff bb ok i (by omega)) (k_cwV 1 hts t_722 t_442 t_443 t_63 t_444 (by decide +kernel) ⟨Nat.le_of_ble_eq_true rfl, Nat.le_of_ble_eq_true rfl⟩) hK hG hA hP hD hS [3, 4, 5, 6] rfl (by decide) 3 rfl rfl rfl hl.1 rfl (Nat.le_of_ble_eq_true rfl) d_An_lookAtJump_82 ⟨Nat.zero_le _, Nat.zero_le _⟩ (fun r82 hu82 => ?_)
            have hu82 := hu82.trans (by rw [hnl, Nat.add_zero])
            subst hu82
            refine lv_iload_n hx hb d_An_lookAtJump_85 rfl (lv_at hl 6 rfl) ?_
            refine k_Vi (As := [.int (nI (i + 1)), .int (nI x)]) (rest := []) ⟨hx, hb, hml, hown, hts⟩ (c_A_reach l E an ah al aw fh hs hH (i + 1) x (by omega) hx0) (k_cwV 2 hts t_723 t_725 t_25 t_69 t_726 (by decide +kernel) ⟨Nat.le_of_ble_eq_true rfl, Nat.le_of_ble_eq_true rfl⟩) hK hG hA hP hD hS [0, 1] rfl (by decide) 0 rfl rfl (fun _ => rfl) rfl hl.1 rfl (Nat.le_of_ble_eq_true rfl) d_An_lookAtJump_86 ⟨Nat.zero_le _, Nat.zero_le _⟩ (fun r u1 H locs hu1 hP hD hS => ?_)
            have hP : va_P E.1 vwCl [(an, .inr (6, [.ref ah, .ref al, .ref aw])), (ah, .inl (E.2.1 0, 129, .inl u1)), (aw, .inl (E.2.1 0, 8, .inl u0)), (q, .inr (0, [.ref qb, .ref qg, .ref qf, .int (nI len), .int lat, .int nxt])), (qb, .inl (E.2.1 0, 96, .inl fb)), (qg, .inl (E.2.1 1, 96, .inl fg)), (qf, .inl (E.2.1 0, 96, .inl ff))] H := hP
            have hD : va_D A [(an, .inr (6, [.ref ah, .ref al, .ref aw])), (ah, .inl (E.2.1 0, 129, .inl u1)), (aw, .inl (E.2.1 0, 8, .inl u0)), (q, .inr (0, [.ref qb, .ref qg, .ref qf, .int (nI len), .int lat, .int nxt])), (qb, .inl (E.2.1 0, 96, .inl fb)), (qg, .inl (E.2.1 1, 96, .inl fg)), (qf, .inl (E.2.1 0, 96, .inl ff))] := hD
            obtain ⟨e1, q1⟩ := hu1
            subst e1
            have hH1 := okA_rch hH hx0 q1
            refine lv_if_ne (tgt := 94) hx hb d_An_lookAtJump_89 (by decide) (fun h89 => ?_) (fun h89 => ?_)
            · refine lv_aload_n hx hb d_An_lookAtJump_94 rfl (lv_at hl 3 rfl) ?_
              refine lv_iload hx hb d_An_lookAtJump_95 (lv_at hl 1 rfl) ?_
              refine lv_iload_n hx hb d_An_lookAtJump_97 rfl (lv_at hl 6 rfl) ?_
              refine k_Vi (As := [.int (nI T), .int (nI x)]) (rest := []) ⟨hx, hb, hml, hown, hts⟩ (c_A_reach l E an ah al aw u1 (a_rch hs (i + 1) x) hH1 T x (by omega) hx0) (k_cwV 2 hts t_723 t_725 t_25 t_69 t_726 (by decide +kernel) ⟨Nat.le_of_ble_eq_true rfl, Nat.le_of_ble_eq_true rfl⟩) hK hG hA hP hD hS [0, 1] rfl (by decide) 0 rfl rfl (fun _ => rfl) rfl hl.1 rfl (Nat.le_of_ble_eq_true rfl) d_An_lookAtJump_98 ⟨Nat.zero_le _, Nat.zero_le _⟩ (fun r u2 H locs hu2 hP hD hS => ?_)
              have hP : va_P E.1 vwCl [(an, .inr (6, [.ref ah, .ref al, .ref aw])), (ah, .inl (E.2.1 0, 129, .inl u2)), (aw, .inl (E.2.1 0, 8, .inl u0)), (q, .inr (0, [.ref qb, .ref qg, .ref qf, .int (nI len), .int lat, .int nxt])), (qb, .inl (E.2.1 0, 96, .inl fb)), (qg, .inl (E.2.1 1, 96, .inl fg)), (qf, .inl (E.2.1 0, 96, .inl ff))] H := hP
              have hD : va_D A [(an, .inr (6, [.ref ah, .ref al, .ref aw])), (ah, .inl (E.2.1 0, 129, .inl u2)), (aw, .inl (E.2.1 0, 8, .inl u0)), (q, .inr (0, [.ref qb, .ref qg, .ref qf, .int (nI len), .int lat, .int nxt])), (qb, .inl (E.2.1 0, 96, .inl fb)), (qg, .inl (E.2.1 1, 96, .inl fg)), (qf, .inl (E.2.1 0, 96, .inl ff))] := hD
              obtain ⟨e2, q2⟩ := hu2
              subst e2
              have hH2 := okA_rch hH1 hx0 q2
              refine lv_if_eq (tgt := 108) hx hb d_An_lookAtJump_101 (by decide) (fun h101 => ?_) (fun h101 => ?_)
              · refine lv_iconst (v := nI 5) hx hb d_An_lookAtJump_108 (by decide) ?_
                exact hret _ ls _ _ _ (u2, u0) d_An_lookAtJump_109 (aj_post (aj_t hq0 h22 hTd (kb_n0 h52) h64 (of_decide_eq_true (kb_n0 h89))) (ar_5 h101) hH2) hP hS
              · refine lv_iconst (v := nI 0) hx hb d_An_lookAtJump_104 (by decide) ?_
                refine lv_goto (tgt := 109) hx hb d_An_lookAtJump_105 (by decide) ?_
                exact hret _ ls _ _ _ (u2, u0) d_An_lookAtJump_109 (aj_post (aj_t hq0 h22 hTd (kb_n0 h52) h64 (of_decide_eq_true (kb_n0 h89))) (ar_0 h101) hH2) hP hS
            · refine lv_iconst (v := nI 5) hx hb d_An_lookAtJump_92 (by decide) ?_
              exact hret _ ls _ _ _ (u1, u0) d_An_lookAtJump_93 (aj_post (aj_f hq0 h22 hTd (kb_n0 h52) h64 (of_decide_eq_false (kb_0.mp h89))) rfl hH1) hP hS
      · refine lv_iconst (v := nI 4) hx hb d_An_lookAtJump_55 (by decide) ?_
        exact hret _ ls _ _ _ (fh, u0) d_An_lookAtJump_56 (aj_post (aj_4 hq0 h22 hTd (kb_0.mp h52)) rfl hH) hP hS
    · refine lv_iconst (v := nI 3) hx hb d_An_lookAtJump_25 (by decide) ?_
      first | exact hret _ ls _ _ _ (fh, fn) d_An_lookAtJump_26 (aj_post (aj_3 (Or.inl ((m1_eq (by omega)).mp h10))) rfl hH) hP hS | exact hret _ ls _ _ _ (fh, fn) d_An_lookAtJump_26 (aj_post (aj_3 (Or.inr h22)) rfl hH) hP hS

abbrev y_An_lookAt : MethodName := ⟨"WideStack$Analyser", "lookAt", "(LWideStack$Program;I)I"⟩
theorem d_An_lookAt_0 : decode prog_2_method_6_code 0 = .ok (.aload_n 1, 1) := by decide +kernel
theorem d_An_lookAt_1 : decode prog_2_method_6_code 1 = .ok (.iload_n 2, 1) := by decide +kernel
theorem d_An_lookAt_2 : decode prog_2_method_6_code 2 = .ok (.invokevirtual 41, 3) := by decide +kernel
theorem d_An_lookAt_5 : decode prog_2_method_6_code 5 = .ok (.istore_n 3, 1) := by decide +kernel
theorem d_An_lookAt_6 : decode prog_2_method_6_code 6 = .ok (.iload_n 3, 1) := by decide +kernel
theorem d_An_lookAt_7 : decode prog_2_method_6_code 7 = .ok (.invokestatic 45, 3) := by decide +kernel
theorem d_An_lookAt_10 : decode prog_2_method_6_code 10 = .ok (.ifCond .ne 5, 3) := by decide +kernel
theorem d_An_lookAt_13 : decode prog_2_method_6_code 13 = .ok (.iconst 1, 1) := by decide +kernel
theorem d_An_lookAt_14 : decode prog_2_method_6_code 14 = .ok (.ireturn, 1) := by decide +kernel
theorem d_An_lookAt_15 : decode prog_2_method_6_code 15 = .ok (.aload_n 0, 1) := by decide +kernel
theorem d_An_lookAt_16 : decode prog_2_method_6_code 16 = .ok (.getfield 13, 3) := by decide +kernel
theorem d_An_lookAt_19 : decode prog_2_method_6_code 19 = .ok (.iload_n 2, 1) := by decide +kernel
theorem d_An_lookAt_20 : decode prog_2_method_6_code 20 = .ok (.iaload, 1) := by decide +kernel
theorem d_An_lookAt_21 : decode prog_2_method_6_code 21 = .ok (.iload_n 3, 1) := by decide +kernel
theorem d_An_lookAt_22 : decode prog_2_method_6_code 22 = .ok (.invokestatic 51, 3) := by decide +kernel
theorem d_An_lookAt_25 : decode prog_2_method_6_code 25 = .ok (.isub, 1) := by decide +kernel
theorem d_An_lookAt_26 : decode prog_2_method_6_code 26 = .ok (.istore 4, 2) := by decide +kernel
theorem d_An_lookAt_28 : decode prog_2_method_6_code 28 = .ok (.iload 4, 2) := by decide +kernel
theorem d_An_lookAt_30 : decode prog_2_method_6_code 30 = .ok (.iload_n 3, 1) := by decide +kernel
theorem d_An_lookAt_31 : decode prog_2_method_6_code 31 = .ok (.invokestatic 54, 3) := by decide +kernel
theorem d_An_lookAt_34 : decode prog_2_method_6_code 34 = .ok (.iadd, 1) := by decide +kernel
theorem d_An_lookAt_35 : decode prog_2_method_6_code 35 = .ok (.istore 5, 2) := by decide +kernel
theorem d_An_lookAt_37 : decode prog_2_method_6_code 37 = .ok (.iload 4, 2) := by decide +kernel
theorem d_An_lookAt_39 : decode prog_2_method_6_code 39 = .ok (.ifCond .lt 10, 3) := by decide +kernel
theorem d_An_lookAt_42 : decode prog_2_method_6_code 42 = .ok (.iload 5, 2) := by decide +kernel
theorem d_An_lookAt_44 : decode prog_2_method_6_code 44 = .ok (.bipush 16, 2) := by decide +kernel
theorem d_An_lookAt_46 : decode prog_2_method_6_code 46 = .ok (.if_icmp .le 5, 3) := by decide +kernel
theorem d_An_lookAt_49 : decode prog_2_method_6_code 49 = .ok (.iconst 2, 1) := by decide +kernel
theorem d_An_lookAt_50 : decode prog_2_method_6_code 50 = .ok (.ireturn, 1) := by decide +kernel
theorem d_An_lookAt_51 : decode prog_2_method_6_code 51 = .ok (.iload_n 3, 1) := by decide +kernel
theorem d_An_lookAt_52 : decode prog_2_method_6_code 52 = .ok (.invokestatic 59, 3) := by decide +kernel
theorem d_An_lookAt_55 : decode prog_2_method_6_code 55 = .ok (.ifCond .eq 12, 3) := by decide +kernel
theorem d_An_lookAt_58 : decode prog_2_method_6_code 58 = .ok (.aload_n 0, 1) := by decide +kernel
theorem d_An_lookAt_59 : decode prog_2_method_6_code 59 = .ok (.aload_n 1, 1) := by decide +kernel
theorem d_An_lookAt_60 : decode prog_2_method_6_code 60 = .ok (.iload_n 2, 1) := by decide +kernel
theorem d_An_lookAt_61 : decode prog_2_method_6_code 61 = .ok (.iload 5, 2) := by decide +kernel
theorem d_An_lookAt_63 : decode prog_2_method_6_code 63 = .ok (.invokevirtual 62, 3) := by decide +kernel
theorem d_An_lookAt_66 : decode prog_2_method_6_code 66 = .ok (.ireturn, 1) := by decide +kernel
theorem d_An_lookAt_67 : decode prog_2_method_6_code 67 = .ok (.iload_n 3, 1) := by decide +kernel
theorem d_An_lookAt_68 : decode prog_2_method_6_code 68 = .ok (.invokestatic 66, 3) := by decide +kernel
theorem d_An_lookAt_71 : decode prog_2_method_6_code 71 = .ok (.ifCond .eq 5, 3) := by decide +kernel
theorem d_An_lookAt_74 : decode prog_2_method_6_code 74 = .ok (.iconst 0, 1) := by decide +kernel
theorem d_An_lookAt_75 : decode prog_2_method_6_code 75 = .ok (.ireturn, 1) := by decide +kernel
theorem d_An_lookAt_76 : decode prog_2_method_6_code 76 = .ok (.aload_n 0, 1) := by decide +kernel
theorem d_An_lookAt_77 : decode prog_2_method_6_code 77 = .ok (.aload_n 1, 1) := by decide +kernel
theorem d_An_lookAt_78 : decode prog_2_method_6_code 78 = .ok (.iload_n 2, 1) := by decide +kernel
theorem d_An_lookAt_79 : decode prog_2_method_6_code 79 = .ok (.invokevirtual 69, 3) := by decide +kernel
theorem d_An_lookAt_82 : decode prog_2_method_6_code 82 = .ok (.iload 5, 2) := by decide +kernel
theorem d_An_lookAt_84 : decode prog_2_method_6_code 84 = .ok (.invokevirtual 72, 3) := by decide +kernel
theorem d_An_lookAt_87 : decode prog_2_method_6_code 87 = .ok (.ifCond .eq 7, 3) := by decide +kernel
theorem d_An_lookAt_90 : decode prog_2_method_6_code 90 = .ok (.iconst 0, 1) := by decide +kernel
theorem d_An_lookAt_91 : decode prog_2_method_6_code 91 = .ok (.goto 4, 3) := by decide +kernel
theorem d_An_lookAt_94 : decode prog_2_method_6_code 94 = .ok (.iconst 5, 1) := by decide +kernel
theorem d_An_lookAt_95 : decode prog_2_method_6_code 95 = .ok (.ireturn, 1) := by decide +kernel
def rm_c_A_lookAt : Room := { frames := 4, cells := 0, slots := 0, locals := 93 }
set_option maxHeartbeats 4000000 in
set_option maxRecDepth 100000 in
theorem c_A_lookAt (l : Launch) (E : kE) (an ah al aw : Nat) (fh fn : Nat → Int32) (hs : Nat → Nat) (hH : okA hs fh) (q qb qg qf len : Nat) (lat nxt : Int32) (fb fg ff : Nat → Int32) (bb : Nat → Nat) (ok : okP len bb fb fg ff lat nxt) (i : Nat) (hi : i < 129) (hr0 : hs i ≠ 0) : Ki l y_An_lookAt (kW y_An_lookAt prog_2_method_6_code 6 (some .int)) rm_c_A_lookAt E [.ref an, .ref q, .int (nI i)] [(an, .inr (6, [.ref ah, .ref al, .ref aw])), (ah, .inl (E.2.1 0, 129, .inl fh)), (aw, .inl (E.2.1 0, 8, .inl fn)), (q, .inr (0, [.ref qb, .ref qg, .ref qf, .int (nI len), .int lat, .int nxt])), (qb, .inl (E.2.1 0, 96, .inl fb)), (qg, .inl (E.2.1 1, 96, .inl fg)), (qf, .inl (E.2.1 0, 96, .inl ff))] (S := (Nat → Int32) × (Nat → Int32)) (fun r u => r = nI (a_look len bb hs i).1 ∧ okA (a_look len bb hs i).2 u.1) (fun u => [(an, .inr (6, [.ref ah, .ref al, .ref aw])), (ah, .inl (E.2.1 0, 129, .inl u.1)), (aw, .inl (E.2.1 0, 8, .inl u.2)), (q, .inr (0, [.ref qb, .ref qg, .ref qf, .int (nI len), .int lat, .int nxt])), (qb, .inl (E.2.1 0, 96, .inl fb)), (qg, .inl (E.2.1 1, 96, .inl fg)), (qf, .inl (E.2.1 0, 96, .inl ff))]) := by
  refine Ki.ofI (cc := prog_2_method_6_code) (maxL := 6) (by decide) (Nat.le_of_ble_eq_true rfl) ?_
  intro p e s m args below meth c A ls Q hx hb hts hown hml hK hG hA hP hD hS hl hret
  have hl : lv_has ls 6 [(0, .ref an), (1, .ref q), (2, .int (nI i))] := hl
  have hlen := ok.1
  have ho : bb i < 256 := ok.2.2.1 i
  have h17 := hH.2 i
  have htk := m_takes_le (bb i) ho
  have hgv := m_gives_le (bb i) ho
  have hnl := m_numl_le (bb i)
  have hin : bb i ≠ 0 → i < len := fun q => Nat.lt_of_not_le (fun w => q (ok.2.1 i w))
  refine lv_aload_n hx hb d_An_lookAt_0 rfl (lv_at hl 1 rfl) ?_
  refine lv_iload_n hx hb d_An_lookAt_1 rfl (lv_at hl 2 rfl) ?_
  refine k_Vp (As := [.int (nI i)]) (rest := []) ⟨hx, hb, hml, hown, hts⟩ (c_P_byteAt l E q qb qg qf len lat nxt fb fg ff bb ok i (by omega)) (k_cwV 1 hts t_703 t_332 t_333 t_63 t_334 (by decide +kernel) ⟨Nat.le_of_ble_eq_true rfl, Nat.le_of_ble_eq_true rfl⟩) hK hG hA hP hD hS [3, 4, 5, 6] rfl (by decide) 3 rfl rfl rfl hl.1 rfl (Nat.le_of_ble_eq_true rfl) d_An_lookAt_2 ⟨Nat.zero_le _, Nat.zero_le _⟩ (fun r2 hu2 => ?_)
  subst hu2
  refine lv_istore_n (lv' := [(3, .int (nI (bb i))), (0, .ref an), (1, .ref q), (2, .int (nI i))]) hx hb d_An_lookAt_5 rfl hl (by decide) rfl (fun ls hl => ?_)
  refine lv_iload_n hx hb d_An_lookAt_6 rfl (lv_at hl 0 rfl) ?_
  refine k_Sp (As := [.int (nI (bb i))]) (rest := []) ⟨hx, hb, hml, hown, hts⟩ (c_I_isDefined l E (bb i) ho) (k_cwS 1 hts t_704 t_356 t_72 t_357 (by decide +kernel) ⟨Nat.le_of_ble_eq_true rfl, Nat.le_of_ble_eq_true rfl⟩) hK hG hA hP hD hS [] rfl (by decide) rfl hl.1 rfl (Nat.le_of_ble_eq_true rfl) d_An_lookAt_7 ⟨Nat.zero_le _, Nat.zero_le _⟩ (fun r7 hu7 => ?_)
  subst hu7
  refine lv_if_ne (tgt := 15) hx hb d_An_lookAt_10 (by decide) (fun h10 => ?_) (fun h10 => ?_)
  · refine lv_aload_n hx hb d_An_lookAt_15 rfl (lv_at hl 1 rfl) ?_
    refine va_get (D := E.1) (ci := 6) (v := .ref ah) (C := "WideStack$Analyser") (T := T_An) (N := 3) hx hb hts in_An hown hK hP 0 rfl rfl 0 (by decide) (hts _ t_235) (fun _ h9 => h9) rfl d_An_lookAt_16 ?_
    refine lv_iload_n hx hb d_An_lookAt_19 rfl (lv_at hl 3 rfl) ?_
    refine k_iald hx hb hK hP 1 rfl (i := i) (by omega) (by omega) d_An_lookAt_20 ?_
    refine k_top ((hH.1 i hi).trans (m1_pos hr0)) ?_
    refine lv_iload_n hx hb d_An_lookAt_21 rfl (lv_at hl 0 rfl) ?_
    refine k_Sp (As := [.int (nI (bb i))]) (rest := [.int (nI (hs i - 1))]) ⟨hx, hb, hml, hown, hts⟩ (c_I_wordsNeeded l E (bb i) ho) (k_cwS 1 hts t_705 t_359 t_72 t_360 (by decide +kernel) ⟨Nat.le_of_ble_eq_true rfl, Nat.le_of_ble_eq_true rfl⟩) hK hG hA hP hD hS [] rfl (by decide) rfl hl.1 rfl (Nat.le_of_ble_eq_true rfl) d_An_lookAt_22 ⟨Nat.zero_le _, Nat.zero_le _⟩ (fun r22 hu22 => ?_)
    have hu22 := hu22.trans (m_need_k (kb_n0 h10))
    subst hu22
    by_cases hd : hs i - 1 < m_takes (bb i)
    · skip
      refine lv_isub hx hb d_An_lookAt_25 ?_
      refine lv_istore (lv' := [(4, .int ((nI (hs i - 1)) - (nI (m_takes (bb i))))), (3, .int (nI (bb i))), (0, .ref an), (1, .ref q), (2, .int (nI i))]) hx hb d_An_lookAt_26 hl (by decide) rfl (fun ls hl => ?_)
      refine lv_iload hx hb d_An_lookAt_28 (lv_at hl 0 rfl) ?_
      refine lv_iload_n hx hb d_An_lookAt_30 rfl (lv_at hl 1 rfl) ?_
      refine k_Sp (As := [.int (nI (bb i))]) (rest := [.int ((nI (hs i - 1)) - (nI (m_takes (bb i))))]) ⟨hx, hb, hml, hown, hts⟩ (c_I_wordsLeft l E (bb i) ho (kb_n0 h10)) (k_cwS 1 hts t_706 t_371 t_72 t_372 (by decide +kernel) ⟨Nat.le_of_ble_eq_true rfl, Nat.le_of_ble_eq_true rfl⟩) hK hG hA hP hD hS [] rfl (by decide) rfl hl.1 rfl (Nat.le_of_ble_eq_true rfl) d_An_lookAt_31 ⟨Nat.zero_le _, Nat.zero_le _⟩ (fun r31 hu31 => ?_)
      subst hu31
      refine lv_iadd hx hb d_An_lookAt_34 ?_
      refine lv_istore (lv' := [(5, .int (((nI (hs i - 1)) - (nI (m_takes (bb i)))) + (nI (m_gives (bb i))))), (4, .int ((nI (hs i - 1)) - (nI (m_takes (bb i))))), (3, .int (nI (bb i))), (0, .ref an), (1, .ref q), (2, .int (nI i))]) hx hb d_An_lookAt_35 hl (by decide) rfl (fun ls hl => ?_)
      refine lv_iload hx hb d_An_lookAt_37 (lv_at hl 1 rfl) ?_
      refine lv_if_lt (tgt := 49) hx hb d_An_lookAt_39 (by decide) (fun h39 => ?_) (fun h39 => ?_)
      · refine lv_iconst (v := nI 2) hx hb d_An_lookAt_49 (by decide) ?_
        exact hret _ ls _ _ _ (fh, fn) d_An_lookAt_50 (aj_post (al_2 (kb_n0 h10) (by omega)) rfl hH) hP hS
      · exact absurd (pk_sneg (by omega) hd) h39
    · skip
      refine lv_isub hx hb d_An_lookAt_25 ?_
      refine k_top (pk_sub (by omega)) ?_
      refine lv_istore (lv' := [(4, .int (nI ((hs i - 1) - (m_takes (bb i))))), (3, .int (nI (bb i))), (0, .ref an), (1, .ref q), (2, .int (nI i))]) hx hb d_An_lookAt_26 hl (by decide) rfl (fun ls hl => ?_)
      refine lv_iload hx hb d_An_lookAt_28 (lv_at hl 0 rfl) ?_
      refine lv_iload_n hx hb d_An_lookAt_30 rfl (lv_at hl 1 rfl) ?_
      refine k_Sp (As := [.int (nI (bb i))]) (rest := [.int (nI ((hs i - 1) - (m_takes (bb i))))]) ⟨hx, hb, hml, hown, hts⟩ (c_I_wordsLeft l E (bb i) ho (kb_n0 h10)) (k_cwS 1 hts t_706 t_371 t_72 t_372 (by decide +kernel) ⟨Nat.le_of_ble_eq_true rfl, Nat.le_of_ble_eq_true rfl⟩) hK hG hA hP hD hS [] rfl (by decide) rfl hl.1 rfl (Nat.le_of_ble_eq_true rfl) d_An_lookAt_31 ⟨Nat.zero_le _, Nat.zero_le _⟩ (fun r31 hu31 => ?_)
      subst hu31
      refine lv_iadd hx hb d_An_lookAt_34 ?_
      refine k_top (nI_add _ _) ?_
      refine lv_istore (lv' := [(5, .int (nI (((hs i - 1) - (m_takes (bb i))) + (m_gives (bb i))))), (4, .int (nI ((hs i - 1) - (m_takes (bb i))))), (3, .int (nI (bb i))), (0, .ref an), (1, .ref q), (2, .int (nI i))]) hx hb d_An_lookAt_35 hl (by decide) rfl (fun ls hl => ?_)
      refine lv_iload hx hb d_An_lookAt_37 (lv_at hl 1 rfl) ?_
      refine kn_iflt (tgt := 49) hx hb (by omega) d_An_lookAt_39 (by decide) ?_
      refine lv_iload hx hb d_An_lookAt_42 (lv_at hl 0 rfl) ?_
      refine lv_bipush (v := nI 16) hx hb d_An_lookAt_44 (by decide) ?_
      refine kn_le (tgt := 51) hx hb (by omega) (by omega) d_An_lookAt_46 (by decide) (fun h46 => ?_) (fun h46 => ?_)
      · refine lv_iload_n hx hb d_An_lookAt_51 rfl (lv_at hl 2 rfl) ?_
        refine k_Sp (As := [.int (nI (bb i))]) (rest := []) ⟨hx, hb, hml, hown, hts⟩ (c_I_isJump l E (bb i) ho) (k_cwS 1 hts t_707 t_708 t_72 t_709 (by decide +kernel) ⟨Nat.le_of_ble_eq_true rfl, Nat.le_of_ble_eq_true rfl⟩) hK hG hA hP hD hS [] rfl (by decide) rfl hl.1 rfl (Nat.le_of_ble_eq_true rfl) d_An_lookAt_52 ⟨Nat.zero_le _, Nat.zero_le _⟩ (fun r52 hu52 => ?_)
        subst hu52
        refine lv_if_eq (tgt := 67) hx hb d_An_lookAt_55 (by decide) (fun h55 => ?_) (fun h55 => ?_)
        · have hj := of_decide_eq_false (kb_0.mp h55)
          refine lv_iload_n hx hb d_An_lookAt_67 rfl (lv_at hl 2 rfl) ?_
          refine k_Sp (As := [.int (nI (bb i))]) (rest := []) ⟨hx, hb, hml, hown, hts⟩ (c_I_isLast l E (bb i) ho) (k_cwS 1 hts t_727 t_426 t_72 t_427 (by decide +kernel) ⟨Nat.le_of_ble_eq_true rfl, Nat.le_of_ble_eq_true rfl⟩) hK hG hA hP hD hS [] rfl (by decide) rfl hl.1 rfl (Nat.le_of_ble_eq_true rfl) d_An_lookAt_68 ⟨Nat.zero_le _, Nat.zero_le _⟩ (fun r68 hu68 => ?_)
          subst hu68
          refine lv_if_eq (tgt := 76) hx hb d_An_lookAt_71 (by decide) (fun h71 => ?_) (fun h71 => ?_)
          · have hz := of_decide_eq_false (kb_0.mp h71)
            refine lv_aload_n hx hb d_An_lookAt_76 rfl (lv_at hl 3 rfl) ?_
            refine lv_aload_n hx hb d_An_lookAt_77 rfl (lv_at hl 4 rfl) ?_
            refine lv_iload_n hx hb d_An_lookAt_78 rfl (lv_at hl 5 rfl) ?_
            refine k_Vp (As := [.int (nI i)]) (rest := [.ref an]) ⟨hx, hb, hml, hown, hts⟩ (c_P_placeBehind l E q qb qg qf len lat nxt fb fg ff bb ok i (by omega)) (k_cwV 1 hts t_722 t_442 t_443 t_63 t_444 (by decide +kernel) ⟨Nat.le_of_ble_eq_true rfl, Nat.le_of_ble_eq_true rfl⟩) hK hG hA hP hD hS [3, 4, 5, 6] rfl (by decide) 3 rfl rfl rfl hl.1 rfl (Nat.le_of_ble_eq_true rfl) d_An_lookAt_79 ⟨Nat.zero_le _, Nat.zero_le _⟩ (fun r79 hu79 => ?_)
            subst hu79
            refine lv_iload hx hb d_An_lookAt_82 (lv_at hl 0 rfl) ?_
            have hil := hin (by omega)
            refine k_Vi (As := [.int (nI (i + 1 + m_numl (bb i))), .int (nI (((hs i - 1) - (m_takes (bb i))) + (m_gives (bb i))))]) (rest := []) ⟨hx, hb, hml, hown, hts⟩ (c_A_reach l E an ah al aw fh hs hH (i + 1 + m_numl (bb i)) (hs i - 1 - m_takes (bb i) + m_gives (bb i)) (by omega) (by omega)) (k_cwV 2 hts t_723 t_725 t_25 t_69 t_726 (by decide +kernel) ⟨Nat.le_of_ble_eq_true rfl, Nat.le_of_ble_eq_true rfl⟩) hK hG hA hP hD hS [0, 1] rfl (by decide) 0 rfl rfl (fun _ => rfl) rfl hl.1 rfl (Nat.le_of_ble_eq_true rfl) d_An_lookAt_84 ⟨Nat.zero_le _, Nat.zero_le _⟩ (fun r u1 H locs hu1 hP hD hS => ?_)
            have hP : va_P E.1 vwCl [(an, .inr (6, [.ref ah, .ref al, .ref aw])), (ah, .inl (E.2.1 0, 129, .inl u1)), (aw, .inl (E.2.1 0, 8, .inl fn)), (q, .inr (0, [.ref qb, .ref qg, .ref qf, .int (nI len), .int lat, .int nxt])), (qb, .inl (E.2.1 0, 96, .inl fb)), (qg, .inl (E.2.1 1, 96, .inl fg)), (qf, .inl (E.2.1 0, 96, .inl ff))] H := hP
            have hD : va_D A [(an, .inr (6, [.ref ah, .ref al, .ref aw])), (ah, .inl (E.2.1 0, 129, .inl u1)), (aw, .inl (E.2.1 0, 8, .inl fn)), (q, .inr (0, [.ref qb, .ref qg, .ref qf, .int (nI len), .int lat, .int nxt])), (qb, .inl (E.2.1 0, 96, .inl fb)), (qg, .inl (E.2.1 1, 96, .inl fg)), (qf, .inl (E.2.1 0, 96, .inl ff))] := hD
            obtain ⟨e1, q1⟩ := hu1
            subst e1
            have hH1 := okA_rch hH (by omega) q1
            refine lv_if_eq (tgt := 94) hx hb d_An_lookAt_87 (by decide) (fun h87 => ?_) (fun h87 => ?_)
            · refine lv_iconst (v := nI 5) hx hb d_An_lookAt_94 (by decide) ?_
              exact hret _ ls _ _ _ (u1, fn) d_An_lookAt_95 (aj_post (al_r (kb_n0 h10) (by omega) hj hz rfl rfl) (ar_5 h87) hH1) hP hS
            · refine lv_iconst (v := nI 0) hx hb d_An_lookAt_90 (by decide) ?_
              refine lv_goto (tgt := 95) hx hb d_An_lookAt_91 (by decide) ?_
              exact hret _ ls _ _ _ (u1, fn) d_An_lookAt_95 (aj_post (al_r (kb_n0 h10) (by omega) hj hz rfl rfl) (ar_0 h87) hH1) hP hS
          · have hz := of_decide_eq_true (kb_n0 h71)
            refine lv_iconst (v := nI 0) hx hb d_An_lookAt_74 (by decide) ?_
            exact hret _ ls _ _ _ (fh, fn) d_An_lookAt_75 (aj_post (al_0 (kb_n0 h10) (by omega) hj hz) rfl hH) hP hS
        · have hj := of_decide_eq_true (kb_n0 h55)
          refine lv_aload_n hx hb d_An_lookAt_58 rfl (lv_at hl 3 rfl) ?_
          refine lv_aload_n hx hb d_An_lookAt_59 rfl (lv_at hl 4 rfl) ?_
          refine lv_iload_n hx hb d_An_lookAt_60 rfl (lv_at hl 5 rfl) ?_
          refine lv_iload hx hb d_An_lookAt_61 (lv_at hl 0 rfl) ?_
          refine k_Vi (As := [.ref q, .int (nI i), .int (nI (((hs i - 1) - (m_takes (bb i))) + (m_gives (bb i))))]) (rest := []) ⟨hx, hb, hml, hown, hts⟩ (c_A_lookAtJump l E an ah al aw fh fn hs hH q qb qg qf len lat nxt fb fg ff bb ok i (hs i - 1 - m_takes (bb i) + m_gives (bb i)) (hin (by omega)) hj (by omega)) (k_cwV 3 hts t_710 t_712 t_24 t_69 t_713 (by decide +kernel) ⟨Nat.le_of_ble_eq_true rfl, Nat.le_of_ble_eq_true rfl⟩) hK hG hA hP hD hS [0, 1, 2, 3, 4, 5, 6] rfl (by decide) 0 rfl rfl (fun _ => rfl) rfl hl.1 rfl (Nat.le_of_ble_eq_true rfl) d_An_lookAt_63 ⟨Nat.zero_le _, Nat.zero_le _⟩ (fun r u H locs hu hP hD hS => ?_)
          have hP : va_P E.1 vwCl [(an, .inr (6, [.ref ah, .ref al, .ref aw])), (ah, .inl (E.2.1 0, 129, .inl u.1)), (aw, .inl (E.2.1 0, 8, .inl u.2)), (q, .inr (0, [.ref qb, .ref qg, .ref qf, .int (nI len), .int lat, .int nxt])), (qb, .inl (E.2.1 0, 96, .inl fb)), (qg, .inl (E.2.1 1, 96, .inl fg)), (qf, .inl (E.2.1 0, 96, .inl ff))] H := hP
          have hD : va_D A [(an, .inr (6, [.ref ah, .ref al, .ref aw])), (ah, .inl (E.2.1 0, 129, .inl u.1)), (aw, .inl (E.2.1 0, 8, .inl u.2)), (q, .inr (0, [.ref qb, .ref qg, .ref qf, .int (nI len), .int lat, .int nxt])), (qb, .inl (E.2.1 0, 96, .inl fb)), (qg, .inl (E.2.1 1, 96, .inl fg)), (qf, .inl (E.2.1 0, 96, .inl ff))] := hD
          exact hret _ ls _ _ _ u d_An_lookAt_66 (by rw [al_j (kb_n0 h10) (by omega) hj]; exact hu) hP hS
      · refine lv_iconst (v := nI 2) hx hb d_An_lookAt_49 (by decide) ?_
        exact hret _ ls _ _ _ (fh, fn) d_An_lookAt_50 (aj_post (al_2 (kb_n0 h10) (by omega)) rfl hH) hP hS
  · refine lv_iconst (v := nI 1) hx hb d_An_lookAt_13 (by decide) ?_
    exact hret _ ls _ _ _ (fh, fn) d_An_lookAt_14 (aj_post (al_1 (kb_0.mp h10)) rfl hH) hP hS

theorem jd_on {len : Nat} {b hs : Nat → Nat} {lk : Nat → Bool} {n : Nat} (hn : 0 < n) (hz : a_least hs lk ≠ 129) (h : (a_look len b hs (a_least hs lk)).1 = 0) : a_go len b (n - 1) (a_look len b hs (a_least hs lk)).2 (va_up lk (a_least hs lk) true) = a_go len b n hs lk := by
  cases n with
  | zero => omega
  | succ n => exact (a_go_on hz h).symm
theorem jd_end {len : Nat} {b hs : Nat → Nat} {lk : Nat → Bool} {n : Nat} {J : Nat × (Nat → Nat)} {u : Nat → Int32} (hn : 0 < n) (hz : a_least hs lk ≠ 129) (h : (a_look len b hs (a_least hs lk)).1 ≠ 0) (hJ : a_go len b n hs lk = J) (hk : okA (a_look len b hs (a_least hs lk)).2 u) : nI (8 * a_least hs lk + (a_look len b hs (a_least hs lk)).1) = nI J.1 ∧ okA J.2 u := by
  cases n with
  | zero => omega
  | succ n => rw [a_go_end hz h] at hJ; subst hJ; exact ⟨rfl, hk⟩
theorem jd_no {len : Nat} {b hs : Nat → Nat} {lk : Nat → Bool} {n : Nat} {J : Nat × (Nat → Nat)} {u : Nat → Int32} (hz : n = 0 ∨ a_least hs lk = 129) (hJ : a_go len b n hs lk = J) (hk : okA hs u) : nI 0 = nI J.1 ∧ okA J.2 u := by
  rcases hz with rfl | hz
  · subst hJ; exact ⟨rfl, hk⟩
  · rw [a_go_no hz] at hJ; subst hJ; exact ⟨rfl, hk⟩

abbrev y_An_judge : MethodName := ⟨"WideStack$Analyser", "judge", "(LWideStack$Program;)I"⟩
theorem d_An_judge_0 : decode prog_2_method_4_code 0 = .ok (.aload_n 0, 1) := by decide +kernel
theorem d_An_judge_1 : decode prog_2_method_4_code 1 = .ok (.invokevirtual 30, 3) := by decide +kernel
theorem d_An_judge_4 : decode prog_2_method_4_code 4 = .ok (.aload_n 0, 1) := by decide +kernel
theorem d_An_judge_5 : decode prog_2_method_4_code 5 = .ok (.getfield 13, 3) := by decide +kernel
theorem d_An_judge_8 : decode prog_2_method_4_code 8 = .ok (.iconst 0, 1) := by decide +kernel
theorem d_An_judge_9 : decode prog_2_method_4_code 9 = .ok (.iconst 0, 1) := by decide +kernel
theorem d_An_judge_10 : decode prog_2_method_4_code 10 = .ok (.iastore, 1) := by decide +kernel
theorem d_An_judge_11 : decode prog_2_method_4_code 11 = .ok (.iconst 0, 1) := by decide +kernel
theorem d_An_judge_12 : decode prog_2_method_4_code 12 = .ok (.istore_n 2, 1) := by decide +kernel
theorem d_An_judge_13 : decode prog_2_method_4_code 13 = .ok (.iload_n 2, 1) := by decide +kernel
theorem d_An_judge_14 : decode prog_2_method_4_code 14 = .ok (.sipush 129, 3) := by decide +kernel
theorem d_An_judge_17 : decode prog_2_method_4_code 17 = .ok (.if_icmp .ge 49, 3) := by decide +kernel
theorem d_An_judge_20 : decode prog_2_method_4_code 20 = .ok (.aload_n 0, 1) := by decide +kernel
theorem d_An_judge_21 : decode prog_2_method_4_code 21 = .ok (.invokevirtual 33, 3) := by decide +kernel
theorem d_An_judge_24 : decode prog_2_method_4_code 24 = .ok (.istore_n 3, 1) := by decide +kernel
theorem d_An_judge_25 : decode prog_2_method_4_code 25 = .ok (.iload_n 3, 1) := by decide +kernel
theorem d_An_judge_26 : decode prog_2_method_4_code 26 = .ok (.iconst (-1), 1) := by decide +kernel
theorem d_An_judge_27 : decode prog_2_method_4_code 27 = .ok (.if_icmp .ne 5, 3) := by decide +kernel
theorem d_An_judge_30 : decode prog_2_method_4_code 30 = .ok (.iconst 0, 1) := by decide +kernel
theorem d_An_judge_31 : decode prog_2_method_4_code 31 = .ok (.ireturn, 1) := by decide +kernel
theorem d_An_judge_32 : decode prog_2_method_4_code 32 = .ok (.aload_n 0, 1) := by decide +kernel
theorem d_An_judge_33 : decode prog_2_method_4_code 33 = .ok (.getfield 17, 3) := by decide +kernel
theorem d_An_judge_36 : decode prog_2_method_4_code 36 = .ok (.iload_n 3, 1) := by decide +kernel
theorem d_An_judge_37 : decode prog_2_method_4_code 37 = .ok (.iconst 1, 1) := by decide +kernel
theorem d_An_judge_38 : decode prog_2_method_4_code 38 = .ok (.bastore, 1) := by decide +kernel
theorem d_An_judge_39 : decode prog_2_method_4_code 39 = .ok (.aload_n 0, 1) := by decide +kernel
theorem d_An_judge_40 : decode prog_2_method_4_code 40 = .ok (.aload_n 1, 1) := by decide +kernel
theorem d_An_judge_41 : decode prog_2_method_4_code 41 = .ok (.iload_n 3, 1) := by decide +kernel
theorem d_An_judge_42 : decode prog_2_method_4_code 42 = .ok (.invokevirtual 37, 3) := by decide +kernel
theorem d_An_judge_45 : decode prog_2_method_4_code 45 = .ok (.istore 4, 2) := by decide +kernel
theorem d_An_judge_47 : decode prog_2_method_4_code 47 = .ok (.iload 4, 2) := by decide +kernel
theorem d_An_judge_49 : decode prog_2_method_4_code 49 = .ok (.ifCond .eq 11, 3) := by decide +kernel
theorem d_An_judge_52 : decode prog_2_method_4_code 52 = .ok (.bipush 8, 2) := by decide +kernel
theorem d_An_judge_54 : decode prog_2_method_4_code 54 = .ok (.iload_n 3, 1) := by decide +kernel
theorem d_An_judge_55 : decode prog_2_method_4_code 55 = .ok (.imul, 1) := by decide +kernel
theorem d_An_judge_56 : decode prog_2_method_4_code 56 = .ok (.iload 4, 2) := by decide +kernel
theorem d_An_judge_58 : decode prog_2_method_4_code 58 = .ok (.iadd, 1) := by decide +kernel
theorem d_An_judge_59 : decode prog_2_method_4_code 59 = .ok (.ireturn, 1) := by decide +kernel
theorem d_An_judge_60 : decode prog_2_method_4_code 60 = .ok (.iinc 2 1, 3) := by decide +kernel
theorem d_An_judge_63 : decode prog_2_method_4_code 63 = .ok (.goto (-50), 3) := by decide +kernel
theorem d_An_judge_66 : decode prog_2_method_4_code 66 = .ok (.iconst 0, 1) := by decide +kernel
theorem d_An_judge_67 : decode prog_2_method_4_code 67 = .ok (.ireturn, 1) := by decide +kernel
def rm_c_A_judge : Room := { frames := 5, cells := 0, slots := 0, locals := 118 }
set_option maxHeartbeats 4000000 in
set_option maxRecDepth 100000 in
theorem c_A_judge (l : Launch) (E : kE) (an ah al aw : Nat) (fh fl fn : Nat → Int32) (q qb qg qf len : Nat) (lat nxt : Int32) (fb fg ff : Nat → Int32) (bb : Nat → Nat) (ok : okP len bb fb fg ff lat nxt) : Ki l y_An_judge (kW y_An_judge prog_2_method_4_code 5 (some .int)) rm_c_A_judge E [.ref an, .ref q] [(an, .inr (6, [.ref ah, .ref al, .ref aw])), (ah, .inl (E.2.1 0, 129, .inl fh)), (al, .inl (E.2.1 1, 129, .inl fl)), (aw, .inl (E.2.1 0, 8, .inl fn)), (q, .inr (0, [.ref qb, .ref qg, .ref qf, .int (nI len), .int lat, .int nxt])), (qb, .inl (E.2.1 0, 96, .inl fb)), (qg, .inl (E.2.1 1, 96, .inl fg)), (qf, .inl (E.2.1 0, 96, .inl ff))] (S := (Nat → Int32) × (Nat → Int32) × (Nat → Int32)) (fun r u => r = nI (a_judge len bb).1 ∧ okA (a_judge len bb).2 u.1) (fun u => [(an, .inr (6, [.ref ah, .ref al, .ref aw])), (ah, .inl (E.2.1 0, 129, .inl u.1)), (al, .inl (E.2.1 1, 129, .inl u.2.1)), (aw, .inl (E.2.1 0, 8, .inl u.2.2)), (q, .inr (0, [.ref qb, .ref qg, .ref qf, .int (nI len), .int lat, .int nxt])), (qb, .inl (E.2.1 0, 96, .inl fb)), (qg, .inl (E.2.1 1, 96, .inl fg)), (qf, .inl (E.2.1 0, 96, .inl ff))]) := by
  refine Ki.ofI (cc := prog_2_method_4_code) (maxL := 5) (by decide) (Nat.le_of_ble_eq_true rfl) ?_
  intro p e s m args below meth c A ls Q hx hb hts hown hml hK hG hA hP hD hS hl hret
  have hl : lv_has ls 5 [(0, .ref an), (1, .ref q)] := hl
  refine lv_aload_n hx hb d_An_judge_0 rfl (lv_at hl 0 rfl) ?_
  refine k_Vv (As := []) (rest := []) ⟨hx, hb, hml, hown, hts⟩ (c_A_forget l E an ah al aw fh fl) (k_cwV 0 hts t_694 t_292 t_293 t_69 t_294 (by decide +kernel) ⟨Nat.le_of_ble_eq_true rfl, Nat.le_of_ble_eq_true rfl⟩) hK hG hA hP hD hS [0, 1, 2] rfl (by decide) 0 rfl rfl (fun _ => rfl) rfl hl.1 rfl (Nat.le_of_ble_eq_true rfl) d_An_judge_1 ⟨Nat.zero_le _, Nat.zero_le _⟩ (fun u0 H locs hu0 hP hD hS => ?_)
  have hP : va_P E.1 vwCl [(an, .inr (6, [.ref ah, .ref al, .ref aw])), (ah, .inl (E.2.1 0, 129, .inl u0.1)), (al, .inl (E.2.1 1, 129, .inl u0.2)), (aw, .inl (E.2.1 0, 8, .inl fn)), (q, .inr (0, [.ref qb, .ref qg, .ref qf, .int (nI len), .int lat, .int nxt])), (qb, .inl (E.2.1 0, 96, .inl fb)), (qg, .inl (E.2.1 1, 96, .inl fg)), (qf, .inl (E.2.1 0, 96, .inl ff))] H := hP
  have hD : va_D A [(an, .inr (6, [.ref ah, .ref al, .ref aw])), (ah, .inl (E.2.1 0, 129, .inl u0.1)), (al, .inl (E.2.1 1, 129, .inl u0.2)), (aw, .inl (E.2.1 0, 8, .inl fn)), (q, .inr (0, [.ref qb, .ref qg, .ref qf, .int (nI len), .int lat, .int nxt])), (qb, .inl (E.2.1 0, 96, .inl fb)), (qg, .inl (E.2.1 1, 96, .inl fg)), (qf, .inl (E.2.1 0, 96, .inl ff))] := hD
  refine lv_aload_n hx hb d_An_judge_4 rfl (lv_at hl 0 rfl) ?_
  refine va_get (D := E.1) (ci := 6) (v := .ref ah) (C := "WideStack$Analyser") (T := T_An) (N := 3) hx hb hts in_An hown hK hP 0 rfl rfl 0 (by decide) (hts _ t_235) (fun _ h9 => h9) rfl d_An_judge_5 ?_
  refine lv_iconst (v := nI 0) hx hb d_An_judge_8 (by decide) ?_
  refine lv_iconst (v := nI 0) hx hb d_An_judge_9 (by decide) ?_
  refine k_iast hx hb hK hP hD hS 1 rfl (i := 0) (by omega) (by omega) d_An_judge_10 (fun H locs hP hD hS => ?_)
  have hP : va_P E.1 vwCl [(an, .inr (6, [.ref ah, .ref al, .ref aw])), (ah, .inl (E.2.1 0, 129, .inl (upd u0.1 0 (nI 0)))), (al, .inl (E.2.1 1, 129, .inl u0.2)), (aw, .inl (E.2.1 0, 8, .inl fn)), (q, .inr (0, [.ref qb, .ref qg, .ref qf, .int (nI len), .int lat, .int nxt])), (qb, .inl (E.2.1 0, 96, .inl fb)), (qg, .inl (E.2.1 1, 96, .inl fg)), (qf, .inl (E.2.1 0, 96, .inl ff))] H := hP
  have hD : va_D A [(an, .inr (6, [.ref ah, .ref al, .ref aw])), (ah, .inl (E.2.1 0, 129, .inl (upd u0.1 0 (nI 0)))), (al, .inl (E.2.1 1, 129, .inl u0.2)), (aw, .inl (E.2.1 0, 8, .inl fn)), (q, .inr (0, [.ref qb, .ref qg, .ref qf, .int (nI len), .int lat, .int nxt])), (qb, .inl (E.2.1 0, 96, .inl fb)), (qg, .inl (E.2.1 1, 96, .inl fg)), (qf, .inl (E.2.1 0, 96, .inl ff))] := hD
  refine lv_iconst (v := nI 0) hx hb d_An_judge_11 (by decide) ?_
  refine lv_istore_n (lv' := [(2, .int (nI 0)), (0, .ref an), (1, .ref q)]) hx hb d_An_judge_12 rfl hl (by decide) rfl (fun ls hl => ?_)
  have key13 : ∀ (n : Nat) (i : Nat) (hs : Nat → Nat) (lk : Nat → Bool) (z : Nat → Int32) (y : Nat → Int32) (x : Nat → Int32) (H : Heap) (locs : List Loc) (ls : Array Slot), i + n = 129 → (okA hs z ∧ okL lk y ∧ okH len bb hs ∧ a_go len bb n hs lk = a_judge len bb) → lv_has ls 5 [(2, .int (nI i)), (0, .ref an), (1, .ref q)] → va_P E.1 vwCl [(an, .inr (6, [.ref ah, .ref al, .ref aw])), (ah, .inl (E.2.1 0, 129, .inl z)), (al, .inl (E.2.1 1, 129, .inl y)), (aw, .inl (E.2.1 0, 8, .inl x)), (q, .inr (0, [.ref qb, .ref qg, .ref qf, .int (nI len), .int lat, .int nxt])), (qb, .inl (E.2.1 0, 96, .inl fb)), (qg, .inl (E.2.1 1, 96, .inl fg)), (qf, .inl (E.2.1 0, 96, .inl ff))] H → va_D A [(an, .inr (6, [.ref ah, .ref al, .ref aw])), (ah, .inl (E.2.1 0, 129, .inl z)), (al, .inl (E.2.1 1, 129, .inl y)), (aw, .inl (E.2.1 0, 8, .inl x)), (q, .inr (0, [.ref qb, .ref qg, .ref qf, .int (nI len), .int lat, .int nxt])), (qb, .inl (E.2.1 0, 96, .inl fb)), (qg, .inl (E.2.1 1, 96, .inl fg)), (qf, .inl (E.2.1 0, 96, .inl ff))] → va_S A s.heap H locs → W p l e rm_c_A_judge s m args below meth c H locs 0 0 Q (F0 m 13 ls []) := by
    intro n
    induction n using Nat.strongRecOn with
    | ind n ih =>
      intro i hs lk z y x H locs ls hn hI hl hP hD hS
      have hlen := ok.1
      refine lv_iload_n hx hb d_An_judge_13 rfl (lv_at hl 0 rfl) ?_
      refine lv_sipush (v := nI 129) hx hb d_An_judge_14 (by decide) ?_
      refine kn_ge (tgt := 66) hx hb (by omega) (by omega) d_An_judge_17 (by decide) (fun h17 => ?_) (fun h17 => ?_)
      · refine lv_iconst (v := nI 0) hx hb d_An_judge_66 (by decide) ?_
        exact hret _ ls _ _ _ (z, y, x) d_An_judge_67 (jd_no (Or.inl (by omega)) hI.2.2.2 hI.1) hP hS
      · refine lv_aload_n hx hb d_An_judge_20 rfl (lv_at hl 1 rfl) ?_
        refine k_Vp (As := []) (rest := []) ⟨hx, hb, hml, hown, hts⟩ (c_A_least l E an ah al aw z y hs hI.1 lk hI.2.1) (k_cwV 0 hts t_695 t_697 t_22 t_69 t_698 (by decide +kernel) ⟨Nat.le_of_ble_eq_true rfl, Nat.le_of_ble_eq_true rfl⟩) hK hG hA hP hD hS [0, 1, 2] rfl (by decide) 0 rfl rfl rfl hl.1 rfl (Nat.le_of_ble_eq_true rfl) d_An_judge_21 ⟨Nat.zero_le _, Nat.zero_le _⟩ (fun r hul => ?_)
        by_cases hz : a_least hs lk = 129
        · rw [if_pos hz] at hul
          subst hul
          refine lv_istore_n (lv' := [(3, .int (-1)), (2, .int (nI i)), (0, .ref an), (1, .ref q)]) hx hb d_An_judge_24 rfl hl (by decide) rfl (fun ls hl => ?_)
          refine lv_iload_n hx hb d_An_judge_25 rfl (lv_at hl 0 rfl) ?_
          refine lv_iconst (v := -1) hx hb d_An_judge_26 (by decide) ?_
          refine lv_icmp_ne (tgt := 32) hx hb d_An_judge_27 (by decide) (fun h27 => ?_) (fun h27 => ?_)
          · exact absurd rfl h27
          · refine lv_iconst (v := nI 0) hx hb d_An_judge_30 (by decide) ?_
            exact hret _ ls _ _ _ (z, y, x) d_An_judge_31 (jd_no (Or.inr hz) hI.2.2.2 hI.1) hP hS
        · have hin := a_least_in hz
          rw [if_neg hz] at hul
          subst hul
          refine lv_istore_n (lv' := [(3, .int (nI (a_least hs lk))), (2, .int (nI i)), (0, .ref an), (1, .ref q)]) hx hb d_An_judge_24 rfl hl (by decide) rfl (fun ls hl => ?_)
          refine lv_iload_n hx hb d_An_judge_25 rfl (lv_at hl 0 rfl) ?_
          refine lv_iconst (v := -1) hx hb d_An_judge_26 (by decide) ?_
          refine lv_icmp_ne (tgt := 32) hx hb d_An_judge_27 (by decide) (fun h27 => ?_) (fun h27 => ?_)
          · refine lv_aload_n hx hb d_An_judge_32 rfl (lv_at hl 2 rfl) ?_
            refine va_get (D := E.1) (ci := 6) (v := .ref al) (C := "WideStack$Analyser") (T := T_An) (N := 3) hx hb hts in_An hown hK hP 0 rfl rfl 1 (by decide) (hts _ t_236) (fun _ h9 => h9) rfl d_An_judge_33 ?_
            refine lv_iload_n hx hb d_An_judge_36 rfl (lv_at hl 0 rfl) ?_
            refine lv_iconst (v := nI 1) hx hb d_An_judge_37 (by decide) ?_
            refine k_zast hx hb hK hP hD hS 2 rfl (i := (a_least hs lk)) (by omega) (by omega) (by decide) d_An_judge_38 (fun H locs hP hD hS => ?_)
            have hP : va_P E.1 vwCl [(an, .inr (6, [.ref ah, .ref al, .ref aw])), (ah, .inl (E.2.1 0, 129, .inl z)), (al, .inl (E.2.1 1, 129, .inl (upd y (a_least hs lk) (nI 1)))), (aw, .inl (E.2.1 0, 8, .inl x)), (q, .inr (0, [.ref qb, .ref qg, .ref qf, .int (nI len), .int lat, .int nxt])), (qb, .inl (E.2.1 0, 96, .inl fb)), (qg, .inl (E.2.1 1, 96, .inl fg)), (qf, .inl (E.2.1 0, 96, .inl ff))] H := hP
            have hD : va_D A [(an, .inr (6, [.ref ah, .ref al, .ref aw])), (ah, .inl (E.2.1 0, 129, .inl z)), (al, .inl (E.2.1 1, 129, .inl (upd y (a_least hs lk) (nI 1)))), (aw, .inl (E.2.1 0, 8, .inl x)), (q, .inr (0, [.ref qb, .ref qg, .ref qf, .int (nI len), .int lat, .int nxt])), (qb, .inl (E.2.1 0, 96, .inl fb)), (qg, .inl (E.2.1 1, 96, .inl fg)), (qf, .inl (E.2.1 0, 96, .inl ff))] := hD
            refine lv_aload_n hx hb d_An_judge_39 rfl (lv_at hl 2 rfl) ?_
            refine lv_aload_n hx hb d_An_judge_40 rfl (lv_at hl 3 rfl) ?_
            refine lv_iload_n hx hb d_An_judge_41 rfl (lv_at hl 0 rfl) ?_
            refine k_Vi (As := [.ref q, .int (nI (a_least hs lk))]) (rest := []) ⟨hx, hb, hml, hown, hts⟩ (c_A_lookAt l E an ah al aw z x hs hI.1 q qb qg qf len lat nxt fb fg ff bb ok (a_least hs lk) hin.2.2 hin.1) (k_cwV 2 hts t_699 t_701 t_23 t_69 t_702 (by decide +kernel) ⟨Nat.le_of_ble_eq_true rfl, Nat.le_of_ble_eq_true rfl⟩) hK hG hA hP hD hS [0, 1, 3, 4, 5, 6, 7] rfl (by decide) 0 rfl rfl (fun _ => rfl) rfl hl.1 rfl (Nat.le_of_ble_eq_true rfl) d_An_judge_42 ⟨Nat.zero_le _, Nat.zero_le _⟩ (fun r u H locs hu hP hD hS => ?_)
            have hP : va_P E.1 vwCl [(an, .inr (6, [.ref ah, .ref al, .ref aw])), (ah, .inl (E.2.1 0, 129, .inl u.1)), (al, .inl (E.2.1 1, 129, .inl (upd y (a_least hs lk) (nI 1)))), (aw, .inl (E.2.1 0, 8, .inl u.2)), (q, .inr (0, [.ref qb, .ref qg, .ref qf, .int (nI len), .int lat, .int nxt])), (qb, .inl (E.2.1 0, 96, .inl fb)), (qg, .inl (E.2.1 1, 96, .inl fg)), (qf, .inl (E.2.1 0, 96, .inl ff))] H := hP
            have hD : va_D A [(an, .inr (6, [.ref ah, .ref al, .ref aw])), (ah, .inl (E.2.1 0, 129, .inl u.1)), (al, .inl (E.2.1 1, 129, .inl (upd y (a_least hs lk) (nI 1)))), (aw, .inl (E.2.1 0, 8, .inl u.2)), (q, .inr (0, [.ref qb, .ref qg, .ref qf, .int (nI len), .int lat, .int nxt])), (qb, .inl (E.2.1 0, 96, .inl fb)), (qg, .inl (E.2.1 1, 96, .inl fg)), (qf, .inl (E.2.1 0, 96, .inl ff))] := hD
            have hr := hu.1
            have hle := a_look_le (len := len) (b := bb) (hs := hs) (i := a_least hs lk)
            refine k_top hr ?_
            refine lv_istore (lv' := [(4, .int (nI ((a_look len bb hs (a_least hs lk)).1))), (3, .int (nI (a_least hs lk))), (2, .int (nI i)), (0, .ref an), (1, .ref q)]) hx hb d_An_judge_45 hl (by decide) rfl (fun ls hl => ?_)
            refine lv_iload hx hb d_An_judge_47 (lv_at hl 0 rfl) ?_
            refine kn_ifeq (tgt := 60) hx hb (by omega) d_An_judge_49 (by decide) (fun h49 => ?_) (fun h49 => ?_)
            · refine lv_iinc (k := 2) (v := nI (i + 1)) (lv' := [(2, .int (nI (i + 1))), (4, .int (nI ((a_look len bb hs (a_least hs lk)).1))), (3, .int (nI (a_least hs lk))), (0, .ref an), (1, .ref q)]) hx hb d_An_judge_60 hl rfl (k_inc _) (by decide) rfl (fun ls hl => ?_)
              refine lv_goto (tgt := 13) hx hb d_An_judge_63 (by decide) ?_
              exact ih (n - 1) (by omega) (i + 1) ((a_look len bb hs (a_least hs lk)).2) (va_up lk (a_least hs lk) true) u.1 (upd y (a_least hs lk) (nI 1)) u.2 _ _ ls (by omega) ⟨hu.2, jd_l hI.2.1, okH_look ok.1 ok.2.1 hI.2.2.1 hin.1, by rw [← hI.2.2.2]; exact jd_on (by omega) hz h49⟩ (lv_sub hl [0, 3, 4] rfl) hP hD hS
            · refine lv_bipush (v := nI 8) hx hb d_An_judge_52 (by decide) ?_
              refine lv_iload_n hx hb d_An_judge_54 rfl (lv_at hl 1 rfl) ?_
              refine lv_imul hx hb d_An_judge_55 ?_
              refine k_top (pk_mul _ _) ?_
              refine lv_iload hx hb d_An_judge_56 (lv_at hl 0 rfl) ?_
              refine lv_iadd hx hb d_An_judge_58 ?_
              refine k_top (nI_add _ _) ?_
              exact hret _ ls _ _ _ (u.1, upd y (a_least hs lk) (nI 1), u.2) d_An_judge_59 (jd_end (by omega) hz h49 hI.2.2.2 hu.2) hP hS
          · exact absurd ((m1_eq (k := a_least hs lk + 1) (by omega)).mp h27) (Nat.succ_ne_zero _)
  exact key13 129 0 a_h0 (fun _ => false) (upd u0.1 0 (nI 0)) u0.2 fn _ _ ls (by omega) ⟨jd_0 (fun j hj => (hu0 j hj).1), fun j hj => (hu0 j hj).2, okH_0, rfl⟩ (lv_sub hl [0, 1, 2] rfl) hP hD hS

