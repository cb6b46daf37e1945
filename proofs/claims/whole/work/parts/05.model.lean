/-! the machine as numbers: what class and reference both compute. Words are numbers below mM -/
def mM : Nat := 2 ^ 256
def m_known (o : Nat) : Bool := decide (o ≤ 9) || decide (o = 11) || (decide (16 ≤ o) && decide (o ≤ 29)) || (decide (80 ≤ o) && decide (o ≤ 83)) || (decide (86 ≤ o) && decide (o ≤ 91)) || (decide (96 ≤ o) && decide (o ≤ 159)) || decide (o = 243)
def m_takes (o : Nat) : Nat := if o = 0 ∨ (88 ≤ o ∧ o ≤ 127) then 0 else if o = 8 ∨ o = 9 then 3 else if o = 21 ∨ o = 25 ∨ o = 80 ∨ o = 81 ∨ o = 86 then 1 else if 128 ≤ o ∧ o ≤ 143 then o - 127 else if 144 ≤ o ∧ o ≤ 159 then o - 142 else 2
def m_gives (o : Nat) : Nat := if 128 ≤ o ∧ o ≤ 143 then o - 126 else if 144 ≤ o ∧ o ≤ 159 then o - 142 else if (1 ≤ o ∧ o ≤ 29) ∨ o = 81 ∨ (88 ≤ o ∧ o ≤ 90) ∨ (96 ≤ o ∧ o ≤ 127) then 1 else 0
def m_cost (o : Nat) : Nat := if o = 0 ∨ o = 243 then 0 else if o = 91 then 1 else if o = 80 ∨ (88 ≤ o ∧ o ≤ 90) then 2 else if o = 2 ∨ (4 ≤ o ∧ o ≤ 7) ∨ o = 11 then 5 else if o = 8 ∨ o = 9 ∨ o = 86 then 8 else if o = 87 then 10 else 3
def m_numl (o : Nat) : Nat := if 96 ≤ o ∧ o ≤ 127 then o - 95 else 0
def m_at (len : Nat) (b : Nat → Nat) (p : Nat) : Nat := if p < len then b p else 0
/-- of the first j bytes: where the next instruction begins; the latest beginning and one (0: there is none) -/
def m_nb (b : Nat → Nat) : Nat → Nat
  | 0 => 0
  | j + 1 => if j = m_nb b j then j + 1 + m_numl (b j) else m_nb b j
def m_lat (b : Nat → Nat) : Nat → Nat
  | 0 => 0
  | j + 1 => if j = m_nb b j then j + 1 else m_lat b j
def m_marked (len : Nat) (b : Nat → Nat) (p : Nat) : Bool := decide (p < len) && decide (m_nb b p = p) && decide (b p = 91)
/-- a number, and one: -1 stands for 0 -/
def m1 : Nat → Int32
  | 0 => -1
  | k + 1 => nI k
/-- words -/
def m_neg (x : Nat) : Nat := (mM - x) % mM
def m_isneg (x : Nat) : Bool := decide (2 ^ 255 ≤ x)
def m_abs (x : Nat) : Nat := if m_isneg x then m_neg x else x
def m_rem (a b : Nat) : Nat := if b = 0 then 0 else a % b
def m_sdiv (a b : Nat) : Nat := if m_isneg a = m_isneg b then m_abs a / m_abs b else m_neg (m_abs a / m_abs b)
def m_srem (a b : Nat) : Nat := if m_isneg a then m_neg (m_rem (m_abs a) (m_abs b)) else m_rem (m_abs a) (m_abs b)
def m_sext (a b : Nat) : Nat := if 30 < a then b else if b.testBit (8 * a + 7) then b % 2 ^ (8 * a + 8) + (mM - 2 ^ (8 * a + 8)) else b % 2 ^ (8 * a + 8)
def m_slt (a b : Nat) : Bool := if m_isneg a = m_isneg b then decide (a < b) else m_isneg a
def m_b (b : Bool) : Nat := if b then 1 else 0
def m_byte (a b : Nat) : Nat := if 31 < a then 0 else b / 2 ^ (8 * (31 - a)) % 256
def m_shl (a b : Nat) : Nat := if 255 < a then 0 else b * 2 ^ a % mM
def m_shr (a b : Nat) : Nat := if 255 < a then 0 else b / 2 ^ a
def m_sar (a b : Nat) : Nat := if m_isneg b then mM - 1 - (if 255 < a then 0 else (mM - 1 - b) / 2 ^ a) else m_shr a b
def m_op (o a b c : Nat) : Nat := match o with
  | 1 => (a + b) % mM
  | 2 => a * b % mM
  | 3 => (a + (mM - b)) % mM
  | 4 => a / b
  | 5 => m_sdiv a b
  | 6 => m_rem a b
  | 7 => m_srem a b
  | 8 => m_rem (a + b) c
  | 9 => m_rem (a * b) c
  | 11 => m_sext a b
  | 16 => m_b (decide (a < b))
  | 17 => m_b (decide (b < a))
  | 18 => m_b (m_slt a b)
  | 19 => m_b (m_slt b a)
  | 20 => m_b (decide (a = b))
  | 21 => m_b (decide (a = 0))
  | 22 => a &&& b
  | 23 => a ||| b
  | 24 => a ^^^ b
  | 25 => mM - 1 - a
  | 26 => m_byte a b
  | 27 => m_shl a b
  | 28 => m_shr a b
  | 29 => m_sar a b
  | _ => 0
/-- the bytes from p on, n of them, as a number, the first the highest -/
def m_num (b : Nat → Nat) (p : Nat) : Nat → Nat
  | 0 => 0
  | n + 1 => m_num b p n * 256 + b (p + n)
/-- a run: ending, gas, counter, size, height, returned from, returned count, stack, memory -/
abbrev mS : Type := Nat × Nat × Nat × Nat × Nat × Nat × Nat × (Nat → Nat) × (Nat → Nat)
def m_used (o A B : Nat) : Nat := if o = 81 ∨ o = 82 then A + 32 else if o = 83 then A + 1 else if o = 243 ∧ B ≠ 0 then A + B else 0
def m_grown (siz used : Nat) : Nat := if siz < used then (used + 31) / 32 * 32 else siz
def m_price (o siz used : Nat) : Nat := m_cost o + 3 * (m_grown siz used - siz) / 32
def m_jumps (o B : Nat) : Bool := decide (o = 86) || (decide (o = 87) && decide (B ≠ 0))
def m_trouble (len : Nat) (b : Nat → Nat) (o gas siz hgt A B : Nat) : Nat :=
  if m_known o = false then 7 else if hgt < m_takes o then 5 else if 16 < hgt - m_takes o + m_gives o then 6 else if 160 < m_used o A B then 8 else if gas < m_price o siz (m_used o A B) then 4
  else if m_jumps o B && !m_marked len b A then 3 else if o = 0 then 1 else if o = 243 then 2 else 0
def m_res (b : Nat → Nat) (o gas ctr siz A B C : Nat) (mem : Nat → Nat) : Nat :=
  if o < 32 then m_op o A B C else if o = 81 then m_num mem A 32 else if o = 88 then ctr else if o = 89 then siz else if o = 90 then gas else m_num b (ctr + 1) (m_numl o)
def m_mem (o A B : Nat) (mem : Nat → Nat) : Nat → Nat := fun k => if o = 83 ∧ k = A then B % 256 else if o = 82 ∧ A ≤ k ∧ k < A + 32 then m_byte (k - A) B else mem k
def m_step (len : Nat) (b : Nat → Nat) : mS → mS := fun (_, gas, ctr, siz, hgt, frm, ret, stk, mem) =>
  let o := b ctr
  let A := if 1 ≤ hgt then stk (hgt - 1) else 0
  let B := if 2 ≤ hgt then stk (hgt - 2) else 0
  let C := if 3 ≤ hgt then stk (hgt - 3) else 0
  let t := m_trouble len b o gas siz hgt A B
  let used := m_used o A B
  let gas' := gas - m_price o siz used
  let siz' := m_grown siz used
  let next := ctr + 1 + m_numl o
  if t = 4 then (4, 0, ctr, siz, hgt, frm, ret, stk, mem)
  else if t = 2 then (2, gas', ctr, siz', hgt - 2, A, B, stk, mem)
  else if t ≠ 0 then (t, gas, ctr, siz, hgt, frm, ret, stk, mem)
  else if 128 ≤ o ∧ o ≤ 143 then (0, gas', next, siz', hgt + 1, frm, ret, va_up stk hgt (stk (hgt - (o - 127))), mem)
  else if 144 ≤ o then (0, gas', next, siz', hgt, frm, ret, va_up (va_up stk (hgt - 1) (stk (hgt - (o - 142)))) (hgt - (o - 142)) A, mem)
  else (0, gas', (if m_jumps o B then A else next), siz', hgt - m_takes o + m_gives o, frm, ret, (if m_gives o = 1 then va_up stk (hgt - m_takes o) (m_res b o gas' ctr siz' A B C mem) else stk), m_mem o A B mem)
def m_ord (a b : Nat) : Int32 := if a < b then -1 else if a = b then nI 0 else nI 1
def m_sord (a b : Nat) : Int32 := if m_isneg a = m_isneg b then m_ord a b else if m_isneg a then -1 else nI 1
theorem m_ord_lt {a b : Nat} (h : a < b) : m_ord a b = -1 := if_pos h
theorem m_ord_eq {a b : Nat} (h : a = b) : m_ord a b = nI 0 := by unfold m_ord; rw [if_neg (by omega), if_pos h]
theorem m_ord_gt {a b : Nat} (h : b < a) : m_ord a b = nI 1 := by unfold m_ord; rw [if_neg (by omega), if_neg (by omega)]
