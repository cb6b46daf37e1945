/-! the law's loop: what holds between class and reference -/
def lwI (sb on ay : Bool) (w : xSS) (y : rS) (len : Nat) (bb nb : Nat → Nat) (lat nxt : Int32) (fb fg ff : Nat → Int32) (hc hm : Nat → Nat) (fh fM : Nat → Int32) : Prop :=
  okX w ∧ okY y ∧ okP len bb fb fg ff lat nxt ∧ okB len bb nb ∧ sb = on ∧ w.1.2.2.2.2.2.2.2.1 = y.1.2.2.2.2.2.2.2.1 ∧ (on = true → w.1 = y.1) ∧ (on = false → w.1.2.2.2.2.1 = 0) ∧ okA hc fh ∧ (ay = true → (okA2 hm fM ∧ ∀ j, 129 ≤ j → hm j = 0) ∧ hc = hm) ∧ (ay = false → ∀ j, hc j = 0)
section LW
variable {sb on ay : Bool} {w : xSS} {y : rS} {len : Nat} {bb nb : Nat → Nat} {lat nxt : Int32} {fb fg ff : Nat → Int32} {hc hm : Nat → Nat} {fh fM : Nat → Int32}
theorem lw_code (I : lwI sb on ay w y len bb nb lat nxt fb fg ff hc hm fh fM) {i r1 r2 : Int32} {u1 : (Nat → Int32) × (Nat → Int32) × (Nat → Int32) × Nat × Int32 × Int32} {u2 : Nat × (Nat → Nat)}
    (h1 : (∃ k, k < 256 ∧ i = nI k ∧ len < 96 ∧ r1 = nI 1 ∧ u1.2.2.2.1 = len + 1 ∧ okP (len + 1) (va_up bb len k) u1.1 u1.2.1 u1.2.2.1 u1.2.2.2.2.1 u1.2.2.2.2.2) ∨ ((len = 96 ∨ i < 0 ∨ ¬ i ≤ nI 255) ∧ r1 = nI 0 ∧ u1.2.2.2.1 = len ∧ okP len bb u1.1 u1.2.1 u1.2.2.1 u1.2.2.2.2.1 u1.2.2.2.2.2))
    (h2 : (∃ k, k < 256 ∧ i = nI k ∧ len < 96 ∧ r2 = nI 1 ∧ u2.1 = len + 1 ∧ okB (len + 1) (va_up bb len k) u2.2) ∨ ((len = 96 ∨ i < 0 ∨ ¬ i ≤ nI 255) ∧ r2 = nI 0 ∧ u2 = (len, nb))) :
    r1 = r2 ∧ ∃ bb', u2.1 = u1.2.2.2.1 ∧ lwI sb on ay w y u1.2.2.2.1 bb' u2.2 u1.2.2.2.2.1 u1.2.2.2.2.2 u1.1 u1.2.1 u1.2.2.1 hc hm fh fM := by
  obtain ⟨i1, i2, i3, i4, i5⟩ := I
  rcases h1 with ⟨k, a1, a2, a3, a4, a5, a6⟩ | ⟨a1, a2, a3, a4⟩
  · rcases h2 with ⟨k2, b1, b2, b3, b4, b5, b6⟩ | ⟨b1, b2, b3⟩
    · have e : k = k2 := (nI_eq32 (by omega) (by omega)).mp (a2.symm.trans b2)
      subst e
      refine ⟨by rw [a4, b4], va_up bb len k, by rw [a5, b5], i1, i2, ?_, ?_, i5⟩
      · rw [a5]; exact a6
      · rw [a5]; exact b6
    · exfalso
      subst a2
      rcases b1 with q | q | q
      · omega
      · exact absurd (nI_pos' (by omega)) (Int32.not_le.mpr q)
      · exact q (nI_le (by omega) (by decide))
  · rcases h2 with ⟨k2, b1, b2, b3, b4, b5, b6⟩ | ⟨b1, b2, b3⟩
    · exfalso
      subst b2
      rcases a1 with q | q | q
      · omega
      · exact absurd (nI_pos' (by omega)) (Int32.not_le.mpr q)
      · exact q (nI_le (by omega) (by decide))
    · subst b3
      refine ⟨by rw [a2, b2], bb, by rw [a3], i1, i2, ?_, ?_, i5⟩
      · rw [a3]; exact a4
      · rw [a3]; exact i4
theorem lw_clear (I : lwI sb on ay w y len bb nb lat nxt fb fg ff hc hm fh fM) {u1 : xSS × (Nat → Int32) × (Nat → Int32)} (h1 : okX u1.1 ∧ u1.1.1 = (x_beg 0 w u1.1.2.2.2.1).1 ∧ ∀ j, j < 129 → u1.2.1 j = -1 ∧ u1.2.2 j = nI 0) : lwI false false false u1.1 y 0 (fun _ => 0) nb (-1) (nI 0) fb fg ff (fun _ => 0) hm u1.2.1 fM := by
  obtain ⟨i1, i2, i3, i4, i5, i6, i7, i8, i9, i10, i11⟩ := I
  obtain ⟨h1, h2, h3⟩ := h1
  refine ⟨h1, i2, okP_0, okB_0, rfl, ?_, fun q => absurd q (by decide), fun _ => by rw [h2]; rfl, ⟨fun j hj => (h3 j hj).1, fun _ => Nat.zero_le _⟩, fun q => absurd q (by decide), fun _ _ => rfl⟩
  rw [h2]; exact i6
theorem lw_start (I : lwI sb on ay w y len bb nb lat nxt fb fg ff hc hm fh fM) {i r1 r2 : Int32} {u1 : Bool × xSS} {u2 : Bool × rS}
    (h1 : (m_in i 10000 = true ∧ r1 = nI 1 ∧ u1.1 = true ∧ okX u1.2 ∧ u1.2.1 = (x_beg i.toNatClampNeg w u1.2.2.2.2.1).1) ∨ (m_in i 10000 = false ∧ r1 = nI 0 ∧ u1 = (sb, w)))
    (h2 : (m_in i 10000 = true ∧ r2 = nI 1 ∧ u2.1 = true ∧ okY u2.2 ∧ u2.2.1 = (0, i.toNatClampNeg, 0, 0, 0, 0, 0, y.1.2.2.2.2.2.2.2.1, fun _ => 0)) ∨ (m_in i 10000 = false ∧ r2 = nI 0 ∧ u2 = (on, y))) :
    r1 = r2 ∧ lwI u1.1 u2.1 ay u1.2 u2.2 len bb nb lat nxt fb fg ff hc hm fh fM := by
  have I0 := I
  obtain ⟨i1, i2, i3, i4, i5, i6, i7, i8, i9⟩ := I
  rcases h1 with ⟨a1, a2, a3, a4, a5⟩ | ⟨a1, a2, a3⟩
  · rcases h2 with ⟨b1, b2, b3, b4, b5⟩ | ⟨b1, b2, b3⟩
    · have e : u1.2.1 = u2.2.1 := by
        rw [a5, b5]
        show ((0, i.toNatClampNeg, 0, 0, 0, 0, 0, w.1.2.2.2.2.2.2.2.1, fun _ => 0) : mS) = _
        rw [i6]
      refine ⟨by rw [a2, b2], a4, b4, i3, i4, by rw [a3, b3], by rw [e], fun _ => e, fun q => ?_, i9⟩
      rw [b3] at q
      exact absurd q (by decide)
    · rw [a1] at b1; exact absurd b1 (by decide)
  · rcases h2 with ⟨b1, b2, b3, b4, b5⟩ | ⟨b1, b2, b3⟩
    · rw [a1] at b1; exact absurd b1 (by decide)
    · subst a3 b3
      exact ⟨by rw [a2, b2], I0⟩
theorem lw_push (I : lwI sb on ay w y len bb nb lat nxt fb fg ff hc hm fh fM) {r1 r2 : Int32} {X : Nat} {u1 : xSS} {u2 : rS}
    (h1 : okX u1 ∧ ((sb = true ∧ w.1.1 = 0 ∧ w.1.2.2.2.2.1 < 16 ∧ r1 = nI 1 ∧ u1.1 = m_push w.1 X) ∨ ((sb = false ∨ w.1.1 ≠ 0 ∨ w.1.2.2.2.2.1 = 16) ∧ r1 = nI 0 ∧ u1.1 = w.1)))
    (h2 : okY u2 ∧ ((on = true ∧ y.1.1 = 0 ∧ y.1.2.2.2.2.1 < 16 ∧ r2 = nI 1 ∧ u2.1 = m_push y.1 X) ∨ ((on = false ∨ y.1.1 ≠ 0 ∨ y.1.2.2.2.2.1 = 16) ∧ r2 = nI 0 ∧ u2 = y))) :
    r1 = r2 ∧ lwI sb on ay u1 u2 len bb nb lat nxt fb fg ff hc hm fh fM := by
  obtain ⟨i1, i2, i3, i4, i5, i6, i7, i8, i9⟩ := I
  obtain ⟨g1, h1⟩ := h1
  obtain ⟨g2, h2⟩ := h2
  subst i5
  rcases h1 with ⟨a1, a2, a3, a4, a5⟩ | ⟨a1, a2, a3⟩
  · have e := i7 a1
    rcases h2 with ⟨b1, b2, b3, b4, b5⟩ | ⟨b1, b2, b3⟩
    · have e2 : u1.1 = u2.1 := by rw [a5, b5, e]
      exact ⟨by rw [a4, b4], g1, g2, i3, i4, rfl, by rw [e2], fun _ => e2, fun q => absurd (a1.symm.trans q) (by decide), i9⟩
    · exfalso
      rw [← e] at b1
      rcases b1 with q | q | q
      · exact absurd (a1.symm.trans q) (by decide)
      · exact q a2
      · omega
  · rcases h2 with ⟨b1, b2, b3, b4, b5⟩ | ⟨b1, b2, b3⟩
    · exfalso
      have e := i7 b1
      rw [e] at a1
      rcases a1 with q | q | q
      · exact absurd (b1.symm.trans q) (by decide)
      · exact q b2
      · omega
    · subst b3
      exact ⟨by rw [a2, b2], g1, g2, i3, i4, rfl, by rw [a3]; exact i6, fun q => by rw [a3]; exact i7 q, fun q => by rw [a3]; exact i8 q, i9⟩
theorem lw_run (I : lwI sb on ay w y len bb nb lat nxt fb fg ff hc hm fh fM) {i r1 r2 : Int32} {u1 : xSS} {u2 : rS}
    (h1 : okX u1 ∧ ((sb = true ∧ 1 ≤ i ∧ i ≤ nI 500 ∧ r1 = nI (m_run len bb i.toNatClampNeg 0 w.1).1 ∧ u1.1 = (m_run len bb i.toNatClampNeg 0 w.1).2) ∨ ((sb = false ∨ ¬ 1 ≤ i ∨ ¬ i ≤ nI 500) ∧ r1 = -1 ∧ u1.1 = w.1)))
    (h2 : okY u2 ∧ ((on = true ∧ 1 ≤ i ∧ i ≤ nI 500 ∧ r2 = nI (m_run len bb i.toNatClampNeg 0 y.1).1 ∧ u2.1 = (m_run len bb i.toNatClampNeg 0 y.1).2) ∨ ((on = false ∨ ¬ 1 ≤ i ∨ ¬ i ≤ nI 500) ∧ r2 = -1 ∧ u2 = y))) :
    r1 = r2 ∧ lwI sb on ay u1 u2 len bb nb lat nxt fb fg ff hc hm fh fM := by
  obtain ⟨i1, i2, i3, i4, i5, i6, i7, i8, i9⟩ := I
  obtain ⟨g1, h1⟩ := h1
  obtain ⟨g2, h2⟩ := h2
  subst i5
  rcases h1 with ⟨a1, a2, a3, a4, a5⟩ | ⟨a1, a2, a3⟩
  · have e := i7 a1
    rcases h2 with ⟨b1, b2, b3, b4, b5⟩ | ⟨b1, b2, b3⟩
    · have e2 : u1.1 = u2.1 := by rw [a5, b5, e]
      exact ⟨by rw [a4, b4, e], g1, g2, i3, i4, rfl, by rw [e2], fun _ => e2, fun q => absurd (a1.symm.trans q) (by decide), i9⟩
    · exfalso
      rcases b1 with q | q | q
      · exact absurd (a1.symm.trans q) (by decide)
      · exact q a2
      · exact q a3
  · rcases h2 with ⟨b1, b2, b3, b4, b5⟩ | ⟨b1, b2, b3⟩
    · exfalso
      rcases a1 with q | q | q
      · exact absurd (b1.symm.trans q) (by decide)
      · exact q b2
      · exact q b3
    · subst b3
      exact ⟨by rw [a2, b2], g1, g2, i3, i4, rfl, by rw [a3]; exact i6, fun q => by rw [a3]; exact i7 q, fun q => by rw [a3]; exact i8 q, i9⟩
theorem lw_ended (I : lwI sb on ay w y len bb nb lat nxt fb fg ff hc hm fh fM) {r1 r2 : Int32} (h1 : r1 = if sb then nI w.1.1 else -1) (h2 : r2 = if on then nI y.1.1 else -1) : r1 = r2 := by
  obtain ⟨i1, i2, i3, i4, i5, i6, i7, i8, i9⟩ := I
  subst i5 h1 h2
  cases sb
  · rfl
  · rw [i7 rfl]
theorem lw_height (I : lwI sb on ay w y len bb nb lat nxt fb fg ff hc hm fh fM) {r1 r2 : Int32} (h1 : r1 = nI w.1.2.2.2.2.1) (h2 : r2 = if on then nI y.1.2.2.2.2.1 else nI 0) : r1 = r2 := by
  obtain ⟨i1, i2, i3, i4, i5, i6, i7, i8, i9⟩ := I
  subst i5 h1 h2
  cases sb
  · rw [i8 rfl]; rfl
  · rw [i7 rfl]; rfl
theorem lw_part (I : lwI sb on ay w y len bb nb lat nxt fb fg ff hc hm fh fM) {i j r1 r2 : Int32} (h1 : r1 = if m_in i w.1.2.2.2.2.1 && m_in j 8 then w.2.2.1 (w.1.2.2.2.2.1 - 1 - i.toNatClampNeg) j.toNatClampNeg else nI 0)
    (h2 : r2 = if on && (m_in i y.1.2.2.2.2.1 && m_in j 8) then nI (y.1.2.2.2.2.2.2.2.1 (y.1.2.2.2.2.1 - 1 - i.toNatClampNeg) / kK ^ j.toNatClampNeg % kK) else nI 0) : r1 = r2 := by
  obtain ⟨i1, i2, i3, i4, i5, i6, i7, i8, i9⟩ := I
  subst i5 h1 h2
  cases sb
  · rw [i8 rfl, m_in_0]; rfl
  · have e := i7 rfl
    have b16 := i1.1.2.2.2.2.2.1
    rw [Bool.true_and, ← e]
    rcases Bool.eq_false_or_eq_true (m_in i w.1.2.2.2.2.1 && m_in j 8) with q | q
    · obtain ⟨q1, q2⟩ := Bool.and_eq_true_iff.mp q
      obtain ⟨x, hx, rfl⟩ := m_in_of (by omega) q1
      obtain ⟨z, hz, rfl⟩ := m_in_of (by decide) q2
      rw [if_pos q, if_pos q, nI_clamp (by omega), nI_clamp (by omega)]
      exact part_w (i1.2.2.1 _ (by omega)) hz
    · rw [q]; rfl
theorem lw_memory (I : lwI sb on ay w y len bb nb lat nxt fb fg ff hc hm fh fM) {i r1 r2 : Int32} {jb : Bool} (h1 : r1 = if sb then (if jb then (if m_in i w.1.2.2.2.2.2.2.1 then nI (w.1.2.2.2.2.2.2.2.2 (w.1.2.2.2.2.2.1 + i.toNatClampNeg)) else -1) else (if m_in i 160 then nI (w.1.2.2.2.2.2.2.2.2 i.toNatClampNeg) else -1)) else -1)
    (h2 : r2 = if on then (if jb then (if m_in i y.1.2.2.2.2.2.2.1 then nI (y.1.2.2.2.2.2.2.2.2 (y.1.2.2.2.2.2.1 + i.toNatClampNeg)) else -1) else (if m_in i 160 then nI (y.1.2.2.2.2.2.2.2.2 i.toNatClampNeg) else -1)) else -1) : r1 = r2 := by
  obtain ⟨i1, i2, i3, i4, i5, i6, i7, i8, i9⟩ := I
  subst i5 h1 h2
  cases sb
  · rfl
  · rw [i7 rfl]
theorem lw_state (I : lwI sb on ay w y len bb nb lat nxt fb fg ff hc hm fh fM) {i r1 r2 : Int32} (h1 : r1 = if sb then (if i = 0 then nI w.1.2.1 else if i = 1 then nI w.1.2.2.1 else if i = 2 then nI w.1.2.2.2.1 else if i = 3 then nI w.1.2.2.2.2.2.2.1 else -1) else -1)
    (h2 : r2 = if on then (if i = 0 then nI y.1.2.1 else if i = 1 then nI y.1.2.2.1 else if i = 2 then nI y.1.2.2.2.1 else if i = 3 then nI y.1.2.2.2.2.2.2.1 else -1) else -1) : r1 = r2 := by
  obtain ⟨i1, i2, i3, i4, i5, i6, i7, i8, i9⟩ := I
  subst i5 h1 h2
  cases sb
  · rfl
  · rw [i7 rfl]
theorem lw_reached (I : lwI sb on ay w y len bb nb lat nxt fb fg ff hc hm fh fM) {i r1 r2 : Int32} (h1 : r1 = if m_in i 129 then m1 (hc i.toNatClampNeg) else -1) (h2 : r2 = if ay then (if m_in i 129 then m1 (hm i.toNatClampNeg) else -1) else -1) : r1 = r2 := by
  obtain ⟨i1, i2, i3, i4, i5, i6, i7, i8, i9, i10, i11⟩ := I
  subst h1 h2
  cases ay
  · rw [i11 rfl]
    show (if m_in i 129 then -1 else -1 : Int32) = -1
    split <;> rfl
  · rw [(i10 rfl).2]; rfl
theorem lw_analyse (I : lwI sb on ay w y len bb nb lat nxt fb fg ff hc hm fh fM) {r1 r2 : Int32} {f1 f2 : Nat → Int32} (h1 : r1 = nI (a_judge len bb).1 ∧ okA (a_judge len bb).2 f1) (h2 : r2 = nI (a_judge len bb).1 ∧ okA2 (a_judge len bb).2 f2) :
    r1 = r2 ∧ lwI sb on true w y len bb nb lat nxt fb fg ff (a_judge len bb).2 (a_judge len bb).2 f1 f2 := by
  obtain ⟨i1, i2, i3, i4, i5, i6, i7, i8, i9, i10, i11⟩ := I
  have hz : ∀ j, 129 ≤ j → (a_judge len bb).2 j = 0 := fun j hj => by
    rcases Nat.eq_zero_or_pos ((a_judge len bb).2 j) with q | q
    · exact q
    · have := ((a_judge_ok i4.1 i4.2.1 j).2 (by omega)).1
      omega
  exact ⟨by rw [h1.1, h2.1], i1, i2, i3, i4, i5, i6, i7, i8, h1.2, fun _ => ⟨⟨h2.2, hz⟩, rfl⟩, fun q => absurd q (by decide)⟩
end LW
theorem k_inc5 (i : Nat) : nI i + Int32.ofInt 5 = nI (i + 5) := by
  rw [show Int32.ofInt 5 = nI 5 by decide]; exact nI_add i 5

theorem X_ended (l : Launch) (E : kE) (ad ra : Nat → Nat) (sb : Bool) (fh fl fn : Nat → Int32) (w0 : xSS) (len : Nat) (lat nxt : Int32) (fb fg ff : Nat → Int32) (bb : Nat → Nat) (ok : okP len bb fb fg ff lat nxt) : Kp l y_X_ended (kW y_X_ended prog_1_method_7_code 1 (some .int)) rm_c_X_ended E [.ref (ad 0)] (cW E ad ra sb fh fl fn w0 len lat nxt fb fg ff) (fun r => r = if sb then nI w0.1.1 else -1) := c_X_ended l E (ad 0) (ad 1) (ad 2) (ad 3) (ad 4) (ad 5) (ad 6) (ad 9) (ad 11) (ad 19) (ad 20) (ad 21) (ad 22) (ad 7) (ad 8) (ad 10) (ad 12) (ad 13) (ad 14) (ad 15) (ad 16) (ad 17) (ad 18) ra sb fh fl fn w0 (ad 23) (ad 24) (ad 25) (ad 26) len lat nxt fb fg ff bb ok 
theorem X_height (l : Launch) (E : kE) (ad ra : Nat → Nat) (sb : Bool) (fh fl fn : Nat → Int32) (w0 : xSS) (len : Nat) (lat nxt : Int32) (fb fg ff : Nat → Int32) (bb : Nat → Nat) (ok : okP len bb fb fg ff lat nxt) : Kp l y_X_height (kW y_X_height prog_1_method_8_code 1 (some .int)) rm_c_X_height E [.ref (ad 0)] (cW E ad ra sb fh fl fn w0 len lat nxt fb fg ff) (fun r => r = nI w0.1.2.2.2.2.1) := c_X_height l E (ad 0) (ad 1) (ad 2) (ad 3) (ad 4) (ad 5) (ad 6) (ad 9) (ad 11) (ad 19) (ad 20) (ad 21) (ad 22) (ad 7) (ad 8) (ad 10) (ad 12) (ad 13) (ad 14) (ad 15) (ad 16) (ad 17) (ad 18) ra sb fh fl fn w0 (ad 23) (ad 24) (ad 25) (ad 26) len lat nxt fb fg ff bb ok 
theorem X_part (l : Launch) (E : kE) (ad ra : Nat → Nat) (sb : Bool) (fh fl fn : Nat → Int32) (w0 : xSS) (len : Nat) (lat nxt : Int32) (fb fg ff : Nat → Int32) (bb : Nat → Nat) (ok : okP len bb fb fg ff lat nxt) (i j : Int32) (hc : w0.1.2.2.2.2.1 ≤ 16) : Kp l y_X_part (kW y_X_part prog_1_method_9_code 3 (some .int)) rm_c_X_part E [.ref (ad 0), .int i, .int j] (cW E ad ra sb fh fl fn w0 len lat nxt fb fg ff) (fun r => r = if m_in i w0.1.2.2.2.2.1 && m_in j 8 then w0.2.2.1 (w0.1.2.2.2.2.1 - 1 - i.toNatClampNeg) j.toNatClampNeg else nI 0) := c_X_part l E (ad 0) (ad 1) (ad 2) (ad 3) (ad 4) (ad 5) (ad 6) (ad 9) (ad 11) (ad 19) (ad 20) (ad 21) (ad 22) (ad 7) (ad 8) (ad 10) (ad 12) (ad 13) (ad 14) (ad 15) (ad 16) (ad 17) (ad 18) ra sb fh fl fn w0 (ad 23) (ad 24) (ad 25) (ad 26) len lat nxt fb fg ff bb ok i j hc
theorem X_memory (l : Launch) (E : kE) (ad ra : Nat → Nat) (sb : Bool) (fh fl fn : Nat → Int32) (w0 : xSS) (len : Nat) (lat nxt : Int32) (fb fg ff : Nat → Int32) (bb : Nat → Nat) (ok : okP len bb fb fg ff lat nxt) (i : Int32) (jb : Bool) (hX : okX w0) : Kp l y_X_memory (kW y_X_memory prog_1_method_10_code 3 (some .int)) rm_c_X_memory E [.ref (ad 0), .int i, .int (kb jb)] (cW E ad ra sb fh fl fn w0 len lat nxt fb fg ff) (fun r => r = if sb then (if jb then (if m_in i w0.1.2.2.2.2.2.2.1 then nI (w0.1.2.2.2.2.2.2.2.2 (w0.1.2.2.2.2.2.1 + i.toNatClampNeg)) else -1) else (if m_in i 160 then nI (w0.1.2.2.2.2.2.2.2.2 i.toNatClampNeg) else -1)) else -1) := c_X_memory l E (ad 0) (ad 1) (ad 2) (ad 3) (ad 4) (ad 5) (ad 6) (ad 9) (ad 11) (ad 19) (ad 20) (ad 21) (ad 22) (ad 7) (ad 8) (ad 10) (ad 12) (ad 13) (ad 14) (ad 15) (ad 16) (ad 17) (ad 18) ra sb fh fl fn w0 (ad 23) (ad 24) (ad 25) (ad 26) len lat nxt fb fg ff bb ok i jb hX
theorem X_state (l : Launch) (E : kE) (ad ra : Nat → Nat) (sb : Bool) (fh fl fn : Nat → Int32) (w0 : xSS) (len : Nat) (lat nxt : Int32) (fb fg ff : Nat → Int32) (bb : Nat → Nat) (ok : okP len bb fb fg ff lat nxt) (i : Int32) : Kp l y_X_state (kW y_X_state prog_1_method_11_code 2 (some .int)) rm_c_X_state E [.ref (ad 0), .int i] (cW E ad ra sb fh fl fn w0 len lat nxt fb fg ff) (fun r => r = if sb then (if i = 0 then nI w0.1.2.1 else if i = 1 then nI w0.1.2.2.1 else if i = 2 then nI w0.1.2.2.2.1 else if i = 3 then nI w0.1.2.2.2.2.2.2.1 else -1) else -1) := c_X_state l E (ad 0) (ad 1) (ad 2) (ad 3) (ad 4) (ad 5) (ad 6) (ad 9) (ad 11) (ad 19) (ad 20) (ad 21) (ad 22) (ad 7) (ad 8) (ad 10) (ad 12) (ad 13) (ad 14) (ad 15) (ad 16) (ad 17) (ad 18) ra sb fh fl fn w0 (ad 23) (ad 24) (ad 25) (ad 26) len lat nxt fb fg ff bb ok i
theorem X_reached (l : Launch) (E : kE) (ad ra : Nat → Nat) (sb : Bool) (fh fl fn : Nat → Int32) (w0 : xSS) (len : Nat) (lat nxt : Int32) (fb fg ff : Nat → Int32) (bb : Nat → Nat) (ok : okP len bb fb fg ff lat nxt) (hs : Nat → Nat) (hH : okA hs fh) (i : Int32) : Kp l y_X_reached (kW y_X_reached prog_1_method_13_code 2 (some .int)) rm_c_X_reached E [.ref (ad 0), .int i] (cW E ad ra sb fh fl fn w0 len lat nxt fb fg ff) (fun r => r = if m_in i 129 then m1 (hs i.toNatClampNeg) else -1) := c_X_reached l E (ad 0) (ad 1) (ad 2) (ad 3) (ad 4) (ad 5) (ad 6) (ad 9) (ad 11) (ad 19) (ad 20) (ad 21) (ad 22) (ad 7) (ad 8) (ad 10) (ad 12) (ad 13) (ad 14) (ad 15) (ad 16) (ad 17) (ad 18) ra sb fh fl fn w0 (ad 23) (ad 24) (ad 25) (ad 26) len lat nxt fb fg ff bb ok hs hH i
theorem X_marked (l : Launch) (E : kE) (ad ra : Nat → Nat) (sb : Bool) (fh fl fn : Nat → Int32) (w0 : xSS) (len : Nat) (lat nxt : Int32) (fb fg ff : Nat → Int32) (bb : Nat → Nat) (ok : okP len bb fb fg ff lat nxt) (i : Int32) : Kp l y_X_marked (kW y_X_marked prog_1_method_14_code 2 (some .boolean)) rm_c_X_marked E [.ref (ad 0), .int i] (cW E ad ra sb fh fl fn w0 len lat nxt fb fg ff) (fun r => r = kb (m_in i len && m_marked len bb i.toNatClampNeg)) := c_X_marked l E (ad 0) (ad 1) (ad 2) (ad 3) (ad 4) (ad 5) (ad 6) (ad 9) (ad 11) (ad 19) (ad 20) (ad 21) (ad 22) (ad 7) (ad 8) (ad 10) (ad 12) (ad 13) (ad 14) (ad 15) (ad 16) (ad 17) (ad 18) ra sb fh fl fn w0 (ad 23) (ad 24) (ad 25) (ad 26) len lat nxt fb fg ff bb ok i
theorem X_code (l : Launch) (E : kE) (ad ra : Nat → Nat) (sb : Bool) (fh fl fn : Nat → Int32) (w0 : xSS) (len : Nat) (lat nxt : Int32) (fb fg ff : Nat → Int32) (bb : Nat → Nat) (ok : okP len bb fb fg ff lat nxt) (i : Int32) : Ki l y_X_code (kW y_X_code prog_1_method_2_code 2 (some .boolean)) rm_c_X_code E [.ref (ad 0), .int i] (cW E ad ra sb fh fl fn w0 len lat nxt fb fg ff) (S := (Nat → Int32) × (Nat → Int32) × (Nat → Int32) × Nat × Int32 × Int32) (fun r u => (∃ k, k < 256 ∧ i = nI k ∧ len < 96 ∧ r = nI 1 ∧ u.2.2.2.1 = len + 1 ∧ okP (len + 1) (va_up bb len k) u.1 u.2.1 u.2.2.1 u.2.2.2.2.1 u.2.2.2.2.2) ∨ ((len = 96 ∨ i < 0 ∨ ¬ i ≤ nI 255) ∧ r = nI 0 ∧ u.2.2.2.1 = len ∧ okP len bb u.1 u.2.1 u.2.2.1 u.2.2.2.2.1 u.2.2.2.2.2)) (fun u => cW E ad ra sb fh fl fn w0 u.2.2.2.1 u.2.2.2.2.1 u.2.2.2.2.2 u.1 u.2.1 u.2.2.1) := c_X_code l E (ad 0) (ad 1) (ad 2) (ad 3) (ad 4) (ad 5) (ad 6) (ad 9) (ad 11) (ad 19) (ad 20) (ad 21) (ad 22) (ad 7) (ad 8) (ad 10) (ad 12) (ad 13) (ad 14) (ad 15) (ad 16) (ad 17) (ad 18) ra sb fh fl fn w0 (ad 23) (ad 24) (ad 25) (ad 26) len lat nxt fb fg ff bb ok i
theorem X_clear (l : Launch) (E : kE) (ad ra : Nat → Nat) (sb : Bool) (fh fl fn : Nat → Int32) (w0 : xSS) (len : Nat) (lat nxt : Int32) (fb fg ff : Nat → Int32) (bb : Nat → Nat) (ok : okP len bb fb fg ff lat nxt) (hX : okX w0) : Kv l y_X_clear (kW y_X_clear prog_1_method_3_code 1 (none)) rm_c_X_clear E [.ref (ad 0)] (cW E ad ra sb fh fl fn w0 len lat nxt fb fg ff) (S := xSS × (Nat → Int32) × (Nat → Int32)) (fun u => okX u.1 ∧ u.1.1 = (x_beg 0 w0 u.1.2.2.2.1).1 ∧ ∀ j, j < 129 → u.2.1 j = -1 ∧ u.2.2 j = nI 0) (fun u => cW E ad ra false u.2.1 u.2.2 fn u.1 0 (-1) (nI 0) fb fg ff) := c_X_clear l E (ad 0) (ad 1) (ad 2) (ad 3) (ad 4) (ad 5) (ad 6) (ad 9) (ad 11) (ad 19) (ad 20) (ad 21) (ad 22) (ad 7) (ad 8) (ad 10) (ad 12) (ad 13) (ad 14) (ad 15) (ad 16) (ad 17) (ad 18) ra sb fh fl fn w0 (ad 23) (ad 24) (ad 25) (ad 26) len lat nxt fb fg ff bb ok hX
theorem X_start (l : Launch) (E : kE) (ad ra : Nat → Nat) (sb : Bool) (fh fl fn : Nat → Int32) (w0 : xSS) (len : Nat) (lat nxt : Int32) (fb fg ff : Nat → Int32) (bb : Nat → Nat) (ok : okP len bb fb fg ff lat nxt) (i : Int32) (hX : okX w0) : Ki l y_X_start (kW y_X_start prog_1_method_4_code 2 (some .boolean)) rm_c_X_start E [.ref (ad 0), .int i] (cW E ad ra sb fh fl fn w0 len lat nxt fb fg ff) (S := Bool × xSS) (fun r u => (m_in i 10000 = true ∧ r = nI 1 ∧ u.1 = true ∧ okX u.2 ∧ u.2.1 = (x_beg i.toNatClampNeg w0 u.2.2.2.2.1).1) ∨ (m_in i 10000 = false ∧ r = nI 0 ∧ u = (sb, w0))) (fun u => cW E ad ra u.1 fh fl fn u.2 len lat nxt fb fg ff) := c_X_start l E (ad 0) (ad 1) (ad 2) (ad 3) (ad 4) (ad 5) (ad 6) (ad 9) (ad 11) (ad 19) (ad 20) (ad 21) (ad 22) (ad 7) (ad 8) (ad 10) (ad 12) (ad 13) (ad 14) (ad 15) (ad 16) (ad 17) (ad 18) ra sb fh fl fn w0 (ad 23) (ad 24) (ad 25) (ad 26) len lat nxt fb fg ff bb ok i hX
theorem X_push (l : Launch) (E : kE) (ad ra : Nat → Nat) (sb : Bool) (fh fl fn : Nat → Int32) (w0 : xSS) (len : Nat) (lat nxt : Int32) (fb fg ff : Nat → Int32) (bb : Nat → Nat) (ok : okP len bb fb fg ff lat nxt) (i1 i2 i3 i4 : Int32) (hX : okX w0) : Ki l y_X_push (kW y_X_push prog_1_method_5_code 5 (some .boolean)) rm_c_X_push E [.ref (ad 0), .int i1, .int i2, .int i3, .int i4] (cW E ad ra sb fh fl fn w0 len lat nxt fb fg ff) (S := xSS) (fun r u => okX u ∧ ((sb = true ∧ w0.1.1 = 0 ∧ w0.1.2.2.2.2.1 < 16 ∧ r = nI 1 ∧ u.1 = m_push w0.1 (m_word i1 i2 i3 i4)) ∨ ((sb = false ∨ w0.1.1 ≠ 0 ∨ w0.1.2.2.2.2.1 = 16) ∧ r = nI 0 ∧ u.1 = w0.1))) (fun u => cW E ad ra sb fh fl fn u len lat nxt fb fg ff) := c_X_push l E (ad 0) (ad 1) (ad 2) (ad 3) (ad 4) (ad 5) (ad 6) (ad 9) (ad 11) (ad 19) (ad 20) (ad 21) (ad 22) (ad 7) (ad 8) (ad 10) (ad 12) (ad 13) (ad 14) (ad 15) (ad 16) (ad 17) (ad 18) ra sb fh fl fn w0 (ad 23) (ad 24) (ad 25) (ad 26) len lat nxt fb fg ff bb ok i1 i2 i3 i4 hX
theorem X_run (l : Launch) (E : kE) (ad ra : Nat → Nat) (sb : Bool) (fh fl fn : Nat → Int32) (w0 : xSS) (len : Nat) (lat nxt : Int32) (fb fg ff : Nat → Int32) (bb : Nat → Nat) (ok : okP len bb fb fg ff lat nxt) (i : Int32) (hX : okX w0) : Ki l y_X_run (kW y_X_run prog_1_method_6_code 3 (some .int)) rm_c_X_run E [.ref (ad 0), .int i] (cW E ad ra sb fh fl fn w0 len lat nxt fb fg ff) (S := xSS) (fun r u => okX u ∧ ((sb = true ∧ 1 ≤ i ∧ i ≤ nI 500 ∧ r = nI (m_run len bb i.toNatClampNeg 0 w0.1).1 ∧ u.1 = (m_run len bb i.toNatClampNeg 0 w0.1).2) ∨ ((sb = false ∨ ¬ 1 ≤ i ∨ ¬ i ≤ nI 500) ∧ r = -1 ∧ u.1 = w0.1))) (fun u => cW E ad ra sb fh fl fn u len lat nxt fb fg ff) := c_X_run l E (ad 0) (ad 1) (ad 2) (ad 3) (ad 4) (ad 5) (ad 6) (ad 9) (ad 11) (ad 19) (ad 20) (ad 21) (ad 22) (ad 7) (ad 8) (ad 10) (ad 12) (ad 13) (ad 14) (ad 15) (ad 16) (ad 17) (ad 18) ra sb fh fl fn w0 (ad 23) (ad 24) (ad 25) (ad 26) len lat nxt fb fg ff bb ok i hX
theorem X_analyse (l : Launch) (E : kE) (ad ra : Nat → Nat) (sb : Bool) (fh fl fn : Nat → Int32) (w0 : xSS) (len : Nat) (lat nxt : Int32) (fb fg ff : Nat → Int32) (bb : Nat → Nat) (ok : okP len bb fb fg ff lat nxt) : Ki l y_X_analyse (kW y_X_analyse prog_1_method_12_code 1 (some .int)) rm_c_X_analyse E [.ref (ad 0)] (cW E ad ra sb fh fl fn w0 len lat nxt fb fg ff) (S := (Nat → Int32) × (Nat → Int32) × (Nat → Int32)) (fun r u => r = nI (a_judge len bb).1 ∧ okA (a_judge len bb).2 u.1) (fun u => cW E ad ra sb u.1 u.2.1 u.2.2 w0 len lat nxt fb fg ff) := c_X_analyse l E (ad 0) (ad 1) (ad 2) (ad 3) (ad 4) (ad 5) (ad 6) (ad 9) (ad 11) (ad 19) (ad 20) (ad 21) (ad 22) (ad 7) (ad 8) (ad 10) (ad 12) (ad 13) (ad 14) (ad 15) (ad 16) (ad 17) (ad 18) ra sb fh fl fn w0 (ad 23) (ad 24) (ad 25) (ad 26) len lat nxt fb fg ff bb ok 
