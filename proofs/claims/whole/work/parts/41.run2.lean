/-! a run's steps as numbers -/
def kR (M : Nat → Nat → Int32) : Nat → Nat := fun i => wv (M i) 8
def m_word (x1 x2 x3 x4 : Int32) : Nat := wv (fun j => if j = 0 then x4 else if j = 1 then x3 else if j = 7 then x1 else x2) 8
theorem m_word_of {u : Nat → Int32} {x1 x2 x3 x4 : Int32} (hu : ∀ j, j < 8 → u j = x2) : wv (upd (upd (upd u 7 x1) 1 x3) 0 x4) 8 = m_word x1 x2 x3 x4 := by
  refine wv_congr (fun j hj => ?_)
  by_cases h0 : j = 0
  · subst h0; rw [pk_us, if_pos rfl]
  rw [pk_un h0, if_neg h0]
  by_cases h1 : j = 1
  · subst h1; rw [pk_us, if_pos rfl]
  rw [pk_un h1, if_neg h1]
  by_cases h2 : j = 7
  · subst h2; rw [pk_us, if_pos rfl]
  rw [pk_un h2, if_neg h2, hu j hj]
theorem kR_put {M M' : Nat → Nat → Int32} {cnt X : Nat} {f : Nat → Int32} (hf : wv f 8 = X) (h : ∀ i, i < 16 → ∀ j, j < 8 → M' i j = if i = cnt then f j else M i j) : ∀ i, i < 16 → kR M' i = va_up (kR M) cnt X i := by
  intro i hi
  by_cases e : i = cnt
  · subst e
    rw [va_up_self, ← hf]
    exact wv_congr (fun j hj => by rw [h i hi j hj, if_pos rfl])
  · rw [va_up_ne _ _ e]
    exact wv_congr (fun j hj => by rw [h i hi j hj, if_neg e])
theorem kR_put1 {M : Nat → Nat → Int32} {cnt X : Nat} {f : Nat → Int32} {r : Int32} {u : Nat × (Nat → Nat → Int32)} (hc : cnt < 16) (hf : wv f 8 = X) (h : (cnt < 16 ∧ r = nI 1 ∧ u.1 = cnt + 1 ∧ ∀ i, i < 16 → ∀ j, j < 8 → u.2 i j = if i = cnt then f j else M i j) ∨ (cnt = 16 ∧ r = nI 0 ∧ u.1 = cnt ∧ u.2 = M)) : u.1 = cnt + 1 ∧ ∀ i, i < 16 → kR u.2 i = va_up (kR M) cnt X i := by
  rcases h with ⟨_, _, h3, h4⟩ | ⟨h, _⟩
  · exact ⟨h3, kR_put hf h4⟩
  · omega
theorem up_congr {s s' u : Nat → Nat} {k X : Nat} (h : ∀ i, i < 16 → u i = va_up s k X i) (h0 : ∀ i, i < 16 → s i = s' i) : ∀ i, i < 16 → u i = va_up s' k X i := by
  intro i hi
  rw [h i hi]
  by_cases e : i = k
  · subst e; rw [va_up_self, va_up_self]
  · rw [va_up_ne _ _ e, va_up_ne _ _ e, h0 i hi]
theorem b255 (x : Nat → Int32) : x 0 &&& nI 255 = nI (wv x 8 % 256) := by
  refine uw_inj ?_
  have h := wv_byte (f := x) (j := 31) (by decide)
  have h : uw (x 0) / 2 ^ 0 % 256 = wv x 8 / 2 ^ 0 % 256 := h
  rw [Nat.pow_zero, Nat.div_one, Nat.div_one] at h
  rw [uw_and, uw_nI' (by decide), uw_nI' (by omega), ← h, Nat.and_two_pow_sub_one_eq_mod _ 8]
def m_top (stk : Nat → Nat) (hgt t : Nat) : Nat := if t < hgt then stk (hgt - 1 - t) else 0
def m_do (b : Nat → Nat) (o gas ctr siz hgt A B C : Nat) (stk mem : Nat → Nat) : Nat × Nat × (Nat → Nat) × (Nat → Nat) :=
  if 144 ≤ o then (ctr + 1 + m_numl o, hgt, va_up (va_up stk (hgt - 1) (stk (hgt - (o - 142)))) (hgt - (o - 142)) (stk (hgt - 1)), mem)
  else if 128 ≤ o then (ctr + 1 + m_numl o, hgt + 1, va_up stk hgt (stk (hgt - (o - 127))), mem)
  else (if m_jumps o B then A else ctr + 1 + m_numl o, hgt - m_takes o + m_gives o, if m_gives o = 1 then va_up stk (hgt - m_takes o) (m_res b o gas ctr siz A B C mem) else stk, m_mem o A B mem)
def m_go (len : Nat) (b : Nat → Nat) : mS → mS := fun (_, gas, ctr, siz, hgt, frm, ret, stk, mem) =>
  let o := b ctr
  let A := m_top stk hgt 0
  let B := m_top stk hgt 1
  let C := m_top stk hgt 2
  let t := m_fault len b o gas siz hgt A B
  let gas' := gas - m_price o siz (m_used o A B)
  let siz' := m_grown siz (m_used o A B)
  if t ≠ 0 then (t, (if t = 4 then 0 else gas), ctr, siz, hgt, frm, ret, stk, mem)
  else if o = 0 then (1, gas', ctr, siz', hgt, frm, ret, stk, mem)
  else if o = 243 then (2, gas', ctr, siz', hgt - 2, A, B, stk, mem)
  else let D := m_do b o gas' ctr siz' hgt A B C stk mem
    (0, gas', D.1, siz', D.2.1, frm, ret, D.2.2.1, D.2.2.2)
theorem ff_7 {len : Nat} {b : Nat → Nat} {o gas siz hgt A B : Nat} (hk : m_known o = false) : m_fault len b o gas siz hgt A B = 7 := by unfold m_fault; rw [if_pos hk]
theorem ff_5 {len : Nat} {b : Nat → Nat} {o gas siz hgt A B : Nat} (hk : m_known o = true) (h : hgt < m_takes o) : m_fault len b o gas siz hgt A B = 5 := by unfold m_fault; rw [if_neg (by rw [hk]; decide), if_pos h]
theorem ff_6 {len : Nat} {b : Nat → Nat} {o gas siz hgt A B : Nat} (hk : m_known o = true) (h : ¬ hgt < m_takes o) (h2 : 16 < hgt - m_takes o + m_gives o) : m_fault len b o gas siz hgt A B = 6 := by unfold m_fault; rw [if_neg (by rw [hk]; decide), if_neg h, if_pos h2]
theorem ff_8 {len : Nat} {b : Nat → Nat} {o gas siz hgt A B : Nat} (hk : m_known o = true) (h : ¬ hgt < m_takes o) (h2 : ¬ 16 < hgt - m_takes o + m_gives o) (h3 : 160 < m_usedC o A B) : m_fault len b o gas siz hgt A B = 8 := by
  unfold m_fault; rw [if_neg (by rw [hk]; decide), if_neg h, if_neg h2, if_pos (m_usedC_gt.mp h3)]
theorem ff_4 {len : Nat} {b : Nat → Nat} {o gas siz hgt A B : Nat} (hs : siz % 32 = 0) (hk : m_known o = true) (h : ¬ hgt < m_takes o) (h2 : ¬ 16 < hgt - m_takes o + m_gives o) (h3 : ¬ 160 < m_usedC o A B) (h4 : gas < m_cost o + 3 * ((m_usedC o A B + 31) / 32 - siz / 32)) : m_fault len b o gas siz hgt A B = 4 := by
  have e : ¬ 160 < m_used o A B := fun q => h3 (m_usedC_gt.mpr q)
  rw [m_price_eq hs, m_usedC_eq e] at h4
  unfold m_fault; rw [if_neg (by rw [hk]; decide), if_neg h, if_neg h2, if_neg e, if_pos h4]
theorem ff_3 {len : Nat} {b : Nat → Nat} {o gas siz hgt A B : Nat} (hs : siz % 32 = 0) (hk : m_known o = true) (h : ¬ hgt < m_takes o) (h2 : ¬ 16 < hgt - m_takes o + m_gives o) (h3 : ¬ 160 < m_usedC o A B) (h4 : ¬ gas < m_cost o + 3 * ((m_usedC o A B + 31) / 32 - siz / 32)) (h5 : m_jumps o B = true) (h6 : m_marked len b A = false) : m_fault len b o gas siz hgt A B = 3 := by
  have e : ¬ 160 < m_used o A B := fun q => h3 (m_usedC_gt.mpr q)
  rw [m_price_eq hs, m_usedC_eq e] at h4
  unfold m_fault; rw [if_neg (by rw [hk]; decide), if_neg h, if_neg h2, if_neg e, if_neg h4, h5, h6]; rfl
theorem ff_0 {len : Nat} {b : Nat → Nat} {o gas siz hgt A B : Nat} (hs : siz % 32 = 0) (hk : m_known o = true) (h : ¬ hgt < m_takes o) (h2 : ¬ 16 < hgt - m_takes o + m_gives o) (h3 : ¬ 160 < m_usedC o A B) (h4 : ¬ gas < m_cost o + 3 * ((m_usedC o A B + 31) / 32 - siz / 32)) (h5 : m_jumps o B = false ∨ m_marked len b A = true) : m_fault len b o gas siz hgt A B = 0 := by
  have e : ¬ 160 < m_used o A B := fun q => h3 (m_usedC_gt.mpr q)
  rw [m_price_eq hs, m_usedC_eq e] at h4
  unfold m_fault; rw [if_neg (by rw [hk]; decide), if_neg h, if_neg h2, if_neg e, if_neg h4]
  rcases h5 with h5 | h5
  · rw [h5]; rfl
  · rw [h5, Bool.not_true, Bool.and_false]; rfl
/-- no fault -/
theorem ff_ok {len : Nat} {b : Nat → Nat} {o gas siz hgt A B : Nat} (h : m_fault len b o gas siz hgt A B = 0) : m_known o = true ∧ m_takes o ≤ hgt ∧ hgt - m_takes o + m_gives o ≤ 16 ∧ m_used o A B ≤ 160 ∧ m_price o siz (m_used o A B) ≤ gas ∧ (m_jumps o B = true → m_marked len b A = true) := by
  revert h
  unfold m_fault
  by_cases h1 : m_known o = false
  · rw [if_pos h1]; intro h; exact absurd h (by decide)
  rw [if_neg h1]
  by_cases h2 : hgt < m_takes o
  · rw [if_pos h2]; intro h; exact absurd h (by decide)
  rw [if_neg h2]
  by_cases h3 : 16 < hgt - m_takes o + m_gives o
  · rw [if_pos h3]; intro h; exact absurd h (by decide)
  rw [if_neg h3]
  by_cases h4 : 160 < m_used o A B
  · rw [if_pos h4]; intro h; exact absurd h (by decide)
  rw [if_neg h4]
  by_cases h5 : gas < m_price o siz (m_used o A B)
  · rw [if_pos h5]; intro h; exact absurd h (by decide)
  rw [if_neg h5]
  by_cases h6 : (m_jumps o B && !m_marked len b A) = true
  · rw [if_pos h6]; intro h; exact absurd h (by decide)
  intro _
  refine ⟨by revert h1; cases m_known o <;> decide, by omega, by omega, by omega, by omega, fun q => ?_⟩
  revert h6; rw [q]; cases m_marked len b A <;> decide
theorem ff_le {len : Nat} {b : Nat → Nat} {o gas siz hgt A B : Nat} : m_fault len b o gas siz hgt A B ≤ 8 := by
  unfold m_fault
  repeat' split
  all_goals omega
theorem mm_id {o A B : Nat} {mem : Nat → Nat} (h1 : o ≠ 82) (h2 : o ≠ 83) : m_mem o A B mem = mem := by
  funext k; unfold m_mem; rw [if_neg (fun q => h2 q.1), if_neg (fun q => h1 q.1)]
theorem md_hi {b : Nat → Nat} {o gas ctr siz hgt A B C : Nat} {stk mem : Nat → Nat} (h : 144 ≤ o) : m_do b o gas ctr siz hgt A B C stk mem = (ctr + 1 + m_numl o, hgt, va_up (va_up stk (hgt - 1) (stk (hgt - (o - 142)))) (hgt - (o - 142)) (stk (hgt - 1)), mem) := if_pos h
theorem md_rep {b : Nat → Nat} {o gas ctr siz hgt A B C : Nat} {stk mem : Nat → Nat} (h : ¬ 144 ≤ o) (h2 : 128 ≤ o) : m_do b o gas ctr siz hgt A B C stk mem = (ctr + 1 + m_numl o, hgt + 1, va_up stk hgt (stk (hgt - (o - 127))), mem) := by unfold m_do; rw [if_neg h, if_pos h2]
theorem md_lo {b : Nat → Nat} {o gas ctr siz hgt A B C : Nat} {stk mem : Nat → Nat} (h2 : ¬ 128 ≤ o) : m_do b o gas ctr siz hgt A B C stk mem = (if m_jumps o B then A else ctr + 1 + m_numl o, hgt - m_takes o + m_gives o, if m_gives o = 1 then va_up stk (hgt - m_takes o) (m_res b o gas ctr siz A B C mem) else stk, m_mem o A B mem) := by unfold m_do; rw [if_neg (by omega), if_neg h2]
theorem md_put {b : Nat → Nat} {o gas ctr siz hgt A B C X : Nat} {stk mem : Nat → Nat} (h2 : ¬ 128 ≤ o) (hj : m_jumps o B = false) (hg : m_gives o = 1) (h3 : o ≠ 82) (h4 : o ≠ 83) (hx : m_res b o gas ctr siz A B C mem = X) : m_do b o gas ctr siz hgt A B C stk mem = (ctr + 1 + m_numl o, hgt - m_takes o + 1, va_up stk (hgt - m_takes o) X, mem) := by
  rw [md_lo h2, hj, hg, if_pos rfl, hx, mm_id h3 h4]; rfl
theorem k_lowop : ∀ o, o < 256 → m_known o = true → 0 < o → o < 32 → m_gives o = 1 ∧ m_numl o = 0 := by decide +kernel
theorem k_numop : ∀ o, o < 256 → 96 ≤ o → o < 128 → m_gives o = 1 ∧ m_takes o = 0 := by decide +kernel
theorem k_exch : ∀ o, o < 256 → m_known o = true → 144 ≤ o → o ≠ 243 → m_takes o = o - 142 ∧ o < 160 ∧ m_gives o = o - 142 := by decide +kernel
theorem k_rep : ∀ o, o < 256 → 128 ≤ o → o < 144 → m_takes o = o - 127 ∧ m_gives o = o - 126 := by decide +kernel
theorem k_mach_ : ∀ o, o < 96 → (m_known o = true ∧ 32 ≤ o) → ([80, 81, 82, 83, 86, 87, 88, 89, 90, 91] : List Nat).contains o = true := by decide +kernel
theorem k_mach (o : Nat) (hk : m_known o = true) (h0 : 32 ≤ o) (h1 : o < 96) : o ∈ ([80, 81, 82, 83, 86, 87, 88, 89, 90, 91] : List Nat) := List.contains_iff_mem.mp (k_mach_ o h1 ⟨hk, h0⟩)
theorem k_mach0 : ∀ o, o < 256 → 32 ≤ o → o < 96 → m_numl o = 0 := by decide +kernel
theorem m_res_lo {b : Nat → Nat} {o gas ctr siz A B C : Nat} {mem : Nat → Nat} (h : o < 32) : m_res b o gas ctr siz A B C mem = m_op o A B C := if_pos h
theorem m_res_num {b : Nat → Nat} {o gas ctr siz A B C : Nat} {mem : Nat → Nat} (h : 96 ≤ o) : m_res b o gas ctr siz A B C mem = m_num b (ctr + 1) (m_numl o) := by
  unfold m_res; rw [if_neg (by omega), if_neg (by omega), if_neg (by omega), if_neg (by omega), if_neg (by omega)]

abbrev y_Ru_putWord : MethodName := ⟨"WideStack$Run", "putWord", "(IIII)Z"⟩
theorem d_Ru_putWord_0 : decode prog_7_method_8_code 0 = .ok (.aload_n 0, 1) := by decide +kernel
theorem d_Ru_putWord_1 : decode prog_7_method_8_code 1 = .ok (.getfield 45, 3) := by decide +kernel
theorem d_Ru_putWord_4 : decode prog_7_method_8_code 4 = .ok (.ifCond .eq 10, 3) := by decide +kernel
theorem d_Ru_putWord_7 : decode prog_7_method_8_code 7 = .ok (.aload_n 0, 1) := by decide +kernel
theorem d_Ru_putWord_8 : decode prog_7_method_8_code 8 = .ok (.getfield 56, 3) := by decide +kernel
theorem d_Ru_putWord_11 : decode prog_7_method_8_code 11 = .ok (.ifCond .eq 5, 3) := by decide +kernel
theorem d_Ru_putWord_14 : decode prog_7_method_8_code 14 = .ok (.iconst 0, 1) := by decide +kernel
theorem d_Ru_putWord_15 : decode prog_7_method_8_code 15 = .ok (.ireturn, 1) := by decide +kernel
theorem d_Ru_putWord_16 : decode prog_7_method_8_code 16 = .ok (.aload_n 0, 1) := by decide +kernel
theorem d_Ru_putWord_17 : decode prog_7_method_8_code 17 = .ok (.getfield 42, 3) := by decide +kernel
theorem d_Ru_putWord_20 : decode prog_7_method_8_code 20 = .ok (.iload_n 2, 1) := by decide +kernel
theorem d_Ru_putWord_21 : decode prog_7_method_8_code 21 = .ok (.invokestatic 81, 3) := by decide +kernel
theorem d_Ru_putWord_24 : decode prog_7_method_8_code 24 = .ok (.aload_n 0, 1) := by decide +kernel
theorem d_Ru_putWord_25 : decode prog_7_method_8_code 25 = .ok (.getfield 42, 3) := by decide +kernel
theorem d_Ru_putWord_28 : decode prog_7_method_8_code 28 = .ok (.bipush 7, 2) := by decide +kernel
theorem d_Ru_putWord_30 : decode prog_7_method_8_code 30 = .ok (.iload_n 1, 1) := by decide +kernel
theorem d_Ru_putWord_31 : decode prog_7_method_8_code 31 = .ok (.iastore, 1) := by decide +kernel
theorem d_Ru_putWord_32 : decode prog_7_method_8_code 32 = .ok (.aload_n 0, 1) := by decide +kernel
theorem d_Ru_putWord_33 : decode prog_7_method_8_code 33 = .ok (.getfield 42, 3) := by decide +kernel
theorem d_Ru_putWord_36 : decode prog_7_method_8_code 36 = .ok (.iconst 1, 1) := by decide +kernel
theorem d_Ru_putWord_37 : decode prog_7_method_8_code 37 = .ok (.iload_n 3, 1) := by decide +kernel
theorem d_Ru_putWord_38 : decode prog_7_method_8_code 38 = .ok (.iastore, 1) := by decide +kernel
theorem d_Ru_putWord_39 : decode prog_7_method_8_code 39 = .ok (.aload_n 0, 1) := by decide +kernel
theorem d_Ru_putWord_40 : decode prog_7_method_8_code 40 = .ok (.getfield 42, 3) := by decide +kernel
theorem d_Ru_putWord_43 : decode prog_7_method_8_code 43 = .ok (.iconst 0, 1) := by decide +kernel
theorem d_Ru_putWord_44 : decode prog_7_method_8_code 44 = .ok (.iload 4, 2) := by decide +kernel
theorem d_Ru_putWord_46 : decode prog_7_method_8_code 46 = .ok (.iastore, 1) := by decide +kernel
theorem d_Ru_putWord_47 : decode prog_7_method_8_code 47 = .ok (.aload_n 0, 1) := by decide +kernel
theorem d_Ru_putWord_48 : decode prog_7_method_8_code 48 = .ok (.getfield 10, 3) := by decide +kernel
theorem d_Ru_putWord_51 : decode prog_7_method_8_code 51 = .ok (.aload_n 0, 1) := by decide +kernel
theorem d_Ru_putWord_52 : decode prog_7_method_8_code 52 = .ok (.getfield 42, 3) := by decide +kernel
theorem d_Ru_putWord_55 : decode prog_7_method_8_code 55 = .ok (.invokevirtual 87, 3) := by decide +kernel
theorem d_Ru_putWord_58 : decode prog_7_method_8_code 58 = .ok (.ireturn, 1) := by decide +kernel
def rm_c_R_putWord : Room := { frames := 3, cells := 0, slots := 0, locals := 82 }
set_option maxHeartbeats 4000000 in
set_option maxRecDepth 100000 in
theorem c_R_putWord (l : Launch) (E : kE) (rn k o ca a b v t gas ctr en rf rc : Nat) (sb : Bool) (kw kx cnt : Nat) (ra : Nat → Nat) (fx : Nat → Int32) (M : Nat → Nat → Int32) (z : Nat → Int32) (x1 x2 x3 x4 : Int32) (hc : cnt ≤ 16) (hen : en ≤ 8) : Ki l y_Ru_putWord (kW y_Ru_putWord prog_7_method_8_code 5 (some .boolean)) rm_c_R_putWord E [.ref rn, .int x1, .int x2, .int x3, .int x4] ([(rn, .inr (5, [.ref k, .ref o, .ref ca, .ref a, .ref b, .ref v, .ref t, .int (kb sb), .int (nI gas), .int (nI ctr), .int (nI en), .int (nI rf), .int (nI rc)])), (k, .inr (1, [.ref kw, .ref kx, .int (nI cnt)])), (kw, .inl (E.2.1 2, 16, .inr (.inr (.inr (.inr (fun i => if i < 16 then some (ra i) else none)))))), (kx, .inl (E.2.1 0, 8, .inl fx)), (t, .inl (E.2.1 0, 8, .inl z))] ++ k_rows E ra M) (S := Nat × (Nat → Nat → Int32) × (Nat → Int32)) (fun r u => (sb = true ∧ en = 0 ∧ cnt < 16 ∧ r = nI 1 ∧ u.1 = cnt + 1 ∧ ∀ i, i < 16 → kR u.2.1 i = va_up (kR M) cnt (m_word x1 x2 x3 x4) i) ∨ ((sb = false ∨ en ≠ 0 ∨ cnt = 16) ∧ r = nI 0 ∧ u.1 = cnt ∧ u.2.1 = M)) (fun u => ([(rn, .inr (5, [.ref k, .ref o, .ref ca, .ref a, .ref b, .ref v, .ref t, .int (kb sb), .int (nI gas), .int (nI ctr), .int (nI en), .int (nI rf), .int (nI rc)])), (k, .inr (1, [.ref kw, .ref kx, .int (nI u.1)])), (kw, .inl (E.2.1 2, 16, .inr (.inr (.inr (.inr (fun i => if i < 16 then some (ra i) else none)))))), (kx, .inl (E.2.1 0, 8, .inl fx)), (t, .inl (E.2.1 0, 8, .inl u.2.2))] ++ k_rows E ra u.2.1)) := by
  refine Ki.ofZ (cc := prog_7_method_8_code) (maxL := 5) (by decide) (Nat.le_of_ble_eq_true rfl) ?_
  intro p e s m args below meth c A ls Q hx hb hts hown hml hK hG hA hP hD hS hl hret
  have hl : lv_has ls 5 [(0, .ref rn), (1, .int x1), (2, .int x2), (3, .int x3), (4, .int x4)] := hl
  refine lv_aload_n hx hb d_Ru_putWord_0 rfl (lv_at hl 0 rfl) ?_
  refine va_get (D := E.1) (ci := 5) (v := .int (kb sb)) (C := "WideStack$Run") (T := T_Ru) (N := 13) hx hb hts in_Ru hown hK hP 0 rfl rfl 7 (by decide) (hts _ t_193) (fun _ h9 => h9) rfl d_Ru_putWord_1 ?_
  refine lv_if_eq (tgt := 14) hx hb d_Ru_putWord_4 (by decide) (fun h4 => ?_) (fun h4 => ?_)
  · refine lv_iconst (v := nI 0) hx hb d_Ru_putWord_14 (by decide) ?_
    first | exact hret _ ls _ _ _ (cnt, M, z) d_Ru_putWord_15 (by decide) (Or.inr ⟨Or.inl (kb_0.mp h4), rfl, rfl, rfl⟩) hP hS | exact hret _ ls _ _ _ (cnt, M, z) d_Ru_putWord_15 (by decide) (Or.inr ⟨Or.inr (Or.inl h11), rfl, rfl, rfl⟩) hP hS
  · refine lv_aload_n hx hb d_Ru_putWord_7 rfl (lv_at hl 0 rfl) ?_
    refine va_get (D := E.1) (ci := 5) (v := .int (nI en)) (C := "WideStack$Run") (T := T_Ru) (N := 13) hx hb hts in_Ru hown hK hP 0 rfl rfl 10 (by decide) (hts _ t_196) (fun _ h9 => h9) rfl d_Ru_putWord_8 ?_
    refine kn_ifeq (tgt := 16) hx hb (by omega) d_Ru_putWord_11 (by decide) (fun h11 => ?_) (fun h11 => ?_)
    · refine lv_aload_n hx hb d_Ru_putWord_16 rfl (lv_at hl 0 rfl) ?_
      refine va_get (D := E.1) (ci := 5) (v := .ref t) (C := "WideStack$Run") (T := T_Ru) (N := 13) hx hb hts in_Ru hown hK hP 0 rfl rfl 6 (by decide) (hts _ t_192) (fun _ h9 => h9) rfl d_Ru_putWord_17 ?_
      refine lv_iload_n hx hb d_Ru_putWord_20 rfl (lv_at hl 2 rfl) ?_
      refine k_Sv (As := [.ref t, .int x2]) (rest := []) ⟨hx, hb, hml, hown, hts⟩ (c_fill l E t 8 z x2 (by decide)) (k_cwS 2 hts t_308 t_233 t_70 t_234 (by decide +kernel) ⟨Nat.le_of_ble_eq_true rfl, Nat.le_of_ble_eq_true rfl⟩) hK hG hA hP hD hS [4] rfl (by decide) (fun _ => rfl) rfl hl.1 rfl (Nat.le_of_ble_eq_true rfl) d_Ru_putWord_21 ⟨Nat.zero_le _, Nat.zero_le _⟩ (fun u0 H locs hu0 hP hD hS => ?_)
      have hP : va_P E.1 vwCl ([(rn, .inr (5, [.ref k, .ref o, .ref ca, .ref a, .ref b, .ref v, .ref t, .int (kb sb), .int (nI gas), .int (nI ctr), .int (nI en), .int (nI rf), .int (nI rc)])), (k, .inr (1, [.ref kw, .ref kx, .int (nI cnt)])), (kw, .inl (E.2.1 2, 16, .inr (.inr (.inr (.inr (fun i => if i < 16 then some (ra i) else none)))))), (kx, .inl (E.2.1 0, 8, .inl fx)), (t, .inl (E.2.1 0, 8, .inl u0))] ++ k_rows E ra M) H := hP
      have hD : va_D A ([(rn, .inr (5, [.ref k, .ref o, .ref ca, .ref a, .ref b, .ref v, .ref t, .int (kb sb), .int (nI gas), .int (nI ctr), .int (nI en), .int (nI rf), .int (nI rc)])), (k, .inr (1, [.ref kw, .ref kx, .int (nI cnt)])), (kw, .inl (E.2.1 2, 16, .inr (.inr (.inr (.inr (fun i => if i < 16 then some (ra i) else none)))))), (kx, .inl (E.2.1 0, 8, .inl fx)), (t, .inl (E.2.1 0, 8, .inl u0))] ++ k_rows E ra M) := hD
      refine lv_aload_n hx hb d_Ru_putWord_24 rfl (lv_at hl 0 rfl) ?_
      refine va_get (D := E.1) (ci := 5) (v := .ref t) (C := "WideStack$Run") (T := T_Ru) (N := 13) hx hb hts in_Ru hown hK hP 0 rfl rfl 6 (by decide) (hts _ t_192) (fun _ h9 => h9) rfl d_Ru_putWord_25 ?_
      refine lv_bipush (v := nI 7) hx hb d_Ru_putWord_28 (by decide) ?_
      refine lv_iload_n hx hb d_Ru_putWord_30 rfl (lv_at hl 1 rfl) ?_
      refine k_iast hx hb hK hP hD hS 4 rfl (i := 7) (by decide) (by omega) d_Ru_putWord_31 (fun H locs hP hD hS => ?_)
      have hP : va_P E.1 vwCl ([(rn, .inr (5, [.ref k, .ref o, .ref ca, .ref a, .ref b, .ref v, .ref t, .int (kb sb), .int (nI gas), .int (nI ctr), .int (nI en), .int (nI rf), .int (nI rc)])), (k, .inr (1, [.ref kw, .ref kx, .int (nI cnt)])), (kw, .inl (E.2.1 2, 16, .inr (.inr (.inr (.inr (fun i => if i < 16 then some (ra i) else none)))))), (kx, .inl (E.2.1 0, 8, .inl fx)), (t, .inl (E.2.1 0, 8, .inl (upd u0 7 x1)))] ++ k_rows E ra M) H := hP
      have hD : va_D A ([(rn, .inr (5, [.ref k, .ref o, .ref ca, .ref a, .ref b, .ref v, .ref t, .int (kb sb), .int (nI gas), .int (nI ctr), .int (nI en), .int (nI rf), .int (nI rc)])), (k, .inr (1, [.ref kw, .ref kx, .int (nI cnt)])), (kw, .inl (E.2.1 2, 16, .inr (.inr (.inr (.inr (fun i => if i < 16 then some (ra i) else none)))))), (kx, .inl (E.2.1 0, 8, .inl fx)), (t, .inl (E.2.1 0, 8, .inl (upd u0 7 x1)))] ++ k_rows E ra M) := hD
      refine lv_aload_n hx hb d_Ru_putWord_32 rfl (lv_at hl 0 rfl) ?_
      refine va_get (D := E.1) (ci := 5) (v := .ref t) (C := "WideStack$Run") (T := T_Ru) (N := 13) hx hb hts in_Ru hown hK hP 0 rfl rfl 6 (by decide) (hts _ t_192) (fun _ h9 => h9) rfl d_Ru_putWord_33 ?_
      refine lv_iconst (v := nI 1) hx hb d_Ru_putWord_36 (by decide) ?_
      refine lv_iload_n hx hb d_Ru_putWord_37 rfl (lv_at hl 3 rfl) ?_
      refine k_iast hx hb hK hP hD hS 4 rfl (i := 1) (by decide) (by omega) d_Ru_putWord_38 (fun H locs hP hD hS => ?_)
      have hP : va_P E.1 vwCl ([(rn, .inr (5, [.ref k, .ref o, .ref ca, .ref a, .ref b, .ref v, .ref t, .int (kb sb), .int (nI gas), .int (nI ctr), .int (nI en), .int (nI rf), .int (nI rc)])), (k, .inr (1, [.ref kw, .ref kx, .int (nI cnt)])), (kw, .inl (E.2.1 2, 16, .inr (.inr (.inr (.inr (fun i => if i < 16 then some (ra i) else none)))))), (kx, .inl (E.2.1 0, 8, .inl fx)), (t, .inl (E.2.1 0, 8, .inl (upd (upd u0 7 x1) 1 x3)))] ++ k_rows E ra M) H := hP
      have hD : va_D A ([(rn, .inr (5, [.ref k, .ref o, .ref ca, .ref a, .ref b, .ref v, .ref t, .int (kb sb), .int (nI gas), .int (nI ctr), .int (nI en), .int (nI rf), .int (nI rc)])), (k, .inr (1, [.ref kw, .ref kx, .int (nI cnt)])), (kw, .inl (E.2.1 2, 16, .inr (.inr (.inr (.inr (fun i => if i < 16 then some (ra i) else none)))))), (kx, .inl (E.2.1 0, 8, .inl fx)), (t, .inl (E.2.1 0, 8, .inl (upd (upd u0 7 x1) 1 x3)))] ++ k_rows E ra M) := hD
      refine lv_aload_n hx hb d_Ru_putWord_39 rfl (lv_at hl 0 rfl) ?_
      refine va_get (D := E.1) (ci := 5) (v := .ref t) (C := "WideStack$Run") (T := T_Ru) (N := 13) hx hb hts in_Ru hown hK hP 0 rfl rfl 6 (by decide) (hts _ t_192) (fun _ h9 => h9) rfl d_Ru_putWord_40 ?_
      refine lv_iconst (v := nI 0) hx hb d_Ru_putWord_43 (by decide) ?_
      refine lv_iload hx hb d_Ru_putWord_44 (lv_at hl 4 rfl) ?_
      refine k_iast hx hb hK hP hD hS 4 rfl (i := 0) (by decide) (by omega) d_Ru_putWord_46 (fun H locs hP hD hS => ?_)
      have hP : va_P E.1 vwCl ([(rn, .inr (5, [.ref k, .ref o, .ref ca, .ref a, .ref b, .ref v, .ref t, .int (kb sb), .int (nI gas), .int (nI ctr), .int (nI en), .int (nI rf), .int (nI rc)])), (k, .inr (1, [.ref kw, .ref kx, .int (nI cnt)])), (kw, .inl (E.2.1 2, 16, .inr (.inr (.inr (.inr (fun i => if i < 16 then some (ra i) else none)))))), (kx, .inl (E.2.1 0, 8, .inl fx)), (t, .inl (E.2.1 0, 8, .inl (upd (upd (upd u0 7 x1) 1 x3) 0 x4)))] ++ k_rows E ra M) H := hP
      have hD : va_D A ([(rn, .inr (5, [.ref k, .ref o, .ref ca, .ref a, .ref b, .ref v, .ref t, .int (kb sb), .int (nI gas), .int (nI ctr), .int (nI en), .int (nI rf), .int (nI rc)])), (k, .inr (1, [.ref kw, .ref kx, .int (nI cnt)])), (kw, .inl (E.2.1 2, 16, .inr (.inr (.inr (.inr (fun i => if i < 16 then some (ra i) else none)))))), (kx, .inl (E.2.1 0, 8, .inl fx)), (t, .inl (E.2.1 0, 8, .inl (upd (upd (upd u0 7 x1) 1 x3) 0 x4)))] ++ k_rows E ra M) := hD
      refine lv_aload_n hx hb d_Ru_putWord_47 rfl (lv_at hl 0 rfl) ?_
      refine va_get (D := E.1) (ci := 5) (v := .ref k) (C := "WideStack$Run") (T := T_Ru) (N := 13) hx hb hts in_Ru hown hK hP 0 rfl rfl 0 (by decide) (hts _ t_186) (fun _ h9 => h9) rfl d_Ru_putWord_48 ?_
      refine lv_aload_n hx hb d_Ru_putWord_51 rfl (lv_at hl 0 rfl) ?_
      refine va_get (D := E.1) (ci := 5) (v := .ref t) (C := "WideStack$Run") (T := T_Ru) (N := 13) hx hb hts in_Ru hown hK hP 0 rfl rfl 6 (by decide) (hts _ t_192) (fun _ h9 => h9) rfl d_Ru_putWord_52 ?_
      refine k_ViT (As := [.ref t]) (rest := []) ⟨hx, hb, hml, hown, hts⟩ (c_St_put l E k kw kx cnt ra fx M t (upd (upd (upd u0 7 x1) 1 x3) 0 x4) (by omega)) (k_cwV 1 hts t_309 t_310 t_311 t_65 t_312 (by decide +kernel) ⟨Nat.le_of_ble_eq_true rfl, Nat.le_of_ble_eq_true rfl⟩) hK hG hA hP hD hS [1, 2, 3, 4] rfl (by decide) 1 rfl rfl (fun _ => rfl) rfl hl.1 rfl (Nat.le_of_ble_eq_true rfl) d_Ru_putWord_55 ⟨Nat.zero_le _, Nat.zero_le _⟩ (fun r2 u2 H locs hu2 hP hD hS => ?_)
      have hP : va_P E.1 vwCl ([(rn, .inr (5, [.ref k, .ref o, .ref ca, .ref a, .ref b, .ref v, .ref t, .int (kb sb), .int (nI gas), .int (nI ctr), .int (nI en), .int (nI rf), .int (nI rc)])), (k, .inr (1, [.ref kw, .ref kx, .int (nI u2.1)])), (kw, .inl (E.2.1 2, 16, .inr (.inr (.inr (.inr (fun i => if i < 16 then some (ra i) else none)))))), (kx, .inl (E.2.1 0, 8, .inl fx)), (t, .inl (E.2.1 0, 8, .inl (upd (upd (upd u0 7 x1) 1 x3) 0 x4)))] ++ k_rows E ra u2.2) H := hP
      have hD : va_D A ([(rn, .inr (5, [.ref k, .ref o, .ref ca, .ref a, .ref b, .ref v, .ref t, .int (kb sb), .int (nI gas), .int (nI ctr), .int (nI en), .int (nI rf), .int (nI rc)])), (k, .inr (1, [.ref kw, .ref kx, .int (nI u2.1)])), (kw, .inl (E.2.1 2, 16, .inr (.inr (.inr (.inr (fun i => if i < 16 then some (ra i) else none)))))), (kx, .inl (E.2.1 0, 8, .inl fx)), (t, .inl (E.2.1 0, 8, .inl (upd (upd (upd u0 7 x1) 1 x3) 0 x4)))] ++ k_rows E ra u2.2) := hD
      rcases hu2 with ⟨e1, e2, e3, e4⟩ | ⟨e1, e2, e3, e4⟩
      · exact hret _ ls _ _ _ (u2.1, u2.2, (upd (upd (upd u0 7 x1) 1 x3) 0 x4)) d_Ru_putWord_58 (by rw [e2]; decide) (Or.inl ⟨kb_n0 h4, h11, e1, e2, e3, kR_put (m_word_of hu0) e4⟩) hP hS
      · exact hret _ ls _ _ _ (u2.1, u2.2, (upd (upd (upd u0 7 x1) 1 x3) 0 x4)) d_Ru_putWord_58 (by rw [e2]; decide) (Or.inr ⟨Or.inr (Or.inr e1), e2, e3, e4⟩) hP hS
    · refine lv_iconst (v := nI 0) hx hb d_Ru_putWord_14 (by decide) ?_
      first | exact hret _ ls _ _ _ (cnt, M, z) d_Ru_putWord_15 (by decide) (Or.inr ⟨Or.inl (kb_0.mp h4), rfl, rfl, rfl⟩) hP hS | exact hret _ ls _ _ _ (cnt, M, z) d_Ru_putWord_15 (by decide) (Or.inr ⟨Or.inr (Or.inl h11), rfl, rfl, rfl⟩) hP hS

abbrev y_Ru_findFault : MethodName := ⟨"WideStack$Run", "findFault", "(LWideStack$Program;I)I"⟩
theorem d_Ru_findFault_0 : decode prog_7_method_14_code 0 = .ok (.iload_n 2, 1) := by decide +kernel
theorem d_Ru_findFault_1 : decode prog_7_method_14_code 1 = .ok (.invokestatic 128, 3) := by decide +kernel
theorem d_Ru_findFault_4 : decode prog_7_method_14_code 4 = .ok (.ifCond .ne 6, 3) := by decide +kernel
theorem d_Ru_findFault_7 : decode prog_7_method_14_code 7 = .ok (.bipush 7, 2) := by decide +kernel
theorem d_Ru_findFault_9 : decode prog_7_method_14_code 9 = .ok (.ireturn, 1) := by decide +kernel
theorem d_Ru_findFault_10 : decode prog_7_method_14_code 10 = .ok (.aload_n 0, 1) := by decide +kernel
theorem d_Ru_findFault_11 : decode prog_7_method_14_code 11 = .ok (.getfield 10, 3) := by decide +kernel
theorem d_Ru_findFault_14 : decode prog_7_method_14_code 14 = .ok (.invokevirtual 73, 3) := by decide +kernel
theorem d_Ru_findFault_17 : decode prog_7_method_14_code 17 = .ok (.iload_n 2, 1) := by decide +kernel
theorem d_Ru_findFault_18 : decode prog_7_method_14_code 18 = .ok (.invokestatic 131, 3) := by decide +kernel
theorem d_Ru_findFault_21 : decode prog_7_method_14_code 21 = .ok (.isub, 1) := by decide +kernel
theorem d_Ru_findFault_22 : decode prog_7_method_14_code 22 = .ok (.istore_n 3, 1) := by decide +kernel
theorem d_Ru_findFault_23 : decode prog_7_method_14_code 23 = .ok (.iload_n 3, 1) := by decide +kernel
theorem d_Ru_findFault_24 : decode prog_7_method_14_code 24 = .ok (.ifCond .ge 5, 3) := by decide +kernel
theorem d_Ru_findFault_27 : decode prog_7_method_14_code 27 = .ok (.iconst 5, 1) := by decide +kernel
theorem d_Ru_findFault_28 : decode prog_7_method_14_code 28 = .ok (.ireturn, 1) := by decide +kernel
theorem d_Ru_findFault_29 : decode prog_7_method_14_code 29 = .ok (.iload_n 3, 1) := by decide +kernel
theorem d_Ru_findFault_30 : decode prog_7_method_14_code 30 = .ok (.iload_n 2, 1) := by decide +kernel
theorem d_Ru_findFault_31 : decode prog_7_method_14_code 31 = .ok (.invokestatic 134, 3) := by decide +kernel
theorem d_Ru_findFault_34 : decode prog_7_method_14_code 34 = .ok (.iadd, 1) := by decide +kernel
theorem d_Ru_findFault_35 : decode prog_7_method_14_code 35 = .ok (.bipush 16, 2) := by decide +kernel
theorem d_Ru_findFault_37 : decode prog_7_method_14_code 37 = .ok (.if_icmp .le 6, 3) := by decide +kernel
theorem d_Ru_findFault_40 : decode prog_7_method_14_code 40 = .ok (.bipush 6, 2) := by decide +kernel
theorem d_Ru_findFault_42 : decode prog_7_method_14_code 42 = .ok (.ireturn, 1) := by decide +kernel
theorem d_Ru_findFault_43 : decode prog_7_method_14_code 43 = .ok (.aload_n 0, 1) := by decide +kernel
theorem d_Ru_findFault_44 : decode prog_7_method_14_code 44 = .ok (.iload_n 2, 1) := by decide +kernel
theorem d_Ru_findFault_45 : decode prog_7_method_14_code 45 = .ok (.invokevirtual 137, 3) := by decide +kernel
theorem d_Ru_findFault_48 : decode prog_7_method_14_code 48 = .ok (.sipush 160, 3) := by decide +kernel
theorem d_Ru_findFault_51 : decode prog_7_method_14_code 51 = .ok (.if_icmp .le 6, 3) := by decide +kernel
theorem d_Ru_findFault_54 : decode prog_7_method_14_code 54 = .ok (.bipush 8, 2) := by decide +kernel
theorem d_Ru_findFault_56 : decode prog_7_method_14_code 56 = .ok (.ireturn, 1) := by decide +kernel
theorem d_Ru_findFault_57 : decode prog_7_method_14_code 57 = .ok (.aload_n 0, 1) := by decide +kernel
theorem d_Ru_findFault_58 : decode prog_7_method_14_code 58 = .ok (.iload_n 2, 1) := by decide +kernel
theorem d_Ru_findFault_59 : decode prog_7_method_14_code 59 = .ok (.invokevirtual 140, 3) := by decide +kernel
theorem d_Ru_findFault_62 : decode prog_7_method_14_code 62 = .ok (.aload_n 0, 1) := by decide +kernel
theorem d_Ru_findFault_63 : decode prog_7_method_14_code 63 = .ok (.getfield 49, 3) := by decide +kernel
theorem d_Ru_findFault_66 : decode prog_7_method_14_code 66 = .ok (.if_icmp .le 5, 3) := by decide +kernel
theorem d_Ru_findFault_69 : decode prog_7_method_14_code 69 = .ok (.iconst 4, 1) := by decide +kernel
theorem d_Ru_findFault_70 : decode prog_7_method_14_code 70 = .ok (.ireturn, 1) := by decide +kernel
theorem d_Ru_findFault_71 : decode prog_7_method_14_code 71 = .ok (.aload_n 0, 1) := by decide +kernel
theorem d_Ru_findFault_72 : decode prog_7_method_14_code 72 = .ok (.iload_n 2, 1) := by decide +kernel
theorem d_Ru_findFault_73 : decode prog_7_method_14_code 73 = .ok (.invokevirtual 143, 3) := by decide +kernel
theorem d_Ru_findFault_76 : decode prog_7_method_14_code 76 = .ok (.ifCond .eq 21, 3) := by decide +kernel
theorem d_Ru_findFault_79 : decode prog_7_method_14_code 79 = .ok (.aload_n 1, 1) := by decide +kernel
theorem d_Ru_findFault_80 : decode prog_7_method_14_code 80 = .ok (.aload_n 0, 1) := by decide +kernel
theorem d_Ru_findFault_81 : decode prog_7_method_14_code 81 = .ok (.getfield 32, 3) := by decide +kernel
theorem d_Ru_findFault_84 : decode prog_7_method_14_code 84 = .ok (.invokestatic 146, 3) := by decide +kernel
theorem d_Ru_findFault_87 : decode prog_7_method_14_code 87 = .ok (.invokevirtual 150, 3) := by decide +kernel
theorem d_Ru_findFault_90 : decode prog_7_method_14_code 90 = .ok (.ifCond .ne 7, 3) := by decide +kernel
theorem d_Ru_findFault_93 : decode prog_7_method_14_code 93 = .ok (.iconst 3, 1) := by decide +kernel
theorem d_Ru_findFault_94 : decode prog_7_method_14_code 94 = .ok (.goto 4, 3) := by decide +kernel
theorem d_Ru_findFault_97 : decode prog_7_method_14_code 97 = .ok (.iconst 0, 1) := by decide +kernel
theorem d_Ru_findFault_98 : decode prog_7_method_14_code 98 = .ok (.ireturn, 1) := by decide +kernel
def rm_c_R_findFault : Room := { frames := 4, cells := 0, slots := 0, locals := 85 }
set_option maxHeartbeats 4000000 in
set_option maxRecDepth 100000 in
theorem c_R_findFault (l : Launch) (E : kE) (rn k o ca a b v t gas ctr en rf rc : Nat) (sb : Bool) (p0 : Nat) (ho : p0 < 256) (kw kx cnt ob siz : Nat) (f x fm : Nat → Int32) (q qb qg qf len : Nat) (lat nxt : Int32) (fb fg ff : Nat → Int32) (bb : Nat → Nat) (ok : okP len bb fb fg ff lat nxt) (hc : cnt ≤ 16) (hs : siz ≤ 160) (hs2 : siz % 32 = 0) (hg : gas < 100000) : Kp l y_Ru_findFault (kW y_Ru_findFault prog_7_method_14_code 4 (some .int)) rm_c_R_findFault E [.ref rn, .ref q, .int (nI p0)] [(rn, .inr (5, [.ref k, .ref o, .ref ca, .ref a, .ref b, .ref v, .ref t, .int (kb sb), .int (nI gas), .int (nI ctr), .int (nI en), .int (nI rf), .int (nI rc)])), (k, .inr (1, [.ref kw, .ref kx, .int (nI cnt)])), (o, .inr (2, [.ref ob, .int (nI siz)])), (ob, .inl (E.2.1 0, 160, .inl fm)), (a, .inl (E.2.1 0, 8, .inl f)), (b, .inl (E.2.1 0, 8, .inl x)), (q, .inr (0, [.ref qb, .ref qg, .ref qf, .int (nI len), .int lat, .int nxt])), (qb, .inl (E.2.1 0, 96, .inl fb)), (qg, .inl (E.2.1 1, 96, .inl fg)), (qf, .inl (E.2.1 0, 96, .inl ff))] (fun r => r = nI (m_fault len bb p0 gas siz cnt (wv f 8) (wv x 8))) := by
  refine Kp.ofI (cc := prog_7_method_14_code) (maxL := 4) (by decide) (Nat.le_of_ble_eq_true rfl) ?_
  intro p e s m args below meth c A ls Q hx hb hts hown hml hK hG hA hP hD hS hl hret
  have hl : lv_has ls 4 [(0, .ref rn), (1, .ref q), (2, .int (nI p0))] := hl
  have huc := m_usedC_le p0 (wv f 8) (wv x 8)
  have htk := m_takes_le p0 ho
  have hgv := m_gives_le p0 ho
  have hco := m_cost_le p0
  have hlen := ok.1
  refine lv_iload_n hx hb d_Ru_findFault_0 rfl (lv_at hl 2 rfl) ?_
  refine k_Sp (As := [.int (nI p0)]) (rest := []) ⟨hx, hb, hml, hown, hts⟩ (c_I_isDefined l E p0 ho) (k_cwS 1 hts t_355 t_356 t_72 t_357 (by decide +kernel) ⟨Nat.le_of_ble_eq_true rfl, Nat.le_of_ble_eq_true rfl⟩) hK hG hA hP hD hS [] rfl (by decide) rfl hl.1 rfl (Nat.le_of_ble_eq_true rfl) d_Ru_findFault_1 ⟨Nat.zero_le _, Nat.zero_le _⟩ (fun r1 hu1 => ?_)
  subst hu1
  refine lv_if_ne (tgt := 10) hx hb d_Ru_findFault_4 (by decide) (fun h4 => ?_) (fun h4 => ?_)
  · refine lv_aload_n hx hb d_Ru_findFault_10 rfl (lv_at hl 0 rfl) ?_
    refine va_get (D := E.1) (ci := 5) (v := .ref k) (C := "WideStack$Run") (T := T_Ru) (N := 13) hx hb hts in_Ru hown hK hP 0 rfl rfl 0 (by decide) (hts _ t_186) (fun _ h9 => h9) rfl d_Ru_findFault_11 ?_
    refine k_Vp (As := []) (rest := []) ⟨hx, hb, hml, hown, hts⟩ (c_St_count l E k kw kx cnt) (k_cwV 0 hts t_365 t_366 t_367 t_65 t_368 (by decide +kernel) ⟨Nat.le_of_ble_eq_true rfl, Nat.le_of_ble_eq_true rfl⟩) hK hG hA hP hD hS [1] rfl (by decide) 1 rfl rfl rfl hl.1 rfl (Nat.le_of_ble_eq_true rfl) d_Ru_findFault_14 ⟨Nat.zero_le _, Nat.zero_le _⟩ (fun r14 hu14 => ?_)
    subst hu14
    refine lv_iload_n hx hb d_Ru_findFault_17 rfl (lv_at hl 2 rfl) ?_
    refine k_Sp (As := [.int (nI p0)]) (rest := [.int (nI cnt)]) ⟨hx, hb, hml, hown, hts⟩ (c_I_wordsNeeded l E p0 ho) (k_cwS 1 hts t_369 t_359 t_72 t_360 (by decide +kernel) ⟨Nat.le_of_ble_eq_true rfl, Nat.le_of_ble_eq_true rfl⟩) hK hG hA hP hD hS [] rfl (by decide) rfl hl.1 rfl (Nat.le_of_ble_eq_true rfl) d_Ru_findFault_18 ⟨Nat.zero_le _, Nat.zero_le _⟩ (fun r18 hu18 => ?_)
    have hu18 := hu18.trans (m_need_k (kb_n0 h4))
    subst hu18
    by_cases hd : cnt < m_takes p0
    · skip
      refine lv_isub hx hb d_Ru_findFault_21 ?_
      refine lv_istore_n (lv' := [(3, .int ((nI cnt) - (nI (m_takes p0)))), (0, .ref rn), (1, .ref q), (2, .int (nI p0))]) hx hb d_Ru_findFault_22 rfl hl (by decide) rfl (fun ls hl => ?_)
      refine lv_iload_n hx hb d_Ru_findFault_23 rfl (lv_at hl 0 rfl) ?_
      refine lv_if_ge (tgt := 29) hx hb d_Ru_findFault_24 (by decide) (fun h24 => ?_) (fun h24 => ?_)
      · exact absurd (pk_sneg (by omega) hd) (Int32.not_lt.mpr h24)
      · refine lv_iconst (v := nI 5) hx hb d_Ru_findFault_27 (by decide) ?_
        exact hret _ ls _ d_Ru_findFault_28 (by rw [ff_5 (kb_n0 h4) hd])
    · skip
      refine lv_isub hx hb d_Ru_findFault_21 ?_
      refine k_top (pk_sub (by omega)) ?_
      refine lv_istore_n (lv' := [(3, .int (nI (cnt - (m_takes p0)))), (0, .ref rn), (1, .ref q), (2, .int (nI p0))]) hx hb d_Ru_findFault_22 rfl hl (by decide) rfl (fun ls hl => ?_)
      refine lv_iload_n hx hb d_Ru_findFault_23 rfl (lv_at hl 0 rfl) ?_
      refine kn_ifge (tgt := 29) hx hb (by omega) d_Ru_findFault_24 (by decide) ?_
      refine lv_iload_n hx hb d_Ru_findFault_29 rfl (lv_at hl 0 rfl) ?_
      refine lv_iload_n hx hb d_Ru_findFault_30 rfl (lv_at hl 3 rfl) ?_
      refine k_Sp (As := [.int (nI p0)]) (rest := [.int (nI (cnt - (m_takes p0)))]) ⟨hx, hb, hml, hown, hts⟩ (c_I_wordsLeft l E p0 ho (kb_n0 h4)) (k_cwS 1 hts t_370 t_371 t_72 t_372 (by decide +kernel) ⟨Nat.le_of_ble_eq_true rfl, Nat.le_of_ble_eq_true rfl⟩) hK hG hA hP hD hS [] rfl (by decide) rfl hl.1 rfl (Nat.le_of_ble_eq_true rfl) d_Ru_findFault_31 ⟨Nat.zero_le _, Nat.zero_le _⟩ (fun r31 hu31 => ?_)
      subst hu31
      refine lv_iadd hx hb d_Ru_findFault_34 ?_
      refine k_top (nI_add _ _) ?_
      refine lv_bipush (v := nI 16) hx hb d_Ru_findFault_35 (by decide) ?_
      refine kn_le (tgt := 43) hx hb (by omega) (by omega) d_Ru_findFault_37 (by decide) (fun h37 => ?_) (fun h37 => ?_)
      · refine lv_aload_n hx hb d_Ru_findFault_43 rfl (lv_at hl 1 rfl) ?_
        refine lv_iload_n hx hb d_Ru_findFault_44 rfl (lv_at hl 3 rfl) ?_
        refine k_Vp (As := [.int (nI p0)]) (rest := []) ⟨hx, hb, hml, hown, hts⟩ (c_R_bytesUsed l E rn k o ca a b v t gas ctr en rf rc sb p0 ho f x) (k_cwV 1 hts t_373 t_375 t_3 t_64 t_376 (by decide +kernel) ⟨Nat.le_of_ble_eq_true rfl, Nat.le_of_ble_eq_true rfl⟩) hK hG hA hP hD hS [0, 4, 5] rfl (by decide) 0 rfl rfl rfl hl.1 rfl (Nat.le_of_ble_eq_true rfl) d_Ru_findFault_45 ⟨Nat.zero_le _, Nat.zero_le _⟩ (fun r45 hu45 => ?_)
        subst hu45
        refine lv_sipush (v := nI 160) hx hb d_Ru_findFault_48 (by decide) ?_
        refine kn_le (tgt := 57) hx hb (by omega) (by omega) d_Ru_findFault_51 (by decide) (fun h51 => ?_) (fun h51 => ?_)
        · refine lv_aload_n hx hb d_Ru_findFault_57 rfl (lv_at hl 1 rfl) ?_
          refine lv_iload_n hx hb d_Ru_findFault_58 rfl (lv_at hl 3 rfl) ?_
          refine k_Vp (As := [.int (nI p0)]) (rest := []) ⟨hx, hb, hml, hown, hts⟩ (c_R_fullCost l E rn k o ca a b v t gas ctr en rf rc sb p0 ho ob siz f x fm hs) (k_cwV 1 hts t_386 t_388 t_4 t_64 t_389 (by decide +kernel) ⟨Nat.le_of_ble_eq_true rfl, Nat.le_of_ble_eq_true rfl⟩) hK hG hA hP hD hS [0, 2, 3, 4, 5] rfl (by decide) 0 rfl rfl rfl hl.1 rfl (Nat.le_of_ble_eq_true rfl) d_Ru_findFault_59 ⟨Nat.zero_le _, Nat.zero_le _⟩ (fun r59 hu59 => ?_)
          subst hu59
          refine lv_aload_n hx hb d_Ru_findFault_62 rfl (lv_at hl 1 rfl) ?_
          refine va_get (D := E.1) (ci := 5) (v := .int (nI gas)) (C := "WideStack$Run") (T := T_Ru) (N := 13) hx hb hts in_Ru hown hK hP 0 rfl rfl 8 (by decide) (hts _ t_194) (fun _ h9 => h9) rfl d_Ru_findFault_63 ?_
          refine kn_le (tgt := 71) hx hb (by omega) (by omega) d_Ru_findFault_66 (by decide) (fun h66 => ?_) (fun h66 => ?_)
          · refine lv_aload_n hx hb d_Ru_findFault_71 rfl (lv_at hl 1 rfl) ?_
            refine lv_iload_n hx hb d_Ru_findFault_72 rfl (lv_at hl 3 rfl) ?_
            refine k_Vp (As := [.int (nI p0)]) (rest := []) ⟨hx, hb, hml, hown, hts⟩ (c_R_jumps l E rn k o ca a b v t gas ctr en rf rc sb p0 ho x) (k_cwV 1 hts t_400 t_402 t_5 t_64 t_403 (by decide +kernel) ⟨Nat.le_of_ble_eq_true rfl, Nat.le_of_ble_eq_true rfl⟩) hK hG hA hP hD hS [0, 5] rfl (by decide) 0 rfl rfl rfl hl.1 rfl (Nat.le_of_ble_eq_true rfl) d_Ru_findFault_73 ⟨Nat.zero_le _, Nat.zero_le _⟩ (fun r73 hu73 => ?_)
            subst hu73
            refine lv_if_eq (tgt := 97) hx hb d_Ru_findFault_76 (by decide) (fun h76 => ?_) (fun h76 => ?_)
            · refine lv_iconst (v := nI 0) hx hb d_Ru_findFault_97 (by decide) ?_
              first | exact hret _ ls _ d_Ru_findFault_98 (by rw [ff_0 hs2 (kb_n0 h4) hd (by omega) (by omega) (by omega) (Or.inl (kb_0.mp h76))]) | exact hret _ ls _ d_Ru_findFault_98 (by rw [ff_0 hs2 (kb_n0 h4) hd (by omega) (by omega) (by omega) (Or.inr (kb_n0 h90))]) | exact hret _ ls _ d_Ru_findFault_98 (by rw [ff_3 hs2 (kb_n0 h4) hd (by omega) (by omega) (by omega) (kb_n0 h76) (kb_0.mp h90)])
            · refine lv_aload_n hx hb d_Ru_findFault_79 rfl (lv_at hl 2 rfl) ?_
              refine lv_aload_n hx hb d_Ru_findFault_80 rfl (lv_at hl 1 rfl) ?_
              refine va_get (D := E.1) (ci := 5) (v := .ref a) (C := "WideStack$Run") (T := T_Ru) (N := 13) hx hb hts in_Ru hown hK hP 0 rfl rfl 3 (by decide) (hts _ t_189) (fun _ h9 => h9) rfl d_Ru_findFault_81 ?_
              refine k_Sp (As := [.ref a]) (rest := [.ref q]) ⟨hx, hb, hml, hown, hts⟩ (c_P_asPlace l E a f) (k_cwS 1 hts t_404 t_405 t_63 t_406 (by decide +kernel) ⟨Nat.le_of_ble_eq_true rfl, Nat.le_of_ble_eq_true rfl⟩) hK hG hA hP hD hS [4] rfl (by decide) rfl hl.1 rfl (Nat.le_of_ble_eq_true rfl) d_Ru_findFault_84 ⟨Nat.zero_le _, Nat.zero_le _⟩ (fun r84 hu84 => ?_)
              subst hu84
              refine k_Vp (As := [.int (nI (min (wv f 8) 96))]) (rest := []) ⟨hx, hb, hml, hown, hts⟩ (c_P_mayJumpTo l E q qb qg qf len lat nxt fb fg ff bb ok (nI (min (wv f 8) 96))) (k_cwV 1 hts t_408 t_409 t_410 t_63 t_411 (by decide +kernel) ⟨Nat.le_of_ble_eq_true rfl, Nat.le_of_ble_eq_true rfl⟩) hK hG hA hP hD hS [6, 7, 8, 9] rfl (by decide) 6 rfl rfl rfl hl.1 rfl (Nat.le_of_ble_eq_true rfl) d_Ru_findFault_87 ⟨Nat.zero_le _, Nat.zero_le _⟩ (fun r87 hu87 => ?_)
              have hu87 := hu87.trans (by rw [m_in_marked hlen])
              subst hu87
              refine lv_if_ne (tgt := 97) hx hb d_Ru_findFault_90 (by decide) (fun h90 => ?_) (fun h90 => ?_)
              · refine lv_iconst (v := nI 0) hx hb d_Ru_findFault_97 (by decide) ?_
                first | exact hret _ ls _ d_Ru_findFault_98 (by rw [ff_0 hs2 (kb_n0 h4) hd (by omega) (by omega) (by omega) (Or.inl (kb_0.mp h76))]) | exact hret _ ls _ d_Ru_findFault_98 (by rw [ff_0 hs2 (kb_n0 h4) hd (by omega) (by omega) (by omega) (Or.inr (kb_n0 h90))]) | exact hret _ ls _ d_Ru_findFault_98 (by rw [ff_3 hs2 (kb_n0 h4) hd (by omega) (by omega) (by omega) (kb_n0 h76) (kb_0.mp h90)])
              · refine lv_iconst (v := nI 3) hx hb d_Ru_findFault_93 (by decide) ?_
                refine lv_goto (tgt := 98) hx hb d_Ru_findFault_94 (by decide) ?_
                first | exact hret _ ls _ d_Ru_findFault_98 (by rw [ff_0 hs2 (kb_n0 h4) hd (by omega) (by omega) (by omega) (Or.inl (kb_0.mp h76))]) | exact hret _ ls _ d_Ru_findFault_98 (by rw [ff_0 hs2 (kb_n0 h4) hd (by omega) (by omega) (by omega) (Or.inr (kb_n0 h90))]) | exact hret _ ls _ d_Ru_findFault_98 (by rw [ff_3 hs2 (kb_n0 h4) hd (by omega) (by omega) (by omega) (kb_n0 h76) (kb_0.mp h90)])
          · refine lv_iconst (v := nI 4) hx hb d_Ru_findFault_69 (by decide) ?_
            exact hret _ ls _ d_Ru_findFault_70 (by rw [ff_4 hs2 (kb_n0 h4) hd (by omega) (by omega) (by omega)])
        · refine lv_bipush (v := nI 8) hx hb d_Ru_findFault_54 (by decide) ?_
          exact hret _ ls _ d_Ru_findFault_56 (by rw [ff_8 (kb_n0 h4) hd (by omega) (by omega)])
      · refine lv_bipush (v := nI 6) hx hb d_Ru_findFault_40 (by decide) ?_
        exact hret _ ls _ d_Ru_findFault_42 (by rw [ff_6 (kb_n0 h4) hd (by omega)])
  · refine lv_bipush (v := nI 7) hx hb d_Ru_findFault_7 (by decide) ?_
    exact hret _ ls _ d_Ru_findFault_9 (by rw [ff_7 (kb_0.mp h4)])

abbrev y_Ru_finish : MethodName := ⟨"WideStack$Run", "finish", "(I)V"⟩
theorem d_Ru_finish_0 : decode prog_7_method_20_code 0 = .ok (.aload_n 0, 1) := by decide +kernel
theorem d_Ru_finish_1 : decode prog_7_method_20_code 1 = .ok (.iconst 1, 1) := by decide +kernel
theorem d_Ru_finish_2 : decode prog_7_method_20_code 2 = .ok (.putfield 56, 3) := by decide +kernel
theorem d_Ru_finish_5 : decode prog_7_method_20_code 5 = .ok (.iload_n 1, 1) := by decide +kernel
theorem d_Ru_finish_6 : decode prog_7_method_20_code 6 = .ok (.sipush 243, 3) := by decide +kernel
theorem d_Ru_finish_9 : decode prog_7_method_20_code 9 = .ok (.if_icmp .ne 41, 3) := by decide +kernel
theorem d_Ru_finish_12 : decode prog_7_method_20_code 12 = .ok (.aload_n 0, 1) := by decide +kernel
theorem d_Ru_finish_13 : decode prog_7_method_20_code 13 = .ok (.iconst 2, 1) := by decide +kernel
theorem d_Ru_finish_14 : decode prog_7_method_20_code 14 = .ok (.putfield 56, 3) := by decide +kernel
theorem d_Ru_finish_17 : decode prog_7_method_20_code 17 = .ok (.aload_n 0, 1) := by decide +kernel
theorem d_Ru_finish_18 : decode prog_7_method_20_code 18 = .ok (.aload_n 0, 1) := by decide +kernel
theorem d_Ru_finish_19 : decode prog_7_method_20_code 19 = .ok (.getfield 32, 3) := by decide +kernel
theorem d_Ru_finish_22 : decode prog_7_method_20_code 22 = .ok (.invokestatic 153, 3) := by decide +kernel
theorem d_Ru_finish_25 : decode prog_7_method_20_code 25 = .ok (.putfield 59, 3) := by decide +kernel
theorem d_Ru_finish_28 : decode prog_7_method_20_code 28 = .ok (.aload_n 0, 1) := by decide +kernel
theorem d_Ru_finish_29 : decode prog_7_method_20_code 29 = .ok (.aload_n 0, 1) := by decide +kernel
theorem d_Ru_finish_30 : decode prog_7_method_20_code 30 = .ok (.getfield 36, 3) := by decide +kernel
theorem d_Ru_finish_33 : decode prog_7_method_20_code 33 = .ok (.invokestatic 153, 3) := by decide +kernel
theorem d_Ru_finish_36 : decode prog_7_method_20_code 36 = .ok (.putfield 62, 3) := by decide +kernel
theorem d_Ru_finish_39 : decode prog_7_method_20_code 39 = .ok (.aload_n 0, 1) := by decide +kernel
theorem d_Ru_finish_40 : decode prog_7_method_20_code 40 = .ok (.getfield 10, 3) := by decide +kernel
theorem d_Ru_finish_43 : decode prog_7_method_20_code 43 = .ok (.iload_n 1, 1) := by decide +kernel
theorem d_Ru_finish_44 : decode prog_7_method_20_code 44 = .ok (.invokestatic 131, 3) := by decide +kernel
theorem d_Ru_finish_47 : decode prog_7_method_20_code 47 = .ok (.invokevirtual 172, 3) := by decide +kernel
theorem d_Ru_finish_50 : decode prog_7_method_20_code 50 = .ok (.return_, 1) := by decide +kernel
def rm_c_R_finish : Room := { frames := 2, cells := 0, slots := 0, locals := 42 }
set_option maxHeartbeats 4000000 in
set_option maxRecDepth 100000 in
theorem c_R_finish (l : Launch) (E : kE) (rn k o ca a b v t gas ctr en rf rc : Nat) (sb : Bool) (p0 : Nat) (ho : p0 < 256) (kw kx cnt : Nat) (f x : Nat → Int32) (hc : cnt ≤ 16) : Kv l y_Ru_finish (kW y_Ru_finish prog_7_method_20_code 2 (none)) rm_c_R_finish E [.ref rn, .int (nI p0)] [(rn, .inr (5, [.ref k, .ref o, .ref ca, .ref a, .ref b, .ref v, .ref t, .int (kb sb), .int (nI gas), .int (nI ctr), .int (nI en), .int (nI rf), .int (nI rc)])), (k, .inr (1, [.ref kw, .ref kx, .int (nI cnt)])), (a, .inl (E.2.1 0, 8, .inl f)), (b, .inl (E.2.1 0, 8, .inl x))] (S := Nat × Nat × Nat × Nat) (fun u => u = if p0 = 243 then (2, min (wv f 8) 161, min (wv x 8) 161, cnt - 2) else (1, rf, rc, cnt)) (fun u => [(rn, .inr (5, [.ref k, .ref o, .ref ca, .ref a, .ref b, .ref v, .ref t, .int (kb sb), .int (nI gas), .int (nI ctr), .int (nI u.1), .int (nI u.2.1), .int (nI u.2.2.1)])), (k, .inr (1, [.ref kw, .ref kx, .int (nI u.2.2.2)])), (a, .inl (E.2.1 0, 8, .inl f)), (b, .inl (E.2.1 0, 8, .inl x))]) := by
  refine Kv.ofW (cc := prog_7_method_20_code) (maxL := 2) (by decide) (Nat.le_of_ble_eq_true rfl) ?_
  intro p e s m args below meth c A ls Q hx hb hts hown hml hK hG hA hP hD hS hl hret
  have hl : lv_has ls 2 [(0, .ref rn), (1, .int (nI p0))] := hl
  refine lv_aload_n hx hb d_Ru_finish_0 rfl (lv_at hl 0 rfl) ?_
  refine lv_iconst (v := nI 1) hx hb d_Ru_finish_1 (by decide) ?_
  refine va_put (D := E.1) (ci := 5) (v := .int (nI 1)) (ty := .int) (C := "WideStack$Run") (T := T_Ru) (N := 13) hx hb hts in_Ru ty_Ru tyok_Ru nm_Ru hown hK hP hD hS 0 rfl rfl 10 (by decide) (hts _ t_196) (fun _ h9 => h9) rfl (by decide +kernel) rfl rfl (Nat.le_of_ble_eq_true rfl) d_Ru_finish_2 (fun H locs hP hD hS => ?_)
  have hP : va_P E.1 vwCl [(rn, .inr (5, [.ref k, .ref o, .ref ca, .ref a, .ref b, .ref v, .ref t, .int (kb sb), .int (nI gas), .int (nI ctr), .int (nI 1), .int (nI rf), .int (nI rc)])), (k, .inr (1, [.ref kw, .ref kx, .int (nI cnt)])), (a, .inl (E.2.1 0, 8, .inl f)), (b, .inl (E.2.1 0, 8, .inl x))] H := hP
  have hD : va_D A [(rn, .inr (5, [.ref k, .ref o, .ref ca, .ref a, .ref b, .ref v, .ref t, .int (kb sb), .int (nI gas), .int (nI ctr), .int (nI 1), .int (nI rf), .int (nI rc)])), (k, .inr (1, [.ref kw, .ref kx, .int (nI cnt)])), (a, .inl (E.2.1 0, 8, .inl f)), (b, .inl (E.2.1 0, 8, .inl x))] := hD
  refine lv_iload_n hx hb d_Ru_finish_5 rfl (lv_at hl 1 rfl) ?_
  refine lv_sipush (v := nI 243) hx hb d_Ru_finish_6 (by decide) ?_
  refine kn_ne (tgt := 50) hx hb (by omega) (by omega) d_Ru_finish_9 (by decide) (fun h9 => ?_) (fun h9 => ?_)
  · first | exact hret _ ls _ _ (1, rf, rc, cnt) d_Ru_finish_50 (by rw [if_neg h9]) hP hS | exact hret _ ls _ _ (2, min (wv f 8) 161, min (wv x 8) 161, cnt - 2) d_Ru_finish_50 (by rw [if_pos h9]) hP hS
  · refine lv_aload_n hx hb d_Ru_finish_12 rfl (lv_at hl 0 rfl) ?_
    refine lv_iconst (v := nI 2) hx hb d_Ru_finish_13 (by decide) ?_
    refine va_put (D := E.1) (ci := 5) (v := .int (nI 2)) (ty := .int) (C := "WideStack$Run") (T := T_Ru) (N := 13) hx hb hts in_Ru ty_Ru tyok_Ru nm_Ru hown hK hP hD hS 0 rfl rfl 10 (by decide) (hts _ t_196) (fun _ h9 => h9) rfl (by decide +kernel) rfl rfl (Nat.le_of_ble_eq_true rfl) d_Ru_finish_14 (fun H locs hP hD hS => ?_)
    have hP : va_P E.1 vwCl [(rn, .inr (5, [.ref k, .ref o, .ref ca, .ref a, .ref b, .ref v, .ref t, .int (kb sb), .int (nI gas), .int (nI ctr), .int (nI 2), .int (nI rf), .int (nI rc)])), (k, .inr (1, [.ref kw, .ref kx, .int (nI cnt)])), (a, .inl (E.2.1 0, 8, .inl f)), (b, .inl (E.2.1 0, 8, .inl x))] H := hP
    have hD : va_D A [(rn, .inr (5, [.ref k, .ref o, .ref ca, .ref a, .ref b, .ref v, .ref t, .int (kb sb), .int (nI gas), .int (nI ctr), .int (nI 2), .int (nI rf), .int (nI rc)])), (k, .inr (1, [.ref kw, .ref kx, .int (nI cnt)])), (a, .inl (E.2.1 0, 8, .inl f)), (b, .inl (E.2.1 0, 8, .inl x))] := hD
    refine lv_aload_n hx hb d_Ru_finish_17 rfl (lv_at hl 0 rfl) ?_
    refine lv_aload_n hx hb d_Ru_finish_18 rfl (lv_at hl 0 rfl) ?_
    refine va_get (D := E.1) (ci := 5) (v := .ref a) (C := "WideStack$Run") (T := T_Ru) (N := 13) hx hb hts in_Ru hown hK hP 0 rfl rfl 3 (by decide) (hts _ t_189) (fun _ h9 => h9) rfl d_Ru_finish_19 ?_
    refine k_Sp (As := [.ref a]) (rest := [.ref rn]) ⟨hx, hb, hml, hown, hts⟩ (c_R_asMemory l E a f) (k_cwS 1 hts t_377 t_378 t_64 t_379 (by decide +kernel) ⟨Nat.le_of_ble_eq_true rfl, Nat.le_of_ble_eq_true rfl⟩) hK hG hA hP hD hS [2] rfl (by decide) rfl hl.1 rfl (Nat.le_of_ble_eq_true rfl) d_Ru_finish_22 ⟨Nat.zero_le _, Nat.zero_le _⟩ (fun r22 hu22 => ?_)
    subst hu22
    refine va_put (D := E.1) (ci := 5) (v := .int (nI (min (wv f 8) 161))) (ty := .int) (C := "WideStack$Run") (T := T_Ru) (N := 13) hx hb hts in_Ru ty_Ru tyok_Ru nm_Ru hown hK hP hD hS 0 rfl rfl 11 (by decide) (hts _ t_197) (fun _ h9 => h9) rfl (by decide +kernel) rfl rfl (Nat.le_of_ble_eq_true rfl) d_Ru_finish_25 (fun H locs hP hD hS => ?_)
    have hP : va_P E.1 vwCl [(rn, .inr (5, [.ref k, .ref o, .ref ca, .ref a, .ref b, .ref v, .ref t, .int (kb sb), .int (nI gas), .int (nI ctr), .int (nI 2), .int (nI (min (wv f 8) 161)), .int (nI rc)])), (k, .inr (1, [.ref kw, .ref kx, .int (nI cnt)])), (a, .inl (E.2.1 0, 8, .inl f)), (b, .inl (E.2.1 0, 8, .inl x))] H := hP
    have hD : va_D A [(rn, .inr (5, [.ref k, .ref o, .ref ca, .ref a, .ref b, .ref v, .ref t, .int (kb sb), .int (nI gas), .int (nI ctr), .int (nI 2), .int (nI (min (wv f 8) 161)), .int (nI rc)])), (k, .inr (1, [.ref kw, .ref kx, .int (nI cnt)])), (a, .inl (E.2.1 0, 8, .inl f)), (b, .inl (E.2.1 0, 8, .inl x))] := hD
    refine lv_aload_n hx hb d_Ru_finish_28 rfl (lv_at hl 0 rfl) ?_
    refine lv_aload_n hx hb d_Ru_finish_29 rfl (lv_at hl 0 rfl) ?_
    refine va_get (D := E.1) (ci := 5) (v := .ref b) (C := "WideStack$Run") (T := T_Ru) (N := 13) hx hb hts in_Ru hown hK hP 0 rfl rfl 4 (by decide) (hts _ t_190) (fun _ h9 => h9) rfl d_Ru_finish_30 ?_
    refine k_Sp (As := [.ref b]) (rest := [.ref rn]) ⟨hx, hb, hml, hown, hts⟩ (c_R_asMemory l E b x) (k_cwS 1 hts t_377 t_378 t_64 t_379 (by decide +kernel) ⟨Nat.le_of_ble_eq_true rfl, Nat.le_of_ble_eq_true rfl⟩) hK hG hA hP hD hS [3] rfl (by decide) rfl hl.1 rfl (Nat.le_of_ble_eq_true rfl) d_Ru_finish_33 ⟨Nat.zero_le _, Nat.zero_le _⟩ (fun r33 hu33 => ?_)
    subst hu33
    refine va_put (D := E.1) (ci := 5) (v := .int (nI (min (wv x 8) 161))) (ty := .int) (C := "WideStack$Run") (T := T_Ru) (N := 13) hx hb hts in_Ru ty_Ru tyok_Ru nm_Ru hown hK hP hD hS 0 rfl rfl 12 (by decide) (hts _ t_198) (fun _ h9 => h9) rfl (by decide +kernel) rfl rfl (Nat.le_of_ble_eq_true rfl) d_Ru_finish_36 (fun H locs hP hD hS => ?_)
    have hP : va_P E.1 vwCl [(rn, .inr (5, [.ref k, .ref o, .ref ca, .ref a, .ref b, .ref v, .ref t, .int (kb sb), .int (nI gas), .int (nI ctr), .int (nI 2), .int (nI (min (wv f 8) 161)), .int (nI (min (wv x 8) 161))])), (k, .inr (1, [.ref kw, .ref kx, .int (nI cnt)])), (a, .inl (E.2.1 0, 8, .inl f)), (b, .inl (E.2.1 0, 8, .inl x))] H := hP
    have hD : va_D A [(rn, .inr (5, [.ref k, .ref o, .ref ca, .ref a, .ref b, .ref v, .ref t, .int (kb sb), .int (nI gas), .int (nI ctr), .int (nI 2), .int (nI (min (wv f 8) 161)), .int (nI (min (wv x 8) 161))])), (k, .inr (1, [.ref kw, .ref kx, .int (nI cnt)])), (a, .inl (E.2.1 0, 8, .inl f)), (b, .inl (E.2.1 0, 8, .inl x))] := hD
    refine lv_aload_n hx hb d_Ru_finish_39 rfl (lv_at hl 0 rfl) ?_
    refine va_get (D := E.1) (ci := 5) (v := .ref k) (C := "WideStack$Run") (T := T_Ru) (N := 13) hx hb hts in_Ru hown hK hP 0 rfl rfl 0 (by decide) (hts _ t_186) (fun _ h9 => h9) rfl d_Ru_finish_40 ?_
    refine lv_iload_n hx hb d_Ru_finish_43 rfl (lv_at hl 1 rfl) ?_
    refine k_Sp (As := [.int (nI p0)]) (rest := [.ref k]) ⟨hx, hb, hml, hown, hts⟩ (c_I_wordsNeeded l E p0 ho) (k_cwS 1 hts t_369 t_359 t_72 t_360 (by decide +kernel) ⟨Nat.le_of_ble_eq_true rfl, Nat.le_of_ble_eq_true rfl⟩) hK hG hA hP hD hS [] rfl (by decide) rfl hl.1 rfl (Nat.le_of_ble_eq_true rfl) d_Ru_finish_44 ⟨Nat.zero_le _, Nat.zero_le _⟩ (fun r44 hu44 => ?_)
    have hu44 := hu44.trans (by rw [h9])
    subst hu44
    refine k_Vv (As := [.int (nI 2)]) (rest := []) ⟨hx, hb, hml, hown, hts⟩ (c_St_drop l E k kw kx cnt 2 (by omega) (by omega)) (k_cwV 1 hts t_432 t_433 t_434 t_65 t_435 (by decide +kernel) ⟨Nat.le_of_ble_eq_true rfl, Nat.le_of_ble_eq_true rfl⟩) hK hG hA hP hD hS [1] rfl (by decide) 1 rfl rfl (fun _ => rfl) rfl hl.1 rfl (Nat.le_of_ble_eq_true rfl) d_Ru_finish_47 ⟨Nat.zero_le _, Nat.zero_le _⟩ (fun u0 H locs hu0 hP hD hS => ?_)
    have hP : va_P E.1 vwCl [(rn, .inr (5, [.ref k, .ref o, .ref ca, .ref a, .ref b, .ref v, .ref t, .int (kb sb), .int (nI gas), .int (nI ctr), .int (nI 2), .int (nI (min (wv f 8) 161)), .int (nI (min (wv x 8) 161))])), (k, .inr (1, [.ref kw, .ref kx, .int (nI (cnt - 2))])), (a, .inl (E.2.1 0, 8, .inl f)), (b, .inl (E.2.1 0, 8, .inl x))] H := hP
    have hD : va_D A [(rn, .inr (5, [.ref k, .ref o, .ref ca, .ref a, .ref b, .ref v, .ref t, .int (kb sb), .int (nI gas), .int (nI ctr), .int (nI 2), .int (nI (min (wv f 8) 161)), .int (nI (min (wv x 8) 161))])), (k, .inr (1, [.ref kw, .ref kx, .int (nI (cnt - 2))])), (a, .inl (E.2.1 0, 8, .inl f)), (b, .inl (E.2.1 0, 8, .inl x))] := hD
    first | exact hret _ ls _ _ (1, rf, rc, cnt) d_Ru_finish_50 (by rw [if_neg h9]) hP hS | exact hret _ ls _ _ (2, min (wv f 8) 161, min (wv x 8) 161, cnt - 2) d_Ru_finish_50 (by rw [if_pos h9]) hP hS

abbrev y_Ru_giveLoaded : MethodName := ⟨"WideStack$Run", "giveLoaded", "()V"⟩
theorem d_Ru_giveLoaded_0 : decode prog_7_method_23_code 0 = .ok (.aload_n 0, 1) := by decide +kernel
theorem d_Ru_giveLoaded_1 : decode prog_7_method_23_code 1 = .ok (.getfield 19, 3) := by decide +kernel
theorem d_Ru_giveLoaded_4 : decode prog_7_method_23_code 4 = .ok (.aload_n 0, 1) := by decide +kernel
theorem d_Ru_giveLoaded_5 : decode prog_7_method_23_code 5 = .ok (.getfield 32, 3) := by decide +kernel
theorem d_Ru_giveLoaded_8 : decode prog_7_method_23_code 8 = .ok (.invokestatic 153, 3) := by decide +kernel
theorem d_Ru_giveLoaded_11 : decode prog_7_method_23_code 11 = .ok (.aload_n 0, 1) := by decide +kernel
theorem d_Ru_giveLoaded_12 : decode prog_7_method_23_code 12 = .ok (.getfield 42, 3) := by decide +kernel
theorem d_Ru_giveLoaded_15 : decode prog_7_method_23_code 15 = .ok (.invokevirtual 210, 3) := by decide +kernel
theorem d_Ru_giveLoaded_18 : decode prog_7_method_23_code 18 = .ok (.aload_n 0, 1) := by decide +kernel
theorem d_Ru_giveLoaded_19 : decode prog_7_method_23_code 19 = .ok (.getfield 10, 3) := by decide +kernel
theorem d_Ru_giveLoaded_22 : decode prog_7_method_23_code 22 = .ok (.aload_n 0, 1) := by decide +kernel
theorem d_Ru_giveLoaded_23 : decode prog_7_method_23_code 23 = .ok (.getfield 42, 3) := by decide +kernel
theorem d_Ru_giveLoaded_26 : decode prog_7_method_23_code 26 = .ok (.invokevirtual 87, 3) := by decide +kernel
theorem d_Ru_giveLoaded_29 : decode prog_7_method_23_code 29 = .ok (.pop, 1) := by decide +kernel
theorem d_Ru_giveLoaded_30 : decode prog_7_method_23_code 30 = .ok (.return_, 1) := by decide +kernel
def rm_c_R_giveLoaded : Room := { frames := 3, cells := 0, slots := 0, locals := 82 }
set_option maxHeartbeats 4000000 in
set_option maxRecDepth 100000 in
theorem c_R_giveLoaded (l : Launch) (E : kE) (rn k o ca a b v t gas ctr en rf rc : Nat) (sb : Bool) (kw kx cnt : Nat) (ra : Nat → Nat) (fx : Nat → Int32) (M : Nat → Nat → Int32) (ob siz : Nat) (fm : Nat → Int32) (mem : Nat → Nat) (hm : ∀ j, j < 160 → fm j = nI (mem j) ∧ mem j < 256) (f z : Nat → Int32) (hc : cnt < 16) (hf : wv f 8 + 32 ≤ 160) : Kv l y_Ru_giveLoaded (kW y_Ru_giveLoaded prog_7_method_23_code 1 (none)) rm_c_R_giveLoaded E [.ref rn] ([(rn, .inr (5, [.ref k, .ref o, .ref ca, .ref a, .ref b, .ref v, .ref t, .int (kb sb), .int (nI gas), .int (nI ctr), .int (nI en), .int (nI rf), .int (nI rc)])), (k, .inr (1, [.ref kw, .ref kx, .int (nI cnt)])), (kw, .inl (E.2.1 2, 16, .inr (.inr (.inr (.inr (fun i => if i < 16 then some (ra i) else none)))))), (kx, .inl (E.2.1 0, 8, .inl fx)), (o, .inr (2, [.ref ob, .int (nI siz)])), (ob, .inl (E.2.1 0, 160, .inl fm)), (a, .inl (E.2.1 0, 8, .inl f)), (t, .inl (E.2.1 0, 8, .inl z))] ++ k_rows E ra M) (S := Nat × (Nat → Nat → Int32) × (Nat → Int32)) (fun u => u.1 = cnt + 1 ∧ ∀ i, i < 16 → kR u.2.1 i = va_up (kR M) cnt (m_num mem (wv f 8) 32) i) (fun u => ([(rn, .inr (5, [.ref k, .ref o, .ref ca, .ref a, .ref b, .ref v, .ref t, .int (kb sb), .int (nI gas), .int (nI ctr), .int (nI en), .int (nI rf), .int (nI rc)])), (k, .inr (1, [.ref kw, .ref kx, .int (nI u.1)])), (kw, .inl (E.2.1 2, 16, .inr (.inr (.inr (.inr (fun i => if i < 16 then some (ra i) else none)))))), (kx, .inl (E.2.1 0, 8, .inl fx)), (o, .inr (2, [.ref ob, .int (nI siz)])), (ob, .inl (E.2.1 0, 160, .inl fm)), (a, .inl (E.2.1 0, 8, .inl f)), (t, .inl (E.2.1 0, 8, .inl u.2.2))] ++ k_rows E ra u.2.1)) := by
  refine Kv.ofW (cc := prog_7_method_23_code) (maxL := 1) (by decide) (Nat.le_of_ble_eq_true rfl) ?_
  intro p e s m args below meth c A ls Q hx hb hts hown hml hK hG hA hP hD hS hl hret
  have hl : lv_has ls 1 [(0, .ref rn)] := hl
  refine lv_aload_n hx hb d_Ru_giveLoaded_0 rfl (lv_at hl 0 rfl) ?_
  refine va_get (D := E.1) (ci := 5) (v := .ref o) (C := "WideStack$Run") (T := T_Ru) (N := 13) hx hb hts in_Ru hown hK hP 0 rfl rfl 1 (by decide) (hts _ t_187) (fun _ h9 => h9) rfl d_Ru_giveLoaded_1 ?_
  refine lv_aload_n hx hb d_Ru_giveLoaded_4 rfl (lv_at hl 0 rfl) ?_
  refine va_get (D := E.1) (ci := 5) (v := .ref a) (C := "WideStack$Run") (T := T_Ru) (N := 13) hx hb hts in_Ru hown hK hP 0 rfl rfl 3 (by decide) (hts _ t_189) (fun _ h9 => h9) rfl d_Ru_giveLoaded_5 ?_
  refine k_Sp (As := [.ref a]) (rest := [.ref o]) ⟨hx, hb, hml, hown, hts⟩ (c_R_asMemory l E a f) (k_cwS 1 hts t_377 t_378 t_64 t_379 (by decide +kernel) ⟨Nat.le_of_ble_eq_true rfl, Nat.le_of_ble_eq_true rfl⟩) hK hG hA hP hD hS [6] rfl (by decide) rfl hl.1 rfl (Nat.le_of_ble_eq_true rfl) d_Ru_giveLoaded_8 ⟨Nat.zero_le _, Nat.zero_le _⟩ (fun r8 hu8 => ?_)
  have hu8 := hu8.trans (by rw [Nat.min_eq_left (by omega)])
  subst hu8
  refine lv_aload_n hx hb d_Ru_giveLoaded_11 rfl (lv_at hl 0 rfl) ?_
  refine va_get (D := E.1) (ci := 5) (v := .ref t) (C := "WideStack$Run") (T := T_Ru) (N := 13) hx hb hts in_Ru hown hK hP 0 rfl rfl 6 (by decide) (hts _ t_192) (fun _ h9 => h9) rfl d_Ru_giveLoaded_12 ?_
  refine k_Vv (As := [.int (nI (wv f 8)), .ref t]) (rest := []) ⟨hx, hb, hml, hown, hts⟩ (c_So_load l E o ob siz fm mem hm (wv f 8) t z hf) (k_cwV 2 hts t_471 t_472 t_473 t_66 t_474 (by decide +kernel) ⟨Nat.le_of_ble_eq_true rfl, Nat.le_of_ble_eq_true rfl⟩) hK hG hA hP hD hS [4, 5, 7] rfl (by decide) 4 rfl rfl (fun _ => rfl) rfl hl.1 rfl (Nat.le_of_ble_eq_true rfl) d_Ru_giveLoaded_15 ⟨Nat.zero_le _, Nat.zero_le _⟩ (fun u H locs hu hP hD hS => ?_)
  have hP : va_P E.1 vwCl ([(rn, .inr (5, [.ref k, .ref o, .ref ca, .ref a, .ref b, .ref v, .ref t, .int (kb sb), .int (nI gas), .int (nI ctr), .int (nI en), .int (nI rf), .int (nI rc)])), (k, .inr (1, [.ref kw, .ref kx, .int (nI cnt)])), (kw, .inl (E.2.1 2, 16, .inr (.inr (.inr (.inr (fun i => if i < 16 then some (ra i) else none)))))), (kx, .inl (E.2.1 0, 8, .inl fx)), (o, .inr (2, [.ref ob, .int (nI siz)])), (ob, .inl (E.2.1 0, 160, .inl fm)), (a, .inl (E.2.1 0, 8, .inl f)), (t, .inl (E.2.1 0, 8, .inl u))] ++ k_rows E ra M) H := hP
  have hD : va_D A ([(rn, .inr (5, [.ref k, .ref o, .ref ca, .ref a, .ref b, .ref v, .ref t, .int (kb sb), .int (nI gas), .int (nI ctr), .int (nI en), .int (nI rf), .int (nI rc)])), (k, .inr (1, [.ref kw, .ref kx, .int (nI cnt)])), (kw, .inl (E.2.1 2, 16, .inr (.inr (.inr (.inr (fun i => if i < 16 then some (ra i) else none)))))), (kx, .inl (E.2.1 0, 8, .inl fx)), (o, .inr (2, [.ref ob, .int (nI siz)])), (ob, .inl (E.2.1 0, 160, .inl fm)), (a, .inl (E.2.1 0, 8, .inl f)), (t, .inl (E.2.1 0, 8, .inl u))] ++ k_rows E ra M) := hD
  refine lv_aload_n hx hb d_Ru_giveLoaded_18 rfl (lv_at hl 0 rfl) ?_
  refine va_get (D := E.1) (ci := 5) (v := .ref k) (C := "WideStack$Run") (T := T_Ru) (N := 13) hx hb hts in_Ru hown hK hP 0 rfl rfl 0 (by decide) (hts _ t_186) (fun _ h9 => h9) rfl d_Ru_giveLoaded_19 ?_
  refine lv_aload_n hx hb d_Ru_giveLoaded_22 rfl (lv_at hl 0 rfl) ?_
  refine va_get (D := E.1) (ci := 5) (v := .ref t) (C := "WideStack$Run") (T := T_Ru) (N := 13) hx hb hts in_Ru hown hK hP 0 rfl rfl 6 (by decide) (hts _ t_192) (fun _ h9 => h9) rfl d_Ru_giveLoaded_23 ?_
  refine k_ViT (As := [.ref t]) (rest := []) ⟨hx, hb, hml, hown, hts⟩ (c_St_put l E k kw kx cnt ra fx M t u (by omega)) (k_cwV 1 hts t_309 t_310 t_311 t_65 t_312 (by decide +kernel) ⟨Nat.le_of_ble_eq_true rfl, Nat.le_of_ble_eq_true rfl⟩) hK hG hA hP hD hS [1, 2, 3, 7] rfl (by decide) 1 rfl rfl (fun _ => rfl) rfl hl.1 rfl (Nat.le_of_ble_eq_true rfl) d_Ru_giveLoaded_26 ⟨Nat.zero_le _, Nat.zero_le _⟩ (fun r2 u2 H locs hu2 hP hD hS => ?_)
  have hP : va_P E.1 vwCl ([(rn, .inr (5, [.ref k, .ref o, .ref ca, .ref a, .ref b, .ref v, .ref t, .int (kb sb), .int (nI gas), .int (nI ctr), .int (nI en), .int (nI rf), .int (nI rc)])), (k, .inr (1, [.ref kw, .ref kx, .int (nI u2.1)])), (kw, .inl (E.2.1 2, 16, .inr (.inr (.inr (.inr (fun i => if i < 16 then some (ra i) else none)))))), (kx, .inl (E.2.1 0, 8, .inl fx)), (o, .inr (2, [.ref ob, .int (nI siz)])), (ob, .inl (E.2.1 0, 160, .inl fm)), (a, .inl (E.2.1 0, 8, .inl f)), (t, .inl (E.2.1 0, 8, .inl u))] ++ k_rows E ra u2.2) H := hP
  have hD : va_D A ([(rn, .inr (5, [.ref k, .ref o, .ref ca, .ref a, .ref b, .ref v, .ref t, .int (kb sb), .int (nI gas), .int (nI ctr), .int (nI en), .int (nI rf), .int (nI rc)])), (k, .inr (1, [.ref kw, .ref kx, .int (nI u2.1)])), (kw, .inl (E.2.1 2, 16, .inr (.inr (.inr (.inr (fun i => if i < 16 then some (ra i) else none)))))), (kx, .inl (E.2.1 0, 8, .inl fx)), (o, .inr (2, [.ref ob, .int (nI siz)])), (ob, .inl (E.2.1 0, 160, .inl fm)), (a, .inl (E.2.1 0, 8, .inl f)), (t, .inl (E.2.1 0, 8, .inl u))] ++ k_rows E ra u2.2) := hD
  refine lv_pop hx hb d_Ru_giveLoaded_29 rfl ?_
  exact hret _ ls _ _ (u2.1, u2.2, u) d_Ru_giveLoaded_30 (kR_put1 hc hu hu2) hP hS

abbrev y_Ru_giveNumber : MethodName := ⟨"WideStack$Run", "giveNumber", "(I)V"⟩
theorem d_Ru_giveNumber_0 : decode prog_7_method_24_code 0 = .ok (.aload_n 0, 1) := by decide +kernel
theorem d_Ru_giveNumber_1 : decode prog_7_method_24_code 1 = .ok (.getfield 42, 3) := by decide +kernel
theorem d_Ru_giveNumber_4 : decode prog_7_method_24_code 4 = .ok (.iload_n 1, 1) := by decide +kernel
theorem d_Ru_giveNumber_5 : decode prog_7_method_24_code 5 = .ok (.invokestatic 213, 3) := by decide +kernel
theorem d_Ru_giveNumber_8 : decode prog_7_method_24_code 8 = .ok (.aload_n 0, 1) := by decide +kernel
theorem d_Ru_giveNumber_9 : decode prog_7_method_24_code 9 = .ok (.getfield 10, 3) := by decide +kernel
theorem d_Ru_giveNumber_12 : decode prog_7_method_24_code 12 = .ok (.aload_n 0, 1) := by decide +kernel
theorem d_Ru_giveNumber_13 : decode prog_7_method_24_code 13 = .ok (.getfield 42, 3) := by decide +kernel
theorem d_Ru_giveNumber_16 : decode prog_7_method_24_code 16 = .ok (.invokevirtual 87, 3) := by decide +kernel
theorem d_Ru_giveNumber_19 : decode prog_7_method_24_code 19 = .ok (.pop, 1) := by decide +kernel
theorem d_Ru_giveNumber_20 : decode prog_7_method_24_code 20 = .ok (.return_, 1) := by decide +kernel
def rm_c_R_giveNumber : Room := { frames := 3, cells := 0, slots := 0, locals := 82 }
set_option maxHeartbeats 4000000 in
set_option maxRecDepth 100000 in
theorem c_R_giveNumber (l : Launch) (E : kE) (rn k o ca a b v t gas ctr en rf rc : Nat) (sb : Bool) (kw kx cnt : Nat) (ra : Nat → Nat) (fx : Nat → Int32) (M : Nat → Nat → Int32) (n0 : Nat) (z : Nat → Int32) (hc : cnt < 16) (hn : n0 < 4294967296) : Kv l y_Ru_giveNumber (kW y_Ru_giveNumber prog_7_method_24_code 2 (none)) rm_c_R_giveNumber E [.ref rn, .int (nI n0)] ([(rn, .inr (5, [.ref k, .ref o, .ref ca, .ref a, .ref b, .ref v, .ref t, .int (kb sb), .int (nI gas), .int (nI ctr), .int (nI en), .int (nI rf), .int (nI rc)])), (k, .inr (1, [.ref kw, .ref kx, .int (nI cnt)])), (kw, .inl (E.2.1 2, 16, .inr (.inr (.inr (.inr (fun i => if i < 16 then some (ra i) else none)))))), (kx, .inl (E.2.1 0, 8, .inl fx)), (t, .inl (E.2.1 0, 8, .inl z))] ++ k_rows E ra M) (S := Nat × (Nat → Nat → Int32) × (Nat → Int32)) (fun u => u.1 = cnt + 1 ∧ ∀ i, i < 16 → kR u.2.1 i = va_up (kR M) cnt n0 i) (fun u => ([(rn, .inr (5, [.ref k, .ref o, .ref ca, .ref a, .ref b, .ref v, .ref t, .int (kb sb), .int (nI gas), .int (nI ctr), .int (nI en), .int (nI rf), .int (nI rc)])), (k, .inr (1, [.ref kw, .ref kx, .int (nI u.1)])), (kw, .inl (E.2.1 2, 16, .inr (.inr (.inr (.inr (fun i => if i < 16 then some (ra i) else none)))))), (kx, .inl (E.2.1 0, 8, .inl fx)), (t, .inl (E.2.1 0, 8, .inl u.2.2))] ++ k_rows E ra u.2.1)) := by
  refine Kv.ofW (cc := prog_7_method_24_code) (maxL := 2) (by decide) (Nat.le_of_ble_eq_true rfl) ?_
  intro p e s m args below meth c A ls Q hx hb hts hown hml hK hG hA hP hD hS hl hret
  have hl : lv_has ls 2 [(0, .ref rn), (1, .int (nI n0))] := hl
  refine lv_aload_n hx hb d_Ru_giveNumber_0 rfl (lv_at hl 0 rfl) ?_
  refine va_get (D := E.1) (ci := 5) (v := .ref t) (C := "WideStack$Run") (T := T_Ru) (N := 13) hx hb hts in_Ru hown hK hP 0 rfl rfl 6 (by decide) (hts _ t_192) (fun _ h9 => h9) rfl d_Ru_giveNumber_1 ?_
  refine lv_iload_n hx hb d_Ru_giveNumber_4 rfl (lv_at hl 1 rfl) ?_
  refine k_Sv (As := [.ref t, .int (nI n0)]) (rest := []) ⟨hx, hb, hml, hown, hts⟩ (c_W_setNumber l E t z (nI n0)) (k_cwS 2 hts t_500 t_501 t_73 t_502 (by decide +kernel) ⟨Nat.le_of_ble_eq_true rfl, Nat.le_of_ble_eq_true rfl⟩) hK hG hA hP hD hS [4] rfl (by decide) (fun _ => rfl) rfl hl.1 rfl (Nat.le_of_ble_eq_true rfl) d_Ru_giveNumber_5 ⟨Nat.zero_le _, Nat.zero_le _⟩ (fun u H locs hu hP hD hS => ?_)
  have hP : va_P E.1 vwCl ([(rn, .inr (5, [.ref k, .ref o, .ref ca, .ref a, .ref b, .ref v, .ref t, .int (kb sb), .int (nI gas), .int (nI ctr), .int (nI en), .int (nI rf), .int (nI rc)])), (k, .inr (1, [.ref kw, .ref kx, .int (nI cnt)])), (kw, .inl (E.2.1 2, 16, .inr (.inr (.inr (.inr (fun i => if i < 16 then some (ra i) else none)))))), (kx, .inl (E.2.1 0, 8, .inl fx)), (t, .inl (E.2.1 0, 8, .inl u))] ++ k_rows E ra M) H := hP
  have hD : va_D A ([(rn, .inr (5, [.ref k, .ref o, .ref ca, .ref a, .ref b, .ref v, .ref t, .int (kb sb), .int (nI gas), .int (nI ctr), .int (nI en), .int (nI rf), .int (nI rc)])), (k, .inr (1, [.ref kw, .ref kx, .int (nI cnt)])), (kw, .inl (E.2.1 2, 16, .inr (.inr (.inr (.inr (fun i => if i < 16 then some (ra i) else none)))))), (kx, .inl (E.2.1 0, 8, .inl fx)), (t, .inl (E.2.1 0, 8, .inl u))] ++ k_rows E ra M) := hD
  refine lv_aload_n hx hb d_Ru_giveNumber_8 rfl (lv_at hl 0 rfl) ?_
  refine va_get (D := E.1) (ci := 5) (v := .ref k) (C := "WideStack$Run") (T := T_Ru) (N := 13) hx hb hts in_Ru hown hK hP 0 rfl rfl 0 (by decide) (hts _ t_186) (fun _ h9 => h9) rfl d_Ru_giveNumber_9 ?_
  refine lv_aload_n hx hb d_Ru_giveNumber_12 rfl (lv_at hl 0 rfl) ?_
  refine va_get (D := E.1) (ci := 5) (v := .ref t) (C := "WideStack$Run") (T := T_Ru) (N := 13) hx hb hts in_Ru hown hK hP 0 rfl rfl 6 (by decide) (hts _ t_192) (fun _ h9 => h9) rfl d_Ru_giveNumber_13 ?_
  refine k_ViT (As := [.ref t]) (rest := []) ⟨hx, hb, hml, hown, hts⟩ (c_St_put l E k kw kx cnt ra fx M t u (by omega)) (k_cwV 1 hts t_309 t_310 t_311 t_65 t_312 (by decide +kernel) ⟨Nat.le_of_ble_eq_true rfl, Nat.le_of_ble_eq_true rfl⟩) hK hG hA hP hD hS [1, 2, 3, 4] rfl (by decide) 1 rfl rfl (fun _ => rfl) rfl hl.1 rfl (Nat.le_of_ble_eq_true rfl) d_Ru_giveNumber_16 ⟨Nat.zero_le _, Nat.zero_le _⟩ (fun r2 u2 H locs hu2 hP hD hS => ?_)
  have hP : va_P E.1 vwCl ([(rn, .inr (5, [.ref k, .ref o, .ref ca, .ref a, .ref b, .ref v, .ref t, .int (kb sb), .int (nI gas), .int (nI ctr), .int (nI en), .int (nI rf), .int (nI rc)])), (k, .inr (1, [.ref kw, .ref kx, .int (nI u2.1)])), (kw, .inl (E.2.1 2, 16, .inr (.inr (.inr (.inr (fun i => if i < 16 then some (ra i) else none)))))), (kx, .inl (E.2.1 0, 8, .inl fx)), (t, .inl (E.2.1 0, 8, .inl u))] ++ k_rows E ra u2.2) H := hP
  have hD : va_D A ([(rn, .inr (5, [.ref k, .ref o, .ref ca, .ref a, .ref b, .ref v, .ref t, .int (kb sb), .int (nI gas), .int (nI ctr), .int (nI en), .int (nI rf), .int (nI rc)])), (k, .inr (1, [.ref kw, .ref kx, .int (nI u2.1)])), (kw, .inl (E.2.1 2, 16, .inr (.inr (.inr (.inr (fun i => if i < 16 then some (ra i) else none)))))), (kx, .inl (E.2.1 0, 8, .inl fx)), (t, .inl (E.2.1 0, 8, .inl u))] ++ k_rows E ra u2.2) := hD
  refine lv_pop hx hb d_Ru_giveNumber_19 rfl ?_
  exact hret _ ls _ _ (u2.1, u2.2, u) d_Ru_giveNumber_20 (kR_put1 hc (wv_num hn hu) hu2) hP hS

abbrev y_Ru_jumpIf : MethodName := ⟨"WideStack$Run", "jumpIf", "()V"⟩
theorem d_Ru_jumpIf_0 : decode prog_7_method_25_code 0 = .ok (.aload_n 0, 1) := by decide +kernel
theorem d_Ru_jumpIf_1 : decode prog_7_method_25_code 1 = .ok (.getfield 36, 3) := by decide +kernel
theorem d_Ru_jumpIf_4 : decode prog_7_method_25_code 4 = .ok (.invokestatic 156, 3) := by decide +kernel
theorem d_Ru_jumpIf_7 : decode prog_7_method_25_code 7 = .ok (.ifCond .ne 14, 3) := by decide +kernel
theorem d_Ru_jumpIf_10 : decode prog_7_method_25_code 10 = .ok (.aload_n 0, 1) := by decide +kernel
theorem d_Ru_jumpIf_11 : decode prog_7_method_25_code 11 = .ok (.aload_n 0, 1) := by decide +kernel
theorem d_Ru_jumpIf_12 : decode prog_7_method_25_code 12 = .ok (.getfield 32, 3) := by decide +kernel
theorem d_Ru_jumpIf_15 : decode prog_7_method_25_code 15 = .ok (.invokestatic 146, 3) := by decide +kernel
theorem d_Ru_jumpIf_18 : decode prog_7_method_25_code 18 = .ok (.putfield 53, 3) := by decide +kernel
theorem d_Ru_jumpIf_21 : decode prog_7_method_25_code 21 = .ok (.return_, 1) := by decide +kernel
def rm_c_R_jumpIf : Room := { frames := 2, cells := 0, slots := 0, locals := 42 }
set_option maxHeartbeats 4000000 in
set_option maxRecDepth 100000 in
theorem c_R_jumpIf (l : Launch) (E : kE) (rn k o ca a b v t gas ctr en rf rc : Nat) (sb : Bool) (f x : Nat → Int32) : Kv l y_Ru_jumpIf (kW y_Ru_jumpIf prog_7_method_25_code 1 (none)) rm_c_R_jumpIf E [.ref rn] [(rn, .inr (5, [.ref k, .ref o, .ref ca, .ref a, .ref b, .ref v, .ref t, .int (kb sb), .int (nI gas), .int (nI ctr), .int (nI en), .int (nI rf), .int (nI rc)])), (a, .inl (E.2.1 0, 8, .inl f)), (b, .inl (E.2.1 0, 8, .inl x))] (S := Nat) (fun u => u = if wv x 8 = 0 then ctr else min (wv f 8) 96) (fun u => [(rn, .inr (5, [.ref k, .ref o, .ref ca, .ref a, .ref b, .ref v, .ref t, .int (kb sb), .int (nI gas), .int (nI u), .int (nI en), .int (nI rf), .int (nI rc)])), (a, .inl (E.2.1 0, 8, .inl f)), (b, .inl (E.2.1 0, 8, .inl x))]) := by
  refine Kv.ofW (cc := prog_7_method_25_code) (maxL := 1) (by decide) (Nat.le_of_ble_eq_true rfl) ?_
  intro p e s m args below meth c A ls Q hx hb hts hown hml hK hG hA hP hD hS hl hret
  have hl : lv_has ls 1 [(0, .ref rn)] := hl
  refine lv_aload_n hx hb d_Ru_jumpIf_0 rfl (lv_at hl 0 rfl) ?_
  refine va_get (D := E.1) (ci := 5) (v := .ref b) (C := "WideStack$Run") (T := T_Ru) (N := 13) hx hb hts in_Ru hown hK hP 0 rfl rfl 4 (by decide) (hts _ t_190) (fun _ h9 => h9) rfl d_Ru_jumpIf_1 ?_
  refine k_Sp (As := [.ref b]) (rest := []) ⟨hx, hb, hml, hown, hts⟩ (c_W_isZero l E b x) (k_cwS 1 hts t_383 t_384 t_73 t_385 (by decide +kernel) ⟨Nat.le_of_ble_eq_true rfl, Nat.le_of_ble_eq_true rfl⟩) hK hG hA hP hD hS [2] rfl (by decide) rfl hl.1 rfl (Nat.le_of_ble_eq_true rfl) d_Ru_jumpIf_4 ⟨Nat.zero_le _, Nat.zero_le _⟩ (fun r4 hu4 => ?_)
  subst hu4
  refine lv_if_ne (tgt := 21) hx hb d_Ru_jumpIf_7 (by decide) (fun h7 => ?_) (fun h7 => ?_)
  · first | exact hret _ ls _ _ ctr d_Ru_jumpIf_21 (by rw [if_pos (of_decide_eq_true (kb_n0 h7))]) hP hS | exact hret _ ls _ _ (min (wv f 8) 96) d_Ru_jumpIf_21 (by rw [if_neg (of_decide_eq_false (kb_0.mp h7))]) hP hS
  · refine lv_aload_n hx hb d_Ru_jumpIf_10 rfl (lv_at hl 0 rfl) ?_
    refine lv_aload_n hx hb d_Ru_jumpIf_11 rfl (lv_at hl 0 rfl) ?_
    refine va_get (D := E.1) (ci := 5) (v := .ref a) (C := "WideStack$Run") (T := T_Ru) (N := 13) hx hb hts in_Ru hown hK hP 0 rfl rfl 3 (by decide) (hts _ t_189) (fun _ h9 => h9) rfl d_Ru_jumpIf_12 ?_
    refine k_Sp (As := [.ref a]) (rest := [.ref rn]) ⟨hx, hb, hml, hown, hts⟩ (c_P_asPlace l E a f) (k_cwS 1 hts t_404 t_405 t_63 t_406 (by decide +kernel) ⟨Nat.le_of_ble_eq_true rfl, Nat.le_of_ble_eq_true rfl⟩) hK hG hA hP hD hS [1] rfl (by decide) rfl hl.1 rfl (Nat.le_of_ble_eq_true rfl) d_Ru_jumpIf_15 ⟨Nat.zero_le _, Nat.zero_le _⟩ (fun r15 hu15 => ?_)
    subst hu15
    refine va_put (D := E.1) (ci := 5) (v := .int (nI (min (wv f 8) 96))) (ty := .int) (C := "WideStack$Run") (T := T_Ru) (N := 13) hx hb hts in_Ru ty_Ru tyok_Ru nm_Ru hown hK hP hD hS 0 rfl rfl 9 (by decide) (hts _ t_195) (fun _ h9 => h9) rfl (by decide +kernel) rfl rfl (Nat.le_of_ble_eq_true rfl) d_Ru_jumpIf_18 (fun H locs hP hD hS => ?_)
    have hP : va_P E.1 vwCl [(rn, .inr (5, [.ref k, .ref o, .ref ca, .ref a, .ref b, .ref v, .ref t, .int (kb sb), .int (nI gas), .int (nI (min (wv f 8) 96)), .int (nI en), .int (nI rf), .int (nI rc)])), (a, .inl (E.2.1 0, 8, .inl f)), (b, .inl (E.2.1 0, 8, .inl x))] H := hP
    have hD : va_D A [(rn, .inr (5, [.ref k, .ref o, .ref ca, .ref a, .ref b, .ref v, .ref t, .int (kb sb), .int (nI gas), .int (nI (min (wv f 8) 96)), .int (nI en), .int (nI rf), .int (nI rc)])), (a, .inl (E.2.1 0, 8, .inl f)), (b, .inl (E.2.1 0, 8, .inl x))] := hD
    first | exact hret _ ls _ _ ctr d_Ru_jumpIf_21 (by rw [if_pos (of_decide_eq_true (kb_n0 h7))]) hP hS | exact hret _ ls _ _ (min (wv f 8) 96) d_Ru_jumpIf_21 (by rw [if_neg (of_decide_eq_false (kb_0.mp h7))]) hP hS

