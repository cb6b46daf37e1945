/-! a step of the reference -/
def m_usedR (o A B : Nat) : Nat := if o = 81 ∨ o = 82 then min A 65535 + 32 else if o = 83 then min A 65535 + 1 else if o = 243 ∧ B ≠ 0 then min A 65535 + min B 65535 else 0
theorem m_usedR_le (o A B : Nat) : m_usedR o A B ≤ 131070 := by
  unfold m_usedR; (repeat' split) <;> omega
theorem usR_81 {o A B : Nat} (h : o = 81 ∨ o = 82) : min A 65535 + 32 = m_usedR o A B := by unfold m_usedR; rw [if_pos h]
theorem usR_83 {o A B : Nat} (h1 : ¬ (o = 81 ∨ o = 82)) (h : o = 83) : min A 65535 + 1 = m_usedR o A B := by unfold m_usedR; rw [if_neg h1, if_pos h]
theorem usR_0 {o A B : Nat} (h1 : ¬ (o = 81 ∨ o = 82)) (h : o ≠ 83) (h2 : o ≠ 243 ∨ B = 0) : 0 = m_usedR o A B := by
  unfold m_usedR; rw [if_neg h1, if_neg h, if_neg (fun q => by rcases h2 with w | w; exact w q.1; exact q.2 w)]
theorem usR_243 {o A B : Nat} (h : o = 243) (h2 : B ≠ 0) : min A 65535 + min B 65535 = m_usedR o A B := by
  unfold m_usedR; rw [if_neg (by omega), if_neg (by omega), if_pos ⟨h, h2⟩]
theorem usR_m {o A B A' B' : Nat} (hA : 81 ≤ o ∧ o ≤ 83 ∨ o = 243 → A' = A) (hB : o = 243 → B' = B) : (160 < m_usedR o A' B' ↔ 160 < m_used o A B) ∧ (¬ 160 < m_usedR o A' B' → m_usedR o A' B' = m_used o A B) := by
  unfold m_usedR m_used
  by_cases c1 : o = 81 ∨ o = 82
  · rw [if_pos c1, if_pos c1, hA (by omega)]; omega
  rw [if_neg c1, if_neg c1]
  by_cases c2 : o = 83
  · rw [if_pos c2, if_pos c2, hA (by omega)]; omega
  rw [if_neg c2, if_neg c2]
  by_cases c3 : o = 243
  · rw [hA (by omega), hB c3]
    by_cases c4 : o = 243 ∧ B ≠ 0
    · rw [if_pos c4, if_pos c4]; omega
    · rw [if_neg c4, if_neg c4]; omega
  · rw [if_neg (fun q => c3 q.1), if_neg (fun q => c3 q.1)]; omega
theorem tk_us (o : Nat) : (81 ≤ o ∧ o ≤ 83 → 1 ≤ m_takes o) ∧ (o = 243 → m_takes o = 2) ∧ (o = 86 → m_takes o = 1) ∧ (o = 87 → m_takes o = 2) := by
  refine ⟨fun h => ?_, fun h => ?_, fun h => ?_, fun h => ?_⟩
  · rcases (by omega : o = 81 ∨ o = 82 ∨ o = 83) with rfl | rfl | rfl <;> decide
  · subst h; rfl
  · subst h; rfl
  · subst h; rfl
theorem top_r {g stk : Nat → Nat} {hgt t : Nat} (hsk : ∀ i, i < 16 → rR g i = stk i) (hh : hgt ≤ 16) (ht : t < hgt) : gv g (16 * (hgt - 1 - t)) 16 = m_top stk hgt t := by
  unfold m_top
  rw [if_pos ht, ← hsk (hgt - 1 - t) (by omega)]
  rfl
theorem mk_min {len : Nat} {b : Nat → Nat} {A : Nat} (hl : len ≤ 96) : (m_in (nI (min A 65535)) len && m_marked len b (nI (min A 65535)).toNatClampNeg) = m_marked len b A := by
  rw [m_in_nI (by omega) (by omega), nI_clamp (by omega)]
  by_cases h : A ≤ 65535
  · rw [Nat.min_eq_left h]
    by_cases q : A < len
    · rw [decide_eq_true q, Bool.true_and]
    · rw [decide_eq_false q, Bool.false_and]; unfold m_marked; rw [decide_eq_false q]; rfl
  · rw [decide_eq_false (by omega), Bool.false_and]; unfold m_marked; rw [decide_eq_false (by omega)]; rfl
def m_tr (t o : Nat) : Nat := if t ≠ 0 then t else if o = 0 then 1 else if o = 243 then 2 else 0
section FG
variable {len : Nat} {b : Nat → Nat} {o gas siz hgt A B : Nat}
theorem fg_8 (hk : m_known o = true) (h : ¬ hgt < m_takes o) (h2 : ¬ 16 < hgt - m_takes o + m_gives o) (h3 : 160 < m_used o A B) : m_fault len b o gas siz hgt A B = 8 := by
  unfold m_fault; rw [if_neg (by rw [hk]; decide), if_neg h, if_neg h2, if_pos h3]
theorem fg_4 (hk : m_known o = true) (h : ¬ hgt < m_takes o) (h2 : ¬ 16 < hgt - m_takes o + m_gives o) (h3 : ¬ 160 < m_used o A B) (h4 : gas < m_price o siz (m_used o A B)) : m_fault len b o gas siz hgt A B = 4 := by
  unfold m_fault; rw [if_neg (by rw [hk]; decide), if_neg h, if_neg h2, if_neg h3, if_pos h4]
theorem fg_3 (hk : m_known o = true) (h : ¬ hgt < m_takes o) (h2 : ¬ 16 < hgt - m_takes o + m_gives o) (h3 : ¬ 160 < m_used o A B) (h4 : ¬ gas < m_price o siz (m_used o A B)) (h5 : m_jumps o B = true) (h6 : m_marked len b A = false) : m_fault len b o gas siz hgt A B = 3 := by
  unfold m_fault; rw [if_neg (by rw [hk]; decide), if_neg h, if_neg h2, if_neg h3, if_neg h4, h5, h6]; rfl
theorem fg_0 (hk : m_known o = true) (h : ¬ hgt < m_takes o) (h2 : ¬ 16 < hgt - m_takes o + m_gives o) (h3 : ¬ 160 < m_used o A B) (h4 : ¬ gas < m_price o siz (m_used o A B)) (h5 : m_jumps o B = false ∨ m_marked len b A = true) : m_fault len b o gas siz hgt A B = 0 := by
  unfold m_fault; rw [if_neg (by rw [hk]; decide), if_neg h, if_neg h2, if_neg h3, if_neg h4]
  rcases h5 with q | q
  · rw [q]; rfl
  · rw [q]; simp
theorem ff_n : m_fault len b o gas siz hgt A B ≠ 1 ∧ m_fault len b o gas siz hgt A B ≠ 2 := by
  unfold m_fault; (repeat' split) <;> decide
end FG
theorem tr_post {t t' o g1 s1 gas siz : Nat} {X : Nat × Nat} (h : t = t') (h0 : t' ≠ 0) : nI t' = nI (m_tr t o) ∧ (gas, siz) = (if t = 0 then X else (gas, siz)) := by
  subst h; unfold m_tr; rw [if_pos h0, if_neg h0]; exact ⟨rfl, rfl⟩
theorem tr_ok {t o x : Nat} {X Y : Nat × Nat} (h : t = 0) (hx : x = if o = 0 then 1 else if o = 243 then 2 else 0) : nI x = nI (m_tr t o) ∧ X = (if t = 0 then X else Y) := by
  subst h; unfold m_tr; rw [if_neg (by decide), if_pos rfl, hx]; exact ⟨rfl, rfl⟩
theorem gr_1 {siz u : Nat} (h : siz < u) : (u + 31) / 32 * 32 = m_grown siz u := by unfold m_grown; rw [if_pos h]
theorem gr_2 {siz u : Nat} (h : ¬ siz < u) : siz = m_grown siz u := by unfold m_grown; rw [if_neg h]
theorem gr_ge (siz u : Nat) : siz ≤ m_grown siz u := by unfold m_grown; split <;> omega
/-- nothing hangs on words that are not taken -/
theorem mop_c {o a b c c' : Nat} (h8 : o ≠ 8) (h9 : o ≠ 9) : m_op o a b c = m_op o a b c' := by
  unfold m_op; split <;> first | rfl | contradiction
theorem res_dep {b : Nat → Nat} {o gas ctr siz A B C A' B' C' : Nat} {mem : Nat → Nat} (hk : m_known o = true) (ho : o < 128) (hz : o ≠ 0) (h1 : 1 ≤ m_takes o → A = A') (h2 : 2 ≤ m_takes o → B = B') (h3 : 3 ≤ m_takes o → C = C') : m_res b o gas ctr siz A B C mem = m_res b o gas ctr siz A' B' C' mem := by
  have hk2 := (kn_iff o).mp hk
  unfold m_res
  by_cases c0 : o < 32
  · rw [if_pos c0, if_pos c0]
    by_cases c3 : o = 8 ∨ o = 9
    · have e : m_takes o = 3 := by rcases c3 with rfl | rfl <;> rfl
      rw [h1 (by omega), h2 (by omega), h3 (by omega)]
    · by_cases c1 : o = 21 ∨ o = 25
      · have e : m_takes o = 1 := by rcases c1 with rfl | rfl <;> rfl
        rw [h1 (by omega)]
        rcases c1 with rfl | rfl <;> rfl
      · have e : m_takes o = 2 := by
          unfold m_takes; rw [if_neg (by omega), if_neg (by omega), if_neg (by omega), if_neg (by omega), if_neg (by omega)]
        rw [h1 (by omega), h2 (by omega), mop_c (c := C) (c' := C') (by omega) (by omega)]
  · rw [if_neg c0, if_neg c0]
    by_cases c1 : o = 81
    · rw [if_pos c1, if_pos c1, h1 (by subst c1; decide)]
    · rw [if_neg c1, if_neg c1]
theorem mem_dep {o A B A' B' : Nat} {mem : Nat → Nat} (h1 : 1 ≤ m_takes o → A = A') (h2 : 2 ≤ m_takes o → B = B') : m_mem o A B mem = m_mem o A' B' mem := by
  funext k
  unfold m_mem
  by_cases c1 : o = 83
  · subst c1; rw [h1 (by decide), h2 (by decide)]
  · by_cases c2 : o = 82
    · subst c2; rw [h1 (by decide), h2 (by decide)]
    · rw [if_neg (fun q => c1 q.1), if_neg (fun q => c2 q.1), if_neg (fun q => c1 q.1), if_neg (fun q => c2 q.1)]
theorem used_dep {o A B A' B' : Nat} (h1 : 1 ≤ m_takes o → A = A') (h2 : 2 ≤ m_takes o → B = B') : m_used o A B = m_used o A' B' := by
  have t := tk_us o
  unfold m_used
  by_cases c1 : o = 81 ∨ o = 82
  · rw [if_pos c1, if_pos c1, h1 (t.1 (by omega))]
  rw [if_neg c1, if_neg c1]
  by_cases c2 : o = 83
  · rw [if_pos c2, if_pos c2, h1 (t.1 (by omega))]
  rw [if_neg c2, if_neg c2]
  by_cases c3 : o = 243
  · have e := t.2.1 c3
    rw [h1 (by omega), h2 (by omega)]
  · rw [if_neg (fun q => c3 q.1), if_neg (fun q => c3 q.1)]
theorem tk_lo {o : Nat} (ho : o < 128) : m_takes o = 0 ∨ m_takes o = 1 ∨ m_takes o = 2 ∨ m_takes o = 3 := by
  unfold m_takes; (repeat' split) <;> omega
/-- words taken: what lies in the three rows -/
def tk1 (g : Nat → Nat) (h n : Nat) : Nat → Nat :=
  match n with
  | 0 => g
  | 1 => cpy g 256 (16 * (h - 1 - 0))
  | 2 => cpy (cpy g 256 (16 * (h - 1 - 0))) 272 (16 * (h - 1 - 1))
  | _ => cpy (cpy (cpy g 256 (16 * (h - 1 - 0))) 272 (16 * (h - 1 - 1))) 288 (16 * (h - 1 - 2))
theorem tk1_16 {g : Nat → Nat} {h n : Nat} (hg : ∀ j, g j < 65536) : ∀ j, tk1 g h n j < 65536 := by
  unfold tk1; split
  · exact hg
  · exact cpy_16 hg
  · exact cpy_16 (cpy_16 hg)
  · exact cpy_16 (cpy_16 (cpy_16 hg))
theorem tk1_lo {g : Nat → Nat} {h n j : Nat} (hj : j < 256) : tk1 g h n j = g j := by
  unfold tk1; split
  · rfl
  · rw [cpy_out (by omega)]
  · rw [cpy_out (by omega), cpy_out (by omega)]
  · rw [cpy_out (by omega), cpy_out (by omega), cpy_out (by omega)]
theorem tk1_A {g stk : Nat → Nat} {h n : Nat} (hsk : ∀ i, i < 16 → rR g i = stk i) (hh : h ≤ 16) (hn : n ≤ h) (hn3 : n ≤ 3) (q : 1 ≤ n) : gv (tk1 g h n) 256 16 = m_top stk h 0 := by
  rw [← top_r hsk hh (by omega)]
  unfold tk1; split
  · omega
  · rw [gv_cpy]
  · rw [gv_cpy_out (by omega), gv_cpy]
  · rw [gv_cpy_out (by omega), gv_cpy_out (by omega), gv_cpy]
theorem tk1_B {g stk : Nat → Nat} {h n : Nat} (hsk : ∀ i, i < 16 → rR g i = stk i) (hh : h ≤ 16) (hn : n ≤ h) (hn3 : n ≤ 3) (q : 2 ≤ n) : gv (tk1 g h n) 272 16 = m_top stk h 1 := by
  rw [← top_r hsk hh (by omega)]
  unfold tk1; split
  · omega
  · omega
  · rw [gv_cpy, gv_cpy_out (by omega)]
  · rw [gv_cpy_out (by omega), gv_cpy, gv_cpy_out (by omega)]
theorem tk1_C {g stk : Nat → Nat} {h n : Nat} (hsk : ∀ i, i < 16 → rR g i = stk i) (hh : h ≤ 16) (hn : n ≤ h) (hn3 : n ≤ 3) (q : 3 ≤ n) : gv (tk1 g h n) 288 16 = m_top stk h 2 := by
  rw [← top_r hsk hh (by omega)]
  obtain rfl : n = 3 := by omega
  show gv (cpy (cpy (cpy g 256 (16 * (h - 1 - 0))) 272 (16 * (h - 1 - 1))) 288 (16 * (h - 1 - 2))) 288 16 = _
  rw [gv_cpy, gv_cpy_out (by omega), gv_cpy_out (by omega)]
abbrev rS : Type := mS × Nat × (Nat → Nat)
def okRr (y : rS) : Prop := okM y.1 ∧ (0 < y.1.2.2.2.2.2.2.1 → y.1.2.2.2.2.2.1 = y.2.1) ∧ (∀ i, i < 16 → rR y.2.2 i = y.1.2.2.2.2.2.2.2.1 i) ∧ ∀ j, y.2.2 j < 65536
theorem go_lo {len : Nat} {b stk mem X4 : Nat → Nat} {en gas ctr siz hgt frm ret X1 X2 : Nat} (h : m_fault len b (b ctr) gas siz hgt (m_top stk hgt 0) (m_top stk hgt 1) = 0) (h0 : ¬ (b ctr = 0 ∨ b ctr = 243)) {D : Nat × Nat × (Nat → Nat) × (Nat → Nat)}
    (hD : m_do b (b ctr) (gas - m_price (b ctr) siz (m_used (b ctr) (m_top stk hgt 0) (m_top stk hgt 1))) ctr (m_grown siz (m_used (b ctr) (m_top stk hgt 0) (m_top stk hgt 1))) hgt (m_top stk hgt 0) (m_top stk hgt 1) (m_top stk hgt 2) stk mem = D) (e1 : X1 = D.1) (e2 : X2 = D.2.1) (e4 : X4 = D.2.2.2) :
    ((0, gas - m_price (b ctr) siz (m_used (b ctr) (m_top stk hgt 0) (m_top stk hgt 1)), X1, m_grown siz (m_used (b ctr) (m_top stk hgt 0) (m_top stk hgt 1)), X2, frm, ret, D.2.2.1, X4) : mS) = m_go len b (en, gas, ctr, siz, hgt, frm, ret, stk, mem) := by
  rw [mg_do rfl rfl rfl h h0, hD, e1, e2, e4]

abbrev y_M_uses : MethodName := ⟨"WideStackModel", "uses", "(I)I"⟩
theorem d_M_uses_0 : decode prog_12_method_35_code 0 = .ok (.iload_n 1, 1) := by decide +kernel
theorem d_M_uses_1 : decode prog_12_method_35_code 1 = .ok (.bipush 81, 2) := by decide +kernel
theorem d_M_uses_3 : decode prog_12_method_35_code 3 = .ok (.if_icmp .eq 9, 3) := by decide +kernel
theorem d_M_uses_6 : decode prog_12_method_35_code 6 = .ok (.iload_n 1, 1) := by decide +kernel
theorem d_M_uses_7 : decode prog_12_method_35_code 7 = .ok (.bipush 82, 2) := by decide +kernel
theorem d_M_uses_9 : decode prog_12_method_35_code 9 = .ok (.if_icmp .ne 16, 3) := by decide +kernel
theorem d_M_uses_12 : decode prog_12_method_35_code 12 = .ok (.aload_n 0, 1) := by decide +kernel
theorem d_M_uses_13 : decode prog_12_method_35_code 13 = .ok (.aload_n 0, 1) := by decide +kernel
theorem d_M_uses_14 : decode prog_12_method_35_code 14 = .ok (.iconst 0, 1) := by decide +kernel
theorem d_M_uses_15 : decode prog_12_method_35_code 15 = .ok (.invokevirtual 109, 3) := by decide +kernel
theorem d_M_uses_18 : decode prog_12_method_35_code 18 = .ok (.invokevirtual 88, 3) := by decide +kernel
theorem d_M_uses_21 : decode prog_12_method_35_code 21 = .ok (.bipush 32, 2) := by decide +kernel
theorem d_M_uses_23 : decode prog_12_method_35_code 23 = .ok (.iadd, 1) := by decide +kernel
theorem d_M_uses_24 : decode prog_12_method_35_code 24 = .ok (.ireturn, 1) := by decide +kernel
theorem d_M_uses_25 : decode prog_12_method_35_code 25 = .ok (.iload_n 1, 1) := by decide +kernel
theorem d_M_uses_26 : decode prog_12_method_35_code 26 = .ok (.bipush 83, 2) := by decide +kernel
theorem d_M_uses_28 : decode prog_12_method_35_code 28 = .ok (.if_icmp .ne 15, 3) := by decide +kernel
theorem d_M_uses_31 : decode prog_12_method_35_code 31 = .ok (.aload_n 0, 1) := by decide +kernel
theorem d_M_uses_32 : decode prog_12_method_35_code 32 = .ok (.aload_n 0, 1) := by decide +kernel
theorem d_M_uses_33 : decode prog_12_method_35_code 33 = .ok (.iconst 0, 1) := by decide +kernel
theorem d_M_uses_34 : decode prog_12_method_35_code 34 = .ok (.invokevirtual 109, 3) := by decide +kernel
theorem d_M_uses_37 : decode prog_12_method_35_code 37 = .ok (.invokevirtual 88, 3) := by decide +kernel
theorem d_M_uses_40 : decode prog_12_method_35_code 40 = .ok (.iconst 1, 1) := by decide +kernel
theorem d_M_uses_41 : decode prog_12_method_35_code 41 = .ok (.iadd, 1) := by decide +kernel
theorem d_M_uses_42 : decode prog_12_method_35_code 42 = .ok (.ireturn, 1) := by decide +kernel
theorem d_M_uses_43 : decode prog_12_method_35_code 43 = .ok (.iload_n 1, 1) := by decide +kernel
theorem d_M_uses_44 : decode prog_12_method_35_code 44 = .ok (.sipush 243, 3) := by decide +kernel
theorem d_M_uses_47 : decode prog_12_method_35_code 47 = .ok (.if_icmp .ne 15, 3) := by decide +kernel
theorem d_M_uses_50 : decode prog_12_method_35_code 50 = .ok (.aload_n 0, 1) := by decide +kernel
theorem d_M_uses_51 : decode prog_12_method_35_code 51 = .ok (.aload_n 0, 1) := by decide +kernel
theorem d_M_uses_52 : decode prog_12_method_35_code 52 = .ok (.iconst 1, 1) := by decide +kernel
theorem d_M_uses_53 : decode prog_12_method_35_code 53 = .ok (.invokevirtual 109, 3) := by decide +kernel
theorem d_M_uses_56 : decode prog_12_method_35_code 56 = .ok (.invokevirtual 62, 3) := by decide +kernel
theorem d_M_uses_59 : decode prog_12_method_35_code 59 = .ok (.ifCond .eq 7, 3) := by decide +kernel
theorem d_M_uses_62 : decode prog_12_method_35_code 62 = .ok (.iconst 0, 1) := by decide +kernel
theorem d_M_uses_63 : decode prog_12_method_35_code 63 = .ok (.goto 22, 3) := by decide +kernel
theorem d_M_uses_66 : decode prog_12_method_35_code 66 = .ok (.aload_n 0, 1) := by decide +kernel
theorem d_M_uses_67 : decode prog_12_method_35_code 67 = .ok (.aload_n 0, 1) := by decide +kernel
theorem d_M_uses_68 : decode prog_12_method_35_code 68 = .ok (.iconst 0, 1) := by decide +kernel
theorem d_M_uses_69 : decode prog_12_method_35_code 69 = .ok (.invokevirtual 109, 3) := by decide +kernel
theorem d_M_uses_72 : decode prog_12_method_35_code 72 = .ok (.invokevirtual 88, 3) := by decide +kernel
theorem d_M_uses_75 : decode prog_12_method_35_code 75 = .ok (.aload_n 0, 1) := by decide +kernel
theorem d_M_uses_76 : decode prog_12_method_35_code 76 = .ok (.aload_n 0, 1) := by decide +kernel
theorem d_M_uses_77 : decode prog_12_method_35_code 77 = .ok (.iconst 1, 1) := by decide +kernel
theorem d_M_uses_78 : decode prog_12_method_35_code 78 = .ok (.invokevirtual 109, 3) := by decide +kernel
theorem d_M_uses_81 : decode prog_12_method_35_code 81 = .ok (.invokevirtual 88, 3) := by decide +kernel
theorem d_M_uses_84 : decode prog_12_method_35_code 84 = .ok (.iadd, 1) := by decide +kernel
theorem d_M_uses_85 : decode prog_12_method_35_code 85 = .ok (.ireturn, 1) := by decide +kernel
def rm_c_M_uses : Room := { frames := 1, cells := 0, slots := 0, locals := 23 }
set_option maxHeartbeats 4000000 in
set_option maxRecDepth 100000 in
theorem c_M_uses (l : Launch) (E : kE) (mo mb mm mw mh ml len en gas ctr siz hgt frm ret : Nat) (on ay : Bool) (g : Nat → Nat) (hg : ∀ j, g j < 65536) (o : Nat) (ho : o < 256) (hh : hgt ≤ 16) (ht1 : (81 ≤ o ∧ o ≤ 83) → 1 ≤ hgt) (ht2 : o = 243 → 2 ≤ hgt) : Kp l y_M_uses (kW y_M_uses prog_12_method_35_code 2 (some .int)) rm_c_M_uses E [.ref mo, .int (nI o)] [(mo, .inr (8, [.int (nI len), .ref mb, .int (kb on), .int (nI en), .int (nI gas), .int (nI ctr), .int (nI siz), .int (nI hgt), .int (nI frm), .int (nI ret), .ref mm, .ref mw, .ref mh, .ref ml, .int (kb ay)])), (mw, .inl (E.2.1 0, 370, .inl (nF g)))] (fun r => r = nI (m_usedR o (gv g (16 * (hgt - 1 - 0)) 16) (gv g (16 * (hgt - 1 - 1)) 16))) := by
  refine Kp.ofI (cc := prog_12_method_35_code) (maxL := 2) (by decide) (Nat.le_of_ble_eq_true rfl) ?_
  intro p e s m args below meth c A ls Q hx hb hts hown hml hK hG hA hP hD hS hl hret
  have hl : lv_has ls 2 [(0, .ref mo), (1, .int (nI o))] := hl
  refine lv_iload_n hx hb d_M_uses_0 rfl (lv_at hl 1 rfl) ?_
  refine lv_bipush (v := nI 81) hx hb d_M_uses_1 (by decide) ?_
  refine kn_eq (tgt := 12) hx hb (by omega) (by omega) d_M_uses_3 (by decide) (fun h3 => ?_) (fun h3 => ?_)
  · refine lv_aload_n hx hb d_M_uses_12 rfl (lv_at hl 0 rfl) ?_
    refine lv_aload_n hx hb d_M_uses_13 rfl (lv_at hl 0 rfl) ?_
    refine lv_iconst (v := nI 0) hx hb d_M_uses_14 (by decide) ?_
    refine k_Vp (As := [.int (nI 0)]) (rest := [.ref mo]) ⟨hx, hb, hml, hown, hts⟩ (c_M_top l E mo mb mm mw mh ml len en gas ctr siz hgt frm ret on ay 0 (by omega)) (k_cwV 1 hts t_853 t_855 t_31 t_71 t_856 (by decide +kernel) ⟨Nat.le_of_ble_eq_true rfl, Nat.le_of_ble_eq_true rfl⟩) hK hG hA hP hD hS [0] rfl (by decide) 0 rfl rfl rfl hl.1 rfl (Nat.le_of_ble_eq_true rfl) d_M_uses_15 ⟨Nat.zero_le _, Nat.zero_le _⟩ (fun r15 hu15 => ?_)
    subst hu15
    refine k_Vp (As := [.int (nI (16 * (hgt - 1 - 0)))]) (rest := []) ⟨hx, hb, hml, hown, hts⟩ (c_M_small l E mo mb mm mw mh ml len en gas ctr siz hgt frm ret on ay g hg (16 * (hgt - 1 - 0)) (by omega)) (k_cwV 1 hts t_857 t_859 t_32 t_71 t_860 (by decide +kernel) ⟨Nat.le_of_ble_eq_true rfl, Nat.le_of_ble_eq_true rfl⟩) hK hG hA hP hD hS [0, 1] rfl (by decide) 0 rfl rfl rfl hl.1 rfl (Nat.le_of_ble_eq_true rfl) d_M_uses_18 ⟨Nat.zero_le _, Nat.zero_le _⟩ (fun r18 hu18 => ?_)
    subst hu18
    refine lv_bipush (v := nI 32) hx hb d_M_uses_21 (by decide) ?_
    refine lv_iadd hx hb d_M_uses_23 ?_
    refine k_top (nI_add _ _) ?_
    exact hret _ ls _ d_M_uses_24 (congrArg nI (usR_81 (by omega)))
  · refine lv_iload_n hx hb d_M_uses_6 rfl (lv_at hl 1 rfl) ?_
    refine lv_bipush (v := nI 82) hx hb d_M_uses_7 (by decide) ?_
    refine kn_ne (tgt := 25) hx hb (by omega) (by omega) d_M_uses_9 (by decide) (fun h9 => ?_) (fun h9 => ?_)
    · refine lv_iload_n hx hb d_M_uses_25 rfl (lv_at hl 1 rfl) ?_
      refine lv_bipush (v := nI 83) hx hb d_M_uses_26 (by decide) ?_
      refine kn_ne (tgt := 43) hx hb (by omega) (by omega) d_M_uses_28 (by decide) (fun h28 => ?_) (fun h28 => ?_)
      · refine lv_iload_n hx hb d_M_uses_43 rfl (lv_at hl 1 rfl) ?_
        refine lv_sipush (v := nI 243) hx hb d_M_uses_44 (by decide) ?_
        refine kn_ne (tgt := 62) hx hb (by omega) (by omega) d_M_uses_47 (by decide) (fun h47 => ?_) (fun h47 => ?_)
        · refine lv_iconst (v := nI 0) hx hb d_M_uses_62 (by decide) ?_
          refine lv_goto (tgt := 85) hx hb d_M_uses_63 (by decide) ?_
          first | exact hret _ ls _ d_M_uses_85 (congrArg nI (usR_243 h47 (of_decide_eq_false (kb_0.mp h59)))) | exact hret _ ls _ d_M_uses_85 (congrArg nI (usR_0 (by omega) h28 (Or.inl h47))) | exact hret _ ls _ d_M_uses_85 (congrArg nI (usR_0 (by omega) h28 (Or.inr (of_decide_eq_true (kb_n0 h59)))))
        · refine lv_aload_n hx hb d_M_uses_50 rfl (lv_at hl 0 rfl) ?_
          refine lv_aload_n hx hb d_M_uses_51 rfl (lv_at hl 0 rfl) ?_
          refine lv_iconst (v := nI 1) hx hb d_M_uses_52 (by decide) ?_
          refine k_Vp (As := [.int (nI 1)]) (rest := [.ref mo]) ⟨hx, hb, hml, hown, hts⟩ (c_M_top l E mo mb mm mw mh ml len en gas ctr siz hgt frm ret on ay 1 (by omega)) (k_cwV 1 hts t_853 t_855 t_31 t_71 t_856 (by decide +kernel) ⟨Nat.le_of_ble_eq_true rfl, Nat.le_of_ble_eq_true rfl⟩) hK hG hA hP hD hS [0] rfl (by decide) 0 rfl rfl rfl hl.1 rfl (Nat.le_of_ble_eq_true rfl) d_M_uses_53 ⟨Nat.zero_le _, Nat.zero_le _⟩ (fun r53 hu53 => ?_)
          subst hu53
          refine k_Vp (As := [.int (nI (16 * (hgt - 1 - 1)))]) (rest := []) ⟨hx, hb, hml, hown, hts⟩ (c_M_isZero l E mo mb mm mw mh ml len en gas ctr siz hgt frm ret on ay g hg (16 * (hgt - 1 - 1)) (by omega)) (k_cwV 1 hts t_861 t_863 t_33 t_71 t_864 (by decide +kernel) ⟨Nat.le_of_ble_eq_true rfl, Nat.le_of_ble_eq_true rfl⟩) hK hG hA hP hD hS [0, 1] rfl (by decide) 0 rfl rfl rfl hl.1 rfl (Nat.le_of_ble_eq_true rfl) d_M_uses_56 ⟨Nat.zero_le _, Nat.zero_le _⟩ (fun r56 hu56 => ?_)
          subst hu56
          refine lv_if_eq (tgt := 66) hx hb d_M_uses_59 (by decide) (fun h59 => ?_) (fun h59 => ?_)
          · refine lv_aload_n hx hb d_M_uses_66 rfl (lv_at hl 0 rfl) ?_
            refine lv_aload_n hx hb d_M_uses_67 rfl (lv_at hl 0 rfl) ?_
            refine lv_iconst (v := nI 0) hx hb d_M_uses_68 (by decide) ?_
            refine k_Vp (As := [.int (nI 0)]) (rest := [.ref mo]) ⟨hx, hb, hml, hown, hts⟩ (c_M_top l E mo mb mm mw mh ml len en gas ctr siz hgt frm ret on ay 0 (by omega)) (k_cwV 1 hts t_853 t_855 t_31 t_71 t_856 (by decide +kernel) ⟨Nat.le_of_ble_eq_true rfl, Nat.le_of_ble_eq_true rfl⟩) hK hG hA hP hD hS [0] rfl (by decide) 0 rfl rfl rfl hl.1 rfl (Nat.le_of_ble_eq_true rfl) d_M_uses_69 ⟨Nat.zero_le _, Nat.zero_le _⟩ (fun r69 hu69 => ?_)
            subst hu69
            refine k_Vp (As := [.int (nI (16 * (hgt - 1 - 0)))]) (rest := []) ⟨hx, hb, hml, hown, hts⟩ (c_M_small l E mo mb mm mw mh ml len en gas ctr siz hgt frm ret on ay g hg (16 * (hgt - 1 - 0)) (by omega)) (k_cwV 1 hts t_857 t_859 t_32 t_71 t_860 (by decide +kernel) ⟨Nat.le_of_ble_eq_true rfl, Nat.le_of_ble_eq_true rfl⟩) hK hG hA hP hD hS [0, 1] rfl (by decide) 0 rfl rfl rfl hl.1 rfl (Nat.le_of_ble_eq_true rfl) d_M_uses_72 ⟨Nat.zero_le _, Nat.zero_le _⟩ (fun r72 hu72 => ?_)
            subst hu72
            refine lv_aload_n hx hb d_M_uses_75 rfl (lv_at hl 0 rfl) ?_
            refine lv_aload_n hx hb d_M_uses_76 rfl (lv_at hl 0 rfl) ?_
            refine lv_iconst (v := nI 1) hx hb d_M_uses_77 (by decide) ?_
            refine k_Vp (As := [.int (nI 1)]) (rest := [.ref mo, .int (nI (min (gv g (16 * (hgt - 1 - 0)) 16) 65535))]) ⟨hx, hb, hml, hown, hts⟩ (c_M_top l E mo mb mm mw mh ml len en gas ctr siz hgt frm ret on ay 1 (by omega)) (k_cwV 1 hts t_853 t_855 t_31 t_71 t_856 (by decide +kernel) ⟨Nat.le_of_ble_eq_true rfl, Nat.le_of_ble_eq_true rfl⟩) hK hG hA hP hD hS [0] rfl (by decide) 0 rfl rfl rfl hl.1 rfl (Nat.le_of_ble_eq_true rfl) d_M_uses_78 ⟨Nat.zero_le _, Nat.zero_le _⟩ (fun r78 hu78 => ?_)
            subst hu78
            refine k_Vp (As := [.int (nI (16 * (hgt - 1 - 1)))]) (rest := [.int (nI (min (gv g (16 * (hgt - 1 - 0)) 16) 65535))]) ⟨hx, hb, hml, hown, hts⟩ (c_M_small l E mo mb mm mw mh ml len en gas ctr siz hgt frm ret on ay g hg (16 * (hgt - 1 - 1)) (by omega)) (k_cwV 1 hts t_857 t_859 t_32 t_71 t_860 (by decide +kernel) ⟨Nat.le_of_ble_eq_true rfl, Nat.le_of_ble_eq_true rfl⟩) hK hG hA hP hD hS [0, 1] rfl (by decide) 0 rfl rfl rfl hl.1 rfl (Nat.le_of_ble_eq_true rfl) d_M_uses_81 ⟨Nat.zero_le _, Nat.zero_le _⟩ (fun r81 hu81 => ?_)
            subst hu81
            refine lv_iadd hx hb d_M_uses_84 ?_
            refine k_top (nI_add _ _) ?_
            first | exact hret _ ls _ d_M_uses_85 (congrArg nI (usR_243 h47 (of_decide_eq_false (kb_0.mp h59)))) | exact hret _ ls _ d_M_uses_85 (congrArg nI (usR_0 (by omega) h28 (Or.inl h47))) | exact hret _ ls _ d_M_uses_85 (congrArg nI (usR_0 (by omega) h28 (Or.inr (of_decide_eq_true (kb_n0 h59)))))
          · refine lv_iconst (v := nI 0) hx hb d_M_uses_62 (by decide) ?_
            refine lv_goto (tgt := 85) hx hb d_M_uses_63 (by decide) ?_
            first | exact hret _ ls _ d_M_uses_85 (congrArg nI (usR_243 h47 (of_decide_eq_false (kb_0.mp h59)))) | exact hret _ ls _ d_M_uses_85 (congrArg nI (usR_0 (by omega) h28 (Or.inl h47))) | exact hret _ ls _ d_M_uses_85 (congrArg nI (usR_0 (by omega) h28 (Or.inr (of_decide_eq_true (kb_n0 h59)))))
      · refine lv_aload_n hx hb d_M_uses_31 rfl (lv_at hl 0 rfl) ?_
        refine lv_aload_n hx hb d_M_uses_32 rfl (lv_at hl 0 rfl) ?_
        refine lv_iconst (v := nI 0) hx hb d_M_uses_33 (by decide) ?_
        refine k_Vp (As := [.int (nI 0)]) (rest := [.ref mo]) ⟨hx, hb, hml, hown, hts⟩ (c_M_top l E mo mb mm mw mh ml len en gas ctr siz hgt frm ret on ay 0 (by omega)) (k_cwV 1 hts t_853 t_855 t_31 t_71 t_856 (by decide +kernel) ⟨Nat.le_of_ble_eq_true rfl, Nat.le_of_ble_eq_true rfl⟩) hK hG hA hP hD hS [0] rfl (by decide) 0 rfl rfl rfl hl.1 rfl (Nat.le_of_ble_eq_true rfl) d_M_uses_34 ⟨Nat.zero_le _, Nat.zero_le _⟩ (fun r34 hu34 => ?_)
        subst hu34
        refine k_Vp (As := [.int (nI (16 * (hgt - 1 - 0)))]) (rest := []) ⟨hx, hb, hml, hown, hts⟩ (c_M_small l E mo mb mm mw mh ml len en gas ctr siz hgt frm ret on ay g hg (16 * (hgt - 1 - 0)) (by omega)) (k_cwV 1 hts t_857 t_859 t_32 t_71 t_860 (by decide +kernel) ⟨Nat.le_of_ble_eq_true rfl, Nat.le_of_ble_eq_true rfl⟩) hK hG hA hP hD hS [0, 1] rfl (by decide) 0 rfl rfl rfl hl.1 rfl (Nat.le_of_ble_eq_true rfl) d_M_uses_37 ⟨Nat.zero_le _, Nat.zero_le _⟩ (fun r37 hu37 => ?_)
        subst hu37
        refine lv_iconst (v := nI 1) hx hb d_M_uses_40 (by decide) ?_
        refine lv_iadd hx hb d_M_uses_41 ?_
        refine k_top (nI_add _ _) ?_
        exact hret _ ls _ d_M_uses_42 (congrArg nI (usR_83 (by omega) h28))
    · refine lv_aload_n hx hb d_M_uses_12 rfl (lv_at hl 0 rfl) ?_
      refine lv_aload_n hx hb d_M_uses_13 rfl (lv_at hl 0 rfl) ?_
      refine lv_iconst (v := nI 0) hx hb d_M_uses_14 (by decide) ?_
      refine k_Vp (As := [.int (nI 0)]) (rest := [.ref mo]) ⟨hx, hb, hml, hown, hts⟩ (c_M_top l E mo mb mm mw mh ml len en gas ctr siz hgt frm ret on ay 0 (by omega)) (k_cwV 1 hts t_853 t_855 t_31 t_71 t_856 (by decide +kernel) ⟨Nat.le_of_ble_eq_true rfl, Nat.le_of_ble_eq_true rfl⟩) hK hG hA hP hD hS [0] rfl (by decide) 0 rfl rfl rfl hl.1 rfl (Nat.le_of_ble_eq_true rfl) d_M_uses_15 ⟨Nat.zero_le _, Nat.zero_le _⟩ (fun r15 hu15 => ?_)
      subst hu15
      refine k_Vp (As := [.int (nI (16 * (hgt - 1 - 0)))]) (rest := []) ⟨hx, hb, hml, hown, hts⟩ (c_M_small l E mo mb mm mw mh ml len en gas ctr siz hgt frm ret on ay g hg (16 * (hgt - 1 - 0)) (by omega)) (k_cwV 1 hts t_857 t_859 t_32 t_71 t_860 (by decide +kernel) ⟨Nat.le_of_ble_eq_true rfl, Nat.le_of_ble_eq_true rfl⟩) hK hG hA hP hD hS [0, 1] rfl (by decide) 0 rfl rfl rfl hl.1 rfl (Nat.le_of_ble_eq_true rfl) d_M_uses_18 ⟨Nat.zero_le _, Nat.zero_le _⟩ (fun r18 hu18 => ?_)
      subst hu18
      refine lv_bipush (v := nI 32) hx hb d_M_uses_21 (by decide) ?_
      refine lv_iadd hx hb d_M_uses_23 ?_
      refine k_top (nI_add _ _) ?_
      exact hret _ ls _ d_M_uses_24 (congrArg nI (usR_81 (by omega)))

abbrev y_M_trouble : MethodName := ⟨"WideStackModel", "trouble", "(I)I"⟩
theorem d_M_trouble_0 : decode prog_12_method_36_code 0 = .ok (.iload_n 1, 1) := by decide +kernel
theorem d_M_trouble_1 : decode prog_12_method_36_code 1 = .ok (.invokestatic 112, 3) := by decide +kernel
theorem d_M_trouble_4 : decode prog_12_method_36_code 4 = .ok (.ifCond .ne 6, 3) := by decide +kernel
theorem d_M_trouble_7 : decode prog_12_method_36_code 7 = .ok (.bipush 7, 2) := by decide +kernel
theorem d_M_trouble_9 : decode prog_12_method_36_code 9 = .ok (.ireturn, 1) := by decide +kernel
theorem d_M_trouble_10 : decode prog_12_method_36_code 10 = .ok (.aload_n 0, 1) := by decide +kernel
theorem d_M_trouble_11 : decode prog_12_method_36_code 11 = .ok (.getfield 91, 3) := by decide +kernel
theorem d_M_trouble_14 : decode prog_12_method_36_code 14 = .ok (.iload_n 1, 1) := by decide +kernel
theorem d_M_trouble_15 : decode prog_12_method_36_code 15 = .ok (.invokestatic 115, 3) := by decide +kernel
theorem d_M_trouble_18 : decode prog_12_method_36_code 18 = .ok (.if_icmp .ge 5, 3) := by decide +kernel
theorem d_M_trouble_21 : decode prog_12_method_36_code 21 = .ok (.iconst 5, 1) := by decide +kernel
theorem d_M_trouble_22 : decode prog_12_method_36_code 22 = .ok (.ireturn, 1) := by decide +kernel
theorem d_M_trouble_23 : decode prog_12_method_36_code 23 = .ok (.aload_n 0, 1) := by decide +kernel
theorem d_M_trouble_24 : decode prog_12_method_36_code 24 = .ok (.getfield 91, 3) := by decide +kernel
theorem d_M_trouble_27 : decode prog_12_method_36_code 27 = .ok (.iload_n 1, 1) := by decide +kernel
theorem d_M_trouble_28 : decode prog_12_method_36_code 28 = .ok (.invokestatic 115, 3) := by decide +kernel
theorem d_M_trouble_31 : decode prog_12_method_36_code 31 = .ok (.isub, 1) := by decide +kernel
theorem d_M_trouble_32 : decode prog_12_method_36_code 32 = .ok (.iload_n 1, 1) := by decide +kernel
theorem d_M_trouble_33 : decode prog_12_method_36_code 33 = .ok (.invokestatic 118, 3) := by decide +kernel
theorem d_M_trouble_36 : decode prog_12_method_36_code 36 = .ok (.iadd, 1) := by decide +kernel
theorem d_M_trouble_37 : decode prog_12_method_36_code 37 = .ok (.bipush 16, 2) := by decide +kernel
theorem d_M_trouble_39 : decode prog_12_method_36_code 39 = .ok (.if_icmp .le 6, 3) := by decide +kernel
theorem d_M_trouble_42 : decode prog_12_method_36_code 42 = .ok (.bipush 6, 2) := by decide +kernel
theorem d_M_trouble_44 : decode prog_12_method_36_code 44 = .ok (.ireturn, 1) := by decide +kernel
theorem d_M_trouble_45 : decode prog_12_method_36_code 45 = .ok (.aload_n 0, 1) := by decide +kernel
theorem d_M_trouble_46 : decode prog_12_method_36_code 46 = .ok (.iload_n 1, 1) := by decide +kernel
theorem d_M_trouble_47 : decode prog_12_method_36_code 47 = .ok (.invokevirtual 121, 3) := by decide +kernel
theorem d_M_trouble_50 : decode prog_12_method_36_code 50 = .ok (.istore_n 2, 1) := by decide +kernel
theorem d_M_trouble_51 : decode prog_12_method_36_code 51 = .ok (.iload_n 2, 1) := by decide +kernel
theorem d_M_trouble_52 : decode prog_12_method_36_code 52 = .ok (.sipush 160, 3) := by decide +kernel
theorem d_M_trouble_55 : decode prog_12_method_36_code 55 = .ok (.if_icmp .le 6, 3) := by decide +kernel
theorem d_M_trouble_58 : decode prog_12_method_36_code 58 = .ok (.bipush 8, 2) := by decide +kernel
theorem d_M_trouble_60 : decode prog_12_method_36_code 60 = .ok (.ireturn, 1) := by decide +kernel
theorem d_M_trouble_61 : decode prog_12_method_36_code 61 = .ok (.iload_n 2, 1) := by decide +kernel
theorem d_M_trouble_62 : decode prog_12_method_36_code 62 = .ok (.aload_n 0, 1) := by decide +kernel
theorem d_M_trouble_63 : decode prog_12_method_36_code 63 = .ok (.getfield 103, 3) := by decide +kernel
theorem d_M_trouble_66 : decode prog_12_method_36_code 66 = .ok (.if_icmp .le 16, 3) := by decide +kernel
theorem d_M_trouble_69 : decode prog_12_method_36_code 69 = .ok (.iload_n 2, 1) := by decide +kernel
theorem d_M_trouble_70 : decode prog_12_method_36_code 70 = .ok (.bipush 31, 2) := by decide +kernel
theorem d_M_trouble_72 : decode prog_12_method_36_code 72 = .ok (.iadd, 1) := by decide +kernel
theorem d_M_trouble_73 : decode prog_12_method_36_code 73 = .ok (.bipush 32, 2) := by decide +kernel
theorem d_M_trouble_75 : decode prog_12_method_36_code 75 = .ok (.idiv, 1) := by decide +kernel
theorem d_M_trouble_76 : decode prog_12_method_36_code 76 = .ok (.bipush 32, 2) := by decide +kernel
theorem d_M_trouble_78 : decode prog_12_method_36_code 78 = .ok (.imul, 1) := by decide +kernel
theorem d_M_trouble_79 : decode prog_12_method_36_code 79 = .ok (.goto 7, 3) := by decide +kernel
theorem d_M_trouble_82 : decode prog_12_method_36_code 82 = .ok (.aload_n 0, 1) := by decide +kernel
theorem d_M_trouble_83 : decode prog_12_method_36_code 83 = .ok (.getfield 103, 3) := by decide +kernel
theorem d_M_trouble_86 : decode prog_12_method_36_code 86 = .ok (.istore_n 3, 1) := by decide +kernel
theorem d_M_trouble_87 : decode prog_12_method_36_code 87 = .ok (.iload_n 1, 1) := by decide +kernel
theorem d_M_trouble_88 : decode prog_12_method_36_code 88 = .ok (.invokestatic 124, 3) := by decide +kernel
theorem d_M_trouble_91 : decode prog_12_method_36_code 91 = .ok (.iconst 3, 1) := by decide +kernel
theorem d_M_trouble_92 : decode prog_12_method_36_code 92 = .ok (.iload_n 3, 1) := by decide +kernel
theorem d_M_trouble_93 : decode prog_12_method_36_code 93 = .ok (.aload_n 0, 1) := by decide +kernel
theorem d_M_trouble_94 : decode prog_12_method_36_code 94 = .ok (.getfield 103, 3) := by decide +kernel
theorem d_M_trouble_97 : decode prog_12_method_36_code 97 = .ok (.isub, 1) := by decide +kernel
theorem d_M_trouble_98 : decode prog_12_method_36_code 98 = .ok (.imul, 1) := by decide +kernel
theorem d_M_trouble_99 : decode prog_12_method_36_code 99 = .ok (.bipush 32, 2) := by decide +kernel
theorem d_M_trouble_101 : decode prog_12_method_36_code 101 = .ok (.idiv, 1) := by decide +kernel
theorem d_M_trouble_102 : decode prog_12_method_36_code 102 = .ok (.iadd, 1) := by decide +kernel
theorem d_M_trouble_103 : decode prog_12_method_36_code 103 = .ok (.istore 4, 2) := by decide +kernel
theorem d_M_trouble_105 : decode prog_12_method_36_code 105 = .ok (.iload 4, 2) := by decide +kernel
theorem d_M_trouble_107 : decode prog_12_method_36_code 107 = .ok (.aload_n 0, 1) := by decide +kernel
theorem d_M_trouble_108 : decode prog_12_method_36_code 108 = .ok (.getfield 97, 3) := by decide +kernel
theorem d_M_trouble_111 : decode prog_12_method_36_code 111 = .ok (.if_icmp .le 5, 3) := by decide +kernel
theorem d_M_trouble_114 : decode prog_12_method_36_code 114 = .ok (.iconst 4, 1) := by decide +kernel
theorem d_M_trouble_115 : decode prog_12_method_36_code 115 = .ok (.ireturn, 1) := by decide +kernel
theorem d_M_trouble_116 : decode prog_12_method_36_code 116 = .ok (.iload_n 1, 1) := by decide +kernel
theorem d_M_trouble_117 : decode prog_12_method_36_code 117 = .ok (.bipush 86, 2) := by decide +kernel
theorem d_M_trouble_119 : decode prog_12_method_36_code 119 = .ok (.if_icmp .eq 21, 3) := by decide +kernel
theorem d_M_trouble_122 : decode prog_12_method_36_code 122 = .ok (.iload_n 1, 1) := by decide +kernel
theorem d_M_trouble_123 : decode prog_12_method_36_code 123 = .ok (.bipush 87, 2) := by decide +kernel
theorem d_M_trouble_125 : decode prog_12_method_36_code 125 = .ok (.if_icmp .ne 19, 3) := by decide +kernel
theorem d_M_trouble_128 : decode prog_12_method_36_code 128 = .ok (.aload_n 0, 1) := by decide +kernel
theorem d_M_trouble_129 : decode prog_12_method_36_code 129 = .ok (.aload_n 0, 1) := by decide +kernel
theorem d_M_trouble_130 : decode prog_12_method_36_code 130 = .ok (.iconst 1, 1) := by decide +kernel
theorem d_M_trouble_131 : decode prog_12_method_36_code 131 = .ok (.invokevirtual 109, 3) := by decide +kernel
theorem d_M_trouble_134 : decode prog_12_method_36_code 134 = .ok (.invokevirtual 62, 3) := by decide +kernel
theorem d_M_trouble_137 : decode prog_12_method_36_code 137 = .ok (.ifCond .ne 7, 3) := by decide +kernel
theorem d_M_trouble_140 : decode prog_12_method_36_code 140 = .ok (.iconst 1, 1) := by decide +kernel
theorem d_M_trouble_141 : decode prog_12_method_36_code 141 = .ok (.goto 4, 3) := by decide +kernel
theorem d_M_trouble_144 : decode prog_12_method_36_code 144 = .ok (.iconst 0, 1) := by decide +kernel
theorem d_M_trouble_145 : decode prog_12_method_36_code 145 = .ok (.istore 5, 2) := by decide +kernel
theorem d_M_trouble_147 : decode prog_12_method_36_code 147 = .ok (.iload 5, 2) := by decide +kernel
theorem d_M_trouble_149 : decode prog_12_method_36_code 149 = .ok (.ifCond .eq 21, 3) := by decide +kernel
theorem d_M_trouble_152 : decode prog_12_method_36_code 152 = .ok (.aload_n 0, 1) := by decide +kernel
theorem d_M_trouble_153 : decode prog_12_method_36_code 153 = .ok (.aload_n 0, 1) := by decide +kernel
theorem d_M_trouble_154 : decode prog_12_method_36_code 154 = .ok (.aload_n 0, 1) := by decide +kernel
theorem d_M_trouble_155 : decode prog_12_method_36_code 155 = .ok (.iconst 0, 1) := by decide +kernel
theorem d_M_trouble_156 : decode prog_12_method_36_code 156 = .ok (.invokevirtual 109, 3) := by decide +kernel
theorem d_M_trouble_159 : decode prog_12_method_36_code 159 = .ok (.invokevirtual 88, 3) := by decide +kernel
theorem d_M_trouble_162 : decode prog_12_method_36_code 162 = .ok (.invokevirtual 127, 3) := by decide +kernel
theorem d_M_trouble_165 : decode prog_12_method_36_code 165 = .ok (.ifCond .ne 5, 3) := by decide +kernel
theorem d_M_trouble_168 : decode prog_12_method_36_code 168 = .ok (.iconst 3, 1) := by decide +kernel
theorem d_M_trouble_169 : decode prog_12_method_36_code 169 = .ok (.ireturn, 1) := by decide +kernel
theorem d_M_trouble_170 : decode prog_12_method_36_code 170 = .ok (.aload_n 0, 1) := by decide +kernel
theorem d_M_trouble_171 : decode prog_12_method_36_code 171 = .ok (.dup, 1) := by decide +kernel
theorem d_M_trouble_172 : decode prog_12_method_36_code 172 = .ok (.getfield 97, 3) := by decide +kernel
theorem d_M_trouble_175 : decode prog_12_method_36_code 175 = .ok (.iload 4, 2) := by decide +kernel
theorem d_M_trouble_177 : decode prog_12_method_36_code 177 = .ok (.isub, 1) := by decide +kernel
theorem d_M_trouble_178 : decode prog_12_method_36_code 178 = .ok (.putfield 97, 3) := by decide +kernel
theorem d_M_trouble_181 : decode prog_12_method_36_code 181 = .ok (.aload_n 0, 1) := by decide +kernel
theorem d_M_trouble_182 : decode prog_12_method_36_code 182 = .ok (.iload_n 3, 1) := by decide +kernel
theorem d_M_trouble_183 : decode prog_12_method_36_code 183 = .ok (.putfield 103, 3) := by decide +kernel
theorem d_M_trouble_186 : decode prog_12_method_36_code 186 = .ok (.iload_n 1, 1) := by decide +kernel
theorem d_M_trouble_187 : decode prog_12_method_36_code 187 = .ok (.ifCond .ne 7, 3) := by decide +kernel
theorem d_M_trouble_190 : decode prog_12_method_36_code 190 = .ok (.iconst 1, 1) := by decide +kernel
theorem d_M_trouble_191 : decode prog_12_method_36_code 191 = .ok (.goto 15, 3) := by decide +kernel
theorem d_M_trouble_194 : decode prog_12_method_36_code 194 = .ok (.iload_n 1, 1) := by decide +kernel
theorem d_M_trouble_195 : decode prog_12_method_36_code 195 = .ok (.sipush 243, 3) := by decide +kernel
theorem d_M_trouble_198 : decode prog_12_method_36_code 198 = .ok (.if_icmp .ne 7, 3) := by decide +kernel
theorem d_M_trouble_201 : decode prog_12_method_36_code 201 = .ok (.iconst 2, 1) := by decide +kernel
theorem d_M_trouble_202 : decode prog_12_method_36_code 202 = .ok (.goto 4, 3) := by decide +kernel
theorem d_M_trouble_205 : decode prog_12_method_36_code 205 = .ok (.iconst 0, 1) := by decide +kernel
theorem d_M_trouble_206 : decode prog_12_method_36_code 206 = .ok (.ireturn, 1) := by decide +kernel
def rm_c_M_trouble : Room := { frames := 4, cells := 0, slots := 0, locals := 85 }
set_option maxHeartbeats 4000000 in
set_option maxRecDepth 100000 in
theorem c_M_trouble (l : Launch) (E : kE) (mo mb mm mw mh ml len en gas ctr siz hgt frm ret : Nat) (on ay : Bool) (nb bb : Nat → Nat) (okb : okB len bb nb) (g : Nat → Nat) (hg : ∀ j, g j < 65536) (o : Nat) (ho : o < 256) (hh : hgt ≤ 16) (hs0 : siz ≤ 160) (hg0 : gas < 100000) (stk : Nat → Nat) (hsk : ∀ i, i < 16 → rR g i = stk i) : Ki l y_M_trouble (kW y_M_trouble prog_12_method_36_code 6 (some .int)) rm_c_M_trouble E [.ref mo, .int (nI o)] [(mo, .inr (8, [.int (nI len), .ref mb, .int (kb on), .int (nI en), .int (nI gas), .int (nI ctr), .int (nI siz), .int (nI hgt), .int (nI frm), .int (nI ret), .ref mm, .ref mw, .ref mh, .ref ml, .int (kb ay)])), (mb, .inl (E.2.1 0, 96, .inl (nF nb))), (mw, .inl (E.2.1 0, 370, .inl (nF g)))] (S := Nat × Nat) (fun r u => r = nI (m_tr (m_fault len bb o gas siz hgt (m_top stk hgt 0) (m_top stk hgt 1)) o) ∧ u = (if m_fault len bb o gas siz hgt (m_top stk hgt 0) (m_top stk hgt 1) = 0 then (gas - m_price o siz (m_used o (m_top stk hgt 0) (m_top stk hgt 1)), m_grown siz (m_used o (m_top stk hgt 0) (m_top stk hgt 1))) else (gas, siz))) (fun u => [(mo, .inr (8, [.int (nI len), .ref mb, .int (kb on), .int (nI en), .int (nI u.1), .int (nI ctr), .int (nI u.2), .int (nI hgt), .int (nI frm), .int (nI ret), .ref mm, .ref mw, .ref mh, .ref ml, .int (kb ay)])), (mb, .inl (E.2.1 0, 96, .inl (nF nb))), (mw, .inl (E.2.1 0, 370, .inl (nF g)))]) := by
  refine Ki.ofI (cc := prog_12_method_36_code) (maxL := 6) (by decide) (Nat.le_of_ble_eq_true rfl) ?_
  intro p e s m args below meth c A ls Q hx hb hts hown hml hK hG hA hP hD hS hl hret
  have hl : lv_has ls 6 [(0, .ref mo), (1, .int (nI o))] := hl
  have hlen := okb.1
  obtain ⟨k1, k2, k3, k4⟩ := tk_us o
  have htl := m_takes_le o ho
  have hgl := m_gives_le o ho
  have hcl := m_cost_le o
  refine lv_iload_n hx hb d_M_trouble_0 rfl (lv_at hl 1 rfl) ?_
  refine k_Sp (As := [.int (nI o)]) (rest := []) ⟨hx, hb, hml, hown, hts⟩ (c_M_known l E o ho) (k_cwS 1 hts t_840 t_841 t_71 t_842 (by decide +kernel) ⟨Nat.le_of_ble_eq_true rfl, Nat.le_of_ble_eq_true rfl⟩) hK hG hA hP hD hS [] rfl (by decide) rfl hl.1 rfl (Nat.le_of_ble_eq_true rfl) d_M_trouble_1 ⟨Nat.zero_le _, Nat.zero_le _⟩ (fun r1 hu1 => ?_)
  subst hu1
  refine lv_if_ne (tgt := 10) hx hb d_M_trouble_4 (by decide) (fun h4 => ?_) (fun h4 => ?_)
  · refine lv_aload_n hx hb d_M_trouble_10 rfl (lv_at hl 0 rfl) ?_
    refine va_get (D := E.1) (ci := 8) (v := .int (nI hgt)) (C := "WideStackModel") (T := T_M) (N := 15) hx hb hts in_M hown hK hP 0 rfl rfl 7 (by decide) (hts _ t_754) (fun _ h9 => h9) rfl d_M_trouble_11 ?_
    refine lv_iload_n hx hb d_M_trouble_14 rfl (lv_at hl 1 rfl) ?_
    refine k_Sp (As := [.int (nI o)]) (rest := [.int (nI hgt)]) ⟨hx, hb, hml, hown, hts⟩ (c_M_takes l E o ho) (k_cwS 1 hts t_843 t_844 t_71 t_845 (by decide +kernel) ⟨Nat.le_of_ble_eq_true rfl, Nat.le_of_ble_eq_true rfl⟩) hK hG hA hP hD hS [] rfl (by decide) rfl hl.1 rfl (Nat.le_of_ble_eq_true rfl) d_M_trouble_15 ⟨Nat.zero_le _, Nat.zero_le _⟩ (fun r15 hu15 => ?_)
    subst hu15
    refine kn_ge (tgt := 23) hx hb (by omega) (by omega) d_M_trouble_18 (by decide) (fun h18 => ?_) (fun h18 => ?_)
    · refine lv_aload_n hx hb d_M_trouble_23 rfl (lv_at hl 0 rfl) ?_
      refine va_get (D := E.1) (ci := 8) (v := .int (nI hgt)) (C := "WideStackModel") (T := T_M) (N := 15) hx hb hts in_M hown hK hP 0 rfl rfl 7 (by decide) (hts _ t_754) (fun _ h9 => h9) rfl d_M_trouble_24 ?_
      refine lv_iload_n hx hb d_M_trouble_27 rfl (lv_at hl 1 rfl) ?_
      refine k_Sp (As := [.int (nI o)]) (rest := [.int (nI hgt)]) ⟨hx, hb, hml, hown, hts⟩ (c_M_takes l E o ho) (k_cwS 1 hts t_843 t_844 t_71 t_845 (by decide +kernel) ⟨Nat.le_of_ble_eq_true rfl, Nat.le_of_ble_eq_true rfl⟩) hK hG hA hP hD hS [] rfl (by decide) rfl hl.1 rfl (Nat.le_of_ble_eq_true rfl) d_M_trouble_28 ⟨Nat.zero_le _, Nat.zero_le _⟩ (fun r28 hu28 => ?_)
      subst hu28
      refine lv_isub hx hb d_M_trouble_31 ?_
      refine k_top (pk_sub (by omega)) ?_
      refine lv_iload_n hx hb d_M_trouble_32 rfl (lv_at hl 1 rfl) ?_
      refine k_Sp (As := [.int (nI o)]) (rest := [.int (nI (hgt - (m_takes o)))]) ⟨hx, hb, hml, hown, hts⟩ (c_M_gives l E o ho) (k_cwS 1 hts t_846 t_847 t_71 t_848 (by decide +kernel) ⟨Nat.le_of_ble_eq_true rfl, Nat.le_of_ble_eq_true rfl⟩) hK hG hA hP hD hS [] rfl (by decide) rfl hl.1 rfl (Nat.le_of_ble_eq_true rfl) d_M_trouble_33 ⟨Nat.zero_le _, Nat.zero_le _⟩ (fun r33 hu33 => ?_)
      subst hu33
      refine lv_iadd hx hb d_M_trouble_36 ?_
      refine k_top (nI_add _ _) ?_
      refine lv_bipush (v := nI 16) hx hb d_M_trouble_37 (by decide) ?_
      refine kn_le (tgt := 45) hx hb (by omega) (by omega) d_M_trouble_39 (by decide) (fun h39 => ?_) (fun h39 => ?_)
      · refine lv_aload_n hx hb d_M_trouble_45 rfl (lv_at hl 0 rfl) ?_
        refine lv_iload_n hx hb d_M_trouble_46 rfl (lv_at hl 1 rfl) ?_
        have hul := m_usedR_le o (gv g (16 * (hgt - 1 - 0)) 16) (gv g (16 * (hgt - 1 - 1)) 16)
        refine k_Vp (As := [.int (nI o)]) (rest := []) ⟨hx, hb, hml, hown, hts⟩ (c_M_uses l E mo mb mm mw mh ml len en gas ctr siz hgt frm ret on ay g hg o ho hh (fun q => by have := k1 q; omega) (fun q => by have := k2 q; omega)) (k_cwV 1 hts t_849 t_851 t_30 t_71 t_852 (by decide +kernel) ⟨Nat.le_of_ble_eq_true rfl, Nat.le_of_ble_eq_true rfl⟩) hK hG hA hP hD hS [0, 2] rfl (by decide) 0 rfl rfl rfl hl.1 rfl (Nat.le_of_ble_eq_true rfl) d_M_trouble_47 ⟨Nat.zero_le _, Nat.zero_le _⟩ (fun r47 hu47 => ?_)
        subst hu47
        obtain ⟨hU1, hU2⟩ := usR_m (o := o) (A := m_top stk hgt 0) (B := m_top stk hgt 1) (A' := gv g (16 * (hgt - 1 - 0)) 16) (B' := gv g (16 * (hgt - 1 - 1)) 16) (fun q => top_r hsk hh (by have := k1; have := k2; omega)) (fun q => top_r hsk hh (by have := k2 q; omega))
        generalize hUd : m_usedR o (gv g (16 * (hgt - 1 - 0)) 16) (gv g (16 * (hgt - 1 - 1)) 16) = U at *
        refine lv_istore_n (lv' := [(2, .int (nI U)), (0, .ref mo), (1, .int (nI o))]) hx hb d_M_trouble_50 rfl hl (by decide) rfl (fun ls hl => ?_)
        refine lv_iload_n hx hb d_M_trouble_51 rfl (lv_at hl 0 rfl) ?_
        refine lv_sipush (v := nI 160) hx hb d_M_trouble_52 (by decide) ?_
        refine kn_le (tgt := 61) hx hb (by omega) (by omega) d_M_trouble_55 (by decide) (fun h55 => ?_) (fun h55 => ?_)
        · have hU3 := hU2 (by omega)
          subst hU3
          have hgg := gr_ge siz (m_used o (m_top stk hgt 0) (m_top stk hgt 1))
          have hg1 := m_grown_le (u := m_used o (m_top stk hgt 0) (m_top stk hgt 1)) hs0 (by omega)
          refine lv_iload_n hx hb d_M_trouble_61 rfl (lv_at hl 0 rfl) ?_
          refine lv_aload_n hx hb d_M_trouble_62 rfl (lv_at hl 1 rfl) ?_
          refine va_get (D := E.1) (ci := 8) (v := .int (nI siz)) (C := "WideStackModel") (T := T_M) (N := 15) hx hb hts in_M hown hK hP 0 rfl rfl 6 (by decide) (hts _ t_753) (fun _ h9 => h9) rfl d_M_trouble_63 ?_
          refine kn_le (tgt := 82) hx hb (by omega) (by omega) d_M_trouble_66 (by decide) (fun h66 => ?_) (fun h66 => ?_)
          · refine lv_aload_n hx hb d_M_trouble_82 rfl (lv_at hl 1 rfl) ?_
            refine va_get (D := E.1) (ci := 8) (v := .int (nI siz)) (C := "WideStackModel") (T := T_M) (N := 15) hx hb hts in_M hown hK hP 0 rfl rfl 6 (by decide) (hts _ t_753) (fun _ h9 => h9) rfl d_M_trouble_83 ?_
            refine k_top (congrArg nI (gr_2 (siz := siz) (u := m_used o (m_top stk hgt 0) (m_top stk hgt 1)) (by omega))) ?_
            refine lv_istore_n (lv' := [(3, .int (nI (m_grown siz (m_used o (m_top stk hgt 0) (m_top stk hgt 1))))), (2, .int (nI (m_used o (m_top stk hgt 0) (m_top stk hgt 1)))), (0, .ref mo), (1, .int (nI o))]) hx hb d_M_trouble_86 rfl hl (by decide) rfl (fun ls hl => ?_)
            refine lv_iload_n hx hb d_M_trouble_87 rfl (lv_at hl 3 rfl) ?_
            refine k_Sp (As := [.int (nI o)]) (rest := []) ⟨hx, hb, hml, hown, hts⟩ (c_M_cost l E o ho) (k_cwS 1 hts t_865 t_866 t_71 t_867 (by decide +kernel) ⟨Nat.le_of_ble_eq_true rfl, Nat.le_of_ble_eq_true rfl⟩) hK hG hA hP hD hS [] rfl (by decide) rfl hl.1 rfl (Nat.le_of_ble_eq_true rfl) d_M_trouble_88 ⟨Nat.zero_le _, Nat.zero_le _⟩ (fun r88 hu88 => ?_)
            subst hu88
            refine lv_iconst (v := nI 3) hx hb d_M_trouble_91 (by decide) ?_
            refine lv_iload_n hx hb d_M_trouble_92 rfl (lv_at hl 0 rfl) ?_
            refine lv_aload_n hx hb d_M_trouble_93 rfl (lv_at hl 2 rfl) ?_
            refine va_get (D := E.1) (ci := 8) (v := .int (nI siz)) (C := "WideStackModel") (T := T_M) (N := 15) hx hb hts in_M hown hK hP 0 rfl rfl 6 (by decide) (hts _ t_753) (fun _ h9 => h9) rfl d_M_trouble_94 ?_
            refine lv_isub hx hb d_M_trouble_97 ?_
            refine k_top (pk_sub hgg) ?_
            refine lv_imul hx hb d_M_trouble_98 ?_
            refine k_top (pk_mul _ _) ?_
            refine lv_bipush (v := nI 32) hx hb d_M_trouble_99 (by decide) ?_
            refine lv_idiv hx hb d_M_trouble_101 (by decide) ?_
            refine k_top (pk_div (by omega) (by decide) (by decide)) ?_
            refine lv_iadd hx hb d_M_trouble_102 ?_
            refine k_top (nI_add _ _) ?_
            have hpd : m_cost o + 3 * (m_grown siz (m_used o (m_top stk hgt 0) (m_top stk hgt 1)) - siz) / 32 = m_price o siz (m_used o (m_top stk hgt 0) (m_top stk hgt 1)) := rfl
            have hpl : m_price o siz (m_used o (m_top stk hgt 0) (m_top stk hgt 1)) ≤ 500 := by rw [← hpd]; omega
            refine k_top (congrArg nI hpd) ?_
            refine lv_istore (lv' := [(4, .int (nI (m_price o siz (m_used o (m_top stk hgt 0) (m_top stk hgt 1))))), (3, .int (nI (m_grown siz (m_used o (m_top stk hgt 0) (m_top stk hgt 1))))), (2, .int (nI (m_used o (m_top stk hgt 0) (m_top stk hgt 1)))), (0, .ref mo), (1, .int (nI o))]) hx hb d_M_trouble_103 hl (by decide) rfl (fun ls hl => ?_)
            refine lv_iload hx hb d_M_trouble_105 (lv_at hl 0 rfl) ?_
            refine lv_aload_n hx hb d_M_trouble_107 rfl (lv_at hl 3 rfl) ?_
            refine va_get (D := E.1) (ci := 8) (v := .int (nI gas)) (C := "WideStackModel") (T := T_M) (N := 15) hx hb hts in_M hown hK hP 0 rfl rfl 4 (by decide) (hts _ t_751) (fun _ h9 => h9) rfl d_M_trouble_108 ?_
            refine kn_le (tgt := 116) hx hb (by omega) (by omega) d_M_trouble_111 (by decide) (fun h111 => ?_) (fun h111 => ?_)
            · refine lv_iload_n hx hb d_M_trouble_116 rfl (lv_at hl 4 rfl) ?_
              refine lv_bipush (v := nI 86) hx hb d_M_trouble_117 (by decide) ?_
              refine kn_eq (tgt := 140) hx hb (by omega) (by omega) d_M_trouble_119 (by decide) (fun h119 => ?_) (fun h119 => ?_)
              · have := k3 h119
                refine lv_iconst (v := nI 1) hx hb d_M_trouble_140 (by decide) ?_
                refine lv_goto (tgt := 145) hx hb d_M_trouble_141 (by decide) ?_
                refine lv_istore (lv' := [(5, .int (nI 1)), (4, .int (nI (m_price o siz (m_used o (m_top stk hgt 0) (m_top stk hgt 1))))), (3, .int (nI (m_grown siz (m_used o (m_top stk hgt 0) (m_top stk hgt 1))))), (2, .int (nI (m_used o (m_top stk hgt 0) (m_top stk hgt 1)))), (0, .ref mo), (1, .int (nI o))]) hx hb d_M_trouble_145 hl (by decide) rfl (fun ls hl => ?_)
                refine lv_iload hx hb d_M_trouble_147 (lv_at hl 0 rfl) ?_
                refine kn_ifeq (tgt := 170) hx hb (by omega) d_M_trouble_149 (by decide) (fun h149 => ?_) (fun h149 => ?_)
                · omega
                · refine lv_aload_n hx hb d_M_trouble_152 rfl (lv_at hl 4 rfl) ?_
                  refine lv_aload_n hx hb d_M_trouble_153 rfl (lv_at hl 4 rfl) ?_
                  refine lv_aload_n hx hb d_M_trouble_154 rfl (lv_at hl 4 rfl) ?_
                  refine lv_iconst (v := nI 0) hx hb d_M_trouble_155 (by decide) ?_
                  refine k_Vp (As := [.int (nI 0)]) (rest := [.ref mo, .ref mo]) ⟨hx, hb, hml, hown, hts⟩ (c_M_top l E mo mb mm mw mh ml len en gas ctr siz hgt frm ret on ay 0 (by omega)) (k_cwV 1 hts t_853 t_855 t_31 t_71 t_856 (by decide +kernel) ⟨Nat.le_of_ble_eq_true rfl, Nat.le_of_ble_eq_true rfl⟩) hK hG hA hP hD hS [0] rfl (by decide) 0 rfl rfl rfl hl.1 rfl (Nat.le_of_ble_eq_true rfl) d_M_trouble_156 ⟨Nat.zero_le _, Nat.zero_le _⟩ (fun r156 hu156 => ?_)
                  subst hu156
                  refine k_Vp (As := [.int (nI (16 * (hgt - 1 - 0)))]) (rest := [.ref mo]) ⟨hx, hb, hml, hown, hts⟩ (c_M_small l E mo mb mm mw mh ml len en gas ctr siz hgt frm ret on ay g hg (16 * (hgt - 1 - 0)) (by omega)) (k_cwV 1 hts t_857 t_859 t_32 t_71 t_860 (by decide +kernel) ⟨Nat.le_of_ble_eq_true rfl, Nat.le_of_ble_eq_true rfl⟩) hK hG hA hP hD hS [0, 2] rfl (by decide) 0 rfl rfl rfl hl.1 rfl (Nat.le_of_ble_eq_true rfl) d_M_trouble_159 ⟨Nat.zero_le _, Nat.zero_le _⟩ (fun r159 hu159 => ?_)
                  have hu159 := hu159.trans (by rw [top_r hsk hh (by omega)])
                  subst hu159
                  refine k_Vp (As := [.int (nI (min (m_top stk hgt 0) 65535))]) (rest := []) ⟨hx, hb, hml, hown, hts⟩ (c_M_marked l E mo mb mm mw mh ml len en gas ctr siz hgt frm ret on ay nb bb okb (nI (min (m_top stk hgt 0) 65535))) (k_cwV 1 hts t_868 t_802 t_803 t_71 t_804 (by decide +kernel) ⟨Nat.le_of_ble_eq_true rfl, Nat.le_of_ble_eq_true rfl⟩) hK hG hA hP hD hS [0, 1] rfl (by decide) 0 rfl rfl rfl hl.1 rfl (Nat.le_of_ble_eq_true rfl) d_M_trouble_162 ⟨Nat.zero_le _, Nat.zero_le _⟩ (fun r162 hu162 => ?_)
                  have hu162 := hu162.trans (by rw [mk_min hlen])
                  subst hu162
                  refine lv_if_ne (tgt := 170) hx hb d_M_trouble_165 (by decide) (fun h165 => ?_) (fun h165 => ?_)
                  · refine lv_aload_n hx hb d_M_trouble_170 rfl (lv_at hl 4 rfl) ?_
                    refine lv_dup hx hb d_M_trouble_171 rfl ?_
                    refine va_get (D := E.1) (ci := 8) (v := .int (nI gas)) (C := "WideStackModel") (T := T_M) (N := 15) hx hb hts in_M hown hK hP 0 rfl rfl 4 (by decide) (hts _ t_751) (fun _ h9 => h9) rfl d_M_trouble_172 ?_
                    refine lv_iload hx hb d_M_trouble_175 (lv_at hl 1 rfl) ?_
                    refine lv_isub hx hb d_M_trouble_177 ?_
                    refine k_top (pk_sub (by omega)) ?_
                    refine va_put (D := E.1) (ci := 8) (v := .int (nI (gas - (m_price o siz (m_used o (m_top stk hgt 0) (m_top stk hgt 1)))))) (ty := .int) (C := "WideStackModel") (T := T_M) (N := 15) hx hb hts in_M ty_M tyok_M nm_M hown hK hP hD hS 0 rfl rfl 4 (by decide) (hts _ t_751) (fun _ h9 => h9) rfl (by decide +kernel) rfl rfl (Nat.le_of_ble_eq_true rfl) d_M_trouble_178 (fun H locs hP hD hS => ?_)
                    have hP : va_P E.1 vwCl [(mo, .inr (8, [.int (nI len), .ref mb, .int (kb on), .int (nI en), .int (nI (gas - (m_price o siz (m_used o (m_top stk hgt 0) (m_top stk hgt 1))))), .int (nI ctr), .int (nI siz), .int (nI hgt), .int (nI frm), .int (nI ret), .ref mm, .ref mw, .ref mh, .ref ml, .int (kb ay)])), (mb, .inl (E.2.1 0, 96, .inl (nF nb))), (mw, .inl (E.2.1 0, 370, .inl (nF g)))] H := hP
                    have hD : va_D A [(mo, .inr (8, [.int (nI len), .ref mb, .int (kb on), .int (nI en), .int (nI (gas - (m_price o siz (m_used o (m_top stk hgt 0) (m_top stk hgt 1))))), .int (nI ctr), .int (nI siz), .int (nI hgt), .int (nI frm), .int (nI ret), .ref mm, .ref mw, .ref mh, .ref ml, .int (kb ay)])), (mb, .inl (E.2.1 0, 96, .inl (nF nb))), (mw, .inl (E.2.1 0, 370, .inl (nF g)))] := hD
                    refine lv_aload_n hx hb d_M_trouble_181 rfl (lv_at hl 4 rfl) ?_
                    refine lv_iload_n hx hb d_M_trouble_182 rfl (lv_at hl 2 rfl) ?_
                    refine va_put (D := E.1) (ci := 8) (v := .int (nI (m_grown siz (m_used o (m_top stk hgt 0) (m_top stk hgt 1))))) (ty := .int) (C := "WideStackModel") (T := T_M) (N := 15) hx hb hts in_M ty_M tyok_M nm_M hown hK hP hD hS 0 rfl rfl 6 (by decide) (hts _ t_753) (fun _ h9 => h9) rfl (by decide +kernel) rfl rfl (Nat.le_of_ble_eq_true rfl) d_M_trouble_183 (fun H locs hP hD hS => ?_)
                    have hP : va_P E.1 vwCl [(mo, .inr (8, [.int (nI len), .ref mb, .int (kb on), .int (nI en), .int (nI (gas - (m_price o siz (m_used o (m_top stk hgt 0) (m_top stk hgt 1))))), .int (nI ctr), .int (nI (m_grown siz (m_used o (m_top stk hgt 0) (m_top stk hgt 1)))), .int (nI hgt), .int (nI frm), .int (nI ret), .ref mm, .ref mw, .ref mh, .ref ml, .int (kb ay)])), (mb, .inl (E.2.1 0, 96, .inl (nF nb))), (mw, .inl (E.2.1 0, 370, .inl (nF g)))] H := hP
                    have hD : va_D A [(mo, .inr (8, [.int (nI len), .ref mb, .int (kb on), .int (nI en), .int (nI (gas - (m_price o siz (m_used o (m_top stk hgt 0) (m_top stk hgt 1))))), .int (nI ctr), .int (nI (m_grown siz (m_used o (m_top stk hgt 0) (m_top stk hgt 1)))), .int (nI hgt), .int (nI frm), .int (nI ret), .ref mm, .ref mw, .ref mh, .ref ml, .int (kb ay)])), (mb, .inl (E.2.1 0, 96, .inl (nF nb))), (mw, .inl (E.2.1 0, 370, .inl (nF g)))] := hD
                    refine lv_iload_n hx hb d_M_trouble_186 rfl (lv_at hl 5 rfl) ?_
                    refine kn_ifne (tgt := 194) hx hb (by omega) d_M_trouble_187 (by decide) (fun h187 => ?_) (fun h187 => ?_)
                    · refine lv_iload_n hx hb d_M_trouble_194 rfl (lv_at hl 5 rfl) ?_
                      refine lv_sipush (v := nI 243) hx hb d_M_trouble_195 (by decide) ?_
                      refine kn_ne (tgt := 205) hx hb (by omega) (by omega) d_M_trouble_198 (by decide) (fun h198 => ?_) (fun h198 => ?_)
                      · refine lv_iconst (v := nI 0) hx hb d_M_trouble_205 (by decide) ?_
                        exact hret _ ls _ _ _ (gas - m_price o siz (m_used o (m_top stk hgt 0) (m_top stk hgt 1)), m_grown siz (m_used o (m_top stk hgt 0) (m_top stk hgt 1))) d_M_trouble_206 (tr_ok (fg_0 (kb_n0 h4) (by omega) (by omega) (by omega) (by omega) (by first | exact Or.inr (kb_n0 h165) | exact Or.inl (jm_2 h119 h125) | exact Or.inl (jm_3 h119 h125 h137))) (by first | rw [if_pos h187] | rw [if_neg h187, if_pos h198] | rw [if_neg h187, if_neg h198])) hP hS
                      · refine lv_iconst (v := nI 2) hx hb d_M_trouble_201 (by decide) ?_
                        refine lv_goto (tgt := 206) hx hb d_M_trouble_202 (by decide) ?_
                        exact hret _ ls _ _ _ (gas - m_price o siz (m_used o (m_top stk hgt 0) (m_top stk hgt 1)), m_grown siz (m_used o (m_top stk hgt 0) (m_top stk hgt 1))) d_M_trouble_206 (tr_ok (fg_0 (kb_n0 h4) (by omega) (by omega) (by omega) (by omega) (by first | exact Or.inr (kb_n0 h165) | exact Or.inl (jm_2 h119 h125) | exact Or.inl (jm_3 h119 h125 h137))) (by first | rw [if_pos h187] | rw [if_neg h187, if_pos h198] | rw [if_neg h187, if_neg h198])) hP hS
                    · refine lv_iconst (v := nI 1) hx hb d_M_trouble_190 (by decide) ?_
                      refine lv_goto (tgt := 206) hx hb d_M_trouble_191 (by decide) ?_
                      exact hret _ ls _ _ _ (gas - m_price o siz (m_used o (m_top stk hgt 0) (m_top stk hgt 1)), m_grown siz (m_used o (m_top stk hgt 0) (m_top stk hgt 1))) d_M_trouble_206 (tr_ok (fg_0 (kb_n0 h4) (by omega) (by omega) (by omega) (by omega) (by first | exact Or.inr (kb_n0 h165) | exact Or.inl (jm_2 h119 h125) | exact Or.inl (jm_3 h119 h125 h137))) (by first | rw [if_pos h187] | rw [if_neg h187, if_pos h198] | rw [if_neg h187, if_neg h198])) hP hS
                  · refine lv_iconst (v := nI 3) hx hb d_M_trouble_168 (by decide) ?_
                    exact hret _ ls _ _ _ (gas, siz) d_M_trouble_169 (tr_post (g1 := 0) (s1 := 0) (fg_3 (kb_n0 h4) (by omega) (by omega) (by omega) (by omega) (by first | exact jm_1 h119 | exact jm_4 h125 h137) (kb_0.mp h165)) (by decide)) hP hS
              · skip
                refine lv_iload_n hx hb d_M_trouble_122 rfl (lv_at hl 4 rfl) ?_
                refine lv_bipush (v := nI 87) hx hb d_M_trouble_123 (by decide) ?_
                refine kn_ne (tgt := 144) hx hb (by omega) (by omega) d_M_trouble_125 (by decide) (fun h125 => ?_) (fun h125 => ?_)
                · skip
                  refine lv_iconst (v := nI 0) hx hb d_M_trouble_144 (by decide) ?_
                  refine lv_istore (lv' := [(5, .int (nI 0)), (4, .int (nI (m_price o siz (m_used o (m_top stk hgt 0) (m_top stk hgt 1))))), (3, .int (nI (m_grown siz (m_used o (m_top stk hgt 0) (m_top stk hgt 1))))), (2, .int (nI (m_used o (m_top stk hgt 0) (m_top stk hgt 1)))), (0, .ref mo), (1, .int (nI o))]) hx hb d_M_trouble_145 hl (by decide) rfl (fun ls hl => ?_)
                  refine lv_iload hx hb d_M_trouble_147 (lv_at hl 0 rfl) ?_
                  refine kn_ifeq (tgt := 170) hx hb (by omega) d_M_trouble_149 (by decide) (fun h149 => ?_) (fun h149 => ?_)
                  · refine lv_aload_n hx hb d_M_trouble_170 rfl (lv_at hl 4 rfl) ?_
                    refine lv_dup hx hb d_M_trouble_171 rfl ?_
                    refine va_get (D := E.1) (ci := 8) (v := .int (nI gas)) (C := "WideStackModel") (T := T_M) (N := 15) hx hb hts in_M hown hK hP 0 rfl rfl 4 (by decide) (hts _ t_751) (fun _ h9 => h9) rfl d_M_trouble_172 ?_
                    refine lv_iload hx hb d_M_trouble_175 (lv_at hl 1 rfl) ?_
                    refine lv_isub hx hb d_M_trouble_177 ?_
                    refine k_top (pk_sub (by omega)) ?_
                    refine va_put (D := E.1) (ci := 8) (v := .int (nI (gas - (m_price o siz (m_used o (m_top stk hgt 0) (m_top stk hgt 1)))))) (ty := .int) (C := "WideStackModel") (T := T_M) (N := 15) hx hb hts in_M ty_M tyok_M nm_M hown hK hP hD hS 0 rfl rfl 4 (by decide) (hts _ t_751) (fun _ h9 => h9) rfl (by decide +kernel) rfl rfl (Nat.le_of_ble_eq_true rfl) d_M_trouble_178 (fun H locs hP hD hS => ?_)
                    have hP : va_P E.1 vwCl [(mo, .inr (8, [.int (nI len), .ref mb, .int (kb on), .int (nI en), .int (nI (gas - (m_price o siz (m_used o (m_top stk hgt 0) (m_top stk hgt 1))))), .int (nI ctr), .int (nI siz), .int (nI hgt), .int (nI frm), .int (nI ret), .ref mm, .ref mw, .ref mh, .ref ml, .int (kb ay)])), (mb, .inl (E.2.1 0, 96, .inl (nF nb))), (mw, .inl (E.2.1 0, 370, .inl (nF g)))] H := hP
                    have hD : va_D A [(mo, .inr (8, [.int (nI len), .ref mb, .int (kb on), .int (nI en), .int (nI (gas - (m_price o siz (m_used o (m_top stk hgt 0) (m_top stk hgt 1))))), .int (nI ctr), .int (nI siz), .int (nI hgt), .int (nI frm), .int (nI ret), .ref mm, .ref mw, .ref mh, .ref ml, .int (kb ay)])), (mb, .inl (E.2.1 0, 96, .inl (nF nb))), (mw, .inl (E.2.1 0, 370, .inl (nF g)))] := hD
                    refine lv_aload_n hx hb d_M_trouble_181 rfl (lv_at hl 4 rfl) ?_
                    refine lv_iload_n hx hb d_M_trouble_182 rfl (lv_at hl 2 rfl) ?_
                    refine va_put (D := E.1) (ci := 8) (v := .int (nI (m_grown siz (m_used o (m_top stk hgt 0) (m_top stk hgt 1))))) (ty := .int) (C := "WideStackModel") (T := T_M) (N := 15) hx hb hts in_M ty_M tyok_M nm_M hown hK hP hD hS 0 rfl rfl 6 (by decide) (hts _ t_753) (fun _ h9 => h9) rfl (by decide +kernel) rfl rfl (Nat.le_of_ble_eq_true rfl) d_M_trouble_183 (fun H locs hP hD hS => ?_)
                    have hP : va_P E.1 vwCl [(mo, .inr (8, [.int (nI len), .ref mb, .int (kb on), .int (nI en), .int (nI (gas - (m_price o siz (m_used o (m_top stk hgt 0) (m_top stk hgt 1))))), .int (nI ctr), .int (nI (m_grown siz (m_used o (m_top stk hgt 0) (m_top stk hgt 1)))), .int (nI hgt), .int (nI frm), .int (nI ret), .ref mm, .ref mw, .ref mh, .ref ml, .int (kb ay)])), (mb, .inl (E.2.1 0, 96, .inl (nF nb))), (mw, .inl (E.2.1 0, 370, .inl (nF g)))] H := hP
                    have hD : va_D A [(mo, .inr (8, [.int (nI len), .ref mb, .int (kb on), .int (nI en), .int (nI (gas - (m_price o siz (m_used o (m_top stk hgt 0) (m_top stk hgt 1))))), .int (nI ctr), .int (nI (m_grown siz (m_used o (m_top stk hgt 0) (m_top stk hgt 1)))), .int (nI hgt), .int (nI frm), .int (nI ret), .ref mm, .ref mw, .ref mh, .ref ml, .int (kb ay)])), (mb, .inl (E.2.1 0, 96, .inl (nF nb))), (mw, .inl (E.2.1 0, 370, .inl (nF g)))] := hD
                    refine lv_iload_n hx hb d_M_trouble_186 rfl (lv_at hl 5 rfl) ?_
                    refine kn_ifne (tgt := 194) hx hb (by omega) d_M_trouble_187 (by decide) (fun h187 => ?_) (fun h187 => ?_)
                    · refine lv_iload_n hx hb d_M_trouble_194 rfl (lv_at hl 5 rfl) ?_
                      refine lv_sipush (v := nI 243) hx hb d_M_trouble_195 (by decide) ?_
                      refine kn_ne (tgt := 205) hx hb (by omega) (by omega) d_M_trouble_198 (by decide) (fun h198 => ?_) (fun h198 => ?_)
                      · refine lv_iconst (v := nI 0) hx hb d_M_trouble_205 (by decide) ?_
                        exact hret _ ls _ _ _ (gas - m_price o siz (m_used o (m_top stk hgt 0) (m_top stk hgt 1)), m_grown siz (m_used o (m_top stk hgt 0) (m_top stk hgt 1))) d_M_trouble_206 (tr_ok (fg_0 (kb_n0 h4) (by omega) (by omega) (by omega) (by omega) (by first | exact Or.inr (kb_n0 h165) | exact Or.inl (jm_2 h119 h125) | exact Or.inl (jm_3 h119 h125 h137))) (by first | rw [if_pos h187] | rw [if_neg h187, if_pos h198] | rw [if_neg h187, if_neg h198])) hP hS
                      · refine lv_iconst (v := nI 2) hx hb d_M_trouble_201 (by decide) ?_
                        refine lv_goto (tgt := 206) hx hb d_M_trouble_202 (by decide) ?_
                        exact hret _ ls _ _ _ (gas - m_price o siz (m_used o (m_top stk hgt 0) (m_top stk hgt 1)), m_grown siz (m_used o (m_top stk hgt 0) (m_top stk hgt 1))) d_M_trouble_206 (tr_ok (fg_0 (kb_n0 h4) (by omega) (by omega) (by omega) (by omega) (by first | exact Or.inr (kb_n0 h165) | exact Or.inl (jm_2 h119 h125) | exact Or.inl (jm_3 h119 h125 h137))) (by first | rw [if_pos h187] | rw [if_neg h187, if_pos h198] | rw [if_neg h187, if_neg h198])) hP hS
                    · refine lv_iconst (v := nI 1) hx hb d_M_trouble_190 (by decide) ?_
                      refine lv_goto (tgt := 206) hx hb d_M_trouble_191 (by decide) ?_
                      exact hret _ ls _ _ _ (gas - m_price o siz (m_used o (m_top stk hgt 0) (m_top stk hgt 1)), m_grown siz (m_used o (m_top stk hgt 0) (m_top stk hgt 1))) d_M_trouble_206 (tr_ok (fg_0 (kb_n0 h4) (by omega) (by omega) (by omega) (by omega) (by first | exact Or.inr (kb_n0 h165) | exact Or.inl (jm_2 h119 h125) | exact Or.inl (jm_3 h119 h125 h137))) (by first | rw [if_pos h187] | rw [if_neg h187, if_pos h198] | rw [if_neg h187, if_neg h198])) hP hS
                  · omega
                · have := k4 h125
                  refine lv_aload_n hx hb d_M_trouble_128 rfl (lv_at hl 3 rfl) ?_
                  refine lv_aload_n hx hb d_M_trouble_129 rfl (lv_at hl 3 rfl) ?_
                  refine lv_iconst (v := nI 1) hx hb d_M_trouble_130 (by decide) ?_
                  refine k_Vp (As := [.int (nI 1)]) (rest := [.ref mo]) ⟨hx, hb, hml, hown, hts⟩ (c_M_top l E mo mb mm mw mh ml len en gas ctr siz hgt frm ret on ay 1 (by omega)) (k_cwV 1 hts t_853 t_855 t_31 t_71 t_856 (by decide +kernel) ⟨Nat.le_of_ble_eq_true rfl, Nat.le_of_ble_eq_true rfl⟩) hK hG hA hP hD hS [0] rfl (by decide) 0 rfl rfl rfl hl.1 rfl (Nat.le_of_ble_eq_true rfl) d_M_trouble_131 ⟨Nat.zero_le _, Nat.zero_le _⟩ (fun r131 hu131 => ?_)
                  subst hu131
                  refine k_Vp (As := [.int (nI (16 * (hgt - 1 - 1)))]) (rest := []) ⟨hx, hb, hml, hown, hts⟩ (c_M_isZero l E mo mb mm mw mh ml len en gas ctr siz hgt frm ret on ay g hg (16 * (hgt - 1 - 1)) (by omega)) (k_cwV 1 hts t_861 t_863 t_33 t_71 t_864 (by decide +kernel) ⟨Nat.le_of_ble_eq_true rfl, Nat.le_of_ble_eq_true rfl⟩) hK hG hA hP hD hS [0, 2] rfl (by decide) 0 rfl rfl rfl hl.1 rfl (Nat.le_of_ble_eq_true rfl) d_M_trouble_134 ⟨Nat.zero_le _, Nat.zero_le _⟩ (fun r134 hu134 => ?_)
                  have hu134 := hu134.trans (by rw [top_r hsk hh (by omega)])
                  subst hu134
                  refine lv_if_ne (tgt := 144) hx hb d_M_trouble_137 (by decide) (fun h137 => ?_) (fun h137 => ?_)
                  · refine lv_iconst (v := nI 0) hx hb d_M_trouble_144 (by decide) ?_
                    refine lv_istore (lv' := [(5, .int (nI 0)), (4, .int (nI (m_price o siz (m_used o (m_top stk hgt 0) (m_top stk hgt 1))))), (3, .int (nI (m_grown siz (m_used o (m_top stk hgt 0) (m_top stk hgt 1))))), (2, .int (nI (m_used o (m_top stk hgt 0) (m_top stk hgt 1)))), (0, .ref mo), (1, .int (nI o))]) hx hb d_M_trouble_145 hl (by decide) rfl (fun ls hl => ?_)
                    refine lv_iload hx hb d_M_trouble_147 (lv_at hl 0 rfl) ?_
                    refine kn_ifeq (tgt := 170) hx hb (by omega) d_M_trouble_149 (by decide) (fun h149 => ?_) (fun h149 => ?_)
                    · refine lv_aload_n hx hb d_M_trouble_170 rfl (lv_at hl 4 rfl) ?_
                      refine lv_dup hx hb d_M_trouble_171 rfl ?_
                      refine va_get (D := E.1) (ci := 8) (v := .int (nI gas)) (C := "WideStackModel") (T := T_M) (N := 15) hx hb hts in_M hown hK hP 0 rfl rfl 4 (by decide) (hts _ t_751) (fun _ h9 => h9) rfl d_M_trouble_172 ?_
                      refine lv_iload hx hb d_M_trouble_175 (lv_at hl 1 rfl) ?_
                      refine lv_isub hx hb d_M_trouble_177 ?_
                      refine k_top (pk_sub (by omega)) ?_
                      refine va_put (D := E.1) (ci := 8) (v := .int (nI (gas - (m_price o siz (m_used o (m_top stk hgt 0) (m_top stk hgt 1)))))) (ty := .int) (C := "WideStackModel") (T := T_M) (N := 15) hx hb hts in_M ty_M tyok_M nm_M hown hK hP hD hS 0 rfl rfl 4 (by decide) (hts _ t_751) (fun _ h9 => h9) rfl (by decide +kernel) rfl rfl (Nat.le_of_ble_eq_true rfl) d_M_trouble_178 (fun H locs hP hD hS => ?_)
                      have hP : va_P E.1 vwCl [(mo, .inr (8, [.int (nI len), .ref mb, .int (kb on), .int (nI en), .int (nI (gas - (m_price o siz (m_used o (m_top stk hgt 0) (m_top stk hgt 1))))), .int (nI ctr), .int (nI siz), .int (nI hgt), .int (nI frm), .int (nI ret), .ref mm, .ref mw, .ref mh, .ref ml, .int (kb ay)])), (mb, .inl (E.2.1 0, 96, .inl (nF nb))), (mw, .inl (E.2.1 0, 370, .inl (nF g)))] H := hP
                      have hD : va_D A [(mo, .inr (8, [.int (nI len), .ref mb, .int (kb on), .int (nI en), .int (nI (gas - (m_price o siz (m_used o (m_top stk hgt 0) (m_top stk hgt 1))))), .int (nI ctr), .int (nI siz), .int (nI hgt), .int (nI frm), .int (nI ret), .ref mm, .ref mw, .ref mh, .ref ml, .int (kb ay)])), (mb, .inl (E.2.1 0, 96, .inl (nF nb))), (mw, .inl (E.2.1 0, 370, .inl (nF g)))] := hD
                      refine lv_aload_n hx hb d_M_trouble_181 rfl (lv_at hl 4 rfl) ?_
                      refine lv_iload_n hx hb d_M_trouble_182 rfl (lv_at hl 2 rfl) ?_
                      refine va_put (D := E.1) (ci := 8) (v := .int (nI (m_grown siz (m_used o (m_top stk hgt 0) (m_top stk hgt 1))))) (ty := .int) (C := "WideStackModel") (T := T_M) (N := 15) hx hb hts in_M ty_M tyok_M nm_M hown hK hP hD hS 0 rfl rfl 6 (by decide) (hts _ t_753) (fun _ h9 => h9) rfl (by decide +kernel) rfl rfl (Nat.le_of_ble_eq_true rfl) d_M_trouble_183 (fun H locs hP hD hS => ?_)
                      have hP : va_P E.1 vwCl [(mo, .inr (8, [.int (nI len), .ref mb, .int (kb on), .int (nI en), .int (nI (gas - (m_price o siz (m_used o (m_top stk hgt 0) (m_top stk hgt 1))))), .int (nI ctr), .int (nI (m_grown siz (m_used o (m_top stk hgt 0) (m_top stk hgt 1)))), .int (nI hgt), .int (nI frm), .int (nI ret), .ref mm, .ref mw, .ref mh, .ref ml, .int (kb ay)])), (mb, .inl (E.2.1 0, 96, .inl (nF nb))), (mw, .inl (E.2.1 0, 370, .inl (nF g)))] H := hP
                      have hD : va_D A [(mo, .inr (8, [.int (nI len), .ref mb, .int (kb on), .int (nI en), .int (nI (gas - (m_price o siz (m_used o (m_top stk hgt 0) (m_top stk hgt 1))))), .int (nI ctr), .int (nI (m_grown siz (m_used o (m_top stk hgt 0) (m_top stk hgt 1)))), .int (nI hgt), .int (nI frm), .int (nI ret), .ref mm, .ref mw, .ref mh, .ref ml, .int (kb ay)])), (mb, .inl (E.2.1 0, 96, .inl (nF nb))), (mw, .inl (E.2.1 0, 370, .inl (nF g)))] := hD
                      refine lv_iload_n hx hb d_M_trouble_186 rfl (lv_at hl 5 rfl) ?_
                      refine kn_ifne (tgt := 194) hx hb (by omega) d_M_trouble_187 (by decide) (fun h187 => ?_) (fun h187 => ?_)
                      · refine lv_iload_n hx hb d_M_trouble_194 rfl (lv_at hl 5 rfl) ?_
                        refine lv_sipush (v := nI 243) hx hb d_M_trouble_195 (by decide) ?_
                        refine kn_ne (tgt := 205) hx hb (by omega) (by omega) d_M_trouble_198 (by decide) (fun h198 => ?_) (fun h198 => ?_)
                        · refine lv_iconst (v := nI 0) hx hb d_M_trouble_205 (by decide) ?_
                          exact hret _ ls _ _ _ (gas - m_price o siz (m_used o (m_top stk hgt 0) (m_top stk hgt 1)), m_grown siz (m_used o (m_top stk hgt 0) (m_top stk hgt 1))) d_M_trouble_206 (tr_ok (fg_0 (kb_n0 h4) (by omega) (by omega) (by omega) (by omega) (by first | exact Or.inr (kb_n0 h165) | exact Or.inl (jm_2 h119 h125) | exact Or.inl (jm_3 h119 h125 h137))) (by first | rw [if_pos h187] | rw [if_neg h187, if_pos h198] | rw [if_neg h187, if_neg h198])) hP hS
                        · refine lv_iconst (v := nI 2) hx hb d_M_trouble_201 (by decide) ?_
                          refine lv_goto (tgt := 206) hx hb d_M_trouble_202 (by decide) ?_
                          exact hret _ ls _ _ _ (gas - m_price o siz (m_used o (m_top stk hgt 0) (m_top stk hgt 1)), m_grown siz (m_used o (m_top stk hgt 0) (m_top stk hgt 1))) d_M_trouble_206 (tr_ok (fg_0 (kb_n0 h4) (by omega) (by omega) (by omega) (by omega) (by first | exact Or.inr (kb_n0 h165) | exact Or.inl (jm_2 h119 h125) | exact Or.inl (jm_3 h119 h125 h137))) (by first | rw [if_pos h187] | rw [if_neg h187, if_pos h198] | rw [if_neg h187, if_neg h198])) hP hS
                      · refine lv_iconst (v := nI 1) hx hb d_M_trouble_190 (by decide) ?_
                        refine lv_goto (tgt := 206) hx hb d_M_trouble_191 (by decide) ?_
                        exact hret _ ls _ _ _ (gas - m_price o siz (m_used o (m_top stk hgt 0) (m_top stk hgt 1)), m_grown siz (m_used o (m_top stk hgt 0) (m_top stk hgt 1))) d_M_trouble_206 (tr_ok (fg_0 (kb_n0 h4) (by omega) (by omega) (by omega) (by omega) (by first | exact Or.inr (kb_n0 h165) | exact Or.inl (jm_2 h119 h125) | exact Or.inl (jm_3 h119 h125 h137))) (by first | rw [if_pos h187] | rw [if_neg h187, if_pos h198] | rw [if_neg h187, if_neg h198])) hP hS
                    · omega
                  · refine lv_iconst (v := nI 1) hx hb d_M_trouble_140 (by decide) ?_
                    refine lv_goto (tgt := 145) hx hb d_M_trouble_141 (by decide) ?_
                    refine lv_istore (lv' := [(5, .int (nI 1)), (4, .int (nI (m_price o siz (m_used o (m_top stk hgt 0) (m_top stk hgt 1))))), (3, .int (nI (m_grown siz (m_used o (m_top stk hgt 0) (m_top stk hgt 1))))), (2, .int (nI (m_used o (m_top stk hgt 0) (m_top stk hgt 1)))), (0, .ref mo), (1, .int (nI o))]) hx hb d_M_trouble_145 hl (by decide) rfl (fun ls hl => ?_)
                    refine lv_iload hx hb d_M_trouble_147 (lv_at hl 0 rfl) ?_
                    refine kn_ifeq (tgt := 170) hx hb (by omega) d_M_trouble_149 (by decide) (fun h149 => ?_) (fun h149 => ?_)
                    · omega
                    · refine lv_aload_n hx hb d_M_trouble_152 rfl (lv_at hl 4 rfl) ?_
                      refine lv_aload_n hx hb d_M_trouble_153 rfl (lv_at hl 4 rfl) ?_
                      refine lv_aload_n hx hb d_M_trouble_154 rfl (lv_at hl 4 rfl) ?_
                      refine lv_iconst (v := nI 0) hx hb d_M_trouble_155 (by decide) ?_
                      refine k_Vp (As := [.int (nI 0)]) (rest := [.ref mo, .ref mo]) ⟨hx, hb, hml, hown, hts⟩ (c_M_top l E mo mb mm mw mh ml len en gas ctr siz hgt frm ret on ay 0 (by omega)) (k_cwV 1 hts t_853 t_855 t_31 t_71 t_856 (by decide +kernel) ⟨Nat.le_of_ble_eq_true rfl, Nat.le_of_ble_eq_true rfl⟩) hK hG hA hP hD hS [0] rfl (by decide) 0 rfl rfl rfl hl.1 rfl (Nat.le_of_ble_eq_true rfl) d_M_trouble_156 ⟨Nat.zero_le _, Nat.zero_le _⟩ (fun r156 hu156 => ?_)
                      subst hu156
                      refine k_Vp (As := [.int (nI (16 * (hgt - 1 - 0)))]) (rest := [.ref mo]) ⟨hx, hb, hml, hown, hts⟩ (c_M_small l E mo mb mm mw mh ml len en gas ctr siz hgt frm ret on ay g hg (16 * (hgt - 1 - 0)) (by omega)) (k_cwV 1 hts t_857 t_859 t_32 t_71 t_860 (by decide +kernel) ⟨Nat.le_of_ble_eq_true rfl, Nat.le_of_ble_eq_true rfl⟩) hK hG hA hP hD hS [0, 2] rfl (by decide) 0 rfl rfl rfl hl.1 rfl (Nat.le_of_ble_eq_true rfl) d_M_trouble_159 ⟨Nat.zero_le _, Nat.zero_le _⟩ (fun r159 hu159 => ?_)
                      have hu159 := hu159.trans (by rw [top_r hsk hh (by omega)])
                      subst hu159
                      refine k_Vp (As := [.int (nI (min (m_top stk hgt 0) 65535))]) (rest := []) ⟨hx, hb, hml, hown, hts⟩ (c_M_marked l E mo mb mm mw mh ml len en gas ctr siz hgt frm ret on ay nb bb okb (nI (min (m_top stk hgt 0) 65535))) (k_cwV 1 hts t_868 t_802 t_803 t_71 t_804 (by decide +kernel) ⟨Nat.le_of_ble_eq_true rfl, Nat.le_of_ble_eq_true rfl⟩) hK hG hA hP hD hS [0, 1] rfl (by decide) 0 rfl rfl rfl hl.1 rfl (Nat.le_of_ble_eq_true rfl) d_M_trouble_162 ⟨Nat.zero_le _, Nat.zero_le _⟩ (fun r162 hu162 => ?_)
                      have hu162 := hu162.trans (by rw [mk_min hlen])
                      subst hu162
                      refine lv_if_ne (tgt := 170) hx hb d_M_trouble_165 (by decide) (fun h165 => ?_) (fun h165 => ?_)
                      · refine lv_aload_n hx hb d_M_trouble_170 rfl (lv_at hl 4 rfl) ?_
                        refine lv_dup hx hb d_M_trouble_171 rfl ?_
                        refine va_get (D := E.1) (ci := 8) (v := .int (nI gas)) (C := "WideStackModel") (T := T_M) (N := 15) hx hb hts in_M hown hK hP 0 rfl rfl 4 (by decide) (hts _ t_751) (fun _ h9 => h9) rfl d_M_trouble_172 ?_
                        refine lv_iload hx hb d_M_trouble_175 (lv_at hl 1 rfl) ?_
                        refine lv_isub hx hb d_M_trouble_177 ?_
                        refine k_top (pk_sub (by omega)) ?_
                        refine va_put (D := E.1) (ci := 8) (v := .int (nI (gas - (m_price o siz (m_used o (m_top stk hgt 0) (m_top stk hgt 1)))))) (ty := .int) (C := "WideStackModel") (T := T_M) (N := 15) hx hb hts in_M ty_M tyok_M nm_M hown hK hP hD hS 0 rfl rfl 4 (by decide) (hts _ t_751) (fun _ h9 => h9) rfl (by decide +kernel) rfl rfl (Nat.le_of_ble_eq_true rfl) d_M_trouble_178 (fun H locs hP hD hS => ?_)
                        have hP : va_P E.1 vwCl [(mo, .inr (8, [.int (nI len), .ref mb, .int (kb on), .int (nI en), .int (nI (gas - (m_price o siz (m_used o (m_top stk hgt 0) (m_top stk hgt 1))))), .int (nI ctr), .int (nI siz), .int (nI hgt), .int (nI frm), .int (nI ret), .ref mm, .ref mw, .ref mh, .ref ml, .int (kb ay)])), (mb, .inl (E.2.1 0, 96, .inl (nF nb))), (mw, .inl (E.2.1 0, 370, .inl (nF g)))] H := hP
                        have hD : va_D A [(mo, .inr (8, [.int (nI len), .ref mb, .int (kb on), .int (nI en), .int (nI (gas - (m_price o siz (m_used o (m_top stk hgt 0) (m_top stk hgt 1))))), .int (nI ctr), .int (nI siz), .int (nI hgt), .int (nI frm), .int (nI ret), .ref mm, .ref mw, .ref mh, .ref ml, .int (kb ay)])), (mb, .inl (E.2.1 0, 96, .inl (nF nb))), (mw, .inl (E.2.1 0, 370, .inl (nF g)))] := hD
                        refine lv_aload_n hx hb d_M_trouble_181 rfl (lv_at hl 4 rfl) ?_
                        refine lv_iload_n hx hb d_M_trouble_182 rfl (lv_at hl 2 rfl) ?_
                        refine va_put (D := E.1) (ci := 8) (v := .int (nI (m_grown siz (m_used o (m_top stk hgt 0) (m_top stk hgt 1))))) (ty := .int) (C := "WideStackModel") (T := T_M) (N := 15) hx hb hts in_M ty_M tyok_M nm_M hown hK hP hD hS 0 rfl rfl 6 (by decide) (hts _ t_753) (fun _ h9 => h9) rfl (by decide +kernel) rfl rfl (Nat.le_of_ble_eq_true rfl) d_M_trouble_183 (fun H locs hP hD hS => ?_)
                        have hP : va_P E.1 vwCl [(mo, .inr (8, [.int (nI len), .ref mb, .int (kb on), .int (nI en), .int (nI (gas - (m_price o siz (m_used o (m_top stk hgt 0) (m_top stk hgt 1))))), .int (nI ctr), .int (nI (m_grown siz (m_used o (m_top stk hgt 0) (m_top stk hgt 1)))), .int (nI hgt), .int (nI frm), .int (nI ret), .ref mm, .ref mw, .ref mh, .ref ml, .int (kb ay)])), (mb, .inl (E.2.1 0, 96, .inl (nF nb))), (mw, .inl (E.2.1 0, 370, .inl (nF g)))] H := hP
                        have hD : va_D A [(mo, .inr (8, [.int (nI len), .ref mb, .int (kb on), .int (nI en), .int (nI (gas - (m_price o siz (m_used o (m_top stk hgt 0) (m_top stk hgt 1))))), .int (nI ctr), .int (nI (m_grown siz (m_used o (m_top stk hgt 0) (m_top stk hgt 1)))), .int (nI hgt), .int (nI frm), .int (nI ret), .ref mm, .ref mw, .ref mh, .ref ml, .int (kb ay)])), (mb, .inl (E.2.1 0, 96, .inl (nF nb))), (mw, .inl (E.2.1 0, 370, .inl (nF g)))] := hD
                        refine lv_iload_n hx hb d_M_trouble_186 rfl (lv_at hl 5 rfl) ?_
                        refine kn_ifne (tgt := 194) hx hb (by omega) d_M_trouble_187 (by decide) (fun h187 => ?_) (fun h187 => ?_)
                        · refine lv_iload_n hx hb d_M_trouble_194 rfl (lv_at hl 5 rfl) ?_
                          refine lv_sipush (v := nI 243) hx hb d_M_trouble_195 (by decide) ?_
                          refine kn_ne (tgt := 205) hx hb (by omega) (by omega) d_M_trouble_198 (by decide) (fun h198 => ?_) (fun h198 => ?_)
                          · refine lv_iconst (v := nI 0) hx hb d_M_trouble_205 (by decide) ?_
                            exact hret _ ls _ _ _ (gas - m_price o siz (m_used o (m_top stk hgt 0) (m_top stk hgt 1)), m_grown siz (m_used o (m_top stk hgt 0) (m_top stk hgt 1))) d_M_trouble_206 (tr_ok (fg_0 (kb_n0 h4) (by omega) (by omega) (by omega) (by omega) (by first | exact Or.inr (kb_n0 h165) | exact Or.inl (jm_2 h119 h125) | exact Or.inl (jm_3 h119 h125 h137))) (by first | rw [if_pos h187] | rw [if_neg h187, if_pos h198] | rw [if_neg h187, if_neg h198])) hP hS
                          · refine lv_iconst (v := nI 2) hx hb d_M_trouble_201 (by decide) ?_
                            refine lv_goto (tgt := 206) hx hb d_M_trouble_202 (by decide) ?_
                            exact hret _ ls _ _ _ (gas - m_price o siz (m_used o (m_top stk hgt 0) (m_top stk hgt 1)), m_grown siz (m_used o (m_top stk hgt 0) (m_top stk hgt 1))) d_M_trouble_206 (tr_ok (fg_0 (kb_n0 h4) (by omega) (by omega) (by omega) (by omega) (by first | exact Or.inr (kb_n0 h165) | exact Or.inl (jm_2 h119 h125) | exact Or.inl (jm_3 h119 h125 h137))) (by first | rw [if_pos h187] | rw [if_neg h187, if_pos h198] | rw [if_neg h187, if_neg h198])) hP hS
                        · refine lv_iconst (v := nI 1) hx hb d_M_trouble_190 (by decide) ?_
                          refine lv_goto (tgt := 206) hx hb d_M_trouble_191 (by decide) ?_
                          exact hret _ ls _ _ _ (gas - m_price o siz (m_used o (m_top stk hgt 0) (m_top stk hgt 1)), m_grown siz (m_used o (m_top stk hgt 0) (m_top stk hgt 1))) d_M_trouble_206 (tr_ok (fg_0 (kb_n0 h4) (by omega) (by omega) (by omega) (by omega) (by first | exact Or.inr (kb_n0 h165) | exact Or.inl (jm_2 h119 h125) | exact Or.inl (jm_3 h119 h125 h137))) (by first | rw [if_pos h187] | rw [if_neg h187, if_pos h198] | rw [if_neg h187, if_neg h198])) hP hS
                      · refine lv_iconst (v := nI 3) hx hb d_M_trouble_168 (by decide) ?_
                        exact hret _ ls _ _ _ (gas, siz) d_M_trouble_169 (tr_post (g1 := 0) (s1 := 0) (fg_3 (kb_n0 h4) (by omega) (by omega) (by omega) (by omega) (by first | exact jm_1 h119 | exact jm_4 h125 h137) (kb_0.mp h165)) (by decide)) hP hS
            · refine lv_iconst (v := nI 4) hx hb d_M_trouble_114 (by decide) ?_
              exact hret _ ls _ _ _ (gas, siz) d_M_trouble_115 (tr_post (g1 := 0) (s1 := 0) (fg_4 (kb_n0 h4) (by omega) (by omega) (by omega) (by omega)) (by decide)) hP hS
          · refine lv_iload_n hx hb d_M_trouble_69 rfl (lv_at hl 0 rfl) ?_
            refine lv_bipush (v := nI 31) hx hb d_M_trouble_70 (by decide) ?_
            refine lv_iadd hx hb d_M_trouble_72 ?_
            refine k_top (nI_add _ _) ?_
            refine lv_bipush (v := nI 32) hx hb d_M_trouble_73 (by decide) ?_
            refine lv_idiv hx hb d_M_trouble_75 (by decide) ?_
            refine k_top (pk_div (by omega) (by decide) (by decide)) ?_
            refine lv_bipush (v := nI 32) hx hb d_M_trouble_76 (by decide) ?_
            refine lv_imul hx hb d_M_trouble_78 ?_
            refine k_top (pk_mul _ _) ?_
            refine lv_goto (tgt := 86) hx hb d_M_trouble_79 (by decide) ?_
            refine k_top (congrArg nI (gr_1 (siz := siz) (u := m_used o (m_top stk hgt 0) (m_top stk hgt 1)) (by omega))) ?_
            refine lv_istore_n (lv' := [(3, .int (nI (m_grown siz (m_used o (m_top stk hgt 0) (m_top stk hgt 1))))), (2, .int (nI (m_used o (m_top stk hgt 0) (m_top stk hgt 1)))), (0, .ref mo), (1, .int (nI o))]) hx hb d_M_trouble_86 rfl hl (by decide) rfl (fun ls hl => ?_)
            refine lv_iload_n hx hb d_M_trouble_87 rfl (lv_at hl 3 rfl) ?_
            refine k_Sp (As := [.int (nI o)]) (rest := []) ⟨hx, hb, hml, hown, hts⟩ (c_M_cost l E o ho) (k_cwS 1 hts t_865 t_866 t_71 t_867 (by decide +kernel) ⟨Nat.le_of_ble_eq_true rfl, Nat.le_of_ble_eq_true rfl⟩) hK hG hA hP hD hS [] rfl (by decide) rfl hl.1 rfl (Nat.le_of_ble_eq_true rfl) d_M_trouble_88 ⟨Nat.zero_le _, Nat.zero_le _⟩ (fun r88 hu88 => ?_)
            subst hu88
            refine lv_iconst (v := nI 3) hx hb d_M_trouble_91 (by decide) ?_
            refine lv_iload_n hx hb d_M_trouble_92 rfl (lv_at hl 0 rfl) ?_
            refine lv_aload_n hx hb d_M_trouble_93 rfl (lv_at hl 2 rfl) ?_
            refine va_get (D := E.1) (ci := 8) (v := .int (nI siz)) (C := "WideStackModel") (T := T_M) (N := 15) hx hb hts in_M hown hK hP 0 rfl rfl 6 (by decide) (hts _ t_753) (fun _ h9 => h9) rfl d_M_trouble_94 ?_
            refine lv_isub hx hb d_M_trouble_97 ?_
            refine k_top (pk_sub hgg) ?_
            refine lv_imul hx hb d_M_trouble_98 ?_
            refine k_top (pk_mul _ _) ?_
            refine lv_bipush (v := nI 32) hx hb d_M_trouble_99 (by decide) ?_
            refine lv_idiv hx hb d_M_trouble_101 (by decide) ?_
            refine k_top (pk_div (by omega) (by decide) (by decide)) ?_
            refine lv_iadd hx hb d_M_trouble_102 ?_
            refine k_top (nI_add _ _) ?_
            have hpd : m_cost o + 3 * (m_grown siz (m_used o (m_top stk hgt 0) (m_top stk hgt 1)) - siz) / 32 = m_price o siz (m_used o (m_top stk hgt 0) (m_top stk hgt 1)) := rfl
            have hpl : m_price o siz (m_used o (m_top stk hgt 0) (m_top stk hgt 1)) ≤ 500 := by rw [← hpd]; omega
            refine k_top (congrArg nI hpd) ?_
            refine lv_istore (lv' := [(4, .int (nI (m_price o siz (m_used o (m_top stk hgt 0) (m_top stk hgt 1))))), (3, .int (nI (m_grown siz (m_used o (m_top stk hgt 0) (m_top stk hgt 1))))), (2, .int (nI (m_used o (m_top stk hgt 0) (m_top stk hgt 1)))), (0, .ref mo), (1, .int (nI o))]) hx hb d_M_trouble_103 hl (by decide) rfl (fun ls hl => ?_)
            refine lv_iload hx hb d_M_trouble_105 (lv_at hl 0 rfl) ?_
            refine lv_aload_n hx hb d_M_trouble_107 rfl (lv_at hl 3 rfl) ?_
            refine va_get (D := E.1) (ci := 8) (v := .int (nI gas)) (C := "WideStackModel") (T := T_M) (N := 15) hx hb hts in_M hown hK hP 0 rfl rfl 4 (by decide) (hts _ t_751) (fun _ h9 => h9) rfl d_M_trouble_108 ?_
            refine kn_le (tgt := 116) hx hb (by omega) (by omega) d_M_trouble_111 (by decide) (fun h111 => ?_) (fun h111 => ?_)
            · refine lv_iload_n hx hb d_M_trouble_116 rfl (lv_at hl 4 rfl) ?_
              refine lv_bipush (v := nI 86) hx hb d_M_trouble_117 (by decide) ?_
              refine kn_eq (tgt := 140) hx hb (by omega) (by omega) d_M_trouble_119 (by decide) (fun h119 => ?_) (fun h119 => ?_)
              · have := k3 h119
                refine lv_iconst (v := nI 1) hx hb d_M_trouble_140 (by decide) ?_
                refine lv_goto (tgt := 145) hx hb d_M_trouble_141 (by decide) ?_
                refine lv_istore (lv' := [(5, .int (nI 1)), (4, .int (nI (m_price o siz (m_used o (m_top stk hgt 0) (m_top stk hgt 1))))), (3, .int (nI (m_grown siz (m_used o (m_top stk hgt 0) (m_top stk hgt 1))))), (2, .int (nI (m_used o (m_top stk hgt 0) (m_top stk hgt 1)))), (0, .ref mo), (1, .int (nI o))]) hx hb d_M_trouble_145 hl (by decide) rfl (fun ls hl => ?_)
                refine lv_iload hx hb d_M_trouble_147 (lv_at hl 0 rfl) ?_
                refine kn_ifeq (tgt := 170) hx hb (by omega) d_M_trouble_149 (by decide) (fun h149 => ?_) (fun h149 => ?_)
                · omega
                · refine lv_aload_n hx hb d_M_trouble_152 rfl (lv_at hl 4 rfl) ?_
                  refine lv_aload_n hx hb d_M_trouble_153 rfl (lv_at hl 4 rfl) ?_
                  refine lv_aload_n hx hb d_M_trouble_154 rfl (lv_at hl 4 rfl) ?_
                  refine lv_iconst (v := nI 0) hx hb d_M_trouble_155 (by decide) ?_
                  refine k_Vp (As := [.int (nI 0)]) (rest := [.ref mo, .ref mo]) ⟨hx, hb, hml, hown, hts⟩ (c_M_top l E mo mb mm mw mh ml len en gas ctr siz hgt frm ret on ay 0 (by omega)) (k_cwV 1 hts t_853 t_855 t_31 t_71 t_856 (by decide +kernel) ⟨Nat.le_of_ble_eq_true rfl, Nat.le_of_ble_eq_true rfl⟩) hK hG hA hP hD hS [0] rfl (by decide) 0 rfl rfl rfl hl.1 rfl (Nat.le_of_ble_eq_true rfl) d_M_trouble_156 ⟨Nat.zero_le _, Nat.zero_le _⟩ (fun r156 hu156 => ?_)
                  subst hu156
                  refine k_Vp (As := [.int (nI (16 * (hgt - 1 - 0)))]) (rest := [.ref mo]) ⟨hx, hb, hml, hown, hts⟩ (c_M_small l E mo mb mm mw mh ml len en gas ctr siz hgt frm ret on ay g hg (16 * (hgt - 1 - 0)) (by omega)) (k_cwV 1 hts t_857 t_859 t_32 t_71 t_860 (by decide +kernel) ⟨Nat.le_of_ble_eq_true rfl, Nat.le_of_ble_eq_true rfl⟩) hK hG hA hP hD hS [0, 2] rfl (by decide) 0 rfl rfl rfl hl.1 rfl (Nat.le_of_ble_eq_true rfl) d_M_trouble_159 ⟨Nat.zero_le _, Nat.zero_le _⟩ (fun r159 hu159 => ?_)
                  have hu159 := hu159.trans (by rw [top_r hsk hh (by omega)])
                  subst hu159
                  refine k_Vp (As := [.int (nI (min (m_top stk hgt 0) 65535))]) (rest := []) ⟨hx, hb, hml, hown, hts⟩ (c_M_marked l E mo mb mm mw mh ml len en gas ctr siz hgt frm ret on ay nb bb okb (nI (min (m_top stk hgt 0) 65535))) (k_cwV 1 hts t_868 t_802 t_803 t_71 t_804 (by decide +kernel) ⟨Nat.le_of_ble_eq_true rfl, Nat.le_of_ble_eq_true rfl⟩) hK hG hA hP hD hS [0, 1] rfl (by decide) 0 rfl rfl rfl hl.1 rfl (Nat.le_of_ble_eq_true rfl) d_M_trouble_162 ⟨Nat.zero_le _, Nat.zero_le _⟩ (fun r162 hu162 => ?_)
                  have hu162 := hu162.trans (by rw [mk_min hlen])
                  subst hu162
                  refine lv_if_ne (tgt := 170) hx hb d_M_trouble_165 (by decide) (fun h165 => ?_) (fun h165 => ?_)
                  · refine lv_aload_n hx hb d_M_trouble_170 rfl (lv_at hl 4 rfl) ?_
                    refine lv_dup hx hb d_M_trouble_171 rfl ?_
                    refine va_get (D := E.1) (ci := 8) (v := .int (nI gas)) (C := "WideStackModel") (T := T_M) (N := 15) hx hb hts in_M hown hK hP 0 rfl rfl 4 (by decide) (hts _ t_751) (fun _ h9 => h9) rfl d_M_trouble_172 ?_
                    refine lv_iload hx hb d_M_trouble_175 (lv_at hl 1 rfl) ?_
                    refine lv_isub hx hb d_M_trouble_177 ?_
                    refine k_top (pk_sub (by omega)) ?_
                    refine va_put (D := E.1) (ci := 8) (v := .int (nI (gas - (m_price o siz (m_used o (m_top stk hgt 0) (m_top stk hgt 1)))))) (ty := .int) (C := "WideStackModel") (T := T_M) (N := 15) hx hb hts in_M ty_M tyok_M nm_M hown hK hP hD hS 0 rfl rfl 4 (by decide) (hts _ t_751) (fun _ h9 => h9) rfl (by decide +kernel) rfl rfl (Nat.le_of_ble_eq_true rfl) d_M_trouble_178 (fun H locs hP hD hS => ?_)
                    have hP : va_P E.1 vwCl [(mo, .inr (8, [.int (nI len), .ref mb, .int (kb on), .int (nI en), .int (nI (gas - (m_price o siz (m_used o (m_top stk hgt 0) (m_top stk hgt 1))))), .int (nI ctr), .int (nI siz), .int (nI hgt), .int (nI frm), .int (nI ret), .ref mm, .ref mw, .ref mh, .ref ml, .int (kb ay)])), (mb, .inl (E.2.1 0, 96, .inl (nF nb))), (mw, .inl (E.2.1 0, 370, .inl (nF g)))] H := hP
                    have hD : va_D A [(mo, .inr (8, [.int (nI len), .ref mb, .int (kb on), .int (nI en), .int (nI (gas - (m_price o siz (m_used o (m_top stk hgt 0) (m_top stk hgt 1))))), .int (nI ctr), .int (nI siz), .int (nI hgt), .int (nI frm), .int (nI ret), .ref mm, .ref mw, .ref mh, .ref ml, .int (kb ay)])), (mb, .inl (E.2.1 0, 96, .inl (nF nb))), (mw, .inl (E.2.1 0, 370, .inl (nF g)))] := hD
                    refine lv_aload_n hx hb d_M_trouble_181 rfl (lv_at hl 4 rfl) ?_
                    refine lv_iload_n hx hb d_M_trouble_182 rfl (lv_at hl 2 rfl) ?_
                    refine va_put (D := E.1) (ci := 8) (v := .int (nI (m_grown siz (m_used o (m_top stk hgt 0) (m_top stk hgt 1))))) (ty := .int) (C := "WideStackModel") (T := T_M) (N := 15) hx hb hts in_M ty_M tyok_M nm_M hown hK hP hD hS 0 rfl rfl 6 (by decide) (hts _ t_753) (fun _ h9 => h9) rfl (by decide +kernel) rfl rfl (Nat.le_of_ble_eq_true rfl) d_M_trouble_183 (fun H locs hP hD hS => ?_)
                    have hP : va_P E.1 vwCl [(mo, .inr (8, [.int (nI len), .ref mb, .int (kb on), .int (nI en), .int (nI (gas - (m_price o siz (m_used o (m_top stk hgt 0) (m_top stk hgt 1))))), .int (nI ctr), .int (nI (m_grown siz (m_used o (m_top stk hgt 0) (m_top stk hgt 1)))), .int (nI hgt), .int (nI frm), .int (nI ret), .ref mm, .ref mw, .ref mh, .ref ml, .int (kb ay)])), (mb, .inl (E.2.1 0, 96, .inl (nF nb))), (mw, .inl (E.2.1 0, 370, .inl (nF g)))] H := hP
                    have hD : va_D A [(mo, .inr (8, [.int (nI len), .ref mb, .int (kb on), .int (nI en), .int (nI (gas - (m_price o siz (m_used o (m_top stk hgt 0) (m_top stk hgt 1))))), .int (nI ctr), .int (nI (m_grown siz (m_used o (m_top stk hgt 0) (m_top stk hgt 1)))), .int (nI hgt), .int (nI frm), .int (nI ret), .ref mm, .ref mw, .ref mh, .ref ml, .int (kb ay)])), (mb, .inl (E.2.1 0, 96, .inl (nF nb))), (mw, .inl (E.2.1 0, 370, .inl (nF g)))] := hD
                    refine lv_iload_n hx hb d_M_trouble_186 rfl (lv_at hl 5 rfl) ?_
                    refine kn_ifne (tgt := 194) hx hb (by omega) d_M_trouble_187 (by decide) (fun h187 => ?_) (fun h187 => ?_)
                    · refine lv_iload_n hx hb d_M_trouble_194 rfl (lv_at hl 5 rfl) ?_
                      refine lv_sipush (v := nI 243) hx hb d_M_trouble_195 (by decide) ?_
                      refine kn_ne (tgt := 205) hx hb (by omega) (by omega) d_M_trouble_198 (by decide) (fun h198 => ?_) (fun h198 => ?_)
                      · refine lv_iconst (v := nI 0) hx hb d_M_trouble_205 (by decide) ?_
                        exact hret _ ls _ _ _ (gas - m_price o siz (m_used o (m_top stk hgt 0) (m_top stk hgt 1)), m_grown siz (m_used o (m_top stk hgt 0) (m_top stk hgt 1))) d_M_trouble_206 (tr_ok (fg_0 (kb_n0 h4) (by omega) (by omega) (by omega) (by omega) (by first | exact Or.inr (kb_n0 h165) | exact Or.inl (jm_2 h119 h125) | exact Or.inl (jm_3 h119 h125 h137))) (by first | rw [if_pos h187] | rw [if_neg h187, if_pos h198] | rw [if_neg h187, if_neg h198])) hP hS
                      · refine lv_iconst (v := nI 2) hx hb d_M_trouble_201 (by decide) ?_
                        refine lv_goto (tgt := 206) hx hb d_M_trouble_202 (by decide) ?_
                        exact hret _ ls _ _ _ (gas - m_price o siz (m_used o (m_top stk hgt 0) (m_top stk hgt 1)), m_grown siz (m_used o (m_top stk hgt 0) (m_top stk hgt 1))) d_M_trouble_206 (tr_ok (fg_0 (kb_n0 h4) (by omega) (by omega) (by omega) (by omega) (by first | exact Or.inr (kb_n0 h165) | exact Or.inl (jm_2 h119 h125) | exact Or.inl (jm_3 h119 h125 h137))) (by first | rw [if_pos h187] | rw [if_neg h187, if_pos h198] | rw [if_neg h187, if_neg h198])) hP hS
                    · refine lv_iconst (v := nI 1) hx hb d_M_trouble_190 (by decide) ?_
                      refine lv_goto (tgt := 206) hx hb d_M_trouble_191 (by decide) ?_
                      exact hret _ ls _ _ _ (gas - m_price o siz (m_used o (m_top stk hgt 0) (m_top stk hgt 1)), m_grown siz (m_used o (m_top stk hgt 0) (m_top stk hgt 1))) d_M_trouble_206 (tr_ok (fg_0 (kb_n0 h4) (by omega) (by omega) (by omega) (by omega) (by first | exact Or.inr (kb_n0 h165) | exact Or.inl (jm_2 h119 h125) | exact Or.inl (jm_3 h119 h125 h137))) (by first | rw [if_pos h187] | rw [if_neg h187, if_pos h198] | rw [if_neg h187, if_neg h198])) hP hS
                  · refine lv_iconst (v := nI 3) hx hb d_M_trouble_168 (by decide) ?_
                    exact hret _ ls _ _ _ (gas, siz) d_M_trouble_169 (tr_post (g1 := 0) (s1 := 0) (fg_3 (kb_n0 h4) (by omega) (by omega) (by omega) (by omega) (by first | exact jm_1 h119 | exact jm_4 h125 h137) (kb_0.mp h165)) (by decide)) hP hS
              · skip
                refine lv_iload_n hx hb d_M_trouble_122 rfl (lv_at hl 4 rfl) ?_
                refine lv_bipush (v := nI 87) hx hb d_M_trouble_123 (by decide) ?_
                refine kn_ne (tgt := 144) hx hb (by omega) (by omega) d_M_trouble_125 (by decide) (fun h125 => ?_) (fun h125 => ?_)
                · skip
                  refine lv_iconst (v := nI 0) hx hb d_M_trouble_144 (by decide) ?_
                  refine lv_istore (lv' := [(5, .int (nI 0)), (4, .int (nI (m_price o siz (m_used o (m_top stk hgt 0) (m_top stk hgt 1))))), (3, .int (nI (m_grown siz (m_used o (m_top stk hgt 0) (m_top stk hgt 1))))), (2, .int (nI (m_used o (m_top stk hgt 0) (m_top stk hgt 1)))), (0, .ref mo), (1, .int (nI o))]) hx hb d_M_trouble_145 hl (by decide) rfl (fun ls hl => ?_)
                  refine lv_iload hx hb d_M_trouble_147 (lv_at hl 0 rfl) ?_
                  refine kn_ifeq (tgt := 170) hx hb (by omega) d_M_trouble_149 (by decide) (fun h149 => ?_) (fun h149 => ?_)
                  · refine lv_aload_n hx hb d_M_trouble_170 rfl (lv_at hl 4 rfl) ?_
                    refine lv_dup hx hb d_M_trouble_171 rfl ?_
                    refine va_get (D := E.1) (ci := 8) (v := .int (nI gas)) (C := "WideStackModel") (T := T_M) (N := 15) hx hb hts in_M hown hK hP 0 rfl rfl 4 (by decide) (hts _ t_751) (fun _ h9 => h9) rfl d_M_trouble_172 ?_
                    refine lv_iload hx hb d_M_trouble_175 (lv_at hl 1 rfl) ?_
                    refine lv_isub hx hb d_M_trouble_177 ?_
                    refine k_top (pk_sub (by omega)) ?_
                    refine va_put (D := E.1) (ci := 8) (v := .int (nI (gas - (m_price o siz (m_used o (m_top stk hgt 0) (m_top stk hgt 1)))))) (ty := .int) (C := "WideStackModel") (T := T_M) (N := 15) hx hb hts in_M ty_M tyok_M nm_M hown hK hP hD hS 0 rfl rfl 4 (by decide) (hts _ t_751) (fun _ h9 => h9) rfl (by decide +kernel) rfl rfl (Nat.le_of_ble_eq_true rfl) d_M_trouble_178 (fun H locs hP hD hS => ?_)
                    have hP : va_P E.1 vwCl [(mo, .inr (8, [.int (nI len), .ref mb, .int (kb on), .int (nI en), .int (nI (gas - (m_price o siz (m_used o (m_top stk hgt 0) (m_top stk hgt 1))))), .int (nI ctr), .int (nI siz), .int (nI hgt), .int (nI frm), .int (nI ret), .ref mm, .ref mw, .ref mh, .ref ml, .int (kb ay)])), (mb, .inl (E.2.1 0, 96, .inl (nF nb))), (mw, .inl (E.2.1 0, 370, .inl (nF g)))] H := hP
                    have hD : va_D A [(mo, .inr (8, [.int (nI len), .ref mb, .int (kb on), .int (nI en), .int (nI (gas - (m_price o siz (m_used o (m_top stk hgt 0) (m_top stk hgt 1))))), .int (nI ctr), .int (nI siz), .int (nI hgt), .int (nI frm), .int (nI ret), .ref mm, .ref mw, .ref mh, .ref ml, .int (kb ay)])), (mb, .inl (E.2.1 0, 96, .inl (nF nb))), (mw, .inl (E.2.1 0, 370, .inl (nF g)))] := hD
                    refine lv_aload_n hx hb d_M_trouble_181 rfl (lv_at hl 4 rfl) ?_
                    refine lv_iload_n hx hb d_M_trouble_182 rfl (lv_at hl 2 rfl) ?_
                    refine va_put (D := E.1) (ci := 8) (v := .int (nI (m_grown siz (m_used o (m_top stk hgt 0) (m_top stk hgt 1))))) (ty := .int) (C := "WideStackModel") (T := T_M) (N := 15) hx hb hts in_M ty_M tyok_M nm_M hown hK hP hD hS 0 rfl rfl 6 (by decide) (hts _ t_753) (fun _ h9 => h9) rfl (by decide +kernel) rfl rfl (Nat.le_of_ble_eq_true rfl) d_M_trouble_183 (fun H locs hP hD hS => ?_)
                    have hP : va_P E.1 vwCl [(mo, .inr (8, [.int (nI len), .ref mb, .int (kb on), .int (nI en), .int (nI (gas - (m_price o siz (m_used o (m_top stk hgt 0) (m_top stk hgt 1))))), .int (nI ctr), .int (nI (m_grown siz (m_used o (m_top stk hgt 0) (m_top stk hgt 1)))), .int (nI hgt), .int (nI frm), .int (nI ret), .ref mm, .ref mw, .ref mh, .ref ml, .int (kb ay)])), (mb, .inl (E.2.1 0, 96, .inl (nF nb))), (mw, .inl (E.2.1 0, 370, .inl (nF g)))] H := hP
                    have hD : va_D A [(mo, .inr (8, [.int (nI len), .ref mb, .int (kb on), .int (nI en), .int (nI (gas - (m_price o siz (m_used o (m_top stk hgt 0) (m_top stk hgt 1))))), .int (nI ctr), .int (nI (m_grown siz (m_used o (m_top stk hgt 0) (m_top stk hgt 1)))), .int (nI hgt), .int (nI frm), .int (nI ret), .ref mm, .ref mw, .ref mh, .ref ml, .int (kb ay)])), (mb, .inl (E.2.1 0, 96, .inl (nF nb))), (mw, .inl (E.2.1 0, 370, .inl (nF g)))] := hD
                    refine lv_iload_n hx hb d_M_trouble_186 rfl (lv_at hl 5 rfl) ?_
                    refine kn_ifne (tgt := 194) hx hb (by omega) d_M_trouble_187 (by decide) (fun h187 => ?_) (fun h187 => ?_)
                    · refine lv_iload_n hx hb d_M_trouble_194 rfl (lv_at hl 5 rfl) ?_
                      refine lv_sipush (v := nI 243) hx hb d_M_trouble_195 (by decide) ?_
                      refine kn_ne (tgt := 205) hx hb (by omega) (by omega) d_M_trouble_198 (by decide) (fun h198 => ?_) (fun h198 => ?_)
                      · refine lv_iconst (v := nI 0) hx hb d_M_trouble_205 (by decide) ?_
                        exact hret _ ls _ _ _ (gas - m_price o siz (m_used o (m_top stk hgt 0) (m_top stk hgt 1)), m_grown siz (m_used o (m_top stk hgt 0) (m_top stk hgt 1))) d_M_trouble_206 (tr_ok (fg_0 (kb_n0 h4) (by omega) (by omega) (by omega) (by omega) (by first | exact Or.inr (kb_n0 h165) | exact Or.inl (jm_2 h119 h125) | exact Or.inl (jm_3 h119 h125 h137))) (by first | rw [if_pos h187] | rw [if_neg h187, if_pos h198] | rw [if_neg h187, if_neg h198])) hP hS
                      · refine lv_iconst (v := nI 2) hx hb d_M_trouble_201 (by decide) ?_
                        refine lv_goto (tgt := 206) hx hb d_M_trouble_202 (by decide) ?_
                        exact hret _ ls _ _ _ (gas - m_price o siz (m_used o (m_top stk hgt 0) (m_top stk hgt 1)), m_grown siz (m_used o (m_top stk hgt 0) (m_top stk hgt 1))) d_M_trouble_206 (tr_ok (fg_0 (kb_n0 h4) (by omega) (by omega) (by omega) (by omega) (by first | exact Or.inr (kb_n0 h165) | exact Or.inl (jm_2 h119 h125) | exact Or.inl (jm_3 h119 h125 h137))) (by first | rw [if_pos h187] | rw [if_neg h187, if_pos h198] | rw [if_neg h187, if_neg h198])) hP hS
                    · refine lv_iconst (v := nI 1) hx hb d_M_trouble_190 (by decide) ?_
                      refine lv_goto (tgt := 206) hx hb d_M_trouble_191 (by decide) ?_
                      exact hret _ ls _ _ _ (gas - m_price o siz (m_used o (m_top stk hgt 0) (m_top stk hgt 1)), m_grown siz (m_used o (m_top stk hgt 0) (m_top stk hgt 1))) d_M_trouble_206 (tr_ok (fg_0 (kb_n0 h4) (by omega) (by omega) (by omega) (by omega) (by first | exact Or.inr (kb_n0 h165) | exact Or.inl (jm_2 h119 h125) | exact Or.inl (jm_3 h119 h125 h137))) (by first | rw [if_pos h187] | rw [if_neg h187, if_pos h198] | rw [if_neg h187, if_neg h198])) hP hS
                  · omega
                · have := k4 h125
                  refine lv_aload_n hx hb d_M_trouble_128 rfl (lv_at hl 3 rfl) ?_
                  refine lv_aload_n hx hb d_M_trouble_129 rfl (lv_at hl 3 rfl) ?_
                  refine lv_iconst (v := nI 1) hx hb d_M_trouble_130 (by decide) ?_
                  refine k_Vp (As := [.int (nI 1)]) (rest := [.ref mo]) ⟨hx, hb, hml, hown, hts⟩ (c_M_top l E mo mb mm mw mh ml len en gas ctr siz hgt frm ret on ay 1 (by omega)) (k_cwV 1 hts t_853 t_855 t_31 t_71 t_856 (by decide +kernel) ⟨Nat.le_of_ble_eq_true rfl, Nat.le_of_ble_eq_true rfl⟩) hK hG hA hP hD hS [0] rfl (by decide) 0 rfl rfl rfl hl.1 rfl (Nat.le_of_ble_eq_true rfl) d_M_trouble_131 ⟨Nat.zero_le _, Nat.zero_le _⟩ (fun r131 hu131 => ?_)
                  subst hu131
                  refine k_Vp (As := [.int (nI (16 * (hgt - 1 - 1)))]) (rest := []) ⟨hx, hb, hml, hown, hts⟩ (c_M_isZero l E mo mb mm mw mh ml len en gas ctr siz hgt frm ret on ay g hg (16 * (hgt - 1 - 1)) (by omega)) (k_cwV 1 hts t_861 t_863 t_33 t_71 t_864 (by decide +kernel) ⟨Nat.le_of_ble_eq_true rfl, Nat.le_of_ble_eq_true rfl⟩) hK hG hA hP hD hS [0, 2] rfl (by decide) 0 rfl rfl rfl hl.1 rfl (Nat.le_of_ble_eq_true rfl) d_M_trouble_134 ⟨Nat.zero_le _, Nat.zero_le _⟩ (fun r134 hu134 => ?_)
                  have hu134 := hu134.trans (by rw [top_r hsk hh (by omega)])
                  subst hu134
                  refine lv_if_ne (tgt := 144) hx hb d_M_trouble_137 (by decide) (fun h137 => ?_) (fun h137 => ?_)
                  · refine lv_iconst (v := nI 0) hx hb d_M_trouble_144 (by decide) ?_
                    refine lv_istore (lv' := [(5, .int (nI 0)), (4, .int (nI (m_price o siz (m_used o (m_top stk hgt 0) (m_top stk hgt 1))))), (3, .int (nI (m_grown siz (m_used o (m_top stk hgt 0) (m_top stk hgt 1))))), (2, .int (nI (m_used o (m_top stk hgt 0) (m_top stk hgt 1)))), (0, .ref mo), (1, .int (nI o))]) hx hb d_M_trouble_145 hl (by decide) rfl (fun ls hl => ?_)
                    refine lv_iload hx hb d_M_trouble_147 (lv_at hl 0 rfl) ?_
                    refine kn_ifeq (tgt := 170) hx hb (by omega) d_M_trouble_149 (by decide) (fun h149 => ?_) (fun h149 => ?_)
                    · refine lv_aload_n hx hb d_M_trouble_170 rfl (lv_at hl 4 rfl) ?_
                      refine lv_dup hx hb d_M_trouble_171 rfl ?_
                      refine va_get (D := E.1) (ci := 8) (v := .int (nI gas)) (C := "WideStackModel") (T := T_M) (N := 15) hx hb hts in_M hown hK hP 0 rfl rfl 4 (by decide) (hts _ t_751) (fun _ h9 => h9) rfl d_M_trouble_172 ?_
                      refine lv_iload hx hb d_M_trouble_175 (lv_at hl 1 rfl) ?_
                      refine lv_isub hx hb d_M_trouble_177 ?_
                      refine k_top (pk_sub (by omega)) ?_
                      refine va_put (D := E.1) (ci := 8) (v := .int (nI (gas - (m_price o siz (m_used o (m_top stk hgt 0) (m_top stk hgt 1)))))) (ty := .int) (C := "WideStackModel") (T := T_M) (N := 15) hx hb hts in_M ty_M tyok_M nm_M hown hK hP hD hS 0 rfl rfl 4 (by decide) (hts _ t_751) (fun _ h9 => h9) rfl (by decide +kernel) rfl rfl (Nat.le_of_ble_eq_true rfl) d_M_trouble_178 (fun H locs hP hD hS => ?_)
                      have hP : va_P E.1 vwCl [(mo, .inr (8, [.int (nI len), .ref mb, .int (kb on), .int (nI en), .int (nI (gas - (m_price o siz (m_used o (m_top stk hgt 0) (m_top stk hgt 1))))), .int (nI ctr), .int (nI siz), .int (nI hgt), .int (nI frm), .int (nI ret), .ref mm, .ref mw, .ref mh, .ref ml, .int (kb ay)])), (mb, .inl (E.2.1 0, 96, .inl (nF nb))), (mw, .inl (E.2.1 0, 370, .inl (nF g)))] H := hP
                      have hD : va_D A [(mo, .inr (8, [.int (nI len), .ref mb, .int (kb on), .int (nI en), .int (nI (gas - (m_price o siz (m_used o (m_top stk hgt 0) (m_top stk hgt 1))))), .int (nI ctr), .int (nI siz), .int (nI hgt), .int (nI frm), .int (nI ret), .ref mm, .ref mw, .ref mh, .ref ml, .int (kb ay)])), (mb, .inl (E.2.1 0, 96, .inl (nF nb))), (mw, .inl (E.2.1 0, 370, .inl (nF g)))] := hD
                      refine lv_aload_n hx hb d_M_trouble_181 rfl (lv_at hl 4 rfl) ?_
                      refine lv_iload_n hx hb d_M_trouble_182 rfl (lv_at hl 2 rfl) ?_
                      refine va_put (D := E.1) (ci := 8) (v := .int (nI (m_grown siz (m_used o (m_top stk hgt 0) (m_top stk hgt 1))))) (ty := .int) (C := "WideStackModel") (T := T_M) (N := 15) hx hb hts in_M ty_M tyok_M nm_M hown hK hP hD hS 0 rfl rfl 6 (by decide) (hts _ t_753) (fun _ h9 => h9) rfl (by decide +kernel) rfl rfl (Nat.le_of_ble_eq_true rfl) d_M_trouble_183 (fun H locs hP hD hS => ?_)
                      have hP : va_P E.1 vwCl [(mo, .inr (8, [.int (nI len), .ref mb, .int (kb on), .int (nI en), .int (nI (gas - (m_price o siz (m_used o (m_top stk hgt 0) (m_top stk hgt 1))))), .int (nI ctr), .int (nI (m_grown siz (m_used o (m_top stk hgt 0) (m_top stk hgt 1)))), .int (nI hgt), .int (nI frm), .int (nI ret), .ref mm, .ref mw, .ref mh, .ref ml, .int (kb ay)])), (mb, .inl (E.2.1 0, 96, .inl (nF nb))), (mw, .inl (E.2.1 0, 370, .inl (nF g)))] H := hP
                      have hD : va_D A [(mo, .inr (8, [.int (nI len), .ref mb, .int (kb on), .int (nI en), .int (nI (gas - (m_price o siz (m_used o (m_top stk hgt 0) (m_top stk hgt 1))))), .int (nI ctr), .int (nI (m_grown siz (m_used o (m_top stk hgt 0) (m_top stk hgt 1)))), .int (nI hgt), .int (nI frm), .int (nI ret), .ref mm, .ref mw, .ref mh, .ref ml, .int (kb ay)])), (mb, .inl (E.2.1 0, 96, .inl (nF nb))), (mw, .inl (E.2.1 0, 370, .inl (nF g)))] := hD
                      refine lv_iload_n hx hb d_M_trouble_186 rfl (lv_at hl 5 rfl) ?_
                      refine kn_ifne (tgt := 194) hx hb (by omega) d_M_trouble_187 (by decide) (fun h187 => ?_) (fun h187 => ?_)
                      · refine lv_iload_n hx hb d_M_trouble_194 rfl (lv_at hl 5 rfl) ?_
                        refine lv_sipush (v := nI 243) hx hb d_M_trouble_195 (by decide) ?_
                        refine kn_ne (tgt := 205) hx hb (by omega) (by omega) d_M_trouble_198 (by decide) (fun h198 => ?_) (fun h198 => ?_)
                        · refine lv_iconst (v := nI 0) hx hb d_M_trouble_205 (by decide) ?_
                          exact hret _ ls _ _ _ (gas - m_price o siz (m_used o (m_top stk hgt 0) (m_top stk hgt 1)), m_grown siz (m_used o (m_top stk hgt 0) (m_top stk hgt 1))) d_M_trouble_206 (tr_ok (fg_0 (kb_n0 h4) (by omega) (by omega) (by omega) (by omega) (by first | exact Or.inr (kb_n0 h165) | exact Or.inl (jm_2 h119 h125) | exact Or.inl (jm_3 h119 h125 h137))) (by first | rw [if_pos h187] | rw [if_neg h187, if_pos h198] | rw [if_neg h187, if_neg h198])) hP hS
                        · refine lv_iconst (v := nI 2) hx hb d_M_trouble_201 (by decide) ?_
                          refine lv_goto (tgt := 206) hx hb d_M_trouble_202 (by decide) ?_
                          exact hret _ ls _ _ _ (gas - m_price o siz (m_used o (m_top stk hgt 0) (m_top stk hgt 1)), m_grown siz (m_used o (m_top stk hgt 0) (m_top stk hgt 1))) d_M_trouble_206 (tr_ok (fg_0 (kb_n0 h4) (by omega) (by omega) (by omega) (by omega) (by first | exact Or.inr (kb_n0 h165) | exact Or.inl (jm_2 h119 h125) | exact Or.inl (jm_3 h119 h125 h137))) (by first | rw [if_pos h187] | rw [if_neg h187, if_pos h198] | rw [if_neg h187, if_neg h198])) hP hS
                      · refine lv_iconst (v := nI 1) hx hb d_M_trouble_190 (by decide) ?_
                        refine lv_goto (tgt := 206) hx hb d_M_trouble_191 (by decide) ?_
                        exact hret _ ls _ _ _ (gas - m_price o siz (m_used o (m_top stk hgt 0) (m_top stk hgt 1)), m_grown siz (m_used o (m_top stk hgt 0) (m_top stk hgt 1))) d_M_trouble_206 (tr_ok (fg_0 (kb_n0 h4) (by omega) (by omega) (by omega) (by omega) (by first | exact Or.inr (kb_n0 h165) | exact Or.inl (jm_2 h119 h125) | exact Or.inl (jm_3 h119 h125 h137))) (by first | rw [if_pos h187] | rw [if_neg h187, if_pos h198] | rw [if_neg h187, if_neg h198])) hP hS
                    · omega
                  · refine lv_iconst (v := nI 1) hx hb d_M_trouble_140 (by decide) ?_
                    refine lv_goto (tgt := 145) hx hb d_M_trouble_141 (by decide) ?_
                    refine lv_istore (lv' := [(5, .int (nI 1)), (4, .int (nI (m_price o siz (m_used o (m_top stk hgt 0) (m_top stk hgt 1))))), (3, .int (nI (m_grown siz (m_used o (m_top stk hgt 0) (m_top stk hgt 1))))), (2, .int (nI (m_used o (m_top stk hgt 0) (m_top stk hgt 1)))), (0, .ref mo), (1, .int (nI o))]) hx hb d_M_trouble_145 hl (by decide) rfl (fun ls hl => ?_)
                    refine lv_iload hx hb d_M_trouble_147 (lv_at hl 0 rfl) ?_
                    refine kn_ifeq (tgt := 170) hx hb (by omega) d_M_trouble_149 (by decide) (fun h149 => ?_) (fun h149 => ?_)
                    · omega
                    · refine lv_aload_n hx hb d_M_trouble_152 rfl (lv_at hl 4 rfl) ?_
                      refine lv_aload_n hx hb d_M_trouble_153 rfl (lv_at hl 4 rfl) ?_
                      refine lv_aload_n hx hb d_M_trouble_154 rfl (lv_at hl 4 rfl) ?_
                      refine lv_iconst (v := nI 0) hx hb d_M_trouble_155 (by decide) ?_
                      refine k_Vp (As := [.int (nI 0)]) (rest := [.ref mo, .ref mo]) ⟨hx, hb, hml, hown, hts⟩ (c_M_top l E mo mb mm mw mh ml len en gas ctr siz hgt frm ret on ay 0 (by omega)) (k_cwV 1 hts t_853 t_855 t_31 t_71 t_856 (by decide +kernel) ⟨Nat.le_of_ble_eq_true rfl, Nat.le_of_ble_eq_true rfl⟩) hK hG hA hP hD hS [0] rfl (by decide) 0 rfl rfl rfl hl.1 rfl (Nat.le_of_ble_eq_true rfl) d_M_trouble_156 ⟨Nat.zero_le _, Nat.zero_le _⟩ (fun r156 hu156 => ?_)
                      subst hu156
                      refine k_Vp (As := [.int (nI (16 * (hgt - 1 - 0)))]) (rest := [.ref mo]) ⟨hx, hb, hml, hown, hts⟩ (c_M_small l E mo mb mm mw mh ml len en gas ctr siz hgt frm ret on ay g hg (16 * (hgt - 1 - 0)) (by omega)) (k_cwV 1 hts t_857 t_859 t_32 t_71 t_860 (by decide +kernel) ⟨Nat.le_of_ble_eq_true rfl, Nat.le_of_ble_eq_true rfl⟩) hK hG hA hP hD hS [0, 2] rfl (by decide) 0 rfl rfl rfl hl.1 rfl (Nat.le_of_ble_eq_true rfl) d_M_trouble_159 ⟨Nat.zero_le _, Nat.zero_le _⟩ (fun r159 hu159 => ?_)
                      have hu159 := hu159.trans (by rw [top_r hsk hh (by omega)])
                      subst hu159
                      refine k_Vp (As := [.int (nI (min (m_top stk hgt 0) 65535))]) (rest := []) ⟨hx, hb, hml, hown, hts⟩ (c_M_marked l E mo mb mm mw mh ml len en gas ctr siz hgt frm ret on ay nb bb okb (nI (min (m_top stk hgt 0) 65535))) (k_cwV 1 hts t_868 t_802 t_803 t_71 t_804 (by decide +kernel) ⟨Nat.le_of_ble_eq_true rfl, Nat.le_of_ble_eq_true rfl⟩) hK hG hA hP hD hS [0, 1] rfl (by decide) 0 rfl rfl rfl hl.1 rfl (Nat.le_of_ble_eq_true rfl) d_M_trouble_162 ⟨Nat.zero_le _, Nat.zero_le _⟩ (fun r162 hu162 => ?_)
                      have hu162 := hu162.trans (by rw [mk_min hlen])
                      subst hu162
                      refine lv_if_ne (tgt := 170) hx hb d_M_trouble_165 (by decide) (fun h165 => ?_) (fun h165 => ?_)
                      · refine lv_aload_n hx hb d_M_trouble_170 rfl (lv_at hl 4 rfl) ?_
                        refine lv_dup hx hb d_M_trouble_171 rfl ?_
                        refine va_get (D := E.1) (ci := 8) (v := .int (nI gas)) (C := "WideStackModel") (T := T_M) (N := 15) hx hb hts in_M hown hK hP 0 rfl rfl 4 (by decide) (hts _ t_751) (fun _ h9 => h9) rfl d_M_trouble_172 ?_
                        refine lv_iload hx hb d_M_trouble_175 (lv_at hl 1 rfl) ?_
                        refine lv_isub hx hb d_M_trouble_177 ?_
                        refine k_top (pk_sub (by omega)) ?_
                        refine va_put (D := E.1) (ci := 8) (v := .int (nI (gas - (m_price o siz (m_used o (m_top stk hgt 0) (m_top stk hgt 1)))))) (ty := .int) (C := "WideStackModel") (T := T_M) (N := 15) hx hb hts in_M ty_M tyok_M nm_M hown hK hP hD hS 0 rfl rfl 4 (by decide) (hts _ t_751) (fun _ h9 => h9) rfl (by decide +kernel) rfl rfl (Nat.le_of_ble_eq_true rfl) d_M_trouble_178 (fun H locs hP hD hS => ?_)
                        have hP : va_P E.1 vwCl [(mo, .inr (8, [.int (nI len), .ref mb, .int (kb on), .int (nI en), .int (nI (gas - (m_price o siz (m_used o (m_top stk hgt 0) (m_top stk hgt 1))))), .int (nI ctr), .int (nI siz), .int (nI hgt), .int (nI frm), .int (nI ret), .ref mm, .ref mw, .ref mh, .ref ml, .int (kb ay)])), (mb, .inl (E.2.1 0, 96, .inl (nF nb))), (mw, .inl (E.2.1 0, 370, .inl (nF g)))] H := hP
                        have hD : va_D A [(mo, .inr (8, [.int (nI len), .ref mb, .int (kb on), .int (nI en), .int (nI (gas - (m_price o siz (m_used o (m_top stk hgt 0) (m_top stk hgt 1))))), .int (nI ctr), .int (nI siz), .int (nI hgt), .int (nI frm), .int (nI ret), .ref mm, .ref mw, .ref mh, .ref ml, .int (kb ay)])), (mb, .inl (E.2.1 0, 96, .inl (nF nb))), (mw, .inl (E.2.1 0, 370, .inl (nF g)))] := hD
                        refine lv_aload_n hx hb d_M_trouble_181 rfl (lv_at hl 4 rfl) ?_
                        refine lv_iload_n hx hb d_M_trouble_182 rfl (lv_at hl 2 rfl) ?_
                        refine va_put (D := E.1) (ci := 8) (v := .int (nI (m_grown siz (m_used o (m_top stk hgt 0) (m_top stk hgt 1))))) (ty := .int) (C := "WideStackModel") (T := T_M) (N := 15) hx hb hts in_M ty_M tyok_M nm_M hown hK hP hD hS 0 rfl rfl 6 (by decide) (hts _ t_753) (fun _ h9 => h9) rfl (by decide +kernel) rfl rfl (Nat.le_of_ble_eq_true rfl) d_M_trouble_183 (fun H locs hP hD hS => ?_)
                        have hP : va_P E.1 vwCl [(mo, .inr (8, [.int (nI len), .ref mb, .int (kb on), .int (nI en), .int (nI (gas - (m_price o siz (m_used o (m_top stk hgt 0) (m_top stk hgt 1))))), .int (nI ctr), .int (nI (m_grown siz (m_used o (m_top stk hgt 0) (m_top stk hgt 1)))), .int (nI hgt), .int (nI frm), .int (nI ret), .ref mm, .ref mw, .ref mh, .ref ml, .int (kb ay)])), (mb, .inl (E.2.1 0, 96, .inl (nF nb))), (mw, .inl (E.2.1 0, 370, .inl (nF g)))] H := hP
                        have hD : va_D A [(mo, .inr (8, [.int (nI len), .ref mb, .int (kb on), .int (nI en), .int (nI (gas - (m_price o siz (m_used o (m_top stk hgt 0) (m_top stk hgt 1))))), .int (nI ctr), .int (nI (m_grown siz (m_used o (m_top stk hgt 0) (m_top stk hgt 1)))), .int (nI hgt), .int (nI frm), .int (nI ret), .ref mm, .ref mw, .ref mh, .ref ml, .int (kb ay)])), (mb, .inl (E.2.1 0, 96, .inl (nF nb))), (mw, .inl (E.2.1 0, 370, .inl (nF g)))] := hD
                        refine lv_iload_n hx hb d_M_trouble_186 rfl (lv_at hl 5 rfl) ?_
                        refine kn_ifne (tgt := 194) hx hb (by omega) d_M_trouble_187 (by decide) (fun h187 => ?_) (fun h187 => ?_)
                        · refine lv_iload_n hx hb d_M_trouble_194 rfl (lv_at hl 5 rfl) ?_
                          refine lv_sipush (v := nI 243) hx hb d_M_trouble_195 (by decide) ?_
                          refine kn_ne (tgt := 205) hx hb (by omega) (by omega) d_M_trouble_198 (by decide) (fun h198 => ?_) (fun h198 => ?_)
                          · refine lv_iconst (v := nI 0) hx hb d_M_trouble_205 (by decide) ?_
                            exact hret _ ls _ _ _ (gas - m_price o siz (m_used o (m_top stk hgt 0) (m_top stk hgt 1)), m_grown siz (m_used o (m_top stk hgt 0) (m_top stk hgt 1))) d_M_trouble_206 (tr_ok (fg_0 (kb_n0 h4) (by omega) (by omega) (by omega) (by omega) (by first | exact Or.inr (kb_n0 h165) | exact Or.inl (jm_2 h119 h125) | exact Or.inl (jm_3 h119 h125 h137))) (by first | rw [if_pos h187] | rw [if_neg h187, if_pos h198] | rw [if_neg h187, if_neg h198])) hP hS
                          · refine lv_iconst (v := nI 2) hx hb d_M_trouble_201 (by decide) ?_
                            refine lv_goto (tgt := 206) hx hb d_M_trouble_202 (by decide) ?_
                            exact hret _ ls _ _ _ (gas - m_price o siz (m_used o (m_top stk hgt 0) (m_top stk hgt 1)), m_grown siz (m_used o (m_top stk hgt 0) (m_top stk hgt 1))) d_M_trouble_206 (tr_ok (fg_0 (kb_n0 h4) (by omega) (by omega) (by omega) (by omega) (by first | exact Or.inr (kb_n0 h165) | exact Or.inl (jm_2 h119 h125) | exact Or.inl (jm_3 h119 h125 h137))) (by first | rw [if_pos h187] | rw [if_neg h187, if_pos h198] | rw [if_neg h187, if_neg h198])) hP hS
                        · refine lv_iconst (v := nI 1) hx hb d_M_trouble_190 (by decide) ?_
                          refine lv_goto (tgt := 206) hx hb d_M_trouble_191 (by decide) ?_
                          exact hret _ ls _ _ _ (gas - m_price o siz (m_used o (m_top stk hgt 0) (m_top stk hgt 1)), m_grown siz (m_used o (m_top stk hgt 0) (m_top stk hgt 1))) d_M_trouble_206 (tr_ok (fg_0 (kb_n0 h4) (by omega) (by omega) (by omega) (by omega) (by first | exact Or.inr (kb_n0 h165) | exact Or.inl (jm_2 h119 h125) | exact Or.inl (jm_3 h119 h125 h137))) (by first | rw [if_pos h187] | rw [if_neg h187, if_pos h198] | rw [if_neg h187, if_neg h198])) hP hS
                      · refine lv_iconst (v := nI 3) hx hb d_M_trouble_168 (by decide) ?_
                        exact hret _ ls _ _ _ (gas, siz) d_M_trouble_169 (tr_post (g1 := 0) (s1 := 0) (fg_3 (kb_n0 h4) (by omega) (by omega) (by omega) (by omega) (by first | exact jm_1 h119 | exact jm_4 h125 h137) (kb_0.mp h165)) (by decide)) hP hS
            · refine lv_iconst (v := nI 4) hx hb d_M_trouble_114 (by decide) ?_
              exact hret _ ls _ _ _ (gas, siz) d_M_trouble_115 (tr_post (g1 := 0) (s1 := 0) (fg_4 (kb_n0 h4) (by omega) (by omega) (by omega) (by omega)) (by decide)) hP hS
        · refine lv_bipush (v := nI 8) hx hb d_M_trouble_58 (by decide) ?_
          exact hret _ ls _ _ _ (gas, siz) d_M_trouble_60 (tr_post (g1 := 0) (s1 := 0) (fg_8 (kb_n0 h4) (by omega) (by omega) (hU1.mp (by omega))) (by decide)) hP hS
      · refine lv_bipush (v := nI 6) hx hb d_M_trouble_42 (by decide) ?_
        exact hret _ ls _ _ _ (gas, siz) d_M_trouble_44 (tr_post (g1 := 0) (s1 := 0) (ff_6 (kb_n0 h4) (by omega) (by omega)) (by decide)) hP hS
    · refine lv_iconst (v := nI 5) hx hb d_M_trouble_21 (by decide) ?_
      exact hret _ ls _ _ _ (gas, siz) d_M_trouble_22 (tr_post (g1 := 0) (s1 := 0) (ff_5 (kb_n0 h4) h18) (by decide)) hP hS
  · refine lv_bipush (v := nI 7) hx hb d_M_trouble_7 (by decide) ?_
    exact hret _ ls _ _ _ (gas, siz) d_M_trouble_9 (tr_post (g1 := 0) (s1 := 0) (ff_7 (kb_0.mp h4)) (by decide)) hP hS

