theorem h_tA : Cond.laysStatic "WideStack$Instructions" "NEEDED_FROM_00" "[I" ∈ lw_tbl := (List.mem_of_getElem? (i := 362) (by decide +kernel))
theorem h_tB : Cond.laysStatic "WideStack$Instructions" "NEEDED_FROM_50" "[I" ∈ lw_tbl := (List.mem_of_getElem? (i := 364) (by decide +kernel))
theorem h_tI : Cond.initialized "WideStack$Instructions" ∈ lw_tbl := (List.mem_of_getElem? (i := 72) (by decide +kernel))
theorem h_tO : Cond.arrayOver (.array .int) ∈ lw_tbl := (List.mem_of_getElem? (i := 124) (by decide +kernel))
theorem h_n0 : Cond.methodLinkNest "WideStack" 9 ⟨"WideStack$Program", "<init>", "()V"⟩ "WideStack" ∈ lw_tbl := (List.mem_of_getElem? (i := 86) (by decide +kernel))
theorem h_n1 : Cond.methodLinkNest "WideStack" 18 ⟨"WideStack$Run", "<init>", "()V"⟩ "WideStack" ∈ lw_tbl := (List.mem_of_getElem? (i := 113) (by decide +kernel))
theorem h_n2 : Cond.methodLinkNest "WideStack$Run" 9 ⟨"WideStack$Stack", "<init>", "()V"⟩ "WideStack" ∈ lw_tbl := (List.mem_of_getElem? (i := 119) (by decide +kernel))
theorem h_n3 : Cond.methodLinkNest "WideStack$Run" 18 ⟨"WideStack$Store", "<init>", "()V"⟩ "WideStack" ∈ lw_tbl := (List.mem_of_getElem? (i := 137) (by decide +kernel))
theorem h_n4 : Cond.methodLinkNest "WideStack$Run" 25 ⟨"WideStack$Calculator", "<init>", "()V"⟩ "WideStack" ∈ lw_tbl := (List.mem_of_getElem? (i := 150) (by decide +kernel))
theorem h_n5 : Cond.methodLinkNest "WideStack$Calculator" 9 ⟨"WideStack$Divider", "<init>", "()V"⟩ "WideStack" ∈ lw_tbl := (List.mem_of_getElem? (i := 156) (by decide +kernel))
theorem tabA {b : Nat} {s : State} (hgv : (Jvm.Cond.and given_1 narrow_1).before #[Value.ref b] s = true) : ∃ t : Nat, (Term.static "WideStack$Instructions" "NEEDED_FROM_00" "[I").eval #[Value.ref b] s none [] s = some (.ref t) ∧ va_T .int t 32 (fun j => .int (kTA j)) (fun q => s.heap.size ≤ q) s s.heap := by
  have hs := flat_of_before _ hgv
  have e : ∀ (j v : Int32), (Cond.eq (.elem (Term.static "WideStack$Instructions" "NEEDED_FROM_00" "[I") (.int j)) (.int v)).before #[Value.ref b] s = true → (Term.elem (Term.static "WideStack$Instructions" "NEEDED_FROM_00" "[I") (.int j)).eval #[Value.ref b] s none [] s = some (.int v) := fun j v h => Cond.eq_int h rfl
  refine va_Tof (by decide) (hs (.arrayOf (Term.static "WideStack$Instructions" "NEEDED_FROM_00" "[I") .int) (by decide +kernel)) (Cond.eq_int (hs (.eq (.length (Term.static "WideStack$Instructions" "NEEDED_FROM_00" "[I")) (.int 32)) (by decide +kernel)) rfl) (fun j hj => ?_) (fun a ha q => absurd ha (Nat.not_lt.mpr q))
  rcases (by omega : j = 0 ∨ j = 1 ∨ j = 2 ∨ j = 3 ∨ j = 4 ∨ j = 5 ∨ j = 6 ∨ j = 7 ∨ j = 8 ∨ j = 9 ∨ j = 10 ∨ j = 11 ∨ j = 12 ∨ j = 13 ∨ j = 14 ∨ j = 15 ∨ j = 16 ∨ j = 17 ∨ j = 18 ∨ j = 19 ∨ j = 20 ∨ j = 21 ∨ j = 22 ∨ j = 23 ∨ j = 24 ∨ j = 25 ∨ j = 26 ∨ j = 27 ∨ j = 28 ∨ j = 29 ∨ j = 30 ∨ j = 31) with rfl | rfl | rfl | rfl | rfl | rfl | rfl | rfl | rfl | rfl | rfl | rfl | rfl | rfl | rfl | rfl | rfl | rfl | rfl | rfl | rfl | rfl | rfl | rfl | rfl | rfl | rfl | rfl | rfl | rfl | rfl | rfl
  · exact e (0 : Int32) (0 : Int32) (hs (.eq (.elem (Term.static "WideStack$Instructions" "NEEDED_FROM_00" "[I") (.int 0)) (.int (0 : Int32))) (by decide +kernel))
  · exact e (1 : Int32) (2 : Int32) (hs (.eq (.elem (Term.static "WideStack$Instructions" "NEEDED_FROM_00" "[I") (.int 1)) (.int (2 : Int32))) (by decide +kernel))
  · exact e (2 : Int32) (2 : Int32) (hs (.eq (.elem (Term.static "WideStack$Instructions" "NEEDED_FROM_00" "[I") (.int 2)) (.int (2 : Int32))) (by decide +kernel))
  · exact e (3 : Int32) (2 : Int32) (hs (.eq (.elem (Term.static "WideStack$Instructions" "NEEDED_FROM_00" "[I") (.int 3)) (.int (2 : Int32))) (by decide +kernel))
  · exact e (4 : Int32) (2 : Int32) (hs (.eq (.elem (Term.static "WideStack$Instructions" "NEEDED_FROM_00" "[I") (.int 4)) (.int (2 : Int32))) (by decide +kernel))
  · exact e (5 : Int32) (2 : Int32) (hs (.eq (.elem (Term.static "WideStack$Instructions" "NEEDED_FROM_00" "[I") (.int 5)) (.int (2 : Int32))) (by decide +kernel))
  · exact e (6 : Int32) (2 : Int32) (hs (.eq (.elem (Term.static "WideStack$Instructions" "NEEDED_FROM_00" "[I") (.int 6)) (.int (2 : Int32))) (by decide +kernel))
  · exact e (7 : Int32) (2 : Int32) (hs (.eq (.elem (Term.static "WideStack$Instructions" "NEEDED_FROM_00" "[I") (.int 7)) (.int (2 : Int32))) (by decide +kernel))
  · exact e (8 : Int32) (3 : Int32) (hs (.eq (.elem (Term.static "WideStack$Instructions" "NEEDED_FROM_00" "[I") (.int 8)) (.int (3 : Int32))) (by decide +kernel))
  · exact e (9 : Int32) (3 : Int32) (hs (.eq (.elem (Term.static "WideStack$Instructions" "NEEDED_FROM_00" "[I") (.int 9)) (.int (3 : Int32))) (by decide +kernel))
  · exact e (10 : Int32) (-1 : Int32) (hs (.eq (.elem (Term.static "WideStack$Instructions" "NEEDED_FROM_00" "[I") (.int 10)) (.int (-1 : Int32))) (by decide +kernel))
  · exact e (11 : Int32) (2 : Int32) (hs (.eq (.elem (Term.static "WideStack$Instructions" "NEEDED_FROM_00" "[I") (.int 11)) (.int (2 : Int32))) (by decide +kernel))
  · exact e (12 : Int32) (-1 : Int32) (hs (.eq (.elem (Term.static "WideStack$Instructions" "NEEDED_FROM_00" "[I") (.int 12)) (.int (-1 : Int32))) (by decide +kernel))
  · exact e (13 : Int32) (-1 : Int32) (hs (.eq (.elem (Term.static "WideStack$Instructions" "NEEDED_FROM_00" "[I") (.int 13)) (.int (-1 : Int32))) (by decide +kernel))
  · exact e (14 : Int32) (-1 : Int32) (hs (.eq (.elem (Term.static "WideStack$Instructions" "NEEDED_FROM_00" "[I") (.int 14)) (.int (-1 : Int32))) (by decide +kernel))
  · exact e (15 : Int32) (-1 : Int32) (hs (.eq (.elem (Term.static "WideStack$Instructions" "NEEDED_FROM_00" "[I") (.int 15)) (.int (-1 : Int32))) (by decide +kernel))
  · exact e (16 : Int32) (2 : Int32) (hs (.eq (.elem (Term.static "WideStack$Instructions" "NEEDED_FROM_00" "[I") (.int 16)) (.int (2 : Int32))) (by decide +kernel))
  · exact e (17 : Int32) (2 : Int32) (hs (.eq (.elem (Term.static "WideStack$Instructions" "NEEDED_FROM_00" "[I") (.int 17)) (.int (2 : Int32))) (by decide +kernel))
  · exact e (18 : Int32) (2 : Int32) (hs (.eq (.elem (Term.static "WideStack$Instructions" "NEEDED_FROM_00" "[I") (.int 18)) (.int (2 : Int32))) (by decide +kernel))
  · exact e (19 : Int32) (2 : Int32) (hs (.eq (.elem (Term.static "WideStack$Instructions" "NEEDED_FROM_00" "[I") (.int 19)) (.int (2 : Int32))) (by decide +kernel))
  · exact e (20 : Int32) (2 : Int32) (hs (.eq (.elem (Term.static "WideStack$Instructions" "NEEDED_FROM_00" "[I") (.int 20)) (.int (2 : Int32))) (by decide +kernel))
  · exact e (21 : Int32) (1 : Int32) (hs (.eq (.elem (Term.static "WideStack$Instructions" "NEEDED_FROM_00" "[I") (.int 21)) (.int (1 : Int32))) (by decide +kernel))
  · exact e (22 : Int32) (2 : Int32) (hs (.eq (.elem (Term.static "WideStack$Instructions" "NEEDED_FROM_00" "[I") (.int 22)) (.int (2 : Int32))) (by decide +kernel))
  · exact e (23 : Int32) (2 : Int32) (hs (.eq (.elem (Term.static "WideStack$Instructions" "NEEDED_FROM_00" "[I") (.int 23)) (.int (2 : Int32))) (by decide +kernel))
  · exact e (24 : Int32) (2 : Int32) (hs (.eq (.elem (Term.static "WideStack$Instructions" "NEEDED_FROM_00" "[I") (.int 24)) (.int (2 : Int32))) (by decide +kernel))
  · exact e (25 : Int32) (1 : Int32) (hs (.eq (.elem (Term.static "WideStack$Instructions" "NEEDED_FROM_00" "[I") (.int 25)) (.int (1 : Int32))) (by decide +kernel))
  · exact e (26 : Int32) (2 : Int32) (hs (.eq (.elem (Term.static "WideStack$Instructions" "NEEDED_FROM_00" "[I") (.int 26)) (.int (2 : Int32))) (by decide +kernel))
  · exact e (27 : Int32) (2 : Int32) (hs (.eq (.elem (Term.static "WideStack$Instructions" "NEEDED_FROM_00" "[I") (.int 27)) (.int (2 : Int32))) (by decide +kernel))
  · exact e (28 : Int32) (2 : Int32) (hs (.eq (.elem (Term.static "WideStack$Instructions" "NEEDED_FROM_00" "[I") (.int 28)) (.int (2 : Int32))) (by decide +kernel))
  · exact e (29 : Int32) (2 : Int32) (hs (.eq (.elem (Term.static "WideStack$Instructions" "NEEDED_FROM_00" "[I") (.int 29)) (.int (2 : Int32))) (by decide +kernel))
  · exact e (30 : Int32) (-1 : Int32) (hs (.eq (.elem (Term.static "WideStack$Instructions" "NEEDED_FROM_00" "[I") (.int 30)) (.int (-1 : Int32))) (by decide +kernel))
  · exact e (31 : Int32) (-1 : Int32) (hs (.eq (.elem (Term.static "WideStack$Instructions" "NEEDED_FROM_00" "[I") (.int 31)) (.int (-1 : Int32))) (by decide +kernel))
theorem tabB {b : Nat} {s : State} (hgv : (Jvm.Cond.and given_1 narrow_1).before #[Value.ref b] s = true) : ∃ t : Nat, (Term.static "WideStack$Instructions" "NEEDED_FROM_50" "[I").eval #[Value.ref b] s none [] s = some (.ref t) ∧ va_T .int t 16 (fun j => .int (kTB j)) (fun q => s.heap.size ≤ q) s s.heap := by
  have hs := flat_of_before _ hgv
  have e : ∀ (j v : Int32), (Cond.eq (.elem (Term.static "WideStack$Instructions" "NEEDED_FROM_50" "[I") (.int j)) (.int v)).before #[Value.ref b] s = true → (Term.elem (Term.static "WideStack$Instructions" "NEEDED_FROM_50" "[I") (.int j)).eval #[Value.ref b] s none [] s = some (.int v) := fun j v h => Cond.eq_int h rfl
  refine va_Tof (by decide) (hs (.arrayOf (Term.static "WideStack$Instructions" "NEEDED_FROM_50" "[I") .int) (by decide +kernel)) (Cond.eq_int (hs (.eq (.length (Term.static "WideStack$Instructions" "NEEDED_FROM_50" "[I")) (.int 16)) (by decide +kernel)) rfl) (fun j hj => ?_) (fun a ha q => absurd ha (Nat.not_lt.mpr q))
  rcases (by omega : j = 0 ∨ j = 1 ∨ j = 2 ∨ j = 3 ∨ j = 4 ∨ j = 5 ∨ j = 6 ∨ j = 7 ∨ j = 8 ∨ j = 9 ∨ j = 10 ∨ j = 11 ∨ j = 12 ∨ j = 13 ∨ j = 14 ∨ j = 15) with rfl | rfl | rfl | rfl | rfl | rfl | rfl | rfl | rfl | rfl | rfl | rfl | rfl | rfl | rfl | rfl
  · exact e (0 : Int32) (1 : Int32) (hs (.eq (.elem (Term.static "WideStack$Instructions" "NEEDED_FROM_50" "[I") (.int 0)) (.int (1 : Int32))) (by decide +kernel))
  · exact e (1 : Int32) (1 : Int32) (hs (.eq (.elem (Term.static "WideStack$Instructions" "NEEDED_FROM_50" "[I") (.int 1)) (.int (1 : Int32))) (by decide +kernel))
  · exact e (2 : Int32) (2 : Int32) (hs (.eq (.elem (Term.static "WideStack$Instructions" "NEEDED_FROM_50" "[I") (.int 2)) (.int (2 : Int32))) (by decide +kernel))
  · exact e (3 : Int32) (2 : Int32) (hs (.eq (.elem (Term.static "WideStack$Instructions" "NEEDED_FROM_50" "[I") (.int 3)) (.int (2 : Int32))) (by decide +kernel))
  · exact e (4 : Int32) (-1 : Int32) (hs (.eq (.elem (Term.static "WideStack$Instructions" "NEEDED_FROM_50" "[I") (.int 4)) (.int (-1 : Int32))) (by decide +kernel))
  · exact e (5 : Int32) (-1 : Int32) (hs (.eq (.elem (Term.static "WideStack$Instructions" "NEEDED_FROM_50" "[I") (.int 5)) (.int (-1 : Int32))) (by decide +kernel))
  · exact e (6 : Int32) (1 : Int32) (hs (.eq (.elem (Term.static "WideStack$Instructions" "NEEDED_FROM_50" "[I") (.int 6)) (.int (1 : Int32))) (by decide +kernel))
  · exact e (7 : Int32) (2 : Int32) (hs (.eq (.elem (Term.static "WideStack$Instructions" "NEEDED_FROM_50" "[I") (.int 7)) (.int (2 : Int32))) (by decide +kernel))
  · exact e (8 : Int32) (0 : Int32) (hs (.eq (.elem (Term.static "WideStack$Instructions" "NEEDED_FROM_50" "[I") (.int 8)) (.int (0 : Int32))) (by decide +kernel))
  · exact e (9 : Int32) (0 : Int32) (hs (.eq (.elem (Term.static "WideStack$Instructions" "NEEDED_FROM_50" "[I") (.int 9)) (.int (0 : Int32))) (by decide +kernel))
  · exact e (10 : Int32) (0 : Int32) (hs (.eq (.elem (Term.static "WideStack$Instructions" "NEEDED_FROM_50" "[I") (.int 10)) (.int (0 : Int32))) (by decide +kernel))
  · exact e (11 : Int32) (0 : Int32) (hs (.eq (.elem (Term.static "WideStack$Instructions" "NEEDED_FROM_50" "[I") (.int 11)) (.int (0 : Int32))) (by decide +kernel))
  · exact e (12 : Int32) (-1 : Int32) (hs (.eq (.elem (Term.static "WideStack$Instructions" "NEEDED_FROM_50" "[I") (.int 12)) (.int (-1 : Int32))) (by decide +kernel))
  · exact e (13 : Int32) (-1 : Int32) (hs (.eq (.elem (Term.static "WideStack$Instructions" "NEEDED_FROM_50" "[I") (.int 13)) (.int (-1 : Int32))) (by decide +kernel))
  · exact e (14 : Int32) (-1 : Int32) (hs (.eq (.elem (Term.static "WideStack$Instructions" "NEEDED_FROM_50" "[I") (.int 14)) (.int (-1 : Int32))) (by decide +kernel))
  · exact e (15 : Int32) (-1 : Int32) (hs (.eq (.elem (Term.static "WideStack$Instructions" "NEEDED_FROM_50" "[I") (.int 15)) (.int (-1 : Int32))) (by decide +kernel))
set_option maxHeartbeats 4000000 in
theorem E_start {b : Nat} {s : State} (hts0 : ∀ w ∈ lw_tbl, w.before #[Value.ref b] s = true) (hgv : (Jvm.Cond.and given_1 narrow_1).before #[Value.ref b] s = true) : ∃ E : kE, va_K E.1 vwCl (kY E) s ∧ kG E (fun q => s.heap.size ≤ q) s := by
  have hts : ∀ w ∈ kT, w.before #[Value.ref b] s = true := fun w hw => hts0 w (kT_in hw)
  obtain ⟨c0, i0, h0⟩ := u_known hts in_Pr (hts _ t_85)
  obtain ⟨c1, i1, h1⟩ := u_known hts in_St (hts _ t_118)
  obtain ⟨c2, i2, h2⟩ := u_known hts in_So (hts _ t_136)
  obtain ⟨c3, i3, h3⟩ := u_known hts in_Di (hts _ t_155)
  obtain ⟨c4, i4, h4⟩ := u_known hts in_Ca (hts _ t_149)
  obtain ⟨c5, i5, h5⟩ := u_known hts in_Ru (hts _ t_112)
  obtain ⟨c6, i6, h6⟩ := u_known hts in_An (hts _ t_227)
  obtain ⟨c7, i7, h7⟩ := u_known hts in_X (hts _ t_77)
  obtain ⟨c8, i8, h8⟩ := u_known hts in_M (hts _ t_742)
  obtain ⟨a0, k0, p0, a1, a2, a3⟩ := Cond.arrayClass_spec (hts _ t_109)
  obtain ⟨b0, k1, p1, b1, b2, b3⟩ := Cond.arrayClass_spec (hts _ t_110)
  obtain ⟨p2, d0, k2, d1, d3, d4, d5⟩ := Cond.arrayOver_specA (hts0 _ h_tO)
  obtain ⟨tA, eA, fA⟩ := tabA hgv
  obtain ⟨tB, eB, fB⟩ := tabB hgv
  refine ⟨(((fun i => match i with | 0 => c0 | 1 => c1 | 2 => c2 | 3 => c3 | 4 => c4 | 5 => c5 | 6 => c6 | 7 => c7 | _ => c8), (fun i => match i with | 0 => i0 | 1 => i1 | 2 => i2 | 3 => i3 | 4 => i4 | 5 => i5 | 6 => i6 | 7 => i7 | _ => i8)), (fun i => match i with | 0 => a0 | 1 => b0 | _ => d0), (fun i => match i with | 0 => tA | _ => tB)), ⟨fun c q h => ?_, fun k q h => ?_⟩, ⟨va_Zof (hts0 _ h_tA) (hts0 _ h_tI) eA (fun a ha q => absurd ha (Nat.not_lt.mpr q)), fA⟩, ⟨va_Zof (hts0 _ h_tB) (hts0 _ h_tI) eB (fun a ha q => absurd ha (Nat.not_lt.mpr q)), fB⟩, fun w hw => ?_, hts0 _ h_tO⟩
  · match c, h with
    | 0, h => cases h; exact h0
    | 1, h => cases h; exact h1
    | 2, h => cases h; exact h2
    | 3, h => cases h; exact h3
    | 4, h => cases h; exact h4
    | 5, h => cases h; exact h5
    | 6, h => cases h; exact h6
    | 7, h => cases h; exact h7
    | 8, h => cases h; exact h8
    | c + 9, h => exact absurd h (by simp)
  · match k, h with
    | 0, h => cases h; exact ⟨fun N z => ⟨(fun q hq => by cases hq), k0, a2, p0, a3⟩, a1⟩
    | 1, h => cases h; exact ⟨fun N z => ⟨(fun q hq => by cases hq), k1, b2, p1, b3⟩, b1⟩
    | 2, h => cases h; exact ⟨fun N z => ⟨(fun q hq => by cases hq), k2, d3, p2, d4⟩, d5⟩
    | k + 3, h => exact absurd h (by simp)
  · simp only [kNest, List.mem_cons, List.not_mem_nil, or_false] at hw
    rcases hw with rfl | rfl | rfl | rfl | rfl | rfl
    · exact va_Nw.of rfl (hts0 _ h_n0)
    · exact va_Nw.of rfl (hts0 _ h_n1)
    · exact va_Nw.of rfl (hts0 _ h_n2)
    · exact va_Nw.of rfl (hts0 _ h_n3)
    · exact va_Nw.of rfl (hts0 _ h_n4)
    · exact va_Nw.of rfl (hts0 _ h_n5)

