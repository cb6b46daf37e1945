/-! calls that get the whole rest of the world -/
section KF
variable {p : Program} {l : Launch} {e : Env} {R : Room} {s : State} {m : MethodId} {args : Array Value} {below : List Frame} {meth : Method} {c : Code} {H : Heap} {locs : List Loc} {cells slots : Nat} {Q : State → Prop}
variable {cc bytes : ByteArray} {pc nL maxL n index : Nat} {ls : Array Slot} {rest st0 : List Value} {E : kE} {A : Nat → Prop} {Z T : va_W} {As : List Value} {Ts wy : List Cond} {own : String} {y : MethodName} {rm : Room} {ret : Option FieldType}
theorem k_foT {X X' : va_W} {ra : Nat → Nat} {M M' : Nat → Nat → Int32} (h : X'.map Prod.fst = X.map Prod.fst) : (X' ++ k_rows E ra M').map Prod.fst = (X ++ k_rows E ra M).map Prod.fst := by
  rw [List.map_append, List.map_append, h, k_rows_fst (M := M)]
theorem k_preVF {b ci r0 : Nat} {C : String} {T0 : u_T} {N : Nat} {fs As : List Value} (hK : va_K E.1 vwCl (kY E) s) (hG : kG E A s) (hA : ∀ q : Nat, s.heap.size ≤ q → A q) (hP : va_P E.1 vwCl (Z ++ T) H) (hD : va_D A (Z ++ T)) (hS : va_S A s.heap H locs) (he : T[r0]? = some (b, .inr (ci, fs))) (hc : vwCl[ci]? = some (C, T0, N)) : PreV s H C b (va_Pc (.ref b :: As) (kIn E T H.size)) As := by
  obtain ⟨h1, h2⟩ := k_preST (X := Z) (Y := []) (T := T) (isC := []) (av := .ref b :: As) hK hG hA hP hD hS rfl rfl
  exact ⟨h1, va_recv hK hP hc (q0 := Z.length + r0) (by rw [List.getElem?_append_right (by omega), Nat.add_sub_cancel_left]; exact he), h2⟩
theorem k_VpF {b ci : Nat} {C : String} {T0 : u_T} {N : Nat} {fs : List Value} {post : Int32 → Prop} (X0 : CallFix p m c cc nL s args Ts own) (hM : Kp l y wy rm E (.ref b :: As) T post) (cw : CallW R s args own C index y bytes maxL ret wy rm 0 0 n) (hK : va_K E.1 vwCl (kY E) s) (hG : kG E A s) (hA : ∀ q : Nat, s.heap.size ≤ q → A q) (hP : va_P E.1 vwCl (Z ++ T) H) (hD : va_D A (Z ++ T)) (hS : va_S A s.heap H locs) (r0 : Nat) (he : T[r0]? = some (b, .inr (ci, fs))) (hc : vwCl[ci]? = some (C, T0, N)) (hlen : As.length = n) (hsz : ls.size = nL) (hst : st0 = As.reverse ++ .ref b :: rest) (hW : (rest.map fun v => v.category).sum ≤ 8) (hdg : decode cc pc = .ok (.invokevirtual index, 3)) (hcs : cells ≤ R.cells ∧ slots ≤ R.slots)
    (kk : ∀ r : Int32, post r → W p l e R s m args below meth c H locs cells slots Q (F0 m (pc + 3) ls (.int r :: rest))) : W p l e R s m args below meth c H locs cells slots Q (F0 m pc ls st0) :=
  k_rp (va_runV (g := F0 m pc ls st0) (As := As) (rest := rest) X0 (hM H.size) cw (k_preVF (r0 := r0) (ci := ci) hK hG hA hP hD hS he hc) rfl hlen hsz hst (lv_room hW) hdg hcs) kk
theorem k_VvF {b ci : Nat} {C : String} {T0 : u_T} {N : Nat} {fs : List Value} {S : Type} {post : S → Prop} {T' : S → va_W} (X0 : CallFix p m c cc nL s args Ts own) (hM : Kv l y wy rm E (.ref b :: As) T post T') (cw : CallW R s args own C index y bytes maxL ret wy rm 0 0 n) (hK : va_K E.1 vwCl (kY E) s) (hG : kG E A s) (hA : ∀ q : Nat, s.heap.size ≤ q → A q) (hP : va_P E.1 vwCl (Z ++ T) H) (hD : va_D A (Z ++ T)) (hS : va_S A s.heap H locs) (r0 : Nat) (he : T[r0]? = some (b, .inr (ci, fs))) (hc : vwCl[ci]? = some (C, T0, N)) (ho : ∀ u, (T' u).map Prod.fst = T.map Prod.fst) (hlen : As.length = n) (hsz : ls.size = nL) (hst : st0 = As.reverse ++ .ref b :: rest) (hW : (rest.map fun v => v.category).sum ≤ 8) (hdg : decode cc pc = .ok (.invokevirtual index, 3)) (hcs : cells ≤ R.cells ∧ slots ≤ R.slots)
    (kk : ∀ (u : S) (H1 : Heap) (locs1 : List Loc), post u → va_P E.1 vwCl (Z ++ T' u) H1 → va_D A (Z ++ T' u) → va_S A s.heap H1 locs1 → W p l e R s m args below meth c H1 locs1 cells slots Q (F0 m (pc + 3) ls (rest))) : W p l e R s m args below meth c H locs cells slots Q (F0 m pc ls st0) :=
  k_rvT (X := Z) (Y := []) (T := T) (Y' := fun _ => []) (T' := T') (isC := []) (va_runV (g := F0 m pc ls st0) (As := As) (rest := rest) X0 (hM H.size) cw (k_preVF (r0 := r0) (ci := ci) hK hG hA hP hD hS he hc) rfl hlen hsz hst (lv_room hW) hdg hcs) hA hP hD hS rfl (fun _ => rfl) ho kk
theorem k_ViF {b ci : Nat} {C : String} {T0 : u_T} {N : Nat} {fs : List Value} {S : Type} {post : Int32 → S → Prop} {T' : S → va_W} (X0 : CallFix p m c cc nL s args Ts own) (hM : Ki l y wy rm E (.ref b :: As) T post T') (cw : CallW R s args own C index y bytes maxL ret wy rm 0 0 n) (hK : va_K E.1 vwCl (kY E) s) (hG : kG E A s) (hA : ∀ q : Nat, s.heap.size ≤ q → A q) (hP : va_P E.1 vwCl (Z ++ T) H) (hD : va_D A (Z ++ T)) (hS : va_S A s.heap H locs) (r0 : Nat) (he : T[r0]? = some (b, .inr (ci, fs))) (hc : vwCl[ci]? = some (C, T0, N)) (ho : ∀ u, (T' u).map Prod.fst = T.map Prod.fst) (hlen : As.length = n) (hsz : ls.size = nL) (hst : st0 = As.reverse ++ .ref b :: rest) (hW : (rest.map fun v => v.category).sum ≤ 8) (hdg : decode cc pc = .ok (.invokevirtual index, 3)) (hcs : cells ≤ R.cells ∧ slots ≤ R.slots)
    (kk : ∀ (r : Int32) (u : S) (H1 : Heap) (locs1 : List Loc), post r u → va_P E.1 vwCl (Z ++ T' u) H1 → va_D A (Z ++ T' u) → va_S A s.heap H1 locs1 → W p l e R s m args below meth c H1 locs1 cells slots Q (F0 m (pc + 3) ls (.int r :: rest))) : W p l e R s m args below meth c H locs cells slots Q (F0 m pc ls st0) :=
  k_riT (X := Z) (Y := []) (T := T) (Y' := fun _ => []) (T' := T') (isC := []) (va_runV (g := F0 m pc ls st0) (As := As) (rest := rest) X0 (hM H.size) cw (k_preVF (r0 := r0) (ci := ci) hK hG hA hP hD hS he hc) rfl hlen hsz hst (lv_room hW) hdg hcs) hA hP hD hS rfl (fun _ => rfl) ho kk
end KF
/-! a step: the class's cells beside the model's state -/
def okM (S : mS) : Prop := S.1 ≤ 8 ∧ S.2.1 ≤ 9999 ∧ S.2.2.1 ≤ 200 ∧ S.2.2.2.1 ≤ 160 ∧ S.2.2.2.1 % 32 = 0 ∧ S.2.2.2.2.1 ≤ 16 ∧ (0 < S.2.2.2.2.2.2.1 → S.2.2.2.2.2.1 + S.2.2.2.2.2.2.1 ≤ 160) ∧ (∀ j, S.2.2.2.2.2.2.2.2 j < 256) ∧ (S.1 ≠ 2 → S.2.2.2.2.2.2.1 = 0)
def t11 (fx f x y : Nat → Int32) (T : Nat → Nat → Int32) : Nat → Nat → Int32
  | 7 => fx
  | 8 => f
  | 9 => x
  | 10 => y
  | k => T k
theorem top_of {M : Nat → Nat → Int32} {stk : Nat → Nat} {cnt t X : Nat} (hc : cnt ≤ 16) (hs : ∀ i, i < 16 → kR M i = stk i) (h : X = if t < cnt then wv (M (cnt - 1 - t)) 8 else 0) : X = m_top stk cnt t := by
  unfold m_top
  rw [h]
  by_cases e : t < cnt
  · rw [if_pos e, if_pos e, ← hs _ (by omega)]; rfl
  · rw [if_neg e, if_neg e]
section MG
variable {len en gas ctr siz hgt frm ret A B C : Nat} {b stk mem : Nat → Nat}
theorem mg_fault (hA : A = m_top stk hgt 0) (hB : B = m_top stk hgt 1) (h : m_fault len b (b ctr) gas siz hgt A B ≠ 0) : m_go len b (en, gas, ctr, siz, hgt, frm, ret, stk, mem) = (m_fault len b (b ctr) gas siz hgt A B, (if m_fault len b (b ctr) gas siz hgt A B = 4 then 0 else gas), ctr, siz, hgt, frm, ret, stk, mem) := by
  subst hA hB
  show (if _ then _ else _) = _
  rw [if_pos h]
theorem mg_stop (hA : A = m_top stk hgt 0) (hB : B = m_top stk hgt 1) (h : m_fault len b (b ctr) gas siz hgt A B = 0) (h0 : b ctr = 0) : m_go len b (en, gas, ctr, siz, hgt, frm, ret, stk, mem) = (1, gas - m_price (b ctr) siz (m_used (b ctr) A B), ctr, m_grown siz (m_used (b ctr) A B), hgt, frm, ret, stk, mem) := by
  subst hA hB
  show (if _ then _ else _) = _
  rw [if_neg (fun q => q h), if_pos h0]
theorem mg_ret (hA : A = m_top stk hgt 0) (hB : B = m_top stk hgt 1) (h : m_fault len b (b ctr) gas siz hgt A B = 0) (h0 : b ctr = 243) : m_go len b (en, gas, ctr, siz, hgt, frm, ret, stk, mem) = (2, gas - m_price (b ctr) siz (m_used (b ctr) A B), ctr, m_grown siz (m_used (b ctr) A B), hgt - 2, A, B, stk, mem) := by
  subst hA hB
  show (if _ then _ else _) = _
  rw [if_neg (fun q => q h), if_neg (by rw [h0]; decide), if_pos h0]
theorem mg_do (hA : A = m_top stk hgt 0) (hB : B = m_top stk hgt 1) (hC : C = m_top stk hgt 2) (h : m_fault len b (b ctr) gas siz hgt A B = 0) (h0 : ¬ (b ctr = 0 ∨ b ctr = 243)) : m_go len b (en, gas, ctr, siz, hgt, frm, ret, stk, mem) = (0, gas - m_price (b ctr) siz (m_used (b ctr) A B), (m_do b (b ctr) (gas - m_price (b ctr) siz (m_used (b ctr) A B)) ctr (m_grown siz (m_used (b ctr) A B)) hgt A B C stk mem).1, m_grown siz (m_used (b ctr) A B), (m_do b (b ctr) (gas - m_price (b ctr) siz (m_used (b ctr) A B)) ctr (m_grown siz (m_used (b ctr) A B)) hgt A B C stk mem).2.1, frm, ret, (m_do b (b ctr) (gas - m_price (b ctr) siz (m_used (b ctr) A B)) ctr (m_grown siz (m_used (b ctr) A B)) hgt A B C stk mem).2.2.1, (m_do b (b ctr) (gas - m_price (b ctr) siz (m_used (b ctr) A B)) ctr (m_grown siz (m_used (b ctr) A B)) hgt A B C stk mem).2.2.2) := by
  subst hA hB hC
  show (if _ then _ else _) = _
  rw [if_neg (fun q => q h), if_neg (fun q => h0 (Or.inl q)), if_neg (fun q => h0 (Or.inr q))]
end MG
theorem m_byte_lt2 (k B : Nat) : m_byte k B < 256 := by
  unfold m_byte
  by_cases h : 31 < k
  · rw [if_pos h]; decide
  · rw [if_neg h]; exact Nat.mod_lt _ (by decide)
theorem m_mem_lt {o A B : Nat} {mem : Nat → Nat} (h : ∀ j, mem j < 256) (j : Nat) : m_mem o A B mem j < 256 := by
  unfold m_mem
  by_cases h1 : o = 83 ∧ j = A
  · rw [if_pos h1]; exact Nat.mod_lt _ (by decide)
  rw [if_neg h1]
  by_cases h2 : o = 82 ∧ A ≤ j ∧ j < A + 32
  · rw [if_pos h2]; exact m_byte_lt2 _ _
  · rw [if_neg h2]; exact h j
theorem md_mem_lt {b : Nat → Nat} {o gas ctr siz hgt A B C : Nat} {stk mem : Nat → Nat} (h : ∀ j, mem j < 256) (j : Nat) : (m_do b o gas ctr siz hgt A B C stk mem).2.2.2 j < 256 := by
  by_cases h1 : 144 ≤ o
  · rw [md_hi h1]; exact h j
  by_cases h2 : 128 ≤ o
  · rw [md_rep h1 h2]; exact h j
  · rw [md_lo h2]; exact m_mem_lt h j
theorem md_hgt {b : Nat → Nat} {o gas ctr siz hgt A B C : Nat} {stk mem : Nat → Nat} (ho : o < 256) (hk : m_known o = true) (h3 : o ≠ 243) (h4 : m_takes o ≤ hgt) (h5 : hgt - m_takes o + m_gives o ≤ 16) : (m_do b o gas ctr siz hgt A B C stk mem).2.1 ≤ 16 := by
  by_cases h1 : 144 ≤ o
  · rw [md_hi h1]
    have := k_exch o ho hk h1 h3
    show hgt ≤ 16
    omega
  by_cases h2 : 128 ≤ o
  · rw [md_rep h1 h2]
    have := k_rep o ho h2 (by omega)
    show hgt + 1 ≤ 16
    omega
  · rw [md_lo h2]; exact h5
theorem md_ctr {len : Nat} {b : Nat → Nat} {o gas ctr siz hgt A B C : Nat} {stk mem : Nat → Nat} (hl : len ≤ 96) (hc : ctr < len) (hj : m_jumps o B = true → m_marked len b A = true) : (m_do b o gas ctr siz hgt A B C stk mem).1 ≤ 200 := by
  have hn := m_numl_le o
  by_cases h1 : 144 ≤ o
  · rw [md_hi h1]; show ctr + 1 + m_numl o ≤ 200; omega
  by_cases h2 : 128 ≤ o
  · rw [md_rep h1 h2]; show ctr + 1 + m_numl o ≤ 200; omega
  · rw [md_lo h2]
    show (if m_jumps o B then A else ctr + 1 + m_numl o) ≤ 200
    by_cases h : m_jumps o B = true
    · rw [if_pos h]
      have := hj h
      unfold m_marked at this
      have h9 := of_decide_eq_true (Bool.and_eq_true_iff.mp (Bool.and_eq_true_iff.mp this).1).1
      omega
    · rw [if_neg h]; omega
theorem used_243 {A B : Nat} (h : m_used 243 A B ≤ 160) : 0 < B → A + B ≤ 160 := by
  intro hB
  revert h; unfold m_used
  rw [if_neg (by decide), if_neg (by decide), if_pos ⟨rfl, by omega⟩]
  exact id
theorem okM_go {len : Nat} {b : Nat → Nat} {S : mS} (hl : len ≤ 96) (h0 : ∀ j, len ≤ j → b j = 0) (h256 : ∀ j, b j < 256) (he : S.1 = 0) (h : okM S) : okM (m_go len b S) := by
  obtain ⟨en, gas, ctr, siz, hgt, frm, ret, stk, mem⟩ := S
  obtain ⟨h1, h2, h3, h4, h5, h6, h7, h8, h9⟩ := h
  replace h1 : en ≤ 8 := h1
  replace h2 : gas ≤ 9999 := h2
  replace h3 : ctr ≤ 200 := h3
  replace h4 : siz ≤ 160 := h4
  replace h5 : siz % 32 = 0 := h5
  replace h6 : hgt ≤ 16 := h6
  replace h8 : ∀ j, mem j < 256 := h8
  replace he : en = 0 := he
  have h9 : ret = 0 := h9 (by show en ≠ 2; omega)
  by_cases hf : m_fault len b (b ctr) gas siz hgt (m_top stk hgt 0) (m_top stk hgt 1) = 0
  · obtain ⟨k1, k2, k3, k4, k5, k6⟩ := ff_ok hf
    have g1 := m_grown_le h4 k4
    have g2 := m_grown_32 (u := m_used (b ctr) (m_top stk hgt 0) (m_top stk hgt 1)) h5
    by_cases e0 : b ctr = 0
    · rw [mg_stop rfl rfl hf e0]
      exact ⟨by show 1 ≤ 8; decide, by show gas - _ ≤ 9999; omega, h3, g1, g2, h6, by show 0 < ret → _; omega, h8, fun _ => h9⟩
    by_cases e1 : b ctr = 243
    · rw [mg_ret rfl rfl hf e1]
      rw [e1] at k4
      refine ⟨by show 2 ≤ 8; decide, by show gas - _ ≤ 9999; omega, h3, g1, g2, by show hgt - 2 ≤ 16; omega, used_243 k4, h8, fun q => absurd rfl q⟩
    · rw [mg_do rfl rfl rfl hf (by omega)]
      have hc : ctr < len := Nat.lt_of_not_le (fun q => e0 (h0 ctr q))
      refine ⟨by show 0 ≤ 8; decide, by show gas - _ ≤ 9999; omega, md_ctr hl hc k6, g1, g2, md_hgt (h256 _) k1 e1 k2 k3, by show 0 < ret → _; omega, fun j => md_mem_lt h8 j, fun _ => h9⟩
  · rw [mg_fault rfl rfl hf]
    have hle := ff_le (len := len) (b := b) (o := b ctr) (gas := gas) (siz := siz) (hgt := hgt) (A := m_top stk hgt 0) (B := m_top stk hgt 1)
    refine ⟨hle, ?_, h3, h4, h5, h6, by show 0 < ret → _; omega, h8, fun _ => h9⟩
    show (if _ then _ else _) ≤ 9999
    split <;> omega

theorem q161 {A B : Nat} (h : 0 < B → A + B ≤ 160) : B ≤ 161 := by omega
theorem q161a {A B : Nat} (h : 0 < B → A + B ≤ 160) (q : 0 < B) : A ≤ 161 := by omega
theorem marked_lt {len : Nat} {b : Nat → Nat} {A : Nat} (hl : len ≤ 96) (h : m_marked len b A = true) : A < 96 := by
  unfold m_marked at h
  have h9 := of_decide_eq_true (Bool.and_eq_true_iff.mp (Bool.and_eq_true_iff.mp h).1).1
  omega

abbrev y_Ru_step : MethodName := ⟨"WideStack$Run", "step", "(LWideStack$Program;)Z"⟩
theorem d_Ru_step_0 : decode prog_7_method_12_code 0 = .ok (.aload_n 0, 1) := by decide +kernel
theorem d_Ru_step_1 : decode prog_7_method_12_code 1 = .ok (.getfield 56, 3) := by decide +kernel
theorem d_Ru_step_4 : decode prog_7_method_12_code 4 = .ok (.ifCond .eq 5, 3) := by decide +kernel
theorem d_Ru_step_7 : decode prog_7_method_12_code 7 = .ok (.iconst 0, 1) := by decide +kernel
theorem d_Ru_step_8 : decode prog_7_method_12_code 8 = .ok (.ireturn, 1) := by decide +kernel
theorem d_Ru_step_9 : decode prog_7_method_12_code 9 = .ok (.aload_n 1, 1) := by decide +kernel
theorem d_Ru_step_10 : decode prog_7_method_12_code 10 = .ok (.aload_n 0, 1) := by decide +kernel
theorem d_Ru_step_11 : decode prog_7_method_12_code 11 = .ok (.getfield 53, 3) := by decide +kernel
theorem d_Ru_step_14 : decode prog_7_method_12_code 14 = .ok (.invokevirtual 98, 3) := by decide +kernel
theorem d_Ru_step_17 : decode prog_7_method_12_code 17 = .ok (.istore_n 2, 1) := by decide +kernel
theorem d_Ru_step_18 : decode prog_7_method_12_code 18 = .ok (.aload_n 0, 1) := by decide +kernel
theorem d_Ru_step_19 : decode prog_7_method_12_code 19 = .ok (.getfield 10, 3) := by decide +kernel
theorem d_Ru_step_22 : decode prog_7_method_12_code 22 = .ok (.iconst 0, 1) := by decide +kernel
theorem d_Ru_step_23 : decode prog_7_method_12_code 23 = .ok (.aload_n 0, 1) := by decide +kernel
theorem d_Ru_step_24 : decode prog_7_method_12_code 24 = .ok (.getfield 32, 3) := by decide +kernel
theorem d_Ru_step_27 : decode prog_7_method_12_code 27 = .ok (.invokevirtual 101, 3) := by decide +kernel
theorem d_Ru_step_30 : decode prog_7_method_12_code 30 = .ok (.aload_n 0, 1) := by decide +kernel
theorem d_Ru_step_31 : decode prog_7_method_12_code 31 = .ok (.getfield 10, 3) := by decide +kernel
theorem d_Ru_step_34 : decode prog_7_method_12_code 34 = .ok (.iconst 1, 1) := by decide +kernel
theorem d_Ru_step_35 : decode prog_7_method_12_code 35 = .ok (.aload_n 0, 1) := by decide +kernel
theorem d_Ru_step_36 : decode prog_7_method_12_code 36 = .ok (.getfield 36, 3) := by decide +kernel
theorem d_Ru_step_39 : decode prog_7_method_12_code 39 = .ok (.invokevirtual 101, 3) := by decide +kernel
theorem d_Ru_step_42 : decode prog_7_method_12_code 42 = .ok (.aload_n 0, 1) := by decide +kernel
theorem d_Ru_step_43 : decode prog_7_method_12_code 43 = .ok (.getfield 10, 3) := by decide +kernel
theorem d_Ru_step_46 : decode prog_7_method_12_code 46 = .ok (.iconst 2, 1) := by decide +kernel
theorem d_Ru_step_47 : decode prog_7_method_12_code 47 = .ok (.aload_n 0, 1) := by decide +kernel
theorem d_Ru_step_48 : decode prog_7_method_12_code 48 = .ok (.getfield 39, 3) := by decide +kernel
theorem d_Ru_step_51 : decode prog_7_method_12_code 51 = .ok (.invokevirtual 101, 3) := by decide +kernel
theorem d_Ru_step_54 : decode prog_7_method_12_code 54 = .ok (.aload_n 0, 1) := by decide +kernel
theorem d_Ru_step_55 : decode prog_7_method_12_code 55 = .ok (.aload_n 1, 1) := by decide +kernel
theorem d_Ru_step_56 : decode prog_7_method_12_code 56 = .ok (.iload_n 2, 1) := by decide +kernel
theorem d_Ru_step_57 : decode prog_7_method_12_code 57 = .ok (.invokevirtual 105, 3) := by decide +kernel
theorem d_Ru_step_60 : decode prog_7_method_12_code 60 = .ok (.istore_n 3, 1) := by decide +kernel
theorem d_Ru_step_61 : decode prog_7_method_12_code 61 = .ok (.iload_n 3, 1) := by decide +kernel
theorem d_Ru_step_62 : decode prog_7_method_12_code 62 = .ok (.ifCond .eq 10, 3) := by decide +kernel
theorem d_Ru_step_65 : decode prog_7_method_12_code 65 = .ok (.aload_n 0, 1) := by decide +kernel
theorem d_Ru_step_66 : decode prog_7_method_12_code 66 = .ok (.iload_n 3, 1) := by decide +kernel
theorem d_Ru_step_67 : decode prog_7_method_12_code 67 = .ok (.invokevirtual 109, 3) := by decide +kernel
theorem d_Ru_step_70 : decode prog_7_method_12_code 70 = .ok (.iconst 0, 1) := by decide +kernel
theorem d_Ru_step_71 : decode prog_7_method_12_code 71 = .ok (.ireturn, 1) := by decide +kernel
theorem d_Ru_step_72 : decode prog_7_method_12_code 72 = .ok (.aload_n 0, 1) := by decide +kernel
theorem d_Ru_step_73 : decode prog_7_method_12_code 73 = .ok (.iload_n 2, 1) := by decide +kernel
theorem d_Ru_step_74 : decode prog_7_method_12_code 74 = .ok (.invokevirtual 112, 3) := by decide +kernel
theorem d_Ru_step_77 : decode prog_7_method_12_code 77 = .ok (.iload_n 2, 1) := by decide +kernel
theorem d_Ru_step_78 : decode prog_7_method_12_code 78 = .ok (.invokestatic 115, 3) := by decide +kernel
theorem d_Ru_step_81 : decode prog_7_method_12_code 81 = .ok (.ifCond .eq 10, 3) := by decide +kernel
theorem d_Ru_step_84 : decode prog_7_method_12_code 84 = .ok (.aload_n 0, 1) := by decide +kernel
theorem d_Ru_step_85 : decode prog_7_method_12_code 85 = .ok (.iload_n 2, 1) := by decide +kernel
theorem d_Ru_step_86 : decode prog_7_method_12_code 86 = .ok (.invokevirtual 121, 3) := by decide +kernel
theorem d_Ru_step_89 : decode prog_7_method_12_code 89 = .ok (.iconst 0, 1) := by decide +kernel
theorem d_Ru_step_90 : decode prog_7_method_12_code 90 = .ok (.ireturn, 1) := by decide +kernel
theorem d_Ru_step_91 : decode prog_7_method_12_code 91 = .ok (.aload_n 0, 1) := by decide +kernel
theorem d_Ru_step_92 : decode prog_7_method_12_code 92 = .ok (.aload_n 1, 1) := by decide +kernel
theorem d_Ru_step_93 : decode prog_7_method_12_code 93 = .ok (.iload_n 2, 1) := by decide +kernel
theorem d_Ru_step_94 : decode prog_7_method_12_code 94 = .ok (.invokevirtual 124, 3) := by decide +kernel
theorem d_Ru_step_97 : decode prog_7_method_12_code 97 = .ok (.iconst 1, 1) := by decide +kernel
theorem d_Ru_step_98 : decode prog_7_method_12_code 98 = .ok (.ireturn, 1) := by decide +kernel
def rm_c_R_step : Room := { frames := 6, cells := 0, slots := 0, locals := 153 }
set_option maxHeartbeats 4000000 in
set_option maxRecDepth 100000 in
theorem c_R_step (l : Launch) (E : kE) (rn k o ca a b v t gas ctr en rf rc : Nat) (sb : Bool) (kw kx cnt : Nat) (ra : Nat → Nat) (fx : Nat → Int32) (M : Nat → Nat → Int32) (ob siz : Nat) (fm : Nat → Int32) (mem : Nat → Nat) (hm : ∀ j, j < 160 → fm j = nI (mem j) ∧ mem j < 256) (d dd dq dr cp c1 c2 : Nat) (fD fq fr fp f1 f2 : Nat → Int32) (f x y z : Nat → Int32) (q qb qg qf len : Nat) (lat nxt : Int32) (fb fg ff : Nat → Int32) (bb : Nat → Nat) (ok : okP len bb fb fg ff lat nxt) (frm : Nat) (stk : Nat → Nat) (hM : okM (en, gas, ctr, siz, cnt, frm, rc, stk, mem)) (hfr : 0 < rc → frm = rf) (hsk : ∀ i, i < 16 → kR M i = stk i) : Ki l y_Ru_step (kW y_Ru_step prog_7_method_12_code 4 (some .boolean)) rm_c_R_step E [.ref rn, .ref q] ([(rn, .inr (5, [.ref k, .ref o, .ref ca, .ref a, .ref b, .ref v, .ref t, .int (kb sb), .int (nI gas), .int (nI ctr), .int (nI en), .int (nI rf), .int (nI rc)])), (k, .inr (1, [.ref kw, .ref kx, .int (nI cnt)])), (kw, .inl (E.2.1 2, 16, .inr (.inr (.inr (.inr (fun i => if i < 16 then some (ra i) else none)))))), (kx, .inl (E.2.1 0, 8, .inl fx)), (o, .inr (2, [.ref ob, .int (nI siz)])), (ob, .inl (E.2.1 0, 160, .inl fm)), (ca, .inr (4, [.ref d, .ref cp, .ref c1, .ref c2])), (d, .inr (3, [.ref dd, .ref dq, .ref dr])), (dd, .inl (E.2.1 0, 16, .inl fD)), (dq, .inl (E.2.1 0, 16, .inl fq)), (dr, .inl (E.2.1 0, 8, .inl fr)), (cp, .inl (E.2.1 0, 16, .inl fp)), (c1, .inl (E.2.1 0, 8, .inl f1)), (c2, .inl (E.2.1 0, 8, .inl f2)), (a, .inl (E.2.1 0, 8, .inl f)), (b, .inl (E.2.1 0, 8, .inl x)), (v, .inl (E.2.1 0, 8, .inl y)), (t, .inl (E.2.1 0, 8, .inl z)), (q, .inr (0, [.ref qb, .ref qg, .ref qf, .int (nI len), .int lat, .int nxt])), (qb, .inl (E.2.1 0, 96, .inl fb)), (qg, .inl (E.2.1 1, 96, .inl fg)), (qf, .inl (E.2.1 0, 96, .inl ff))] ++ k_rows E ra M) (S := mS × Nat × (Nat → Nat → Int32) × (Nat → Int32) × (Nat → Nat → Int32)) (fun r u => u.1 = (if en = 0 then m_go len bb (en, gas, ctr, siz, cnt, frm, rc, stk, mem) else (en, gas, ctr, siz, cnt, frm, rc, stk, mem)) ∧ r = kb (decide (en = 0 ∧ u.1.1 = 0)) ∧ (0 < u.1.2.2.2.2.2.2.1 → u.1.2.2.2.2.2.1 = u.2.1) ∧ (∀ i, i < 16 → kR u.2.2.1 i = u.1.2.2.2.2.2.2.2.1 i) ∧ ∀ j, j < 160 → u.2.2.2.1 j = nI (u.1.2.2.2.2.2.2.2.2 j)) (fun u => ([(rn, .inr (5, [.ref k, .ref o, .ref ca, .ref a, .ref b, .ref v, .ref t, .int (kb sb), .int (nI u.1.2.1), .int (nI u.1.2.2.1), .int (nI u.1.1), .int (nI u.2.1), .int (nI u.1.2.2.2.2.2.2.1)])), (k, .inr (1, [.ref kw, .ref kx, .int (nI u.1.2.2.2.2.1)])), (kw, .inl (E.2.1 2, 16, .inr (.inr (.inr (.inr (fun i => if i < 16 then some (ra i) else none)))))), (kx, .inl (E.2.1 0, 8, .inl (u.2.2.2.2 7))), (o, .inr (2, [.ref ob, .int (nI u.1.2.2.2.1)])), (ob, .inl (E.2.1 0, 160, .inl u.2.2.2.1)), (ca, .inr (4, [.ref d, .ref cp, .ref c1, .ref c2])), (d, .inr (3, [.ref dd, .ref dq, .ref dr])), (dd, .inl (E.2.1 0, 16, .inl (u.2.2.2.2 0))), (dq, .inl (E.2.1 0, 16, .inl (u.2.2.2.2 1))), (dr, .inl (E.2.1 0, 8, .inl (u.2.2.2.2 2))), (cp, .inl (E.2.1 0, 16, .inl (u.2.2.2.2 3))), (c1, .inl (E.2.1 0, 8, .inl (u.2.2.2.2 4))), (c2, .inl (E.2.1 0, 8, .inl (u.2.2.2.2 5))), (a, .inl (E.2.1 0, 8, .inl (u.2.2.2.2 8))), (b, .inl (E.2.1 0, 8, .inl (u.2.2.2.2 9))), (v, .inl (E.2.1 0, 8, .inl (u.2.2.2.2 10))), (t, .inl (E.2.1 0, 8, .inl (u.2.2.2.2 6))), (q, .inr (0, [.ref qb, .ref qg, .ref qf, .int (nI len), .int lat, .int nxt])), (qb, .inl (E.2.1 0, 96, .inl fb)), (qg, .inl (E.2.1 1, 96, .inl fg)), (qf, .inl (E.2.1 0, 96, .inl ff))] ++ k_rows E ra u.2.2.1)) := by
  refine Ki.ofZ (cc := prog_7_method_12_code) (maxL := 4) (by decide) (Nat.le_of_ble_eq_true rfl) ?_
  intro p e s m args below meth c A ls Q hx hb hts hown hml hK hG hA hP hD hS hl hret
  have hl : lv_has ls 4 [(0, .ref rn), (1, .ref q)] := hl
  obtain ⟨o1, o2, o3, o4, o5, o6, o7, o8, o9⟩ := hM
  replace o1 : en ≤ 8 := o1
  replace o2 : gas ≤ 9999 := o2
  replace o3 : ctr ≤ 200 := o3
  replace o4 : siz ≤ 160 := o4
  replace o5 : siz % 32 = 0 := o5
  replace o6 : cnt ≤ 16 := o6
  have ho : bb ctr < 256 := ok.2.2.1 ctr
  have hlen := ok.1
  have hgas : gas < 100000 := by omega
  have hctr : ctr < 100000 := by omega
  have hctr2 : ctr < 1000000 := by omega
  refine lv_aload_n hx hb d_Ru_step_0 rfl (lv_at hl 0 rfl) ?_
  refine va_get (D := E.1) (ci := 5) (v := .int (nI en)) (C := "WideStack$Run") (T := T_Ru) (N := 13) hx hb hts in_Ru hown hK hP 0 rfl rfl 10 (by decide) (hts _ t_196) (fun _ h9 => h9) rfl d_Ru_step_1 ?_
  refine kn_ifeq (tgt := 9) hx hb (by omega) d_Ru_step_4 (by decide) (fun h4 => ?_) (fun h4 => ?_)
  · refine lv_aload_n hx hb d_Ru_step_9 rfl (lv_at hl 1 rfl) ?_
    refine lv_aload_n hx hb d_Ru_step_10 rfl (lv_at hl 0 rfl) ?_
    refine va_get (D := E.1) (ci := 5) (v := .int (nI ctr)) (C := "WideStack$Run") (T := T_Ru) (N := 13) hx hb hts in_Ru hown hK hP 0 rfl rfl 9 (by decide) (hts _ t_195) (fun _ h9 => h9) rfl d_Ru_step_11 ?_
    refine k_Vp (As := [.int (nI ctr)]) (rest := []) ⟨hx, hb, hml, hown, hts⟩ (c_P_byteAt l E q qb qg qf len lat nxt fb fg ff bb ok ctr hctr2) (k_cwV 1 hts t_331 t_332 t_333 t_63 t_334 (by decide +kernel) ⟨Nat.le_of_ble_eq_true rfl, Nat.le_of_ble_eq_true rfl⟩) hK hG hA hP hD hS [18, 19, 20, 21] rfl (by decide) 18 rfl rfl rfl hl.1 rfl (Nat.le_of_ble_eq_true rfl) d_Ru_step_14 ⟨Nat.zero_le _, Nat.zero_le _⟩ (fun r14 hu14 => ?_)
    subst hu14
    refine lv_istore_n (lv' := [(2, .int (nI (bb ctr))), (0, .ref rn), (1, .ref q)]) hx hb d_Ru_step_17 rfl hl (by decide) rfl (fun ls hl => ?_)
    refine lv_aload_n hx hb d_Ru_step_18 rfl (lv_at hl 1 rfl) ?_
    refine va_get (D := E.1) (ci := 5) (v := .ref k) (C := "WideStack$Run") (T := T_Ru) (N := 13) hx hb hts in_Ru hown hK hP 0 rfl rfl 0 (by decide) (hts _ t_186) (fun _ h9 => h9) rfl d_Ru_step_19 ?_
    refine lv_iconst (v := nI 0) hx hb d_Ru_step_22 (by decide) ?_
    refine lv_aload_n hx hb d_Ru_step_23 rfl (lv_at hl 1 rfl) ?_
    refine va_get (D := E.1) (ci := 5) (v := .ref a) (C := "WideStack$Run") (T := T_Ru) (N := 13) hx hb hts in_Ru hown hK hP 0 rfl rfl 3 (by decide) (hts _ t_189) (fun _ h9 => h9) rfl d_Ru_step_24 ?_
    refine k_VvT (As := [.int (nI 0), .ref a]) (rest := []) ⟨hx, hb, hml, hown, hts⟩ (c_St_look l E k kw kx cnt ra fx M 0 a f o6 (by decide)) (k_cwV 2 hts t_339 t_340 t_341 t_65 t_342 (by decide +kernel) ⟨Nat.le_of_ble_eq_true rfl, Nat.le_of_ble_eq_true rfl⟩) hK hG hA hP hD hS [1, 2, 3, 14] rfl (by decide) 1 rfl rfl (fun _ => rfl) rfl hl.1 rfl (Nat.le_of_ble_eq_true rfl) d_Ru_step_27 ⟨Nat.zero_le _, Nat.zero_le _⟩ (fun u0 H locs hu0 hP hD hS => ?_)
    have hP : va_P E.1 vwCl ([(rn, .inr (5, [.ref k, .ref o, .ref ca, .ref a, .ref b, .ref v, .ref t, .int (kb sb), .int (nI gas), .int (nI ctr), .int (nI en), .int (nI rf), .int (nI rc)])), (k, .inr (1, [.ref kw, .ref kx, .int (nI cnt)])), (kw, .inl (E.2.1 2, 16, .inr (.inr (.inr (.inr (fun i => if i < 16 then some (ra i) else none)))))), (kx, .inl (E.2.1 0, 8, .inl fx)), (o, .inr (2, [.ref ob, .int (nI siz)])), (ob, .inl (E.2.1 0, 160, .inl fm)), (ca, .inr (4, [.ref d, .ref cp, .ref c1, .ref c2])), (d, .inr (3, [.ref dd, .ref dq, .ref dr])), (dd, .inl (E.2.1 0, 16, .inl fD)), (dq, .inl (E.2.1 0, 16, .inl fq)), (dr, .inl (E.2.1 0, 8, .inl fr)), (cp, .inl (E.2.1 0, 16, .inl fp)), (c1, .inl (E.2.1 0, 8, .inl f1)), (c2, .inl (E.2.1 0, 8, .inl f2)), (a, .inl (E.2.1 0, 8, .inl u0)), (b, .inl (E.2.1 0, 8, .inl x)), (v, .inl (E.2.1 0, 8, .inl y)), (t, .inl (E.2.1 0, 8, .inl z)), (q, .inr (0, [.ref qb, .ref qg, .ref qf, .int (nI len), .int lat, .int nxt])), (qb, .inl (E.2.1 0, 96, .inl fb)), (qg, .inl (E.2.1 1, 96, .inl fg)), (qf, .inl (E.2.1 0, 96, .inl ff))] ++ k_rows E ra M) H := hP
    have hD : va_D A ([(rn, .inr (5, [.ref k, .ref o, .ref ca, .ref a, .ref b, .ref v, .ref t, .int (kb sb), .int (nI gas), .int (nI ctr), .int (nI en), .int (nI rf), .int (nI rc)])), (k, .inr (1, [.ref kw, .ref kx, .int (nI cnt)])), (kw, .inl (E.2.1 2, 16, .inr (.inr (.inr (.inr (fun i => if i < 16 then some (ra i) else none)))))), (kx, .inl (E.2.1 0, 8, .inl fx)), (o, .inr (2, [.ref ob, .int (nI siz)])), (ob, .inl (E.2.1 0, 160, .inl fm)), (ca, .inr (4, [.ref d, .ref cp, .ref c1, .ref c2])), (d, .inr (3, [.ref dd, .ref dq, .ref dr])), (dd, .inl (E.2.1 0, 16, .inl fD)), (dq, .inl (E.2.1 0, 16, .inl fq)), (dr, .inl (E.2.1 0, 8, .inl fr)), (cp, .inl (E.2.1 0, 16, .inl fp)), (c1, .inl (E.2.1 0, 8, .inl f1)), (c2, .inl (E.2.1 0, 8, .inl f2)), (a, .inl (E.2.1 0, 8, .inl u0)), (b, .inl (E.2.1 0, 8, .inl x)), (v, .inl (E.2.1 0, 8, .inl y)), (t, .inl (E.2.1 0, 8, .inl z)), (q, .inr (0, [.ref qb, .ref qg, .ref qf, .int (nI len), .int lat, .int nxt])), (qb, .inl (E.2.1 0, 96, .inl fb)), (qg, .inl (E.2.1 1, 96, .inl fg)), (qf, .inl (E.2.1 0, 96, .inl ff))] ++ k_rows E ra M) := hD
    have hT0 := top_of o6 hsk hu0
    refine lv_aload_n hx hb d_Ru_step_30 rfl (lv_at hl 1 rfl) ?_
    refine va_get (D := E.1) (ci := 5) (v := .ref k) (C := "WideStack$Run") (T := T_Ru) (N := 13) hx hb hts in_Ru hown hK hP 0 rfl rfl 0 (by decide) (hts _ t_186) (fun _ h9 => h9) rfl d_Ru_step_31 ?_
    refine lv_iconst (v := nI 1) hx hb d_Ru_step_34 (by decide) ?_
    refine lv_aload_n hx hb d_Ru_step_35 rfl (lv_at hl 1 rfl) ?_
    refine va_get (D := E.1) (ci := 5) (v := .ref b) (C := "WideStack$Run") (T := T_Ru) (N := 13) hx hb hts in_Ru hown hK hP 0 rfl rfl 4 (by decide) (hts _ t_190) (fun _ h9 => h9) rfl d_Ru_step_36 ?_
    refine k_VvT (As := [.int (nI 1), .ref b]) (rest := []) ⟨hx, hb, hml, hown, hts⟩ (c_St_look l E k kw kx cnt ra fx M 1 b x o6 (by decide)) (k_cwV 2 hts t_339 t_340 t_341 t_65 t_342 (by decide +kernel) ⟨Nat.le_of_ble_eq_true rfl, Nat.le_of_ble_eq_true rfl⟩) hK hG hA hP hD hS [1, 2, 3, 15] rfl (by decide) 1 rfl rfl (fun _ => rfl) rfl hl.1 rfl (Nat.le_of_ble_eq_true rfl) d_Ru_step_39 ⟨Nat.zero_le _, Nat.zero_le _⟩ (fun u1 H locs hu1 hP hD hS => ?_)
    have hP : va_P E.1 vwCl ([(rn, .inr (5, [.ref k, .ref o, .ref ca, .ref a, .ref b, .ref v, .ref t, .int (kb sb), .int (nI gas), .int (nI ctr), .int (nI en), .int (nI rf), .int (nI rc)])), (k, .inr (1, [.ref kw, .ref kx, .int (nI cnt)])), (kw, .inl (E.2.1 2, 16, .inr (.inr (.inr (.inr (fun i => if i < 16 then some (ra i) else none)))))), (kx, .inl (E.2.1 0, 8, .inl fx)), (o, .inr (2, [.ref ob, .int (nI siz)])), (ob, .inl (E.2.1 0, 160, .inl fm)), (ca, .inr (4, [.ref d, .ref cp, .ref c1, .ref c2])), (d, .inr (3, [.ref dd, .ref dq, .ref dr])), (dd, .inl (E.2.1 0, 16, .inl fD)), (dq, .inl (E.2.1 0, 16, .inl fq)), (dr, .inl (E.2.1 0, 8, .inl fr)), (cp, .inl (E.2.1 0, 16, .inl fp)), (c1, .inl (E.2.1 0, 8, .inl f1)), (c2, .inl (E.2.1 0, 8, .inl f2)), (a, .inl (E.2.1 0, 8, .inl u0)), (b, .inl (E.2.1 0, 8, .inl u1)), (v, .inl (E.2.1 0, 8, .inl y)), (t, .inl (E.2.1 0, 8, .inl z)), (q, .inr (0, [.ref qb, .ref qg, .ref qf, .int (nI len), .int lat, .int nxt])), (qb, .inl (E.2.1 0, 96, .inl fb)), (qg, .inl (E.2.1 1, 96, .inl fg)), (qf, .inl (E.2.1 0, 96, .inl ff))] ++ k_rows E ra M) H := hP
    have hD : va_D A ([(rn, .inr (5, [.ref k, .ref o, .ref ca, .ref a, .ref b, .ref v, .ref t, .int (kb sb), .int (nI gas), .int (nI ctr), .int (nI en), .int (nI rf), .int (nI rc)])), (k, .inr (1, [.ref kw, .ref kx, .int (nI cnt)])), (kw, .inl (E.2.1 2, 16, .inr (.inr (.inr (.inr (fun i => if i < 16 then some (ra i) else none)))))), (kx, .inl (E.2.1 0, 8, .inl fx)), (o, .inr (2, [.ref ob, .int (nI siz)])), (ob, .inl (E.2.1 0, 160, .inl fm)), (ca, .inr (4, [.ref d, .ref cp, .ref c1, .ref c2])), (d, .inr (3, [.ref dd, .ref dq, .ref dr])), (dd, .inl (E.2.1 0, 16, .inl fD)), (dq, .inl (E.2.1 0, 16, .inl fq)), (dr, .inl (E.2.1 0, 8, .inl fr)), (cp, .inl (E.2.1 0, 16, .inl fp)), (c1, .inl (E.2.1 0, 8, .inl f1)), (c2, .inl (E.2.1 0, 8, .inl f2)), (a, .inl (E.2.1 0, 8, .inl u0)), (b, .inl (E.2.1 0, 8, .inl u1)), (v, .inl (E.2.1 0, 8, .inl y)), (t, .inl (E.2.1 0, 8, .inl z)), (q, .inr (0, [.ref qb, .ref qg, .ref qf, .int (nI len), .int lat, .int nxt])), (qb, .inl (E.2.1 0, 96, .inl fb)), (qg, .inl (E.2.1 1, 96, .inl fg)), (qf, .inl (E.2.1 0, 96, .inl ff))] ++ k_rows E ra M) := hD
    have hT1 := top_of o6 hsk hu1
    refine lv_aload_n hx hb d_Ru_step_42 rfl (lv_at hl 1 rfl) ?_
    refine va_get (D := E.1) (ci := 5) (v := .ref k) (C := "WideStack$Run") (T := T_Ru) (N := 13) hx hb hts in_Ru hown hK hP 0 rfl rfl 0 (by decide) (hts _ t_186) (fun _ h9 => h9) rfl d_Ru_step_43 ?_
    refine lv_iconst (v := nI 2) hx hb d_Ru_step_46 (by decide) ?_
    refine lv_aload_n hx hb d_Ru_step_47 rfl (lv_at hl 1 rfl) ?_
    refine va_get (D := E.1) (ci := 5) (v := .ref v) (C := "WideStack$Run") (T := T_Ru) (N := 13) hx hb hts in_Ru hown hK hP 0 rfl rfl 5 (by decide) (hts _ t_191) (fun _ h9 => h9) rfl d_Ru_step_48 ?_
    refine k_VvT (As := [.int (nI 2), .ref v]) (rest := []) ⟨hx, hb, hml, hown, hts⟩ (c_St_look l E k kw kx cnt ra fx M 2 v y o6 (by decide)) (k_cwV 2 hts t_339 t_340 t_341 t_65 t_342 (by decide +kernel) ⟨Nat.le_of_ble_eq_true rfl, Nat.le_of_ble_eq_true rfl⟩) hK hG hA hP hD hS [1, 2, 3, 16] rfl (by decide) 1 rfl rfl (fun _ => rfl) rfl hl.1 rfl (Nat.le_of_ble_eq_true rfl) d_Ru_step_51 ⟨Nat.zero_le _, Nat.zero_le _⟩ (fun u2 H locs hu2 hP hD hS => ?_)
    have hP : va_P E.1 vwCl ([(rn, .inr (5, [.ref k, .ref o, .ref ca, .ref a, .ref b, .ref v, .ref t, .int (kb sb), .int (nI gas), .int (nI ctr), .int (nI en), .int (nI rf), .int (nI rc)])), (k, .inr (1, [.ref kw, .ref kx, .int (nI cnt)])), (kw, .inl (E.2.1 2, 16, .inr (.inr (.inr (.inr (fun i => if i < 16 then some (ra i) else none)))))), (kx, .inl (E.2.1 0, 8, .inl fx)), (o, .inr (2, [.ref ob, .int (nI siz)])), (ob, .inl (E.2.1 0, 160, .inl fm)), (ca, .inr (4, [.ref d, .ref cp, .ref c1, .ref c2])), (d, .inr (3, [.ref dd, .ref dq, .ref dr])), (dd, .inl (E.2.1 0, 16, .inl fD)), (dq, .inl (E.2.1 0, 16, .inl fq)), (dr, .inl (E.2.1 0, 8, .inl fr)), (cp, .inl (E.2.1 0, 16, .inl fp)), (c1, .inl (E.2.1 0, 8, .inl f1)), (c2, .inl (E.2.1 0, 8, .inl f2)), (a, .inl (E.2.1 0, 8, .inl u0)), (b, .inl (E.2.1 0, 8, .inl u1)), (v, .inl (E.2.1 0, 8, .inl u2)), (t, .inl (E.2.1 0, 8, .inl z)), (q, .inr (0, [.ref qb, .ref qg, .ref qf, .int (nI len), .int lat, .int nxt])), (qb, .inl (E.2.1 0, 96, .inl fb)), (qg, .inl (E.2.1 1, 96, .inl fg)), (qf, .inl (E.2.1 0, 96, .inl ff))] ++ k_rows E ra M) H := hP
    have hD : va_D A ([(rn, .inr (5, [.ref k, .ref o, .ref ca, .ref a, .ref b, .ref v, .ref t, .int (kb sb), .int (nI gas), .int (nI ctr), .int (nI en), .int (nI rf), .int (nI rc)])), (k, .inr (1, [.ref kw, .ref kx, .int (nI cnt)])), (kw, .inl (E.2.1 2, 16, .inr (.inr (.inr (.inr (fun i => if i < 16 then some (ra i) else none)))))), (kx, .inl (E.2.1 0, 8, .inl fx)), (o, .inr (2, [.ref ob, .int (nI siz)])), (ob, .inl (E.2.1 0, 160, .inl fm)), (ca, .inr (4, [.ref d, .ref cp, .ref c1, .ref c2])), (d, .inr (3, [.ref dd, .ref dq, .ref dr])), (dd, .inl (E.2.1 0, 16, .inl fD)), (dq, .inl (E.2.1 0, 16, .inl fq)), (dr, .inl (E.2.1 0, 8, .inl fr)), (cp, .inl (E.2.1 0, 16, .inl fp)), (c1, .inl (E.2.1 0, 8, .inl f1)), (c2, .inl (E.2.1 0, 8, .inl f2)), (a, .inl (E.2.1 0, 8, .inl u0)), (b, .inl (E.2.1 0, 8, .inl u1)), (v, .inl (E.2.1 0, 8, .inl u2)), (t, .inl (E.2.1 0, 8, .inl z)), (q, .inr (0, [.ref qb, .ref qg, .ref qf, .int (nI len), .int lat, .int nxt])), (qb, .inl (E.2.1 0, 96, .inl fb)), (qg, .inl (E.2.1 1, 96, .inl fg)), (qf, .inl (E.2.1 0, 96, .inl ff))] ++ k_rows E ra M) := hD
    have hT2 := top_of o6 hsk hu2
    refine lv_aload_n hx hb d_Ru_step_54 rfl (lv_at hl 1 rfl) ?_
    refine lv_aload_n hx hb d_Ru_step_55 rfl (lv_at hl 2 rfl) ?_
    refine lv_iload_n hx hb d_Ru_step_56 rfl (lv_at hl 0 rfl) ?_
    refine k_Vp (As := [.ref q, .int (nI (bb ctr))]) (rest := []) ⟨hx, hb, hml, hown, hts⟩ (c_R_findFault l E rn k o ca a b v t gas ctr en rf rc sb (bb ctr) ho kw kx cnt ob siz u0 u1 fm q qb qg qf len lat nxt fb fg ff bb ok o6 o4 o5 hgas) (k_cwV 2 hts t_351 t_353 t_2 t_64 t_354 (by decide +kernel) ⟨Nat.le_of_ble_eq_true rfl, Nat.le_of_ble_eq_true rfl⟩) hK hG hA hP hD hS [0, 1, 4, 5, 14, 15, 18, 19, 20, 21] rfl (by decide) 0 rfl rfl rfl hl.1 rfl (Nat.le_of_ble_eq_true rfl) d_Ru_step_57 ⟨Nat.zero_le _, Nat.zero_le _⟩ (fun r57 hu57 => ?_)
    subst hu57
    refine lv_istore_n (lv' := [(3, .int (nI (m_fault len bb (bb ctr) gas siz cnt (wv u0 8) (wv u1 8)))), (2, .int (nI (bb ctr))), (0, .ref rn), (1, .ref q)]) hx hb d_Ru_step_60 rfl hl (by decide) rfl (fun ls hl => ?_)
    have hle := ff_le (len := len) (b := bb) (o := bb ctr) (gas := gas) (siz := siz) (hgt := cnt) (A := wv u0 8) (B := wv u1 8)
    refine lv_iload_n hx hb d_Ru_step_61 rfl (lv_at hl 0 rfl) ?_
    refine kn_ifeq (tgt := 72) hx hb (Nat.lt_of_le_of_lt hle (by decide)) d_Ru_step_62 (by decide) (fun h62 => ?_) (fun h62 => ?_)
    · refine lv_aload_n hx hb d_Ru_step_72 rfl (lv_at hl 2 rfl) ?_
      refine lv_iload_n hx hb d_Ru_step_73 rfl (lv_at hl 1 rfl) ?_
      obtain ⟨k1, k2, k3, k4, k5, k6⟩ := ff_ok h62
      have hCe : m_usedC (bb ctr) (wv u0 8) (wv u1 8) = m_used (bb ctr) (wv u0 8) (wv u1 8) := m_usedC_eq (Nat.not_lt.mpr k4)
      have hpr : m_cost (bb ctr) + 3 * ((m_usedC (bb ctr) (wv u0 8) (wv u1 8) + 31) / 32 - siz / 32) = m_price (bb ctr) siz (m_used (bb ctr) (wv u0 8) (wv u1 8)) := by rw [hCe]; exact m_price_eq o5
      have hgr : siz + 32 * ((m_usedC (bb ctr) (wv u0 8) (wv u1 8) + 31) / 32 - siz / 32) = m_grown siz (m_used (bb ctr) (wv u0 8) (wv u1 8)) := by rw [hCe]; exact m_grown_eq o5
      refine k_Vv (As := [.int (nI (bb ctr))]) (rest := []) ⟨hx, hb, hml, hown, hts⟩ (c_R_pay l E rn k o ca a b v t gas ctr en rf rc sb (bb ctr) ho ob siz u0 u1 fm o4 (by rw [hpr]; exact k5)) (k_cwV 1 hts t_416 t_418 t_7 t_64 t_419 (by decide +kernel) ⟨Nat.le_of_ble_eq_true rfl, Nat.le_of_ble_eq_true rfl⟩) hK hG hA hP hD hS [0, 4, 5, 14, 15] rfl (by decide) 0 rfl rfl (fun _ => rfl) rfl hl.1 rfl (Nat.le_of_ble_eq_true rfl) d_Ru_step_74 ⟨Nat.zero_le _, Nat.zero_le _⟩ (fun up H locs hup hP hD hS => ?_)
      have hP : va_P E.1 vwCl ([(rn, .inr (5, [.ref k, .ref o, .ref ca, .ref a, .ref b, .ref v, .ref t, .int (kb sb), .int (nI (gas - (m_cost (bb ctr) + 3 * ((m_usedC (bb ctr) (wv u0 8) (wv u1 8) + 31) / 32 - siz / 32)))), .int (nI ctr), .int (nI en), .int (nI rf), .int (nI rc)])), (k, .inr (1, [.ref kw, .ref kx, .int (nI cnt)])), (kw, .inl (E.2.1 2, 16, .inr (.inr (.inr (.inr (fun i => if i < 16 then some (ra i) else none)))))), (kx, .inl (E.2.1 0, 8, .inl fx)), (o, .inr (2, [.ref ob, .int (nI (siz + 32 * ((m_usedC (bb ctr) (wv u0 8) (wv u1 8) + 31) / 32 - siz / 32)))])), (ob, .inl (E.2.1 0, 160, .inl fm)), (ca, .inr (4, [.ref d, .ref cp, .ref c1, .ref c2])), (d, .inr (3, [.ref dd, .ref dq, .ref dr])), (dd, .inl (E.2.1 0, 16, .inl fD)), (dq, .inl (E.2.1 0, 16, .inl fq)), (dr, .inl (E.2.1 0, 8, .inl fr)), (cp, .inl (E.2.1 0, 16, .inl fp)), (c1, .inl (E.2.1 0, 8, .inl f1)), (c2, .inl (E.2.1 0, 8, .inl f2)), (a, .inl (E.2.1 0, 8, .inl u0)), (b, .inl (E.2.1 0, 8, .inl u1)), (v, .inl (E.2.1 0, 8, .inl u2)), (t, .inl (E.2.1 0, 8, .inl z)), (q, .inr (0, [.ref qb, .ref qg, .ref qf, .int (nI len), .int lat, .int nxt])), (qb, .inl (E.2.1 0, 96, .inl fb)), (qg, .inl (E.2.1 1, 96, .inl fg)), (qf, .inl (E.2.1 0, 96, .inl ff))] ++ k_rows E ra M) H := hP
      have hD : va_D A ([(rn, .inr (5, [.ref k, .ref o, .ref ca, .ref a, .ref b, .ref v, .ref t, .int (kb sb), .int (nI (gas - (m_cost (bb ctr) + 3 * ((m_usedC (bb ctr) (wv u0 8) (wv u1 8) + 31) / 32 - siz / 32)))), .int (nI ctr), .int (nI en), .int (nI rf), .int (nI rc)])), (k, .inr (1, [.ref kw, .ref kx, .int (nI cnt)])), (kw, .inl (E.2.1 2, 16, .inr (.inr (.inr (.inr (fun i => if i < 16 then some (ra i) else none)))))), (kx, .inl (E.2.1 0, 8, .inl fx)), (o, .inr (2, [.ref ob, .int (nI (siz + 32 * ((m_usedC (bb ctr) (wv u0 8) (wv u1 8) + 31) / 32 - siz / 32)))])), (ob, .inl (E.2.1 0, 160, .inl fm)), (ca, .inr (4, [.ref d, .ref cp, .ref c1, .ref c2])), (d, .inr (3, [.ref dd, .ref dq, .ref dr])), (dd, .inl (E.2.1 0, 16, .inl fD)), (dq, .inl (E.2.1 0, 16, .inl fq)), (dr, .inl (E.2.1 0, 8, .inl fr)), (cp, .inl (E.2.1 0, 16, .inl fp)), (c1, .inl (E.2.1 0, 8, .inl f1)), (c2, .inl (E.2.1 0, 8, .inl f2)), (a, .inl (E.2.1 0, 8, .inl u0)), (b, .inl (E.2.1 0, 8, .inl u1)), (v, .inl (E.2.1 0, 8, .inl u2)), (t, .inl (E.2.1 0, 8, .inl z)), (q, .inr (0, [.ref qb, .ref qg, .ref qf, .int (nI len), .int lat, .int nxt])), (qb, .inl (E.2.1 0, 96, .inl fb)), (qg, .inl (E.2.1 1, 96, .inl fg)), (qf, .inl (E.2.1 0, 96, .inl ff))] ++ k_rows E ra M) := hD
      rw [hpr, hgr] at hP hD
      have hP : va_P E.1 vwCl ([(rn, .inr (5, [.ref k, .ref o, .ref ca, .ref a, .ref b, .ref v, .ref t, .int (kb sb), .int (nI (gas - m_price (bb ctr) siz (m_used (bb ctr) (wv u0 8) (wv u1 8)))), .int (nI ctr), .int (nI en), .int (nI rf), .int (nI rc)])), (k, .inr (1, [.ref kw, .ref kx, .int (nI cnt)])), (kw, .inl (E.2.1 2, 16, .inr (.inr (.inr (.inr (fun i => if i < 16 then some (ra i) else none)))))), (kx, .inl (E.2.1 0, 8, .inl fx)), (o, .inr (2, [.ref ob, .int (nI (m_grown siz (m_used (bb ctr) (wv u0 8) (wv u1 8))))])), (ob, .inl (E.2.1 0, 160, .inl fm)), (ca, .inr (4, [.ref d, .ref cp, .ref c1, .ref c2])), (d, .inr (3, [.ref dd, .ref dq, .ref dr])), (dd, .inl (E.2.1 0, 16, .inl fD)), (dq, .inl (E.2.1 0, 16, .inl fq)), (dr, .inl (E.2.1 0, 8, .inl fr)), (cp, .inl (E.2.1 0, 16, .inl fp)), (c1, .inl (E.2.1 0, 8, .inl f1)), (c2, .inl (E.2.1 0, 8, .inl f2)), (a, .inl (E.2.1 0, 8, .inl u0)), (b, .inl (E.2.1 0, 8, .inl u1)), (v, .inl (E.2.1 0, 8, .inl u2)), (t, .inl (E.2.1 0, 8, .inl z)), (q, .inr (0, [.ref qb, .ref qg, .ref qf, .int (nI len), .int lat, .int nxt])), (qb, .inl (E.2.1 0, 96, .inl fb)), (qg, .inl (E.2.1 1, 96, .inl fg)), (qf, .inl (E.2.1 0, 96, .inl ff))] ++ k_rows E ra M) H := hP
      have hD : va_D A ([(rn, .inr (5, [.ref k, .ref o, .ref ca, .ref a, .ref b, .ref v, .ref t, .int (kb sb), .int (nI (gas - m_price (bb ctr) siz (m_used (bb ctr) (wv u0 8) (wv u1 8)))), .int (nI ctr), .int (nI en), .int (nI rf), .int (nI rc)])), (k, .inr (1, [.ref kw, .ref kx, .int (nI cnt)])), (kw, .inl (E.2.1 2, 16, .inr (.inr (.inr (.inr (fun i => if i < 16 then some (ra i) else none)))))), (kx, .inl (E.2.1 0, 8, .inl fx)), (o, .inr (2, [.ref ob, .int (nI (m_grown siz (m_used (bb ctr) (wv u0 8) (wv u1 8))))])), (ob, .inl (E.2.1 0, 160, .inl fm)), (ca, .inr (4, [.ref d, .ref cp, .ref c1, .ref c2])), (d, .inr (3, [.ref dd, .ref dq, .ref dr])), (dd, .inl (E.2.1 0, 16, .inl fD)), (dq, .inl (E.2.1 0, 16, .inl fq)), (dr, .inl (E.2.1 0, 8, .inl fr)), (cp, .inl (E.2.1 0, 16, .inl fp)), (c1, .inl (E.2.1 0, 8, .inl f1)), (c2, .inl (E.2.1 0, 8, .inl f2)), (a, .inl (E.2.1 0, 8, .inl u0)), (b, .inl (E.2.1 0, 8, .inl u1)), (v, .inl (E.2.1 0, 8, .inl u2)), (t, .inl (E.2.1 0, 8, .inl z)), (q, .inr (0, [.ref qb, .ref qg, .ref qf, .int (nI len), .int lat, .int nxt])), (qb, .inl (E.2.1 0, 96, .inl fb)), (qg, .inl (E.2.1 1, 96, .inl fg)), (qf, .inl (E.2.1 0, 96, .inl ff))] ++ k_rows E ra M) := hD
      refine lv_iload_n hx hb d_Ru_step_77 rfl (lv_at hl 1 rfl) ?_
      refine k_Sp (As := [.int (nI (bb ctr))]) (rest := []) ⟨hx, hb, hml, hown, hts⟩ (c_I_isLast l E (bb ctr) ho) (k_cwS 1 hts t_425 t_426 t_72 t_427 (by decide +kernel) ⟨Nat.le_of_ble_eq_true rfl, Nat.le_of_ble_eq_true rfl⟩) hK hG hA hP hD hS [] rfl (by decide) rfl hl.1 rfl (Nat.le_of_ble_eq_true rfl) d_Ru_step_78 ⟨Nat.zero_le _, Nat.zero_le _⟩ (fun r78 hu78 => ?_)
      subst hu78
      refine lv_if_eq (tgt := 91) hx hb d_Ru_step_81 (by decide) (fun h81 => ?_) (fun h81 => ?_)
      · refine lv_aload_n hx hb d_Ru_step_91 rfl (lv_at hl 2 rfl) ?_
        refine lv_aload_n hx hb d_Ru_step_92 rfl (lv_at hl 3 rfl) ?_
        refine lv_iload_n hx hb d_Ru_step_93 rfl (lv_at hl 1 rfl) ?_
        have hlast := of_decide_eq_false (kb_0.mp h81)
        have hg1 := m_grown_le o4 k4
        have hcon := c_R_perform l E rn k o ca a b v t (gas - m_price (bb ctr) siz (m_used (bb ctr) (wv u0 8) (wv u1 8))) ctr en rf rc sb kw kx cnt ra fx M ob (m_grown siz (m_used (bb ctr) (wv u0 8) (wv u1 8))) fm mem hm d dd dq dr cp c1 c2 fD fq fr fp f1 f2 u0 u1 u2 z q qb qg qf len lat nxt fb fg ff bb ok (bb ctr) stk rfl k1 (fun q => hlast (Or.inl q)) (fun q => hlast (Or.inr q)) k2 o6 k3 k4 (fun q => marked_lt hlen (k6 q)) hctr hg1 (Nat.lt_of_le_of_lt (Nat.sub_le _ _) hgas) hsk
        refine k_VvF (rm := rm_c_R_perform) (Z := []) (T := ([(rn, .inr (5, [.ref k, .ref o, .ref ca, .ref a, .ref b, .ref v, .ref t, .int (kb sb), .int (nI (gas - m_price (bb ctr) siz (m_used (bb ctr) (wv u0 8) (wv u1 8)))), .int (nI ctr), .int (nI en), .int (nI rf), .int (nI rc)])), (k, .inr (1, [.ref kw, .ref kx, .int (nI cnt)])), (kw, .inl (E.2.1 2, 16, .inr (.inr (.inr (.inr (fun i => if i < 16 then some (ra i) else none)))))), (kx, .inl (E.2.1 0, 8, .inl fx)), (o, .inr (2, [.ref ob, .int (nI (m_grown siz (m_used (bb ctr) (wv u0 8) (wv u1 8))))])), (ob, .inl (E.2.1 0, 160, .inl fm)), (ca, .inr (4, [.ref d, .ref cp, .ref c1, .ref c2])), (d, .inr (3, [.ref dd, .ref dq, .ref dr])), (dd, .inl (E.2.1 0, 16, .inl fD)), (dq, .inl (E.2.1 0, 16, .inl fq)), (dr, .inl (E.2.1 0, 8, .inl fr)), (cp, .inl (E.2.1 0, 16, .inl fp)), (c1, .inl (E.2.1 0, 8, .inl f1)), (c2, .inl (E.2.1 0, 8, .inl f2)), (a, .inl (E.2.1 0, 8, .inl u0)), (b, .inl (E.2.1 0, 8, .inl u1)), (v, .inl (E.2.1 0, 8, .inl u2)), (t, .inl (E.2.1 0, 8, .inl z)), (q, .inr (0, [.ref qb, .ref qg, .ref qf, .int (nI len), .int lat, .int nxt])), (qb, .inl (E.2.1 0, 96, .inl fb)), (qg, .inl (E.2.1 1, 96, .inl fg)), (qf, .inl (E.2.1 0, 96, .inl ff))] ++ k_rows E ra M)) (As := [.ref q, .int (nI (bb ctr))]) (rest := []) ⟨hx, hb, hml, hown, hts⟩ hcon (k_cwV 2 hts t_437 t_439 t_9 t_64 t_440 (by decide +kernel) ⟨Nat.le_of_ble_eq_true rfl, Nat.le_of_ble_eq_true rfl⟩) hK hG hA hP hD hS 0 rfl rfl (by exact fun _ => k_foT rfl) rfl hl.1 rfl (Nat.le_of_ble_eq_true rfl) d_Ru_step_94 ⟨Nat.zero_le _, Nat.zero_le _⟩ (fun up H locs hup hP hD hS => ?_)
        have hP : va_P E.1 vwCl ([(rn, .inr (5, [.ref k, .ref o, .ref ca, .ref a, .ref b, .ref v, .ref t, .int (kb sb), .int (nI (gas - m_price (bb ctr) siz (m_used (bb ctr) (wv u0 8) (wv u1 8)))), .int (nI up.1), .int (nI en), .int (nI rf), .int (nI rc)])), (k, .inr (1, [.ref kw, .ref kx, .int (nI up.2.1)])), (kw, .inl (E.2.1 2, 16, .inr (.inr (.inr (.inr (fun i => if i < 16 then some (ra i) else none)))))), (kx, .inl (E.2.1 0, 8, .inl up.2.2.2.2.1)), (o, .inr (2, [.ref ob, .int (nI (m_grown siz (m_used (bb ctr) (wv u0 8) (wv u1 8))))])), (ob, .inl (E.2.1 0, 160, .inl up.2.2.2.1)), (ca, .inr (4, [.ref d, .ref cp, .ref c1, .ref c2])), (d, .inr (3, [.ref dd, .ref dq, .ref dr])), (dd, .inl (E.2.1 0, 16, .inl (up.2.2.2.2.2 0))), (dq, .inl (E.2.1 0, 16, .inl (up.2.2.2.2.2 1))), (dr, .inl (E.2.1 0, 8, .inl (up.2.2.2.2.2 2))), (cp, .inl (E.2.1 0, 16, .inl (up.2.2.2.2.2 3))), (c1, .inl (E.2.1 0, 8, .inl (up.2.2.2.2.2 4))), (c2, .inl (E.2.1 0, 8, .inl (up.2.2.2.2.2 5))), (a, .inl (E.2.1 0, 8, .inl u0)), (b, .inl (E.2.1 0, 8, .inl u1)), (v, .inl (E.2.1 0, 8, .inl u2)), (t, .inl (E.2.1 0, 8, .inl (up.2.2.2.2.2 6))), (q, .inr (0, [.ref qb, .ref qg, .ref qf, .int (nI len), .int lat, .int nxt])), (qb, .inl (E.2.1 0, 96, .inl fb)), (qg, .inl (E.2.1 1, 96, .inl fg)), (qf, .inl (E.2.1 0, 96, .inl ff))] ++ k_rows E ra up.2.2.1) H := hP
        have hD : va_D A ([(rn, .inr (5, [.ref k, .ref o, .ref ca, .ref a, .ref b, .ref v, .ref t, .int (kb sb), .int (nI (gas - m_price (bb ctr) siz (m_used (bb ctr) (wv u0 8) (wv u1 8)))), .int (nI up.1), .int (nI en), .int (nI rf), .int (nI rc)])), (k, .inr (1, [.ref kw, .ref kx, .int (nI up.2.1)])), (kw, .inl (E.2.1 2, 16, .inr (.inr (.inr (.inr (fun i => if i < 16 then some (ra i) else none)))))), (kx, .inl (E.2.1 0, 8, .inl up.2.2.2.2.1)), (o, .inr (2, [.ref ob, .int (nI (m_grown siz (m_used (bb ctr) (wv u0 8) (wv u1 8))))])), (ob, .inl (E.2.1 0, 160, .inl up.2.2.2.1)), (ca, .inr (4, [.ref d, .ref cp, .ref c1, .ref c2])), (d, .inr (3, [.ref dd, .ref dq, .ref dr])), (dd, .inl (E.2.1 0, 16, .inl (up.2.2.2.2.2 0))), (dq, .inl (E.2.1 0, 16, .inl (up.2.2.2.2.2 1))), (dr, .inl (E.2.1 0, 8, .inl (up.2.2.2.2.2 2))), (cp, .inl (E.2.1 0, 16, .inl (up.2.2.2.2.2 3))), (c1, .inl (E.2.1 0, 8, .inl (up.2.2.2.2.2 4))), (c2, .inl (E.2.1 0, 8, .inl (up.2.2.2.2.2 5))), (a, .inl (E.2.1 0, 8, .inl u0)), (b, .inl (E.2.1 0, 8, .inl u1)), (v, .inl (E.2.1 0, 8, .inl u2)), (t, .inl (E.2.1 0, 8, .inl (up.2.2.2.2.2 6))), (q, .inr (0, [.ref qb, .ref qg, .ref qf, .int (nI len), .int lat, .int nxt])), (qb, .inl (E.2.1 0, 96, .inl fb)), (qg, .inl (E.2.1 1, 96, .inl fg)), (qf, .inl (E.2.1 0, 96, .inl ff))] ++ k_rows E ra up.2.2.1) := hD
        obtain ⟨m1, m2, m3, m4, m5, m6⟩ := up
        obtain ⟨q1, q2, q3, q4⟩ := hup
        replace q1 : m1 = (m_do bb (bb ctr) (gas - m_price (bb ctr) siz (m_used (bb ctr) (wv u0 8) (wv u1 8))) ctr (m_grown siz (m_used (bb ctr) (wv u0 8) (wv u1 8))) cnt (wv u0 8) (wv u1 8) (wv u2 8) stk mem).1 := q1
        replace q2 : m2 = (m_do bb (bb ctr) (gas - m_price (bb ctr) siz (m_used (bb ctr) (wv u0 8) (wv u1 8))) ctr (m_grown siz (m_used (bb ctr) (wv u0 8) (wv u1 8))) cnt (wv u0 8) (wv u1 8) (wv u2 8) stk mem).2.1 := q2
        subst q1 q2
        refine lv_iconst (v := nI 1) hx hb d_Ru_step_97 (by decide) ?_
        subst h4
        exact hret _ ls _ _ _ ((0, gas - m_price (bb ctr) siz (m_used (bb ctr) (wv u0 8) (wv u1 8)), (m_do bb (bb ctr) (gas - m_price (bb ctr) siz (m_used (bb ctr) (wv u0 8) (wv u1 8))) ctr (m_grown siz (m_used (bb ctr) (wv u0 8) (wv u1 8))) cnt (wv u0 8) (wv u1 8) (wv u2 8) stk mem).1, m_grown siz (m_used (bb ctr) (wv u0 8) (wv u1 8)), (m_do bb (bb ctr) (gas - m_price (bb ctr) siz (m_used (bb ctr) (wv u0 8) (wv u1 8))) ctr (m_grown siz (m_used (bb ctr) (wv u0 8) (wv u1 8))) cnt (wv u0 8) (wv u1 8) (wv u2 8) stk mem).2.1, frm, rc, (m_do bb (bb ctr) (gas - m_price (bb ctr) siz (m_used (bb ctr) (wv u0 8) (wv u1 8))) ctr (m_grown siz (m_used (bb ctr) (wv u0 8) (wv u1 8))) cnt (wv u0 8) (wv u1 8) (wv u2 8) stk mem).2.2.1, (m_do bb (bb ctr) (gas - m_price (bb ctr) siz (m_used (bb ctr) (wv u0 8) (wv u1 8))) ctr (m_grown siz (m_used (bb ctr) (wv u0 8) (wv u1 8))) cnt (wv u0 8) (wv u1 8) (wv u2 8) stk mem).2.2.2), rf, m3, m4, t11 m5 u0 u1 u2 m6) d_Ru_step_98 (by decide) ⟨by rw [if_pos rfl, mg_do hT0 hT1 hT2 h62 hlast], by rw [decide_eq_true ⟨rfl, rfl⟩]; rfl, hfr, q3, q4⟩ hP hS
      · refine lv_aload_n hx hb d_Ru_step_84 rfl (lv_at hl 2 rfl) ?_
        refine lv_iload_n hx hb d_Ru_step_85 rfl (lv_at hl 1 rfl) ?_
        refine k_Vv (As := [.int (nI (bb ctr))]) (rest := []) ⟨hx, hb, hml, hown, hts⟩ (c_R_finish l E rn k o ca a b v t (gas - m_price (bb ctr) siz (m_used (bb ctr) (wv u0 8) (wv u1 8))) ctr en rf rc sb (bb ctr) ho kw kx cnt u0 u1 o6) (k_cwV 1 hts t_428 t_430 t_8 t_64 t_431 (by decide +kernel) ⟨Nat.le_of_ble_eq_true rfl, Nat.le_of_ble_eq_true rfl⟩) hK hG hA hP hD hS [0, 1, 14, 15] rfl (by decide) 0 rfl rfl (fun _ => rfl) rfl hl.1 rfl (Nat.le_of_ble_eq_true rfl) d_Ru_step_86 ⟨Nat.zero_le _, Nat.zero_le _⟩ (fun w0 H locs hw0 hP hD hS => ?_)
        have hP : va_P E.1 vwCl ([(rn, .inr (5, [.ref k, .ref o, .ref ca, .ref a, .ref b, .ref v, .ref t, .int (kb sb), .int (nI (gas - m_price (bb ctr) siz (m_used (bb ctr) (wv u0 8) (wv u1 8)))), .int (nI ctr), .int (nI w0.1), .int (nI w0.2.1), .int (nI w0.2.2.1)])), (k, .inr (1, [.ref kw, .ref kx, .int (nI w0.2.2.2)])), (kw, .inl (E.2.1 2, 16, .inr (.inr (.inr (.inr (fun i => if i < 16 then some (ra i) else none)))))), (kx, .inl (E.2.1 0, 8, .inl fx)), (o, .inr (2, [.ref ob, .int (nI (m_grown siz (m_used (bb ctr) (wv u0 8) (wv u1 8))))])), (ob, .inl (E.2.1 0, 160, .inl fm)), (ca, .inr (4, [.ref d, .ref cp, .ref c1, .ref c2])), (d, .inr (3, [.ref dd, .ref dq, .ref dr])), (dd, .inl (E.2.1 0, 16, .inl fD)), (dq, .inl (E.2.1 0, 16, .inl fq)), (dr, .inl (E.2.1 0, 8, .inl fr)), (cp, .inl (E.2.1 0, 16, .inl fp)), (c1, .inl (E.2.1 0, 8, .inl f1)), (c2, .inl (E.2.1 0, 8, .inl f2)), (a, .inl (E.2.1 0, 8, .inl u0)), (b, .inl (E.2.1 0, 8, .inl u1)), (v, .inl (E.2.1 0, 8, .inl u2)), (t, .inl (E.2.1 0, 8, .inl z)), (q, .inr (0, [.ref qb, .ref qg, .ref qf, .int (nI len), .int lat, .int nxt])), (qb, .inl (E.2.1 0, 96, .inl fb)), (qg, .inl (E.2.1 1, 96, .inl fg)), (qf, .inl (E.2.1 0, 96, .inl ff))] ++ k_rows E ra M) H := hP
        have hD : va_D A ([(rn, .inr (5, [.ref k, .ref o, .ref ca, .ref a, .ref b, .ref v, .ref t, .int (kb sb), .int (nI (gas - m_price (bb ctr) siz (m_used (bb ctr) (wv u0 8) (wv u1 8)))), .int (nI ctr), .int (nI w0.1), .int (nI w0.2.1), .int (nI w0.2.2.1)])), (k, .inr (1, [.ref kw, .ref kx, .int (nI w0.2.2.2)])), (kw, .inl (E.2.1 2, 16, .inr (.inr (.inr (.inr (fun i => if i < 16 then some (ra i) else none)))))), (kx, .inl (E.2.1 0, 8, .inl fx)), (o, .inr (2, [.ref ob, .int (nI (m_grown siz (m_used (bb ctr) (wv u0 8) (wv u1 8))))])), (ob, .inl (E.2.1 0, 160, .inl fm)), (ca, .inr (4, [.ref d, .ref cp, .ref c1, .ref c2])), (d, .inr (3, [.ref dd, .ref dq, .ref dr])), (dd, .inl (E.2.1 0, 16, .inl fD)), (dq, .inl (E.2.1 0, 16, .inl fq)), (dr, .inl (E.2.1 0, 8, .inl fr)), (cp, .inl (E.2.1 0, 16, .inl fp)), (c1, .inl (E.2.1 0, 8, .inl f1)), (c2, .inl (E.2.1 0, 8, .inl f2)), (a, .inl (E.2.1 0, 8, .inl u0)), (b, .inl (E.2.1 0, 8, .inl u1)), (v, .inl (E.2.1 0, 8, .inl u2)), (t, .inl (E.2.1 0, 8, .inl z)), (q, .inr (0, [.ref qb, .ref qg, .ref qf, .int (nI len), .int lat, .int nxt])), (qb, .inl (E.2.1 0, 96, .inl fb)), (qg, .inl (E.2.1 1, 96, .inl fg)), (qf, .inl (E.2.1 0, 96, .inl ff))] ++ k_rows E ra M) := hD
        rcases of_decide_eq_true (kb_n0 h81) with e0 | e0
        · rw [if_neg (by rw [e0]; decide)] at hw0
          subst hw0
          have hP : va_P E.1 vwCl ([(rn, .inr (5, [.ref k, .ref o, .ref ca, .ref a, .ref b, .ref v, .ref t, .int (kb sb), .int (nI (gas - m_price (bb ctr) siz (m_used (bb ctr) (wv u0 8) (wv u1 8)))), .int (nI ctr), .int (nI 1), .int (nI rf), .int (nI rc)])), (k, .inr (1, [.ref kw, .ref kx, .int (nI cnt)])), (kw, .inl (E.2.1 2, 16, .inr (.inr (.inr (.inr (fun i => if i < 16 then some (ra i) else none)))))), (kx, .inl (E.2.1 0, 8, .inl fx)), (o, .inr (2, [.ref ob, .int (nI (m_grown siz (m_used (bb ctr) (wv u0 8) (wv u1 8))))])), (ob, .inl (E.2.1 0, 160, .inl fm)), (ca, .inr (4, [.ref d, .ref cp, .ref c1, .ref c2])), (d, .inr (3, [.ref dd, .ref dq, .ref dr])), (dd, .inl (E.2.1 0, 16, .inl fD)), (dq, .inl (E.2.1 0, 16, .inl fq)), (dr, .inl (E.2.1 0, 8, .inl fr)), (cp, .inl (E.2.1 0, 16, .inl fp)), (c1, .inl (E.2.1 0, 8, .inl f1)), (c2, .inl (E.2.1 0, 8, .inl f2)), (a, .inl (E.2.1 0, 8, .inl u0)), (b, .inl (E.2.1 0, 8, .inl u1)), (v, .inl (E.2.1 0, 8, .inl u2)), (t, .inl (E.2.1 0, 8, .inl z)), (q, .inr (0, [.ref qb, .ref qg, .ref qf, .int (nI len), .int lat, .int nxt])), (qb, .inl (E.2.1 0, 96, .inl fb)), (qg, .inl (E.2.1 1, 96, .inl fg)), (qf, .inl (E.2.1 0, 96, .inl ff))] ++ k_rows E ra M) H := hP
          have hD : va_D A ([(rn, .inr (5, [.ref k, .ref o, .ref ca, .ref a, .ref b, .ref v, .ref t, .int (kb sb), .int (nI (gas - m_price (bb ctr) siz (m_used (bb ctr) (wv u0 8) (wv u1 8)))), .int (nI ctr), .int (nI 1), .int (nI rf), .int (nI rc)])), (k, .inr (1, [.ref kw, .ref kx, .int (nI cnt)])), (kw, .inl (E.2.1 2, 16, .inr (.inr (.inr (.inr (fun i => if i < 16 then some (ra i) else none)))))), (kx, .inl (E.2.1 0, 8, .inl fx)), (o, .inr (2, [.ref ob, .int (nI (m_grown siz (m_used (bb ctr) (wv u0 8) (wv u1 8))))])), (ob, .inl (E.2.1 0, 160, .inl fm)), (ca, .inr (4, [.ref d, .ref cp, .ref c1, .ref c2])), (d, .inr (3, [.ref dd, .ref dq, .ref dr])), (dd, .inl (E.2.1 0, 16, .inl fD)), (dq, .inl (E.2.1 0, 16, .inl fq)), (dr, .inl (E.2.1 0, 8, .inl fr)), (cp, .inl (E.2.1 0, 16, .inl fp)), (c1, .inl (E.2.1 0, 8, .inl f1)), (c2, .inl (E.2.1 0, 8, .inl f2)), (a, .inl (E.2.1 0, 8, .inl u0)), (b, .inl (E.2.1 0, 8, .inl u1)), (v, .inl (E.2.1 0, 8, .inl u2)), (t, .inl (E.2.1 0, 8, .inl z)), (q, .inr (0, [.ref qb, .ref qg, .ref qf, .int (nI len), .int lat, .int nxt])), (qb, .inl (E.2.1 0, 96, .inl fb)), (qg, .inl (E.2.1 1, 96, .inl fg)), (qf, .inl (E.2.1 0, 96, .inl ff))] ++ k_rows E ra M) := hD
          refine lv_iconst (v := nI 0) hx hb d_Ru_step_89 (by decide) ?_
          exact hret _ ls _ _ _ ((1, gas - m_price (bb ctr) siz (m_used (bb ctr) (wv u0 8) (wv u1 8)), ctr, m_grown siz (m_used (bb ctr) (wv u0 8) (wv u1 8)), cnt, frm, rc, stk, mem), rf, M, fm, t11 fx u0 u1 u2 (t7 fD fq fr fp f1 f2 z)) d_Ru_step_90 (by decide) ⟨by rw [if_pos h4, mg_stop hT0 hT1 h62 e0], by rw [decide_eq_false (fun q => Nat.succ_ne_zero _ q.2)]; rfl, hfr, hsk, fun j hj => (hm j hj).1⟩ hP hS
        · rw [if_pos e0] at hw0
          subst hw0
          have hq := used_243 (A := wv u0 8) (B := wv u1 8) (by rw [← e0]; exact k4)
          have hmin : min (wv u1 8) 161 = wv u1 8 := Nat.min_eq_left (q161 hq)
          have hP : va_P E.1 vwCl ([(rn, .inr (5, [.ref k, .ref o, .ref ca, .ref a, .ref b, .ref v, .ref t, .int (kb sb), .int (nI (gas - m_price (bb ctr) siz (m_used (bb ctr) (wv u0 8) (wv u1 8)))), .int (nI ctr), .int (nI 2), .int (nI (min (wv u0 8) 161)), .int (nI (min (wv u1 8) 161))])), (k, .inr (1, [.ref kw, .ref kx, .int (nI (cnt - 2))])), (kw, .inl (E.2.1 2, 16, .inr (.inr (.inr (.inr (fun i => if i < 16 then some (ra i) else none)))))), (kx, .inl (E.2.1 0, 8, .inl fx)), (o, .inr (2, [.ref ob, .int (nI (m_grown siz (m_used (bb ctr) (wv u0 8) (wv u1 8))))])), (ob, .inl (E.2.1 0, 160, .inl fm)), (ca, .inr (4, [.ref d, .ref cp, .ref c1, .ref c2])), (d, .inr (3, [.ref dd, .ref dq, .ref dr])), (dd, .inl (E.2.1 0, 16, .inl fD)), (dq, .inl (E.2.1 0, 16, .inl fq)), (dr, .inl (E.2.1 0, 8, .inl fr)), (cp, .inl (E.2.1 0, 16, .inl fp)), (c1, .inl (E.2.1 0, 8, .inl f1)), (c2, .inl (E.2.1 0, 8, .inl f2)), (a, .inl (E.2.1 0, 8, .inl u0)), (b, .inl (E.2.1 0, 8, .inl u1)), (v, .inl (E.2.1 0, 8, .inl u2)), (t, .inl (E.2.1 0, 8, .inl z)), (q, .inr (0, [.ref qb, .ref qg, .ref qf, .int (nI len), .int lat, .int nxt])), (qb, .inl (E.2.1 0, 96, .inl fb)), (qg, .inl (E.2.1 1, 96, .inl fg)), (qf, .inl (E.2.1 0, 96, .inl ff))] ++ k_rows E ra M) H := hP
          have hD : va_D A ([(rn, .inr (5, [.ref k, .ref o, .ref ca, .ref a, .ref b, .ref v, .ref t, .int (kb sb), .int (nI (gas - m_price (bb ctr) siz (m_used (bb ctr) (wv u0 8) (wv u1 8)))), .int (nI ctr), .int (nI 2), .int (nI (min (wv u0 8) 161)), .int (nI (min (wv u1 8) 161))])), (k, .inr (1, [.ref kw, .ref kx, .int (nI (cnt - 2))])), (kw, .inl (E.2.1 2, 16, .inr (.inr (.inr (.inr (fun i => if i < 16 then some (ra i) else none)))))), (kx, .inl (E.2.1 0, 8, .inl fx)), (o, .inr (2, [.ref ob, .int (nI (m_grown siz (m_used (bb ctr) (wv u0 8) (wv u1 8))))])), (ob, .inl (E.2.1 0, 160, .inl fm)), (ca, .inr (4, [.ref d, .ref cp, .ref c1, .ref c2])), (d, .inr (3, [.ref dd, .ref dq, .ref dr])), (dd, .inl (E.2.1 0, 16, .inl fD)), (dq, .inl (E.2.1 0, 16, .inl fq)), (dr, .inl (E.2.1 0, 8, .inl fr)), (cp, .inl (E.2.1 0, 16, .inl fp)), (c1, .inl (E.2.1 0, 8, .inl f1)), (c2, .inl (E.2.1 0, 8, .inl f2)), (a, .inl (E.2.1 0, 8, .inl u0)), (b, .inl (E.2.1 0, 8, .inl u1)), (v, .inl (E.2.1 0, 8, .inl u2)), (t, .inl (E.2.1 0, 8, .inl z)), (q, .inr (0, [.ref qb, .ref qg, .ref qf, .int (nI len), .int lat, .int nxt])), (qb, .inl (E.2.1 0, 96, .inl fb)), (qg, .inl (E.2.1 1, 96, .inl fg)), (qf, .inl (E.2.1 0, 96, .inl ff))] ++ k_rows E ra M) := hD
          rw [hmin] at hP hD
          have hP : va_P E.1 vwCl ([(rn, .inr (5, [.ref k, .ref o, .ref ca, .ref a, .ref b, .ref v, .ref t, .int (kb sb), .int (nI (gas - m_price (bb ctr) siz (m_used (bb ctr) (wv u0 8) (wv u1 8)))), .int (nI ctr), .int (nI 2), .int (nI (min (wv u0 8) 161)), .int (nI (wv u1 8))])), (k, .inr (1, [.ref kw, .ref kx, .int (nI (cnt - 2))])), (kw, .inl (E.2.1 2, 16, .inr (.inr (.inr (.inr (fun i => if i < 16 then some (ra i) else none)))))), (kx, .inl (E.2.1 0, 8, .inl fx)), (o, .inr (2, [.ref ob, .int (nI (m_grown siz (m_used (bb ctr) (wv u0 8) (wv u1 8))))])), (ob, .inl (E.2.1 0, 160, .inl fm)), (ca, .inr (4, [.ref d, .ref cp, .ref c1, .ref c2])), (d, .inr (3, [.ref dd, .ref dq, .ref dr])), (dd, .inl (E.2.1 0, 16, .inl fD)), (dq, .inl (E.2.1 0, 16, .inl fq)), (dr, .inl (E.2.1 0, 8, .inl fr)), (cp, .inl (E.2.1 0, 16, .inl fp)), (c1, .inl (E.2.1 0, 8, .inl f1)), (c2, .inl (E.2.1 0, 8, .inl f2)), (a, .inl (E.2.1 0, 8, .inl u0)), (b, .inl (E.2.1 0, 8, .inl u1)), (v, .inl (E.2.1 0, 8, .inl u2)), (t, .inl (E.2.1 0, 8, .inl z)), (q, .inr (0, [.ref qb, .ref qg, .ref qf, .int (nI len), .int lat, .int nxt])), (qb, .inl (E.2.1 0, 96, .inl fb)), (qg, .inl (E.2.1 1, 96, .inl fg)), (qf, .inl (E.2.1 0, 96, .inl ff))] ++ k_rows E ra M) H := hP
          have hD : va_D A ([(rn, .inr (5, [.ref k, .ref o, .ref ca, .ref a, .ref b, .ref v, .ref t, .int (kb sb), .int (nI (gas - m_price (bb ctr) siz (m_used (bb ctr) (wv u0 8) (wv u1 8)))), .int (nI ctr), .int (nI 2), .int (nI (min (wv u0 8) 161)), .int (nI (wv u1 8))])), (k, .inr (1, [.ref kw, .ref kx, .int (nI (cnt - 2))])), (kw, .inl (E.2.1 2, 16, .inr (.inr (.inr (.inr (fun i => if i < 16 then some (ra i) else none)))))), (kx, .inl (E.2.1 0, 8, .inl fx)), (o, .inr (2, [.ref ob, .int (nI (m_grown siz (m_used (bb ctr) (wv u0 8) (wv u1 8))))])), (ob, .inl (E.2.1 0, 160, .inl fm)), (ca, .inr (4, [.ref d, .ref cp, .ref c1, .ref c2])), (d, .inr (3, [.ref dd, .ref dq, .ref dr])), (dd, .inl (E.2.1 0, 16, .inl fD)), (dq, .inl (E.2.1 0, 16, .inl fq)), (dr, .inl (E.2.1 0, 8, .inl fr)), (cp, .inl (E.2.1 0, 16, .inl fp)), (c1, .inl (E.2.1 0, 8, .inl f1)), (c2, .inl (E.2.1 0, 8, .inl f2)), (a, .inl (E.2.1 0, 8, .inl u0)), (b, .inl (E.2.1 0, 8, .inl u1)), (v, .inl (E.2.1 0, 8, .inl u2)), (t, .inl (E.2.1 0, 8, .inl z)), (q, .inr (0, [.ref qb, .ref qg, .ref qf, .int (nI len), .int lat, .int nxt])), (qb, .inl (E.2.1 0, 96, .inl fb)), (qg, .inl (E.2.1 1, 96, .inl fg)), (qf, .inl (E.2.1 0, 96, .inl ff))] ++ k_rows E ra M) := hD
          refine lv_iconst (v := nI 0) hx hb d_Ru_step_89 (by decide) ?_
          exact hret _ ls _ _ _ ((2, gas - m_price (bb ctr) siz (m_used (bb ctr) (wv u0 8) (wv u1 8)), ctr, m_grown siz (m_used (bb ctr) (wv u0 8) (wv u1 8)), cnt - 2, wv u0 8, wv u1 8, stk, mem), min (wv u0 8) 161, M, fm, t11 fx u0 u1 u2 (t7 fD fq fr fp f1 f2 z)) d_Ru_step_90 (by decide) ⟨by rw [if_pos h4, mg_ret hT0 hT1 h62 e0], by rw [decide_eq_false (fun q => Nat.succ_ne_zero _ q.2)]; rfl, fun q => (Nat.min_eq_left (q161a hq q)).symm, hsk, fun j hj => (hm j hj).1⟩ hP hS
    · refine lv_aload_n hx hb d_Ru_step_65 rfl (lv_at hl 2 rfl) ?_
      refine lv_iload_n hx hb d_Ru_step_66 rfl (lv_at hl 0 rfl) ?_
      refine k_Vv (As := [.int (nI (m_fault len bb (bb ctr) gas siz cnt (wv u0 8) (wv u1 8)))]) (rest := []) ⟨hx, hb, hml, hown, hts⟩ (c_R_fail l E rn k o ca a b v t gas ctr en rf rc sb (m_fault len bb (bb ctr) gas siz cnt (wv u0 8) (wv u1 8)) (Nat.lt_of_le_of_lt hle (by decide))) (k_cwV 1 hts t_412 t_414 t_6 t_64 t_415 (by decide +kernel) ⟨Nat.le_of_ble_eq_true rfl, Nat.le_of_ble_eq_true rfl⟩) hK hG hA hP hD hS [0] rfl (by decide) 0 rfl rfl (fun _ => rfl) rfl hl.1 rfl (Nat.le_of_ble_eq_true rfl) d_Ru_step_67 ⟨Nat.zero_le _, Nat.zero_le _⟩ (fun uf H locs huf hP hD hS => ?_)
      have hP : va_P E.1 vwCl ([(rn, .inr (5, [.ref k, .ref o, .ref ca, .ref a, .ref b, .ref v, .ref t, .int (kb sb), .int (nI (if m_fault len bb (bb ctr) gas siz cnt (wv u0 8) (wv u1 8) = 4 then 0 else gas)), .int (nI ctr), .int (nI (m_fault len bb (bb ctr) gas siz cnt (wv u0 8) (wv u1 8))), .int (nI rf), .int (nI rc)])), (k, .inr (1, [.ref kw, .ref kx, .int (nI cnt)])), (kw, .inl (E.2.1 2, 16, .inr (.inr (.inr (.inr (fun i => if i < 16 then some (ra i) else none)))))), (kx, .inl (E.2.1 0, 8, .inl fx)), (o, .inr (2, [.ref ob, .int (nI siz)])), (ob, .inl (E.2.1 0, 160, .inl fm)), (ca, .inr (4, [.ref d, .ref cp, .ref c1, .ref c2])), (d, .inr (3, [.ref dd, .ref dq, .ref dr])), (dd, .inl (E.2.1 0, 16, .inl fD)), (dq, .inl (E.2.1 0, 16, .inl fq)), (dr, .inl (E.2.1 0, 8, .inl fr)), (cp, .inl (E.2.1 0, 16, .inl fp)), (c1, .inl (E.2.1 0, 8, .inl f1)), (c2, .inl (E.2.1 0, 8, .inl f2)), (a, .inl (E.2.1 0, 8, .inl u0)), (b, .inl (E.2.1 0, 8, .inl u1)), (v, .inl (E.2.1 0, 8, .inl u2)), (t, .inl (E.2.1 0, 8, .inl z)), (q, .inr (0, [.ref qb, .ref qg, .ref qf, .int (nI len), .int lat, .int nxt])), (qb, .inl (E.2.1 0, 96, .inl fb)), (qg, .inl (E.2.1 1, 96, .inl fg)), (qf, .inl (E.2.1 0, 96, .inl ff))] ++ k_rows E ra M) H := hP
      have hD : va_D A ([(rn, .inr (5, [.ref k, .ref o, .ref ca, .ref a, .ref b, .ref v, .ref t, .int (kb sb), .int (nI (if m_fault len bb (bb ctr) gas siz cnt (wv u0 8) (wv u1 8) = 4 then 0 else gas)), .int (nI ctr), .int (nI (m_fault len bb (bb ctr) gas siz cnt (wv u0 8) (wv u1 8))), .int (nI rf), .int (nI rc)])), (k, .inr (1, [.ref kw, .ref kx, .int (nI cnt)])), (kw, .inl (E.2.1 2, 16, .inr (.inr (.inr (.inr (fun i => if i < 16 then some (ra i) else none)))))), (kx, .inl (E.2.1 0, 8, .inl fx)), (o, .inr (2, [.ref ob, .int (nI siz)])), (ob, .inl (E.2.1 0, 160, .inl fm)), (ca, .inr (4, [.ref d, .ref cp, .ref c1, .ref c2])), (d, .inr (3, [.ref dd, .ref dq, .ref dr])), (dd, .inl (E.2.1 0, 16, .inl fD)), (dq, .inl (E.2.1 0, 16, .inl fq)), (dr, .inl (E.2.1 0, 8, .inl fr)), (cp, .inl (E.2.1 0, 16, .inl fp)), (c1, .inl (E.2.1 0, 8, .inl f1)), (c2, .inl (E.2.1 0, 8, .inl f2)), (a, .inl (E.2.1 0, 8, .inl u0)), (b, .inl (E.2.1 0, 8, .inl u1)), (v, .inl (E.2.1 0, 8, .inl u2)), (t, .inl (E.2.1 0, 8, .inl z)), (q, .inr (0, [.ref qb, .ref qg, .ref qf, .int (nI len), .int lat, .int nxt])), (qb, .inl (E.2.1 0, 96, .inl fb)), (qg, .inl (E.2.1 1, 96, .inl fg)), (qf, .inl (E.2.1 0, 96, .inl ff))] ++ k_rows E ra M) := hD
      refine lv_iconst (v := nI 0) hx hb d_Ru_step_70 (by decide) ?_
      exact hret _ ls _ _ _ ((m_fault len bb (bb ctr) gas siz cnt (wv u0 8) (wv u1 8), (if m_fault len bb (bb ctr) gas siz cnt (wv u0 8) (wv u1 8) = 4 then 0 else gas), ctr, siz, cnt, frm, rc, stk, mem), rf, M, fm, t11 fx u0 u1 u2 (t7 fD fq fr fp f1 f2 z)) d_Ru_step_71 (by decide) ⟨by rw [if_pos h4, mg_fault hT0 hT1 h62], by rw [decide_eq_false (fun q => h62 q.2)]; rfl, hfr, hsk, fun j hj => (hm j hj).1⟩ hP hS
  · refine lv_iconst (v := nI 0) hx hb d_Ru_step_7 (by decide) ?_
    exact hret _ ls _ _ _ ((en, gas, ctr, siz, cnt, frm, rc, stk, mem), rf, M, fm, t11 fx f x y (t7 fD fq fr fp f1 f2 z)) d_Ru_step_8 (by decide) ⟨(if_neg h4).symm, by rw [decide_eq_false (fun q => h4 q.1)]; rfl, hfr, hsk, fun j hj => (hm j hj).1⟩ hP hS

