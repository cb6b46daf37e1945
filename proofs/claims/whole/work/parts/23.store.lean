/-! the stack's rows: sixteen int[8] at addresses ra 0 .. ra 15 -/
def k_rows (E : kE) (ra : Nat → Nat) (M : Nat → Nat → Int32) : va_W := (List.range 16).map (fun i => (ra i, .inl (E.2.1 0, 8, .inl (M i))))
theorem k_rows_len (E : kE) (ra : Nat → Nat) (M : Nat → Nat → Int32) : (k_rows E ra M).length = 16 := by unfold k_rows; rw [List.length_map, List.length_range]
theorem k_rows_at {E : kE} {ra : Nat → Nat} {M : Nat → Nat → Int32} {k : Nat} (hk : k < 16) : (k_rows E ra M)[k]? = some (ra k, .inl (E.2.1 0, 8, .inl (M k))) := by
  unfold k_rows
  rw [List.getElem?_map, List.getElem?_range hk]
  rfl
theorem k_row {E : kE} {ra : Nat → Nat} {M : Nat → Nat → Int32} {X : va_W} {n k : Nat} (hn : X.length = n) (hk : k < 16) : (X ++ k_rows E ra M)[n + k]? = some (ra k, .inl (E.2.1 0, 8, .inl (M k))) := by
  rw [List.getElem?_append_right (by omega), hn, Nat.add_sub_cancel_left]
  exact k_rows_at hk
theorem k_row_set {E : kE} {ra : Nat → Nat} {M : Nat → Nat → Int32} {X : va_W} {n k : Nat} {f : Nat → Int32} (hn : X.length = n) (hk : k < 16) : (X ++ k_rows E ra M).set (n + k) (ra k, .inl (E.2.1 0, 8, .inl f)) = X ++ k_rows E ra (va_up M k f) := by
  rw [List.set_append_right _ _ (by omega), hn, Nat.add_sub_cancel_left]
  congr 1
  apply List.ext_getElem?
  intro j
  by_cases hj : j < 16
  · rw [k_rows_at hj]
    by_cases e : k = j
    · subst e
      rw [List.getElem?_set_self (by rw [k_rows_len]; exact hk), va_up_self]
    · rw [List.getElem?_set_ne e, k_rows_at hj, va_up_ne _ _ (Ne.symm e)]
  · rw [List.getElem?_eq_none (by rw [List.length_set, k_rows_len]; omega), List.getElem?_eq_none (by rw [k_rows_len]; omega)]
theorem k_nd2 {a b : Nat} (h : a ≠ b) : va_nd [a, b] = true := by simp [va_nd, h]
section KR
variable {p : Program} {l : Launch} {e : Env} {R : Room} {s : State} {m : MethodId} {args : Array Value} {below : List Frame} {meth : Method} {c : Code} {H : Heap} {locs : List Loc} {cells slots : Nat} {Q : State → Prop}
variable {cc : ByteArray} {pc : Nat} {ls : Array Slot} {rest : List Value} {E : kE} {ws : va_W} {a : Nat}
theorem k_aald (hexec : p.tables.exec = Jvm.exec) (hb : c.code = cc) (hK : va_K E.1 vwCl (kY E) s) (hP : va_P E.1 vwCl ws H) (q0 : Nat) {ra : Nat → Nat} (ha : ws[q0]? = some (a, .inl (E.2.1 2, 16, .inr (.inr (.inr (.inr (fun i => if i < 16 then some (ra i) else none))))))) {i : Nat} (hi : i < 16) (hdg : decode cc pc = .ok (.aaload, 1))
    (kk : W p l e R s m args below meth c H locs cells slots Q (F0 m (pc + 1) ls (.ref (ra i) :: rest))) : W p l e R s m args below meth c H locs cells slots Q (F0 m pc ls (.int (nI i) :: .ref a :: rest)) := by
  have hc : (nI i).toNatClampNeg = i := nI_clamp (by omega)
  refine W.aald (v := .ref (ra i)) (ty := .array .int) hexec hb (hP q0 _ ha) ((hK.2 2 _ rfl).1 16 (fun j => va_rf (if j < 16 then some (ra j) else none))) rfl (fun q => by cases q) ?_ ?_ rfl rfl hdg kk
  · show ¬ (nI i < 0 ∨ (arrV _ _ _).slots.size ≤ _)
    rw [arrV_size]
    exact vp_in_nI (N := 16) hi (by decide)
  · show (arrV _ _ _).slots[_]? = _
    rw [hc, arrV_read _ _ hi]
    show some (va_rf (if i < 16 then some (ra i) else none)) = _
    rw [if_pos hi]
    rfl
/-- an int of a row -/
theorem k_rald (hexec : p.tables.exec = Jvm.exec) (hb : c.code = cc) (hK : va_K E.1 vwCl (kY E) s) {X : va_W} {ra : Nat → Nat} {M : Nat → Nat → Int32} (hP : va_P E.1 vwCl (X ++ k_rows E ra M) H) {k i : Nat} (hk : k < 16) (hi : i < 8) (hdg : decode cc pc = .ok (.iaload, 1))
    (kk : W p l e R s m args below meth c H locs cells slots Q (F0 m (pc + 1) ls (.int (M k i) :: rest))) : W p l e R s m args below meth c H locs cells slots Q (F0 m pc ls (.int (nI i) :: .ref (ra k) :: rest)) :=
  k_iald hexec hb hK hP (X.length + k) (k_row rfl hk) hi (by decide) hdg kk
end KR
theorem max0 {a b : Nat} (ha : a < 1000000) (hb : b < 1000000) : (if nI 0 < nI a - nI b then nI a - nI b else nI 0) = nI (a - b) := by
  by_cases h : b ≤ a
  · rw [pk_sub h]
    by_cases h2 : 0 < a - b
    · rw [if_pos (nI_lt h2 (by omega))]
    · rw [if_neg (nI_nlt (by omega) (by decide)), show a - b = 0 by omega]
  · have h2 := pk_sneg (a := a) (b := b) (by omega) (by omega)
    rw [if_neg (fun q => ?_), show a - b = 0 by omega]
    rw [nI_0] at q
    rw [Int32.lt_iff_toInt_lt] at h2 q
    omega
/-! numbers of bytes -/
theorem rn0 {X c i : Nat} (hi : i < c) (hc : c ≤ 32) : X * 256 ^ (c - i) / 2 ^ (8 * (31 - (32 - c + i))) % 256 = 0 := by
  have e : 256 ^ (c - i) = 256 * 2 ^ (8 * (31 - (32 - c + i))) := by
    rw [Nat.pow_mul, show (2 ^ 8 : Nat) = 256 from rfl, show c - i = (31 - (32 - c + i)) + 1 by omega, Nat.pow_succ, Nat.mul_comm]
  rw [e, ← Nat.mul_assoc, Nat.mul_div_cancel _ (Nat.two_pow_pos _), Nat.mul_mod_left]
theorem rn1 {X y c i : Nat} (hi : i < c) (hc : c ≤ 32) : X * 256 ^ (c - i) + y * 2 ^ (8 * (31 - (32 - c + i))) = (X * 256 + y) * 256 ^ (c - (i + 1)) := by
  have e : 256 ^ (c - i) = 256 * 256 ^ (c - (i + 1)) := by
    rw [show c - i = (c - (i + 1)) + 1 by omega, Nat.pow_succ, Nat.mul_comm]
  have e2 : 2 ^ (8 * (31 - (32 - c + i))) = 256 ^ (c - (i + 1)) := by
    rw [Nat.pow_mul, show (2 ^ 8 : Nat) = 256 from rfl, show 31 - (32 - c + i) = c - (i + 1) by omega]
  rw [e, e2, Nat.add_mul, Nat.mul_assoc]
theorem wv_zero8 {f : Nat → Int32} (h : ∀ j, j < 8 → f j = 0) : wv f 8 = 0 := wv_is0.mpr h
theorem k_same {α : Type} {f : Nat → α} {k : Nat} : va_up f k (f k) = f := by
  funext j
  by_cases h : j = k
  · subst h; rw [va_up_self]
  · rw [va_up_ne _ _ h]
/-! worlds with a tail (the stack's rows): the callee gets some of the fixed cells, and the tail -/
theorem k_upd_len : ∀ (is : List Nat) (vs ws : va_W), (k_upd ws is vs).length = ws.length
  | [], vs, ws => by cases vs <;> simp [k_upd]
  | _ :: _, [], ws => by simp [k_upd]
  | i :: is, v :: vs, ws => by
    show (k_upd (ws.set i v) is vs).length = ws.length
    rw [k_upd_len is vs, List.length_set]
theorem k_frameT {A : Nat → Prop} {D : va_G} {cl : List vw_C} {X Y Y' R R' : va_W} {H H1 : Heap} {is : List Nat} (hP : va_P D cl (X ++ R) H) (hD : va_D A (X ++ R)) (hC : is.map (fun i => X[i]?) = Y.map some) (ho : Y'.map Prod.fst = Y.map Prod.fst) (hoR : R'.map Prod.fst = R.map Prod.fst)
    (hk : ∀ q : Nat, q < H.size → ¬ va_A (Y ++ R) H.size q → H1[q]? = H[q]?) (hP1 : va_P D cl (Y' ++ R') H1) : va_P D cl (k_upd X is Y' ++ R') H1 ∧ va_D A (k_upd X is Y' ++ R') := by
  have hl1 : is.length = Y.length := by simpa using congrArg List.length hC
  have hl2 : Y'.length = Y.length := by simpa using congrArg List.length ho
  have hl3 : R'.length = R.length := by simpa using congrArg List.length hoR
  have inl : ∀ (k : Nat) (q : Nat × va_E), X[k]? = some q → k < X.length ∧ (X ++ R)[k]? = some q := fun k q h => by
    have hk := (List.getElem?_eq_some_iff.mp h).1
    exact ⟨hk, by rw [List.getElem?_append_left hk]; exact h⟩
  have inr : ∀ (j : Nat) (q : Nat × va_E), R[j]? = some q → (X ++ R)[X.length + j]? = some q := fun j q h => by
    rw [List.getElem?_append_right (by omega), Nat.add_sub_cancel_left]; exact h
  have split : ∀ (k : Nat) (q : Nat × va_E), (k_upd X is Y' ++ R')[k]? = some q → (∃ j : Nat, is[j]? = some k ∧ Y'[j]? = some q) ∨ (X[k]? = some q ∧ k ∉ is) ∨ (∃ j : Nat, k = X.length + j ∧ R'[j]? = some q) := by
    intro k q h
    by_cases hk : k < X.length
    · rw [List.getElem?_append_left (by rw [k_upd_len]; exact hk)] at h
      rcases k_upd_at is Y' X k q (by omega) h with h | h
      · exact Or.inl h
      · exact Or.inr (Or.inl h)
    · rw [List.getElem?_append_right (by rw [k_upd_len]; omega), k_upd_len] at h
      exact Or.inr (Or.inr ⟨k - X.length, by omega, h⟩)
  have fstR : ∀ (j : Nat) (q : Nat × va_E), R'[j]? = some q → ∃ q0 : Nat × va_E, R[j]? = some q0 ∧ q0.1 = q.1 := by
    intro j q h
    have hj : j < R.length := by
      have := (List.getElem?_eq_some_iff.mp h).1
      omega
    refine ⟨R[j], List.getElem?_eq_getElem hj, ?_⟩
    have h6 : (R'.map Prod.fst)[j]? = (R.map Prod.fst)[j]? := by rw [hoR]
    rw [List.getElem?_map, List.getElem?_map, h, List.getElem?_eq_getElem hj] at h6
    exact (Option.some.inj h6).symm
  have at1 : ∀ (k : Nat) (q : Nat × va_E), (k_upd X is Y' ++ R')[k]? = some q → ∃ q0 : Nat × va_E, (X ++ R)[k]? = some q0 ∧ q0.1 = q.1 := by
    intro k q h
    rcases split k q h with ⟨j, h1, h2⟩ | ⟨h1, h2⟩ | ⟨j, h1, h2⟩
    · have hj : j < Y.length := by
        have := (List.getElem?_eq_some_iff.mp h2).1
        omega
      have h3 : Y[j]? = some Y[j] := List.getElem?_eq_getElem hj
      obtain ⟨i, h4, h5⟩ := va_in_of is hC h3
      have hik : i = k := Option.some.inj (h4.symm.trans h1)
      subst hik
      refine ⟨_, (inl i _ h5).2, ?_⟩
      have h6 : (Y'.map Prod.fst)[j]? = (Y.map Prod.fst)[j]? := by rw [ho]
      rw [List.getElem?_map, List.getElem?_map, h2, h3] at h6
      exact (Option.some.inj h6).symm
    · exact ⟨q, (inl k q h1).2, rfl⟩
    · subst h1
      obtain ⟨q0, g1, g2⟩ := fstR j q h2
      exact ⟨q0, inr j q0 g1, g2⟩
  refine ⟨fun k q h => ?_, fun i j x y hx hy hxy => ?_, fun k q h => ?_⟩
  · rcases split k q h with ⟨j, h1, h2⟩ | ⟨h1, h2⟩ | ⟨j, h1, h2⟩
    · exact hP1 j q (by rw [List.getElem?_append_left (List.getElem?_eq_some_iff.mp h2).1]; exact h2)
    · have hc := (inl k q h1).2
      refine (hP k q hc).kept (hk q.1 (hP k q hc).lt ?_)
      intro hA
      rcases hA with ⟨k2, e, h3⟩ | h3
      · by_cases hk2 : k2 < Y.length
        · rw [List.getElem?_append_left hk2] at h3
          obtain ⟨i, h4, h5⟩ := va_in_of is hC h3
          have := hD.1 k i q (q.1, e) hc (inl i _ h5).2 rfl
          subst this
          exact h2 (List.mem_of_getElem? h4)
        · rw [List.getElem?_append_right (by omega)] at h3
          have := hD.1 k _ q (q.1, e) hc (inr _ _ h3) rfl
          have := (inl k q h1).1
          omega
      · have := (hP k q hc).lt
        omega
    · exact hP1 (Y'.length + j) q (by rw [List.getElem?_append_right (by omega), Nat.add_sub_cancel_left]; exact h2)
  · obtain ⟨x0, g1, g2⟩ := at1 i x hx
    obtain ⟨y0, g3, g4⟩ := at1 j y hy
    exact hD.1 i j x0 y0 g1 g3 (by rw [g2, g4]; exact hxy)
  · obtain ⟨x0, g1, g2⟩ := at1 k q h
    rw [← g2]
    exact hD.2 k x0 g1
section KT
variable {p : Program} {l : Launch} {e : Env} {R : Room} {s : State} {m : MethodId} {args : Array Value} {below : List Frame} {meth : Method} {c : Code} {H : Heap} {locs : List Loc} {cells slots : Nat} {Q : State → Prop}
variable {cc : ByteArray} {pc : Nat} {ls : Array Slot} {rest st0 : List Value} {E : kE} {A : Nat → Prop} {X Y T : va_W} {isC : List Nat} {av : List Value}
theorem k_preST (hK : va_K E.1 vwCl (kY E) s) (hG : kG E A s) (hA : ∀ q : Nat, s.heap.size ≤ q → A q) (hP : va_P E.1 vwCl (X ++ T) H) (hD : va_D A (X ++ T)) (hS : va_S A s.heap H locs) (hC : isC.map (fun i => X[i]?) = Y.map some) (hn : va_nd isC = true) : PreS s H (va_Pc av (kIn E (Y ++ T) H.size)) av :=
  ⟨kIn.blind, fun U hU hW => ⟨rfl, by rw [hU], by rw [hU]; exact hP.part isC hC, va_K.moved hW.alike hK, (hD.part isC hn hC).weaken (fun _ _ _ _ => trivial), kG.call hG hS hU hW (va_freeP hD hS hA isC hC)⟩⟩
theorem k_preVT {b ci r0 : Nat} {C : String} {T0 : u_T} {N : Nat} {fs As : List Value} (hK : va_K E.1 vwCl (kY E) s) (hG : kG E A s) (hA : ∀ q : Nat, s.heap.size ≤ q → A q) (hP : va_P E.1 vwCl (X ++ T) H) (hD : va_D A (X ++ T)) (hS : va_S A s.heap H locs) (hC : isC.map (fun i => X[i]?) = Y.map some) (hn : va_nd isC = true) (he : X[r0]? = some (b, .inr (ci, fs))) (hc : vwCl[ci]? = some (C, T0, N)) : PreV s H C b (va_Pc (.ref b :: As) (kIn E (Y ++ T) H.size)) As := by
  obtain ⟨h1, h2⟩ := k_preST (av := .ref b :: As) hK hG hA hP hD hS hC hn
  exact ⟨h1, va_recv hK hP hc (q0 := r0) (by rw [List.getElem?_append_left (List.getElem?_eq_some_iff.mp he).1]; exact he), h2⟩
theorem k_rvT {a : Array Value} {S : Type} {post : S → Prop} {Y' T' : S → va_W} (hr : va_Run p l e R s m args below meth c H locs cells slots 0 0 (F0 m pc ls st0) rest (va_Qv post (fun u t => va_P E.1 vwCl (Y' u ++ T' u) t.heap) (va_A (Y ++ T) H.size) a) (va_A (Y ++ T) H.size))
    (hA : ∀ q : Nat, s.heap.size ≤ q → A q) (hP : va_P E.1 vwCl (X ++ T) H) (hD : va_D A (X ++ T)) (hS : va_S A s.heap H locs) (hC : isC.map (fun i => X[i]?) = Y.map some) (ho : ∀ u, (Y' u).map Prod.fst = Y.map Prod.fst) (hoT : ∀ u, (T' u).map Prod.fst = T.map Prod.fst)
    (kk : ∀ (u : S) (H1 : Heap) (locs1 : List Loc), post u → va_P E.1 vwCl (k_upd X isC (Y' u) ++ T' u) H1 → va_D A (k_upd X isC (Y' u) ++ T' u) → va_S A s.heap H1 locs1 → W p l e R s m args below meth c H1 locs1 cells slots Q (F0 m (pc + 3) ls rest)) : W p l e R s m args below meth c H locs cells slots Q (F0 m pc ls st0) := by
  refine va_callv hr hS (fun q _ h => va_freeP hD hS hA isC hC q h) (va_freeP hD hS hA isC hC) (fun u t H1 locs1 ht hvm hp hB hz hk hS1 => ?_)
  have hB' : va_P E.1 vwCl (Y' u ++ T' u) H1 := by rw [← ht]; exact hB
  obtain ⟨h1, h2⟩ := k_frameT hP hD hC (ho u) (hoT u) hk hB'
  exact kk u H1 locs1 hp h1 h2 hS1
theorem k_riT {a : Array Value} {S : Type} {post : Int32 → S → Prop} {Y' T' : S → va_W} (hr : va_Run p l e R s m args below meth c H locs cells slots 0 0 (F0 m pc ls st0) rest (va_Qi post (fun u t => va_P E.1 vwCl (Y' u ++ T' u) t.heap) (va_A (Y ++ T) H.size) a) (va_A (Y ++ T) H.size))
    (hA : ∀ q : Nat, s.heap.size ≤ q → A q) (hP : va_P E.1 vwCl (X ++ T) H) (hD : va_D A (X ++ T)) (hS : va_S A s.heap H locs) (hC : isC.map (fun i => X[i]?) = Y.map some) (ho : ∀ u, (Y' u).map Prod.fst = Y.map Prod.fst) (hoT : ∀ u, (T' u).map Prod.fst = T.map Prod.fst)
    (kk : ∀ (r : Int32) (u : S) (H1 : Heap) (locs1 : List Loc), post r u → va_P E.1 vwCl (k_upd X isC (Y' u) ++ T' u) H1 → va_D A (k_upd X isC (Y' u) ++ T' u) → va_S A s.heap H1 locs1 → W p l e R s m args below meth c H1 locs1 cells slots Q (F0 m (pc + 3) ls (.int r :: rest))) : W p l e R s m args below meth c H locs cells slots Q (F0 m pc ls st0) := by
  refine va_calli hr hS (fun q _ h => va_freeP hD hS hA isC hC q h) (va_freeP hD hS hA isC hC) (fun r u t H1 locs1 ht hvm hp hB hz hk hS1 => ?_)
  have hB' : va_P E.1 vwCl (Y' u ++ T' u) H1 := by rw [← ht]; exact hB
  obtain ⟨h1, h2⟩ := k_frameT hP hD hC (ho u) (hoT u) hk hB'
  exact kk r u H1 locs1 hp h1 h2 hS1
end KT
theorem k_rows_fst {E : kE} {ra : Nat → Nat} {M M' : Nat → Nat → Int32} : (k_rows E ra M').map Prod.fst = (k_rows E ra M).map Prod.fst := by
  unfold k_rows
  rw [List.map_map, List.map_map]
  rfl
section KDT
variable {p : Program} {l : Launch} {e : Env} {R : Room} {s : State} {m : MethodId} {args : Array Value} {below : List Frame} {meth : Method} {c : Code} {H : Heap} {locs : List Loc} {cells slots : Nat} {Q : State → Prop}
variable {cc bytes : ByteArray} {pc nL maxL n index : Nat} {ls : Array Slot} {rest st0 : List Value} {E : kE} {A : Nat → Prop} {X Y : va_W} {ra : Nat → Nat} {M : Nat → Nat → Int32} {As : List Value} {Ts wy : List Cond} {own : String} {y : MethodName} {rm : Room} {ret : Option FieldType}
theorem k_VpT {b ci : Nat} {C : String} {T : u_T} {N : Nat} {fs : List Value} {post : Int32 → Prop} (X0 : CallFix p m c cc nL s args Ts own) (hM : Kp l y wy rm E (.ref b :: As) (Y ++ k_rows E ra M) post) (cw : CallW R s args own C index y bytes maxL ret wy rm 0 0 n) (hK : va_K E.1 vwCl (kY E) s) (hG : kG E A s) (hA : ∀ q : Nat, s.heap.size ≤ q → A q) (hP : va_P E.1 vwCl (X ++ k_rows E ra M) H) (hD : va_D A (X ++ k_rows E ra M)) (hS : va_S A s.heap H locs) (isC : List Nat) (hC : isC.map (fun i => X[i]?) = Y.map some) (hn : va_nd isC = true) (r0 : Nat) (he : X[r0]? = some (b, .inr (ci, fs))) (hc : vwCl[ci]? = some (C, T, N)) (hlen : As.length = n) (hsz : ls.size = nL) (hst : st0 = As.reverse ++ .ref b :: rest) (hW : (rest.map fun v => v.category).sum ≤ 8) (hdg : decode cc pc = .ok (.invokevirtual index, 3)) (hcs : cells ≤ R.cells ∧ slots ≤ R.slots)
    (kk : ∀ r : Int32, post r → W p l e R s m args below meth c H locs cells slots Q (F0 m (pc + 3) ls (.int r :: rest))) : W p l e R s m args below meth c H locs cells slots Q (F0 m pc ls st0) :=
  k_rp (va_runV (g := F0 m pc ls st0) (As := As) (rest := rest) X0 (hM H.size) cw (k_preVT (r0 := r0) (ci := ci) hK hG hA hP hD hS hC hn he hc) rfl hlen hsz hst (lv_room hW) hdg hcs) kk
theorem k_VvT {b ci : Nat} {C : String} {T : u_T} {N : Nat} {fs : List Value} {S : Type} {post : S → Prop} {Y' : S → va_W} {M' : S → Nat → Nat → Int32} (X0 : CallFix p m c cc nL s args Ts own) (hM : Kv l y wy rm E (.ref b :: As) (Y ++ k_rows E ra M) post (fun u => Y' u ++ k_rows E ra (M' u))) (cw : CallW R s args own C index y bytes maxL ret wy rm 0 0 n) (hK : va_K E.1 vwCl (kY E) s) (hG : kG E A s) (hA : ∀ q : Nat, s.heap.size ≤ q → A q) (hP : va_P E.1 vwCl (X ++ k_rows E ra M) H) (hD : va_D A (X ++ k_rows E ra M)) (hS : va_S A s.heap H locs) (isC : List Nat) (hC : isC.map (fun i => X[i]?) = Y.map some) (hn : va_nd isC = true) (r0 : Nat) (he : X[r0]? = some (b, .inr (ci, fs))) (hc : vwCl[ci]? = some (C, T, N)) (ho : ∀ u, (Y' u).map Prod.fst = Y.map Prod.fst) (hlen : As.length = n) (hsz : ls.size = nL) (hst : st0 = As.reverse ++ .ref b :: rest) (hW : (rest.map fun v => v.category).sum ≤ 8) (hdg : decode cc pc = .ok (.invokevirtual index, 3)) (hcs : cells ≤ R.cells ∧ slots ≤ R.slots)
    (kk : ∀ (u : S) (H1 : Heap) (locs1 : List Loc), post u → va_P E.1 vwCl (k_upd X isC (Y' u) ++ k_rows E ra (M' u)) H1 → va_D A (k_upd X isC (Y' u) ++ k_rows E ra (M' u)) → va_S A s.heap H1 locs1 → W p l e R s m args below meth c H1 locs1 cells slots Q (F0 m (pc + 3) ls (rest))) : W p l e R s m args below meth c H locs cells slots Q (F0 m pc ls st0) :=
  k_rvT (va_runV (g := F0 m pc ls st0) (As := As) (rest := rest) X0 (hM H.size) cw (k_preVT (r0 := r0) (ci := ci) hK hG hA hP hD hS hC hn he hc) rfl hlen hsz hst (lv_room hW) hdg hcs) hA hP hD hS hC ho (fun _ => k_rows_fst) kk
theorem k_ViT {b ci : Nat} {C : String} {T : u_T} {N : Nat} {fs : List Value} {S : Type} {post : Int32 → S → Prop} {Y' : S → va_W} {M' : S → Nat → Nat → Int32} (X0 : CallFix p m c cc nL s args Ts own) (hM : Ki l y wy rm E (.ref b :: As) (Y ++ k_rows E ra M) post (fun u => Y' u ++ k_rows E ra (M' u))) (cw : CallW R s args own C index y bytes maxL ret wy rm 0 0 n) (hK : va_K E.1 vwCl (kY E) s) (hG : kG E A s) (hA : ∀ q : Nat, s.heap.size ≤ q → A q) (hP : va_P E.1 vwCl (X ++ k_rows E ra M) H) (hD : va_D A (X ++ k_rows E ra M)) (hS : va_S A s.heap H locs) (isC : List Nat) (hC : isC.map (fun i => X[i]?) = Y.map some) (hn : va_nd isC = true) (r0 : Nat) (he : X[r0]? = some (b, .inr (ci, fs))) (hc : vwCl[ci]? = some (C, T, N)) (ho : ∀ u, (Y' u).map Prod.fst = Y.map Prod.fst) (hlen : As.length = n) (hsz : ls.size = nL) (hst : st0 = As.reverse ++ .ref b :: rest) (hW : (rest.map fun v => v.category).sum ≤ 8) (hdg : decode cc pc = .ok (.invokevirtual index, 3)) (hcs : cells ≤ R.cells ∧ slots ≤ R.slots)
    (kk : ∀ (r : Int32) (u : S) (H1 : Heap) (locs1 : List Loc), post r u → va_P E.1 vwCl (k_upd X isC (Y' u) ++ k_rows E ra (M' u)) H1 → va_D A (k_upd X isC (Y' u) ++ k_rows E ra (M' u)) → va_S A s.heap H1 locs1 → W p l e R s m args below meth c H1 locs1 cells slots Q (F0 m (pc + 3) ls (.int r :: rest))) : W p l e R s m args below meth c H locs cells slots Q (F0 m pc ls st0) :=
  k_riT (va_runV (g := F0 m pc ls st0) (As := As) (rest := rest) X0 (hM H.size) cw (k_preVT (r0 := r0) (ci := ci) hK hG hA hP hD hS hC hn he hc) rfl hlen hsz hst (lv_room hW) hdg hcs) hA hP hD hS hC ho (fun _ => k_rows_fst) kk
end KDT

abbrev y_Pr_readNumber : MethodName := ⟨"WideStack$Program", "readNumber", "(I[I)V"⟩
theorem d_Pr_readNumber_0 : decode prog_6_method_8_code 0 = .ok (.aload_n 0, 1) := by decide +kernel
theorem d_Pr_readNumber_1 : decode prog_6_method_8_code 1 = .ok (.iload_n 1, 1) := by decide +kernel
theorem d_Pr_readNumber_2 : decode prog_6_method_8_code 2 = .ok (.invokevirtual 40, 3) := by decide +kernel
theorem d_Pr_readNumber_5 : decode prog_6_method_8_code 5 = .ok (.invokestatic 30, 3) := by decide +kernel
theorem d_Pr_readNumber_8 : decode prog_6_method_8_code 8 = .ok (.istore_n 3, 1) := by decide +kernel
theorem d_Pr_readNumber_9 : decode prog_6_method_8_code 9 = .ok (.aload_n 2, 1) := by decide +kernel
theorem d_Pr_readNumber_10 : decode prog_6_method_8_code 10 = .ok (.invokestatic 43, 3) := by decide +kernel
theorem d_Pr_readNumber_13 : decode prog_6_method_8_code 13 = .ok (.iconst 0, 1) := by decide +kernel
theorem d_Pr_readNumber_14 : decode prog_6_method_8_code 14 = .ok (.istore 4, 2) := by decide +kernel
theorem d_Pr_readNumber_16 : decode prog_6_method_8_code 16 = .ok (.iload 4, 2) := by decide +kernel
theorem d_Pr_readNumber_18 : decode prog_6_method_8_code 18 = .ok (.iload_n 3, 1) := by decide +kernel
theorem d_Pr_readNumber_19 : decode prog_6_method_8_code 19 = .ok (.if_icmp .ge 30, 3) := by decide +kernel
theorem d_Pr_readNumber_22 : decode prog_6_method_8_code 22 = .ok (.aload_n 2, 1) := by decide +kernel
theorem d_Pr_readNumber_23 : decode prog_6_method_8_code 23 = .ok (.bipush 32, 2) := by decide +kernel
theorem d_Pr_readNumber_25 : decode prog_6_method_8_code 25 = .ok (.iload_n 3, 1) := by decide +kernel
theorem d_Pr_readNumber_26 : decode prog_6_method_8_code 26 = .ok (.isub, 1) := by decide +kernel
theorem d_Pr_readNumber_27 : decode prog_6_method_8_code 27 = .ok (.iload 4, 2) := by decide +kernel
theorem d_Pr_readNumber_29 : decode prog_6_method_8_code 29 = .ok (.iadd, 1) := by decide +kernel
theorem d_Pr_readNumber_30 : decode prog_6_method_8_code 30 = .ok (.aload_n 0, 1) := by decide +kernel
theorem d_Pr_readNumber_31 : decode prog_6_method_8_code 31 = .ok (.iload_n 1, 1) := by decide +kernel
theorem d_Pr_readNumber_32 : decode prog_6_method_8_code 32 = .ok (.iconst 1, 1) := by decide +kernel
theorem d_Pr_readNumber_33 : decode prog_6_method_8_code 33 = .ok (.iadd, 1) := by decide +kernel
theorem d_Pr_readNumber_34 : decode prog_6_method_8_code 34 = .ok (.iload 4, 2) := by decide +kernel
theorem d_Pr_readNumber_36 : decode prog_6_method_8_code 36 = .ok (.iadd, 1) := by decide +kernel
theorem d_Pr_readNumber_37 : decode prog_6_method_8_code 37 = .ok (.invokevirtual 40, 3) := by decide +kernel
theorem d_Pr_readNumber_40 : decode prog_6_method_8_code 40 = .ok (.invokestatic 49, 3) := by decide +kernel
theorem d_Pr_readNumber_43 : decode prog_6_method_8_code 43 = .ok (.iinc 4 1, 3) := by decide +kernel
theorem d_Pr_readNumber_46 : decode prog_6_method_8_code 46 = .ok (.goto (-30), 3) := by decide +kernel
theorem d_Pr_readNumber_49 : decode prog_6_method_8_code 49 = .ok (.return_, 1) := by decide +kernel
def rm_c_P_readNumber : Room := { frames := 2, cells := 0, slots := 0, locals := 43 }
set_option maxHeartbeats 4000000 in
set_option maxRecDepth 100000 in
theorem c_P_readNumber (l : Launch) (E : kE) (q qb qg qf len : Nat) (lat nxt : Int32) (fb fg ff : Nat → Int32) (b : Nat → Nat) (ok : okP len b fb fg ff lat nxt) (j a : Nat) (f : Nat → Int32) (hj : j < 100000) : Kv l y_Pr_readNumber (kW y_Pr_readNumber prog_6_method_8_code 5 (none)) rm_c_P_readNumber E [.ref q, .int (nI j), .ref a] [(q, .inr (0, [.ref qb, .ref qg, .ref qf, .int (nI len), .int lat, .int nxt])), (qb, .inl (E.2.1 0, 96, .inl fb)), (qg, .inl (E.2.1 1, 96, .inl fg)), (qf, .inl (E.2.1 0, 96, .inl ff)), (a, .inl (E.2.1 0, 8, .inl f))] (S := Nat → Int32) (fun u => wv u 8 = m_num b (j + 1) (m_numl (b j))) (fun u => [(q, .inr (0, [.ref qb, .ref qg, .ref qf, .int (nI len), .int lat, .int nxt])), (qb, .inl (E.2.1 0, 96, .inl fb)), (qg, .inl (E.2.1 1, 96, .inl fg)), (qf, .inl (E.2.1 0, 96, .inl ff)), (a, .inl (E.2.1 0, 8, .inl u))]) := by
  refine Kv.ofW (cc := prog_6_method_8_code) (maxL := 5) (by decide) (Nat.le_of_ble_eq_true rfl) ?_
  intro p e s m args below meth c A ls Q hx hb hts hown hml hK hG hA hP hD hS hl hret
  have hl : lv_has ls 5 [(0, .ref q), (1, .int (nI j)), (2, .ref a)] := hl
  have hcl := m_numl_le (b j)
  refine lv_aload_n hx hb d_Pr_readNumber_0 rfl (lv_at hl 0 rfl) ?_
  refine lv_iload_n hx hb d_Pr_readNumber_1 rfl (lv_at hl 1 rfl) ?_
  refine k_Vp (As := [.int (nI j)]) (rest := []) ⟨hx, hb, hml, hown, hts⟩ (c_P_byteAt l E q qb qg qf len lat nxt fb fg ff b ok j (by omega)) (k_cwV 1 hts t_445 t_332 t_333 t_63 t_334 (by decide +kernel) ⟨Nat.le_of_ble_eq_true rfl, Nat.le_of_ble_eq_true rfl⟩) hK hG hA hP hD hS [0, 1, 2, 3] rfl (by decide) 0 rfl rfl rfl hl.1 rfl (Nat.le_of_ble_eq_true rfl) d_Pr_readNumber_2 ⟨Nat.zero_le _, Nat.zero_le _⟩ (fun r2 hu2 => ?_)
  subst hu2
  refine k_Sp (As := [.int (nI (b j))]) (rest := []) ⟨hx, hb, hml, hown, hts⟩ (c_I_numberLength l E (b j) (ok.2.2.1 j)) (k_cwS 1 hts t_263 t_264 t_72 t_265 (by decide +kernel) ⟨Nat.le_of_ble_eq_true rfl, Nat.le_of_ble_eq_true rfl⟩) hK hG hA hP hD hS [] rfl (by decide) rfl hl.1 rfl (Nat.le_of_ble_eq_true rfl) d_Pr_readNumber_5 ⟨Nat.zero_le _, Nat.zero_le _⟩ (fun r5 hu5 => ?_)
  subst hu5
  refine lv_istore_n (lv' := [(3, .int (nI (m_numl (b j)))), (0, .ref q), (1, .int (nI j)), (2, .ref a)]) hx hb d_Pr_readNumber_8 rfl hl (by decide) rfl (fun ls hl => ?_)
  refine lv_aload_n hx hb d_Pr_readNumber_9 rfl (lv_at hl 3 rfl) ?_
  refine k_Sv (As := [.ref a]) (rest := []) ⟨hx, hb, hml, hown, hts⟩ (c_W_makeZero l E a f) (k_cwS 1 hts t_459 t_348 t_73 t_349 (by decide +kernel) ⟨Nat.le_of_ble_eq_true rfl, Nat.le_of_ble_eq_true rfl⟩) hK hG hA hP hD hS [4] rfl (by decide) (fun _ => rfl) rfl hl.1 rfl (Nat.le_of_ble_eq_true rfl) d_Pr_readNumber_10 ⟨Nat.zero_le _, Nat.zero_le _⟩ (fun u0 H locs hu0 hP hD hS => ?_)
  have hP : va_P E.1 vwCl [(q, .inr (0, [.ref qb, .ref qg, .ref qf, .int (nI len), .int lat, .int nxt])), (qb, .inl (E.2.1 0, 96, .inl fb)), (qg, .inl (E.2.1 1, 96, .inl fg)), (qf, .inl (E.2.1 0, 96, .inl ff)), (a, .inl (E.2.1 0, 8, .inl u0))] H := hP
  have hD : va_D A [(q, .inr (0, [.ref qb, .ref qg, .ref qf, .int (nI len), .int lat, .int nxt])), (qb, .inl (E.2.1 0, 96, .inl fb)), (qg, .inl (E.2.1 1, 96, .inl fg)), (qf, .inl (E.2.1 0, 96, .inl ff)), (a, .inl (E.2.1 0, 8, .inl u0))] := hD
  refine lv_iconst (v := nI 0) hx hb d_Pr_readNumber_13 (by decide) ?_
  refine lv_istore (lv' := [(4, .int (nI 0)), (3, .int (nI (m_numl (b j)))), (0, .ref q), (1, .int (nI j)), (2, .ref a)]) hx hb d_Pr_readNumber_14 hl (by decide) rfl (fun ls hl => ?_)
  have key16 : ∀ (n : Nat) (i : Nat) (z : Nat → Int32) (H : Heap) (locs : List Loc) (ls : Array Slot), i + n = m_numl (b j) → (wv z 8 = m_num b (j + 1) i * 256 ^ (m_numl (b j) - i)) → lv_has ls 5 [(4, .int (nI i)), (3, .int (nI (m_numl (b j)))), (0, .ref q), (1, .int (nI j)), (2, .ref a)] → va_P E.1 vwCl [(q, .inr (0, [.ref qb, .ref qg, .ref qf, .int (nI len), .int lat, .int nxt])), (qb, .inl (E.2.1 0, 96, .inl fb)), (qg, .inl (E.2.1 1, 96, .inl fg)), (qf, .inl (E.2.1 0, 96, .inl ff)), (a, .inl (E.2.1 0, 8, .inl z))] H → va_D A [(q, .inr (0, [.ref qb, .ref qg, .ref qf, .int (nI len), .int lat, .int nxt])), (qb, .inl (E.2.1 0, 96, .inl fb)), (qg, .inl (E.2.1 1, 96, .inl fg)), (qf, .inl (E.2.1 0, 96, .inl ff)), (a, .inl (E.2.1 0, 8, .inl z))] → va_S A s.heap H locs → W p l e rm_c_P_readNumber s m args below meth c H locs 0 0 Q (F0 m 16 ls []) := by
    intro n
    induction n using Nat.strongRecOn with
    | ind n ih =>
      intro i z H locs ls hn hI hl hP hD hS
      refine lv_iload hx hb d_Pr_readNumber_16 (lv_at hl 0 rfl) ?_
      refine lv_iload_n hx hb d_Pr_readNumber_18 rfl (lv_at hl 1 rfl) ?_
      refine kn_ge (tgt := 49) hx hb (by omega) (by omega) d_Pr_readNumber_19 (by decide) (fun h19 => ?_) (fun h19 => ?_)
      · exact hret _ ls _ _ z d_Pr_readNumber_49 (by rw [hI, show i = m_numl (b j) by omega, Nat.sub_self, Nat.pow_zero, Nat.mul_one]) hP hS
      · refine lv_aload_n hx hb d_Pr_readNumber_22 rfl (lv_at hl 4 rfl) ?_
        refine lv_bipush (v := nI 32) hx hb d_Pr_readNumber_23 (by decide) ?_
        refine lv_iload_n hx hb d_Pr_readNumber_25 rfl (lv_at hl 1 rfl) ?_
        refine lv_isub hx hb d_Pr_readNumber_26 ?_
        refine k_top (pk_sub hcl) ?_
        refine lv_iload hx hb d_Pr_readNumber_27 (lv_at hl 0 rfl) ?_
        refine lv_iadd hx hb d_Pr_readNumber_29 ?_
        refine k_top (nI_add _ _) ?_
        refine lv_aload_n hx hb d_Pr_readNumber_30 rfl (lv_at hl 2 rfl) ?_
        refine lv_iload_n hx hb d_Pr_readNumber_31 rfl (lv_at hl 3 rfl) ?_
        refine lv_iconst (v := nI 1) hx hb d_Pr_readNumber_32 (by decide) ?_
        refine lv_iadd hx hb d_Pr_readNumber_33 ?_
        refine k_top (nI_add _ _) ?_
        refine lv_iload hx hb d_Pr_readNumber_34 (lv_at hl 0 rfl) ?_
        refine lv_iadd hx hb d_Pr_readNumber_36 ?_
        refine k_top (nI_add _ _) ?_
        refine k_Vp (As := [.int (nI ((j + 1) + i))]) (rest := [.int (nI ((32 - (m_numl (b j))) + i)), .ref a]) ⟨hx, hb, hml, hown, hts⟩ (c_P_byteAt l E q qb qg qf len lat nxt fb fg ff b ok (j + 1 + i) (by omega)) (k_cwV 1 hts t_445 t_332 t_333 t_63 t_334 (by decide +kernel) ⟨Nat.le_of_ble_eq_true rfl, Nat.le_of_ble_eq_true rfl⟩) hK hG hA hP hD hS [0, 1, 2, 3] rfl (by decide) 0 rfl rfl rfl hl.1 rfl (Nat.le_of_ble_eq_true rfl) d_Pr_readNumber_37 ⟨Nat.zero_le _, Nat.zero_le _⟩ (fun r37 hu37 => ?_)
        subst hu37
        refine k_Sv (As := [.ref a, .int (nI ((32 - (m_numl (b j))) + i)), .int (nI (b (j + 1 + i)))]) (rest := []) ⟨hx, hb, hml, hown, hts⟩ (c_W_setByte l E a (32 - m_numl (b j) + i) (b (j + 1 + i)) z (by omega) (ok.2.2.1 _) (by rw [hI]; exact rn0 h19 hcl)) (k_cwS 3 hts t_460 t_461 t_73 t_462 (by decide +kernel) ⟨Nat.le_of_ble_eq_true rfl, Nat.le_of_ble_eq_true rfl⟩) hK hG hA hP hD hS [4] rfl (by decide) (fun _ => rfl) rfl hl.1 rfl (Nat.le_of_ble_eq_true rfl) d_Pr_readNumber_40 ⟨Nat.zero_le _, Nat.zero_le _⟩ (fun u H locs hu hP hD hS => ?_)
        have hP : va_P E.1 vwCl [(q, .inr (0, [.ref qb, .ref qg, .ref qf, .int (nI len), .int lat, .int nxt])), (qb, .inl (E.2.1 0, 96, .inl fb)), (qg, .inl (E.2.1 1, 96, .inl fg)), (qf, .inl (E.2.1 0, 96, .inl ff)), (a, .inl (E.2.1 0, 8, .inl u))] H := hP
        have hD : va_D A [(q, .inr (0, [.ref qb, .ref qg, .ref qf, .int (nI len), .int lat, .int nxt])), (qb, .inl (E.2.1 0, 96, .inl fb)), (qg, .inl (E.2.1 1, 96, .inl fg)), (qf, .inl (E.2.1 0, 96, .inl ff)), (a, .inl (E.2.1 0, 8, .inl u))] := hD
        refine lv_iinc (k := 0) (v := nI (i + 1)) (lv' := [(4, .int (nI (i + 1))), (3, .int (nI (m_numl (b j)))), (0, .ref q), (1, .int (nI j)), (2, .ref a)]) hx hb d_Pr_readNumber_43 hl rfl (k_inc _) (by decide) rfl (fun ls hl => ?_)
        refine lv_goto (tgt := 16) hx hb d_Pr_readNumber_46 (by decide) ?_
        exact ih (n - 1) (by omega) (i + 1) u _ _ ls (by omega) (by rw [hu, hI]; exact rn1 h19 hcl) (lv_sub hl [0, 1, 2, 3, 4] rfl) hP hD hS
  exact key16 (m_numl (b j)) 0 u0 _ _ ls (by omega) (by rw [wv_zero8 hu0]; simp [m_num]) (lv_sub hl [0, 1, 2, 3, 4] rfl) hP hD hS

abbrev y_So_empty : MethodName := ⟨"WideStack$Store", "empty", "()V"⟩
theorem d_So_empty_0 : decode prog_9_method_2_code 0 = .ok (.aload_n 0, 1) := by decide +kernel
theorem d_So_empty_1 : decode prog_9_method_2_code 1 = .ok (.getfield 9, 3) := by decide +kernel
theorem d_So_empty_4 : decode prog_9_method_2_code 4 = .ok (.iconst 0, 1) := by decide +kernel
theorem d_So_empty_5 : decode prog_9_method_2_code 5 = .ok (.invokestatic 17, 3) := by decide +kernel
theorem d_So_empty_8 : decode prog_9_method_2_code 8 = .ok (.aload_n 0, 1) := by decide +kernel
theorem d_So_empty_9 : decode prog_9_method_2_code 9 = .ok (.iconst 0, 1) := by decide +kernel
theorem d_So_empty_10 : decode prog_9_method_2_code 10 = .ok (.putfield 13, 3) := by decide +kernel
theorem d_So_empty_13 : decode prog_9_method_2_code 13 = .ok (.return_, 1) := by decide +kernel
def rm_c_So_empty : Room := { frames := 1, cells := 0, slots := 0, locals := 23 }
set_option maxHeartbeats 4000000 in
set_option maxRecDepth 100000 in
theorem c_So_empty (l : Launch) (E : kE) (o ob siz : Nat) (fm : Nat → Int32) : Kv l y_So_empty (kW y_So_empty prog_9_method_2_code 1 (none)) rm_c_So_empty E [.ref o] [(o, .inr (2, [.ref ob, .int (nI siz)])), (ob, .inl (E.2.1 0, 160, .inl fm))] (S := Nat → Int32) (fun u => ∀ j, j < 160 → u j = nI 0) (fun u => [(o, .inr (2, [.ref ob, .int (nI 0)])), (ob, .inl (E.2.1 0, 160, .inl u))]) := by
  refine Kv.ofW (cc := prog_9_method_2_code) (maxL := 1) (by decide) (Nat.le_of_ble_eq_true rfl) ?_
  intro p e s m args below meth c A ls Q hx hb hts hown hml hK hG hA hP hD hS hl hret
  have hl : lv_has ls 1 [(0, .ref o)] := hl
  refine lv_aload_n hx hb d_So_empty_0 rfl (lv_at hl 0 rfl) ?_
  refine va_get (D := E.1) (ci := 2) (v := .ref ob) (C := "WideStack$Store") (T := T_So) (N := 2) hx hb hts in_So hown hK hP 0 rfl rfl 0 (by decide) (hts _ t_141) (fun _ h9 => h9) rfl d_So_empty_1 ?_
  refine lv_iconst (v := nI 0) hx hb d_So_empty_4 (by decide) ?_
  refine k_Sv (As := [.ref ob, .int (nI 0)]) (rest := []) ⟨hx, hb, hml, hown, hts⟩ (c_fill l E ob 160 fm (nI 0) (by decide)) (k_cwS 2 hts t_290 t_233 t_70 t_234 (by decide +kernel) ⟨Nat.le_of_ble_eq_true rfl, Nat.le_of_ble_eq_true rfl⟩) hK hG hA hP hD hS [1] rfl (by decide) (fun _ => rfl) rfl hl.1 rfl (Nat.le_of_ble_eq_true rfl) d_So_empty_5 ⟨Nat.zero_le _, Nat.zero_le _⟩ (fun u H locs hu hP hD hS => ?_)
  have hP : va_P E.1 vwCl [(o, .inr (2, [.ref ob, .int (nI siz)])), (ob, .inl (E.2.1 0, 160, .inl u))] H := hP
  have hD : va_D A [(o, .inr (2, [.ref ob, .int (nI siz)])), (ob, .inl (E.2.1 0, 160, .inl u))] := hD
  refine lv_aload_n hx hb d_So_empty_8 rfl (lv_at hl 0 rfl) ?_
  refine lv_iconst (v := nI 0) hx hb d_So_empty_9 (by decide) ?_
  refine va_put (D := E.1) (ci := 2) (v := .int (nI 0)) (ty := .int) (C := "WideStack$Store") (T := T_So) (N := 2) hx hb hts in_So ty_So tyok_So nm_So hown hK hP hD hS 0 rfl rfl 1 (by decide) (hts _ t_142) (fun _ h9 => h9) rfl (by decide +kernel) rfl rfl (Nat.le_of_ble_eq_true rfl) d_So_empty_10 (fun H locs hP hD hS => ?_)
  have hP : va_P E.1 vwCl [(o, .inr (2, [.ref ob, .int (nI 0)])), (ob, .inl (E.2.1 0, 160, .inl u))] H := hP
  have hD : va_D A [(o, .inr (2, [.ref ob, .int (nI 0)])), (ob, .inl (E.2.1 0, 160, .inl u))] := hD
  exact hret _ ls _ _ u d_So_empty_13 hu hP hS

abbrev y_So_size : MethodName := ⟨"WideStack$Store", "size", "()I"⟩
theorem d_So_size_0 : decode prog_9_method_3_code 0 = .ok (.aload_n 0, 1) := by decide +kernel
theorem d_So_size_1 : decode prog_9_method_3_code 1 = .ok (.getfield 13, 3) := by decide +kernel
theorem d_So_size_4 : decode prog_9_method_3_code 4 = .ok (.ireturn, 1) := by decide +kernel
def rm_c_So_size : Room := { frames := 0, cells := 0, slots := 0, locals := 0 }
set_option maxHeartbeats 4000000 in
set_option maxRecDepth 100000 in
theorem c_So_size (l : Launch) (E : kE) (o ob siz : Nat) (fm : Nat → Int32) : Kp l y_So_size (kW y_So_size prog_9_method_3_code 1 (some .int)) rm_c_So_size E [.ref o] [(o, .inr (2, [.ref ob, .int (nI siz)])), (ob, .inl (E.2.1 0, 160, .inl fm))] (fun r => r = nI siz) := by
  refine Kp.ofI (cc := prog_9_method_3_code) (maxL := 1) (by decide) (Nat.le_of_ble_eq_true rfl) ?_
  intro p e s m args below meth c A ls Q hx hb hts hown hml hK hG hA hP hD hS hl hret
  have hl : lv_has ls 1 [(0, .ref o)] := hl
  refine lv_aload_n hx hb d_So_size_0 rfl (lv_at hl 0 rfl) ?_
  refine va_get (D := E.1) (ci := 2) (v := .int (nI siz)) (C := "WideStack$Store") (T := T_So) (N := 2) hx hb hts in_So hown hK hP 0 rfl rfl 1 (by decide) (hts _ t_142) (fun _ h9 => h9) rfl d_So_size_1 ?_
  exact hret _ ls _ d_So_size_4 rfl

abbrev y_So_growth : MethodName := ⟨"WideStack$Store", "growth", "(I)I"⟩
theorem d_So_growth_0 : decode prog_9_method_4_code 0 = .ok (.iload_n 1, 1) := by decide +kernel
theorem d_So_growth_1 : decode prog_9_method_4_code 1 = .ok (.bipush 32, 2) := by decide +kernel
theorem d_So_growth_3 : decode prog_9_method_4_code 3 = .ok (.iadd, 1) := by decide +kernel
theorem d_So_growth_4 : decode prog_9_method_4_code 4 = .ok (.iconst 1, 1) := by decide +kernel
theorem d_So_growth_5 : decode prog_9_method_4_code 5 = .ok (.isub, 1) := by decide +kernel
theorem d_So_growth_6 : decode prog_9_method_4_code 6 = .ok (.bipush 32, 2) := by decide +kernel
theorem d_So_growth_8 : decode prog_9_method_4_code 8 = .ok (.idiv, 1) := by decide +kernel
theorem d_So_growth_9 : decode prog_9_method_4_code 9 = .ok (.istore_n 2, 1) := by decide +kernel
theorem d_So_growth_10 : decode prog_9_method_4_code 10 = .ok (.iconst 0, 1) := by decide +kernel
theorem d_So_growth_11 : decode prog_9_method_4_code 11 = .ok (.iload_n 2, 1) := by decide +kernel
theorem d_So_growth_12 : decode prog_9_method_4_code 12 = .ok (.aload_n 0, 1) := by decide +kernel
theorem d_So_growth_13 : decode prog_9_method_4_code 13 = .ok (.getfield 13, 3) := by decide +kernel
theorem d_So_growth_16 : decode prog_9_method_4_code 16 = .ok (.bipush 32, 2) := by decide +kernel
theorem d_So_growth_18 : decode prog_9_method_4_code 18 = .ok (.idiv, 1) := by decide +kernel
theorem d_So_growth_19 : decode prog_9_method_4_code 19 = .ok (.isub, 1) := by decide +kernel
theorem d_So_growth_20 : decode prog_9_method_4_code 20 = .ok (.invokestatic 23, 3) := by decide +kernel
theorem d_So_growth_23 : decode prog_9_method_4_code 23 = .ok (.ireturn, 1) := by decide +kernel
def rm_c_So_growth : Room := { frames := 1, cells := 0, slots := 0, locals := 20 }
set_option maxHeartbeats 4000000 in
set_option maxRecDepth 100000 in
theorem c_So_growth (l : Launch) (E : kE) (o ob siz n0 : Nat) (fm : Nat → Int32) (h1 : siz < 100000) (h2 : n0 < 100000) : Kp l y_So_growth (kW y_So_growth prog_9_method_4_code 3 (some .int)) rm_c_So_growth E [.ref o, .int (nI n0)] [(o, .inr (2, [.ref ob, .int (nI siz)])), (ob, .inl (E.2.1 0, 160, .inl fm))] (fun r => r = nI ((n0 + 31) / 32 - siz / 32)) := by
  refine Kp.ofI (cc := prog_9_method_4_code) (maxL := 3) (by decide) (Nat.le_of_ble_eq_true rfl) ?_
  intro p e s m args below meth c A ls Q hx hb hts hown hml hK hG hA hP hD hS hl hret
  have hl : lv_has ls 3 [(0, .ref o), (1, .int (nI n0))] := hl
  refine lv_iload_n hx hb d_So_growth_0 rfl (lv_at hl 1 rfl) ?_
  refine lv_bipush (v := nI 32) hx hb d_So_growth_1 (by decide) ?_
  refine lv_iadd hx hb d_So_growth_3 ?_
  refine k_top (nI_add _ _) ?_
  refine lv_iconst (v := nI 1) hx hb d_So_growth_4 (by decide) ?_
  refine lv_isub hx hb d_So_growth_5 ?_
  refine k_top (pk_sub (by omega)) ?_
  refine lv_bipush (v := nI 32) hx hb d_So_growth_6 (by decide) ?_
  refine lv_idiv hx hb d_So_growth_8 (by decide) ?_
  refine k_top (pk_div (by omega) (by decide) (by decide)) ?_
  refine lv_istore_n (lv' := [(2, .int (nI (((n0 + 32) - 1) / 32))), (0, .ref o), (1, .int (nI n0))]) hx hb d_So_growth_9 rfl hl (by decide) rfl (fun ls hl => ?_)
  refine lv_iconst (v := nI 0) hx hb d_So_growth_10 (by decide) ?_
  refine lv_iload_n hx hb d_So_growth_11 rfl (lv_at hl 0 rfl) ?_
  refine lv_aload_n hx hb d_So_growth_12 rfl (lv_at hl 1 rfl) ?_
  refine va_get (D := E.1) (ci := 2) (v := .int (nI siz)) (C := "WideStack$Store") (T := T_So) (N := 2) hx hb hts in_So hown hK hP 0 rfl rfl 1 (by decide) (hts _ t_142) (fun _ h9 => h9) rfl d_So_growth_13 ?_
  refine lv_bipush (v := nI 32) hx hb d_So_growth_16 (by decide) ?_
  refine lv_idiv hx hb d_So_growth_18 (by decide) ?_
  refine k_top (pk_div (by omega) (by decide) (by decide)) ?_
  refine lv_isub hx hb d_So_growth_19 ?_
  refine va_mmax hx hb (hml.trans hl.1.symm) hown (hts _ t_397) (hts _ t_398) (hts _ t_75) (hts _ t_399) (Nat.le_of_ble_eq_true rfl) (Nat.le_of_ble_eq_true rfl) (Nat.zero_le _) (Nat.zero_le _) d_So_growth_20 ?_
  refine k_top (max0 (by omega) (by omega)) ?_
  exact hret _ ls _ d_So_growth_23 rfl

abbrev y_So_growFor : MethodName := ⟨"WideStack$Store", "growFor", "(I)V"⟩
theorem d_So_growFor_0 : decode prog_9_method_5_code 0 = .ok (.aload_n 0, 1) := by decide +kernel
theorem d_So_growFor_1 : decode prog_9_method_5_code 1 = .ok (.dup, 1) := by decide +kernel
theorem d_So_growFor_2 : decode prog_9_method_5_code 2 = .ok (.getfield 13, 3) := by decide +kernel
theorem d_So_growFor_5 : decode prog_9_method_5_code 5 = .ok (.bipush 32, 2) := by decide +kernel
theorem d_So_growFor_7 : decode prog_9_method_5_code 7 = .ok (.aload_n 0, 1) := by decide +kernel
theorem d_So_growFor_8 : decode prog_9_method_5_code 8 = .ok (.iload_n 1, 1) := by decide +kernel
theorem d_So_growFor_9 : decode prog_9_method_5_code 9 = .ok (.invokevirtual 29, 3) := by decide +kernel
theorem d_So_growFor_12 : decode prog_9_method_5_code 12 = .ok (.imul, 1) := by decide +kernel
theorem d_So_growFor_13 : decode prog_9_method_5_code 13 = .ok (.iadd, 1) := by decide +kernel
theorem d_So_growFor_14 : decode prog_9_method_5_code 14 = .ok (.putfield 13, 3) := by decide +kernel
theorem d_So_growFor_17 : decode prog_9_method_5_code 17 = .ok (.return_, 1) := by decide +kernel
def rm_c_So_growFor : Room := { frames := 2, cells := 0, slots := 0, locals := 42 }
set_option maxHeartbeats 4000000 in
set_option maxRecDepth 100000 in
theorem c_So_growFor (l : Launch) (E : kE) (o ob siz n0 : Nat) (fm : Nat → Int32) (h1 : siz < 100000) (h2 : n0 < 100000) : Kv l y_So_growFor (kW y_So_growFor prog_9_method_5_code 2 (none)) rm_c_So_growFor E [.ref o, .int (nI n0)] [(o, .inr (2, [.ref ob, .int (nI siz)])), (ob, .inl (E.2.1 0, 160, .inl fm))] (S := Unit) (fun _ => True) (fun _ => [(o, .inr (2, [.ref ob, .int (nI (siz + 32 * ((n0 + 31) / 32 - siz / 32)))])), (ob, .inl (E.2.1 0, 160, .inl fm))]) := by
  refine Kv.ofW (cc := prog_9_method_5_code) (maxL := 2) (by decide) (Nat.le_of_ble_eq_true rfl) ?_
  intro p e s m args below meth c A ls Q hx hb hts hown hml hK hG hA hP hD hS hl hret
  have hl : lv_has ls 2 [(0, .ref o), (1, .int (nI n0))] := hl
  refine lv_aload_n hx hb d_So_growFor_0 rfl (lv_at hl 0 rfl) ?_
  refine lv_dup hx hb d_So_growFor_1 rfl ?_
  refine va_get (D := E.1) (ci := 2) (v := .int (nI siz)) (C := "WideStack$Store") (T := T_So) (N := 2) hx hb hts in_So hown hK hP 0 rfl rfl 1 (by decide) (hts _ t_142) (fun _ h9 => h9) rfl d_So_growFor_2 ?_
  refine lv_bipush (v := nI 32) hx hb d_So_growFor_5 (by decide) ?_
  refine lv_aload_n hx hb d_So_growFor_7 rfl (lv_at hl 0 rfl) ?_
  refine lv_iload_n hx hb d_So_growFor_8 rfl (lv_at hl 1 rfl) ?_
  refine k_Vp (As := [.int (nI n0)]) (rest := [.int (nI 32), .int (nI siz), .ref o]) ⟨hx, hb, hml, hown, hts⟩ (c_So_growth l E o ob siz n0 fm h1 h2) (k_cwV 1 hts t_424 t_394 t_395 t_66 t_396 (by decide +kernel) ⟨Nat.le_of_ble_eq_true rfl, Nat.le_of_ble_eq_true rfl⟩) hK hG hA hP hD hS [0, 1] rfl (by decide) 0 rfl rfl rfl hl.1 rfl (Nat.le_of_ble_eq_true rfl) d_So_growFor_9 ⟨Nat.zero_le _, Nat.zero_le _⟩ (fun r9 hu9 => ?_)
  subst hu9
  refine lv_imul hx hb d_So_growFor_12 ?_
  refine k_top (pk_mul _ _) ?_
  refine lv_iadd hx hb d_So_growFor_13 ?_
  refine k_top (nI_add _ _) ?_
  refine va_put (D := E.1) (ci := 2) (v := .int (nI (siz + (32 * ((n0 + 31) / 32 - siz / 32))))) (ty := .int) (C := "WideStack$Store") (T := T_So) (N := 2) hx hb hts in_So ty_So tyok_So nm_So hown hK hP hD hS 0 rfl rfl 1 (by decide) (hts _ t_142) (fun _ h9 => h9) rfl (by decide +kernel) rfl rfl (Nat.le_of_ble_eq_true rfl) d_So_growFor_14 (fun H locs hP hD hS => ?_)
  have hP : va_P E.1 vwCl [(o, .inr (2, [.ref ob, .int (nI (siz + (32 * ((n0 + 31) / 32 - siz / 32))))])), (ob, .inl (E.2.1 0, 160, .inl fm))] H := hP
  have hD : va_D A [(o, .inr (2, [.ref ob, .int (nI (siz + (32 * ((n0 + 31) / 32 - siz / 32))))])), (ob, .inl (E.2.1 0, 160, .inl fm))] := hD
  exact hret _ ls _ _ () d_So_growFor_17 trivial hP hS

abbrev y_So_isInside : MethodName := ⟨"WideStack$Store", "isInside", "(I)Z"⟩
theorem d_So_isInside_0 : decode prog_9_method_10_code 0 = .ok (.iload_n 0, 1) := by decide +kernel
theorem d_So_isInside_1 : decode prog_9_method_10_code 1 = .ok (.ifCond .lt 14, 3) := by decide +kernel
theorem d_So_isInside_4 : decode prog_9_method_10_code 4 = .ok (.iload_n 0, 1) := by decide +kernel
theorem d_So_isInside_5 : decode prog_9_method_10_code 5 = .ok (.sipush 160, 3) := by decide +kernel
theorem d_So_isInside_8 : decode prog_9_method_10_code 8 = .ok (.if_icmp .ge 7, 3) := by decide +kernel
theorem d_So_isInside_11 : decode prog_9_method_10_code 11 = .ok (.iconst 1, 1) := by decide +kernel
theorem d_So_isInside_12 : decode prog_9_method_10_code 12 = .ok (.goto 4, 3) := by decide +kernel
theorem d_So_isInside_15 : decode prog_9_method_10_code 15 = .ok (.iconst 0, 1) := by decide +kernel
theorem d_So_isInside_16 : decode prog_9_method_10_code 16 = .ok (.ireturn, 1) := by decide +kernel
def rm_c_So_isInside : Room := { frames := 0, cells := 0, slots := 0, locals := 0 }
set_option maxHeartbeats 4000000 in
set_option maxRecDepth 100000 in
theorem c_So_isInside (l : Launch) (E : kE) (x : Int32) : Kp l y_So_isInside (kW y_So_isInside prog_9_method_10_code 1 (some .boolean)) rm_c_So_isInside E [.int x] [] (fun r => r = kb (m_in x 160)) := by
  refine Kp.ofZ (cc := prog_9_method_10_code) (maxL := 1) (by decide) (Nat.le_of_ble_eq_true rfl) ?_
  intro p e s m args below meth c A ls Q hx hb hts hown hml hK hG hA hP hD hS hl hret
  have hl : lv_has ls 1 [(0, .int x)] := hl
  refine lv_iload_n hx hb d_So_isInside_0 rfl (lv_at hl 0 rfl) ?_
  refine lv_if_lt (tgt := 15) hx hb d_So_isInside_1 (by decide) (fun h1 => ?_) (fun h1 => ?_)
  · refine lv_iconst (v := nI 0) hx hb d_So_isInside_15 (by decide) ?_
    first | exact hret _ ls _ d_So_isInside_16 (by decide) (by rw [m_in_t (by decide) h1 h8]; rfl) | exact hret _ ls _ d_So_isInside_16 (by decide) (by rw [m_in_f1 h1]; rfl) | exact hret _ ls _ d_So_isInside_16 (by decide) (by rw [m_in_f2 h8]; rfl)
  · refine lv_iload_n hx hb d_So_isInside_4 rfl (lv_at hl 0 rfl) ?_
    refine lv_sipush (v := nI 160) hx hb d_So_isInside_5 (by decide) ?_
    refine lv_icmp_ge (tgt := 15) hx hb d_So_isInside_8 (by decide) (fun h8 => ?_) (fun h8 => ?_)
    · refine lv_iconst (v := nI 0) hx hb d_So_isInside_15 (by decide) ?_
      first | exact hret _ ls _ d_So_isInside_16 (by decide) (by rw [m_in_t (by decide) h1 h8]; rfl) | exact hret _ ls _ d_So_isInside_16 (by decide) (by rw [m_in_f1 h1]; rfl) | exact hret _ ls _ d_So_isInside_16 (by decide) (by rw [m_in_f2 h8]; rfl)
    · refine lv_iconst (v := nI 1) hx hb d_So_isInside_11 (by decide) ?_
      refine lv_goto (tgt := 16) hx hb d_So_isInside_12 (by decide) ?_
      first | exact hret _ ls _ d_So_isInside_16 (by decide) (by rw [m_in_t (by decide) h1 h8]; rfl) | exact hret _ ls _ d_So_isInside_16 (by decide) (by rw [m_in_f1 h1]; rfl) | exact hret _ ls _ d_So_isInside_16 (by decide) (by rw [m_in_f2 h8]; rfl)

abbrev y_So_byteAt : MethodName := ⟨"WideStack$Store", "byteAt", "(I)I"⟩
theorem d_So_byteAt_0 : decode prog_9_method_6_code 0 = .ok (.iload_n 1, 1) := by decide +kernel
theorem d_So_byteAt_1 : decode prog_9_method_6_code 1 = .ok (.invokestatic 33, 3) := by decide +kernel
theorem d_So_byteAt_4 : decode prog_9_method_6_code 4 = .ok (.ifCond .eq 12, 3) := by decide +kernel
theorem d_So_byteAt_7 : decode prog_9_method_6_code 7 = .ok (.aload_n 0, 1) := by decide +kernel
theorem d_So_byteAt_8 : decode prog_9_method_6_code 8 = .ok (.getfield 9, 3) := by decide +kernel
theorem d_So_byteAt_11 : decode prog_9_method_6_code 11 = .ok (.iload_n 1, 1) := by decide +kernel
theorem d_So_byteAt_12 : decode prog_9_method_6_code 12 = .ok (.iaload, 1) := by decide +kernel
theorem d_So_byteAt_13 : decode prog_9_method_6_code 13 = .ok (.goto 4, 3) := by decide +kernel
theorem d_So_byteAt_16 : decode prog_9_method_6_code 16 = .ok (.iconst (-1), 1) := by decide +kernel
theorem d_So_byteAt_17 : decode prog_9_method_6_code 17 = .ok (.ireturn, 1) := by decide +kernel
def rm_c_So_byteAt : Room := { frames := 1, cells := 0, slots := 0, locals := 20 }
set_option maxHeartbeats 4000000 in
set_option maxRecDepth 100000 in
theorem c_So_byteAt (l : Launch) (E : kE) (o ob siz : Nat) (fm : Nat → Int32) (mem : Nat → Nat) (hm : ∀ j, j < 160 → fm j = nI (mem j) ∧ mem j < 256) (x : Int32) : Kp l y_So_byteAt (kW y_So_byteAt prog_9_method_6_code 2 (some .int)) rm_c_So_byteAt E [.ref o, .int x] [(o, .inr (2, [.ref ob, .int (nI siz)])), (ob, .inl (E.2.1 0, 160, .inl fm))] (fun r => r = if m_in x 160 then nI (mem x.toNatClampNeg) else -1) := by
  refine Kp.ofI (cc := prog_9_method_6_code) (maxL := 2) (by decide) (Nat.le_of_ble_eq_true rfl) ?_
  intro p e s m args below meth c A ls Q hx hb hts hown hml hK hG hA hP hD hS hl hret
  have hl : lv_has ls 2 [(0, .ref o), (1, .int x)] := hl
  refine lv_iload_n hx hb d_So_byteAt_0 rfl (lv_at hl 1 rfl) ?_
  refine k_Sp (As := [.int x]) (rest := []) ⟨hx, hb, hml, hown, hts⟩ (c_So_isInside l E x) (k_cwS 1 hts t_476 t_477 t_66 t_478 (by decide +kernel) ⟨Nat.le_of_ble_eq_true rfl, Nat.le_of_ble_eq_true rfl⟩) hK hG hA hP hD hS [] rfl (by decide) rfl hl.1 rfl (Nat.le_of_ble_eq_true rfl) d_So_byteAt_1 ⟨Nat.zero_le _, Nat.zero_le _⟩ (fun r1 hu1 => ?_)
  subst hu1
  rcases Bool.eq_false_or_eq_true (m_in x 160) with hin | hin
  · obtain ⟨j, hj, rfl⟩ := m_in_of (by decide) hin
    rw [hin]
    refine lv_if_eq (tgt := 16) hx hb d_So_byteAt_4 (by decide) (fun h4 => ?_) (fun h4 => ?_)
    · exact absurd h4 (by decide)
    · refine lv_aload_n hx hb d_So_byteAt_7 rfl (lv_at hl 0 rfl) ?_
      refine va_get (D := E.1) (ci := 2) (v := .ref ob) (C := "WideStack$Store") (T := T_So) (N := 2) hx hb hts in_So hown hK hP 0 rfl rfl 0 (by decide) (hts _ t_141) (fun _ h9 => h9) rfl d_So_byteAt_8 ?_
      refine lv_iload_n hx hb d_So_byteAt_11 rfl (lv_at hl 1 rfl) ?_
      refine k_iald hx hb hK hP 1 rfl (i := j) (by omega) (by omega) d_So_byteAt_12 ?_
      refine lv_goto (tgt := 17) hx hb d_So_byteAt_13 (by decide) ?_
      first | exact hret _ ls _ d_So_byteAt_17 (by rw [if_pos hin, nI_clamp (by omega)]; exact (hm j hj).1) | exact hret _ ls _ d_So_byteAt_17 (by rw [hin]; rfl)
  · rw [hin]
    refine lv_if_eq (tgt := 16) hx hb d_So_byteAt_4 (by decide) (fun h4 => ?_) (fun h4 => ?_)
    · refine lv_iconst (v := -1) hx hb d_So_byteAt_16 (by decide) ?_
      first | exact hret _ ls _ d_So_byteAt_17 (by rw [if_pos hin, nI_clamp (by omega)]; exact (hm j hj).1) | exact hret _ ls _ d_So_byteAt_17 (by rw [hin]; rfl)
    · exact absurd rfl h4

abbrev y_So_setByteAt : MethodName := ⟨"WideStack$Store", "setByteAt", "(II)V"⟩
theorem d_So_setByteAt_0 : decode prog_9_method_7_code 0 = .ok (.iload_n 1, 1) := by decide +kernel
theorem d_So_setByteAt_1 : decode prog_9_method_7_code 1 = .ok (.invokestatic 33, 3) := by decide +kernel
theorem d_So_setByteAt_4 : decode prog_9_method_7_code 4 = .ok (.ifCond .eq 10, 3) := by decide +kernel
theorem d_So_setByteAt_7 : decode prog_9_method_7_code 7 = .ok (.aload_n 0, 1) := by decide +kernel
theorem d_So_setByteAt_8 : decode prog_9_method_7_code 8 = .ok (.getfield 9, 3) := by decide +kernel
theorem d_So_setByteAt_11 : decode prog_9_method_7_code 11 = .ok (.iload_n 1, 1) := by decide +kernel
theorem d_So_setByteAt_12 : decode prog_9_method_7_code 12 = .ok (.iload_n 2, 1) := by decide +kernel
theorem d_So_setByteAt_13 : decode prog_9_method_7_code 13 = .ok (.iastore, 1) := by decide +kernel
theorem d_So_setByteAt_14 : decode prog_9_method_7_code 14 = .ok (.return_, 1) := by decide +kernel
def rm_c_So_setByteAt : Room := { frames := 1, cells := 0, slots := 0, locals := 20 }
set_option maxHeartbeats 4000000 in
set_option maxRecDepth 100000 in
theorem c_So_setByteAt (l : Launch) (E : kE) (o ob siz j : Nat) (v : Int32) (fm : Nat → Int32) (hj : j < 160) : Kv l y_So_setByteAt (kW y_So_setByteAt prog_9_method_7_code 3 (none)) rm_c_So_setByteAt E [.ref o, .int (nI j), .int v] [(o, .inr (2, [.ref ob, .int (nI siz)])), (ob, .inl (E.2.1 0, 160, .inl fm))] (S := Unit) (fun _ => True) (fun _ => [(o, .inr (2, [.ref ob, .int (nI siz)])), (ob, .inl (E.2.1 0, 160, .inl (upd fm j v)))]) := by
  refine Kv.ofW (cc := prog_9_method_7_code) (maxL := 3) (by decide) (Nat.le_of_ble_eq_true rfl) ?_
  intro p e s m args below meth c A ls Q hx hb hts hown hml hK hG hA hP hD hS hl hret
  have hl : lv_has ls 3 [(0, .ref o), (1, .int (nI j)), (2, .int v)] := hl
  refine lv_iload_n hx hb d_So_setByteAt_0 rfl (lv_at hl 1 rfl) ?_
  refine k_Sp (As := [.int (nI j)]) (rest := []) ⟨hx, hb, hml, hown, hts⟩ (c_So_isInside l E (nI j)) (k_cwS 1 hts t_476 t_477 t_66 t_478 (by decide +kernel) ⟨Nat.le_of_ble_eq_true rfl, Nat.le_of_ble_eq_true rfl⟩) hK hG hA hP hD hS [] rfl (by decide) rfl hl.1 rfl (Nat.le_of_ble_eq_true rfl) d_So_setByteAt_1 ⟨Nat.zero_le _, Nat.zero_le _⟩ (fun r1 hu1 => ?_)
  have hu1 := hu1.trans (by rw [m_in_nI (by omega) (by decide), decide_eq_true hj])
  subst hu1
  refine lv_if_eq (tgt := 14) hx hb d_So_setByteAt_4 (by decide) (fun h4 => ?_) (fun h4 => ?_)
  · exact absurd h4 (by decide)
  · refine lv_aload_n hx hb d_So_setByteAt_7 rfl (lv_at hl 0 rfl) ?_
    refine va_get (D := E.1) (ci := 2) (v := .ref ob) (C := "WideStack$Store") (T := T_So) (N := 2) hx hb hts in_So hown hK hP 0 rfl rfl 0 (by decide) (hts _ t_141) (fun _ h9 => h9) rfl d_So_setByteAt_8 ?_
    refine lv_iload_n hx hb d_So_setByteAt_11 rfl (lv_at hl 1 rfl) ?_
    refine lv_iload_n hx hb d_So_setByteAt_12 rfl (lv_at hl 2 rfl) ?_
    refine k_iast hx hb hK hP hD hS 1 rfl (i := j) (by omega) (by omega) d_So_setByteAt_13 (fun H locs hP hD hS => ?_)
    have hP : va_P E.1 vwCl [(o, .inr (2, [.ref ob, .int (nI siz)])), (ob, .inl (E.2.1 0, 160, .inl (upd fm j v)))] H := hP
    have hD : va_D A [(o, .inr (2, [.ref ob, .int (nI siz)])), (ob, .inl (E.2.1 0, 160, .inl (upd fm j v)))] := hD
    exact hret _ ls _ _ () d_So_setByteAt_14 trivial hP hS

abbrev y_So_load : MethodName := ⟨"WideStack$Store", "load", "(I[I)V"⟩
theorem d_So_load_0 : decode prog_9_method_8_code 0 = .ok (.aload_n 2, 1) := by decide +kernel
theorem d_So_load_1 : decode prog_9_method_8_code 1 = .ok (.invokestatic 37, 3) := by decide +kernel
theorem d_So_load_4 : decode prog_9_method_8_code 4 = .ok (.iconst 0, 1) := by decide +kernel
theorem d_So_load_5 : decode prog_9_method_8_code 5 = .ok (.istore_n 3, 1) := by decide +kernel
theorem d_So_load_6 : decode prog_9_method_8_code 6 = .ok (.iload_n 3, 1) := by decide +kernel
theorem d_So_load_7 : decode prog_9_method_8_code 7 = .ok (.bipush 32, 2) := by decide +kernel
theorem d_So_load_9 : decode prog_9_method_8_code 9 = .ok (.if_icmp .ge 31, 3) := by decide +kernel
theorem d_So_load_12 : decode prog_9_method_8_code 12 = .ok (.iload_n 1, 1) := by decide +kernel
theorem d_So_load_13 : decode prog_9_method_8_code 13 = .ok (.iload_n 3, 1) := by decide +kernel
theorem d_So_load_14 : decode prog_9_method_8_code 14 = .ok (.iadd, 1) := by decide +kernel
theorem d_So_load_15 : decode prog_9_method_8_code 15 = .ok (.invokestatic 33, 3) := by decide +kernel
theorem d_So_load_18 : decode prog_9_method_8_code 18 = .ok (.ifCond .eq 16, 3) := by decide +kernel
theorem d_So_load_21 : decode prog_9_method_8_code 21 = .ok (.aload_n 2, 1) := by decide +kernel
theorem d_So_load_22 : decode prog_9_method_8_code 22 = .ok (.iload_n 3, 1) := by decide +kernel
theorem d_So_load_23 : decode prog_9_method_8_code 23 = .ok (.aload_n 0, 1) := by decide +kernel
theorem d_So_load_24 : decode prog_9_method_8_code 24 = .ok (.getfield 9, 3) := by decide +kernel
theorem d_So_load_27 : decode prog_9_method_8_code 27 = .ok (.iload_n 1, 1) := by decide +kernel
theorem d_So_load_28 : decode prog_9_method_8_code 28 = .ok (.iload_n 3, 1) := by decide +kernel
theorem d_So_load_29 : decode prog_9_method_8_code 29 = .ok (.iadd, 1) := by decide +kernel
theorem d_So_load_30 : decode prog_9_method_8_code 30 = .ok (.iaload, 1) := by decide +kernel
theorem d_So_load_31 : decode prog_9_method_8_code 31 = .ok (.invokestatic 43, 3) := by decide +kernel
theorem d_So_load_34 : decode prog_9_method_8_code 34 = .ok (.iinc 3 1, 3) := by decide +kernel
theorem d_So_load_37 : decode prog_9_method_8_code 37 = .ok (.goto (-31), 3) := by decide +kernel
theorem d_So_load_40 : decode prog_9_method_8_code 40 = .ok (.return_, 1) := by decide +kernel
def rm_c_So_load : Room := { frames := 2, cells := 0, slots := 0, locals := 43 }
set_option maxHeartbeats 4000000 in
set_option maxRecDepth 100000 in
theorem c_So_load (l : Launch) (E : kE) (o ob siz : Nat) (fm : Nat → Int32) (mem : Nat → Nat) (hm : ∀ j, j < 160 → fm j = nI (mem j) ∧ mem j < 256) (j a : Nat) (f : Nat → Int32) (hj : j + 32 ≤ 160) : Kv l y_So_load (kW y_So_load prog_9_method_8_code 4 (none)) rm_c_So_load E [.ref o, .int (nI j), .ref a] [(o, .inr (2, [.ref ob, .int (nI siz)])), (ob, .inl (E.2.1 0, 160, .inl fm)), (a, .inl (E.2.1 0, 8, .inl f))] (S := Nat → Int32) (fun u => wv u 8 = m_num mem j 32) (fun u => [(o, .inr (2, [.ref ob, .int (nI siz)])), (ob, .inl (E.2.1 0, 160, .inl fm)), (a, .inl (E.2.1 0, 8, .inl u))]) := by
  refine Kv.ofW (cc := prog_9_method_8_code) (maxL := 4) (by decide) (Nat.le_of_ble_eq_true rfl) ?_
  intro p e s m args below meth c A ls Q hx hb hts hown hml hK hG hA hP hD hS hl hret
  have hl : lv_has ls 4 [(0, .ref o), (1, .int (nI j)), (2, .ref a)] := hl
  refine lv_aload_n hx hb d_So_load_0 rfl (lv_at hl 2 rfl) ?_
  refine k_Sv (As := [.ref a]) (rest := []) ⟨hx, hb, hml, hown, hts⟩ (c_W_makeZero l E a f) (k_cwS 1 hts t_475 t_348 t_73 t_349 (by decide +kernel) ⟨Nat.le_of_ble_eq_true rfl, Nat.le_of_ble_eq_true rfl⟩) hK hG hA hP hD hS [2] rfl (by decide) (fun _ => rfl) rfl hl.1 rfl (Nat.le_of_ble_eq_true rfl) d_So_load_1 ⟨Nat.zero_le _, Nat.zero_le _⟩ (fun u0 H locs hu0 hP hD hS => ?_)
  have hP : va_P E.1 vwCl [(o, .inr (2, [.ref ob, .int (nI siz)])), (ob, .inl (E.2.1 0, 160, .inl fm)), (a, .inl (E.2.1 0, 8, .inl u0))] H := hP
  have hD : va_D A [(o, .inr (2, [.ref ob, .int (nI siz)])), (ob, .inl (E.2.1 0, 160, .inl fm)), (a, .inl (E.2.1 0, 8, .inl u0))] := hD
  refine lv_iconst (v := nI 0) hx hb d_So_load_4 (by decide) ?_
  refine lv_istore_n (lv' := [(3, .int (nI 0)), (0, .ref o), (1, .int (nI j)), (2, .ref a)]) hx hb d_So_load_5 rfl hl (by decide) rfl (fun ls hl => ?_)
  have key6 : ∀ (n : Nat) (i : Nat) (z : Nat → Int32) (H : Heap) (locs : List Loc) (ls : Array Slot), i + n = 32 → (wv z 8 = m_num mem j i * 256 ^ (32 - i)) → lv_has ls 4 [(3, .int (nI i)), (0, .ref o), (1, .int (nI j)), (2, .ref a)] → va_P E.1 vwCl [(o, .inr (2, [.ref ob, .int (nI siz)])), (ob, .inl (E.2.1 0, 160, .inl fm)), (a, .inl (E.2.1 0, 8, .inl z))] H → va_D A [(o, .inr (2, [.ref ob, .int (nI siz)])), (ob, .inl (E.2.1 0, 160, .inl fm)), (a, .inl (E.2.1 0, 8, .inl z))] → va_S A s.heap H locs → W p l e rm_c_So_load s m args below meth c H locs 0 0 Q (F0 m 6 ls []) := by
    intro n
    induction n using Nat.strongRecOn with
    | ind n ih =>
      intro i z H locs ls hn hI hl hP hD hS
      refine lv_iload_n hx hb d_So_load_6 rfl (lv_at hl 0 rfl) ?_
      refine lv_bipush (v := nI 32) hx hb d_So_load_7 (by decide) ?_
      refine kn_ge (tgt := 40) hx hb (by omega) (by omega) d_So_load_9 (by decide) (fun h9 => ?_) (fun h9 => ?_)
      · exact hret _ ls _ _ z d_So_load_40 (by rw [hI, show i = 32 by omega, Nat.sub_self, Nat.pow_zero, Nat.mul_one]) hP hS
      · refine lv_iload_n hx hb d_So_load_12 rfl (lv_at hl 2 rfl) ?_
        refine lv_iload_n hx hb d_So_load_13 rfl (lv_at hl 0 rfl) ?_
        refine lv_iadd hx hb d_So_load_14 ?_
        refine k_top (nI_add _ _) ?_
        refine k_Sp (As := [.int (nI (j + i))]) (rest := []) ⟨hx, hb, hml, hown, hts⟩ (c_So_isInside l E (nI (j + i))) (k_cwS 1 hts t_476 t_477 t_66 t_478 (by decide +kernel) ⟨Nat.le_of_ble_eq_true rfl, Nat.le_of_ble_eq_true rfl⟩) hK hG hA hP hD hS [] rfl (by decide) rfl hl.1 rfl (Nat.le_of_ble_eq_true rfl) d_So_load_15 ⟨Nat.zero_le _, Nat.zero_le _⟩ (fun r15 hu15 => ?_)
        have hu15 := hu15.trans (by rw [m_in_nI (by omega) (by decide), decide_eq_true (by omega)])
        subst hu15
        refine lv_if_eq (tgt := 34) hx hb d_So_load_18 (by decide) (fun h18 => ?_) (fun h18 => ?_)
        · exact absurd h18 (by decide)
        · refine lv_aload_n hx hb d_So_load_21 rfl (lv_at hl 3 rfl) ?_
          refine lv_iload_n hx hb d_So_load_22 rfl (lv_at hl 0 rfl) ?_
          refine lv_aload_n hx hb d_So_load_23 rfl (lv_at hl 1 rfl) ?_
          refine va_get (D := E.1) (ci := 2) (v := .ref ob) (C := "WideStack$Store") (T := T_So) (N := 2) hx hb hts in_So hown hK hP 0 rfl rfl 0 (by decide) (hts _ t_141) (fun _ h9 => h9) rfl d_So_load_24 ?_
          refine lv_iload_n hx hb d_So_load_27 rfl (lv_at hl 2 rfl) ?_
          refine lv_iload_n hx hb d_So_load_28 rfl (lv_at hl 0 rfl) ?_
          refine lv_iadd hx hb d_So_load_29 ?_
          refine k_top (nI_add _ _) ?_
          refine k_iald hx hb hK hP 1 rfl (i := (j + i)) (by omega) (by omega) d_So_load_30 ?_
          refine k_top (hm (j + i) (by omega)).1 ?_
          refine k_Sv (As := [.ref a, .int (nI i), .int (nI (mem (j + i)))]) (rest := []) ⟨hx, hb, hml, hown, hts⟩ (c_W_setByte l E a i (mem (j + i)) z (by omega) (hm (j + i) (by omega)).2 (by rw [hI]; have := rn0 (X := m_num mem j i) (c := 32) (i := i) (by omega) (by omega); rwa [show 32 - 32 + i = i by omega] at this)) (k_cwS 3 hts t_479 t_461 t_73 t_462 (by decide +kernel) ⟨Nat.le_of_ble_eq_true rfl, Nat.le_of_ble_eq_true rfl⟩) hK hG hA hP hD hS [2] rfl (by decide) (fun _ => rfl) rfl hl.1 rfl (Nat.le_of_ble_eq_true rfl) d_So_load_31 ⟨Nat.zero_le _, Nat.zero_le _⟩ (fun u H locs hu hP hD hS => ?_)
          have hP : va_P E.1 vwCl [(o, .inr (2, [.ref ob, .int (nI siz)])), (ob, .inl (E.2.1 0, 160, .inl fm)), (a, .inl (E.2.1 0, 8, .inl u))] H := hP
          have hD : va_D A [(o, .inr (2, [.ref ob, .int (nI siz)])), (ob, .inl (E.2.1 0, 160, .inl fm)), (a, .inl (E.2.1 0, 8, .inl u))] := hD
          refine lv_iinc (k := 0) (v := nI (i + 1)) (lv' := [(3, .int (nI (i + 1))), (0, .ref o), (1, .int (nI j)), (2, .ref a)]) hx hb d_So_load_34 hl rfl (k_inc _) (by decide) rfl (fun ls hl => ?_)
          refine lv_goto (tgt := 6) hx hb d_So_load_37 (by decide) ?_
          exact ih (n - 1) (by omega) (i + 1) u _ _ ls (by omega) (by rw [hu, hI]; have := rn1 (X := m_num mem j i) (y := mem (j + i)) (c := 32) (i := i) (by omega) (by omega); rwa [show 32 - 32 + i = i by omega] at this) (lv_sub hl [0, 1, 2, 3] rfl) hP hD hS
  exact key6 32 0 u0 _ _ ls (by omega) (by rw [wv_zero8 hu0]; simp [m_num]) (lv_sub hl [0, 1, 2, 3] rfl) hP hD hS

theorem sv_step {z fm : Nat → Int32} {j i W : Nat} (hI : ∀ k, z k = if j ≤ k ∧ k < j + i then nI (m_byte (k - j) W) else fm k) (k : Nat) : upd z (j + i) (nI (m_byte i W)) k = if j ≤ k ∧ k < j + (i + 1) then nI (m_byte (k - j) W) else fm k := by
  by_cases e : k = j + i
  · subst e
    rw [pk_us, if_pos (by omega), Nat.add_sub_cancel_left]
  · rw [pk_un e, hI k]
    by_cases h : j ≤ k ∧ k < j + i
    · rw [if_pos h, if_pos (by omega)]
    · rw [if_neg h, if_neg (by omega)]

abbrev y_So_save : MethodName := ⟨"WideStack$Store", "save", "(I[I)V"⟩
theorem d_So_save_0 : decode prog_9_method_9_code 0 = .ok (.iconst 0, 1) := by decide +kernel
theorem d_So_save_1 : decode prog_9_method_9_code 1 = .ok (.istore_n 3, 1) := by decide +kernel
theorem d_So_save_2 : decode prog_9_method_9_code 2 = .ok (.iload_n 3, 1) := by decide +kernel
theorem d_So_save_3 : decode prog_9_method_9_code 3 = .ok (.bipush 32, 2) := by decide +kernel
theorem d_So_save_5 : decode prog_9_method_9_code 5 = .ok (.if_icmp .ge 21, 3) := by decide +kernel
theorem d_So_save_8 : decode prog_9_method_9_code 8 = .ok (.aload_n 0, 1) := by decide +kernel
theorem d_So_save_9 : decode prog_9_method_9_code 9 = .ok (.iload_n 1, 1) := by decide +kernel
theorem d_So_save_10 : decode prog_9_method_9_code 10 = .ok (.iload_n 3, 1) := by decide +kernel
theorem d_So_save_11 : decode prog_9_method_9_code 11 = .ok (.iadd, 1) := by decide +kernel
theorem d_So_save_12 : decode prog_9_method_9_code 12 = .ok (.aload_n 2, 1) := by decide +kernel
theorem d_So_save_13 : decode prog_9_method_9_code 13 = .ok (.iload_n 3, 1) := by decide +kernel
theorem d_So_save_14 : decode prog_9_method_9_code 14 = .ok (.invokestatic 47, 3) := by decide +kernel
theorem d_So_save_17 : decode prog_9_method_9_code 17 = .ok (.invokevirtual 51, 3) := by decide +kernel
theorem d_So_save_20 : decode prog_9_method_9_code 20 = .ok (.iinc 3 1, 3) := by decide +kernel
theorem d_So_save_23 : decode prog_9_method_9_code 23 = .ok (.goto (-21), 3) := by decide +kernel
theorem d_So_save_26 : decode prog_9_method_9_code 26 = .ok (.return_, 1) := by decide +kernel
def rm_c_So_save : Room := { frames := 2, cells := 0, slots := 0, locals := 42 }
set_option maxHeartbeats 4000000 in
set_option maxRecDepth 100000 in
theorem c_So_save (l : Launch) (E : kE) (o ob siz j a : Nat) (fm f : Nat → Int32) (hj : j + 32 ≤ 160) : Kv l y_So_save (kW y_So_save prog_9_method_9_code 4 (none)) rm_c_So_save E [.ref o, .int (nI j), .ref a] [(o, .inr (2, [.ref ob, .int (nI siz)])), (ob, .inl (E.2.1 0, 160, .inl fm)), (a, .inl (E.2.1 0, 8, .inl f))] (S := Nat → Int32) (fun u => ∀ k, u k = if j ≤ k ∧ k < j + 32 then nI (m_byte (k - j) (wv f 8)) else fm k) (fun u => [(o, .inr (2, [.ref ob, .int (nI siz)])), (ob, .inl (E.2.1 0, 160, .inl u)), (a, .inl (E.2.1 0, 8, .inl f))]) := by
  refine Kv.ofW (cc := prog_9_method_9_code) (maxL := 4) (by decide) (Nat.le_of_ble_eq_true rfl) ?_
  intro p e s m args below meth c A ls Q hx hb hts hown hml hK hG hA hP hD hS hl hret
  have hl : lv_has ls 4 [(0, .ref o), (1, .int (nI j)), (2, .ref a)] := hl
  refine lv_iconst (v := nI 0) hx hb d_So_save_0 (by decide) ?_
  refine lv_istore_n (lv' := [(3, .int (nI 0)), (0, .ref o), (1, .int (nI j)), (2, .ref a)]) hx hb d_So_save_1 rfl hl (by decide) rfl (fun ls hl => ?_)
  have key2 : ∀ (n : Nat) (i : Nat) (z : Nat → Int32) (H : Heap) (locs : List Loc) (ls : Array Slot), i + n = 32 → (∀ k, z k = if j ≤ k ∧ k < j + i then nI (m_byte (k - j) (wv f 8)) else fm k) → lv_has ls 4 [(3, .int (nI i)), (0, .ref o), (1, .int (nI j)), (2, .ref a)] → va_P E.1 vwCl [(o, .inr (2, [.ref ob, .int (nI siz)])), (ob, .inl (E.2.1 0, 160, .inl z)), (a, .inl (E.2.1 0, 8, .inl f))] H → va_D A [(o, .inr (2, [.ref ob, .int (nI siz)])), (ob, .inl (E.2.1 0, 160, .inl z)), (a, .inl (E.2.1 0, 8, .inl f))] → va_S A s.heap H locs → W p l e rm_c_So_save s m args below meth c H locs 0 0 Q (F0 m 2 ls []) := by
    intro n
    induction n using Nat.strongRecOn with
    | ind n ih =>
      intro i z H locs ls hn hI hl hP hD hS
      refine lv_iload_n hx hb d_So_save_2 rfl (lv_at hl 0 rfl) ?_
      refine lv_bipush (v := nI 32) hx hb d_So_save_3 (by decide) ?_
      refine kn_ge (tgt := 26) hx hb (by omega) (by omega) d_So_save_5 (by decide) (fun h5 => ?_) (fun h5 => ?_)
      · exact hret _ ls _ _ z d_So_save_26 (fun k => by rw [hI k, show i = 32 by omega]) hP hS
      · refine lv_aload_n hx hb d_So_save_8 rfl (lv_at hl 1 rfl) ?_
        refine lv_iload_n hx hb d_So_save_9 rfl (lv_at hl 2 rfl) ?_
        refine lv_iload_n hx hb d_So_save_10 rfl (lv_at hl 0 rfl) ?_
        refine lv_iadd hx hb d_So_save_11 ?_
        refine k_top (nI_add _ _) ?_
        refine lv_aload_n hx hb d_So_save_12 rfl (lv_at hl 3 rfl) ?_
        refine lv_iload_n hx hb d_So_save_13 rfl (lv_at hl 0 rfl) ?_
        refine k_Sp (As := [.ref a, .int (nI i)]) (rest := [.int (nI (j + i)), .ref o]) ⟨hx, hb, hml, hown, hts⟩ (c_W_byteOf l E a i f (by omega)) (k_cwS 2 hts t_484 t_485 t_73 t_486 (by decide +kernel) ⟨Nat.le_of_ble_eq_true rfl, Nat.le_of_ble_eq_true rfl⟩) hK hG hA hP hD hS [2] rfl (by decide) rfl hl.1 rfl (Nat.le_of_ble_eq_true rfl) d_So_save_14 ⟨Nat.zero_le _, Nat.zero_le _⟩ (fun r14 hu14 => ?_)
        subst hu14
        refine k_Vv (As := [.int (nI (j + i)), .int (nI (m_byte i (wv f 8)))]) (rest := []) ⟨hx, hb, hml, hown, hts⟩ (c_So_setByteAt l E o ob siz (j + i) (nI (m_byte i (wv f 8))) z (by omega)) (k_cwV 2 hts t_487 t_488 t_489 t_66 t_490 (by decide +kernel) ⟨Nat.le_of_ble_eq_true rfl, Nat.le_of_ble_eq_true rfl⟩) hK hG hA hP hD hS [0, 1] rfl (by decide) 0 rfl rfl (fun _ => rfl) rfl hl.1 rfl (Nat.le_of_ble_eq_true rfl) d_So_save_17 ⟨Nat.zero_le _, Nat.zero_le _⟩ (fun u H locs hu hP hD hS => ?_)
        have hP : va_P E.1 vwCl [(o, .inr (2, [.ref ob, .int (nI siz)])), (ob, .inl (E.2.1 0, 160, .inl (upd z (j + i) (nI (m_byte i (wv f 8)))))), (a, .inl (E.2.1 0, 8, .inl f))] H := hP
        have hD : va_D A [(o, .inr (2, [.ref ob, .int (nI siz)])), (ob, .inl (E.2.1 0, 160, .inl (upd z (j + i) (nI (m_byte i (wv f 8)))))), (a, .inl (E.2.1 0, 8, .inl f))] := hD
        refine lv_iinc (k := 0) (v := nI (i + 1)) (lv' := [(3, .int (nI (i + 1))), (0, .ref o), (1, .int (nI j)), (2, .ref a)]) hx hb d_So_save_20 hl rfl (k_inc _) (by decide) rfl (fun ls hl => ?_)
        refine lv_goto (tgt := 2) hx hb d_So_save_23 (by decide) ?_
        exact ih (n - 1) (by omega) (i + 1) (upd z (j + i) (nI (m_byte i (wv f 8)))) _ _ ls (by omega) (fun k => sv_step hI k) (lv_sub hl [0, 1, 2, 3] rfl) hP hD hS
  exact key2 32 0 fm _ _ ls (by omega) (fun k => by rw [if_neg (by omega)]) (lv_sub hl [0, 1, 2, 3] rfl) hP hD hS

