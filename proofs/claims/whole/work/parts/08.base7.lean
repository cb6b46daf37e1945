/-! more rows: boolean arrays, tables, switches, Math.max -/
section KZ
variable {p : Program} {l : Launch} {e : Env} {R : Room} {s : State} {m : MethodId} {args : Array Value} {below : List Frame} {meth : Method} {c : Code} {H : Heap} {locs : List Loc} {cells slots : Nat} {Q : State → Prop}
variable {cc : ByteArray} {pc : Nat} {ls : Array Slot} {rest : List Value} {E : kE} {A : Nat → Prop} {ws : va_W} {a : Nat}
theorem k_zast (hexec : p.tables.exec = Jvm.exec) (hb : c.code = cc) (hK : va_K E.1 vwCl (kY E) s) (hP : va_P E.1 vwCl ws H) (hD : va_D A ws) (hS : va_S A s.heap H locs) (q0 : Nat) {n : Nat} {f : Nat → Int32} (ha : ws[q0]? = some (a, .inl (E.2.1 1, n, .inl f))) {i : Nat} {x : Int32} (hi : i < n) (hn : n < 2 ^ 31) (hx : vp_nar .boolean x = x) (hdg : decode cc pc = .ok (.bastore, 1))
    (kk : ∀ (H1 : Heap) (locs1 : List Loc), va_P E.1 vwCl (ws.set q0 (a, .inl (E.2.1 1, n, .inl (upd f i x)))) H1 → va_D A (ws.set q0 (a, .inl (E.2.1 1, n, .inl (upd f i x)))) → va_S A s.heap H1 locs1 → W p l e R s m args below meth c H1 locs1 cells slots Q (F0 m (pc + 1) ls rest)) : W p l e R s m args below meth c H locs cells slots Q (F0 m pc ls (.int x :: .int (nI i) :: .ref a :: rest)) := by
  refine va_zast hexec hb hK hP hD hS q0 1 ha rfl (vp_in_nI hi hn) hdg (fun H1 locs1 h1 h2 h3 => ?_)
  rw [nI_clamp (Nat.lt_trans hi hn), hx] at h1 h2
  exact kk H1 locs1 h1 h2 h3
theorem k_tabA (hexec : p.tables.exec = Jvm.exec) (hb : c.code = cc) (hG : kG E A s) (hS : va_S A s.heap H locs) {i : Nat} (hi : i < 32) (hdg : decode cc pc = .ok (.iaload, 1))
    (kk : W p l e R s m args below meth c H locs cells slots Q (F0 m (pc + 1) ls (.int (kTA i) :: rest))) : W p l e R s m args below meth c H locs cells slots Q (F0 m pc ls (.int (nI i) :: .ref (E.2.2 0) :: rest)) :=
  va_ti (v := .int (kTA i)) hexec hb hG.1.2 hS (vp_in_nI hi (by decide)) (by rw [nI_clamp (by omega)]) hdg kk
theorem k_tabB (hexec : p.tables.exec = Jvm.exec) (hb : c.code = cc) (hG : kG E A s) (hS : va_S A s.heap H locs) {i : Nat} (hi : i < 16) (hdg : decode cc pc = .ok (.iaload, 1))
    (kk : W p l e R s m args below meth c H locs cells slots Q (F0 m (pc + 1) ls (.int (kTB i) :: rest))) : W p l e R s m args below meth c H locs cells slots Q (F0 m pc ls (.int (nI i) :: .ref (E.2.2 1) :: rest)) :=
  va_ti (v := .int (kTB i)) hexec hb hG.2.1.2 hS (vp_in_nI hi (by decide)) (by rw [nI_clamp (by omega)]) hdg kk
end KZ
/-! Instructions, by the model -/
def m_need (o : Nat) : Int32 := if m_known o then nI (m_takes o) else -1
theorem m_need_k {o : Nat} (h : m_known o = true) : m_need o = nI (m_takes o) := if_pos h
theorem nd0 : ∀ o, o < 256 → o < 32 → kTA o = m_need o := by decide +kernel
theorem nd1 : ∀ o, o < 256 → 80 ≤ o ∧ o < 96 → kTB (o - 80) = m_need o := by decide +kernel
theorem nd2 : ∀ o, o < 256 → 96 ≤ o ∧ o < 128 → nI 0 = m_need o := by decide +kernel
theorem nd3 : ∀ o, o < 256 → 128 ≤ o ∧ o < 144 → nI (o - 128 + 1) = m_need o := by decide +kernel
theorem nd4 : ∀ o, o < 256 → 144 ≤ o ∧ o < 160 → nI (o - 144 + 2) = m_need o := by decide +kernel
theorem nd5 : ∀ o, o < 256 → o = 243 → nI 2 = m_need o := by decide +kernel
theorem nd6 : ∀ o, o < 256 → (32 ≤ o ∧ (o < 80 ∨ 96 ≤ o) ∧ (o < 96 ∨ 128 ≤ o) ∧ (o < 128 ∨ 144 ≤ o) ∧ (o < 144 ∨ 160 ≤ o) ∧ o ≠ 243) → -1 = m_need o := by decide +kernel
theorem nd_m1 : ∀ o, o < 256 → (m_need o = -1 ↔ m_known o = false) := by decide +kernel
theorem gv1 : ∀ o, o < 256 → m_known o = true → 0 < o ∧ o < 32 → nI 1 = nI (m_gives o) := by decide +kernel
theorem gv2 : ∀ o, o < 256 → m_known o = true → 96 ≤ o ∧ o < 128 → nI 1 = nI (m_gives o) := by decide +kernel
theorem gv3 : ∀ o, o < 256 → m_known o = true → 128 ≤ o ∧ o < 144 → nI (m_takes o + 1) = nI (m_gives o) := by decide +kernel
theorem gv4 : ∀ o, o < 256 → m_known o = true → 144 ≤ o ∧ o < 160 → nI (m_takes o) = nI (m_gives o) := by decide +kernel
theorem gv5 : ∀ o, o < 256 → m_known o = true → o = 81 ∨ o = 88 ∨ o = 89 ∨ o = 90 → nI 1 = nI (m_gives o) := by decide +kernel
theorem gv6 : ∀ o, o < 256 → m_known o = true → (o = 0 ∨ 32 ≤ o) ∧ (o < 96 ∨ 128 ≤ o) ∧ (o < 128 ∨ 144 ≤ o) ∧ (o < 144 ∨ 160 ≤ o) ∧ o ≠ 81 ∧ o ≠ 88 ∧ o ≠ 89 ∧ o ≠ 90 → nI 0 = nI (m_gives o) := by decide +kernel
theorem sw_c : ∀ o, o < 256 → m_cost o = 0 ∨ m_cost o = 1 ∨ m_cost o = 2 ∨ m_cost o = 5 ∨ m_cost o = 8 ∨ m_cost o = 10 ∨ m_cost o = 3 := by decide +kernel
theorem m_numl_in {o : Nat} (h : 96 ≤ o) (h2 : o < 128) : m_numl o = o - 96 + 1 := by unfold m_numl; rw [if_pos (by omega)]; omega
theorem m_numl_out {o : Nat} (h : o < 96 ∨ 128 ≤ o) : m_numl o = 0 := by unfold m_numl; rw [if_neg (by omega)]
theorem m_numl_le (o : Nat) : m_numl o ≤ 32 := by unfold m_numl; split <;> omega
