/-! the reference: arrays of natural numbers, rows of sixteen digits of 16 bits -/
def nF (g : Nat → Nat) : Nat → Int32 := fun j => nI (g j)
theorem nF_up {g : Nat → Nat} {i x : Nat} : upd (nF g) i (nI x) = nF (va_up g i x) := by
  funext j
  by_cases e : j = i
  · subst e; rw [pk_us]; unfold nF; rw [va_up_self]
  · rw [pk_un e]; unfold nF; rw [va_up_ne _ _ e]
section RA
variable {p : Program} {l : Launch} {e : Env} {R : Room} {s : State} {m : MethodId} {args : Array Value} {below : List Frame} {meth : Method} {c : Code} {H : Heap} {locs : List Loc} {cells slots : Nat} {Q : State → Prop}
variable {cc : ByteArray} {pc a : Nat} {ls : Array Slot} {rest : List Value} {E : kE} {A : Nat → Prop} {ws : va_W}
theorem k_ialdN (hexec : p.tables.exec = Jvm.exec) (hb : c.code = cc) (hK : va_K E.1 vwCl (kY E) s) (hP : va_P E.1 vwCl ws H) (q0 : Nat) {n : Nat} {g : Nat → Nat} (ha : ws[q0]? = some (a, .inl (E.2.1 0, n, .inl (nF g)))) {i : Nat} (hi : i < n) (hn : n < 2 ^ 31) (hdg : decode cc pc = .ok (.iaload, 1))
    (kk : W p l e R s m args below meth c H locs cells slots Q (F0 m (pc + 1) ls (.int (nI (g i)) :: rest))) : W p l e R s m args below meth c H locs cells slots Q (F0 m pc ls (.int (nI i) :: .ref a :: rest)) := k_iald hexec hb hK hP q0 ha hi hn hdg kk
theorem k_iastN (hexec : p.tables.exec = Jvm.exec) (hb : c.code = cc) (hK : va_K E.1 vwCl (kY E) s) (hP : va_P E.1 vwCl ws H) (hD : va_D A ws) (hS : va_S A s.heap H locs) (q0 : Nat) {n : Nat} {g : Nat → Nat} (ha : ws[q0]? = some (a, .inl (E.2.1 0, n, .inl (nF g)))) {i x : Nat} (hi : i < n) (hn : n < 2 ^ 31) (hdg : decode cc pc = .ok (.iastore, 1))
    (kk : ∀ (H1 : Heap) (locs1 : List Loc), va_P E.1 vwCl (ws.set q0 (a, .inl (E.2.1 0, n, .inl (nF (va_up g i x))))) H1 → va_D A (ws.set q0 (a, .inl (E.2.1 0, n, .inl (nF (va_up g i x))))) → va_S A s.heap H1 locs1 → W p l e R s m args below meth c H1 locs1 cells slots Q (F0 m (pc + 1) ls rest)) : W p l e R s m args below meth c H locs cells slots Q (F0 m pc ls (.int (nI x) :: .int (nI i) :: .ref a :: rest)) := by
  refine k_iast hexec hb hK hP hD hS q0 ha hi hn hdg (fun H1 locs1 h1 h2 h3 => ?_)
  rw [nF_up] at h1 h2
  exact kk H1 locs1 h1 h2 h3
end RA
def gv (g : Nat → Nat) (r n : Nat) : Nat := bv 65536 (fun k => g (r + k)) n
theorem gv_0 (g : Nat → Nat) (r : Nat) : gv g r 0 = 0 := rfl
theorem gv_s (g : Nat → Nat) (r k : Nat) : gv g r (k + 1) = gv g r k + g (r + k) * 65536 ^ k := rfl
theorem gv_lt {g : Nat → Nat} (hg : ∀ j, g j < 65536) (r n : Nat) : gv g r n < 65536 ^ n := bv_lt (fun j _ => hg _)
theorem g16m : 65536 ^ 16 = mM := by decide
theorem gv_lt16 {g : Nat → Nat} (hg : ∀ j, g j < 65536) (r : Nat) : gv g r 16 < mM := by rw [← g16m]; exact gv_lt hg r 16
theorem gv_congr {g h : Nat → Nat} {r n : Nat} (q : ∀ j, j < n → g (r + j) = h (r + j)) : gv g r n = gv h r n := bv_congr q
theorem gv_up {g : Nat → Nat} {r i n x : Nat} (h : i < n) : gv (va_up g (r + i) x) r n + g (r + i) * 65536 ^ i = gv g r n + x * 65536 ^ i := by
  have e : (fun k => va_up g (r + i) x (r + k)) = va_up (fun k => g (r + k)) i x := by
    funext k
    by_cases e : k = i
    · subst e; rw [va_up_self, va_up_self]
    · rw [va_up_ne _ _ (by omega), va_up_ne _ _ e]
  have h1 := bv_up (B := 65536) (f := fun k => g (r + k)) (x := x) h
  unfold gv
  rw [e]
  exact h1
theorem gv_out {g : Nat → Nat} {r n i x : Nat} (h : i < r ∨ r + n ≤ i) : gv (va_up g i x) r n = gv g r n := gv_congr (fun j hj => va_up_ne _ _ (by omega))
theorem g16_up {g : Nat → Nat} {i x : Nat} (hg : ∀ j, g j < 65536) (hx : x < 65536) : ∀ j, va_up g i x j < 65536 := by
  intro j
  by_cases e : j = i
  · subst e; rw [va_up_self]; exact hx
  · rw [va_up_ne _ _ e]; exact hg j
theorem gv_is0 {g : Nat → Nat} {r n : Nat} : gv g r n = 0 ↔ ∀ j, j < n → g (r + j) = 0 := ⟨fun h => bv_is0 (by decide) h, fun h => bv_zero h⟩
theorem gv_add {g : Nat → Nat} {r n k : Nat} : gv g r (n + k) = gv g r n + gv g (r + n) k * 65536 ^ n := by
  unfold gv
  rw [bv_add]
  simp only [Nat.add_assoc]
theorem gv_less {g : Nat → Nat} {x y k n : Nat} (hg : ∀ j, g j < 65536) (hk : k < n) (h : ∀ j, k < j → j < n → g (x + j) = g (y + j)) (hl : g (x + k) < g (y + k)) : gv g x n < gv g y n := bv_less hk (fun j _ => hg _) h hl
/-- a row written over another -/
def cpy (g : Nat → Nat) (a b : Nat) : Nat → Nat := fun j => if a ≤ j ∧ j < a + 16 then g (b + (j - a)) else g j
theorem cpy_16 {g : Nat → Nat} {a b : Nat} (hg : ∀ j, g j < 65536) : ∀ j, cpy g a b j < 65536 := by intro j; unfold cpy; split <;> exact hg _
theorem cpy_out {g : Nat → Nat} {a b j : Nat} (h : j < a ∨ a + 16 ≤ j) : cpy g a b j = g j := by unfold cpy; rw [if_neg (by omega)]
theorem cpy_in {g : Nat → Nat} {a b j : Nat} (h : j < 16) : cpy g a b (a + j) = g (b + j) := by unfold cpy; rw [if_pos (by omega), Nat.add_sub_cancel_left]
theorem gv_cpy {g : Nat → Nat} {a b : Nat} : gv (cpy g a b) a 16 = gv g b 16 := bv_congr (fun j hj => cpy_in hj)
theorem gv_cpy_out {g : Nat → Nat} {a b r n : Nat} (h : r + n ≤ a ∨ a + 16 ≤ r) : gv (cpy g a b) r n = gv g r n := gv_congr (fun j hj => cpy_out (by omega))
theorem cp_step {g z : Nat → Nat} {a b i : Nat} (hd : b + 16 ≤ a ∨ a + 16 ≤ b) (hi : i < 16) (hI : ∀ j, z j = if a ≤ j ∧ j < a + i then g (b + (j - a)) else g j) (j : Nat) : va_up z (a + i) (z (b + i)) j = if a ≤ j ∧ j < a + (i + 1) then g (b + (j - a)) else g j := by
  by_cases e : j = a + i
  · subst e; rw [va_up_self, if_pos (by omega), hI, if_neg (by omega), Nat.add_sub_cancel_left]
  · rw [va_up_ne _ _ e, hI]
    by_cases q : a ≤ j ∧ j < a + i
    · rw [if_pos q, if_pos (by omega)]
    · rw [if_neg q, if_neg (by omega)]
/-- a number written -/
def nmb (g : Nat → Nat) (a v : Nat) : Nat → Nat := fun j => if a ≤ j ∧ j < a + 16 then (if j = a then v % 65536 else if j = a + 1 then v / 65536 else 0) else g j
theorem nmb_out {g : Nat → Nat} {a v j : Nat} (h : j < a ∨ a + 16 ≤ j) : nmb g a v j = g j := by unfold nmb; rw [if_neg (by omega)]
theorem nmb_16 {g : Nat → Nat} {a v : Nat} (hg : ∀ j, g j < 65536) (hv : v < 4294967296) : ∀ j, nmb g a v j < 65536 := by
  intro j
  unfold nmb
  split
  · split
    · omega
    · split <;> omega
  · exact hg j
theorem gv_nmb {g : Nat → Nat} {a v : Nat} : gv (nmb g a v) a 16 = v := by
  have e : ∀ n, gv (nmb g a v) a (n + 2) = gv (nmb g a v) a (n + 2) := fun _ => rfl
  have z : gv (nmb g a v) (a + 2) 14 = 0 := gv_is0.mpr (fun j hj => by unfold nmb; rw [if_pos (by omega), if_neg (by omega), if_neg (by omega)])
  have h := gv_add (g := nmb g a v) (r := a) (n := 2) (k := 14)
  rw [z, Nat.zero_mul, Nat.add_zero] at h
  show gv (nmb g a v) a (2 + 14) = v
  rw [h, gv_s, gv_s, gv_0]
  unfold nmb
  rw [if_pos (by omega), if_pos (by omega), if_pos (by omega), if_neg (by omega), if_pos (by omega)]
  omega
theorem nm_step {g z : Nat → Nat} {a v i x : Nat} (hi : i < 16) (hx : x = if i = 0 then v % 65536 else if i = 1 then v / 65536 else 0) (hI : ∀ j, z j = if a ≤ j ∧ j < a + i then nmb g a v j else g j) (j : Nat) : va_up z (a + i) x j = if a ≤ j ∧ j < a + (i + 1) then nmb g a v j else g j := by
  have e1 : nmb g a v (a + i) = if i = 0 then v % 65536 else if i = 1 then v / 65536 else 0 := by
    unfold nmb
    rw [if_pos ⟨Nat.le_add_right a i, by omega⟩]
    by_cases q : i = 0
    · rw [if_pos (by omega : a + i = a), if_pos q]
    · rw [if_neg (by omega : ¬ a + i = a), if_neg q]
      by_cases q2 : i = 1
      · rw [if_pos (by omega : a + i = a + 1), if_pos q2]
      · rw [if_neg (by omega : ¬ a + i = a + 1), if_neg q2]
  by_cases e : j = a + i
  · subst e
    rw [va_up_self, if_pos ⟨Nat.le_add_right a i, by omega⟩, hx, e1]
  · rw [va_up_ne _ _ e, hI]
    by_cases q : a ≤ j ∧ j < a + i
    · rw [if_pos q, if_pos (by omega)]
    · rw [if_neg q, if_neg (by omega)]
theorem nm_fin {g z : Nat → Nat} {a v i : Nat} (hi : i = 16) (hI : ∀ j, z j = if a ≤ j ∧ j < a + i then nmb g a v j else g j) : z = nmb g a v := by
  subst hi
  funext j
  rw [hI j]
  by_cases q : a ≤ j ∧ j < a + 16
  · rw [if_pos q]
  · rw [if_neg q, nmb_out (by omega)]
theorem r_xor16 {x : Nat} (h : x < 65536) : x ^^^ 65535 = 65535 - x := by
  have e : (65535 : Nat) - x = 2 ^ 16 - (x + 1) := by omega
  rw [e]
  apply Nat.eq_of_testBit_eq
  intro i
  rw [Nat.testBit_two_pow_sub_succ h, Nat.testBit_xor, show (65535 : Nat) = 2 ^ 16 - 1 from rfl, Nat.testBit_two_pow_sub_one]
  by_cases q : i < 16
  · simp [q]
  · have : x.testBit i = false := Nat.testBit_lt_two_pow (Nat.lt_of_lt_of_le (show x < 2 ^ 16 from h) (Nat.pow_le_pow_right (n := 2) (by decide) (by omega : 16 ≤ i)))
    simp [q, this]
theorem r_not16 {x : Nat} (h : x < 65536) : nI x ^^^ nI 65535 = nI (65535 - x) := by
  refine uw_inj ?_
  rw [uw_nI' (by omega)]
  show (nI x).toBitVec.toNat ^^^ 65535 = _
  have e : (nI x).toBitVec.toNat = x := uw_nI' (by omega)
  rw [e]
  exact r_xor16 h
theorem r_or {x y : Nat} (hx : x < 4294967296) (hy : y < 4294967296) : nI x ||| nI y = nI (x ||| y) := by
  refine uw_inj ?_
  rw [uw_or, uw_nI' hx, uw_nI' hy, uw_nI' (Nat.or_lt_two_pow (n := 32) hx hy)]
theorem r_and {x y : Nat} (hx : x < 4294967296) (hy : y < 4294967296) : nI x &&& nI y = nI (x &&& y) := by
  refine uw_inj ?_
  rw [uw_and, uw_nI' hx, uw_nI' hy, uw_nI' (Nat.lt_of_le_of_lt Nat.and_le_left hx)]
theorem r_xor {x y : Nat} (hx : x < 4294967296) (hy : y < 4294967296) : nI x ^^^ nI y = nI (x ^^^ y) := by
  refine uw_inj ?_
  show (nI x).toBitVec.toNat ^^^ (nI y).toBitVec.toNat = _
  have e1 : (nI x).toBitVec.toNat = x := uw_nI' hx
  have e2 : (nI y).toBitVec.toNat = y := uw_nI' hy
  rw [e1, e2, uw_nI' (Nat.xor_lt_two_pow (n := 32) hx hy)]
/-! zero, small, less -/
theorem iz_t {g : Nat → Nat} {r i : Nat} (h : gv g r i = 0) (h2 : g (r + i) = 0) : decide (gv g r (i + 1) = 0) = true := by
  rw [gv_s, h, h2, Nat.zero_mul]; rfl
theorem iz_f1 {g : Nat → Nat} {r i : Nat} (h : ¬ gv g r i = 0) : decide (gv g r (i + 1) = 0) = false := by
  rw [gv_s]; exact decide_eq_false (by omega)
theorem iz_f2 {g : Nat → Nat} {r i : Nat} (h2 : ¬ g (r + i) = 0) : decide (gv g r (i + 1) = 0) = false := by
  refine decide_eq_false (fun q => h2 ?_)
  exact gv_is0.mp q i (Nat.lt_succ_self i)
theorem sm_f {g : Nat → Nat} {r : Nat} (hg : ∀ j, g j < 65536) (h : gv g (r + 1) 15 = 0) : g r = min (gv g r 16) 65535 := by
  have e : gv g r 16 = gv g r 1 + gv g (r + 1) 15 * 65536 ^ 1 := gv_add (g := g) (r := r) (n := 1) (k := 15)
  have e1 : gv g r 1 = g r := by rw [gv_s, gv_0, Nat.pow_zero, Nat.mul_one, Nat.zero_add, Nat.add_zero]
  rw [h, Nat.zero_mul, Nat.add_zero, e1] at e
  have hr := hg r
  rw [e]
  omega
theorem sm_t {g : Nat → Nat} {r : Nat} (h : ¬ gv g (r + 1) 15 = 0) : 65535 = min (gv g r 16) 65535 := by
  have e := gv_add (g := g) (r := r) (n := 1) (k := 15)
  have e : gv g r 16 = gv g r 1 + gv g (r + 1) 15 * 65536 ^ 1 := e
  rw [Nat.pow_one] at e
  omega
theorem gv_neg {g : Nat → Nat} (hg : ∀ j, g j < 65536) {r : Nat} : m_isneg (gv g r 16) = decide (32767 < g (r + 15)) := by
  have e : gv g r 16 = gv g r 15 + g (r + 15) * 65536 ^ 15 := gv_s g r 15
  have hl := gv_lt hg r 15
  unfold m_isneg
  rw [e, show (2 : Nat) ^ 255 = 32768 * 65536 ^ 15 by decide, decide_eq_decide]
  generalize 65536 ^ 15 = P at *
  generalize gv g r 15 = L at *
  generalize g (r + 15) = d at *
  constructor
  · intro h
    rcases Nat.lt_or_ge 32767 d with q | q
    · exact q
    · have : d * P ≤ 32767 * P := Nat.mul_le_mul_right P q
      omega
  · intro h
    have : 32768 * P ≤ d * P := Nat.mul_le_mul_right P h
    omega

abbrev y_M_hasNumber : MethodName := ⟨"WideStackModel", "hasNumber", "(I)Z"⟩
theorem d_M_hasNumber_0 : decode prog_12_method_5_code 0 = .ok (.iload_n 0, 1) := by decide +kernel
theorem d_M_hasNumber_1 : decode prog_12_method_5_code 1 = .ok (.bipush 96, 2) := by decide +kernel
theorem d_M_hasNumber_3 : decode prog_12_method_5_code 3 = .ok (.if_icmp .lt 13, 3) := by decide +kernel
theorem d_M_hasNumber_6 : decode prog_12_method_5_code 6 = .ok (.iload_n 0, 1) := by decide +kernel
theorem d_M_hasNumber_7 : decode prog_12_method_5_code 7 = .ok (.bipush 127, 2) := by decide +kernel
theorem d_M_hasNumber_9 : decode prog_12_method_5_code 9 = .ok (.if_icmp .gt 7, 3) := by decide +kernel
theorem d_M_hasNumber_12 : decode prog_12_method_5_code 12 = .ok (.iconst 1, 1) := by decide +kernel
theorem d_M_hasNumber_13 : decode prog_12_method_5_code 13 = .ok (.goto 4, 3) := by decide +kernel
theorem d_M_hasNumber_16 : decode prog_12_method_5_code 16 = .ok (.iconst 0, 1) := by decide +kernel
theorem d_M_hasNumber_17 : decode prog_12_method_5_code 17 = .ok (.ireturn, 1) := by decide +kernel
def rm_c_M_hasNumber : Room := { frames := 0, cells := 0, slots := 0, locals := 0 }
set_option maxHeartbeats 4000000 in
set_option maxRecDepth 100000 in
theorem c_M_hasNumber (l : Launch) (E : kE) (o : Nat) (ho : o < 256) : Kp l y_M_hasNumber (kW y_M_hasNumber prog_12_method_5_code 1 (some .boolean)) rm_c_M_hasNumber E [.int (nI o)] [] (fun r => r = kb (decide (96 ≤ o ∧ o ≤ 127))) := by
  refine Kp.ofZ (cc := prog_12_method_5_code) (maxL := 1) (by decide) (Nat.le_of_ble_eq_true rfl) ?_
  intro p e s m args below meth c A ls Q hx hb hts hown hml hK hG hA hP hD hS hl hret
  have hl : lv_has ls 1 [(0, .int (nI o))] := hl
  refine lv_iload_n hx hb d_M_hasNumber_0 rfl (lv_at hl 0 rfl) ?_
  refine lv_bipush (v := nI 96) hx hb d_M_hasNumber_1 (by decide) ?_
  refine kn_lt (tgt := 16) hx hb (by omega) (by omega) d_M_hasNumber_3 (by decide) (fun h3 => ?_) (fun h3 => ?_)
  · refine lv_iconst (v := nI 0) hx hb d_M_hasNumber_16 (by decide) ?_
    first | exact hret _ ls _ d_M_hasNumber_17 (by decide) (by rw [decide_eq_true (by omega)]; rfl) | exact hret _ ls _ d_M_hasNumber_17 (by decide) (by rw [decide_eq_false (by omega)]; rfl)
  · refine lv_iload_n hx hb d_M_hasNumber_6 rfl (lv_at hl 0 rfl) ?_
    refine lv_bipush (v := nI 127) hx hb d_M_hasNumber_7 (by decide) ?_
    refine kn_gt (tgt := 16) hx hb (by omega) (by omega) d_M_hasNumber_9 (by decide) (fun h9 => ?_) (fun h9 => ?_)
    · refine lv_iconst (v := nI 0) hx hb d_M_hasNumber_16 (by decide) ?_
      first | exact hret _ ls _ d_M_hasNumber_17 (by decide) (by rw [decide_eq_true (by omega)]; rfl) | exact hret _ ls _ d_M_hasNumber_17 (by decide) (by rw [decide_eq_false (by omega)]; rfl)
    · refine lv_iconst (v := nI 1) hx hb d_M_hasNumber_12 (by decide) ?_
      refine lv_goto (tgt := 17) hx hb d_M_hasNumber_13 (by decide) ?_
      first | exact hret _ ls _ d_M_hasNumber_17 (by decide) (by rw [decide_eq_true (by omega)]; rfl) | exact hret _ ls _ d_M_hasNumber_17 (by decide) (by rw [decide_eq_false (by omega)]; rfl)

abbrev y_M_behind : MethodName := ⟨"WideStackModel", "behind", "(II)I"⟩
theorem d_M_behind_0 : decode prog_12_method_6_code 0 = .ok (.iload_n 1, 1) := by decide +kernel
theorem d_M_behind_1 : decode prog_12_method_6_code 1 = .ok (.invokestatic 37, 3) := by decide +kernel
theorem d_M_behind_4 : decode prog_12_method_6_code 4 = .ok (.ifCond .eq 12, 3) := by decide +kernel
theorem d_M_behind_7 : decode prog_12_method_6_code 7 = .ok (.iload_n 0, 1) := by decide +kernel
theorem d_M_behind_8 : decode prog_12_method_6_code 8 = .ok (.iload_n 1, 1) := by decide +kernel
theorem d_M_behind_9 : decode prog_12_method_6_code 9 = .ok (.iadd, 1) := by decide +kernel
theorem d_M_behind_10 : decode prog_12_method_6_code 10 = .ok (.bipush 94, 2) := by decide +kernel
theorem d_M_behind_12 : decode prog_12_method_6_code 12 = .ok (.isub, 1) := by decide +kernel
theorem d_M_behind_13 : decode prog_12_method_6_code 13 = .ok (.goto 6, 3) := by decide +kernel
theorem d_M_behind_16 : decode prog_12_method_6_code 16 = .ok (.iload_n 0, 1) := by decide +kernel
theorem d_M_behind_17 : decode prog_12_method_6_code 17 = .ok (.iconst 1, 1) := by decide +kernel
theorem d_M_behind_18 : decode prog_12_method_6_code 18 = .ok (.iadd, 1) := by decide +kernel
theorem d_M_behind_19 : decode prog_12_method_6_code 19 = .ok (.ireturn, 1) := by decide +kernel
def rm_c_M_behind : Room := { frames := 1, cells := 0, slots := 0, locals := 20 }
set_option maxHeartbeats 4000000 in
set_option maxRecDepth 100000 in
theorem c_M_behind (l : Launch) (E : kE) (i o : Nat) (ho : o < 256) : Kp l y_M_behind (kW y_M_behind prog_12_method_6_code 2 (some .int)) rm_c_M_behind E [.int (nI i), .int (nI o)] [] (fun r => r = nI (i + 1 + m_numl o)) := by
  refine Kp.ofI (cc := prog_12_method_6_code) (maxL := 2) (by decide) (Nat.le_of_ble_eq_true rfl) ?_
  intro p e s m args below meth c A ls Q hx hb hts hown hml hK hG hA hP hD hS hl hret
  have hl : lv_has ls 2 [(0, .int (nI i)), (1, .int (nI o))] := hl
  refine lv_iload_n hx hb d_M_behind_0 rfl (lv_at hl 1 rfl) ?_
  refine k_Sp (As := [.int (nI o)]) (rest := []) ⟨hx, hb, hml, hown, hts⟩ (c_M_hasNumber l E o ho) (k_cwS 1 hts t_816 t_817 t_71 t_818 (by decide +kernel) ⟨Nat.le_of_ble_eq_true rfl, Nat.le_of_ble_eq_true rfl⟩) hK hG hA hP hD hS [] rfl (by decide) rfl hl.1 rfl (Nat.le_of_ble_eq_true rfl) d_M_behind_1 ⟨Nat.zero_le _, Nat.zero_le _⟩ (fun r1 hu1 => ?_)
  subst hu1
  refine lv_if_eq (tgt := 16) hx hb d_M_behind_4 (by decide) (fun h4 => ?_) (fun h4 => ?_)
  · have hq := of_decide_eq_false (kb_0.mp h4)
    refine lv_iload_n hx hb d_M_behind_16 rfl (lv_at hl 0 rfl) ?_
    refine lv_iconst (v := nI 1) hx hb d_M_behind_17 (by decide) ?_
    refine lv_iadd hx hb d_M_behind_18 ?_
    refine k_top (nI_add _ _) ?_
    first | exact hret _ ls _ d_M_behind_19 (by rw [m_numl_in (by omega) (by omega), show i + o - 94 = i + 1 + (o - 96 + 1) by omega]) | exact hret _ ls _ d_M_behind_19 (by rw [m_numl_out (by omega)])
  · have hq := of_decide_eq_true (kb_n0 h4)
    refine lv_iload_n hx hb d_M_behind_7 rfl (lv_at hl 0 rfl) ?_
    refine lv_iload_n hx hb d_M_behind_8 rfl (lv_at hl 1 rfl) ?_
    refine lv_iadd hx hb d_M_behind_9 ?_
    refine k_top (nI_add _ _) ?_
    refine lv_bipush (v := nI 94) hx hb d_M_behind_10 (by decide) ?_
    refine lv_isub hx hb d_M_behind_12 ?_
    refine k_top (pk_sub (by omega)) ?_
    refine lv_goto (tgt := 19) hx hb d_M_behind_13 (by decide) ?_
    first | exact hret _ ls _ d_M_behind_19 (by rw [m_numl_in (by omega) (by omega), show i + o - 94 = i + 1 + (o - 96 + 1) by omega]) | exact hret _ ls _ d_M_behind_19 (by rw [m_numl_out (by omega)])

theorem kn_iff (o : Nat) : m_known o = true ↔ (o ≤ 9 ∨ o = 11 ∨ (16 ≤ o ∧ o ≤ 29) ∨ (80 ≤ o ∧ o ≤ 83) ∨ (86 ≤ o ∧ o ≤ 91) ∨ (96 ≤ o ∧ o ≤ 159) ∨ o = 243) := by
  unfold m_known
  simp only [Bool.or_eq_true, Bool.and_eq_true, decide_eq_true_eq, or_assoc]
theorem kn_f {o : Nat} (h : ¬ (o ≤ 9 ∨ o = 11 ∨ (16 ≤ o ∧ o ≤ 29) ∨ (80 ≤ o ∧ o ≤ 83) ∨ (86 ≤ o ∧ o ≤ 91) ∨ (96 ≤ o ∧ o ≤ 159) ∨ o = 243)) : m_known o = false := by
  rcases Bool.eq_false_or_eq_true (m_known o) with q | q
  · exact absurd ((kn_iff o).mp q) h
  · exact q

abbrev y_M_known : MethodName := ⟨"WideStackModel", "known", "(I)Z"⟩
theorem d_M_known_0 : decode prog_12_method_9_code 0 = .ok (.iload_n 0, 1) := by decide +kernel
theorem d_M_known_1 : decode prog_12_method_9_code 1 = .ok (.bipush 29, 2) := by decide +kernel
theorem d_M_known_3 : decode prog_12_method_9_code 3 = .ok (.if_icmp .gt 27, 3) := by decide +kernel
theorem d_M_known_6 : decode prog_12_method_9_code 6 = .ok (.iload_n 0, 1) := by decide +kernel
theorem d_M_known_7 : decode prog_12_method_9_code 7 = .ok (.bipush 9, 2) := by decide +kernel
theorem d_M_known_9 : decode prog_12_method_9_code 9 = .ok (.if_icmp .le 15, 3) := by decide +kernel
theorem d_M_known_12 : decode prog_12_method_9_code 12 = .ok (.iload_n 0, 1) := by decide +kernel
theorem d_M_known_13 : decode prog_12_method_9_code 13 = .ok (.bipush 11, 2) := by decide +kernel
theorem d_M_known_15 : decode prog_12_method_9_code 15 = .ok (.if_icmp .eq 9, 3) := by decide +kernel
theorem d_M_known_18 : decode prog_12_method_9_code 18 = .ok (.iload_n 0, 1) := by decide +kernel
theorem d_M_known_19 : decode prog_12_method_9_code 19 = .ok (.bipush 16, 2) := by decide +kernel
theorem d_M_known_21 : decode prog_12_method_9_code 21 = .ok (.if_icmp .lt 7, 3) := by decide +kernel
theorem d_M_known_24 : decode prog_12_method_9_code 24 = .ok (.iconst 1, 1) := by decide +kernel
theorem d_M_known_25 : decode prog_12_method_9_code 25 = .ok (.goto 4, 3) := by decide +kernel
theorem d_M_known_28 : decode prog_12_method_9_code 28 = .ok (.iconst 0, 1) := by decide +kernel
theorem d_M_known_29 : decode prog_12_method_9_code 29 = .ok (.ireturn, 1) := by decide +kernel
theorem d_M_known_30 : decode prog_12_method_9_code 30 = .ok (.iload_n 0, 1) := by decide +kernel
theorem d_M_known_31 : decode prog_12_method_9_code 31 = .ok (.bipush 96, 2) := by decide +kernel
theorem d_M_known_33 : decode prog_12_method_9_code 33 = .ok (.if_icmp .ge 33, 3) := by decide +kernel
theorem d_M_known_36 : decode prog_12_method_9_code 36 = .ok (.iload_n 0, 1) := by decide +kernel
theorem d_M_known_37 : decode prog_12_method_9_code 37 = .ok (.bipush 80, 2) := by decide +kernel
theorem d_M_known_39 : decode prog_12_method_9_code 39 = .ok (.if_icmp .lt 9, 3) := by decide +kernel
theorem d_M_known_42 : decode prog_12_method_9_code 42 = .ok (.iload_n 0, 1) := by decide +kernel
theorem d_M_known_43 : decode prog_12_method_9_code 43 = .ok (.bipush 83, 2) := by decide +kernel
theorem d_M_known_45 : decode prog_12_method_9_code 45 = .ok (.if_icmp .le 15, 3) := by decide +kernel
theorem d_M_known_48 : decode prog_12_method_9_code 48 = .ok (.iload_n 0, 1) := by decide +kernel
theorem d_M_known_49 : decode prog_12_method_9_code 49 = .ok (.bipush 86, 2) := by decide +kernel
theorem d_M_known_51 : decode prog_12_method_9_code 51 = .ok (.if_icmp .lt 13, 3) := by decide +kernel
theorem d_M_known_54 : decode prog_12_method_9_code 54 = .ok (.iload_n 0, 1) := by decide +kernel
theorem d_M_known_55 : decode prog_12_method_9_code 55 = .ok (.bipush 91, 2) := by decide +kernel
theorem d_M_known_57 : decode prog_12_method_9_code 57 = .ok (.if_icmp .gt 7, 3) := by decide +kernel
theorem d_M_known_60 : decode prog_12_method_9_code 60 = .ok (.iconst 1, 1) := by decide +kernel
theorem d_M_known_61 : decode prog_12_method_9_code 61 = .ok (.goto 4, 3) := by decide +kernel
theorem d_M_known_64 : decode prog_12_method_9_code 64 = .ok (.iconst 0, 1) := by decide +kernel
theorem d_M_known_65 : decode prog_12_method_9_code 65 = .ok (.ireturn, 1) := by decide +kernel
theorem d_M_known_66 : decode prog_12_method_9_code 66 = .ok (.iload_n 0, 1) := by decide +kernel
theorem d_M_known_67 : decode prog_12_method_9_code 67 = .ok (.sipush 159, 3) := by decide +kernel
theorem d_M_known_70 : decode prog_12_method_9_code 70 = .ok (.if_icmp .le 10, 3) := by decide +kernel
theorem d_M_known_73 : decode prog_12_method_9_code 73 = .ok (.iload_n 0, 1) := by decide +kernel
theorem d_M_known_74 : decode prog_12_method_9_code 74 = .ok (.sipush 243, 3) := by decide +kernel
theorem d_M_known_77 : decode prog_12_method_9_code 77 = .ok (.if_icmp .ne 7, 3) := by decide +kernel
theorem d_M_known_80 : decode prog_12_method_9_code 80 = .ok (.iconst 1, 1) := by decide +kernel
theorem d_M_known_81 : decode prog_12_method_9_code 81 = .ok (.goto 4, 3) := by decide +kernel
theorem d_M_known_84 : decode prog_12_method_9_code 84 = .ok (.iconst 0, 1) := by decide +kernel
theorem d_M_known_85 : decode prog_12_method_9_code 85 = .ok (.ireturn, 1) := by decide +kernel
def rm_c_M_known : Room := { frames := 0, cells := 0, slots := 0, locals := 0 }
set_option maxHeartbeats 4000000 in
set_option maxRecDepth 100000 in
theorem c_M_known (l : Launch) (E : kE) (o : Nat) (ho : o < 256) : Kp l y_M_known (kW y_M_known prog_12_method_9_code 1 (some .boolean)) rm_c_M_known E [.int (nI o)] [] (fun r => r = kb (m_known o)) := by
  refine Kp.ofZ (cc := prog_12_method_9_code) (maxL := 1) (by decide) (Nat.le_of_ble_eq_true rfl) ?_
  intro p e s m args below meth c A ls Q hx hb hts hown hml hK hG hA hP hD hS hl hret
  have hl : lv_has ls 1 [(0, .int (nI o))] := hl
  refine lv_iload_n hx hb d_M_known_0 rfl (lv_at hl 0 rfl) ?_
  refine lv_bipush (v := nI 29) hx hb d_M_known_1 (by decide) ?_
  refine kn_gt (tgt := 30) hx hb (by omega) (by omega) d_M_known_3 (by decide) (fun h3 => ?_) (fun h3 => ?_)
  · refine lv_iload_n hx hb d_M_known_30 rfl (lv_at hl 0 rfl) ?_
    refine lv_bipush (v := nI 96) hx hb d_M_known_31 (by decide) ?_
    refine kn_ge (tgt := 66) hx hb (by omega) (by omega) d_M_known_33 (by decide) (fun h33 => ?_) (fun h33 => ?_)
    · refine lv_iload_n hx hb d_M_known_66 rfl (lv_at hl 0 rfl) ?_
      refine lv_sipush (v := nI 159) hx hb d_M_known_67 (by decide) ?_
      refine kn_le (tgt := 80) hx hb (by omega) (by omega) d_M_known_70 (by decide) (fun h70 => ?_) (fun h70 => ?_)
      · refine lv_iconst (v := nI 1) hx hb d_M_known_80 (by decide) ?_
        refine lv_goto (tgt := 85) hx hb d_M_known_81 (by decide) ?_
        first | exact hret _ ls _ d_M_known_85 (by decide) (by rw [(kn_iff o).mpr (by omega)]; rfl) | exact hret _ ls _ d_M_known_85 (by decide) (by rw [kn_f (by omega)]; rfl)
      · refine lv_iload_n hx hb d_M_known_73 rfl (lv_at hl 0 rfl) ?_
        refine lv_sipush (v := nI 243) hx hb d_M_known_74 (by decide) ?_
        refine kn_ne (tgt := 84) hx hb (by omega) (by omega) d_M_known_77 (by decide) (fun h77 => ?_) (fun h77 => ?_)
        · refine lv_iconst (v := nI 0) hx hb d_M_known_84 (by decide) ?_
          first | exact hret _ ls _ d_M_known_85 (by decide) (by rw [(kn_iff o).mpr (by omega)]; rfl) | exact hret _ ls _ d_M_known_85 (by decide) (by rw [kn_f (by omega)]; rfl)
        · refine lv_iconst (v := nI 1) hx hb d_M_known_80 (by decide) ?_
          refine lv_goto (tgt := 85) hx hb d_M_known_81 (by decide) ?_
          first | exact hret _ ls _ d_M_known_85 (by decide) (by rw [(kn_iff o).mpr (by omega)]; rfl) | exact hret _ ls _ d_M_known_85 (by decide) (by rw [kn_f (by omega)]; rfl)
    · refine lv_iload_n hx hb d_M_known_36 rfl (lv_at hl 0 rfl) ?_
      refine lv_bipush (v := nI 80) hx hb d_M_known_37 (by decide) ?_
      refine kn_lt (tgt := 48) hx hb (by omega) (by omega) d_M_known_39 (by decide) (fun h39 => ?_) (fun h39 => ?_)
      · refine lv_iload_n hx hb d_M_known_48 rfl (lv_at hl 0 rfl) ?_
        refine lv_bipush (v := nI 86) hx hb d_M_known_49 (by decide) ?_
        refine kn_lt (tgt := 64) hx hb (by omega) (by omega) d_M_known_51 (by decide) (fun h51 => ?_) (fun h51 => ?_)
        · refine lv_iconst (v := nI 0) hx hb d_M_known_64 (by decide) ?_
          first | exact hret _ ls _ d_M_known_65 (by decide) (by rw [(kn_iff o).mpr (by omega)]; rfl) | exact hret _ ls _ d_M_known_65 (by decide) (by rw [kn_f (by omega)]; rfl)
        · refine lv_iload_n hx hb d_M_known_54 rfl (lv_at hl 0 rfl) ?_
          refine lv_bipush (v := nI 91) hx hb d_M_known_55 (by decide) ?_
          refine kn_gt (tgt := 64) hx hb (by omega) (by omega) d_M_known_57 (by decide) (fun h57 => ?_) (fun h57 => ?_)
          · refine lv_iconst (v := nI 0) hx hb d_M_known_64 (by decide) ?_
            first | exact hret _ ls _ d_M_known_65 (by decide) (by rw [(kn_iff o).mpr (by omega)]; rfl) | exact hret _ ls _ d_M_known_65 (by decide) (by rw [kn_f (by omega)]; rfl)
          · refine lv_iconst (v := nI 1) hx hb d_M_known_60 (by decide) ?_
            refine lv_goto (tgt := 65) hx hb d_M_known_61 (by decide) ?_
            first | exact hret _ ls _ d_M_known_65 (by decide) (by rw [(kn_iff o).mpr (by omega)]; rfl) | exact hret _ ls _ d_M_known_65 (by decide) (by rw [kn_f (by omega)]; rfl)
      · refine lv_iload_n hx hb d_M_known_42 rfl (lv_at hl 0 rfl) ?_
        refine lv_bipush (v := nI 83) hx hb d_M_known_43 (by decide) ?_
        refine kn_le (tgt := 60) hx hb (by omega) (by omega) d_M_known_45 (by decide) (fun h45 => ?_) (fun h45 => ?_)
        · refine lv_iconst (v := nI 1) hx hb d_M_known_60 (by decide) ?_
          refine lv_goto (tgt := 65) hx hb d_M_known_61 (by decide) ?_
          first | exact hret _ ls _ d_M_known_65 (by decide) (by rw [(kn_iff o).mpr (by omega)]; rfl) | exact hret _ ls _ d_M_known_65 (by decide) (by rw [kn_f (by omega)]; rfl)
        · refine lv_iload_n hx hb d_M_known_48 rfl (lv_at hl 0 rfl) ?_
          refine lv_bipush (v := nI 86) hx hb d_M_known_49 (by decide) ?_
          refine kn_lt (tgt := 64) hx hb (by omega) (by omega) d_M_known_51 (by decide) (fun h51 => ?_) (fun h51 => ?_)
          · refine lv_iconst (v := nI 0) hx hb d_M_known_64 (by decide) ?_
            first | exact hret _ ls _ d_M_known_65 (by decide) (by rw [(kn_iff o).mpr (by omega)]; rfl) | exact hret _ ls _ d_M_known_65 (by decide) (by rw [kn_f (by omega)]; rfl)
          · refine lv_iload_n hx hb d_M_known_54 rfl (lv_at hl 0 rfl) ?_
            refine lv_bipush (v := nI 91) hx hb d_M_known_55 (by decide) ?_
            refine kn_gt (tgt := 64) hx hb (by omega) (by omega) d_M_known_57 (by decide) (fun h57 => ?_) (fun h57 => ?_)
            · refine lv_iconst (v := nI 0) hx hb d_M_known_64 (by decide) ?_
              first | exact hret _ ls _ d_M_known_65 (by decide) (by rw [(kn_iff o).mpr (by omega)]; rfl) | exact hret _ ls _ d_M_known_65 (by decide) (by rw [kn_f (by omega)]; rfl)
            · refine lv_iconst (v := nI 1) hx hb d_M_known_60 (by decide) ?_
              refine lv_goto (tgt := 65) hx hb d_M_known_61 (by decide) ?_
              first | exact hret _ ls _ d_M_known_65 (by decide) (by rw [(kn_iff o).mpr (by omega)]; rfl) | exact hret _ ls _ d_M_known_65 (by decide) (by rw [kn_f (by omega)]; rfl)
  · refine lv_iload_n hx hb d_M_known_6 rfl (lv_at hl 0 rfl) ?_
    refine lv_bipush (v := nI 9) hx hb d_M_known_7 (by decide) ?_
    refine kn_le (tgt := 24) hx hb (by omega) (by omega) d_M_known_9 (by decide) (fun h9 => ?_) (fun h9 => ?_)
    · refine lv_iconst (v := nI 1) hx hb d_M_known_24 (by decide) ?_
      refine lv_goto (tgt := 29) hx hb d_M_known_25 (by decide) ?_
      first | exact hret _ ls _ d_M_known_29 (by decide) (by rw [(kn_iff o).mpr (by omega)]; rfl) | exact hret _ ls _ d_M_known_29 (by decide) (by rw [kn_f (by omega)]; rfl)
    · refine lv_iload_n hx hb d_M_known_12 rfl (lv_at hl 0 rfl) ?_
      refine lv_bipush (v := nI 11) hx hb d_M_known_13 (by decide) ?_
      refine kn_eq (tgt := 24) hx hb (by omega) (by omega) d_M_known_15 (by decide) (fun h15 => ?_) (fun h15 => ?_)
      · refine lv_iconst (v := nI 1) hx hb d_M_known_24 (by decide) ?_
        refine lv_goto (tgt := 29) hx hb d_M_known_25 (by decide) ?_
        first | exact hret _ ls _ d_M_known_29 (by decide) (by rw [(kn_iff o).mpr (by omega)]; rfl) | exact hret _ ls _ d_M_known_29 (by decide) (by rw [kn_f (by omega)]; rfl)
      · refine lv_iload_n hx hb d_M_known_18 rfl (lv_at hl 0 rfl) ?_
        refine lv_bipush (v := nI 16) hx hb d_M_known_19 (by decide) ?_
        refine kn_lt (tgt := 28) hx hb (by omega) (by omega) d_M_known_21 (by decide) (fun h21 => ?_) (fun h21 => ?_)
        · refine lv_iconst (v := nI 0) hx hb d_M_known_28 (by decide) ?_
          first | exact hret _ ls _ d_M_known_29 (by decide) (by rw [(kn_iff o).mpr (by omega)]; rfl) | exact hret _ ls _ d_M_known_29 (by decide) (by rw [kn_f (by omega)]; rfl)
        · refine lv_iconst (v := nI 1) hx hb d_M_known_24 (by decide) ?_
          refine lv_goto (tgt := 29) hx hb d_M_known_25 (by decide) ?_
          first | exact hret _ ls _ d_M_known_29 (by decide) (by rw [(kn_iff o).mpr (by omega)]; rfl) | exact hret _ ls _ d_M_known_29 (by decide) (by rw [kn_f (by omega)]; rfl)

abbrev y_M_takes : MethodName := ⟨"WideStackModel", "takes", "(I)I"⟩
theorem d_M_takes_0 : decode prog_12_method_10_code 0 = .ok (.iload_n 0, 1) := by decide +kernel
theorem d_M_takes_1 : decode prog_12_method_10_code 1 = .ok (.ifCond .eq 15, 3) := by decide +kernel
theorem d_M_takes_4 : decode prog_12_method_10_code 4 = .ok (.iload_n 0, 1) := by decide +kernel
theorem d_M_takes_5 : decode prog_12_method_10_code 5 = .ok (.bipush 88, 2) := by decide +kernel
theorem d_M_takes_7 : decode prog_12_method_10_code 7 = .ok (.if_icmp .lt 11, 3) := by decide +kernel
theorem d_M_takes_10 : decode prog_12_method_10_code 10 = .ok (.iload_n 0, 1) := by decide +kernel
theorem d_M_takes_11 : decode prog_12_method_10_code 11 = .ok (.bipush 127, 2) := by decide +kernel
theorem d_M_takes_13 : decode prog_12_method_10_code 13 = .ok (.if_icmp .gt 5, 3) := by decide +kernel
theorem d_M_takes_16 : decode prog_12_method_10_code 16 = .ok (.iconst 0, 1) := by decide +kernel
theorem d_M_takes_17 : decode prog_12_method_10_code 17 = .ok (.ireturn, 1) := by decide +kernel
theorem d_M_takes_18 : decode prog_12_method_10_code 18 = .ok (.iload_n 0, 1) := by decide +kernel
theorem d_M_takes_19 : decode prog_12_method_10_code 19 = .ok (.bipush 8, 2) := by decide +kernel
theorem d_M_takes_21 : decode prog_12_method_10_code 21 = .ok (.if_icmp .eq 9, 3) := by decide +kernel
theorem d_M_takes_24 : decode prog_12_method_10_code 24 = .ok (.iload_n 0, 1) := by decide +kernel
theorem d_M_takes_25 : decode prog_12_method_10_code 25 = .ok (.bipush 9, 2) := by decide +kernel
theorem d_M_takes_27 : decode prog_12_method_10_code 27 = .ok (.if_icmp .ne 5, 3) := by decide +kernel
theorem d_M_takes_30 : decode prog_12_method_10_code 30 = .ok (.iconst 3, 1) := by decide +kernel
theorem d_M_takes_31 : decode prog_12_method_10_code 31 = .ok (.ireturn, 1) := by decide +kernel
theorem d_M_takes_32 : decode prog_12_method_10_code 32 = .ok (.iload_n 0, 1) := by decide +kernel
theorem d_M_takes_33 : decode prog_12_method_10_code 33 = .ok (.bipush 21, 2) := by decide +kernel
theorem d_M_takes_35 : decode prog_12_method_10_code 35 = .ok (.if_icmp .eq 27, 3) := by decide +kernel
theorem d_M_takes_38 : decode prog_12_method_10_code 38 = .ok (.iload_n 0, 1) := by decide +kernel
theorem d_M_takes_39 : decode prog_12_method_10_code 39 = .ok (.bipush 25, 2) := by decide +kernel
theorem d_M_takes_41 : decode prog_12_method_10_code 41 = .ok (.if_icmp .eq 21, 3) := by decide +kernel
theorem d_M_takes_44 : decode prog_12_method_10_code 44 = .ok (.iload_n 0, 1) := by decide +kernel
theorem d_M_takes_45 : decode prog_12_method_10_code 45 = .ok (.bipush 80, 2) := by decide +kernel
theorem d_M_takes_47 : decode prog_12_method_10_code 47 = .ok (.if_icmp .eq 15, 3) := by decide +kernel
theorem d_M_takes_50 : decode prog_12_method_10_code 50 = .ok (.iload_n 0, 1) := by decide +kernel
theorem d_M_takes_51 : decode prog_12_method_10_code 51 = .ok (.bipush 81, 2) := by decide +kernel
theorem d_M_takes_53 : decode prog_12_method_10_code 53 = .ok (.if_icmp .eq 9, 3) := by decide +kernel
theorem d_M_takes_56 : decode prog_12_method_10_code 56 = .ok (.iload_n 0, 1) := by decide +kernel
theorem d_M_takes_57 : decode prog_12_method_10_code 57 = .ok (.bipush 86, 2) := by decide +kernel
theorem d_M_takes_59 : decode prog_12_method_10_code 59 = .ok (.if_icmp .ne 5, 3) := by decide +kernel
theorem d_M_takes_62 : decode prog_12_method_10_code 62 = .ok (.iconst 1, 1) := by decide +kernel
theorem d_M_takes_63 : decode prog_12_method_10_code 63 = .ok (.ireturn, 1) := by decide +kernel
theorem d_M_takes_64 : decode prog_12_method_10_code 64 = .ok (.iload_n 0, 1) := by decide +kernel
theorem d_M_takes_65 : decode prog_12_method_10_code 65 = .ok (.sipush 128, 3) := by decide +kernel
theorem d_M_takes_68 : decode prog_12_method_10_code 68 = .ok (.if_icmp .lt 17, 3) := by decide +kernel
theorem d_M_takes_71 : decode prog_12_method_10_code 71 = .ok (.iload_n 0, 1) := by decide +kernel
theorem d_M_takes_72 : decode prog_12_method_10_code 72 = .ok (.sipush 143, 3) := by decide +kernel
theorem d_M_takes_75 : decode prog_12_method_10_code 75 = .ok (.if_icmp .gt 10, 3) := by decide +kernel
theorem d_M_takes_78 : decode prog_12_method_10_code 78 = .ok (.iload_n 0, 1) := by decide +kernel
theorem d_M_takes_79 : decode prog_12_method_10_code 79 = .ok (.bipush 127, 2) := by decide +kernel
theorem d_M_takes_81 : decode prog_12_method_10_code 81 = .ok (.isub, 1) := by decide +kernel
theorem d_M_takes_82 : decode prog_12_method_10_code 82 = .ok (.goto 26, 3) := by decide +kernel
theorem d_M_takes_85 : decode prog_12_method_10_code 85 = .ok (.iload_n 0, 1) := by decide +kernel
theorem d_M_takes_86 : decode prog_12_method_10_code 86 = .ok (.sipush 144, 3) := by decide +kernel
theorem d_M_takes_89 : decode prog_12_method_10_code 89 = .ok (.if_icmp .lt 18, 3) := by decide +kernel
theorem d_M_takes_92 : decode prog_12_method_10_code 92 = .ok (.iload_n 0, 1) := by decide +kernel
theorem d_M_takes_93 : decode prog_12_method_10_code 93 = .ok (.sipush 159, 3) := by decide +kernel
theorem d_M_takes_96 : decode prog_12_method_10_code 96 = .ok (.if_icmp .gt 11, 3) := by decide +kernel
theorem d_M_takes_99 : decode prog_12_method_10_code 99 = .ok (.iload_n 0, 1) := by decide +kernel
theorem d_M_takes_100 : decode prog_12_method_10_code 100 = .ok (.sipush 142, 3) := by decide +kernel
theorem d_M_takes_103 : decode prog_12_method_10_code 103 = .ok (.isub, 1) := by decide +kernel
theorem d_M_takes_104 : decode prog_12_method_10_code 104 = .ok (.goto 4, 3) := by decide +kernel
theorem d_M_takes_107 : decode prog_12_method_10_code 107 = .ok (.iconst 2, 1) := by decide +kernel
theorem d_M_takes_108 : decode prog_12_method_10_code 108 = .ok (.ireturn, 1) := by decide +kernel
def rm_c_M_takes : Room := { frames := 0, cells := 0, slots := 0, locals := 0 }
set_option maxHeartbeats 4000000 in
set_option maxRecDepth 100000 in
theorem c_M_takes (l : Launch) (E : kE) (o : Nat) (ho : o < 256) : Kp l y_M_takes (kW y_M_takes prog_12_method_10_code 1 (some .int)) rm_c_M_takes E [.int (nI o)] [] (fun r => r = nI (m_takes o)) := by
  refine Kp.ofI (cc := prog_12_method_10_code) (maxL := 1) (by decide) (Nat.le_of_ble_eq_true rfl) ?_
  intro p e s m args below meth c A ls Q hx hb hts hown hml hK hG hA hP hD hS hl hret
  have hl : lv_has ls 1 [(0, .int (nI o))] := hl
  refine lv_iload_n hx hb d_M_takes_0 rfl (lv_at hl 0 rfl) ?_
  refine kn_ifeq (tgt := 16) hx hb (by omega) d_M_takes_1 (by decide) (fun h1 => ?_) (fun h1 => ?_)
  · refine lv_iconst (v := nI 0) hx hb d_M_takes_16 (by decide) ?_
    exact hret _ ls _ d_M_takes_17 (congrArg nI (by unfold m_takes; (repeat' split) <;> omega))
  · refine lv_iload_n hx hb d_M_takes_4 rfl (lv_at hl 0 rfl) ?_
    refine lv_bipush (v := nI 88) hx hb d_M_takes_5 (by decide) ?_
    refine kn_lt (tgt := 18) hx hb (by omega) (by omega) d_M_takes_7 (by decide) (fun h7 => ?_) (fun h7 => ?_)
    · refine lv_iload_n hx hb d_M_takes_18 rfl (lv_at hl 0 rfl) ?_
      refine lv_bipush (v := nI 8) hx hb d_M_takes_19 (by decide) ?_
      refine kn_eq (tgt := 30) hx hb (by omega) (by omega) d_M_takes_21 (by decide) (fun h21 => ?_) (fun h21 => ?_)
      · refine lv_iconst (v := nI 3) hx hb d_M_takes_30 (by decide) ?_
        exact hret _ ls _ d_M_takes_31 (congrArg nI (by unfold m_takes; (repeat' split) <;> omega))
      · refine lv_iload_n hx hb d_M_takes_24 rfl (lv_at hl 0 rfl) ?_
        refine lv_bipush (v := nI 9) hx hb d_M_takes_25 (by decide) ?_
        refine kn_ne (tgt := 32) hx hb (by omega) (by omega) d_M_takes_27 (by decide) (fun h27 => ?_) (fun h27 => ?_)
        · refine lv_iload_n hx hb d_M_takes_32 rfl (lv_at hl 0 rfl) ?_
          refine lv_bipush (v := nI 21) hx hb d_M_takes_33 (by decide) ?_
          refine kn_eq (tgt := 62) hx hb (by omega) (by omega) d_M_takes_35 (by decide) (fun h35 => ?_) (fun h35 => ?_)
          · refine lv_iconst (v := nI 1) hx hb d_M_takes_62 (by decide) ?_
            exact hret _ ls _ d_M_takes_63 (congrArg nI (by unfold m_takes; (repeat' split) <;> omega))
          · refine lv_iload_n hx hb d_M_takes_38 rfl (lv_at hl 0 rfl) ?_
            refine lv_bipush (v := nI 25) hx hb d_M_takes_39 (by decide) ?_
            refine kn_eq (tgt := 62) hx hb (by omega) (by omega) d_M_takes_41 (by decide) (fun h41 => ?_) (fun h41 => ?_)
            · refine lv_iconst (v := nI 1) hx hb d_M_takes_62 (by decide) ?_
              exact hret _ ls _ d_M_takes_63 (congrArg nI (by unfold m_takes; (repeat' split) <;> omega))
            · refine lv_iload_n hx hb d_M_takes_44 rfl (lv_at hl 0 rfl) ?_
              refine lv_bipush (v := nI 80) hx hb d_M_takes_45 (by decide) ?_
              refine kn_eq (tgt := 62) hx hb (by omega) (by omega) d_M_takes_47 (by decide) (fun h47 => ?_) (fun h47 => ?_)
              · refine lv_iconst (v := nI 1) hx hb d_M_takes_62 (by decide) ?_
                exact hret _ ls _ d_M_takes_63 (congrArg nI (by unfold m_takes; (repeat' split) <;> omega))
              · refine lv_iload_n hx hb d_M_takes_50 rfl (lv_at hl 0 rfl) ?_
                refine lv_bipush (v := nI 81) hx hb d_M_takes_51 (by decide) ?_
                refine kn_eq (tgt := 62) hx hb (by omega) (by omega) d_M_takes_53 (by decide) (fun h53 => ?_) (fun h53 => ?_)
                · refine lv_iconst (v := nI 1) hx hb d_M_takes_62 (by decide) ?_
                  exact hret _ ls _ d_M_takes_63 (congrArg nI (by unfold m_takes; (repeat' split) <;> omega))
                · refine lv_iload_n hx hb d_M_takes_56 rfl (lv_at hl 0 rfl) ?_
                  refine lv_bipush (v := nI 86) hx hb d_M_takes_57 (by decide) ?_
                  refine kn_ne (tgt := 64) hx hb (by omega) (by omega) d_M_takes_59 (by decide) (fun h59 => ?_) (fun h59 => ?_)
                  · refine lv_iload_n hx hb d_M_takes_64 rfl (lv_at hl 0 rfl) ?_
                    refine lv_sipush (v := nI 128) hx hb d_M_takes_65 (by decide) ?_
                    refine kn_lt (tgt := 85) hx hb (by omega) (by omega) d_M_takes_68 (by decide) (fun h68 => ?_) (fun h68 => ?_)
                    · refine lv_iload_n hx hb d_M_takes_85 rfl (lv_at hl 0 rfl) ?_
                      refine lv_sipush (v := nI 144) hx hb d_M_takes_86 (by decide) ?_
                      refine kn_lt (tgt := 107) hx hb (by omega) (by omega) d_M_takes_89 (by decide) (fun h89 => ?_) (fun h89 => ?_)
                      · refine lv_iconst (v := nI 2) hx hb d_M_takes_107 (by decide) ?_
                        exact hret _ ls _ d_M_takes_108 (congrArg nI (by unfold m_takes; (repeat' split) <;> omega))
                      · refine lv_iload_n hx hb d_M_takes_92 rfl (lv_at hl 0 rfl) ?_
                        refine lv_sipush (v := nI 159) hx hb d_M_takes_93 (by decide) ?_
                        refine kn_gt (tgt := 107) hx hb (by omega) (by omega) d_M_takes_96 (by decide) (fun h96 => ?_) (fun h96 => ?_)
                        · refine lv_iconst (v := nI 2) hx hb d_M_takes_107 (by decide) ?_
                          exact hret _ ls _ d_M_takes_108 (congrArg nI (by unfold m_takes; (repeat' split) <;> omega))
                        · refine lv_iload_n hx hb d_M_takes_99 rfl (lv_at hl 0 rfl) ?_
                          refine lv_sipush (v := nI 142) hx hb d_M_takes_100 (by decide) ?_
                          refine lv_isub hx hb d_M_takes_103 ?_
                          refine k_top (pk_sub (by omega)) ?_
                          refine lv_goto (tgt := 108) hx hb d_M_takes_104 (by decide) ?_
                          exact hret _ ls _ d_M_takes_108 (congrArg nI (by unfold m_takes; (repeat' split) <;> omega))
                    · refine lv_iload_n hx hb d_M_takes_71 rfl (lv_at hl 0 rfl) ?_
                      refine lv_sipush (v := nI 143) hx hb d_M_takes_72 (by decide) ?_
                      refine kn_gt (tgt := 85) hx hb (by omega) (by omega) d_M_takes_75 (by decide) (fun h75 => ?_) (fun h75 => ?_)
                      · refine lv_iload_n hx hb d_M_takes_85 rfl (lv_at hl 0 rfl) ?_
                        refine lv_sipush (v := nI 144) hx hb d_M_takes_86 (by decide) ?_
                        refine kn_lt (tgt := 107) hx hb (by omega) (by omega) d_M_takes_89 (by decide) (fun h89 => ?_) (fun h89 => ?_)
                        · refine lv_iconst (v := nI 2) hx hb d_M_takes_107 (by decide) ?_
                          exact hret _ ls _ d_M_takes_108 (congrArg nI (by unfold m_takes; (repeat' split) <;> omega))
                        · refine lv_iload_n hx hb d_M_takes_92 rfl (lv_at hl 0 rfl) ?_
                          refine lv_sipush (v := nI 159) hx hb d_M_takes_93 (by decide) ?_
                          refine kn_gt (tgt := 107) hx hb (by omega) (by omega) d_M_takes_96 (by decide) (fun h96 => ?_) (fun h96 => ?_)
                          · refine lv_iconst (v := nI 2) hx hb d_M_takes_107 (by decide) ?_
                            exact hret _ ls _ d_M_takes_108 (congrArg nI (by unfold m_takes; (repeat' split) <;> omega))
                          · refine lv_iload_n hx hb d_M_takes_99 rfl (lv_at hl 0 rfl) ?_
                            refine lv_sipush (v := nI 142) hx hb d_M_takes_100 (by decide) ?_
                            refine lv_isub hx hb d_M_takes_103 ?_
                            refine k_top (pk_sub (by omega)) ?_
                            refine lv_goto (tgt := 108) hx hb d_M_takes_104 (by decide) ?_
                            exact hret _ ls _ d_M_takes_108 (congrArg nI (by unfold m_takes; (repeat' split) <;> omega))
                      · refine lv_iload_n hx hb d_M_takes_78 rfl (lv_at hl 0 rfl) ?_
                        refine lv_bipush (v := nI 127) hx hb d_M_takes_79 (by decide) ?_
                        refine lv_isub hx hb d_M_takes_81 ?_
                        refine k_top (pk_sub (by omega)) ?_
                        refine lv_goto (tgt := 108) hx hb d_M_takes_82 (by decide) ?_
                        exact hret _ ls _ d_M_takes_108 (congrArg nI (by unfold m_takes; (repeat' split) <;> omega))
                  · refine lv_iconst (v := nI 1) hx hb d_M_takes_62 (by decide) ?_
                    exact hret _ ls _ d_M_takes_63 (congrArg nI (by unfold m_takes; (repeat' split) <;> omega))
        · refine lv_iconst (v := nI 3) hx hb d_M_takes_30 (by decide) ?_
          exact hret _ ls _ d_M_takes_31 (congrArg nI (by unfold m_takes; (repeat' split) <;> omega))
    · refine lv_iload_n hx hb d_M_takes_10 rfl (lv_at hl 0 rfl) ?_
      refine lv_bipush (v := nI 127) hx hb d_M_takes_11 (by decide) ?_
      refine kn_gt (tgt := 18) hx hb (by omega) (by omega) d_M_takes_13 (by decide) (fun h13 => ?_) (fun h13 => ?_)
      · refine lv_iload_n hx hb d_M_takes_18 rfl (lv_at hl 0 rfl) ?_
        refine lv_bipush (v := nI 8) hx hb d_M_takes_19 (by decide) ?_
        refine kn_eq (tgt := 30) hx hb (by omega) (by omega) d_M_takes_21 (by decide) (fun h21 => ?_) (fun h21 => ?_)
        · refine lv_iconst (v := nI 3) hx hb d_M_takes_30 (by decide) ?_
          exact hret _ ls _ d_M_takes_31 (congrArg nI (by unfold m_takes; (repeat' split) <;> omega))
        · refine lv_iload_n hx hb d_M_takes_24 rfl (lv_at hl 0 rfl) ?_
          refine lv_bipush (v := nI 9) hx hb d_M_takes_25 (by decide) ?_
          refine kn_ne (tgt := 32) hx hb (by omega) (by omega) d_M_takes_27 (by decide) (fun h27 => ?_) (fun h27 => ?_)
          · refine lv_iload_n hx hb d_M_takes_32 rfl (lv_at hl 0 rfl) ?_
            refine lv_bipush (v := nI 21) hx hb d_M_takes_33 (by decide) ?_
            refine kn_eq (tgt := 62) hx hb (by omega) (by omega) d_M_takes_35 (by decide) (fun h35 => ?_) (fun h35 => ?_)
            · refine lv_iconst (v := nI 1) hx hb d_M_takes_62 (by decide) ?_
              exact hret _ ls _ d_M_takes_63 (congrArg nI (by unfold m_takes; (repeat' split) <;> omega))
            · refine lv_iload_n hx hb d_M_takes_38 rfl (lv_at hl 0 rfl) ?_
              refine lv_bipush (v := nI 25) hx hb d_M_takes_39 (by decide) ?_
              refine kn_eq (tgt := 62) hx hb (by omega) (by omega) d_M_takes_41 (by decide) (fun h41 => ?_) (fun h41 => ?_)
              · refine lv_iconst (v := nI 1) hx hb d_M_takes_62 (by decide) ?_
                exact hret _ ls _ d_M_takes_63 (congrArg nI (by unfold m_takes; (repeat' split) <;> omega))
              · refine lv_iload_n hx hb d_M_takes_44 rfl (lv_at hl 0 rfl) ?_
                refine lv_bipush (v := nI 80) hx hb d_M_takes_45 (by decide) ?_
                refine kn_eq (tgt := 62) hx hb (by omega) (by omega) d_M_takes_47 (by decide) (fun h47 => ?_) (fun h47 => ?_)
                · refine lv_iconst (v := nI 1) hx hb d_M_takes_62 (by decide) ?_
                  exact hret _ ls _ d_M_takes_63 (congrArg nI (by unfold m_takes; (repeat' split) <;> omega))
                · refine lv_iload_n hx hb d_M_takes_50 rfl (lv_at hl 0 rfl) ?_
                  refine lv_bipush (v := nI 81) hx hb d_M_takes_51 (by decide) ?_
                  refine kn_eq (tgt := 62) hx hb (by omega) (by omega) d_M_takes_53 (by decide) (fun h53 => ?_) (fun h53 => ?_)
                  · refine lv_iconst (v := nI 1) hx hb d_M_takes_62 (by decide) ?_
                    exact hret _ ls _ d_M_takes_63 (congrArg nI (by unfold m_takes; (repeat' split) <;> omega))
                  · refine lv_iload_n hx hb d_M_takes_56 rfl (lv_at hl 0 rfl) ?_
                    refine lv_bipush (v := nI 86) hx hb d_M_takes_57 (by decide) ?_
                    refine kn_ne (tgt := 64) hx hb (by omega) (by omega) d_M_takes_59 (by decide) (fun h59 => ?_) (fun h59 => ?_)
                    · refine lv_iload_n hx hb d_M_takes_64 rfl (lv_at hl 0 rfl) ?_
                      refine lv_sipush (v := nI 128) hx hb d_M_takes_65 (by decide) ?_
                      refine kn_lt (tgt := 85) hx hb (by omega) (by omega) d_M_takes_68 (by decide) (fun h68 => ?_) (fun h68 => ?_)
                      · refine lv_iload_n hx hb d_M_takes_85 rfl (lv_at hl 0 rfl) ?_
                        refine lv_sipush (v := nI 144) hx hb d_M_takes_86 (by decide) ?_
                        refine kn_lt (tgt := 107) hx hb (by omega) (by omega) d_M_takes_89 (by decide) (fun h89 => ?_) (fun h89 => ?_)
                        · refine lv_iconst (v := nI 2) hx hb d_M_takes_107 (by decide) ?_
                          exact hret _ ls _ d_M_takes_108 (congrArg nI (by unfold m_takes; (repeat' split) <;> omega))
                        · refine lv_iload_n hx hb d_M_takes_92 rfl (lv_at hl 0 rfl) ?_
                          refine lv_sipush (v := nI 159) hx hb d_M_takes_93 (by decide) ?_
                          refine kn_gt (tgt := 107) hx hb (by omega) (by omega) d_M_takes_96 (by decide) (fun h96 => ?_) (fun h96 => ?_)
                          · refine lv_iconst (v := nI 2) hx hb d_M_takes_107 (by decide) ?_
                            exact hret _ ls _ d_M_takes_108 (congrArg nI (by unfold m_takes; (repeat' split) <;> omega))
                          · refine lv_iload_n hx hb d_M_takes_99 rfl (lv_at hl 0 rfl) ?_
                            refine lv_sipush (v := nI 142) hx hb d_M_takes_100 (by decide) ?_
                            refine lv_isub hx hb d_M_takes_103 ?_
                            refine k_top (pk_sub (by omega)) ?_
                            refine lv_goto (tgt := 108) hx hb d_M_takes_104 (by decide) ?_
                            exact hret _ ls _ d_M_takes_108 (congrArg nI (by unfold m_takes; (repeat' split) <;> omega))
                      · refine lv_iload_n hx hb d_M_takes_71 rfl (lv_at hl 0 rfl) ?_
                        refine lv_sipush (v := nI 143) hx hb d_M_takes_72 (by decide) ?_
                        refine kn_gt (tgt := 85) hx hb (by omega) (by omega) d_M_takes_75 (by decide) (fun h75 => ?_) (fun h75 => ?_)
                        · refine lv_iload_n hx hb d_M_takes_85 rfl (lv_at hl 0 rfl) ?_
                          refine lv_sipush (v := nI 144) hx hb d_M_takes_86 (by decide) ?_
                          refine kn_lt (tgt := 107) hx hb (by omega) (by omega) d_M_takes_89 (by decide) (fun h89 => ?_) (fun h89 => ?_)
                          · refine lv_iconst (v := nI 2) hx hb d_M_takes_107 (by decide) ?_
                            exact hret _ ls _ d_M_takes_108 (congrArg nI (by unfold m_takes; (repeat' split) <;> omega))
                          · refine lv_iload_n hx hb d_M_takes_92 rfl (lv_at hl 0 rfl) ?_
                            refine lv_sipush (v := nI 159) hx hb d_M_takes_93 (by decide) ?_
                            refine kn_gt (tgt := 107) hx hb (by omega) (by omega) d_M_takes_96 (by decide) (fun h96 => ?_) (fun h96 => ?_)
                            · refine lv_iconst (v := nI 2) hx hb d_M_takes_107 (by decide) ?_
                              exact hret _ ls _ d_M_takes_108 (congrArg nI (by unfold m_takes; (repeat' split) <;> omega))
                            · refine lv_iload_n hx hb d_M_takes_99 rfl (lv_at hl 0 rfl) ?_
                              refine lv_sipush (v := nI 142) hx hb d_M_takes_100 (by decide) ?_
                              refine lv_isub hx hb d_M_takes_103 ?_
                              refine k_top (pk_sub (by omega)) ?_
                              refine lv_goto (tgt := 108) hx hb d_M_takes_104 (by decide) ?_
                              exact hret _ ls _ d_M_takes_108 (congrArg nI (by unfold m_takes; (repeat' split) <;> omega))
                        · refine lv_iload_n hx hb d_M_takes_78 rfl (lv_at hl 0 rfl) ?_
                          refine lv_bipush (v := nI 127) hx hb d_M_takes_79 (by decide) ?_
                          refine lv_isub hx hb d_M_takes_81 ?_
                          refine k_top (pk_sub (by omega)) ?_
                          refine lv_goto (tgt := 108) hx hb d_M_takes_82 (by decide) ?_
                          exact hret _ ls _ d_M_takes_108 (congrArg nI (by unfold m_takes; (repeat' split) <;> omega))
                    · refine lv_iconst (v := nI 1) hx hb d_M_takes_62 (by decide) ?_
                      exact hret _ ls _ d_M_takes_63 (congrArg nI (by unfold m_takes; (repeat' split) <;> omega))
          · refine lv_iconst (v := nI 3) hx hb d_M_takes_30 (by decide) ?_
            exact hret _ ls _ d_M_takes_31 (congrArg nI (by unfold m_takes; (repeat' split) <;> omega))
      · refine lv_iconst (v := nI 0) hx hb d_M_takes_16 (by decide) ?_
        exact hret _ ls _ d_M_takes_17 (congrArg nI (by unfold m_takes; (repeat' split) <;> omega))

abbrev y_M_gives : MethodName := ⟨"WideStackModel", "gives", "(I)I"⟩
theorem d_M_gives_0 : decode prog_12_method_11_code 0 = .ok (.iload_n 0, 1) := by decide +kernel
theorem d_M_gives_1 : decode prog_12_method_11_code 1 = .ok (.sipush 128, 3) := by decide +kernel
theorem d_M_gives_4 : decode prog_12_method_11_code 4 = .ok (.if_icmp .lt 30, 3) := by decide +kernel
theorem d_M_gives_7 : decode prog_12_method_11_code 7 = .ok (.iload_n 0, 1) := by decide +kernel
theorem d_M_gives_8 : decode prog_12_method_11_code 8 = .ok (.sipush 159, 3) := by decide +kernel
theorem d_M_gives_11 : decode prog_12_method_11_code 11 = .ok (.if_icmp .gt 23, 3) := by decide +kernel
theorem d_M_gives_14 : decode prog_12_method_11_code 14 = .ok (.iload_n 0, 1) := by decide +kernel
theorem d_M_gives_15 : decode prog_12_method_11_code 15 = .ok (.sipush 144, 3) := by decide +kernel
theorem d_M_gives_18 : decode prog_12_method_11_code 18 = .ok (.if_icmp .ge 10, 3) := by decide +kernel
theorem d_M_gives_21 : decode prog_12_method_11_code 21 = .ok (.iload_n 0, 1) := by decide +kernel
theorem d_M_gives_22 : decode prog_12_method_11_code 22 = .ok (.bipush 126, 2) := by decide +kernel
theorem d_M_gives_24 : decode prog_12_method_11_code 24 = .ok (.isub, 1) := by decide +kernel
theorem d_M_gives_25 : decode prog_12_method_11_code 25 = .ok (.goto 8, 3) := by decide +kernel
theorem d_M_gives_28 : decode prog_12_method_11_code 28 = .ok (.iload_n 0, 1) := by decide +kernel
theorem d_M_gives_29 : decode prog_12_method_11_code 29 = .ok (.sipush 142, 3) := by decide +kernel
theorem d_M_gives_32 : decode prog_12_method_11_code 32 = .ok (.isub, 1) := by decide +kernel
theorem d_M_gives_33 : decode prog_12_method_11_code 33 = .ok (.ireturn, 1) := by decide +kernel
theorem d_M_gives_34 : decode prog_12_method_11_code 34 = .ok (.iload_n 0, 1) := by decide +kernel
theorem d_M_gives_35 : decode prog_12_method_11_code 35 = .ok (.iconst 1, 1) := by decide +kernel
theorem d_M_gives_36 : decode prog_12_method_11_code 36 = .ok (.if_icmp .lt 9, 3) := by decide +kernel
theorem d_M_gives_39 : decode prog_12_method_11_code 39 = .ok (.iload_n 0, 1) := by decide +kernel
theorem d_M_gives_40 : decode prog_12_method_11_code 40 = .ok (.bipush 29, 2) := by decide +kernel
theorem d_M_gives_42 : decode prog_12_method_11_code 42 = .ok (.if_icmp .le 28, 3) := by decide +kernel
theorem d_M_gives_45 : decode prog_12_method_11_code 45 = .ok (.iload_n 0, 1) := by decide +kernel
theorem d_M_gives_46 : decode prog_12_method_11_code 46 = .ok (.bipush 81, 2) := by decide +kernel
theorem d_M_gives_48 : decode prog_12_method_11_code 48 = .ok (.if_icmp .eq 22, 3) := by decide +kernel
theorem d_M_gives_51 : decode prog_12_method_11_code 51 = .ok (.iload_n 0, 1) := by decide +kernel
theorem d_M_gives_52 : decode prog_12_method_11_code 52 = .ok (.bipush 88, 2) := by decide +kernel
theorem d_M_gives_54 : decode prog_12_method_11_code 54 = .ok (.if_icmp .lt 9, 3) := by decide +kernel
theorem d_M_gives_57 : decode prog_12_method_11_code 57 = .ok (.iload_n 0, 1) := by decide +kernel
theorem d_M_gives_58 : decode prog_12_method_11_code 58 = .ok (.bipush 90, 2) := by decide +kernel
theorem d_M_gives_60 : decode prog_12_method_11_code 60 = .ok (.if_icmp .le 10, 3) := by decide +kernel
theorem d_M_gives_63 : decode prog_12_method_11_code 63 = .ok (.iload_n 0, 1) := by decide +kernel
theorem d_M_gives_64 : decode prog_12_method_11_code 64 = .ok (.invokestatic 37, 3) := by decide +kernel
theorem d_M_gives_67 : decode prog_12_method_11_code 67 = .ok (.ifCond .eq 7, 3) := by decide +kernel
theorem d_M_gives_70 : decode prog_12_method_11_code 70 = .ok (.iconst 1, 1) := by decide +kernel
theorem d_M_gives_71 : decode prog_12_method_11_code 71 = .ok (.goto 4, 3) := by decide +kernel
theorem d_M_gives_74 : decode prog_12_method_11_code 74 = .ok (.iconst 0, 1) := by decide +kernel
theorem d_M_gives_75 : decode prog_12_method_11_code 75 = .ok (.ireturn, 1) := by decide +kernel
def rm_c_M_gives : Room := { frames := 1, cells := 0, slots := 0, locals := 20 }
set_option maxHeartbeats 4000000 in
set_option maxRecDepth 100000 in
theorem c_M_gives (l : Launch) (E : kE) (o : Nat) (ho : o < 256) : Kp l y_M_gives (kW y_M_gives prog_12_method_11_code 1 (some .int)) rm_c_M_gives E [.int (nI o)] [] (fun r => r = nI (m_gives o)) := by
  refine Kp.ofI (cc := prog_12_method_11_code) (maxL := 1) (by decide) (Nat.le_of_ble_eq_true rfl) ?_
  intro p e s m args below meth c A ls Q hx hb hts hown hml hK hG hA hP hD hS hl hret
  have hl : lv_has ls 1 [(0, .int (nI o))] := hl
  refine lv_iload_n hx hb d_M_gives_0 rfl (lv_at hl 0 rfl) ?_
  refine lv_sipush (v := nI 128) hx hb d_M_gives_1 (by decide) ?_
  refine kn_lt (tgt := 34) hx hb (by omega) (by omega) d_M_gives_4 (by decide) (fun h4 => ?_) (fun h4 => ?_)
  · refine lv_iload_n hx hb d_M_gives_34 rfl (lv_at hl 0 rfl) ?_
    refine lv_iconst (v := nI 1) hx hb d_M_gives_35 (by decide) ?_
    refine kn_lt (tgt := 45) hx hb (by omega) (by omega) d_M_gives_36 (by decide) (fun h36 => ?_) (fun h36 => ?_)
    · refine lv_iload_n hx hb d_M_gives_45 rfl (lv_at hl 0 rfl) ?_
      refine lv_bipush (v := nI 81) hx hb d_M_gives_46 (by decide) ?_
      refine kn_eq (tgt := 70) hx hb (by omega) (by omega) d_M_gives_48 (by decide) (fun h48 => ?_) (fun h48 => ?_)
      · refine lv_iconst (v := nI 1) hx hb d_M_gives_70 (by decide) ?_
        refine lv_goto (tgt := 75) hx hb d_M_gives_71 (by decide) ?_
        exact hret _ ls _ d_M_gives_75 (congrArg nI (by unfold m_gives; (repeat' split) <;> omega))
      · refine lv_iload_n hx hb d_M_gives_51 rfl (lv_at hl 0 rfl) ?_
        refine lv_bipush (v := nI 88) hx hb d_M_gives_52 (by decide) ?_
        refine kn_lt (tgt := 63) hx hb (by omega) (by omega) d_M_gives_54 (by decide) (fun h54 => ?_) (fun h54 => ?_)
        · refine lv_iload_n hx hb d_M_gives_63 rfl (lv_at hl 0 rfl) ?_
          refine k_Sp (As := [.int (nI o)]) (rest := []) ⟨hx, hb, hml, hown, hts⟩ (c_M_hasNumber l E o ho) (k_cwS 1 hts t_816 t_817 t_71 t_818 (by decide +kernel) ⟨Nat.le_of_ble_eq_true rfl, Nat.le_of_ble_eq_true rfl⟩) hK hG hA hP hD hS [] rfl (by decide) rfl hl.1 rfl (Nat.le_of_ble_eq_true rfl) d_M_gives_64 ⟨Nat.zero_le _, Nat.zero_le _⟩ (fun r64 hu64 => ?_)
          subst hu64
          refine lv_if_eq (tgt := 74) hx hb d_M_gives_67 (by decide) (fun h67 => ?_) (fun h67 => ?_)
          · have hq := of_decide_eq_false (kb_0.mp h67)
            refine lv_iconst (v := nI 0) hx hb d_M_gives_74 (by decide) ?_
            exact hret _ ls _ d_M_gives_75 (congrArg nI (by unfold m_gives; (repeat' split) <;> omega))
          · have hq := of_decide_eq_true (kb_n0 h67)
            refine lv_iconst (v := nI 1) hx hb d_M_gives_70 (by decide) ?_
            refine lv_goto (tgt := 75) hx hb d_M_gives_71 (by decide) ?_
            exact hret _ ls _ d_M_gives_75 (congrArg nI (by unfold m_gives; (repeat' split) <;> omega))
        · refine lv_iload_n hx hb d_M_gives_57 rfl (lv_at hl 0 rfl) ?_
          refine lv_bipush (v := nI 90) hx hb d_M_gives_58 (by decide) ?_
          refine kn_le (tgt := 70) hx hb (by omega) (by omega) d_M_gives_60 (by decide) (fun h60 => ?_) (fun h60 => ?_)
          · refine lv_iconst (v := nI 1) hx hb d_M_gives_70 (by decide) ?_
            refine lv_goto (tgt := 75) hx hb d_M_gives_71 (by decide) ?_
            exact hret _ ls _ d_M_gives_75 (congrArg nI (by unfold m_gives; (repeat' split) <;> omega))
          · refine lv_iload_n hx hb d_M_gives_63 rfl (lv_at hl 0 rfl) ?_
            refine k_Sp (As := [.int (nI o)]) (rest := []) ⟨hx, hb, hml, hown, hts⟩ (c_M_hasNumber l E o ho) (k_cwS 1 hts t_816 t_817 t_71 t_818 (by decide +kernel) ⟨Nat.le_of_ble_eq_true rfl, Nat.le_of_ble_eq_true rfl⟩) hK hG hA hP hD hS [] rfl (by decide) rfl hl.1 rfl (Nat.le_of_ble_eq_true rfl) d_M_gives_64 ⟨Nat.zero_le _, Nat.zero_le _⟩ (fun r64 hu64 => ?_)
            subst hu64
            refine lv_if_eq (tgt := 74) hx hb d_M_gives_67 (by decide) (fun h67 => ?_) (fun h67 => ?_)
            · have hq := of_decide_eq_false (kb_0.mp h67)
              refine lv_iconst (v := nI 0) hx hb d_M_gives_74 (by decide) ?_
              exact hret _ ls _ d_M_gives_75 (congrArg nI (by unfold m_gives; (repeat' split) <;> omega))
            · have hq := of_decide_eq_true (kb_n0 h67)
              refine lv_iconst (v := nI 1) hx hb d_M_gives_70 (by decide) ?_
              refine lv_goto (tgt := 75) hx hb d_M_gives_71 (by decide) ?_
              exact hret _ ls _ d_M_gives_75 (congrArg nI (by unfold m_gives; (repeat' split) <;> omega))
    · refine lv_iload_n hx hb d_M_gives_39 rfl (lv_at hl 0 rfl) ?_
      refine lv_bipush (v := nI 29) hx hb d_M_gives_40 (by decide) ?_
      refine kn_le (tgt := 70) hx hb (by omega) (by omega) d_M_gives_42 (by decide) (fun h42 => ?_) (fun h42 => ?_)
      · refine lv_iconst (v := nI 1) hx hb d_M_gives_70 (by decide) ?_
        refine lv_goto (tgt := 75) hx hb d_M_gives_71 (by decide) ?_
        exact hret _ ls _ d_M_gives_75 (congrArg nI (by unfold m_gives; (repeat' split) <;> omega))
      · refine lv_iload_n hx hb d_M_gives_45 rfl (lv_at hl 0 rfl) ?_
        refine lv_bipush (v := nI 81) hx hb d_M_gives_46 (by decide) ?_
        refine kn_eq (tgt := 70) hx hb (by omega) (by omega) d_M_gives_48 (by decide) (fun h48 => ?_) (fun h48 => ?_)
        · refine lv_iconst (v := nI 1) hx hb d_M_gives_70 (by decide) ?_
          refine lv_goto (tgt := 75) hx hb d_M_gives_71 (by decide) ?_
          exact hret _ ls _ d_M_gives_75 (congrArg nI (by unfold m_gives; (repeat' split) <;> omega))
        · refine lv_iload_n hx hb d_M_gives_51 rfl (lv_at hl 0 rfl) ?_
          refine lv_bipush (v := nI 88) hx hb d_M_gives_52 (by decide) ?_
          refine kn_lt (tgt := 63) hx hb (by omega) (by omega) d_M_gives_54 (by decide) (fun h54 => ?_) (fun h54 => ?_)
          · refine lv_iload_n hx hb d_M_gives_63 rfl (lv_at hl 0 rfl) ?_
            refine k_Sp (As := [.int (nI o)]) (rest := []) ⟨hx, hb, hml, hown, hts⟩ (c_M_hasNumber l E o ho) (k_cwS 1 hts t_816 t_817 t_71 t_818 (by decide +kernel) ⟨Nat.le_of_ble_eq_true rfl, Nat.le_of_ble_eq_true rfl⟩) hK hG hA hP hD hS [] rfl (by decide) rfl hl.1 rfl (Nat.le_of_ble_eq_true rfl) d_M_gives_64 ⟨Nat.zero_le _, Nat.zero_le _⟩ (fun r64 hu64 => ?_)
            subst hu64
            refine lv_if_eq (tgt := 74) hx hb d_M_gives_67 (by decide) (fun h67 => ?_) (fun h67 => ?_)
            · have hq := of_decide_eq_false (kb_0.mp h67)
              refine lv_iconst (v := nI 0) hx hb d_M_gives_74 (by decide) ?_
              exact hret _ ls _ d_M_gives_75 (congrArg nI (by unfold m_gives; (repeat' split) <;> omega))
            · have hq := of_decide_eq_true (kb_n0 h67)
              refine lv_iconst (v := nI 1) hx hb d_M_gives_70 (by decide) ?_
              refine lv_goto (tgt := 75) hx hb d_M_gives_71 (by decide) ?_
              exact hret _ ls _ d_M_gives_75 (congrArg nI (by unfold m_gives; (repeat' split) <;> omega))
          · refine lv_iload_n hx hb d_M_gives_57 rfl (lv_at hl 0 rfl) ?_
            refine lv_bipush (v := nI 90) hx hb d_M_gives_58 (by decide) ?_
            refine kn_le (tgt := 70) hx hb (by omega) (by omega) d_M_gives_60 (by decide) (fun h60 => ?_) (fun h60 => ?_)
            · refine lv_iconst (v := nI 1) hx hb d_M_gives_70 (by decide) ?_
              refine lv_goto (tgt := 75) hx hb d_M_gives_71 (by decide) ?_
              exact hret _ ls _ d_M_gives_75 (congrArg nI (by unfold m_gives; (repeat' split) <;> omega))
            · refine lv_iload_n hx hb d_M_gives_63 rfl (lv_at hl 0 rfl) ?_
              refine k_Sp (As := [.int (nI o)]) (rest := []) ⟨hx, hb, hml, hown, hts⟩ (c_M_hasNumber l E o ho) (k_cwS 1 hts t_816 t_817 t_71 t_818 (by decide +kernel) ⟨Nat.le_of_ble_eq_true rfl, Nat.le_of_ble_eq_true rfl⟩) hK hG hA hP hD hS [] rfl (by decide) rfl hl.1 rfl (Nat.le_of_ble_eq_true rfl) d_M_gives_64 ⟨Nat.zero_le _, Nat.zero_le _⟩ (fun r64 hu64 => ?_)
              subst hu64
              refine lv_if_eq (tgt := 74) hx hb d_M_gives_67 (by decide) (fun h67 => ?_) (fun h67 => ?_)
              · have hq := of_decide_eq_false (kb_0.mp h67)
                refine lv_iconst (v := nI 0) hx hb d_M_gives_74 (by decide) ?_
                exact hret _ ls _ d_M_gives_75 (congrArg nI (by unfold m_gives; (repeat' split) <;> omega))
              · have hq := of_decide_eq_true (kb_n0 h67)
                refine lv_iconst (v := nI 1) hx hb d_M_gives_70 (by decide) ?_
                refine lv_goto (tgt := 75) hx hb d_M_gives_71 (by decide) ?_
                exact hret _ ls _ d_M_gives_75 (congrArg nI (by unfold m_gives; (repeat' split) <;> omega))
  · refine lv_iload_n hx hb d_M_gives_7 rfl (lv_at hl 0 rfl) ?_
    refine lv_sipush (v := nI 159) hx hb d_M_gives_8 (by decide) ?_
    refine kn_gt (tgt := 34) hx hb (by omega) (by omega) d_M_gives_11 (by decide) (fun h11 => ?_) (fun h11 => ?_)
    · refine lv_iload_n hx hb d_M_gives_34 rfl (lv_at hl 0 rfl) ?_
      refine lv_iconst (v := nI 1) hx hb d_M_gives_35 (by decide) ?_
      refine kn_lt (tgt := 45) hx hb (by omega) (by omega) d_M_gives_36 (by decide) (fun h36 => ?_) (fun h36 => ?_)
      · refine lv_iload_n hx hb d_M_gives_45 rfl (lv_at hl 0 rfl) ?_
        refine lv_bipush (v := nI 81) hx hb d_M_gives_46 (by decide) ?_
        refine kn_eq (tgt := 70) hx hb (by omega) (by omega) d_M_gives_48 (by decide) (fun h48 => ?_) (fun h48 => ?_)
        · refine lv_iconst (v := nI 1) hx hb d_M_gives_70 (by decide) ?_
          refine lv_goto (tgt := 75) hx hb d_M_gives_71 (by decide) ?_
          exact hret _ ls _ d_M_gives_75 (congrArg nI (by unfold m_gives; (repeat' split) <;> omega))
        · refine lv_iload_n hx hb d_M_gives_51 rfl (lv_at hl 0 rfl) ?_
          refine lv_bipush (v := nI 88) hx hb d_M_gives_52 (by decide) ?_
          refine kn_lt (tgt := 63) hx hb (by omega) (by omega) d_M_gives_54 (by decide) (fun h54 => ?_) (fun h54 => ?_)
          · refine lv_iload_n hx hb d_M_gives_63 rfl (lv_at hl 0 rfl) ?_
            refine k_Sp (As := [.int (nI o)]) (rest := []) ⟨hx, hb, hml, hown, hts⟩ (c_M_hasNumber l E o ho) (k_cwS 1 hts t_816 t_817 t_71 t_818 (by decide +kernel) ⟨Nat.le_of_ble_eq_true rfl, Nat.le_of_ble_eq_true rfl⟩) hK hG hA hP hD hS [] rfl (by decide) rfl hl.1 rfl (Nat.le_of_ble_eq_true rfl) d_M_gives_64 ⟨Nat.zero_le _, Nat.zero_le _⟩ (fun r64 hu64 => ?_)
            subst hu64
            refine lv_if_eq (tgt := 74) hx hb d_M_gives_67 (by decide) (fun h67 => ?_) (fun h67 => ?_)
            · have hq := of_decide_eq_false (kb_0.mp h67)
              refine lv_iconst (v := nI 0) hx hb d_M_gives_74 (by decide) ?_
              exact hret _ ls _ d_M_gives_75 (congrArg nI (by unfold m_gives; (repeat' split) <;> omega))
            · have hq := of_decide_eq_true (kb_n0 h67)
              refine lv_iconst (v := nI 1) hx hb d_M_gives_70 (by decide) ?_
              refine lv_goto (tgt := 75) hx hb d_M_gives_71 (by decide) ?_
              exact hret _ ls _ d_M_gives_75 (congrArg nI (by unfold m_gives; (repeat' split) <;> omega))
          · refine lv_iload_n hx hb d_M_gives_57 rfl (lv_at hl 0 rfl) ?_
            refine lv_bipush (v := nI 90) hx hb d_M_gives_58 (by decide) ?_
            refine kn_le (tgt := 70) hx hb (by omega) (by omega) d_M_gives_60 (by decide) (fun h60 => ?_) (fun h60 => ?_)
            · refine lv_iconst (v := nI 1) hx hb d_M_gives_70 (by decide) ?_
              refine lv_goto (tgt := 75) hx hb d_M_gives_71 (by decide) ?_
              exact hret _ ls _ d_M_gives_75 (congrArg nI (by unfold m_gives; (repeat' split) <;> omega))
            · refine lv_iload_n hx hb d_M_gives_63 rfl (lv_at hl 0 rfl) ?_
              refine k_Sp (As := [.int (nI o)]) (rest := []) ⟨hx, hb, hml, hown, hts⟩ (c_M_hasNumber l E o ho) (k_cwS 1 hts t_816 t_817 t_71 t_818 (by decide +kernel) ⟨Nat.le_of_ble_eq_true rfl, Nat.le_of_ble_eq_true rfl⟩) hK hG hA hP hD hS [] rfl (by decide) rfl hl.1 rfl (Nat.le_of_ble_eq_true rfl) d_M_gives_64 ⟨Nat.zero_le _, Nat.zero_le _⟩ (fun r64 hu64 => ?_)
              subst hu64
              refine lv_if_eq (tgt := 74) hx hb d_M_gives_67 (by decide) (fun h67 => ?_) (fun h67 => ?_)
              · have hq := of_decide_eq_false (kb_0.mp h67)
                refine lv_iconst (v := nI 0) hx hb d_M_gives_74 (by decide) ?_
                exact hret _ ls _ d_M_gives_75 (congrArg nI (by unfold m_gives; (repeat' split) <;> omega))
              · have hq := of_decide_eq_true (kb_n0 h67)
                refine lv_iconst (v := nI 1) hx hb d_M_gives_70 (by decide) ?_
                refine lv_goto (tgt := 75) hx hb d_M_gives_71 (by decide) ?_
                exact hret _ ls _ d_M_gives_75 (congrArg nI (by unfold m_gives; (repeat' split) <;> omega))
      · refine lv_iload_n hx hb d_M_gives_39 rfl (lv_at hl 0 rfl) ?_
        refine lv_bipush (v := nI 29) hx hb d_M_gives_40 (by decide) ?_
        refine kn_le (tgt := 70) hx hb (by omega) (by omega) d_M_gives_42 (by decide) (fun h42 => ?_) (fun h42 => ?_)
        · refine lv_iconst (v := nI 1) hx hb d_M_gives_70 (by decide) ?_
          refine lv_goto (tgt := 75) hx hb d_M_gives_71 (by decide) ?_
          exact hret _ ls _ d_M_gives_75 (congrArg nI (by unfold m_gives; (repeat' split) <;> omega))
        · refine lv_iload_n hx hb d_M_gives_45 rfl (lv_at hl 0 rfl) ?_
          refine lv_bipush (v := nI 81) hx hb d_M_gives_46 (by decide) ?_
          refine kn_eq (tgt := 70) hx hb (by omega) (by omega) d_M_gives_48 (by decide) (fun h48 => ?_) (fun h48 => ?_)
          · refine lv_iconst (v := nI 1) hx hb d_M_gives_70 (by decide) ?_
            refine lv_goto (tgt := 75) hx hb d_M_gives_71 (by decide) ?_
            exact hret _ ls _ d_M_gives_75 (congrArg nI (by unfold m_gives; (repeat' split) <;> omega))
          · refine lv_iload_n hx hb d_M_gives_51 rfl (lv_at hl 0 rfl) ?_
            refine lv_bipush (v := nI 88) hx hb d_M_gives_52 (by decide) ?_
            refine kn_lt (tgt := 63) hx hb (by omega) (by omega) d_M_gives_54 (by decide) (fun h54 => ?_) (fun h54 => ?_)
            · refine lv_iload_n hx hb d_M_gives_63 rfl (lv_at hl 0 rfl) ?_
              refine k_Sp (As := [.int (nI o)]) (rest := []) ⟨hx, hb, hml, hown, hts⟩ (c_M_hasNumber l E o ho) (k_cwS 1 hts t_816 t_817 t_71 t_818 (by decide +kernel) ⟨Nat.le_of_ble_eq_true rfl, Nat.le_of_ble_eq_true rfl⟩) hK hG hA hP hD hS [] rfl (by decide) rfl hl.1 rfl (Nat.le_of_ble_eq_true rfl) d_M_gives_64 ⟨Nat.zero_le _, Nat.zero_le _⟩ (fun r64 hu64 => ?_)
              subst hu64
              refine lv_if_eq (tgt := 74) hx hb d_M_gives_67 (by decide) (fun h67 => ?_) (fun h67 => ?_)
              · have hq := of_decide_eq_false (kb_0.mp h67)
                refine lv_iconst (v := nI 0) hx hb d_M_gives_74 (by decide) ?_
                exact hret _ ls _ d_M_gives_75 (congrArg nI (by unfold m_gives; (repeat' split) <;> omega))
              · have hq := of_decide_eq_true (kb_n0 h67)
                refine lv_iconst (v := nI 1) hx hb d_M_gives_70 (by decide) ?_
                refine lv_goto (tgt := 75) hx hb d_M_gives_71 (by decide) ?_
                exact hret _ ls _ d_M_gives_75 (congrArg nI (by unfold m_gives; (repeat' split) <;> omega))
            · refine lv_iload_n hx hb d_M_gives_57 rfl (lv_at hl 0 rfl) ?_
              refine lv_bipush (v := nI 90) hx hb d_M_gives_58 (by decide) ?_
              refine kn_le (tgt := 70) hx hb (by omega) (by omega) d_M_gives_60 (by decide) (fun h60 => ?_) (fun h60 => ?_)
              · refine lv_iconst (v := nI 1) hx hb d_M_gives_70 (by decide) ?_
                refine lv_goto (tgt := 75) hx hb d_M_gives_71 (by decide) ?_
                exact hret _ ls _ d_M_gives_75 (congrArg nI (by unfold m_gives; (repeat' split) <;> omega))
              · refine lv_iload_n hx hb d_M_gives_63 rfl (lv_at hl 0 rfl) ?_
                refine k_Sp (As := [.int (nI o)]) (rest := []) ⟨hx, hb, hml, hown, hts⟩ (c_M_hasNumber l E o ho) (k_cwS 1 hts t_816 t_817 t_71 t_818 (by decide +kernel) ⟨Nat.le_of_ble_eq_true rfl, Nat.le_of_ble_eq_true rfl⟩) hK hG hA hP hD hS [] rfl (by decide) rfl hl.1 rfl (Nat.le_of_ble_eq_true rfl) d_M_gives_64 ⟨Nat.zero_le _, Nat.zero_le _⟩ (fun r64 hu64 => ?_)
                subst hu64
                refine lv_if_eq (tgt := 74) hx hb d_M_gives_67 (by decide) (fun h67 => ?_) (fun h67 => ?_)
                · have hq := of_decide_eq_false (kb_0.mp h67)
                  refine lv_iconst (v := nI 0) hx hb d_M_gives_74 (by decide) ?_
                  exact hret _ ls _ d_M_gives_75 (congrArg nI (by unfold m_gives; (repeat' split) <;> omega))
                · have hq := of_decide_eq_true (kb_n0 h67)
                  refine lv_iconst (v := nI 1) hx hb d_M_gives_70 (by decide) ?_
                  refine lv_goto (tgt := 75) hx hb d_M_gives_71 (by decide) ?_
                  exact hret _ ls _ d_M_gives_75 (congrArg nI (by unfold m_gives; (repeat' split) <;> omega))
    · refine lv_iload_n hx hb d_M_gives_14 rfl (lv_at hl 0 rfl) ?_
      refine lv_sipush (v := nI 144) hx hb d_M_gives_15 (by decide) ?_
      refine kn_ge (tgt := 28) hx hb (by omega) (by omega) d_M_gives_18 (by decide) (fun h18 => ?_) (fun h18 => ?_)
      · refine lv_iload_n hx hb d_M_gives_28 rfl (lv_at hl 0 rfl) ?_
        refine lv_sipush (v := nI 142) hx hb d_M_gives_29 (by decide) ?_
        refine lv_isub hx hb d_M_gives_32 ?_
        refine k_top (pk_sub (by omega)) ?_
        exact hret _ ls _ d_M_gives_33 (congrArg nI (by unfold m_gives; (repeat' split) <;> omega))
      · refine lv_iload_n hx hb d_M_gives_21 rfl (lv_at hl 0 rfl) ?_
        refine lv_bipush (v := nI 126) hx hb d_M_gives_22 (by decide) ?_
        refine lv_isub hx hb d_M_gives_24 ?_
        refine k_top (pk_sub (by omega)) ?_
        refine lv_goto (tgt := 33) hx hb d_M_gives_25 (by decide) ?_
        exact hret _ ls _ d_M_gives_33 (congrArg nI (by unfold m_gives; (repeat' split) <;> omega))

abbrev y_M_cost : MethodName := ⟨"WideStackModel", "cost", "(I)I"⟩
theorem d_M_cost_0 : decode prog_12_method_12_code 0 = .ok (.iload_n 0, 1) := by decide +kernel
theorem d_M_cost_1 : decode prog_12_method_12_code 1 = .ok (.ifCond .eq 10, 3) := by decide +kernel
theorem d_M_cost_4 : decode prog_12_method_12_code 4 = .ok (.iload_n 0, 1) := by decide +kernel
theorem d_M_cost_5 : decode prog_12_method_12_code 5 = .ok (.sipush 243, 3) := by decide +kernel
theorem d_M_cost_8 : decode prog_12_method_12_code 8 = .ok (.if_icmp .ne 5, 3) := by decide +kernel
theorem d_M_cost_11 : decode prog_12_method_12_code 11 = .ok (.iconst 0, 1) := by decide +kernel
theorem d_M_cost_12 : decode prog_12_method_12_code 12 = .ok (.ireturn, 1) := by decide +kernel
theorem d_M_cost_13 : decode prog_12_method_12_code 13 = .ok (.iload_n 0, 1) := by decide +kernel
theorem d_M_cost_14 : decode prog_12_method_12_code 14 = .ok (.bipush 91, 2) := by decide +kernel
theorem d_M_cost_16 : decode prog_12_method_12_code 16 = .ok (.if_icmp .ne 5, 3) := by decide +kernel
theorem d_M_cost_19 : decode prog_12_method_12_code 19 = .ok (.iconst 1, 1) := by decide +kernel
theorem d_M_cost_20 : decode prog_12_method_12_code 20 = .ok (.ireturn, 1) := by decide +kernel
theorem d_M_cost_21 : decode prog_12_method_12_code 21 = .ok (.iload_n 0, 1) := by decide +kernel
theorem d_M_cost_22 : decode prog_12_method_12_code 22 = .ok (.bipush 80, 2) := by decide +kernel
theorem d_M_cost_24 : decode prog_12_method_12_code 24 = .ok (.if_icmp .eq 15, 3) := by decide +kernel
theorem d_M_cost_27 : decode prog_12_method_12_code 27 = .ok (.iload_n 0, 1) := by decide +kernel
theorem d_M_cost_28 : decode prog_12_method_12_code 28 = .ok (.bipush 88, 2) := by decide +kernel
theorem d_M_cost_30 : decode prog_12_method_12_code 30 = .ok (.if_icmp .lt 11, 3) := by decide +kernel
theorem d_M_cost_33 : decode prog_12_method_12_code 33 = .ok (.iload_n 0, 1) := by decide +kernel
theorem d_M_cost_34 : decode prog_12_method_12_code 34 = .ok (.bipush 90, 2) := by decide +kernel
theorem d_M_cost_36 : decode prog_12_method_12_code 36 = .ok (.if_icmp .gt 5, 3) := by decide +kernel
theorem d_M_cost_39 : decode prog_12_method_12_code 39 = .ok (.iconst 2, 1) := by decide +kernel
theorem d_M_cost_40 : decode prog_12_method_12_code 40 = .ok (.ireturn, 1) := by decide +kernel
theorem d_M_cost_41 : decode prog_12_method_12_code 41 = .ok (.iload_n 0, 1) := by decide +kernel
theorem d_M_cost_42 : decode prog_12_method_12_code 42 = .ok (.iconst 2, 1) := by decide +kernel
theorem d_M_cost_43 : decode prog_12_method_12_code 43 = .ok (.if_icmp .eq 20, 3) := by decide +kernel
theorem d_M_cost_46 : decode prog_12_method_12_code 46 = .ok (.iload_n 0, 1) := by decide +kernel
theorem d_M_cost_47 : decode prog_12_method_12_code 47 = .ok (.iconst 4, 1) := by decide +kernel
theorem d_M_cost_48 : decode prog_12_method_12_code 48 = .ok (.if_icmp .lt 9, 3) := by decide +kernel
theorem d_M_cost_51 : decode prog_12_method_12_code 51 = .ok (.iload_n 0, 1) := by decide +kernel
theorem d_M_cost_52 : decode prog_12_method_12_code 52 = .ok (.bipush 7, 2) := by decide +kernel
theorem d_M_cost_54 : decode prog_12_method_12_code 54 = .ok (.if_icmp .le 9, 3) := by decide +kernel
theorem d_M_cost_57 : decode prog_12_method_12_code 57 = .ok (.iload_n 0, 1) := by decide +kernel
theorem d_M_cost_58 : decode prog_12_method_12_code 58 = .ok (.bipush 11, 2) := by decide +kernel
theorem d_M_cost_60 : decode prog_12_method_12_code 60 = .ok (.if_icmp .ne 5, 3) := by decide +kernel
theorem d_M_cost_63 : decode prog_12_method_12_code 63 = .ok (.iconst 5, 1) := by decide +kernel
theorem d_M_cost_64 : decode prog_12_method_12_code 64 = .ok (.ireturn, 1) := by decide +kernel
theorem d_M_cost_65 : decode prog_12_method_12_code 65 = .ok (.iload_n 0, 1) := by decide +kernel
theorem d_M_cost_66 : decode prog_12_method_12_code 66 = .ok (.bipush 8, 2) := by decide +kernel
theorem d_M_cost_68 : decode prog_12_method_12_code 68 = .ok (.if_icmp .eq 15, 3) := by decide +kernel
theorem d_M_cost_71 : decode prog_12_method_12_code 71 = .ok (.iload_n 0, 1) := by decide +kernel
theorem d_M_cost_72 : decode prog_12_method_12_code 72 = .ok (.bipush 9, 2) := by decide +kernel
theorem d_M_cost_74 : decode prog_12_method_12_code 74 = .ok (.if_icmp .eq 9, 3) := by decide +kernel
theorem d_M_cost_77 : decode prog_12_method_12_code 77 = .ok (.iload_n 0, 1) := by decide +kernel
theorem d_M_cost_78 : decode prog_12_method_12_code 78 = .ok (.bipush 86, 2) := by decide +kernel
theorem d_M_cost_80 : decode prog_12_method_12_code 80 = .ok (.if_icmp .ne 6, 3) := by decide +kernel
theorem d_M_cost_83 : decode prog_12_method_12_code 83 = .ok (.bipush 8, 2) := by decide +kernel
theorem d_M_cost_85 : decode prog_12_method_12_code 85 = .ok (.ireturn, 1) := by decide +kernel
theorem d_M_cost_86 : decode prog_12_method_12_code 86 = .ok (.iload_n 0, 1) := by decide +kernel
theorem d_M_cost_87 : decode prog_12_method_12_code 87 = .ok (.bipush 87, 2) := by decide +kernel
theorem d_M_cost_89 : decode prog_12_method_12_code 89 = .ok (.if_icmp .ne 8, 3) := by decide +kernel
theorem d_M_cost_92 : decode prog_12_method_12_code 92 = .ok (.bipush 10, 2) := by decide +kernel
theorem d_M_cost_94 : decode prog_12_method_12_code 94 = .ok (.goto 4, 3) := by decide +kernel
theorem d_M_cost_97 : decode prog_12_method_12_code 97 = .ok (.iconst 3, 1) := by decide +kernel
theorem d_M_cost_98 : decode prog_12_method_12_code 98 = .ok (.ireturn, 1) := by decide +kernel
def rm_c_M_cost : Room := { frames := 0, cells := 0, slots := 0, locals := 0 }
set_option maxHeartbeats 4000000 in
set_option maxRecDepth 100000 in
theorem c_M_cost (l : Launch) (E : kE) (o : Nat) (ho : o < 256) : Kp l y_M_cost (kW y_M_cost prog_12_method_12_code 1 (some .int)) rm_c_M_cost E [.int (nI o)] [] (fun r => r = nI (m_cost o)) := by
  refine Kp.ofI (cc := prog_12_method_12_code) (maxL := 1) (by decide) (Nat.le_of_ble_eq_true rfl) ?_
  intro p e s m args below meth c A ls Q hx hb hts hown hml hK hG hA hP hD hS hl hret
  have hl : lv_has ls 1 [(0, .int (nI o))] := hl
  refine lv_iload_n hx hb d_M_cost_0 rfl (lv_at hl 0 rfl) ?_
  refine kn_ifeq (tgt := 11) hx hb (by omega) d_M_cost_1 (by decide) (fun h1 => ?_) (fun h1 => ?_)
  · refine lv_iconst (v := nI 0) hx hb d_M_cost_11 (by decide) ?_
    exact hret _ ls _ d_M_cost_12 (congrArg nI (by unfold m_cost; (repeat' split) <;> omega))
  · refine lv_iload_n hx hb d_M_cost_4 rfl (lv_at hl 0 rfl) ?_
    refine lv_sipush (v := nI 243) hx hb d_M_cost_5 (by decide) ?_
    refine kn_ne (tgt := 13) hx hb (by omega) (by omega) d_M_cost_8 (by decide) (fun h8 => ?_) (fun h8 => ?_)
    · refine lv_iload_n hx hb d_M_cost_13 rfl (lv_at hl 0 rfl) ?_
      refine lv_bipush (v := nI 91) hx hb d_M_cost_14 (by decide) ?_
      refine kn_ne (tgt := 21) hx hb (by omega) (by omega) d_M_cost_16 (by decide) (fun h16 => ?_) (fun h16 => ?_)
      · refine lv_iload_n hx hb d_M_cost_21 rfl (lv_at hl 0 rfl) ?_
        refine lv_bipush (v := nI 80) hx hb d_M_cost_22 (by decide) ?_
        refine kn_eq (tgt := 39) hx hb (by omega) (by omega) d_M_cost_24 (by decide) (fun h24 => ?_) (fun h24 => ?_)
        · refine lv_iconst (v := nI 2) hx hb d_M_cost_39 (by decide) ?_
          exact hret _ ls _ d_M_cost_40 (congrArg nI (by unfold m_cost; (repeat' split) <;> omega))
        · refine lv_iload_n hx hb d_M_cost_27 rfl (lv_at hl 0 rfl) ?_
          refine lv_bipush (v := nI 88) hx hb d_M_cost_28 (by decide) ?_
          refine kn_lt (tgt := 41) hx hb (by omega) (by omega) d_M_cost_30 (by decide) (fun h30 => ?_) (fun h30 => ?_)
          · refine lv_iload_n hx hb d_M_cost_41 rfl (lv_at hl 0 rfl) ?_
            refine lv_iconst (v := nI 2) hx hb d_M_cost_42 (by decide) ?_
            refine kn_eq (tgt := 63) hx hb (by omega) (by omega) d_M_cost_43 (by decide) (fun h43 => ?_) (fun h43 => ?_)
            · refine lv_iconst (v := nI 5) hx hb d_M_cost_63 (by decide) ?_
              exact hret _ ls _ d_M_cost_64 (congrArg nI (by unfold m_cost; (repeat' split) <;> omega))
            · refine lv_iload_n hx hb d_M_cost_46 rfl (lv_at hl 0 rfl) ?_
              refine lv_iconst (v := nI 4) hx hb d_M_cost_47 (by decide) ?_
              refine kn_lt (tgt := 57) hx hb (by omega) (by omega) d_M_cost_48 (by decide) (fun h48 => ?_) (fun h48 => ?_)
              · refine lv_iload_n hx hb d_M_cost_57 rfl (lv_at hl 0 rfl) ?_
                refine lv_bipush (v := nI 11) hx hb d_M_cost_58 (by decide) ?_
                refine kn_ne (tgt := 65) hx hb (by omega) (by omega) d_M_cost_60 (by decide) (fun h60 => ?_) (fun h60 => ?_)
                · refine lv_iload_n hx hb d_M_cost_65 rfl (lv_at hl 0 rfl) ?_
                  refine lv_bipush (v := nI 8) hx hb d_M_cost_66 (by decide) ?_
                  refine kn_eq (tgt := 83) hx hb (by omega) (by omega) d_M_cost_68 (by decide) (fun h68 => ?_) (fun h68 => ?_)
                  · refine lv_bipush (v := nI 8) hx hb d_M_cost_83 (by decide) ?_
                    exact hret _ ls _ d_M_cost_85 (congrArg nI (by unfold m_cost; (repeat' split) <;> omega))
                  · refine lv_iload_n hx hb d_M_cost_71 rfl (lv_at hl 0 rfl) ?_
                    refine lv_bipush (v := nI 9) hx hb d_M_cost_72 (by decide) ?_
                    refine kn_eq (tgt := 83) hx hb (by omega) (by omega) d_M_cost_74 (by decide) (fun h74 => ?_) (fun h74 => ?_)
                    · refine lv_bipush (v := nI 8) hx hb d_M_cost_83 (by decide) ?_
                      exact hret _ ls _ d_M_cost_85 (congrArg nI (by unfold m_cost; (repeat' split) <;> omega))
                    · refine lv_iload_n hx hb d_M_cost_77 rfl (lv_at hl 0 rfl) ?_
                      refine lv_bipush (v := nI 86) hx hb d_M_cost_78 (by decide) ?_
                      refine kn_ne (tgt := 86) hx hb (by omega) (by omega) d_M_cost_80 (by decide) (fun h80 => ?_) (fun h80 => ?_)
                      · refine lv_iload_n hx hb d_M_cost_86 rfl (lv_at hl 0 rfl) ?_
                        refine lv_bipush (v := nI 87) hx hb d_M_cost_87 (by decide) ?_
                        refine kn_ne (tgt := 97) hx hb (by omega) (by omega) d_M_cost_89 (by decide) (fun h89 => ?_) (fun h89 => ?_)
                        · refine lv_iconst (v := nI 3) hx hb d_M_cost_97 (by decide) ?_
                          exact hret _ ls _ d_M_cost_98 (congrArg nI (by unfold m_cost; (repeat' split) <;> omega))
                        · refine lv_bipush (v := nI 10) hx hb d_M_cost_92 (by decide) ?_
                          refine lv_goto (tgt := 98) hx hb d_M_cost_94 (by decide) ?_
                          exact hret _ ls _ d_M_cost_98 (congrArg nI (by unfold m_cost; (repeat' split) <;> omega))
                      · refine lv_bipush (v := nI 8) hx hb d_M_cost_83 (by decide) ?_
                        exact hret _ ls _ d_M_cost_85 (congrArg nI (by unfold m_cost; (repeat' split) <;> omega))
                · refine lv_iconst (v := nI 5) hx hb d_M_cost_63 (by decide) ?_
                  exact hret _ ls _ d_M_cost_64 (congrArg nI (by unfold m_cost; (repeat' split) <;> omega))
              · refine lv_iload_n hx hb d_M_cost_51 rfl (lv_at hl 0 rfl) ?_
                refine lv_bipush (v := nI 7) hx hb d_M_cost_52 (by decide) ?_
                refine kn_le (tgt := 63) hx hb (by omega) (by omega) d_M_cost_54 (by decide) (fun h54 => ?_) (fun h54 => ?_)
                · refine lv_iconst (v := nI 5) hx hb d_M_cost_63 (by decide) ?_
                  exact hret _ ls _ d_M_cost_64 (congrArg nI (by unfold m_cost; (repeat' split) <;> omega))
                · refine lv_iload_n hx hb d_M_cost_57 rfl (lv_at hl 0 rfl) ?_
                  refine lv_bipush (v := nI 11) hx hb d_M_cost_58 (by decide) ?_
                  refine kn_ne (tgt := 65) hx hb (by omega) (by omega) d_M_cost_60 (by decide) (fun h60 => ?_) (fun h60 => ?_)
                  · refine lv_iload_n hx hb d_M_cost_65 rfl (lv_at hl 0 rfl) ?_
                    refine lv_bipush (v := nI 8) hx hb d_M_cost_66 (by decide) ?_
                    refine kn_eq (tgt := 83) hx hb (by omega) (by omega) d_M_cost_68 (by decide) (fun h68 => ?_) (fun h68 => ?_)
                    · refine lv_bipush (v := nI 8) hx hb d_M_cost_83 (by decide) ?_
                      exact hret _ ls _ d_M_cost_85 (congrArg nI (by unfold m_cost; (repeat' split) <;> omega))
                    · refine lv_iload_n hx hb d_M_cost_71 rfl (lv_at hl 0 rfl) ?_
                      refine lv_bipush (v := nI 9) hx hb d_M_cost_72 (by decide) ?_
                      refine kn_eq (tgt := 83) hx hb (by omega) (by omega) d_M_cost_74 (by decide) (fun h74 => ?_) (fun h74 => ?_)
                      · refine lv_bipush (v := nI 8) hx hb d_M_cost_83 (by decide) ?_
                        exact hret _ ls _ d_M_cost_85 (congrArg nI (by unfold m_cost; (repeat' split) <;> omega))
                      · refine lv_iload_n hx hb d_M_cost_77 rfl (lv_at hl 0 rfl) ?_
                        refine lv_bipush (v := nI 86) hx hb d_M_cost_78 (by decide) ?_
                        refine kn_ne (tgt := 86) hx hb (by omega) (by omega) d_M_cost_80 (by decide) (fun h80 => ?_) (fun h80 => ?_)
                        · refine lv_iload_n hx hb d_M_cost_86 rfl (lv_at hl 0 rfl) ?_
                          refine lv_bipush (v := nI 87) hx hb d_M_cost_87 (by decide) ?_
                          refine kn_ne (tgt := 97) hx hb (by omega) (by omega) d_M_cost_89 (by decide) (fun h89 => ?_) (fun h89 => ?_)
                          · refine lv_iconst (v := nI 3) hx hb d_M_cost_97 (by decide) ?_
                            exact hret _ ls _ d_M_cost_98 (congrArg nI (by unfold m_cost; (repeat' split) <;> omega))
                          · refine lv_bipush (v := nI 10) hx hb d_M_cost_92 (by decide) ?_
                            refine lv_goto (tgt := 98) hx hb d_M_cost_94 (by decide) ?_
                            exact hret _ ls _ d_M_cost_98 (congrArg nI (by unfold m_cost; (repeat' split) <;> omega))
                        · refine lv_bipush (v := nI 8) hx hb d_M_cost_83 (by decide) ?_
                          exact hret _ ls _ d_M_cost_85 (congrArg nI (by unfold m_cost; (repeat' split) <;> omega))
                  · refine lv_iconst (v := nI 5) hx hb d_M_cost_63 (by decide) ?_
                    exact hret _ ls _ d_M_cost_64 (congrArg nI (by unfold m_cost; (repeat' split) <;> omega))
          · refine lv_iload_n hx hb d_M_cost_33 rfl (lv_at hl 0 rfl) ?_
            refine lv_bipush (v := nI 90) hx hb d_M_cost_34 (by decide) ?_
            refine kn_gt (tgt := 41) hx hb (by omega) (by omega) d_M_cost_36 (by decide) (fun h36 => ?_) (fun h36 => ?_)
            · refine lv_iload_n hx hb d_M_cost_41 rfl (lv_at hl 0 rfl) ?_
              refine lv_iconst (v := nI 2) hx hb d_M_cost_42 (by decide) ?_
              refine kn_eq (tgt := 63) hx hb (by omega) (by omega) d_M_cost_43 (by decide) (fun h43 => ?_) (fun h43 => ?_)
              · refine lv_iconst (v := nI 5) hx hb d_M_cost_63 (by decide) ?_
                exact hret _ ls _ d_M_cost_64 (congrArg nI (by unfold m_cost; (repeat' split) <;> omega))
              · refine lv_iload_n hx hb d_M_cost_46 rfl (lv_at hl 0 rfl) ?_
                refine lv_iconst (v := nI 4) hx hb d_M_cost_47 (by decide) ?_
                refine kn_lt (tgt := 57) hx hb (by omega) (by omega) d_M_cost_48 (by decide) (fun h48 => ?_) (fun h48 => ?_)
                · refine lv_iload_n hx hb d_M_cost_57 rfl (lv_at hl 0 rfl) ?_
                  refine lv_bipush (v := nI 11) hx hb d_M_cost_58 (by decide) ?_
                  refine kn_ne (tgt := 65) hx hb (by omega) (by omega) d_M_cost_60 (by decide) (fun h60 => ?_) (fun h60 => ?_)
                  · refine lv_iload_n hx hb d_M_cost_65 rfl (lv_at hl 0 rfl) ?_
                    refine lv_bipush (v := nI 8) hx hb d_M_cost_66 (by decide) ?_
                    refine kn_eq (tgt := 83) hx hb (by omega) (by omega) d_M_cost_68 (by decide) (fun h68 => ?_) (fun h68 => ?_)
                    · refine lv_bipush (v := nI 8) hx hb d_M_cost_83 (by decide) ?_
                      exact hret _ ls _ d_M_cost_85 (congrArg nI (by unfold m_cost; (repeat' split) <;> omega))
                    · refine lv_iload_n hx hb d_M_cost_71 rfl (lv_at hl 0 rfl) ?_
                      refine lv_bipush (v := nI 9) hx hb d_M_cost_72 (by decide) ?_
                      refine kn_eq (tgt := 83) hx hb (by omega) (by omega) d_M_cost_74 (by decide) (fun h74 => ?_) (fun h74 => ?_)
                      · refine lv_bipush (v := nI 8) hx hb d_M_cost_83 (by decide) ?_
                        exact hret _ ls _ d_M_cost_85 (congrArg nI (by unfold m_cost; (repeat' split) <;> omega))
                      · refine lv_iload_n hx hb d_M_cost_77 rfl (lv_at hl 0 rfl) ?_
                        refine lv_bipush (v := nI 86) hx hb d_M_cost_78 (by decide) ?_
                        refine kn_ne (tgt := 86) hx hb (by omega) (by omega) d_M_cost_80 (by decide) (fun h80 => ?_) (fun h80 => ?_)
                        · refine lv_iload_n hx hb d_M_cost_86 rfl (lv_at hl 0 rfl) ?_
                          refine lv_bipush (v := nI 87) hx hb d_M_cost_87 (by decide) ?_
                          refine kn_ne (tgt := 97) hx hb (by omega) (by omega) d_M_cost_89 (by decide) (fun h89 => ?_) (fun h89 => ?_)
                          · refine lv_iconst (v := nI 3) hx hb d_M_cost_97 (by decide) ?_
                            exact hret _ ls _ d_M_cost_98 (congrArg nI (by unfold m_cost; (repeat' split) <;> omega))
                          · refine lv_bipush (v := nI 10) hx hb d_M_cost_92 (by decide) ?_
                            refine lv_goto (tgt := 98) hx hb d_M_cost_94 (by decide) ?_
                            exact hret _ ls _ d_M_cost_98 (congrArg nI (by unfold m_cost; (repeat' split) <;> omega))
                        · refine lv_bipush (v := nI 8) hx hb d_M_cost_83 (by decide) ?_
                          exact hret _ ls _ d_M_cost_85 (congrArg nI (by unfold m_cost; (repeat' split) <;> omega))
                  · refine lv_iconst (v := nI 5) hx hb d_M_cost_63 (by decide) ?_
                    exact hret _ ls _ d_M_cost_64 (congrArg nI (by unfold m_cost; (repeat' split) <;> omega))
                · refine lv_iload_n hx hb d_M_cost_51 rfl (lv_at hl 0 rfl) ?_
                  refine lv_bipush (v := nI 7) hx hb d_M_cost_52 (by decide) ?_
                  refine kn_le (tgt := 63) hx hb (by omega) (by omega) d_M_cost_54 (by decide) (fun h54 => ?_) (fun h54 => ?_)
                  · refine lv_iconst (v := nI 5) hx hb d_M_cost_63 (by decide) ?_
                    exact hret _ ls _ d_M_cost_64 (congrArg nI (by unfold m_cost; (repeat' split) <;> omega))
                  · refine lv_iload_n hx hb d_M_cost_57 rfl (lv_at hl 0 rfl) ?_
                    refine lv_bipush (v := nI 11) hx hb d_M_cost_58 (by decide) ?_
                    refine kn_ne (tgt := 65) hx hb (by omega) (by omega) d_M_cost_60 (by decide) (fun h60 => ?_) (fun h60 => ?_)
                    · refine lv_iload_n hx hb d_M_cost_65 rfl (lv_at hl 0 rfl) ?_
                      refine lv_bipush (v := nI 8) hx hb d_M_cost_66 (by decide) ?_
                      refine kn_eq (tgt := 83) hx hb (by omega) (by omega) d_M_cost_68 (by decide) (fun h68 => ?_) (fun h68 => ?_)
                      · refine lv_bipush (v := nI 8) hx hb d_M_cost_83 (by decide) ?_
                        exact hret _ ls _ d_M_cost_85 (congrArg nI (by unfold m_cost; (repeat' split) <;> omega))
                      · refine lv_iload_n hx hb d_M_cost_71 rfl (lv_at hl 0 rfl) ?_
                        refine lv_bipush (v := nI 9) hx hb d_M_cost_72 (by decide) ?_
                        refine kn_eq (tgt := 83) hx hb (by omega) (by omega) d_M_cost_74 (by decide) (fun h74 => ?_) (fun h74 => ?_)
                        · refine lv_bipush (v := nI 8) hx hb d_M_cost_83 (by decide) ?_
                          exact hret _ ls _ d_M_cost_85 (congrArg nI (by unfold m_cost; (repeat' split) <;> omega))
                        · refine lv_iload_n hx hb d_M_cost_77 rfl (lv_at hl 0 rfl) ?_
                          refine lv_bipush (v := nI 86) hx hb d_M_cost_78 (by decide) ?_
                          refine kn_ne (tgt := 86) hx hb (by omega) (by omega) d_M_cost_80 (by decide) (fun h80 => ?_) (fun h80 => ?_)
                          · refine lv_iload_n hx hb d_M_cost_86 rfl (lv_at hl 0 rfl) ?_
                            refine lv_bipush (v := nI 87) hx hb d_M_cost_87 (by decide) ?_
                            refine kn_ne (tgt := 97) hx hb (by omega) (by omega) d_M_cost_89 (by decide) (fun h89 => ?_) (fun h89 => ?_)
                            · refine lv_iconst (v := nI 3) hx hb d_M_cost_97 (by decide) ?_
                              exact hret _ ls _ d_M_cost_98 (congrArg nI (by unfold m_cost; (repeat' split) <;> omega))
                            · refine lv_bipush (v := nI 10) hx hb d_M_cost_92 (by decide) ?_
                              refine lv_goto (tgt := 98) hx hb d_M_cost_94 (by decide) ?_
                              exact hret _ ls _ d_M_cost_98 (congrArg nI (by unfold m_cost; (repeat' split) <;> omega))
                          · refine lv_bipush (v := nI 8) hx hb d_M_cost_83 (by decide) ?_
                            exact hret _ ls _ d_M_cost_85 (congrArg nI (by unfold m_cost; (repeat' split) <;> omega))
                    · refine lv_iconst (v := nI 5) hx hb d_M_cost_63 (by decide) ?_
                      exact hret _ ls _ d_M_cost_64 (congrArg nI (by unfold m_cost; (repeat' split) <;> omega))
            · refine lv_iconst (v := nI 2) hx hb d_M_cost_39 (by decide) ?_
              exact hret _ ls _ d_M_cost_40 (congrArg nI (by unfold m_cost; (repeat' split) <;> omega))
      · refine lv_iconst (v := nI 1) hx hb d_M_cost_19 (by decide) ?_
        exact hret _ ls _ d_M_cost_20 (congrArg nI (by unfold m_cost; (repeat' split) <;> omega))
    · refine lv_iconst (v := nI 0) hx hb d_M_cost_11 (by decide) ?_
      exact hret _ ls _ d_M_cost_12 (congrArg nI (by unfold m_cost; (repeat' split) <;> omega))

def okB (len : Nat) (b nb : Nat → Nat) : Prop := len ≤ 96 ∧ (∀ j, len ≤ j → b j = 0) ∧ (∀ j, b j < 256) ∧ ∀ j, j < len → nb j = b j
theorem lat_pos {b : Nat → Nat} : ∀ {j : Nat}, 0 < j → m_lat b j ≠ 0
  | 0, h => absurd h (Nat.lt_irrefl 0)
  | 1, _ => by show (if 0 = m_nb b 0 then 0 + 1 else m_lat b 0) ≠ 0; rw [if_pos (show 0 = m_nb b 0 from rfl)]; decide
  | j + 2, _ => by
    show (if j + 1 = m_nb b (j + 1) then j + 1 + 1 else m_lat b (j + 1)) ≠ 0
    split
    · omega
    · exact lat_pos (Nat.succ_pos j)

abbrev y_M_at : MethodName := ⟨"WideStackModel", "at", "(I)I"⟩
theorem d_M_at_0 : decode prog_12_method_4_code 0 = .ok (.iload_n 1, 1) := by decide +kernel
theorem d_M_at_1 : decode prog_12_method_4_code 1 = .ok (.aload_n 0, 1) := by decide +kernel
theorem d_M_at_2 : decode prog_12_method_4_code 2 = .ok (.getfield 26, 3) := by decide +kernel
theorem d_M_at_5 : decode prog_12_method_4_code 5 = .ok (.if_icmp .ge 12, 3) := by decide +kernel
theorem d_M_at_8 : decode prog_12_method_4_code 8 = .ok (.aload_n 0, 1) := by decide +kernel
theorem d_M_at_9 : decode prog_12_method_4_code 9 = .ok (.getfield 7, 3) := by decide +kernel
theorem d_M_at_12 : decode prog_12_method_4_code 12 = .ok (.iload_n 1, 1) := by decide +kernel
theorem d_M_at_13 : decode prog_12_method_4_code 13 = .ok (.iaload, 1) := by decide +kernel
theorem d_M_at_14 : decode prog_12_method_4_code 14 = .ok (.goto 4, 3) := by decide +kernel
theorem d_M_at_17 : decode prog_12_method_4_code 17 = .ok (.iconst 0, 1) := by decide +kernel
theorem d_M_at_18 : decode prog_12_method_4_code 18 = .ok (.ireturn, 1) := by decide +kernel
def rm_c_M_at : Room := { frames := 0, cells := 0, slots := 0, locals := 0 }
set_option maxHeartbeats 4000000 in
set_option maxRecDepth 100000 in
theorem c_M_at (l : Launch) (E : kE) (mo mb mm mw mh ml len en gas ctr siz hgt frm ret : Nat) (on ay : Bool) (nb bb : Nat → Nat) (okb : okB len bb nb) (i : Nat) (hi : i < 1000000) : Kp l y_M_at (kW y_M_at prog_12_method_4_code 2 (some .int)) rm_c_M_at E [.ref mo, .int (nI i)] [(mo, .inr (8, [.int (nI len), .ref mb, .int (kb on), .int (nI en), .int (nI gas), .int (nI ctr), .int (nI siz), .int (nI hgt), .int (nI frm), .int (nI ret), .ref mm, .ref mw, .ref mh, .ref ml, .int (kb ay)])), (mb, .inl (E.2.1 0, 96, .inl (nF nb)))] (fun r => r = nI (bb i)) := by
  refine Kp.ofI (cc := prog_12_method_4_code) (maxL := 2) (by decide) (Nat.le_of_ble_eq_true rfl) ?_
  intro p e s m args below meth c A ls Q hx hb hts hown hml hK hG hA hP hD hS hl hret
  have hl : lv_has ls 2 [(0, .ref mo), (1, .int (nI i))] := hl
  have hlen := okb.1
  refine lv_iload_n hx hb d_M_at_0 rfl (lv_at hl 1 rfl) ?_
  refine lv_aload_n hx hb d_M_at_1 rfl (lv_at hl 0 rfl) ?_
  refine va_get (D := E.1) (ci := 8) (v := .int (nI len)) (C := "WideStackModel") (T := T_M) (N := 15) hx hb hts in_M hown hK hP 0 rfl rfl 0 (by decide) (hts _ t_747) (fun _ h9 => h9) rfl d_M_at_2 ?_
  refine kn_ge (tgt := 17) hx hb (by omega) (by omega) d_M_at_5 (by decide) (fun h5 => ?_) (fun h5 => ?_)
  · refine lv_iconst (v := nI 0) hx hb d_M_at_17 (by decide) ?_
    first | exact hret _ ls _ d_M_at_18 (congrArg nI (okb.2.2.2 i (by omega))) | exact hret _ ls _ d_M_at_18 (congrArg nI (okb.2.1 i (by omega)).symm)
  · refine lv_aload_n hx hb d_M_at_8 rfl (lv_at hl 0 rfl) ?_
    refine va_get (D := E.1) (ci := 8) (v := .ref mb) (C := "WideStackModel") (T := T_M) (N := 15) hx hb hts in_M hown hK hP 0 rfl rfl 1 (by decide) (hts _ t_748) (fun _ h9 => h9) rfl d_M_at_9 ?_
    refine lv_iload_n hx hb d_M_at_12 rfl (lv_at hl 1 rfl) ?_
    refine k_ialdN hx hb hK hP 1 rfl (i := i) (by omega) (by omega) d_M_at_13 ?_
    refine lv_goto (tgt := 18) hx hb d_M_at_14 (by decide) ?_
    first | exact hret _ ls _ d_M_at_18 (congrArg nI (okb.2.2.2 i (by omega))) | exact hret _ ls _ d_M_at_18 (congrArg nI (okb.2.1 i (by omega)).symm)

theorem bf_next {b : Nat → Nat} {i x : Nat} (h : m_nb b i = i) (hi : i < x) : i + 1 + m_numl (b i) ≤ x ∨ (x < i + 1 + m_numl (b i) ∧ m_nb b x = i + 1 + m_numl (b i)) := by
  rcases Nat.lt_or_ge x (i + 1 + m_numl (b i)) with q | q
  · refine Or.inr ⟨q, ?_⟩
    have := (nb_in h (n := x - i - 1) (by omega)).1
    rwa [show i + 1 + (x - i - 1) = x by omega] at this
  · exact Or.inl q

abbrev y_M_before : MethodName := ⟨"WideStackModel", "before", "(I)I"⟩
theorem d_M_before_0 : decode prog_12_method_7_code 0 = .ok (.iconst 0, 1) := by decide +kernel
theorem d_M_before_1 : decode prog_12_method_7_code 1 = .ok (.istore_n 2, 1) := by decide +kernel
theorem d_M_before_2 : decode prog_12_method_7_code 2 = .ok (.iconst (-1), 1) := by decide +kernel
theorem d_M_before_3 : decode prog_12_method_7_code 3 = .ok (.istore_n 3, 1) := by decide +kernel
theorem d_M_before_4 : decode prog_12_method_7_code 4 = .ok (.iload_n 2, 1) := by decide +kernel
theorem d_M_before_5 : decode prog_12_method_7_code 5 = .ok (.iload_n 1, 1) := by decide +kernel
theorem d_M_before_6 : decode prog_12_method_7_code 6 = .ok (.if_icmp .ge 18, 3) := by decide +kernel
theorem d_M_before_9 : decode prog_12_method_7_code 9 = .ok (.iload_n 2, 1) := by decide +kernel
theorem d_M_before_10 : decode prog_12_method_7_code 10 = .ok (.istore_n 3, 1) := by decide +kernel
theorem d_M_before_11 : decode prog_12_method_7_code 11 = .ok (.iload_n 2, 1) := by decide +kernel
theorem d_M_before_12 : decode prog_12_method_7_code 12 = .ok (.aload_n 0, 1) := by decide +kernel
theorem d_M_before_13 : decode prog_12_method_7_code 13 = .ok (.iload_n 2, 1) := by decide +kernel
theorem d_M_before_14 : decode prog_12_method_7_code 14 = .ok (.invokevirtual 41, 3) := by decide +kernel
theorem d_M_before_17 : decode prog_12_method_7_code 17 = .ok (.invokestatic 45, 3) := by decide +kernel
theorem d_M_before_20 : decode prog_12_method_7_code 20 = .ok (.istore_n 2, 1) := by decide +kernel
theorem d_M_before_21 : decode prog_12_method_7_code 21 = .ok (.goto (-17), 3) := by decide +kernel
theorem d_M_before_24 : decode prog_12_method_7_code 24 = .ok (.iload_n 2, 1) := by decide +kernel
theorem d_M_before_25 : decode prog_12_method_7_code 25 = .ok (.iload_n 1, 1) := by decide +kernel
theorem d_M_before_26 : decode prog_12_method_7_code 26 = .ok (.if_icmp .ne 7, 3) := by decide +kernel
theorem d_M_before_29 : decode prog_12_method_7_code 29 = .ok (.iload_n 3, 1) := by decide +kernel
theorem d_M_before_30 : decode prog_12_method_7_code 30 = .ok (.goto 4, 3) := by decide +kernel
theorem d_M_before_33 : decode prog_12_method_7_code 33 = .ok (.iconst (-1), 1) := by decide +kernel
theorem d_M_before_34 : decode prog_12_method_7_code 34 = .ok (.ireturn, 1) := by decide +kernel
def rm_c_M_before : Room := { frames := 2, cells := 0, slots := 0, locals := 41 }
set_option maxHeartbeats 4000000 in
set_option maxRecDepth 100000 in
theorem c_M_before (l : Launch) (E : kE) (mo mb mm mw mh ml len en gas ctr siz hgt frm ret : Nat) (on ay : Bool) (nb bb : Nat → Nat) (okb : okB len bb nb) (x : Nat) (hx0 : x < 100000) : Kp l y_M_before (kW y_M_before prog_12_method_7_code 4 (some .int)) rm_c_M_before E [.ref mo, .int (nI x)] [(mo, .inr (8, [.int (nI len), .ref mb, .int (kb on), .int (nI en), .int (nI gas), .int (nI ctr), .int (nI siz), .int (nI hgt), .int (nI frm), .int (nI ret), .ref mm, .ref mw, .ref mh, .ref ml, .int (kb ay)])), (mb, .inl (E.2.1 0, 96, .inl (nF nb)))] (fun r => r = if m_nb bb x = x then m1 (m_lat bb x) else -1) := by
  refine Kp.ofI (cc := prog_12_method_7_code) (maxL := 4) (by decide) (Nat.le_of_ble_eq_true rfl) ?_
  intro p e s m args below meth c A ls Q hx hb hts hown hml hK hG hA hP hD hS hl hret
  have hl : lv_has ls 4 [(0, .ref mo), (1, .int (nI x))] := hl
  have hlen := okb.1
  refine lv_iconst (v := nI 0) hx hb d_M_before_0 (by decide) ?_
  refine lv_istore_n (lv' := [(2, .int (nI 0)), (0, .ref mo), (1, .int (nI x))]) hx hb d_M_before_1 rfl hl (by decide) rfl (fun ls hl => ?_)
  refine lv_iconst (v := -1) hx hb d_M_before_2 (by decide) ?_
  refine lv_istore_n (lv' := [(3, .int (-1)), (2, .int (nI 0)), (0, .ref mo), (1, .int (nI x))]) hx hb d_M_before_3 rfl hl (by decide) rfl (fun ls hl => ?_)
  have key4 : ∀ (n : Nat) (i : Nat) (ls : Array Slot), x + 40 ≤ i + n ∧ i ≤ x + 33 → (m_nb bb i = i ∧ (i ≤ x ∨ (x < i ∧ m_nb bb x = i))) → lv_has ls 4 [(2, .int (nI i)), (3, .int (m1 (m_lat bb i))), (0, .ref mo), (1, .int (nI x))] → W p l e rm_c_M_before s m args below meth c s.heap [] 0 0 Q (F0 m 4 ls []) := by
    intro n
    induction n using Nat.strongRecOn with
    | ind n ih =>
      intro i ls hn hI hl
      have hnl := m_numl_le (bb i)
      refine lv_iload_n hx hb d_M_before_4 rfl (lv_at hl 0 rfl) ?_
      refine lv_iload_n hx hb d_M_before_5 rfl (lv_at hl 3 rfl) ?_
      refine kn_ge (tgt := 24) hx hb (by omega) (by omega) d_M_before_6 (by decide) (fun h6 => ?_) (fun h6 => ?_)
      · refine lv_iload_n hx hb d_M_before_24 rfl (lv_at hl 0 rfl) ?_
        refine lv_iload_n hx hb d_M_before_25 rfl (lv_at hl 3 rfl) ?_
        refine kn_ne (tgt := 33) hx hb (by omega) (by omega) d_M_before_26 (by decide) (fun h26 => ?_) (fun h26 => ?_)
        · refine lv_iconst (v := -1) hx hb d_M_before_33 (by decide) ?_
          first | exact hret _ ls _ d_M_before_34 (by rw [← h26, if_pos hI.1]) | exact hret _ ls _ d_M_before_34 (by rw [if_neg (fun q => h26 (by omega))])
        · refine lv_iload_n hx hb d_M_before_29 rfl (lv_at hl 1 rfl) ?_
          refine lv_goto (tgt := 34) hx hb d_M_before_30 (by decide) ?_
          first | exact hret _ ls _ d_M_before_34 (by rw [← h26, if_pos hI.1]) | exact hret _ ls _ d_M_before_34 (by rw [if_neg (fun q => h26 (by omega))])
      · refine lv_iload_n hx hb d_M_before_9 rfl (lv_at hl 0 rfl) ?_
        refine lv_istore_n (lv' := [(3, .int (nI i)), (2, .int (nI i)), (0, .ref mo), (1, .int (nI x))]) hx hb d_M_before_10 rfl hl (by decide) rfl (fun ls hl => ?_)
        refine lv_iload_n hx hb d_M_before_11 rfl (lv_at hl 1 rfl) ?_
        refine lv_aload_n hx hb d_M_before_12 rfl (lv_at hl 2 rfl) ?_
        refine lv_iload_n hx hb d_M_before_13 rfl (lv_at hl 1 rfl) ?_
        refine k_Vp (As := [.int (nI i)]) (rest := [.int (nI i)]) ⟨hx, hb, hml, hown, hts⟩ (c_M_at l E mo mb mm mw mh ml len en gas ctr siz hgt frm ret on ay nb bb okb i (by omega)) (k_cwV 1 hts t_809 t_811 t_27 t_71 t_812 (by decide +kernel) ⟨Nat.le_of_ble_eq_true rfl, Nat.le_of_ble_eq_true rfl⟩) hK hG hA hP hD hS [0, 1] rfl (by decide) 0 rfl rfl rfl hl.1 rfl (Nat.le_of_ble_eq_true rfl) d_M_before_14 ⟨Nat.zero_le _, Nat.zero_le _⟩ (fun r14 hu14 => ?_)
        subst hu14
        refine k_Sp (As := [.int (nI i), .int (nI (bb i))]) (rest := []) ⟨hx, hb, hml, hown, hts⟩ (c_M_behind l E i (bb i) (okb.2.2.1 i)) (k_cwS 2 hts t_813 t_814 t_71 t_815 (by decide +kernel) ⟨Nat.le_of_ble_eq_true rfl, Nat.le_of_ble_eq_true rfl⟩) hK hG hA hP hD hS [] rfl (by decide) rfl hl.1 rfl (Nat.le_of_ble_eq_true rfl) d_M_before_17 ⟨Nat.zero_le _, Nat.zero_le _⟩ (fun r17 hu17 => ?_)
        subst hu17
        refine lv_istore_n (lv' := [(2, .int (nI (i + 1 + m_numl (bb i)))), (3, .int (nI i)), (0, .ref mo), (1, .int (nI x))]) hx hb d_M_before_20 rfl hl (by decide) rfl (fun ls hl => ?_)
        have e3 : m1 (m_lat bb (i + 1 + m_numl (bb i))) = nI i := by rw [(nb_in hI.1 (Nat.le_refl _)).2]; rfl
        have hl : lv_has ls 4 [(2, .int (nI (i + 1 + m_numl (bb i)))), (3, .int (m1 (m_lat bb (i + 1 + m_numl (bb i))))), (0, .ref mo), (1, .int (nI x))] := by rw [e3]; exact hl
        refine lv_goto (tgt := 4) hx hb d_M_before_21 (by decide) ?_
        exact ih (n - 1) (by omega) (i + 1 + m_numl (bb i)) ls ⟨by omega, by omega⟩ ⟨(nb_in hI.1 (Nat.le_refl _)).1, bf_next hI.1 h6⟩ (lv_sub hl [0, 1, 2, 3] rfl)
  exact key4 (x + 40) 0 ls ⟨by omega, by omega⟩ ⟨rfl, Or.inl (Nat.zero_le x)⟩ (lv_sub hl [1, 0, 2, 3] rfl)

theorem mm_f1 {len j : Nat} {b : Nat → Nat} (hl : len ≤ 96) (hj : j < len) (h : ¬ b j = 91) : m_marked len b (nI j).toNatClampNeg = false := by
  rw [nI_clamp (by omega)]; unfold m_marked; rw [decide_eq_false h, Bool.and_false]
theorem mm_f2 {len j : Nat} {b : Nat → Nat} (hl : len ≤ 96) (hj : j < len) (h : ¬ m_nb b j = j) : m_marked len b (nI j).toNatClampNeg = false := by
  rw [nI_clamp (by omega)]; unfold m_marked; rw [decide_eq_false h, Bool.and_false, Bool.false_and]
theorem mm_t {len j : Nat} {b : Nat → Nat} (hl : len ≤ 96) (hj : j < len) (h : m_nb b j = j) (h2 : b j = 91) : m_marked len b (nI j).toNatClampNeg = true := by
  rw [nI_clamp (by omega)]; unfold m_marked; rw [decide_eq_true h, decide_eq_true h2, decide_eq_true hj]; rfl

abbrev y_M_marked : MethodName := ⟨"WideStackModel", "marked", "(I)Z"⟩
theorem d_M_marked_0 : decode prog_12_method_8_code 0 = .ok (.iload_n 1, 1) := by decide +kernel
theorem d_M_marked_1 : decode prog_12_method_8_code 1 = .ok (.ifCond .lt 22, 3) := by decide +kernel
theorem d_M_marked_4 : decode prog_12_method_8_code 4 = .ok (.iload_n 1, 1) := by decide +kernel
theorem d_M_marked_5 : decode prog_12_method_8_code 5 = .ok (.aload_n 0, 1) := by decide +kernel
theorem d_M_marked_6 : decode prog_12_method_8_code 6 = .ok (.getfield 26, 3) := by decide +kernel
theorem d_M_marked_9 : decode prog_12_method_8_code 9 = .ok (.if_icmp .ge 14, 3) := by decide +kernel
theorem d_M_marked_12 : decode prog_12_method_8_code 12 = .ok (.aload_n 0, 1) := by decide +kernel
theorem d_M_marked_13 : decode prog_12_method_8_code 13 = .ok (.getfield 7, 3) := by decide +kernel
theorem d_M_marked_16 : decode prog_12_method_8_code 16 = .ok (.iload_n 1, 1) := by decide +kernel
theorem d_M_marked_17 : decode prog_12_method_8_code 17 = .ok (.iaload, 1) := by decide +kernel
theorem d_M_marked_18 : decode prog_12_method_8_code 18 = .ok (.bipush 91, 2) := by decide +kernel
theorem d_M_marked_20 : decode prog_12_method_8_code 20 = .ok (.if_icmp .eq 5, 3) := by decide +kernel
theorem d_M_marked_23 : decode prog_12_method_8_code 23 = .ok (.iconst 0, 1) := by decide +kernel
theorem d_M_marked_24 : decode prog_12_method_8_code 24 = .ok (.ireturn, 1) := by decide +kernel
theorem d_M_marked_25 : decode prog_12_method_8_code 25 = .ok (.iload_n 1, 1) := by decide +kernel
theorem d_M_marked_26 : decode prog_12_method_8_code 26 = .ok (.ifCond .eq 11, 3) := by decide +kernel
theorem d_M_marked_29 : decode prog_12_method_8_code 29 = .ok (.aload_n 0, 1) := by decide +kernel
theorem d_M_marked_30 : decode prog_12_method_8_code 30 = .ok (.iload_n 1, 1) := by decide +kernel
theorem d_M_marked_31 : decode prog_12_method_8_code 31 = .ok (.invokevirtual 49, 3) := by decide +kernel
theorem d_M_marked_34 : decode prog_12_method_8_code 34 = .ok (.ifCond .lt 7, 3) := by decide +kernel
theorem d_M_marked_37 : decode prog_12_method_8_code 37 = .ok (.iconst 1, 1) := by decide +kernel
theorem d_M_marked_38 : decode prog_12_method_8_code 38 = .ok (.goto 4, 3) := by decide +kernel
theorem d_M_marked_41 : decode prog_12_method_8_code 41 = .ok (.iconst 0, 1) := by decide +kernel
theorem d_M_marked_42 : decode prog_12_method_8_code 42 = .ok (.ireturn, 1) := by decide +kernel
def rm_c_M_marked : Room := { frames := 3, cells := 0, slots := 0, locals := 64 }
set_option maxHeartbeats 4000000 in
set_option maxRecDepth 100000 in
theorem c_M_marked (l : Launch) (E : kE) (mo mb mm mw mh ml len en gas ctr siz hgt frm ret : Nat) (on ay : Bool) (nb bb : Nat → Nat) (okb : okB len bb nb) (x : Int32) : Kp l y_M_marked (kW y_M_marked prog_12_method_8_code 2 (some .boolean)) rm_c_M_marked E [.ref mo, .int x] [(mo, .inr (8, [.int (nI len), .ref mb, .int (kb on), .int (nI en), .int (nI gas), .int (nI ctr), .int (nI siz), .int (nI hgt), .int (nI frm), .int (nI ret), .ref mm, .ref mw, .ref mh, .ref ml, .int (kb ay)])), (mb, .inl (E.2.1 0, 96, .inl (nF nb)))] (fun r => r = kb (m_in x len && m_marked len bb x.toNatClampNeg)) := by
  refine Kp.ofZ (cc := prog_12_method_8_code) (maxL := 2) (by decide) (Nat.le_of_ble_eq_true rfl) ?_
  intro p e s m args below meth c A ls Q hx hb hts hown hml hK hG hA hP hD hS hl hret
  have hl : lv_has ls 2 [(0, .ref mo), (1, .int x)] := hl
  have hlen := okb.1
  refine lv_iload_n hx hb d_M_marked_0 rfl (lv_at hl 1 rfl) ?_
  refine lv_if_lt (tgt := 23) hx hb d_M_marked_1 (by decide) (fun h1 => ?_) (fun h1 => ?_)
  · refine lv_iconst (v := nI 0) hx hb d_M_marked_23 (by decide) ?_
    first | exact hret _ ls _ d_M_marked_24 (by decide) (by rw [m_in_f1 h1]; rfl) | exact hret _ ls _ d_M_marked_24 (by decide) (by rw [m_in_f2 h9]; rfl) | exact hret _ ls _ d_M_marked_24 (by decide) (by rw [hin, mm_f1 hlen hj h20]; rfl)
  · refine lv_iload_n hx hb d_M_marked_4 rfl (lv_at hl 1 rfl) ?_
    refine lv_aload_n hx hb d_M_marked_5 rfl (lv_at hl 0 rfl) ?_
    refine va_get (D := E.1) (ci := 8) (v := .int (nI len)) (C := "WideStackModel") (T := T_M) (N := 15) hx hb hts in_M hown hK hP 0 rfl rfl 0 (by decide) (hts _ t_747) (fun _ h9 => h9) rfl d_M_marked_6 ?_
    refine lv_icmp_ge (tgt := 23) hx hb d_M_marked_9 (by decide) (fun h9 => ?_) (fun h9 => ?_)
    · refine lv_iconst (v := nI 0) hx hb d_M_marked_23 (by decide) ?_
      first | exact hret _ ls _ d_M_marked_24 (by decide) (by rw [m_in_f1 h1]; rfl) | exact hret _ ls _ d_M_marked_24 (by decide) (by rw [m_in_f2 h9]; rfl) | exact hret _ ls _ d_M_marked_24 (by decide) (by rw [hin, mm_f1 hlen hj h20]; rfl)
    · have hin := m_in_t (n := len) (by omega) h1 h9
      obtain ⟨j, hj, rfl⟩ := m_in_of (by omega) hin
      have hbj := okb.2.2.1 j
      refine lv_aload_n hx hb d_M_marked_12 rfl (lv_at hl 0 rfl) ?_
      refine va_get (D := E.1) (ci := 8) (v := .ref mb) (C := "WideStackModel") (T := T_M) (N := 15) hx hb hts in_M hown hK hP 0 rfl rfl 1 (by decide) (hts _ t_748) (fun _ h9 => h9) rfl d_M_marked_13 ?_
      refine lv_iload_n hx hb d_M_marked_16 rfl (lv_at hl 1 rfl) ?_
      refine k_ialdN hx hb hK hP 1 rfl (i := j) (by omega) (by omega) d_M_marked_17 ?_
      refine k_top (congrArg nI (okb.2.2.2 j hj)) ?_
      refine lv_bipush (v := nI 91) hx hb d_M_marked_18 (by decide) ?_
      refine kn_eq (tgt := 25) hx hb (by omega) (by omega) d_M_marked_20 (by decide) (fun h20 => ?_) (fun h20 => ?_)
      · refine lv_iload_n hx hb d_M_marked_25 rfl (lv_at hl 1 rfl) ?_
        refine kn_ifeq (tgt := 37) hx hb (by omega) d_M_marked_26 (by decide) (fun h26 => ?_) (fun h26 => ?_)
        · refine lv_iconst (v := nI 1) hx hb d_M_marked_37 (by decide) ?_
          refine lv_goto (tgt := 42) hx hb d_M_marked_38 (by decide) ?_
          first | exact hret _ ls _ d_M_marked_42 (by decide) (by subst h26; rw [hin, mm_t hlen hj rfl h20]; rfl) | exact hret _ ls _ d_M_marked_42 (by decide) (by rw [hin, mm_t hlen hj hn h20]; rfl) | exact hret _ ls _ d_M_marked_42 (by decide) (by rw [hin, mm_f2 hlen hj hn]; rfl)
        · refine lv_aload_n hx hb d_M_marked_29 rfl (lv_at hl 0 rfl) ?_
          refine lv_iload_n hx hb d_M_marked_30 rfl (lv_at hl 1 rfl) ?_
          refine k_Vp (As := [.int (nI j)]) (rest := []) ⟨hx, hb, hml, hown, hts⟩ (c_M_before l E mo mb mm mw mh ml len en gas ctr siz hgt frm ret on ay nb bb okb j (by omega)) (k_cwV 1 hts t_805 t_807 t_26 t_71 t_808 (by decide +kernel) ⟨Nat.le_of_ble_eq_true rfl, Nat.le_of_ble_eq_true rfl⟩) hK hG hA hP hD hS [0, 1] rfl (by decide) 0 rfl rfl rfl hl.1 rfl (Nat.le_of_ble_eq_true rfl) d_M_marked_31 ⟨Nat.zero_le _, Nat.zero_le _⟩ (fun r hu => ?_)
          by_cases hn : m_nb bb j = j
          · have hla := m_lat_le bb j
            rw [if_pos hn, m1_pos (lat_pos (Nat.pos_of_ne_zero h26))] at hu
            subst hu
            refine kn_iflt (tgt := 41) hx hb (by omega) d_M_marked_34 (by decide) ?_
            refine lv_iconst (v := nI 1) hx hb d_M_marked_37 (by decide) ?_
            refine lv_goto (tgt := 42) hx hb d_M_marked_38 (by decide) ?_
            first | exact hret _ ls _ d_M_marked_42 (by decide) (by subst h26; rw [hin, mm_t hlen hj rfl h20]; rfl) | exact hret _ ls _ d_M_marked_42 (by decide) (by rw [hin, mm_t hlen hj hn h20]; rfl) | exact hret _ ls _ d_M_marked_42 (by decide) (by rw [hin, mm_f2 hlen hj hn]; rfl)
          · rw [if_neg hn] at hu
            subst hu
            refine lv_if_lt (tgt := 41) hx hb d_M_marked_34 (by decide) (fun h34 => ?_) (fun h34 => ?_)
            · refine lv_iconst (v := nI 0) hx hb d_M_marked_41 (by decide) ?_
              first | exact hret _ ls _ d_M_marked_42 (by decide) (by subst h26; rw [hin, mm_t hlen hj rfl h20]; rfl) | exact hret _ ls _ d_M_marked_42 (by decide) (by rw [hin, mm_t hlen hj hn h20]; rfl) | exact hret _ ls _ d_M_marked_42 (by decide) (by rw [hin, mm_f2 hlen hj hn]; rfl)
            · exact absurd (by decide) h34
      · refine lv_iconst (v := nI 0) hx hb d_M_marked_23 (by decide) ?_
        first | exact hret _ ls _ d_M_marked_24 (by decide) (by rw [m_in_f1 h1]; rfl) | exact hret _ ls _ d_M_marked_24 (by decide) (by rw [m_in_f2 h9]; rfl) | exact hret _ ls _ d_M_marked_24 (by decide) (by rw [hin, mm_f1 hlen hj h20]; rfl)

