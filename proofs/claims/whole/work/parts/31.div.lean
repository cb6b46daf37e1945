/-! long division, bit by bit -/
theorem k_decp {k : Nat} (h : 0 < k) : nI k + Int32.ofInt (-1) = nI (k - 1) := by
  obtain ⟨j, rfl⟩ : ∃ j, k = j + 1 := ⟨k - 1, by omega⟩
  exact k_dec j
theorem uw_dbl (x : Int32) : uw (x <<< (nI 1 &&& 31)) = 2 * uw x % 4294967296 := by
  have h := pk_shl x (nI 1 &&& 31) 1 (s_l 1 (by decide))
  show (x <<< (nI 1 &&& 31)).toBitVec.toNat = _
  rw [h, Nat.mul_comm]
  rfl
theorem uw_dbl_or {x : Int32} {b : Nat} (hb : b < 2) : uw ((x <<< (nI 1 &&& 31)) ||| nI b) = 2 * uw x % 4294967296 + b := by
  have h0 := uw_lt' x
  rw [uw_or, uw_dbl, uw_nI' (by omega)]
  have e : 2 * uw x % 4294967296 = 2 ^ 1 * (uw x % 2147483648) := by omega
  rw [e]
  exact (Nat.two_pow_add_eq_or_of_lt (i := 1) hb _).symm
theorem ap_sum {f u : Nat → Int32} {b : Nat} (h0 : uw (u 0) = 2 * uw (f 0) % 4294967296 + b) (hs : ∀ j, 0 < j → j < 8 → uw (u j) = 2 * uw (f j) % 4294967296 + uw (f (j - 1)) / 2147483648) : ∀ k, 0 < k → k ≤ 8 → wv u k + uw (f (k - 1)) / 2147483648 * kK ^ k = 2 * wv f k + b
  | 0, h, _ => absurd h (Nat.lt_irrefl 0)
  | 1, _, _ => by
    have e1 : wv u 1 = uw (u 0) := by rw [wv_s, wv_0, Nat.pow_zero, Nat.mul_one, Nat.zero_add]
    have e2 : wv f 1 = uw (f 0) := by rw [wv_s, wv_0, Nat.pow_zero, Nat.mul_one, Nat.zero_add]
    rw [e1, e2, h0, Nat.pow_one, kK_eq]
    show 2 * uw (f 0) % 4294967296 + b + uw (f 0) / 2147483648 * 4294967296 = 2 * uw (f 0) + b
    omega
  | k + 2, _, hk => by
    have ih := ap_sum h0 hs (k + 1) (by omega) (by omega)
    have h1 := hs (k + 1) (by omega) (by omega)
    rw [Nat.add_sub_cancel] at ih h1
    rw [wv_s u (k + 1), wv_s f (k + 1), h1, show k + 2 - 1 = k + 1 by omega, Nat.pow_succ kK (k + 1), Nat.mul_comm (kK ^ (k + 1)) kK]
    generalize kK ^ (k + 1) = P at *
    generalize uw (f (k + 1)) = y at *
    have h2 : (2 * y % 4294967296) * P + y / 2147483648 * (kK * P) = 2 * (y * P) := by
      rw [← Nat.mul_assoc, ← Nat.add_mul, ← Nat.mul_assoc, kK_eq]
      congr 1
      omega
    rw [Nat.add_mul, Nat.mul_add]
    omega
theorem ap_fin {f u : Nat → Int32} {b : Nat} (hb : b < 2) (h0 : uw (u 0) = 2 * uw (f 0) % 4294967296 + b) (hs : ∀ j, 0 < j → j < 8 → uw (u j) = 2 * uw (f j) % 4294967296 + uw (f (j - 1)) / 2147483648) : wv u 8 = (2 * wv f 8 + b) % mM := by
  have h := ap_sum h0 hs 8 (by decide) (by decide)
  rw [kK8] at h
  rw [← h, Nat.add_mul_mod_self_right, Nat.mod_eq_of_lt (wv_lt8 u)]
theorem wv_bit {f : Nat → Int32} {b n : Nat} (hb : b < 32 * n) : uw (f (b / 32)) / 2 ^ (b % 32) % 2 = wv f n / 2 ^ b % 2 := by
  have h1 : wv f n / kK ^ (b / 32) % kK = uw (f (b / 32)) := bv_dig (B := kK) (f := fun j => uw (f j)) (fun j _ => uw_lt (f j)) (by omega)
  have e : kK = 2 ^ 32 := by decide
  rw [← h1, e]
  apply Nat.eq_of_testBit_eq
  intro i
  rw [show (2 : Nat) = 2 ^ 1 from rfl]
  simp only [Nat.testBit_mod_two_pow, Nat.testBit_div_two_pow, ← Nat.pow_mul]
  by_cases hi : i < 1
  · have : i = 0 := by omega
    subst this
    simp only [Nat.add_zero, Nat.zero_add, Nat.one_mul]
    have e2 : b % 32 + 32 * (b / 32) = b := by omega
    have e3 : 32 * (b / 32) + b % 32 = b := by omega
    simp [e2, e3, Nat.mod_lt]
  · simp [hi]
theorem k_and1 (n : Nat) (h : n < 4294967296) : nI n &&& nI 1 = nI (n % 2) := pk_andN (m := nI 1) h 1 (by decide)
theorem dv_step {X V d : Nat} (hV : 0 < V) (hd : d < 2) : (V ≤ 2 * (X % V) + d → (2 * X + d) % V = 2 * (X % V) + d - V ∧ (2 * X + d) / V = 2 * (X / V) + 1) ∧ (¬ V ≤ 2 * (X % V) + d → (2 * X + d) % V = 2 * (X % V) + d ∧ (2 * X + d) / V = 2 * (X / V)) := by
  have hr := Nat.mod_lt X hV
  have e := Nat.div_add_mod X V
  generalize X % V = r at *
  generalize X / V = q at *
  subst e
  have e2 : 2 * (V * q + r) + d = V * (2 * q) + (2 * r + d) := by
    rw [Nat.mul_add, Nat.mul_left_comm]
    omega
  constructor
  · intro h
    have e3 : 2 * (V * q + r) + d = (2 * r + d - V) + V * (2 * q + 1) := by rw [e2, Nat.mul_add V (2 * q) 1]; omega
    rw [e3, Nat.add_mul_mod_self_left, Nat.mod_eq_of_lt (by omega), Nat.add_mul_div_left _ _ hV, Nat.div_eq_of_lt (by omega)]
    exact ⟨rfl, by omega⟩
  · intro h
    rw [e2, Nat.add_comm (V * (2 * q)), Nat.add_mul_mod_self_left, Nat.mod_eq_of_lt (by omega), Nat.add_mul_div_left _ _ hV, Nat.div_eq_of_lt (by omega)]
    exact ⟨rfl, by omega⟩
theorem dv_half (D b : Nat) : D / 2 ^ b = 2 * (D / 2 ^ (b + 1)) + D / 2 ^ b % 2 := by
  rw [Nat.pow_succ, ← Nat.div_div_eq_div_mul]
  omega
/-- a bit of the quotient is set -/
theorem wv_orbit {f : Nat → Int32} {b n : Nat} (hb : b < 32 * n) (h0 : wv f n / 2 ^ b % 2 = 0) : wv (upd f (b / 32) (f (b / 32) ||| (nI 1 <<< (nI (b % 32) &&& 31)))) n = wv f n + 2 ^ b := by
  have p : (1 : Nat) * 2 ^ (b % 32) < 4294967296 := by
    rw [Nat.one_mul]
    exact Nat.lt_of_lt_of_le (Nat.pow_lt_pow_right (by decide) (Nat.mod_lt b (show 0 < 32 by decide))) (by decide)
  have h1 := wv_upd (f := f) (k := b / 32) (x := f (b / 32) ||| (nI 1 <<< (nI (b % 32) &&& 31))) (n := n) (by omega)
  rw [k_shlN (Nat.mod_lt _ (by decide)) p] at h1 ⊢
  rw [Nat.one_mul] at h1 p ⊢
  rw [uw_or, uw_nI' p] at h1
  have h2 := wv_bit (f := f) (n := n) hb
  rw [h0] at h2
  have h3 : uw (f (b / 32)) ||| 2 ^ (b % 32) = uw (f (b / 32)) + 2 ^ (b % 32) := by
    generalize uw (f (b / 32)) = a at h2
    generalize b % 32 = s at h2
    have p1 : 2 ^ (s + 1) = 2 ^ s * 2 := Nat.pow_succ 2 s
    have d1 : a = 2 ^ (s + 1) * (a / 2 ^ s / 2) + a % 2 ^ s := by
      have e1 := Nat.div_add_mod a (2 ^ s)
      have e2 := Nat.div_add_mod (a / 2 ^ s) 2
      rw [h2, Nat.add_zero] at e2
      rw [p1, Nat.mul_assoc, e2]
      exact e1.symm
    have l1 : a % 2 ^ s < 2 ^ s := Nat.mod_lt _ (Nat.two_pow_pos s)
    have l2 : 2 ^ s * 1 + a % 2 ^ s < 2 ^ (s + 1) := by rw [p1]; omega
    have l3 : a % 2 ^ s < 2 ^ (s + 1) := by rw [p1]; omega
    have o1 := Nat.two_pow_add_eq_or_of_lt l1 1
    have o2 := Nat.two_pow_add_eq_or_of_lt l2 (a / 2 ^ s / 2)
    have o3 := Nat.two_pow_add_eq_or_of_lt l3 (a / 2 ^ s / 2)
    have o4 : a = 2 ^ (s + 1) * (a / 2 ^ s / 2) ||| a % 2 ^ s := by rw [← o3]; exact d1
    generalize a / 2 ^ s / 2 = Hh at *
    generalize a % 2 ^ s = Ll at *
    rw [Nat.mul_one] at o1 o2 l2
    rw [o4, Nat.or_assoc, Nat.or_comm Ll, ← o1, ← o2, ← o3]
    omega
  rw [h3, Nat.add_mul] at h1
  have e : 2 ^ (b % 32) * kK ^ (b / 32) = 2 ^ b := by
    rw [show kK = 2 ^ 32 by decide, ← Nat.pow_mul, ← Nat.pow_add]
    congr 1
    omega
  omega
/-- the quotient's bit and the rest, one turn -/
theorem dv_q {D V b qv : Nat} (hq : qv = D / 2 ^ (b + 1) / V * 2 ^ (b + 1)) : qv / 2 ^ b % 2 = 0 := by
  rw [hq, Nat.pow_succ, Nat.mul_comm (2 ^ b) 2, ← Nat.mul_assoc, Nat.mul_div_cancel _ (Nat.two_pow_pos b), Nat.mul_mod_left]
theorem dv_q1 {D V b qv : Nat} (hq : qv = D / 2 ^ (b + 1) / V * 2 ^ (b + 1)) (h : D / 2 ^ b / V = 2 * (D / 2 ^ (b + 1) / V) + 1) : qv + 2 ^ b = D / 2 ^ b / V * 2 ^ b := by
  generalize D / 2 ^ (b + 1) / V = Z at *
  rw [hq, h, Nat.pow_succ, Nat.add_mul, Nat.one_mul, Nat.mul_comm (2 ^ b) 2, ← Nat.mul_assoc, Nat.mul_comm Z 2]
theorem dv_q0 {D V b qv : Nat} (hq : qv = D / 2 ^ (b + 1) / V * 2 ^ (b + 1)) (h : D / 2 ^ b / V = 2 * (D / 2 ^ (b + 1) / V)) : qv = D / 2 ^ b / V * 2 ^ b := by
  generalize D / 2 ^ (b + 1) / V = Z at *
  rw [hq, h, Nat.pow_succ, Nat.mul_comm (2 ^ b) 2, ← Nat.mul_assoc, Nat.mul_comm Z 2]
/-- the rest, made less -/
theorem dv_r {r V d rr u : Nat} (hd : d < 2) (hr : r < V) (hV : V < mM) (hrr : rr = (2 * r + d) % mM) (hu : u = (rr + (mM - V)) % mM) (hge : V ≤ 2 * r + d) : u = 2 * r + d - V := by
  by_cases h : 2 * r + d < mM
  · rw [Nat.mod_eq_of_lt h] at hrr
    rw [hu, hrr, show 2 * r + d + (mM - V) = (2 * r + d - V) + mM by omega, Nat.add_mod_right, Nat.mod_eq_of_lt (by omega)]
  · have e : (2 * r + d) % mM = 2 * r + d - mM := by
      rw [Nat.mod_eq_sub_mod (by omega), Nat.mod_eq_of_lt (by omega)]
    rw [hu, hrr, e, show 2 * r + d - mM + (mM - V) = 2 * r + d - V by omega, Nat.mod_eq_of_lt (by omega)]
theorem m_isneg_dbl {r d : Nat} (hd : d < 2) : m_isneg r = true ↔ mM ≤ 2 * r + d := by
  unfold m_isneg
  rw [decide_eq_true_iff, show mM = 2 * 2 ^ 255 by decide]
  omega
theorem m_ord_neg {a b : Nat} : m_ord a b < 0 ↔ a < b := by
  by_cases h : a < b
  · rw [m_ord_lt h]; exact ⟨fun _ => h, fun _ => by decide⟩
  · by_cases e : a = b
    · rw [m_ord_eq e]; exact ⟨fun q => absurd q (by decide), fun q => absurd q h⟩
    · rw [m_ord_gt (by omega)]; exact ⟨fun q => absurd q (by decide), fun q => absurd q h⟩

abbrev y_Di_usedParts : MethodName := ⟨"WideStack$Divider", "usedParts", "()I"⟩
theorem d_Di_usedParts_0 : decode prog_4_method_5_code 0 = .ok (.bipush 16, 2) := by decide +kernel
theorem d_Di_usedParts_2 : decode prog_4_method_5_code 2 = .ok (.istore_n 1, 1) := by decide +kernel
theorem d_Di_usedParts_3 : decode prog_4_method_5_code 3 = .ok (.iload_n 1, 1) := by decide +kernel
theorem d_Di_usedParts_4 : decode prog_4_method_5_code 4 = .ok (.ifCond .le 20, 3) := by decide +kernel
theorem d_Di_usedParts_7 : decode prog_4_method_5_code 7 = .ok (.aload_n 0, 1) := by decide +kernel
theorem d_Di_usedParts_8 : decode prog_4_method_5_code 8 = .ok (.getfield 11, 3) := by decide +kernel
theorem d_Di_usedParts_11 : decode prog_4_method_5_code 11 = .ok (.iload_n 1, 1) := by decide +kernel
theorem d_Di_usedParts_12 : decode prog_4_method_5_code 12 = .ok (.iconst 1, 1) := by decide +kernel
theorem d_Di_usedParts_13 : decode prog_4_method_5_code 13 = .ok (.isub, 1) := by decide +kernel
theorem d_Di_usedParts_14 : decode prog_4_method_5_code 14 = .ok (.iaload, 1) := by decide +kernel
theorem d_Di_usedParts_15 : decode prog_4_method_5_code 15 = .ok (.ifCond .ne 9, 3) := by decide +kernel
theorem d_Di_usedParts_18 : decode prog_4_method_5_code 18 = .ok (.iinc 1 (-1), 3) := by decide +kernel
theorem d_Di_usedParts_21 : decode prog_4_method_5_code 21 = .ok (.goto (-18), 3) := by decide +kernel
theorem d_Di_usedParts_24 : decode prog_4_method_5_code 24 = .ok (.iload_n 1, 1) := by decide +kernel
theorem d_Di_usedParts_25 : decode prog_4_method_5_code 25 = .ok (.ireturn, 1) := by decide +kernel
def rm_c_D_usedParts : Room := { frames := 0, cells := 0, slots := 0, locals := 0 }
set_option maxHeartbeats 4000000 in
set_option maxRecDepth 100000 in
theorem c_D_usedParts (l : Launch) (E : kE) (d dd dq dr : Nat) (fD : Nat → Int32) : Kp l y_Di_usedParts (kW y_Di_usedParts prog_4_method_5_code 2 (some .int)) rm_c_D_usedParts E [.ref d] [(d, .inr (3, [.ref dd, .ref dq, .ref dr])), (dd, .inl (E.2.1 0, 16, .inl fD))] (fun r => ∃ k, k ≤ 16 ∧ r = nI k ∧ ∀ j, k ≤ j → j < 16 → fD j = 0) := by
  refine Kp.ofI (cc := prog_4_method_5_code) (maxL := 2) (by decide) (Nat.le_of_ble_eq_true rfl) ?_
  intro p e s m args below meth c A ls Q hx hb hts hown hml hK hG hA hP hD hS hl hret
  have hl : lv_has ls 2 [(0, .ref d)] := hl
  refine lv_bipush (v := nI 16) hx hb d_Di_usedParts_0 (by decide) ?_
  refine lv_istore_n (lv' := [(1, .int (nI 16)), (0, .ref d)]) hx hb d_Di_usedParts_2 rfl hl (by decide) rfl (fun ls hl => ?_)
  have key3 : ∀ (n : Nat) (k : Nat) (ls : Array Slot), k = n → (k ≤ 16 ∧ ∀ j, k ≤ j → j < 16 → fD j = 0) → lv_has ls 2 [(1, .int (nI k)), (0, .ref d)] → W p l e rm_c_D_usedParts s m args below meth c s.heap [] 0 0 Q (F0 m 3 ls []) := by
    intro n
    induction n using Nat.strongRecOn with
    | ind n ih =>
      intro k ls hn hI hl
      refine lv_iload_n hx hb d_Di_usedParts_3 rfl (lv_at hl 0 rfl) ?_
      refine kn_ifle (tgt := 24) hx hb (by omega) d_Di_usedParts_4 (by decide) (fun h4 => ?_) (fun h4 => ?_)
      · refine lv_iload_n hx hb d_Di_usedParts_24 rfl (lv_at hl 0 rfl) ?_
        exact hret _ ls _ d_Di_usedParts_25 ⟨k, hI.1, rfl, hI.2⟩
      · refine lv_aload_n hx hb d_Di_usedParts_7 rfl (lv_at hl 1 rfl) ?_
        refine va_get (D := E.1) (ci := 3) (v := .ref dd) (C := "WideStack$Divider") (T := T_Di) (N := 3) hx hb hts in_Di hown hK hP 0 rfl rfl 0 (by decide) (hts _ t_160) (fun _ h9 => h9) rfl d_Di_usedParts_8 ?_
        refine lv_iload_n hx hb d_Di_usedParts_11 rfl (lv_at hl 0 rfl) ?_
        refine lv_iconst (v := nI 1) hx hb d_Di_usedParts_12 (by decide) ?_
        refine lv_isub hx hb d_Di_usedParts_13 ?_
        refine k_top (pk_sub (by omega)) ?_
        refine k_iald hx hb hK hP 1 rfl (i := (k - 1)) (by omega) (by omega) d_Di_usedParts_14 ?_
        refine lv_if_ne (tgt := 24) hx hb d_Di_usedParts_15 (by decide) (fun h15 => ?_) (fun h15 => ?_)
        · refine lv_iload_n hx hb d_Di_usedParts_24 rfl (lv_at hl 0 rfl) ?_
          exact hret _ ls _ d_Di_usedParts_25 ⟨k, hI.1, rfl, hI.2⟩
        · refine lv_iinc (k := 0) (v := nI (k - 1)) (lv' := [(1, .int (nI (k - 1))), (0, .ref d)]) hx hb d_Di_usedParts_18 hl rfl (k_decp h4) (by decide) rfl (fun ls hl => ?_)
          refine lv_goto (tgt := 3) hx hb d_Di_usedParts_21 (by decide) ?_
          exact ih (k - 1) (by omega) (k - 1) ls rfl ⟨by omega, fun j h1 h2 => if q : j = k - 1 then by subst q; assumption else hI.2 j (by omega) h2⟩ (lv_sub hl [0, 1] rfl)
  exact key3 16 16 ls rfl ⟨Nat.le_refl 16, fun j h1 h2 => by omega⟩ (lv_sub hl [0, 1] rfl)

abbrev y_Di_appendToRest : MethodName := ⟨"WideStack$Divider", "appendToRest", "(I)V"⟩
theorem d_Di_appendToRest_0 : decode prog_4_method_6_code 0 = .ok (.bipush 7, 2) := by decide +kernel
theorem d_Di_appendToRest_2 : decode prog_4_method_6_code 2 = .ok (.istore_n 2, 1) := by decide +kernel
theorem d_Di_appendToRest_3 : decode prog_4_method_6_code 3 = .ok (.iload_n 2, 1) := by decide +kernel
theorem d_Di_appendToRest_4 : decode prog_4_method_6_code 4 = .ok (.ifCond .le 35, 3) := by decide +kernel
theorem d_Di_appendToRest_7 : decode prog_4_method_6_code 7 = .ok (.aload_n 0, 1) := by decide +kernel
theorem d_Di_appendToRest_8 : decode prog_4_method_6_code 8 = .ok (.getfield 18, 3) := by decide +kernel
theorem d_Di_appendToRest_11 : decode prog_4_method_6_code 11 = .ok (.iload_n 2, 1) := by decide +kernel
theorem d_Di_appendToRest_12 : decode prog_4_method_6_code 12 = .ok (.aload_n 0, 1) := by decide +kernel
theorem d_Di_appendToRest_13 : decode prog_4_method_6_code 13 = .ok (.getfield 18, 3) := by decide +kernel
theorem d_Di_appendToRest_16 : decode prog_4_method_6_code 16 = .ok (.iload_n 2, 1) := by decide +kernel
theorem d_Di_appendToRest_17 : decode prog_4_method_6_code 17 = .ok (.iaload, 1) := by decide +kernel
theorem d_Di_appendToRest_18 : decode prog_4_method_6_code 18 = .ok (.iconst 1, 1) := by decide +kernel
theorem d_Di_appendToRest_19 : decode prog_4_method_6_code 19 = .ok (.ishl, 1) := by decide +kernel
theorem d_Di_appendToRest_20 : decode prog_4_method_6_code 20 = .ok (.aload_n 0, 1) := by decide +kernel
theorem d_Di_appendToRest_21 : decode prog_4_method_6_code 21 = .ok (.getfield 18, 3) := by decide +kernel
theorem d_Di_appendToRest_24 : decode prog_4_method_6_code 24 = .ok (.iload_n 2, 1) := by decide +kernel
theorem d_Di_appendToRest_25 : decode prog_4_method_6_code 25 = .ok (.iconst 1, 1) := by decide +kernel
theorem d_Di_appendToRest_26 : decode prog_4_method_6_code 26 = .ok (.isub, 1) := by decide +kernel
theorem d_Di_appendToRest_27 : decode prog_4_method_6_code 27 = .ok (.iaload, 1) := by decide +kernel
theorem d_Di_appendToRest_28 : decode prog_4_method_6_code 28 = .ok (.bipush 31, 2) := by decide +kernel
theorem d_Di_appendToRest_30 : decode prog_4_method_6_code 30 = .ok (.iushr, 1) := by decide +kernel
theorem d_Di_appendToRest_31 : decode prog_4_method_6_code 31 = .ok (.ior, 1) := by decide +kernel
theorem d_Di_appendToRest_32 : decode prog_4_method_6_code 32 = .ok (.iastore, 1) := by decide +kernel
theorem d_Di_appendToRest_33 : decode prog_4_method_6_code 33 = .ok (.iinc 2 (-1), 3) := by decide +kernel
theorem d_Di_appendToRest_36 : decode prog_4_method_6_code 36 = .ok (.goto (-33), 3) := by decide +kernel
theorem d_Di_appendToRest_39 : decode prog_4_method_6_code 39 = .ok (.aload_n 0, 1) := by decide +kernel
theorem d_Di_appendToRest_40 : decode prog_4_method_6_code 40 = .ok (.getfield 18, 3) := by decide +kernel
theorem d_Di_appendToRest_43 : decode prog_4_method_6_code 43 = .ok (.iconst 0, 1) := by decide +kernel
theorem d_Di_appendToRest_44 : decode prog_4_method_6_code 44 = .ok (.aload_n 0, 1) := by decide +kernel
theorem d_Di_appendToRest_45 : decode prog_4_method_6_code 45 = .ok (.getfield 18, 3) := by decide +kernel
theorem d_Di_appendToRest_48 : decode prog_4_method_6_code 48 = .ok (.iconst 0, 1) := by decide +kernel
theorem d_Di_appendToRest_49 : decode prog_4_method_6_code 49 = .ok (.iaload, 1) := by decide +kernel
theorem d_Di_appendToRest_50 : decode prog_4_method_6_code 50 = .ok (.iconst 1, 1) := by decide +kernel
theorem d_Di_appendToRest_51 : decode prog_4_method_6_code 51 = .ok (.ishl, 1) := by decide +kernel
theorem d_Di_appendToRest_52 : decode prog_4_method_6_code 52 = .ok (.iload_n 1, 1) := by decide +kernel
theorem d_Di_appendToRest_53 : decode prog_4_method_6_code 53 = .ok (.ior, 1) := by decide +kernel
theorem d_Di_appendToRest_54 : decode prog_4_method_6_code 54 = .ok (.iastore, 1) := by decide +kernel
theorem d_Di_appendToRest_55 : decode prog_4_method_6_code 55 = .ok (.return_, 1) := by decide +kernel
def rm_c_D_appendToRest : Room := { frames := 0, cells := 0, slots := 0, locals := 0 }
set_option maxHeartbeats 4000000 in
set_option maxRecDepth 100000 in
theorem c_D_appendToRest (l : Launch) (E : kE) (d dd dq dr bt : Nat) (fr : Nat → Int32) (hbt : bt < 2) : Kv l y_Di_appendToRest (kW y_Di_appendToRest prog_4_method_6_code 3 (none)) rm_c_D_appendToRest E [.ref d, .int (nI bt)] [(d, .inr (3, [.ref dd, .ref dq, .ref dr])), (dr, .inl (E.2.1 0, 8, .inl fr))] (S := Nat → Int32) (fun u => wv u 8 = (2 * wv fr 8 + bt) % mM) (fun u => [(d, .inr (3, [.ref dd, .ref dq, .ref dr])), (dr, .inl (E.2.1 0, 8, .inl u))]) := by
  refine Kv.ofW (cc := prog_4_method_6_code) (maxL := 3) (by decide) (Nat.le_of_ble_eq_true rfl) ?_
  intro p e s m args below meth c A ls Q hx hb hts hown hml hK hG hA hP hD hS hl hret
  have hl : lv_has ls 3 [(0, .ref d), (1, .int (nI bt))] := hl
  refine lv_bipush (v := nI 7) hx hb d_Di_appendToRest_0 (by decide) ?_
  refine lv_istore_n (lv' := [(2, .int (nI 7)), (0, .ref d), (1, .int (nI bt))]) hx hb d_Di_appendToRest_2 rfl hl (by decide) rfl (fun ls hl => ?_)
  have key3 : ∀ (n : Nat) (k : Nat) (z : Nat → Int32) (H : Heap) (locs : List Loc) (ls : Array Slot), k = n → (k < 8 ∧ (∀ j, k < j → j < 8 → uw (z j) = 2 * uw (fr j) % 4294967296 + uw (fr (j - 1)) / 2147483648) ∧ ∀ j, j ≤ k → z j = fr j) → lv_has ls 3 [(2, .int (nI k)), (0, .ref d), (1, .int (nI bt))] → va_P E.1 vwCl [(d, .inr (3, [.ref dd, .ref dq, .ref dr])), (dr, .inl (E.2.1 0, 8, .inl z))] H → va_D A [(d, .inr (3, [.ref dd, .ref dq, .ref dr])), (dr, .inl (E.2.1 0, 8, .inl z))] → va_S A s.heap H locs → W p l e rm_c_D_appendToRest s m args below meth c H locs 0 0 Q (F0 m 3 ls []) := by
    intro n
    induction n using Nat.strongRecOn with
    | ind n ih =>
      intro k z H locs ls hn hI hl hP hD hS
      refine lv_iload_n hx hb d_Di_appendToRest_3 rfl (lv_at hl 0 rfl) ?_
      refine kn_ifle (tgt := 39) hx hb (by omega) d_Di_appendToRest_4 (by decide) (fun h4 => ?_) (fun h4 => ?_)
      · refine lv_aload_n hx hb d_Di_appendToRest_39 rfl (lv_at hl 1 rfl) ?_
        refine va_get (D := E.1) (ci := 3) (v := .ref dr) (C := "WideStack$Divider") (T := T_Di) (N := 3) hx hb hts in_Di hown hK hP 0 rfl rfl 2 (by decide) (hts _ t_164) (fun _ h9 => h9) rfl d_Di_appendToRest_40 ?_
        refine lv_iconst (v := nI 0) hx hb d_Di_appendToRest_43 (by decide) ?_
        refine lv_aload_n hx hb d_Di_appendToRest_44 rfl (lv_at hl 1 rfl) ?_
        refine va_get (D := E.1) (ci := 3) (v := .ref dr) (C := "WideStack$Divider") (T := T_Di) (N := 3) hx hb hts in_Di hown hK hP 0 rfl rfl 2 (by decide) (hts _ t_164) (fun _ h9 => h9) rfl d_Di_appendToRest_45 ?_
        refine lv_iconst (v := nI 0) hx hb d_Di_appendToRest_48 (by decide) ?_
        refine k_iald hx hb hK hP 1 rfl (i := 0) (by omega) (by omega) d_Di_appendToRest_49 ?_
        refine k_top (hI.2.2 0 (Nat.zero_le _)) ?_
        refine lv_iconst (v := nI 1) hx hb d_Di_appendToRest_50 (by decide) ?_
        refine lv_ishl hx hb d_Di_appendToRest_51 ?_
        refine lv_iload_n hx hb d_Di_appendToRest_52 rfl (lv_at hl 2 rfl) ?_
        refine lv_ior hx hb d_Di_appendToRest_53 ?_
        refine k_iast hx hb hK hP hD hS 1 rfl (i := 0) (by omega) (by omega) d_Di_appendToRest_54 (fun H locs hP hD hS => ?_)
        have hP : va_P E.1 vwCl [(d, .inr (3, [.ref dd, .ref dq, .ref dr])), (dr, .inl (E.2.1 0, 8, .inl (upd z 0 (((fr 0) <<< ((nI 1) &&& 31)) ||| (nI bt)))))] H := hP
        have hD : va_D A [(d, .inr (3, [.ref dd, .ref dq, .ref dr])), (dr, .inl (E.2.1 0, 8, .inl (upd z 0 (((fr 0) <<< ((nI 1) &&& 31)) ||| (nI bt)))))] := hD
        exact hret _ ls _ _ _ d_Di_appendToRest_55 (ap_fin (f := fr) hbt (by rw [pk_us]; exact uw_dbl_or hbt) (fun j h1 h2 => by rw [pk_un (by omega)]; exact hI.2.1 j (by omega) h2)) hP hS
      · refine lv_aload_n hx hb d_Di_appendToRest_7 rfl (lv_at hl 1 rfl) ?_
        refine va_get (D := E.1) (ci := 3) (v := .ref dr) (C := "WideStack$Divider") (T := T_Di) (N := 3) hx hb hts in_Di hown hK hP 0 rfl rfl 2 (by decide) (hts _ t_164) (fun _ h9 => h9) rfl d_Di_appendToRest_8 ?_
        refine lv_iload_n hx hb d_Di_appendToRest_11 rfl (lv_at hl 0 rfl) ?_
        refine lv_aload_n hx hb d_Di_appendToRest_12 rfl (lv_at hl 1 rfl) ?_
        refine va_get (D := E.1) (ci := 3) (v := .ref dr) (C := "WideStack$Divider") (T := T_Di) (N := 3) hx hb hts in_Di hown hK hP 0 rfl rfl 2 (by decide) (hts _ t_164) (fun _ h9 => h9) rfl d_Di_appendToRest_13 ?_
        refine lv_iload_n hx hb d_Di_appendToRest_16 rfl (lv_at hl 0 rfl) ?_
        refine k_iald hx hb hK hP 1 rfl (i := k) (by omega) (by omega) d_Di_appendToRest_17 ?_
        refine k_top (hI.2.2 k (Nat.le_refl k)) ?_
        refine lv_iconst (v := nI 1) hx hb d_Di_appendToRest_18 (by decide) ?_
        refine lv_ishl hx hb d_Di_appendToRest_19 ?_
        refine lv_aload_n hx hb d_Di_appendToRest_20 rfl (lv_at hl 1 rfl) ?_
        refine va_get (D := E.1) (ci := 3) (v := .ref dr) (C := "WideStack$Divider") (T := T_Di) (N := 3) hx hb hts in_Di hown hK hP 0 rfl rfl 2 (by decide) (hts _ t_164) (fun _ h9 => h9) rfl d_Di_appendToRest_21 ?_
        refine lv_iload_n hx hb d_Di_appendToRest_24 rfl (lv_at hl 0 rfl) ?_
        refine lv_iconst (v := nI 1) hx hb d_Di_appendToRest_25 (by decide) ?_
        refine lv_isub hx hb d_Di_appendToRest_26 ?_
        refine k_top (pk_sub (by omega)) ?_
        refine k_iald hx hb hK hP 1 rfl (i := (k - 1)) (by omega) (by omega) d_Di_appendToRest_27 ?_
        refine k_top (hI.2.2 (k - 1) (by omega)) ?_
        refine lv_bipush (v := nI 31) hx hb d_Di_appendToRest_28 (by decide) ?_
        refine lv_iushr (v := ((fr (k - 1)).toUInt32 >>> ((nI 31).toUInt32 &&& Int32.toUInt32 31)).toInt32) hx hb d_Di_appendToRest_30 rfl ?_
        refine k_top (k_ushr (by decide)) ?_
        refine k_top (y := nI (uw (fr (k - 1)) / 2147483648)) rfl ?_
        refine lv_ior hx hb d_Di_appendToRest_31 ?_
        refine k_iast hx hb hK hP hD hS 1 rfl (i := k) (by omega) (by omega) d_Di_appendToRest_32 (fun H locs hP hD hS => ?_)
        have hP : va_P E.1 vwCl [(d, .inr (3, [.ref dd, .ref dq, .ref dr])), (dr, .inl (E.2.1 0, 8, .inl (upd z k (((fr k) <<< ((nI 1) &&& 31)) ||| (nI (uw (fr (k - 1)) / 2147483648))))))] H := hP
        have hD : va_D A [(d, .inr (3, [.ref dd, .ref dq, .ref dr])), (dr, .inl (E.2.1 0, 8, .inl (upd z k (((fr k) <<< ((nI 1) &&& 31)) ||| (nI (uw (fr (k - 1)) / 2147483648))))))] := hD
        refine lv_iinc (k := 0) (v := nI (k - 1)) (lv' := [(2, .int (nI (k - 1))), (0, .ref d), (1, .int (nI bt))]) hx hb d_Di_appendToRest_33 hl rfl (k_decp h4) (by decide) rfl (fun ls hl => ?_)
        refine lv_goto (tgt := 3) hx hb d_Di_appendToRest_36 (by decide) ?_
        exact ih (k - 1) (by omega) (k - 1) (upd z k ((fr k <<< (nI 1 &&& 31)) ||| nI (uw (fr (k - 1)) / 2147483648))) _ _ ls rfl ⟨by omega, fun j h1 h2 => if q : j = k then by subst q; rw [pk_us]; exact uw_dbl_or (by have := uw_lt' (fr (j - 1)); omega) else by rw [pk_un q]; exact hI.2.1 j (by omega) h2, fun j hj => (pk_un (by omega)).trans (hI.2.2 j (by omega))⟩ (lv_sub hl [0, 1, 2] rfl) hP hD hS
  exact key3 7 7 fr _ _ ls rfl ⟨by decide, fun j h1 h2 => by omega, fun _ _ => rfl⟩ (lv_sub hl [0, 1, 2] rfl) hP hD hS

theorem wv_low8 {f u : Nat → Int32} (h1 : ∀ j, j < 8 → u j = f j) (h2 : ∀ j, 8 ≤ j → j < 16 → u j = 0) : wv u 16 = wv f 8 := by
  have h3 : wv u 16 = wv u 8 + wv (fun j => u (8 + j)) 8 * kK ^ 8 := bv_add (B := kK) (n := 8) (k := 8) (f := fun j => uw (u j))
  rw [h3, wv_is0.mpr (fun j hj => h2 (8 + j) (by omega) (by omega)), Nat.zero_mul, Nat.add_zero]
  exact wv_congr h1
theorem wv_low9 {u : Nat → Int32} (h2 : ∀ j, 9 ≤ j → j < 16 → u j = 0) : wv u 16 = wv u 8 + uw (u 8) * kK ^ 8 := by
  have h3 : wv u 16 = wv u 9 + wv (fun j => u (9 + j)) 7 * kK ^ 9 := bv_add (B := kK) (n := 9) (k := 7) (f := fun j => uw (u j))
  rw [h3, wv_is0.mpr (fun j hj => h2 (9 + j) (by omega) (by omega)), Nat.zero_mul, Nat.add_zero]
  exact wv_s u 8

abbrev y_Di_setDividend : MethodName := ⟨"WideStack$Divider", "setDividend", "([I)V"⟩
theorem d_Di_setDividend_0 : decode prog_4_method_2_code 0 = .ok (.aload_n 0, 1) := by decide +kernel
theorem d_Di_setDividend_1 : decode prog_4_method_2_code 1 = .ok (.getfield 11, 3) := by decide +kernel
theorem d_Di_setDividend_4 : decode prog_4_method_2_code 4 = .ok (.iconst 0, 1) := by decide +kernel
theorem d_Di_setDividend_5 : decode prog_4_method_2_code 5 = .ok (.invokestatic 21, 3) := by decide +kernel
theorem d_Di_setDividend_8 : decode prog_4_method_2_code 8 = .ok (.aload_n 1, 1) := by decide +kernel
theorem d_Di_setDividend_9 : decode prog_4_method_2_code 9 = .ok (.aload_n 0, 1) := by decide +kernel
theorem d_Di_setDividend_10 : decode prog_4_method_2_code 10 = .ok (.getfield 11, 3) := by decide +kernel
theorem d_Di_setDividend_13 : decode prog_4_method_2_code 13 = .ok (.invokestatic 27, 3) := by decide +kernel
theorem d_Di_setDividend_16 : decode prog_4_method_2_code 16 = .ok (.return_, 1) := by decide +kernel
def rm_c_D_setDividend : Room := { frames := 2, cells := 0, slots := 0, locals := 61 }
set_option maxHeartbeats 4000000 in
set_option maxRecDepth 100000 in
theorem c_D_setDividend (l : Launch) (E : kE) (d dd dq dr a : Nat) (fD f : Nat → Int32) : Kv l y_Di_setDividend (kW y_Di_setDividend prog_4_method_2_code 2 (none)) rm_c_D_setDividend E [.ref d, .ref a] [(d, .inr (3, [.ref dd, .ref dq, .ref dr])), (dd, .inl (E.2.1 0, 16, .inl fD)), (a, .inl (E.2.1 0, 8, .inl f))] (S := Nat → Int32) (fun u => wv u 16 = wv f 8) (fun u => [(d, .inr (3, [.ref dd, .ref dq, .ref dr])), (dd, .inl (E.2.1 0, 16, .inl u)), (a, .inl (E.2.1 0, 8, .inl f))]) := by
  refine Kv.ofW (cc := prog_4_method_2_code) (maxL := 2) (by decide) (Nat.le_of_ble_eq_true rfl) ?_
  intro p e s m args below meth c A ls Q hx hb hts hown hml hK hG hA hP hD hS hl hret
  have hl : lv_has ls 2 [(0, .ref d), (1, .ref a)] := hl
  refine lv_aload_n hx hb d_Di_setDividend_0 rfl (lv_at hl 0 rfl) ?_
  refine va_get (D := E.1) (ci := 3) (v := .ref dd) (C := "WideStack$Divider") (T := T_Di) (N := 3) hx hb hts in_Di hown hK hP 0 rfl rfl 0 (by decide) (hts _ t_160) (fun _ h9 => h9) rfl d_Di_setDividend_1 ?_
  refine lv_iconst (v := nI 0) hx hb d_Di_setDividend_4 (by decide) ?_
  refine k_Sv (As := [.ref dd, .int (nI 0)]) (rest := []) ⟨hx, hb, hml, hown, hts⟩ (c_fill l E dd 16 fD (nI 0) (by decide)) (k_cwS 2 hts t_535 t_233 t_70 t_234 (by decide +kernel) ⟨Nat.le_of_ble_eq_true rfl, Nat.le_of_ble_eq_true rfl⟩) hK hG hA hP hD hS [1] rfl (by decide) (fun _ => rfl) rfl hl.1 rfl (Nat.le_of_ble_eq_true rfl) d_Di_setDividend_5 ⟨Nat.zero_le _, Nat.zero_le _⟩ (fun u0 H locs hu0 hP hD hS => ?_)
  have hP : va_P E.1 vwCl [(d, .inr (3, [.ref dd, .ref dq, .ref dr])), (dd, .inl (E.2.1 0, 16, .inl u0)), (a, .inl (E.2.1 0, 8, .inl f))] H := hP
  have hD : va_D A [(d, .inr (3, [.ref dd, .ref dq, .ref dr])), (dd, .inl (E.2.1 0, 16, .inl u0)), (a, .inl (E.2.1 0, 8, .inl f))] := hD
  refine lv_aload_n hx hb d_Di_setDividend_8 rfl (lv_at hl 1 rfl) ?_
  refine lv_aload_n hx hb d_Di_setDividend_9 rfl (lv_at hl 0 rfl) ?_
  refine va_get (D := E.1) (ci := 3) (v := .ref dd) (C := "WideStack$Divider") (T := T_Di) (N := 3) hx hb hts in_Di hown hK hP 0 rfl rfl 0 (by decide) (hts _ t_160) (fun _ h9 => h9) rfl d_Di_setDividend_10 ?_
  refine k_Sv (As := [.ref a, .ref dd]) (rest := []) ⟨hx, hb, hml, hown, hts⟩ (c_W_copy l E a dd 8 16 f u0 (by decide) (by decide)) (k_cwS 2 hts t_536 t_314 t_73 t_315 (by decide +kernel) ⟨Nat.le_of_ble_eq_true rfl, Nat.le_of_ble_eq_true rfl⟩) hK hG hA hP hD hS [2, 1] rfl (by decide) (fun _ => rfl) rfl hl.1 rfl (Nat.le_of_ble_eq_true rfl) d_Di_setDividend_13 ⟨Nat.zero_le _, Nat.zero_le _⟩ (fun u H locs hu hP hD hS => ?_)
  have hP : va_P E.1 vwCl [(d, .inr (3, [.ref dd, .ref dq, .ref dr])), (dd, .inl (E.2.1 0, 16, .inl u)), (a, .inl (E.2.1 0, 8, .inl f))] H := hP
  have hD : va_D A [(d, .inr (3, [.ref dd, .ref dq, .ref dr])), (dd, .inl (E.2.1 0, 16, .inl u)), (a, .inl (E.2.1 0, 8, .inl f))] := hD
  exact hret _ ls _ _ u d_Di_setDividend_16 (wv_low8 (fun j hj => (hu j).trans (if_pos hj)) (fun j h1 h2 => (hu j).trans ((if_neg (by omega)).trans ((hu0 j h2).trans nI_0)))) hP hS

abbrev y_Di_setDividendToSum : MethodName := ⟨"WideStack$Divider", "setDividendToSum", "([I[I)V"⟩
theorem d_Di_setDividendToSum_0 : decode prog_4_method_3_code 0 = .ok (.aload_n 0, 1) := by decide +kernel
theorem d_Di_setDividendToSum_1 : decode prog_4_method_3_code 1 = .ok (.getfield 11, 3) := by decide +kernel
theorem d_Di_setDividendToSum_4 : decode prog_4_method_3_code 4 = .ok (.iconst 0, 1) := by decide +kernel
theorem d_Di_setDividendToSum_5 : decode prog_4_method_3_code 5 = .ok (.invokestatic 21, 3) := by decide +kernel
theorem d_Di_setDividendToSum_8 : decode prog_4_method_3_code 8 = .ok (.aload_n 0, 1) := by decide +kernel
theorem d_Di_setDividendToSum_9 : decode prog_4_method_3_code 9 = .ok (.getfield 11, 3) := by decide +kernel
theorem d_Di_setDividendToSum_12 : decode prog_4_method_3_code 12 = .ok (.bipush 8, 2) := by decide +kernel
theorem d_Di_setDividendToSum_14 : decode prog_4_method_3_code 14 = .ok (.aload_n 1, 1) := by decide +kernel
theorem d_Di_setDividendToSum_15 : decode prog_4_method_3_code 15 = .ok (.aload_n 2, 1) := by decide +kernel
theorem d_Di_setDividendToSum_16 : decode prog_4_method_3_code 16 = .ok (.aload_n 0, 1) := by decide +kernel
theorem d_Di_setDividendToSum_17 : decode prog_4_method_3_code 17 = .ok (.getfield 11, 3) := by decide +kernel
theorem d_Di_setDividendToSum_20 : decode prog_4_method_3_code 20 = .ok (.invokestatic 31, 3) := by decide +kernel
theorem d_Di_setDividendToSum_23 : decode prog_4_method_3_code 23 = .ok (.iastore, 1) := by decide +kernel
theorem d_Di_setDividendToSum_24 : decode prog_4_method_3_code 24 = .ok (.return_, 1) := by decide +kernel
def rm_c_D_setDividendToSum : Room := { frames := 1, cells := 0, slots := 0, locals := 27 }
set_option maxHeartbeats 4000000 in
set_option maxRecDepth 100000 in
theorem c_D_setDividendToSum (l : Launch) (E : kE) (d dd dq dr a b : Nat) (fD f x : Nat → Int32) : Kv l y_Di_setDividendToSum (kW y_Di_setDividendToSum prog_4_method_3_code 3 (none)) rm_c_D_setDividendToSum E [.ref d, .ref a, .ref b] [(d, .inr (3, [.ref dd, .ref dq, .ref dr])), (dd, .inl (E.2.1 0, 16, .inl fD)), (a, .inl (E.2.1 0, 8, .inl f)), (b, .inl (E.2.1 0, 8, .inl x))] (S := Nat → Int32) (fun u => wv u 16 = wv f 8 + wv x 8) (fun u => [(d, .inr (3, [.ref dd, .ref dq, .ref dr])), (dd, .inl (E.2.1 0, 16, .inl u)), (a, .inl (E.2.1 0, 8, .inl f)), (b, .inl (E.2.1 0, 8, .inl x))]) := by
  refine Kv.ofW (cc := prog_4_method_3_code) (maxL := 3) (by decide) (Nat.le_of_ble_eq_true rfl) ?_
  intro p e s m args below meth c A ls Q hx hb hts hown hml hK hG hA hP hD hS hl hret
  have hl : lv_has ls 3 [(0, .ref d), (1, .ref a), (2, .ref b)] := hl
  refine lv_aload_n hx hb d_Di_setDividendToSum_0 rfl (lv_at hl 0 rfl) ?_
  refine va_get (D := E.1) (ci := 3) (v := .ref dd) (C := "WideStack$Divider") (T := T_Di) (N := 3) hx hb hts in_Di hown hK hP 0 rfl rfl 0 (by decide) (hts _ t_160) (fun _ h9 => h9) rfl d_Di_setDividendToSum_1 ?_
  refine lv_iconst (v := nI 0) hx hb d_Di_setDividendToSum_4 (by decide) ?_
  refine k_Sv (As := [.ref dd, .int (nI 0)]) (rest := []) ⟨hx, hb, hml, hown, hts⟩ (c_fill l E dd 16 fD (nI 0) (by decide)) (k_cwS 2 hts t_535 t_233 t_70 t_234 (by decide +kernel) ⟨Nat.le_of_ble_eq_true rfl, Nat.le_of_ble_eq_true rfl⟩) hK hG hA hP hD hS [1] rfl (by decide) (fun _ => rfl) rfl hl.1 rfl (Nat.le_of_ble_eq_true rfl) d_Di_setDividendToSum_5 ⟨Nat.zero_le _, Nat.zero_le _⟩ (fun u0 H locs hu0 hP hD hS => ?_)
  have hP : va_P E.1 vwCl [(d, .inr (3, [.ref dd, .ref dq, .ref dr])), (dd, .inl (E.2.1 0, 16, .inl u0)), (a, .inl (E.2.1 0, 8, .inl f)), (b, .inl (E.2.1 0, 8, .inl x))] H := hP
  have hD : va_D A [(d, .inr (3, [.ref dd, .ref dq, .ref dr])), (dd, .inl (E.2.1 0, 16, .inl u0)), (a, .inl (E.2.1 0, 8, .inl f)), (b, .inl (E.2.1 0, 8, .inl x))] := hD
  refine lv_aload_n hx hb d_Di_setDividendToSum_8 rfl (lv_at hl 0 rfl) ?_
  refine va_get (D := E.1) (ci := 3) (v := .ref dd) (C := "WideStack$Divider") (T := T_Di) (N := 3) hx hb hts in_Di hown hK hP 0 rfl rfl 0 (by decide) (hts _ t_160) (fun _ h9 => h9) rfl d_Di_setDividendToSum_9 ?_
  refine lv_bipush (v := nI 8) hx hb d_Di_setDividendToSum_12 (by decide) ?_
  refine lv_aload_n hx hb d_Di_setDividendToSum_14 rfl (lv_at hl 1 rfl) ?_
  refine lv_aload_n hx hb d_Di_setDividendToSum_15 rfl (lv_at hl 2 rfl) ?_
  refine lv_aload_n hx hb d_Di_setDividendToSum_16 rfl (lv_at hl 0 rfl) ?_
  refine va_get (D := E.1) (ci := 3) (v := .ref dd) (C := "WideStack$Divider") (T := T_Di) (N := 3) hx hb hts in_Di hown hK hP 0 rfl rfl 0 (by decide) (hts _ t_160) (fun _ h9 => h9) rfl d_Di_setDividendToSum_17 ?_
  refine k_Si (As := [.ref a, .ref b, .ref dd]) (rest := [.int (nI 8), .ref dd]) ⟨hx, hb, hml, hown, hts⟩ (c_W_add l E a b dd 16 f x u0 (by decide) (by decide)) (k_cwS 3 hts t_581 t_513 t_73 t_514 (by decide +kernel) ⟨Nat.le_of_ble_eq_true rfl, Nat.le_of_ble_eq_true rfl⟩) hK hG hA hP hD hS [2, 3, 1] rfl (by decide) (fun _ => rfl) rfl hl.1 rfl (Nat.le_of_ble_eq_true rfl) d_Di_setDividendToSum_20 ⟨Nat.zero_le _, Nat.zero_le _⟩ (fun r u H locs hu hP hD hS => ?_)
  have hP : va_P E.1 vwCl [(d, .inr (3, [.ref dd, .ref dq, .ref dr])), (dd, .inl (E.2.1 0, 16, .inl u)), (a, .inl (E.2.1 0, 8, .inl f)), (b, .inl (E.2.1 0, 8, .inl x))] H := hP
  have hD : va_D A [(d, .inr (3, [.ref dd, .ref dq, .ref dr])), (dd, .inl (E.2.1 0, 16, .inl u)), (a, .inl (E.2.1 0, 8, .inl f)), (b, .inl (E.2.1 0, 8, .inl x))] := hD
  obtain ⟨⟨cy, hc1, rfl, hc2⟩, hc3⟩ := hu
  refine k_iast hx hb hK hP hD hS 1 rfl (i := 8) (by omega) (by omega) d_Di_setDividendToSum_23 (fun H locs hP hD hS => ?_)
  have hP : va_P E.1 vwCl [(d, .inr (3, [.ref dd, .ref dq, .ref dr])), (dd, .inl (E.2.1 0, 16, .inl (upd u 8 (nI cy)))), (a, .inl (E.2.1 0, 8, .inl f)), (b, .inl (E.2.1 0, 8, .inl x))] H := hP
  have hD : va_D A [(d, .inr (3, [.ref dd, .ref dq, .ref dr])), (dd, .inl (E.2.1 0, 16, .inl (upd u 8 (nI cy)))), (a, .inl (E.2.1 0, 8, .inl f)), (b, .inl (E.2.1 0, 8, .inl x))] := hD
  exact hret _ ls _ _ _ d_Di_setDividendToSum_24 (by rw [wv_low9 (fun j h1 h2 => (pk_un (by omega)).trans ((hc3 j (by omega)).trans ((hu0 j h2).trans nI_0))), pk_us, wv_upd_lo, uw_nI' (by omega)]; exact hc2) hP hS

theorem k_m1 (k : Nat) : nI k - nI 1 = m1 k := by
  cases k with
  | zero => decide
  | succ k => exact pk_sub (Nat.succ_le_succ (Nat.zero_le k))
theorem dv_init {fD q0 r0 : Nat → Int32} {up V : Nat} (hup : up ≤ 16) (hu0 : ∀ j, up ≤ j → j < 16 → fD j = 0) (hq0 : ∀ j, j < 16 → q0 j = nI 0) (hr0 : ∀ j, j < 8 → r0 j = nI 0) : wv r0 8 = wv fD 16 / 2 ^ (32 * up) % V ∧ wv q0 16 = wv fD 16 / 2 ^ (32 * up) / V * 2 ^ (32 * up) := by
  have h1 : wv fD 16 / 2 ^ (32 * up) = 0 := by
    have h2 := bv_split (B := kK) (f := fun j => uw (fD j)) (g := fun _ => 0) (k := up) (n := 16) hup (fun j a b => by rw [hu0 j a b, uw_0])
    have h3 : ∀ k, bv kK (fun _ => 0) k = 0 := fun k => bv_zero (fun _ _ => rfl)
    rw [h3, h3, Nat.add_zero, Nat.zero_add] at h2
    have h4 : wv fD 16 = wv fD up := h2
    rw [h4]
    apply Nat.div_eq_of_lt
    have h5 := wv_lt fD up
    rwa [show kK = 2 ^ 32 by decide, ← Nat.pow_mul] at h5
  rw [h1, Nat.zero_mod, Nat.zero_div, Nat.zero_mul]
  exact ⟨wv_is0.mpr (fun j hj => (hr0 j hj).trans nI_0), wv_is0.mpr (fun j hj => (hq0 j hj).trans nI_0)⟩
theorem dv_zero {q0 r0 : Nat → Int32} {D V : Nat} (hV : V = 0) (hq0 : ∀ j, j < 16 → q0 j = nI 0) (hr0 : ∀ j, j < 8 → r0 j = nI 0) : wv q0 16 = D / V ∧ wv r0 8 = m_rem D V := by
  subst hV
  rw [Nat.div_zero]
  exact ⟨wv_is0.mpr (fun j hj => (hq0 j hj).trans nI_0), (wv_is0.mpr (fun j hj => (hr0 j hj).trans nI_0)).trans (if_pos rfl).symm⟩
theorem dv_end {D V Q R : Nat} (hV : 0 < V) (h1 : R = D / 2 ^ 0 % V) (h2 : Q = D / 2 ^ 0 / V * 2 ^ 0) : Q = D / V ∧ R = m_rem D V := by
  rw [Nat.pow_zero, Nat.div_one] at h1 h2
  rw [Nat.mul_one] at h2
  exact ⟨h2, h1.trans (if_neg (by omega)).symm⟩
theorem dv_over1 {r V d : Nat} (hd : d < 2) (hV : V < mM) (h : m_isneg r = true) : V ≤ 2 * r + d := by
  have := (m_isneg_dbl hd).mp h
  omega
theorem dv_nover {r d : Nat} {ra : Nat → Int32} (hd : d < 2) (h : m_isneg r = false) (hra : wv ra 8 = (2 * r + d) % mM) : wv ra 8 = 2 * r + d := by
  rw [hra]
  apply Nat.mod_eq_of_lt
  apply Nat.lt_of_not_le
  intro q
  rw [(m_isneg_dbl hd).mpr q] at h
  cases h
theorem dv_over2 {r V d : Nat} {ra : Nat → Int32} (hd : d < 2) (h : m_isneg r = false) (hra : wv ra 8 = (2 * r + d) % mM) (h78 : ¬ m_ord (wv ra 8) V < 0) : V ≤ 2 * r + d := by
  rw [dv_nover hd h hra] at h78
  exact Nat.le_of_not_lt (fun q => h78 (m_ord_neg.mpr q))
theorem dv_sub {D V b : Nat} {rr ra rs qq : Nat → Int32} (hd : D / 2 ^ b % 2 < 2) (hrl : wv rr 8 < V) (hV : V < mM) (hra : wv ra 8 = (2 * wv rr 8 + D / 2 ^ b % 2) % mM) (hrs : wv rs 8 = (wv ra 8 + (mM - V)) % mM) (hst : (V ≤ 2 * wv rr 8 + D / 2 ^ b % 2 → D / 2 ^ b % V = 2 * wv rr 8 + D / 2 ^ b % 2 - V ∧ D / 2 ^ b / V = 2 * (D / 2 ^ (b + 1) / V) + 1) ∧ (¬ V ≤ 2 * wv rr 8 + D / 2 ^ b % 2 → D / 2 ^ b % V = 2 * wv rr 8 + D / 2 ^ b % 2 ∧ D / 2 ^ b / V = 2 * (D / 2 ^ (b + 1) / V))) (hq : wv qq 16 = D / 2 ^ (b + 1) / V * 2 ^ (b + 1)) (hb : b < 512) (hge : V ≤ 2 * wv rr 8 + D / 2 ^ b % 2) : wv rs 8 = D / 2 ^ b % V ∧ wv (upd qq (b / 32) (qq (b / 32) ||| (nI 1 <<< (nI (b % 32) &&& 31)))) 16 = D / 2 ^ b / V * 2 ^ b := by
  obtain ⟨e1, e2⟩ := hst.1 hge
  refine ⟨(dv_r hd hrl hV hra hrs hge).trans e1.symm, ?_⟩
  rw [wv_orbit (n := 16) hb (dv_q hq)]
  exact dv_q1 hq e2
theorem dv_nosub {D V b : Nat} {rr ra qq : Nat → Int32} (hd : D / 2 ^ b % 2 < 2) (hra : wv ra 8 = (2 * wv rr 8 + D / 2 ^ b % 2) % mM) (hst : (V ≤ 2 * wv rr 8 + D / 2 ^ b % 2 → D / 2 ^ b % V = 2 * wv rr 8 + D / 2 ^ b % 2 - V ∧ D / 2 ^ b / V = 2 * (D / 2 ^ (b + 1) / V) + 1) ∧ (¬ V ≤ 2 * wv rr 8 + D / 2 ^ b % 2 → D / 2 ^ b % V = 2 * wv rr 8 + D / 2 ^ b % 2 ∧ D / 2 ^ b / V = 2 * (D / 2 ^ (b + 1) / V))) (hq : wv qq 16 = D / 2 ^ (b + 1) / V * 2 ^ (b + 1)) (h : m_isneg (wv rr 8) = false) (h78 : m_ord (wv ra 8) V < 0) : wv ra 8 = D / 2 ^ b % V ∧ wv qq 16 = D / 2 ^ b / V * 2 ^ b := by
  have e0 := dv_nover hd h hra
  rw [e0] at h78
  obtain ⟨e1, e2⟩ := hst.2 (Nat.not_le.mpr (m_ord_neg.mp h78))
  exact ⟨e0.trans e1.symm, dv_q0 hq e2⟩

abbrev y_Di_divideBy : MethodName := ⟨"WideStack$Divider", "divideBy", "([I)V"⟩
theorem d_Di_divideBy_0 : decode prog_4_method_4_code 0 = .ok (.aload_n 0, 1) := by decide +kernel
theorem d_Di_divideBy_1 : decode prog_4_method_4_code 1 = .ok (.getfield 15, 3) := by decide +kernel
theorem d_Di_divideBy_4 : decode prog_4_method_4_code 4 = .ok (.iconst 0, 1) := by decide +kernel
theorem d_Di_divideBy_5 : decode prog_4_method_4_code 5 = .ok (.invokestatic 21, 3) := by decide +kernel
theorem d_Di_divideBy_8 : decode prog_4_method_4_code 8 = .ok (.aload_n 0, 1) := by decide +kernel
theorem d_Di_divideBy_9 : decode prog_4_method_4_code 9 = .ok (.getfield 18, 3) := by decide +kernel
theorem d_Di_divideBy_12 : decode prog_4_method_4_code 12 = .ok (.iconst 0, 1) := by decide +kernel
theorem d_Di_divideBy_13 : decode prog_4_method_4_code 13 = .ok (.invokestatic 21, 3) := by decide +kernel
theorem d_Di_divideBy_16 : decode prog_4_method_4_code 16 = .ok (.aload_n 1, 1) := by decide +kernel
theorem d_Di_divideBy_17 : decode prog_4_method_4_code 17 = .ok (.invokestatic 35, 3) := by decide +kernel
theorem d_Di_divideBy_20 : decode prog_4_method_4_code 20 = .ok (.ifCond .eq 4, 3) := by decide +kernel
theorem d_Di_divideBy_23 : decode prog_4_method_4_code 23 = .ok (.return_, 1) := by decide +kernel
theorem d_Di_divideBy_24 : decode prog_4_method_4_code 24 = .ok (.bipush 32, 2) := by decide +kernel
theorem d_Di_divideBy_26 : decode prog_4_method_4_code 26 = .ok (.aload_n 0, 1) := by decide +kernel
theorem d_Di_divideBy_27 : decode prog_4_method_4_code 27 = .ok (.invokevirtual 39, 3) := by decide +kernel
theorem d_Di_divideBy_30 : decode prog_4_method_4_code 30 = .ok (.imul, 1) := by decide +kernel
theorem d_Di_divideBy_31 : decode prog_4_method_4_code 31 = .ok (.iconst 1, 1) := by decide +kernel
theorem d_Di_divideBy_32 : decode prog_4_method_4_code 32 = .ok (.isub, 1) := by decide +kernel
theorem d_Di_divideBy_33 : decode prog_4_method_4_code 33 = .ok (.istore_n 2, 1) := by decide +kernel
theorem d_Di_divideBy_34 : decode prog_4_method_4_code 34 = .ok (.iload_n 2, 1) := by decide +kernel
theorem d_Di_divideBy_35 : decode prog_4_method_4_code 35 = .ok (.ifCond .lt 82, 3) := by decide +kernel
theorem d_Di_divideBy_38 : decode prog_4_method_4_code 38 = .ok (.aload_n 0, 1) := by decide +kernel
theorem d_Di_divideBy_39 : decode prog_4_method_4_code 39 = .ok (.getfield 18, 3) := by decide +kernel
theorem d_Di_divideBy_42 : decode prog_4_method_4_code 42 = .ok (.invokestatic 43, 3) := by decide +kernel
theorem d_Di_divideBy_45 : decode prog_4_method_4_code 45 = .ok (.istore_n 3, 1) := by decide +kernel
theorem d_Di_divideBy_46 : decode prog_4_method_4_code 46 = .ok (.aload_n 0, 1) := by decide +kernel
theorem d_Di_divideBy_47 : decode prog_4_method_4_code 47 = .ok (.aload_n 0, 1) := by decide +kernel
theorem d_Di_divideBy_48 : decode prog_4_method_4_code 48 = .ok (.getfield 11, 3) := by decide +kernel
theorem d_Di_divideBy_51 : decode prog_4_method_4_code 51 = .ok (.iload_n 2, 1) := by decide +kernel
theorem d_Di_divideBy_52 : decode prog_4_method_4_code 52 = .ok (.bipush 32, 2) := by decide +kernel
theorem d_Di_divideBy_54 : decode prog_4_method_4_code 54 = .ok (.idiv, 1) := by decide +kernel
theorem d_Di_divideBy_55 : decode prog_4_method_4_code 55 = .ok (.iaload, 1) := by decide +kernel
theorem d_Di_divideBy_56 : decode prog_4_method_4_code 56 = .ok (.iload_n 2, 1) := by decide +kernel
theorem d_Di_divideBy_57 : decode prog_4_method_4_code 57 = .ok (.bipush 32, 2) := by decide +kernel
theorem d_Di_divideBy_59 : decode prog_4_method_4_code 59 = .ok (.irem, 1) := by decide +kernel
theorem d_Di_divideBy_60 : decode prog_4_method_4_code 60 = .ok (.iushr, 1) := by decide +kernel
theorem d_Di_divideBy_61 : decode prog_4_method_4_code 61 = .ok (.iconst 1, 1) := by decide +kernel
theorem d_Di_divideBy_62 : decode prog_4_method_4_code 62 = .ok (.iand, 1) := by decide +kernel
theorem d_Di_divideBy_63 : decode prog_4_method_4_code 63 = .ok (.invokevirtual 46, 3) := by decide +kernel
theorem d_Di_divideBy_66 : decode prog_4_method_4_code 66 = .ok (.iload_n 3, 1) := by decide +kernel
theorem d_Di_divideBy_67 : decode prog_4_method_4_code 67 = .ok (.ifCond .ne 14, 3) := by decide +kernel
theorem d_Di_divideBy_70 : decode prog_4_method_4_code 70 = .ok (.aload_n 0, 1) := by decide +kernel
theorem d_Di_divideBy_71 : decode prog_4_method_4_code 71 = .ok (.getfield 18, 3) := by decide +kernel
theorem d_Di_divideBy_74 : decode prog_4_method_4_code 74 = .ok (.aload_n 1, 1) := by decide +kernel
theorem d_Di_divideBy_75 : decode prog_4_method_4_code 75 = .ok (.invokestatic 50, 3) := by decide +kernel
theorem d_Di_divideBy_78 : decode prog_4_method_4_code 78 = .ok (.ifCond .lt 33, 3) := by decide +kernel
theorem d_Di_divideBy_81 : decode prog_4_method_4_code 81 = .ok (.aload_n 0, 1) := by decide +kernel
theorem d_Di_divideBy_82 : decode prog_4_method_4_code 82 = .ok (.getfield 18, 3) := by decide +kernel
theorem d_Di_divideBy_85 : decode prog_4_method_4_code 85 = .ok (.aload_n 1, 1) := by decide +kernel
theorem d_Di_divideBy_86 : decode prog_4_method_4_code 86 = .ok (.aload_n 0, 1) := by decide +kernel
theorem d_Di_divideBy_87 : decode prog_4_method_4_code 87 = .ok (.getfield 18, 3) := by decide +kernel
theorem d_Di_divideBy_90 : decode prog_4_method_4_code 90 = .ok (.invokestatic 54, 3) := by decide +kernel
theorem d_Di_divideBy_93 : decode prog_4_method_4_code 93 = .ok (.aload_n 0, 1) := by decide +kernel
theorem d_Di_divideBy_94 : decode prog_4_method_4_code 94 = .ok (.getfield 15, 3) := by decide +kernel
theorem d_Di_divideBy_97 : decode prog_4_method_4_code 97 = .ok (.iload_n 2, 1) := by decide +kernel
theorem d_Di_divideBy_98 : decode prog_4_method_4_code 98 = .ok (.bipush 32, 2) := by decide +kernel
theorem d_Di_divideBy_100 : decode prog_4_method_4_code 100 = .ok (.idiv, 1) := by decide +kernel
theorem d_Di_divideBy_101 : decode prog_4_method_4_code 101 = .ok (.dup2, 1) := by decide +kernel
theorem d_Di_divideBy_102 : decode prog_4_method_4_code 102 = .ok (.iaload, 1) := by decide +kernel
theorem d_Di_divideBy_103 : decode prog_4_method_4_code 103 = .ok (.iconst 1, 1) := by decide +kernel
theorem d_Di_divideBy_104 : decode prog_4_method_4_code 104 = .ok (.iload_n 2, 1) := by decide +kernel
theorem d_Di_divideBy_105 : decode prog_4_method_4_code 105 = .ok (.bipush 32, 2) := by decide +kernel
theorem d_Di_divideBy_107 : decode prog_4_method_4_code 107 = .ok (.irem, 1) := by decide +kernel
theorem d_Di_divideBy_108 : decode prog_4_method_4_code 108 = .ok (.ishl, 1) := by decide +kernel
theorem d_Di_divideBy_109 : decode prog_4_method_4_code 109 = .ok (.ior, 1) := by decide +kernel
theorem d_Di_divideBy_110 : decode prog_4_method_4_code 110 = .ok (.iastore, 1) := by decide +kernel
theorem d_Di_divideBy_111 : decode prog_4_method_4_code 111 = .ok (.iinc 2 (-1), 3) := by decide +kernel
theorem d_Di_divideBy_114 : decode prog_4_method_4_code 114 = .ok (.goto (-80), 3) := by decide +kernel
theorem d_Di_divideBy_117 : decode prog_4_method_4_code 117 = .ok (.return_, 1) := by decide +kernel
def rm_c_D_divideBy : Room := { frames := 1, cells := 0, slots := 0, locals := 27 }
set_option maxHeartbeats 4000000 in
set_option maxRecDepth 100000 in
theorem c_D_divideBy (l : Launch) (E : kE) (d dd dq dr : Nat) (fD fq fr : Nat → Int32) (v : Nat) (fv : Nat → Int32) : Kv l y_Di_divideBy (kW y_Di_divideBy prog_4_method_4_code 4 (none)) rm_c_D_divideBy E [.ref d, .ref v] [(d, .inr (3, [.ref dd, .ref dq, .ref dr])), (dd, .inl (E.2.1 0, 16, .inl fD)), (dq, .inl (E.2.1 0, 16, .inl fq)), (dr, .inl (E.2.1 0, 8, .inl fr)), (v, .inl (E.2.1 0, 8, .inl fv))] (S := (Nat → Int32) × (Nat → Int32)) (fun u => wv u.1 16 = wv fD 16 / wv fv 8 ∧ wv u.2 8 = m_rem (wv fD 16) (wv fv 8)) (fun u => [(d, .inr (3, [.ref dd, .ref dq, .ref dr])), (dd, .inl (E.2.1 0, 16, .inl fD)), (dq, .inl (E.2.1 0, 16, .inl u.1)), (dr, .inl (E.2.1 0, 8, .inl u.2)), (v, .inl (E.2.1 0, 8, .inl fv))]) := by
  refine Kv.ofW (cc := prog_4_method_4_code) (maxL := 4) (by decide) (Nat.le_of_ble_eq_true rfl) ?_
  intro p e s m args below meth c A ls Q hx hb hts hown hml hK hG hA hP hD hS hl hret
  have hl : lv_has ls 4 [(0, .ref d), (1, .ref v)] := hl
  refine lv_aload_n hx hb d_Di_divideBy_0 rfl (lv_at hl 0 rfl) ?_
  refine va_get (D := E.1) (ci := 3) (v := .ref dq) (C := "WideStack$Divider") (T := T_Di) (N := 3) hx hb hts in_Di hown hK hP 0 rfl rfl 1 (by decide) (hts _ t_162) (fun _ h9 => h9) rfl d_Di_divideBy_1 ?_
  refine lv_iconst (v := nI 0) hx hb d_Di_divideBy_4 (by decide) ?_
  refine k_Sv (As := [.ref dq, .int (nI 0)]) (rest := []) ⟨hx, hb, hml, hown, hts⟩ (c_fill l E dq 16 fq (nI 0) (by decide)) (k_cwS 2 hts t_535 t_233 t_70 t_234 (by decide +kernel) ⟨Nat.le_of_ble_eq_true rfl, Nat.le_of_ble_eq_true rfl⟩) hK hG hA hP hD hS [2] rfl (by decide) (fun _ => rfl) rfl hl.1 rfl (Nat.le_of_ble_eq_true rfl) d_Di_divideBy_5 ⟨Nat.zero_le _, Nat.zero_le _⟩ (fun q0 H locs hq0 hP hD hS => ?_)
  have hP : va_P E.1 vwCl [(d, .inr (3, [.ref dd, .ref dq, .ref dr])), (dd, .inl (E.2.1 0, 16, .inl fD)), (dq, .inl (E.2.1 0, 16, .inl q0)), (dr, .inl (E.2.1 0, 8, .inl fr)), (v, .inl (E.2.1 0, 8, .inl fv))] H := hP
  have hD : va_D A [(d, .inr (3, [.ref dd, .ref dq, .ref dr])), (dd, .inl (E.2.1 0, 16, .inl fD)), (dq, .inl (E.2.1 0, 16, .inl q0)), (dr, .inl (E.2.1 0, 8, .inl fr)), (v, .inl (E.2.1 0, 8, .inl fv))] := hD
  refine lv_aload_n hx hb d_Di_divideBy_8 rfl (lv_at hl 0 rfl) ?_
  refine va_get (D := E.1) (ci := 3) (v := .ref dr) (C := "WideStack$Divider") (T := T_Di) (N := 3) hx hb hts in_Di hown hK hP 0 rfl rfl 2 (by decide) (hts _ t_164) (fun _ h9 => h9) rfl d_Di_divideBy_9 ?_
  refine lv_iconst (v := nI 0) hx hb d_Di_divideBy_12 (by decide) ?_
  refine k_Sv (As := [.ref dr, .int (nI 0)]) (rest := []) ⟨hx, hb, hml, hown, hts⟩ (c_fill l E dr 8 fr (nI 0) (by decide)) (k_cwS 2 hts t_535 t_233 t_70 t_234 (by decide +kernel) ⟨Nat.le_of_ble_eq_true rfl, Nat.le_of_ble_eq_true rfl⟩) hK hG hA hP hD hS [3] rfl (by decide) (fun _ => rfl) rfl hl.1 rfl (Nat.le_of_ble_eq_true rfl) d_Di_divideBy_13 ⟨Nat.zero_le _, Nat.zero_le _⟩ (fun r0 H locs hr0 hP hD hS => ?_)
  have hP : va_P E.1 vwCl [(d, .inr (3, [.ref dd, .ref dq, .ref dr])), (dd, .inl (E.2.1 0, 16, .inl fD)), (dq, .inl (E.2.1 0, 16, .inl q0)), (dr, .inl (E.2.1 0, 8, .inl r0)), (v, .inl (E.2.1 0, 8, .inl fv))] H := hP
  have hD : va_D A [(d, .inr (3, [.ref dd, .ref dq, .ref dr])), (dd, .inl (E.2.1 0, 16, .inl fD)), (dq, .inl (E.2.1 0, 16, .inl q0)), (dr, .inl (E.2.1 0, 8, .inl r0)), (v, .inl (E.2.1 0, 8, .inl fv))] := hD
  refine lv_aload_n hx hb d_Di_divideBy_16 rfl (lv_at hl 1 rfl) ?_
  refine k_Sp (As := [.ref v]) (rest := []) ⟨hx, hb, hml, hown, hts⟩ (c_W_isZero l E v fv) (k_cwS 1 hts t_541 t_384 t_73 t_385 (by decide +kernel) ⟨Nat.le_of_ble_eq_true rfl, Nat.le_of_ble_eq_true rfl⟩) hK hG hA hP hD hS [4] rfl (by decide) rfl hl.1 rfl (Nat.le_of_ble_eq_true rfl) d_Di_divideBy_17 ⟨Nat.zero_le _, Nat.zero_le _⟩ (fun r17 hu17 => ?_)
  subst hu17
  refine lv_if_eq (tgt := 24) hx hb d_Di_divideBy_20 (by decide) (fun h20 => ?_) (fun h20 => ?_)
  · refine lv_bipush (v := nI 32) hx hb d_Di_divideBy_24 (by decide) ?_
    refine lv_aload_n hx hb d_Di_divideBy_26 rfl (lv_at hl 0 rfl) ?_
    refine k_Vp (As := []) (rest := [.int (nI 32)]) ⟨hx, hb, hml, hown, hts⟩ (c_D_usedParts l E d dd dq dr fD) (k_cwV 0 hts t_542 t_544 t_16 t_68 t_545 (by decide +kernel) ⟨Nat.le_of_ble_eq_true rfl, Nat.le_of_ble_eq_true rfl⟩) hK hG hA hP hD hS [0, 1] rfl (by decide) 0 rfl rfl rfl hl.1 rfl (Nat.le_of_ble_eq_true rfl) d_Di_divideBy_27 ⟨Nat.zero_le _, Nat.zero_le _⟩ (fun r hu => ?_)
    obtain ⟨up, hup, rfl, hu0⟩ := hu
    refine lv_imul hx hb d_Di_divideBy_30 ?_
    refine k_top (pk_mul _ _) ?_
    refine lv_iconst (v := nI 1) hx hb d_Di_divideBy_31 (by decide) ?_
    refine lv_isub hx hb d_Di_divideBy_32 ?_
    refine k_top (k_m1 _) ?_
    refine lv_istore_n (lv' := [(2, .int (m1 (32 * up))), (0, .ref d), (1, .ref v)]) hx hb d_Di_divideBy_33 rfl hl (by decide) rfl (fun ls hl => ?_)
    have key34 : ∀ (n : Nat) (k : Nat) (qq rr : Nat → Int32) (H : Heap) (locs : List Loc) (ls : Array Slot), k = n → (k ≤ 512 ∧ 0 < wv fv 8 ∧ wv rr 8 = wv fD 16 / 2 ^ k % wv fv 8 ∧ wv qq 16 = wv fD 16 / 2 ^ k / wv fv 8 * 2 ^ k) → lv_has ls 4 [(2, .int (m1 k)), (0, .ref d), (1, .ref v)] → va_P E.1 vwCl [(d, .inr (3, [.ref dd, .ref dq, .ref dr])), (dd, .inl (E.2.1 0, 16, .inl fD)), (dq, .inl (E.2.1 0, 16, .inl qq)), (dr, .inl (E.2.1 0, 8, .inl rr)), (v, .inl (E.2.1 0, 8, .inl fv))] H → va_D A [(d, .inr (3, [.ref dd, .ref dq, .ref dr])), (dd, .inl (E.2.1 0, 16, .inl fD)), (dq, .inl (E.2.1 0, 16, .inl qq)), (dr, .inl (E.2.1 0, 8, .inl rr)), (v, .inl (E.2.1 0, 8, .inl fv))] → va_S A s.heap H locs → W p l e rm_c_D_divideBy s m args below meth c H locs 0 0 Q (F0 m 34 ls []) := by
      intro n
      induction n using Nat.strongRecOn with
      | ind n ih =>
        intro k qq rr H locs ls hn hI hl hP hD hS
        rcases k with _ | b
        · have hl : lv_has ls 4 [(2, .int (-1)), (0, .ref d), (1, .ref v)] := hl
          refine lv_iload_n hx hb d_Di_divideBy_34 rfl (lv_at hl 0 rfl) ?_
          refine lv_if_lt (tgt := 117) hx hb d_Di_divideBy_35 (by decide) (fun h35 => ?_) (fun h35 => ?_)
          · exact hret _ ls _ _ (qq, rr) d_Di_divideBy_117 (dv_end hI.2.1 hI.2.2.1 hI.2.2.2) hP hS
          · exact absurd (by decide) h35
        · have hl : lv_has ls 4 [(2, .int (nI b)), (0, .ref d), (1, .ref v)] := hl
          have hV0 : 0 < wv fv 8 := hI.2.1
          have hVM := wv_lt8 fv
          have hd2 : wv fD 16 / 2 ^ b % 2 < 2 := Nat.mod_lt _ (by decide)
          have hrl : wv rr 8 < wv fv 8 := by rw [hI.2.2.1]; exact Nat.mod_lt _ hV0
          have hst := dv_step (X := wv fD 16 / 2 ^ (b + 1)) hV0 hd2
          rw [← dv_half, ← hI.2.2.1] at hst
          refine lv_iload_n hx hb d_Di_divideBy_34 rfl (lv_at hl 0 rfl) ?_
          refine kn_iflt (tgt := 117) hx hb (by omega) d_Di_divideBy_35 (by decide) ?_
          refine lv_aload_n hx hb d_Di_divideBy_38 rfl (lv_at hl 1 rfl) ?_
          refine va_get (D := E.1) (ci := 3) (v := .ref dr) (C := "WideStack$Divider") (T := T_Di) (N := 3) hx hb hts in_Di hown hK hP 0 rfl rfl 2 (by decide) (hts _ t_164) (fun _ h9 => h9) rfl d_Di_divideBy_39 ?_
          refine k_Sp (As := [.ref dr]) (rest := []) ⟨hx, hb, hml, hown, hts⟩ (c_W_isNegative l E dr 8 rr (by decide) (by decide)) (k_cwS 1 hts t_546 t_547 t_73 t_548 (by decide +kernel) ⟨Nat.le_of_ble_eq_true rfl, Nat.le_of_ble_eq_true rfl⟩) hK hG hA hP hD hS [3] rfl (by decide) rfl hl.1 rfl (Nat.le_of_ble_eq_true rfl) d_Di_divideBy_42 ⟨Nat.zero_le _, Nat.zero_le _⟩ (fun r42 hu42 => ?_)
          subst hu42
          refine lv_istore_n (lv' := [(3, .int (kb (m_isneg (wv rr 8)))), (2, .int (nI b)), (0, .ref d), (1, .ref v)]) hx hb d_Di_divideBy_45 rfl hl (by decide) rfl (fun ls hl => ?_)
          refine lv_aload_n hx hb d_Di_divideBy_46 rfl (lv_at hl 2 rfl) ?_
          refine lv_aload_n hx hb d_Di_divideBy_47 rfl (lv_at hl 2 rfl) ?_
          refine va_get (D := E.1) (ci := 3) (v := .ref dd) (C := "WideStack$Divider") (T := T_Di) (N := 3) hx hb hts in_Di hown hK hP 0 rfl rfl 0 (by decide) (hts _ t_160) (fun _ h9 => h9) rfl d_Di_divideBy_48 ?_
          refine lv_iload_n hx hb d_Di_divideBy_51 rfl (lv_at hl 1 rfl) ?_
          refine lv_bipush (v := nI 32) hx hb d_Di_divideBy_52 (by decide) ?_
          refine lv_idiv hx hb d_Di_divideBy_54 (by decide) ?_
          refine k_top (pk_div (by omega) (by decide) (by decide)) ?_
          refine k_iald hx hb hK hP 1 rfl (i := (b / 32)) (by omega) (by omega) d_Di_divideBy_55 ?_
          refine lv_iload_n hx hb d_Di_divideBy_56 rfl (lv_at hl 1 rfl) ?_
          refine lv_bipush (v := nI 32) hx hb d_Di_divideBy_57 (by decide) ?_
          refine lv_irem hx hb d_Di_divideBy_59 (by decide) ?_
          refine k_top (pk_rem (by omega) (by decide) (by decide)) ?_
          refine lv_iushr (v := ((fD (b / 32)).toUInt32 >>> ((nI (b % 32)).toUInt32 &&& Int32.toUInt32 31)).toInt32) hx hb d_Di_divideBy_60 rfl ?_
          refine k_top (k_ushr (by omega)) ?_
          refine lv_iconst (v := nI 1) hx hb d_Di_divideBy_61 (by decide) ?_
          refine lv_iand hx hb d_Di_divideBy_62 ?_
          refine k_top ((k_and1 _ (Nat.lt_of_le_of_lt (Nat.div_le_self _ _) (uw_lt' _))).trans (congrArg nI (wv_bit (n := 16) (by omega)))) ?_
          refine k_Vv (As := [.int (nI (wv fD 16 / 2 ^ b % 2))]) (rest := []) ⟨hx, hb, hml, hown, hts⟩ (c_D_appendToRest l E d dd dq dr (wv fD 16 / 2 ^ b % 2) rr hd2) (k_cwV 1 hts t_549 t_551 t_17 t_68 t_552 (by decide +kernel) ⟨Nat.le_of_ble_eq_true rfl, Nat.le_of_ble_eq_true rfl⟩) hK hG hA hP hD hS [0, 3] rfl (by decide) 0 rfl rfl (fun _ => rfl) rfl hl.1 rfl (Nat.le_of_ble_eq_true rfl) d_Di_divideBy_63 ⟨Nat.zero_le _, Nat.zero_le _⟩ (fun ra H locs hra hP hD hS => ?_)
          have hP : va_P E.1 vwCl [(d, .inr (3, [.ref dd, .ref dq, .ref dr])), (dd, .inl (E.2.1 0, 16, .inl fD)), (dq, .inl (E.2.1 0, 16, .inl qq)), (dr, .inl (E.2.1 0, 8, .inl ra)), (v, .inl (E.2.1 0, 8, .inl fv))] H := hP
          have hD : va_D A [(d, .inr (3, [.ref dd, .ref dq, .ref dr])), (dd, .inl (E.2.1 0, 16, .inl fD)), (dq, .inl (E.2.1 0, 16, .inl qq)), (dr, .inl (E.2.1 0, 8, .inl ra)), (v, .inl (E.2.1 0, 8, .inl fv))] := hD
          refine lv_iload_n hx hb d_Di_divideBy_66 rfl (lv_at hl 0 rfl) ?_
          refine lv_if_ne (tgt := 81) hx hb d_Di_divideBy_67 (by decide) (fun h67 => ?_) (fun h67 => ?_)
          · refine lv_aload_n hx hb d_Di_divideBy_81 rfl (lv_at hl 2 rfl) ?_
            refine va_get (D := E.1) (ci := 3) (v := .ref dr) (C := "WideStack$Divider") (T := T_Di) (N := 3) hx hb hts in_Di hown hK hP 0 rfl rfl 2 (by decide) (hts _ t_164) (fun _ h9 => h9) rfl d_Di_divideBy_82 ?_
            refine lv_aload_n hx hb d_Di_divideBy_85 rfl (lv_at hl 3 rfl) ?_
            refine lv_aload_n hx hb d_Di_divideBy_86 rfl (lv_at hl 2 rfl) ?_
            refine va_get (D := E.1) (ci := 3) (v := .ref dr) (C := "WideStack$Divider") (T := T_Di) (N := 3) hx hb hts in_Di hown hK hP 0 rfl rfl 2 (by decide) (hts _ t_164) (fun _ h9 => h9) rfl d_Di_divideBy_87 ?_
            refine k_Sv (As := [.ref dr, .ref v, .ref dr]) (rest := []) ⟨hx, hb, hml, hown, hts⟩ (c_W_sub1 l E dr v ra fv) (k_cwS 3 hts t_556 t_525 t_73 t_526 (by decide +kernel) ⟨Nat.le_of_ble_eq_true rfl, Nat.le_of_ble_eq_true rfl⟩) hK hG hA hP hD hS [3, 4] rfl (by decide) (fun _ => rfl) rfl hl.1 rfl (Nat.le_of_ble_eq_true rfl) d_Di_divideBy_90 ⟨Nat.zero_le _, Nat.zero_le _⟩ (fun rs H locs hrs hP hD hS => ?_)
            have hP : va_P E.1 vwCl [(d, .inr (3, [.ref dd, .ref dq, .ref dr])), (dd, .inl (E.2.1 0, 16, .inl fD)), (dq, .inl (E.2.1 0, 16, .inl qq)), (dr, .inl (E.2.1 0, 8, .inl rs)), (v, .inl (E.2.1 0, 8, .inl fv))] H := hP
            have hD : va_D A [(d, .inr (3, [.ref dd, .ref dq, .ref dr])), (dd, .inl (E.2.1 0, 16, .inl fD)), (dq, .inl (E.2.1 0, 16, .inl qq)), (dr, .inl (E.2.1 0, 8, .inl rs)), (v, .inl (E.2.1 0, 8, .inl fv))] := hD
            refine lv_aload_n hx hb d_Di_divideBy_93 rfl (lv_at hl 2 rfl) ?_
            refine va_get (D := E.1) (ci := 3) (v := .ref dq) (C := "WideStack$Divider") (T := T_Di) (N := 3) hx hb hts in_Di hown hK hP 0 rfl rfl 1 (by decide) (hts _ t_162) (fun _ h9 => h9) rfl d_Di_divideBy_94 ?_
            refine lv_iload_n hx hb d_Di_divideBy_97 rfl (lv_at hl 1 rfl) ?_
            refine lv_bipush (v := nI 32) hx hb d_Di_divideBy_98 (by decide) ?_
            refine lv_idiv hx hb d_Di_divideBy_100 (by decide) ?_
            refine k_top (pk_div (by omega) (by decide) (by decide)) ?_
            refine lv_dup2_11 hx hb d_Di_divideBy_101 rfl rfl ?_
            refine k_iald hx hb hK hP 2 rfl (i := (b / 32)) (by omega) (by omega) d_Di_divideBy_102 ?_
            refine lv_iconst (v := nI 1) hx hb d_Di_divideBy_103 (by decide) ?_
            refine lv_iload_n hx hb d_Di_divideBy_104 rfl (lv_at hl 1 rfl) ?_
            refine lv_bipush (v := nI 32) hx hb d_Di_divideBy_105 (by decide) ?_
            refine lv_irem hx hb d_Di_divideBy_107 (by decide) ?_
            refine k_top (pk_rem (by omega) (by decide) (by decide)) ?_
            refine lv_ishl hx hb d_Di_divideBy_108 ?_
            refine lv_ior hx hb d_Di_divideBy_109 ?_
            refine k_iast hx hb hK hP hD hS 2 rfl (i := (b / 32)) (by omega) (by omega) d_Di_divideBy_110 (fun H locs hP hD hS => ?_)
            have hP : va_P E.1 vwCl [(d, .inr (3, [.ref dd, .ref dq, .ref dr])), (dd, .inl (E.2.1 0, 16, .inl fD)), (dq, .inl (E.2.1 0, 16, .inl (upd qq (b / 32) ((qq (b / 32)) ||| ((nI 1) <<< ((nI (b % 32)) &&& 31)))))), (dr, .inl (E.2.1 0, 8, .inl rs)), (v, .inl (E.2.1 0, 8, .inl fv))] H := hP
            have hD : va_D A [(d, .inr (3, [.ref dd, .ref dq, .ref dr])), (dd, .inl (E.2.1 0, 16, .inl fD)), (dq, .inl (E.2.1 0, 16, .inl (upd qq (b / 32) ((qq (b / 32)) ||| ((nI 1) <<< ((nI (b % 32)) &&& 31)))))), (dr, .inl (E.2.1 0, 8, .inl rs)), (v, .inl (E.2.1 0, 8, .inl fv))] := hD
            refine lv_iinc (k := 1) (v := m1 b) (lv' := [(2, .int (m1 b)), (3, .int (kb (m_isneg (wv rr 8)))), (0, .ref d), (1, .ref v)]) hx hb d_Di_divideBy_111 hl rfl (k_decm _) (by decide) rfl (fun ls hl => ?_)
            refine lv_goto (tgt := 34) hx hb d_Di_divideBy_114 (by decide) ?_
            exact ih b (by omega) b (upd qq (b / 32) (qq (b / 32) ||| (nI 1 <<< (nI (b % 32) &&& 31)))) rs _ _ ls rfl ⟨by omega, hV0, dv_sub hd2 hrl hVM hra hrs hst hI.2.2.2 (by omega) (dv_over1 hd2 hVM (kb_n0 h67))⟩ (lv_sub hl [0, 2, 3] rfl) hP hD hS
          · refine lv_aload_n hx hb d_Di_divideBy_70 rfl (lv_at hl 2 rfl) ?_
            refine va_get (D := E.1) (ci := 3) (v := .ref dr) (C := "WideStack$Divider") (T := T_Di) (N := 3) hx hb hts in_Di hown hK hP 0 rfl rfl 2 (by decide) (hts _ t_164) (fun _ h9 => h9) rfl d_Di_divideBy_71 ?_
            refine lv_aload_n hx hb d_Di_divideBy_74 rfl (lv_at hl 3 rfl) ?_
            refine k_Sp (As := [.ref dr, .ref v]) (rest := []) ⟨hx, hb, hml, hown, hts⟩ (c_W_order l E dr v ra fv) (k_cwS 2 hts t_553 t_554 t_73 t_555 (by decide +kernel) ⟨Nat.le_of_ble_eq_true rfl, Nat.le_of_ble_eq_true rfl⟩) hK hG hA hP hD hS [3, 4] rfl (by decide) rfl hl.1 rfl (Nat.le_of_ble_eq_true rfl) d_Di_divideBy_75 ⟨Nat.zero_le _, Nat.zero_le _⟩ (fun r75 hu75 => ?_)
            subst hu75
            refine lv_if_lt (tgt := 111) hx hb d_Di_divideBy_78 (by decide) (fun h78 => ?_) (fun h78 => ?_)
            · refine lv_iinc (k := 1) (v := m1 b) (lv' := [(2, .int (m1 b)), (3, .int (kb (m_isneg (wv rr 8)))), (0, .ref d), (1, .ref v)]) hx hb d_Di_divideBy_111 hl rfl (k_decm _) (by decide) rfl (fun ls hl => ?_)
              refine lv_goto (tgt := 34) hx hb d_Di_divideBy_114 (by decide) ?_
              exact ih b (by omega) b qq ra _ _ ls rfl ⟨by omega, hV0, dv_nosub hd2 hra hst hI.2.2.2 (kb_0.mp h67) h78⟩ (lv_sub hl [0, 2, 3] rfl) hP hD hS
            · refine lv_aload_n hx hb d_Di_divideBy_81 rfl (lv_at hl 2 rfl) ?_
              refine va_get (D := E.1) (ci := 3) (v := .ref dr) (C := "WideStack$Divider") (T := T_Di) (N := 3) hx hb hts in_Di hown hK hP 0 rfl rfl 2 (by decide) (hts _ t_164) (fun _ h9 => h9) rfl d_Di_divideBy_82 ?_
              refine lv_aload_n hx hb d_Di_divideBy_85 rfl (lv_at hl 3 rfl) ?_
              refine lv_aload_n hx hb d_Di_divideBy_86 rfl (lv_at hl 2 rfl) ?_
              refine va_get (D := E.1) (ci := 3) (v := .ref dr) (C := "WideStack$Divider") (T := T_Di) (N := 3) hx hb hts in_Di hown hK hP 0 rfl rfl 2 (by decide) (hts _ t_164) (fun _ h9 => h9) rfl d_Di_divideBy_87 ?_
              refine k_Sv (As := [.ref dr, .ref v, .ref dr]) (rest := []) ⟨hx, hb, hml, hown, hts⟩ (c_W_sub1 l E dr v ra fv) (k_cwS 3 hts t_556 t_525 t_73 t_526 (by decide +kernel) ⟨Nat.le_of_ble_eq_true rfl, Nat.le_of_ble_eq_true rfl⟩) hK hG hA hP hD hS [3, 4] rfl (by decide) (fun _ => rfl) rfl hl.1 rfl (Nat.le_of_ble_eq_true rfl) d_Di_divideBy_90 ⟨Nat.zero_le _, Nat.zero_le _⟩ (fun rs H locs hrs hP hD hS => ?_)
              have hP : va_P E.1 vwCl [(d, .inr (3, [.ref dd, .ref dq, .ref dr])), (dd, .inl (E.2.1 0, 16, .inl fD)), (dq, .inl (E.2.1 0, 16, .inl qq)), (dr, .inl (E.2.1 0, 8, .inl rs)), (v, .inl (E.2.1 0, 8, .inl fv))] H := hP
              have hD : va_D A [(d, .inr (3, [.ref dd, .ref dq, .ref dr])), (dd, .inl (E.2.1 0, 16, .inl fD)), (dq, .inl (E.2.1 0, 16, .inl qq)), (dr, .inl (E.2.1 0, 8, .inl rs)), (v, .inl (E.2.1 0, 8, .inl fv))] := hD
              refine lv_aload_n hx hb d_Di_divideBy_93 rfl (lv_at hl 2 rfl) ?_
              refine va_get (D := E.1) (ci := 3) (v := .ref dq) (C := "WideStack$Divider") (T := T_Di) (N := 3) hx hb hts in_Di hown hK hP 0 rfl rfl 1 (by decide) (hts _ t_162) (fun _ h9 => h9) rfl d_Di_divideBy_94 ?_
              refine lv_iload_n hx hb d_Di_divideBy_97 rfl (lv_at hl 1 rfl) ?_
              refine lv_bipush (v := nI 32) hx hb d_Di_divideBy_98 (by decide) ?_
              refine lv_idiv hx hb d_Di_divideBy_100 (by decide) ?_
              refine k_top (pk_div (by omega) (by decide) (by decide)) ?_
              refine lv_dup2_11 hx hb d_Di_divideBy_101 rfl rfl ?_
              refine k_iald hx hb hK hP 2 rfl (i := (b / 32)) (by omega) (by omega) d_Di_divideBy_102 ?_
              refine lv_iconst (v := nI 1) hx hb d_Di_divideBy_103 (by decide) ?_
              refine lv_iload_n hx hb d_Di_divideBy_104 rfl (lv_at hl 1 rfl) ?_
              refine lv_bipush (v := nI 32) hx hb d_Di_divideBy_105 (by decide) ?_
              refine lv_irem hx hb d_Di_divideBy_107 (by decide) ?_
              refine k_top (pk_rem (by omega) (by decide) (by decide)) ?_
              refine lv_ishl hx hb d_Di_divideBy_108 ?_
              refine lv_ior hx hb d_Di_divideBy_109 ?_
              refine k_iast hx hb hK hP hD hS 2 rfl (i := (b / 32)) (by omega) (by omega) d_Di_divideBy_110 (fun H locs hP hD hS => ?_)
              have hP : va_P E.1 vwCl [(d, .inr (3, [.ref dd, .ref dq, .ref dr])), (dd, .inl (E.2.1 0, 16, .inl fD)), (dq, .inl (E.2.1 0, 16, .inl (upd qq (b / 32) ((qq (b / 32)) ||| ((nI 1) <<< ((nI (b % 32)) &&& 31)))))), (dr, .inl (E.2.1 0, 8, .inl rs)), (v, .inl (E.2.1 0, 8, .inl fv))] H := hP
              have hD : va_D A [(d, .inr (3, [.ref dd, .ref dq, .ref dr])), (dd, .inl (E.2.1 0, 16, .inl fD)), (dq, .inl (E.2.1 0, 16, .inl (upd qq (b / 32) ((qq (b / 32)) ||| ((nI 1) <<< ((nI (b % 32)) &&& 31)))))), (dr, .inl (E.2.1 0, 8, .inl rs)), (v, .inl (E.2.1 0, 8, .inl fv))] := hD
              refine lv_iinc (k := 1) (v := m1 b) (lv' := [(2, .int (m1 b)), (3, .int (kb (m_isneg (wv rr 8)))), (0, .ref d), (1, .ref v)]) hx hb d_Di_divideBy_111 hl rfl (k_decm _) (by decide) rfl (fun ls hl => ?_)
              refine lv_goto (tgt := 34) hx hb d_Di_divideBy_114 (by decide) ?_
              exact ih b (by omega) b (upd qq (b / 32) (qq (b / 32) ||| (nI 1 <<< (nI (b % 32) &&& 31)))) rs _ _ ls rfl ⟨by omega, hV0, dv_sub hd2 hrl hVM hra hrs hst hI.2.2.2 (by omega) (dv_over2 hd2 (kb_0.mp h67) hra h78)⟩ (lv_sub hl [0, 2, 3] rfl) hP hD hS
    exact key34 (32 * up) (32 * up) q0 r0 _ _ ls rfl ⟨by omega, Nat.pos_of_ne_zero (of_decide_eq_false (kb_0.mp h20)), dv_init hup hu0 hq0 hr0⟩ (lv_sub hl [0, 1, 2] rfl) hP hD hS
  · exact hret _ ls _ _ (q0, r0) d_Di_divideBy_23 (dv_zero (of_decide_eq_true (kb_n0 h20)) hq0 hr0) hP hS

