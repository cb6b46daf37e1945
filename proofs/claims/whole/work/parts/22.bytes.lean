/-! bytes of words -/
theorem k_ushr {x : Int32} {k : Nat} (hk : k < 32) : (x.toUInt32 >>> ((nI k).toUInt32 &&& Int32.toUInt32 31)).toInt32 = nI (uw x / 2 ^ k) := by
  have h := pk_ushr x (nI k) k (s_u k hk)
  apply uw_inj
  show (x.toUInt32 >>> ((nI k).toUInt32 &&& Int32.toUInt32 31)).toInt32.toBitVec.toNat = _
  rw [h, uw_nI' (Nat.lt_of_le_of_lt (Nat.div_le_self _ _) (uw_lt' x))]
  rfl
theorem k_and255 (n : Nat) (h : n < 4294967296) : nI n &&& nI 255 = nI (n % 256) := pk_andN (m := nI 255) h 8 (by decide)
theorem nat_sub {N s k : Nat} (h : s + 8 ≤ k) : N % 2 ^ k / 2 ^ s % 2 ^ 8 = N / 2 ^ s % 2 ^ 8 := by
  apply Nat.eq_of_testBit_eq
  intro i
  simp only [Nat.testBit_mod_two_pow, Nat.testBit_div_two_pow]
  by_cases hi : i < 8
  · simp [hi, show s + i < k by omega, show i + s < k by omega]
  · simp [hi]
theorem wv_byte {f : Nat → Int32} {j : Nat} (hj : j < 32) : uw (f (7 - j / 4)) / 2 ^ (24 - 8 * (j % 4)) % 256 = wv f 8 / 2 ^ (8 * (31 - j)) % 256 := by
  have h1 : wv f 8 / kK ^ (7 - j / 4) % kK = uw (f (7 - j / 4)) := bv_dig (B := kK) (f := fun j => uw (f j)) (fun j _ => uw_lt (f j)) (by omega)
  have e : kK = 2 ^ 32 := by decide
  rw [← h1, e, nat_sub (by omega), ← Nat.pow_mul, Nat.div_div_eq_div_mul, ← Nat.pow_add]
  congr 3
  omega
theorem m_byte_lt {j : Nat} (hj : j < 32) (w : Nat) : m_byte j w = w / 2 ^ (8 * (31 - j)) % 256 := by unfold m_byte; rw [if_neg (by omega)]
theorem m_byte_ge {j : Nat} (hj : 32 ≤ j) (w : Nat) : m_byte j w = 0 := by unfold m_byte; rw [if_pos (by omega)]
theorem nat_or {a y s : Nat} (hy : y < 256) (h : a / 2 ^ s % 256 = 0) : a ||| y * 2 ^ s = a + y * 2 ^ s := by
  have p1 : 2 ^ (s + 8) = 2 ^ s * 256 := by rw [Nat.pow_add]
  have p0 : 0 < 2 ^ s := Nat.two_pow_pos s
  have d1 : a = 2 ^ (s + 8) * (a / 2 ^ s / 256) + a % 2 ^ s := by
    have e1 := Nat.div_add_mod a (2 ^ s)
    have e2 := Nat.div_add_mod (a / 2 ^ s) 256
    rw [h, Nat.add_zero] at e2
    rw [p1, Nat.mul_assoc, e2]
    exact e1.symm
  have l1 : a % 2 ^ s < 2 ^ s := Nat.mod_lt _ p0
  have l2 : 2 ^ s * y + a % 2 ^ s < 2 ^ (s + 8) := by
    rw [p1]
    have : 2 ^ s * y ≤ 2 ^ s * 255 := Nat.mul_le_mul_left _ (by omega)
    omega
  have l3 : a % 2 ^ s < 2 ^ (s + 8) := by rw [p1]; omega
  have o1 := Nat.two_pow_add_eq_or_of_lt l1 y
  have o2 := Nat.two_pow_add_eq_or_of_lt l2 (a / 2 ^ s / 256)
  have o3 := Nat.two_pow_add_eq_or_of_lt l3 (a / 2 ^ s / 256)
  have o4 : a = 2 ^ (s + 8) * (a / 2 ^ s / 256) ||| a % 2 ^ s := by rw [← o3]; exact d1
  generalize a / 2 ^ s / 256 = H at *
  generalize a % 2 ^ s = L at *
  rw [o4, Nat.mul_comm y, Nat.or_assoc, Nat.or_comm L, ← o1, ← o2, ← o3]
  omega
theorem k_shlN {y k : Nat} (hk : k < 32) (h : y * 2 ^ k < 4294967296) : nI y <<< (nI k &&& 31) = nI (y * 2 ^ k) := pk_shlN (nI k &&& 31) k (s_l k hk) h
theorem uw_or (x y : Int32) : uw (x ||| y) = uw x ||| uw y := by
  show (x ||| y).toBitVec.toNat = _
  rw [Int32.toBitVec_or, BitVec.toNat_or]
  rfl
theorem wv_setb {f : Nat → Int32} {j y : Nat} (hj : j < 32) (hy : y < 256) (h0 : wv f 8 / 2 ^ (8 * (31 - j)) % 256 = 0) : wv (upd f (7 - j / 4) (f (7 - j / 4) ||| (nI y <<< (nI (24 - 8 * (j % 4)) &&& 31)))) 8 = wv f 8 + y * 2 ^ (8 * (31 - j)) := by
  have b0 : y * 2 ^ (24 - 8 * (j % 4)) < 4294967296 := by
    have : 2 ^ (24 - 8 * (j % 4)) ≤ 2 ^ 24 := Nat.pow_le_pow_right (by decide) (by omega)
    have h2 := Nat.mul_le_mul (show y ≤ 255 by omega) this
    have h3 : 255 * 2 ^ 24 < 4294967296 := by decide
    omega
  have h1 := wv_upd (f := f) (k := 7 - j / 4) (x := f (7 - j / 4) ||| (nI y <<< (nI (24 - 8 * (j % 4)) &&& 31))) (n := 8) (by omega)
  rw [k_shlN (by omega) b0] at h1 ⊢
  rw [← wv_byte hj] at h0
  rw [uw_or, uw_nI' b0, nat_or hy h0, Nat.add_mul] at h1
  have e : y * 2 ^ (24 - 8 * (j % 4)) * kK ^ (7 - j / 4) = y * 2 ^ (8 * (31 - j)) := by
    rw [show kK = 2 ^ 32 by decide, ← Nat.pow_mul, Nat.mul_assoc, ← Nat.pow_add]
    congr 2
    omega
  omega

abbrev y_Wo_byteOf : MethodName := ⟨"WideStack$Words", "byteOf", "([II)I"⟩
theorem d_Wo_byteOf_0 : decode prog_10_method_20_code 0 = .ok (.iload_n 1, 1) := by decide +kernel
theorem d_Wo_byteOf_1 : decode prog_10_method_20_code 1 = .ok (.ifCond .lt 9, 3) := by decide +kernel
theorem d_Wo_byteOf_4 : decode prog_10_method_20_code 4 = .ok (.iload_n 1, 1) := by decide +kernel
theorem d_Wo_byteOf_5 : decode prog_10_method_20_code 5 = .ok (.bipush 32, 2) := by decide +kernel
theorem d_Wo_byteOf_7 : decode prog_10_method_20_code 7 = .ok (.if_icmp .lt 5, 3) := by decide +kernel
theorem d_Wo_byteOf_10 : decode prog_10_method_20_code 10 = .ok (.iconst 0, 1) := by decide +kernel
theorem d_Wo_byteOf_11 : decode prog_10_method_20_code 11 = .ok (.ireturn, 1) := by decide +kernel
theorem d_Wo_byteOf_12 : decode prog_10_method_20_code 12 = .ok (.aload_n 0, 1) := by decide +kernel
theorem d_Wo_byteOf_13 : decode prog_10_method_20_code 13 = .ok (.bipush 7, 2) := by decide +kernel
theorem d_Wo_byteOf_15 : decode prog_10_method_20_code 15 = .ok (.iload_n 1, 1) := by decide +kernel
theorem d_Wo_byteOf_16 : decode prog_10_method_20_code 16 = .ok (.iconst 4, 1) := by decide +kernel
theorem d_Wo_byteOf_17 : decode prog_10_method_20_code 17 = .ok (.idiv, 1) := by decide +kernel
theorem d_Wo_byteOf_18 : decode prog_10_method_20_code 18 = .ok (.isub, 1) := by decide +kernel
theorem d_Wo_byteOf_19 : decode prog_10_method_20_code 19 = .ok (.iaload, 1) := by decide +kernel
theorem d_Wo_byteOf_20 : decode prog_10_method_20_code 20 = .ok (.bipush 24, 2) := by decide +kernel
theorem d_Wo_byteOf_22 : decode prog_10_method_20_code 22 = .ok (.bipush 8, 2) := by decide +kernel
theorem d_Wo_byteOf_24 : decode prog_10_method_20_code 24 = .ok (.iload_n 1, 1) := by decide +kernel
theorem d_Wo_byteOf_25 : decode prog_10_method_20_code 25 = .ok (.iconst 4, 1) := by decide +kernel
theorem d_Wo_byteOf_26 : decode prog_10_method_20_code 26 = .ok (.irem, 1) := by decide +kernel
theorem d_Wo_byteOf_27 : decode prog_10_method_20_code 27 = .ok (.imul, 1) := by decide +kernel
theorem d_Wo_byteOf_28 : decode prog_10_method_20_code 28 = .ok (.isub, 1) := by decide +kernel
theorem d_Wo_byteOf_29 : decode prog_10_method_20_code 29 = .ok (.iushr, 1) := by decide +kernel
theorem d_Wo_byteOf_30 : decode prog_10_method_20_code 30 = .ok (.sipush 255, 3) := by decide +kernel
theorem d_Wo_byteOf_33 : decode prog_10_method_20_code 33 = .ok (.iand, 1) := by decide +kernel
theorem d_Wo_byteOf_34 : decode prog_10_method_20_code 34 = .ok (.ireturn, 1) := by decide +kernel
def rm_c_W_byteOf : Room := { frames := 0, cells := 0, slots := 0, locals := 0 }
set_option maxHeartbeats 4000000 in
set_option maxRecDepth 100000 in
theorem c_W_byteOf (l : Launch) (E : kE) (a j : Nat) (f : Nat → Int32) (hj : j < 1000) : Kp l y_Wo_byteOf (kW y_Wo_byteOf prog_10_method_20_code 2 (some .int)) rm_c_W_byteOf E [.ref a, .int (nI j)] [(a, .inl (E.2.1 0, 8, .inl f))] (fun r => r = nI (m_byte j (wv f 8))) := by
  refine Kp.ofI (cc := prog_10_method_20_code) (maxL := 2) (by decide) (Nat.le_of_ble_eq_true rfl) ?_
  intro p e s m args below meth c A ls Q hx hb hts hown hml hK hG hA hP hD hS hl hret
  have hl : lv_has ls 2 [(0, .ref a), (1, .int (nI j))] := hl
  refine lv_iload_n hx hb d_Wo_byteOf_0 rfl (lv_at hl 1 rfl) ?_
  refine kn_iflt (tgt := 10) hx hb (by omega) d_Wo_byteOf_1 (by decide) ?_
  refine lv_iload_n hx hb d_Wo_byteOf_4 rfl (lv_at hl 1 rfl) ?_
  refine lv_bipush (v := nI 32) hx hb d_Wo_byteOf_5 (by decide) ?_
  refine kn_lt (tgt := 12) hx hb (by omega) (by omega) d_Wo_byteOf_7 (by decide) (fun h7 => ?_) (fun h7 => ?_)
  · refine lv_aload_n hx hb d_Wo_byteOf_12 rfl (lv_at hl 0 rfl) ?_
    refine lv_bipush (v := nI 7) hx hb d_Wo_byteOf_13 (by decide) ?_
    refine lv_iload_n hx hb d_Wo_byteOf_15 rfl (lv_at hl 1 rfl) ?_
    refine lv_iconst (v := nI 4) hx hb d_Wo_byteOf_16 (by decide) ?_
    refine lv_idiv hx hb d_Wo_byteOf_17 (by decide) ?_
    refine k_top (pk_div (by omega) (by decide) (by decide)) ?_
    refine lv_isub hx hb d_Wo_byteOf_18 ?_
    refine k_top (pk_sub (by omega)) ?_
    refine k_iald hx hb hK hP 0 rfl (i := (7 - (j / 4))) (by omega) (by omega) d_Wo_byteOf_19 ?_
    refine lv_bipush (v := nI 24) hx hb d_Wo_byteOf_20 (by decide) ?_
    refine lv_bipush (v := nI 8) hx hb d_Wo_byteOf_22 (by decide) ?_
    refine lv_iload_n hx hb d_Wo_byteOf_24 rfl (lv_at hl 1 rfl) ?_
    refine lv_iconst (v := nI 4) hx hb d_Wo_byteOf_25 (by decide) ?_
    refine lv_irem hx hb d_Wo_byteOf_26 (by decide) ?_
    refine k_top (pk_rem (by omega) (by decide) (by decide)) ?_
    refine lv_imul hx hb d_Wo_byteOf_27 ?_
    refine k_top (pk_mul _ _) ?_
    refine lv_isub hx hb d_Wo_byteOf_28 ?_
    refine k_top (pk_sub (by omega)) ?_
    refine lv_iushr (v := ((f (7 - (j / 4))).toUInt32 >>> ((nI (24 - (8 * (j % 4)))).toUInt32 &&& Int32.toUInt32 31)).toInt32) hx hb d_Wo_byteOf_29 rfl ?_
    refine k_top (k_ushr (by omega)) ?_
    refine lv_sipush (v := nI 255) hx hb d_Wo_byteOf_30 (by decide) ?_
    refine lv_iand hx hb d_Wo_byteOf_33 ?_
    refine k_top (k_and255 _ (Nat.lt_of_le_of_lt (Nat.div_le_self _ _) (uw_lt' _))) ?_
    exact hret _ ls _ d_Wo_byteOf_34 (by rw [wv_byte (by omega), m_byte_lt (by omega)])
  · refine lv_iconst (v := nI 0) hx hb d_Wo_byteOf_10 (by decide) ?_
    exact hret _ ls _ d_Wo_byteOf_11 (by rw [m_byte_ge (by omega)])

abbrev y_Wo_setByte : MethodName := ⟨"WideStack$Words", "setByte", "([III)V"⟩
theorem d_Wo_setByte_0 : decode prog_10_method_21_code 0 = .ok (.iload_n 1, 1) := by decide +kernel
theorem d_Wo_setByte_1 : decode prog_10_method_21_code 1 = .ok (.ifCond .lt 31, 3) := by decide +kernel
theorem d_Wo_setByte_4 : decode prog_10_method_21_code 4 = .ok (.iload_n 1, 1) := by decide +kernel
theorem d_Wo_setByte_5 : decode prog_10_method_21_code 5 = .ok (.bipush 32, 2) := by decide +kernel
theorem d_Wo_setByte_7 : decode prog_10_method_21_code 7 = .ok (.if_icmp .ge 25, 3) := by decide +kernel
theorem d_Wo_setByte_10 : decode prog_10_method_21_code 10 = .ok (.aload_n 0, 1) := by decide +kernel
theorem d_Wo_setByte_11 : decode prog_10_method_21_code 11 = .ok (.bipush 7, 2) := by decide +kernel
theorem d_Wo_setByte_13 : decode prog_10_method_21_code 13 = .ok (.iload_n 1, 1) := by decide +kernel
theorem d_Wo_setByte_14 : decode prog_10_method_21_code 14 = .ok (.iconst 4, 1) := by decide +kernel
theorem d_Wo_setByte_15 : decode prog_10_method_21_code 15 = .ok (.idiv, 1) := by decide +kernel
theorem d_Wo_setByte_16 : decode prog_10_method_21_code 16 = .ok (.isub, 1) := by decide +kernel
theorem d_Wo_setByte_17 : decode prog_10_method_21_code 17 = .ok (.dup2, 1) := by decide +kernel
theorem d_Wo_setByte_18 : decode prog_10_method_21_code 18 = .ok (.iaload, 1) := by decide +kernel
theorem d_Wo_setByte_19 : decode prog_10_method_21_code 19 = .ok (.iload_n 2, 1) := by decide +kernel
theorem d_Wo_setByte_20 : decode prog_10_method_21_code 20 = .ok (.bipush 24, 2) := by decide +kernel
theorem d_Wo_setByte_22 : decode prog_10_method_21_code 22 = .ok (.bipush 8, 2) := by decide +kernel
theorem d_Wo_setByte_24 : decode prog_10_method_21_code 24 = .ok (.iload_n 1, 1) := by decide +kernel
theorem d_Wo_setByte_25 : decode prog_10_method_21_code 25 = .ok (.iconst 4, 1) := by decide +kernel
theorem d_Wo_setByte_26 : decode prog_10_method_21_code 26 = .ok (.irem, 1) := by decide +kernel
theorem d_Wo_setByte_27 : decode prog_10_method_21_code 27 = .ok (.imul, 1) := by decide +kernel
theorem d_Wo_setByte_28 : decode prog_10_method_21_code 28 = .ok (.isub, 1) := by decide +kernel
theorem d_Wo_setByte_29 : decode prog_10_method_21_code 29 = .ok (.ishl, 1) := by decide +kernel
theorem d_Wo_setByte_30 : decode prog_10_method_21_code 30 = .ok (.ior, 1) := by decide +kernel
theorem d_Wo_setByte_31 : decode prog_10_method_21_code 31 = .ok (.iastore, 1) := by decide +kernel
theorem d_Wo_setByte_32 : decode prog_10_method_21_code 32 = .ok (.return_, 1) := by decide +kernel
def rm_c_W_setByte : Room := { frames := 0, cells := 0, slots := 0, locals := 0 }
set_option maxHeartbeats 4000000 in
set_option maxRecDepth 100000 in
theorem c_W_setByte (l : Launch) (E : kE) (a j y : Nat) (f : Nat → Int32) (hj : j < 32) (hy : y < 256) (h0 : wv f 8 / 2 ^ (8 * (31 - j)) % 256 = 0) : Kv l y_Wo_setByte (kW y_Wo_setByte prog_10_method_21_code 3 (none)) rm_c_W_setByte E [.ref a, .int (nI j), .int (nI y)] [(a, .inl (E.2.1 0, 8, .inl f))] (S := Nat → Int32) (fun u => wv u 8 = wv f 8 + y * 2 ^ (8 * (31 - j))) (fun u => [(a, .inl (E.2.1 0, 8, .inl u))]) := by
  refine Kv.ofW (cc := prog_10_method_21_code) (maxL := 3) (by decide) (Nat.le_of_ble_eq_true rfl) ?_
  intro p e s m args below meth c A ls Q hx hb hts hown hml hK hG hA hP hD hS hl hret
  have hl : lv_has ls 3 [(0, .ref a), (1, .int (nI j)), (2, .int (nI y))] := hl
  refine lv_iload_n hx hb d_Wo_setByte_0 rfl (lv_at hl 1 rfl) ?_
  refine kn_iflt (tgt := 32) hx hb (by omega) d_Wo_setByte_1 (by decide) ?_
  refine lv_iload_n hx hb d_Wo_setByte_4 rfl (lv_at hl 1 rfl) ?_
  refine lv_bipush (v := nI 32) hx hb d_Wo_setByte_5 (by decide) ?_
  refine kn_ge (tgt := 32) hx hb (by omega) (by omega) d_Wo_setByte_7 (by decide) (fun h7 => ?_) (fun h7 => ?_)
  · omega
  · refine lv_aload_n hx hb d_Wo_setByte_10 rfl (lv_at hl 0 rfl) ?_
    refine lv_bipush (v := nI 7) hx hb d_Wo_setByte_11 (by decide) ?_
    refine lv_iload_n hx hb d_Wo_setByte_13 rfl (lv_at hl 1 rfl) ?_
    refine lv_iconst (v := nI 4) hx hb d_Wo_setByte_14 (by decide) ?_
    refine lv_idiv hx hb d_Wo_setByte_15 (by decide) ?_
    refine k_top (pk_div (by omega) (by decide) (by decide)) ?_
    refine lv_isub hx hb d_Wo_setByte_16 ?_
    refine k_top (pk_sub (by omega)) ?_
    refine lv_dup2_11 hx hb d_Wo_setByte_17 rfl rfl ?_
    refine k_iald hx hb hK hP 0 rfl (i := (7 - (j / 4))) (by omega) (by omega) d_Wo_setByte_18 ?_
    refine lv_iload_n hx hb d_Wo_setByte_19 rfl (lv_at hl 2 rfl) ?_
    refine lv_bipush (v := nI 24) hx hb d_Wo_setByte_20 (by decide) ?_
    refine lv_bipush (v := nI 8) hx hb d_Wo_setByte_22 (by decide) ?_
    refine lv_iload_n hx hb d_Wo_setByte_24 rfl (lv_at hl 1 rfl) ?_
    refine lv_iconst (v := nI 4) hx hb d_Wo_setByte_25 (by decide) ?_
    refine lv_irem hx hb d_Wo_setByte_26 (by decide) ?_
    refine k_top (pk_rem (by omega) (by decide) (by decide)) ?_
    refine lv_imul hx hb d_Wo_setByte_27 ?_
    refine k_top (pk_mul _ _) ?_
    refine lv_isub hx hb d_Wo_setByte_28 ?_
    refine k_top (pk_sub (by omega)) ?_
    refine lv_ishl hx hb d_Wo_setByte_29 ?_
    refine lv_ior hx hb d_Wo_setByte_30 ?_
    refine k_iast hx hb hK hP hD hS 0 rfl (i := (7 - (j / 4))) (by omega) (by omega) d_Wo_setByte_31 (fun H locs hP hD hS => ?_)
    have hP : va_P E.1 vwCl [(a, .inl (E.2.1 0, 8, .inl (upd f (7 - (j / 4)) ((f (7 - (j / 4))) ||| ((nI y) <<< ((nI (24 - (8 * (j % 4)))) &&& 31))))))] H := hP
    have hD : va_D A [(a, .inl (E.2.1 0, 8, .inl (upd f (7 - (j / 4)) ((f (7 - (j / 4))) ||| ((nI y) <<< ((nI (24 - (8 * (j % 4)))) &&& 31))))))] := hD
    exact hret _ ls _ _ _ d_Wo_setByte_32 (wv_setb hj hy h0) hP hS

abbrev y_Pr_append : MethodName := ⟨"WideStack$Program", "append", "(I)Z"⟩
theorem d_Pr_append_0 : decode prog_6_method_3_code 0 = .ok (.aload_n 0, 1) := by decide +kernel
theorem d_Pr_append_1 : decode prog_6_method_3_code 1 = .ok (.getfield 20, 3) := by decide +kernel
theorem d_Pr_append_4 : decode prog_6_method_3_code 4 = .ok (.bipush 96, 2) := by decide +kernel
theorem d_Pr_append_6 : decode prog_6_method_3_code 6 = .ok (.if_icmp .ge 14, 3) := by decide +kernel
theorem d_Pr_append_9 : decode prog_6_method_3_code 9 = .ok (.iload_n 1, 1) := by decide +kernel
theorem d_Pr_append_10 : decode prog_6_method_3_code 10 = .ok (.ifCond .lt 10, 3) := by decide +kernel
theorem d_Pr_append_13 : decode prog_6_method_3_code 13 = .ok (.iload_n 1, 1) := by decide +kernel
theorem d_Pr_append_14 : decode prog_6_method_3_code 14 = .ok (.sipush 255, 3) := by decide +kernel
theorem d_Pr_append_17 : decode prog_6_method_3_code 17 = .ok (.if_icmp .le 5, 3) := by decide +kernel
theorem d_Pr_append_20 : decode prog_6_method_3_code 20 = .ok (.iconst 0, 1) := by decide +kernel
theorem d_Pr_append_21 : decode prog_6_method_3_code 21 = .ok (.ireturn, 1) := by decide +kernel
theorem d_Pr_append_22 : decode prog_6_method_3_code 22 = .ok (.aload_n 0, 1) := by decide +kernel
theorem d_Pr_append_23 : decode prog_6_method_3_code 23 = .ok (.getfield 9, 3) := by decide +kernel
theorem d_Pr_append_26 : decode prog_6_method_3_code 26 = .ok (.aload_n 0, 1) := by decide +kernel
theorem d_Pr_append_27 : decode prog_6_method_3_code 27 = .ok (.getfield 20, 3) := by decide +kernel
theorem d_Pr_append_30 : decode prog_6_method_3_code 30 = .ok (.iload_n 1, 1) := by decide +kernel
theorem d_Pr_append_31 : decode prog_6_method_3_code 31 = .ok (.iastore, 1) := by decide +kernel
theorem d_Pr_append_32 : decode prog_6_method_3_code 32 = .ok (.aload_n 0, 1) := by decide +kernel
theorem d_Pr_append_33 : decode prog_6_method_3_code 33 = .ok (.getfield 13, 3) := by decide +kernel
theorem d_Pr_append_36 : decode prog_6_method_3_code 36 = .ok (.aload_n 0, 1) := by decide +kernel
theorem d_Pr_append_37 : decode prog_6_method_3_code 37 = .ok (.getfield 20, 3) := by decide +kernel
theorem d_Pr_append_40 : decode prog_6_method_3_code 40 = .ok (.aload_n 0, 1) := by decide +kernel
theorem d_Pr_append_41 : decode prog_6_method_3_code 41 = .ok (.getfield 20, 3) := by decide +kernel
theorem d_Pr_append_44 : decode prog_6_method_3_code 44 = .ok (.aload_n 0, 1) := by decide +kernel
theorem d_Pr_append_45 : decode prog_6_method_3_code 45 = .ok (.getfield 27, 3) := by decide +kernel
theorem d_Pr_append_48 : decode prog_6_method_3_code 48 = .ok (.if_icmp .ne 7, 3) := by decide +kernel
theorem d_Pr_append_51 : decode prog_6_method_3_code 51 = .ok (.iconst 1, 1) := by decide +kernel
theorem d_Pr_append_52 : decode prog_6_method_3_code 52 = .ok (.goto 4, 3) := by decide +kernel
theorem d_Pr_append_55 : decode prog_6_method_3_code 55 = .ok (.iconst 0, 1) := by decide +kernel
theorem d_Pr_append_56 : decode prog_6_method_3_code 56 = .ok (.bastore, 1) := by decide +kernel
theorem d_Pr_append_57 : decode prog_6_method_3_code 57 = .ok (.aload_n 0, 1) := by decide +kernel
theorem d_Pr_append_58 : decode prog_6_method_3_code 58 = .ok (.getfield 17, 3) := by decide +kernel
theorem d_Pr_append_61 : decode prog_6_method_3_code 61 = .ok (.aload_n 0, 1) := by decide +kernel
theorem d_Pr_append_62 : decode prog_6_method_3_code 62 = .ok (.getfield 20, 3) := by decide +kernel
theorem d_Pr_append_65 : decode prog_6_method_3_code 65 = .ok (.aload_n 0, 1) := by decide +kernel
theorem d_Pr_append_66 : decode prog_6_method_3_code 66 = .ok (.getfield 24, 3) := by decide +kernel
theorem d_Pr_append_69 : decode prog_6_method_3_code 69 = .ok (.iastore, 1) := by decide +kernel
theorem d_Pr_append_70 : decode prog_6_method_3_code 70 = .ok (.aload_n 0, 1) := by decide +kernel
theorem d_Pr_append_71 : decode prog_6_method_3_code 71 = .ok (.getfield 20, 3) := by decide +kernel
theorem d_Pr_append_74 : decode prog_6_method_3_code 74 = .ok (.aload_n 0, 1) := by decide +kernel
theorem d_Pr_append_75 : decode prog_6_method_3_code 75 = .ok (.getfield 27, 3) := by decide +kernel
theorem d_Pr_append_78 : decode prog_6_method_3_code 78 = .ok (.if_icmp .ne 26, 3) := by decide +kernel
theorem d_Pr_append_81 : decode prog_6_method_3_code 81 = .ok (.aload_n 0, 1) := by decide +kernel
theorem d_Pr_append_82 : decode prog_6_method_3_code 82 = .ok (.aload_n 0, 1) := by decide +kernel
theorem d_Pr_append_83 : decode prog_6_method_3_code 83 = .ok (.getfield 20, 3) := by decide +kernel
theorem d_Pr_append_86 : decode prog_6_method_3_code 86 = .ok (.putfield 24, 3) := by decide +kernel
theorem d_Pr_append_89 : decode prog_6_method_3_code 89 = .ok (.aload_n 0, 1) := by decide +kernel
theorem d_Pr_append_90 : decode prog_6_method_3_code 90 = .ok (.aload_n 0, 1) := by decide +kernel
theorem d_Pr_append_91 : decode prog_6_method_3_code 91 = .ok (.getfield 20, 3) := by decide +kernel
theorem d_Pr_append_94 : decode prog_6_method_3_code 94 = .ok (.iconst 1, 1) := by decide +kernel
theorem d_Pr_append_95 : decode prog_6_method_3_code 95 = .ok (.iadd, 1) := by decide +kernel
theorem d_Pr_append_96 : decode prog_6_method_3_code 96 = .ok (.iload_n 1, 1) := by decide +kernel
theorem d_Pr_append_97 : decode prog_6_method_3_code 97 = .ok (.invokestatic 30, 3) := by decide +kernel
theorem d_Pr_append_100 : decode prog_6_method_3_code 100 = .ok (.iadd, 1) := by decide +kernel
theorem d_Pr_append_101 : decode prog_6_method_3_code 101 = .ok (.putfield 27, 3) := by decide +kernel
theorem d_Pr_append_104 : decode prog_6_method_3_code 104 = .ok (.aload_n 0, 1) := by decide +kernel
theorem d_Pr_append_105 : decode prog_6_method_3_code 105 = .ok (.dup, 1) := by decide +kernel
theorem d_Pr_append_106 : decode prog_6_method_3_code 106 = .ok (.getfield 20, 3) := by decide +kernel
theorem d_Pr_append_109 : decode prog_6_method_3_code 109 = .ok (.iconst 1, 1) := by decide +kernel
theorem d_Pr_append_110 : decode prog_6_method_3_code 110 = .ok (.iadd, 1) := by decide +kernel
theorem d_Pr_append_111 : decode prog_6_method_3_code 111 = .ok (.putfield 20, 3) := by decide +kernel
theorem d_Pr_append_114 : decode prog_6_method_3_code 114 = .ok (.iconst 1, 1) := by decide +kernel
theorem d_Pr_append_115 : decode prog_6_method_3_code 115 = .ok (.ireturn, 1) := by decide +kernel
def rm_c_P_append : Room := { frames := 1, cells := 0, slots := 0, locals := 20 }
set_option maxHeartbeats 4000000 in
set_option maxRecDepth 100000 in
theorem c_P_append (l : Launch) (E : kE) (q qb qg qf len : Nat) (lat nxt : Int32) (fb fg ff : Nat → Int32) (b : Nat → Nat) (ok : okP len b fb fg ff lat nxt) (x : Int32) : Ki l y_Pr_append (kW y_Pr_append prog_6_method_3_code 2 (some .boolean)) rm_c_P_append E [.ref q, .int x] [(q, .inr (0, [.ref qb, .ref qg, .ref qf, .int (nI len), .int lat, .int nxt])), (qb, .inl (E.2.1 0, 96, .inl fb)), (qg, .inl (E.2.1 1, 96, .inl fg)), (qf, .inl (E.2.1 0, 96, .inl ff))] (S := (Nat → Int32) × (Nat → Int32) × (Nat → Int32) × Nat × Int32 × Int32) (fun r u => (∃ k, k < 256 ∧ x = nI k ∧ len < 96 ∧ r = nI 1 ∧ u.2.2.2.1 = len + 1 ∧ okP (len + 1) (va_up b len k) u.1 u.2.1 u.2.2.1 u.2.2.2.2.1 u.2.2.2.2.2) ∨ ((len = 96 ∨ x < 0 ∨ ¬ x ≤ nI 255) ∧ r = nI 0 ∧ u.2.2.2.1 = len ∧ okP len b u.1 u.2.1 u.2.2.1 u.2.2.2.2.1 u.2.2.2.2.2)) (fun u => [(q, .inr (0, [.ref qb, .ref qg, .ref qf, .int (nI u.2.2.2.1), .int u.2.2.2.2.1, .int u.2.2.2.2.2])), (qb, .inl (E.2.1 0, 96, .inl u.1)), (qg, .inl (E.2.1 1, 96, .inl u.2.1)), (qf, .inl (E.2.1 0, 96, .inl u.2.2.1))]) := by
  refine Ki.ofZ (cc := prog_6_method_3_code) (maxL := 2) (by decide) (Nat.le_of_ble_eq_true rfl) ?_
  intro p e s m args below meth c A ls Q hx hb hts hown hml hK hG hA hP hD hS hl hret
  have hl : lv_has ls 2 [(0, .ref q), (1, .int x)] := hl
  have hlen := ok.1
  have hnb := m_nb_le b len
  have hnx := ok.2.2.2.2.2
  subst hnx
  refine lv_aload_n hx hb d_Pr_append_0 rfl (lv_at hl 0 rfl) ?_
  refine va_get (D := E.1) (ci := 0) (v := .int (nI len)) (C := "WideStack$Program") (T := T_Pr) (N := 6) hx hb hts in_Pr hown hK hP 0 rfl rfl 3 (by decide) (hts _ t_93) (fun _ h9 => h9) rfl d_Pr_append_1 ?_
  refine lv_bipush (v := nI 96) hx hb d_Pr_append_4 (by decide) ?_
  refine kn_ge (tgt := 20) hx hb (by omega) (by omega) d_Pr_append_6 (by decide) (fun h6 => ?_) (fun h6 => ?_)
  · refine lv_iconst (v := nI 0) hx hb d_Pr_append_20 (by decide) ?_
    first | exact hret _ ls _ _ _ (fb, fg, ff, len, lat, nI (m_nb b len)) d_Pr_append_21 (by decide) (Or.inr ⟨Or.inl (by omega), rfl, rfl, ok⟩) hP hS | exact hret _ ls _ _ _ (fb, fg, ff, len, lat, nI (m_nb b len)) d_Pr_append_21 (by decide) (Or.inr ⟨Or.inr (Or.inl h10), rfl, rfl, ok⟩) hP hS | exact hret _ ls _ _ _ (fb, fg, ff, len, lat, nI (m_nb b len)) d_Pr_append_21 (by decide) (Or.inr ⟨Or.inr (Or.inr h17), rfl, rfl, ok⟩) hP hS
  · refine lv_iload_n hx hb d_Pr_append_9 rfl (lv_at hl 1 rfl) ?_
    refine lv_if_lt (tgt := 20) hx hb d_Pr_append_10 (by decide) (fun h10 => ?_) (fun h10 => ?_)
    · refine lv_iconst (v := nI 0) hx hb d_Pr_append_20 (by decide) ?_
      first | exact hret _ ls _ _ _ (fb, fg, ff, len, lat, nI (m_nb b len)) d_Pr_append_21 (by decide) (Or.inr ⟨Or.inl (by omega), rfl, rfl, ok⟩) hP hS | exact hret _ ls _ _ _ (fb, fg, ff, len, lat, nI (m_nb b len)) d_Pr_append_21 (by decide) (Or.inr ⟨Or.inr (Or.inl h10), rfl, rfl, ok⟩) hP hS | exact hret _ ls _ _ _ (fb, fg, ff, len, lat, nI (m_nb b len)) d_Pr_append_21 (by decide) (Or.inr ⟨Or.inr (Or.inr h17), rfl, rfl, ok⟩) hP hS
    · refine lv_iload_n hx hb d_Pr_append_13 rfl (lv_at hl 1 rfl) ?_
      refine lv_sipush (v := nI 255) hx hb d_Pr_append_14 (by decide) ?_
      refine lv_icmp_le (tgt := 22) hx hb d_Pr_append_17 (by decide) (fun h17 => ?_) (fun h17 => ?_)
      · obtain ⟨k, hk, rfl⟩ := nI_of2 (n := 255) (M := nI 255) (by decide) h10 h17
        refine lv_aload_n hx hb d_Pr_append_22 rfl (lv_at hl 0 rfl) ?_
        refine va_get (D := E.1) (ci := 0) (v := .ref qb) (C := "WideStack$Program") (T := T_Pr) (N := 6) hx hb hts in_Pr hown hK hP 0 rfl rfl 0 (by decide) (hts _ t_90) (fun _ h9 => h9) rfl d_Pr_append_23 ?_
        refine lv_aload_n hx hb d_Pr_append_26 rfl (lv_at hl 0 rfl) ?_
        refine va_get (D := E.1) (ci := 0) (v := .int (nI len)) (C := "WideStack$Program") (T := T_Pr) (N := 6) hx hb hts in_Pr hown hK hP 0 rfl rfl 3 (by decide) (hts _ t_93) (fun _ h9 => h9) rfl d_Pr_append_27 ?_
        refine lv_iload_n hx hb d_Pr_append_30 rfl (lv_at hl 1 rfl) ?_
        refine k_iast hx hb hK hP hD hS 1 rfl (i := len) (by omega) (by omega) d_Pr_append_31 (fun H locs hP hD hS => ?_)
        have hP : va_P E.1 vwCl [(q, .inr (0, [.ref qb, .ref qg, .ref qf, .int (nI len), .int lat, .int (nI (m_nb b len))])), (qb, .inl (E.2.1 0, 96, .inl (upd fb len (nI k)))), (qg, .inl (E.2.1 1, 96, .inl fg)), (qf, .inl (E.2.1 0, 96, .inl ff))] H := hP
        have hD : va_D A [(q, .inr (0, [.ref qb, .ref qg, .ref qf, .int (nI len), .int lat, .int (nI (m_nb b len))])), (qb, .inl (E.2.1 0, 96, .inl (upd fb len (nI k)))), (qg, .inl (E.2.1 1, 96, .inl fg)), (qf, .inl (E.2.1 0, 96, .inl ff))] := hD
        refine lv_aload_n hx hb d_Pr_append_32 rfl (lv_at hl 0 rfl) ?_
        refine va_get (D := E.1) (ci := 0) (v := .ref qg) (C := "WideStack$Program") (T := T_Pr) (N := 6) hx hb hts in_Pr hown hK hP 0 rfl rfl 1 (by decide) (hts _ t_91) (fun _ h9 => h9) rfl d_Pr_append_33 ?_
        refine lv_aload_n hx hb d_Pr_append_36 rfl (lv_at hl 0 rfl) ?_
        refine va_get (D := E.1) (ci := 0) (v := .int (nI len)) (C := "WideStack$Program") (T := T_Pr) (N := 6) hx hb hts in_Pr hown hK hP 0 rfl rfl 3 (by decide) (hts _ t_93) (fun _ h9 => h9) rfl d_Pr_append_37 ?_
        refine lv_aload_n hx hb d_Pr_append_40 rfl (lv_at hl 0 rfl) ?_
        refine va_get (D := E.1) (ci := 0) (v := .int (nI len)) (C := "WideStack$Program") (T := T_Pr) (N := 6) hx hb hts in_Pr hown hK hP 0 rfl rfl 3 (by decide) (hts _ t_93) (fun _ h9 => h9) rfl d_Pr_append_41 ?_
        refine lv_aload_n hx hb d_Pr_append_44 rfl (lv_at hl 0 rfl) ?_
        refine va_get (D := E.1) (ci := 0) (v := .int (nI (m_nb b len))) (C := "WideStack$Program") (T := T_Pr) (N := 6) hx hb hts in_Pr hown hK hP 0 rfl rfl 5 (by decide) (hts _ t_95) (fun _ h9 => h9) rfl d_Pr_append_45 ?_
        refine kn_ne (tgt := 55) hx hb (by omega) (by omega) d_Pr_append_48 (by decide) (fun h48 => ?_) (fun h48 => ?_)
        · refine lv_iconst (v := nI 0) hx hb d_Pr_append_55 (by decide) ?_
          refine k_zast hx hb hK hP hD hS 2 rfl (i := len) (by omega) (by omega) (by decide) d_Pr_append_56 (fun H locs hP hD hS => ?_)
          have hP : va_P E.1 vwCl [(q, .inr (0, [.ref qb, .ref qg, .ref qf, .int (nI len), .int lat, .int (nI (m_nb b len))])), (qb, .inl (E.2.1 0, 96, .inl (upd fb len (nI k)))), (qg, .inl (E.2.1 1, 96, .inl (upd fg len (nI 0)))), (qf, .inl (E.2.1 0, 96, .inl ff))] H := hP
          have hD : va_D A [(q, .inr (0, [.ref qb, .ref qg, .ref qf, .int (nI len), .int lat, .int (nI (m_nb b len))])), (qb, .inl (E.2.1 0, 96, .inl (upd fb len (nI k)))), (qg, .inl (E.2.1 1, 96, .inl (upd fg len (nI 0)))), (qf, .inl (E.2.1 0, 96, .inl ff))] := hD
          refine lv_aload_n hx hb d_Pr_append_57 rfl (lv_at hl 0 rfl) ?_
          refine va_get (D := E.1) (ci := 0) (v := .ref qf) (C := "WideStack$Program") (T := T_Pr) (N := 6) hx hb hts in_Pr hown hK hP 0 rfl rfl 2 (by decide) (hts _ t_92) (fun _ h9 => h9) rfl d_Pr_append_58 ?_
          refine lv_aload_n hx hb d_Pr_append_61 rfl (lv_at hl 0 rfl) ?_
          refine va_get (D := E.1) (ci := 0) (v := .int (nI len)) (C := "WideStack$Program") (T := T_Pr) (N := 6) hx hb hts in_Pr hown hK hP 0 rfl rfl 3 (by decide) (hts _ t_93) (fun _ h9 => h9) rfl d_Pr_append_62 ?_
          refine lv_aload_n hx hb d_Pr_append_65 rfl (lv_at hl 0 rfl) ?_
          refine va_get (D := E.1) (ci := 0) (v := .int lat) (C := "WideStack$Program") (T := T_Pr) (N := 6) hx hb hts in_Pr hown hK hP 0 rfl rfl 4 (by decide) (hts _ t_94) (fun _ h9 => h9) rfl d_Pr_append_66 ?_
          refine k_iast hx hb hK hP hD hS 3 rfl (i := len) (by omega) (by omega) d_Pr_append_69 (fun H locs hP hD hS => ?_)
          have hP : va_P E.1 vwCl [(q, .inr (0, [.ref qb, .ref qg, .ref qf, .int (nI len), .int lat, .int (nI (m_nb b len))])), (qb, .inl (E.2.1 0, 96, .inl (upd fb len (nI k)))), (qg, .inl (E.2.1 1, 96, .inl (upd fg len (nI 0)))), (qf, .inl (E.2.1 0, 96, .inl (upd ff len lat)))] H := hP
          have hD : va_D A [(q, .inr (0, [.ref qb, .ref qg, .ref qf, .int (nI len), .int lat, .int (nI (m_nb b len))])), (qb, .inl (E.2.1 0, 96, .inl (upd fb len (nI k)))), (qg, .inl (E.2.1 1, 96, .inl (upd fg len (nI 0)))), (qf, .inl (E.2.1 0, 96, .inl (upd ff len lat)))] := hD
          refine lv_aload_n hx hb d_Pr_append_70 rfl (lv_at hl 0 rfl) ?_
          refine va_get (D := E.1) (ci := 0) (v := .int (nI len)) (C := "WideStack$Program") (T := T_Pr) (N := 6) hx hb hts in_Pr hown hK hP 0 rfl rfl 3 (by decide) (hts _ t_93) (fun _ h9 => h9) rfl d_Pr_append_71 ?_
          refine lv_aload_n hx hb d_Pr_append_74 rfl (lv_at hl 0 rfl) ?_
          refine va_get (D := E.1) (ci := 0) (v := .int (nI (m_nb b len))) (C := "WideStack$Program") (T := T_Pr) (N := 6) hx hb hts in_Pr hown hK hP 0 rfl rfl 5 (by decide) (hts _ t_95) (fun _ h9 => h9) rfl d_Pr_append_75 ?_
          refine kn_ne (tgt := 104) hx hb (by omega) (by omega) d_Pr_append_78 (by decide) (fun h78 => ?_) (fun h78 => ?_)
          · refine lv_aload_n hx hb d_Pr_append_104 rfl (lv_at hl 0 rfl) ?_
            refine lv_dup hx hb d_Pr_append_105 rfl ?_
            refine va_get (D := E.1) (ci := 0) (v := .int (nI len)) (C := "WideStack$Program") (T := T_Pr) (N := 6) hx hb hts in_Pr hown hK hP 0 rfl rfl 3 (by decide) (hts _ t_93) (fun _ h9 => h9) rfl d_Pr_append_106 ?_
            refine lv_iconst (v := nI 1) hx hb d_Pr_append_109 (by decide) ?_
            refine lv_iadd hx hb d_Pr_append_110 ?_
            refine k_top (nI_add _ _) ?_
            refine va_put (D := E.1) (ci := 0) (v := .int (nI (len + 1))) (ty := .int) (C := "WideStack$Program") (T := T_Pr) (N := 6) hx hb hts in_Pr ty_Pr tyok_Pr nm_Pr hown hK hP hD hS 0 rfl rfl 3 (by decide) (hts _ t_93) (fun _ h9 => h9) rfl (by decide +kernel) rfl rfl (Nat.le_of_ble_eq_true rfl) d_Pr_append_111 (fun H locs hP hD hS => ?_)
            have hP : va_P E.1 vwCl [(q, .inr (0, [.ref qb, .ref qg, .ref qf, .int (nI (len + 1)), .int lat, .int (nI (m_nb b len))])), (qb, .inl (E.2.1 0, 96, .inl (upd fb len (nI k)))), (qg, .inl (E.2.1 1, 96, .inl (upd fg len (nI 0)))), (qf, .inl (E.2.1 0, 96, .inl (upd ff len lat)))] H := hP
            have hD : va_D A [(q, .inr (0, [.ref qb, .ref qg, .ref qf, .int (nI (len + 1)), .int lat, .int (nI (m_nb b len))])), (qb, .inl (E.2.1 0, 96, .inl (upd fb len (nI k)))), (qg, .inl (E.2.1 1, 96, .inl (upd fg len (nI 0)))), (qf, .inl (E.2.1 0, 96, .inl (upd ff len lat)))] := hD
            refine lv_iconst (v := nI 1) hx hb d_Pr_append_114 (by decide) ?_
            first | exact hret _ ls _ _ _ (upd fb len (nI k), upd fg len (nI 1), upd ff len lat, len + 1, nI len, nI (len + 1 + m_numl k)) d_Pr_append_115 (by decide) (Or.inl ⟨k, by omega, rfl, h6, rfl, rfl, okP_beg ok h6 (by omega) h48⟩) hP hS | exact hret _ ls _ _ _ (upd fb len (nI k), upd fg len (nI 0), upd ff len lat, len + 1, lat, nI (m_nb b len)) d_Pr_append_115 (by decide) (Or.inl ⟨k, by omega, rfl, h6, rfl, rfl, okP_mid ok h6 (by omega) h48⟩) hP hS
          · exact absurd h78 h48
        · refine lv_iconst (v := nI 1) hx hb d_Pr_append_51 (by decide) ?_
          refine lv_goto (tgt := 56) hx hb d_Pr_append_52 (by decide) ?_
          refine k_zast hx hb hK hP hD hS 2 rfl (i := len) (by omega) (by omega) (by decide) d_Pr_append_56 (fun H locs hP hD hS => ?_)
          have hP : va_P E.1 vwCl [(q, .inr (0, [.ref qb, .ref qg, .ref qf, .int (nI len), .int lat, .int (nI (m_nb b len))])), (qb, .inl (E.2.1 0, 96, .inl (upd fb len (nI k)))), (qg, .inl (E.2.1 1, 96, .inl (upd fg len (nI 1)))), (qf, .inl (E.2.1 0, 96, .inl ff))] H := hP
          have hD : va_D A [(q, .inr (0, [.ref qb, .ref qg, .ref qf, .int (nI len), .int lat, .int (nI (m_nb b len))])), (qb, .inl (E.2.1 0, 96, .inl (upd fb len (nI k)))), (qg, .inl (E.2.1 1, 96, .inl (upd fg len (nI 1)))), (qf, .inl (E.2.1 0, 96, .inl ff))] := hD
          refine lv_aload_n hx hb d_Pr_append_57 rfl (lv_at hl 0 rfl) ?_
          refine va_get (D := E.1) (ci := 0) (v := .ref qf) (C := "WideStack$Program") (T := T_Pr) (N := 6) hx hb hts in_Pr hown hK hP 0 rfl rfl 2 (by decide) (hts _ t_92) (fun _ h9 => h9) rfl d_Pr_append_58 ?_
          refine lv_aload_n hx hb d_Pr_append_61 rfl (lv_at hl 0 rfl) ?_
          refine va_get (D := E.1) (ci := 0) (v := .int (nI len)) (C := "WideStack$Program") (T := T_Pr) (N := 6) hx hb hts in_Pr hown hK hP 0 rfl rfl 3 (by decide) (hts _ t_93) (fun _ h9 => h9) rfl d_Pr_append_62 ?_
          refine lv_aload_n hx hb d_Pr_append_65 rfl (lv_at hl 0 rfl) ?_
          refine va_get (D := E.1) (ci := 0) (v := .int lat) (C := "WideStack$Program") (T := T_Pr) (N := 6) hx hb hts in_Pr hown hK hP 0 rfl rfl 4 (by decide) (hts _ t_94) (fun _ h9 => h9) rfl d_Pr_append_66 ?_
          refine k_iast hx hb hK hP hD hS 3 rfl (i := len) (by omega) (by omega) d_Pr_append_69 (fun H locs hP hD hS => ?_)
          have hP : va_P E.1 vwCl [(q, .inr (0, [.ref qb, .ref qg, .ref qf, .int (nI len), .int lat, .int (nI (m_nb b len))])), (qb, .inl (E.2.1 0, 96, .inl (upd fb len (nI k)))), (qg, .inl (E.2.1 1, 96, .inl (upd fg len (nI 1)))), (qf, .inl (E.2.1 0, 96, .inl (upd ff len lat)))] H := hP
          have hD : va_D A [(q, .inr (0, [.ref qb, .ref qg, .ref qf, .int (nI len), .int lat, .int (nI (m_nb b len))])), (qb, .inl (E.2.1 0, 96, .inl (upd fb len (nI k)))), (qg, .inl (E.2.1 1, 96, .inl (upd fg len (nI 1)))), (qf, .inl (E.2.1 0, 96, .inl (upd ff len lat)))] := hD
          refine lv_aload_n hx hb d_Pr_append_70 rfl (lv_at hl 0 rfl) ?_
          refine va_get (D := E.1) (ci := 0) (v := .int (nI len)) (C := "WideStack$Program") (T := T_Pr) (N := 6) hx hb hts in_Pr hown hK hP 0 rfl rfl 3 (by decide) (hts _ t_93) (fun _ h9 => h9) rfl d_Pr_append_71 ?_
          refine lv_aload_n hx hb d_Pr_append_74 rfl (lv_at hl 0 rfl) ?_
          refine va_get (D := E.1) (ci := 0) (v := .int (nI (m_nb b len))) (C := "WideStack$Program") (T := T_Pr) (N := 6) hx hb hts in_Pr hown hK hP 0 rfl rfl 5 (by decide) (hts _ t_95) (fun _ h9 => h9) rfl d_Pr_append_75 ?_
          refine kn_ne (tgt := 104) hx hb (by omega) (by omega) d_Pr_append_78 (by decide) (fun h78 => ?_) (fun h78 => ?_)
          · exact absurd h48 h78
          · refine lv_aload_n hx hb d_Pr_append_81 rfl (lv_at hl 0 rfl) ?_
            refine lv_aload_n hx hb d_Pr_append_82 rfl (lv_at hl 0 rfl) ?_
            refine va_get (D := E.1) (ci := 0) (v := .int (nI len)) (C := "WideStack$Program") (T := T_Pr) (N := 6) hx hb hts in_Pr hown hK hP 0 rfl rfl 3 (by decide) (hts _ t_93) (fun _ h9 => h9) rfl d_Pr_append_83 ?_
            refine va_put (D := E.1) (ci := 0) (v := .int (nI len)) (ty := .int) (C := "WideStack$Program") (T := T_Pr) (N := 6) hx hb hts in_Pr ty_Pr tyok_Pr nm_Pr hown hK hP hD hS 0 rfl rfl 4 (by decide) (hts _ t_94) (fun _ h9 => h9) rfl (by decide +kernel) rfl rfl (Nat.le_of_ble_eq_true rfl) d_Pr_append_86 (fun H locs hP hD hS => ?_)
            have hP : va_P E.1 vwCl [(q, .inr (0, [.ref qb, .ref qg, .ref qf, .int (nI len), .int (nI len), .int (nI (m_nb b len))])), (qb, .inl (E.2.1 0, 96, .inl (upd fb len (nI k)))), (qg, .inl (E.2.1 1, 96, .inl (upd fg len (nI 1)))), (qf, .inl (E.2.1 0, 96, .inl (upd ff len lat)))] H := hP
            have hD : va_D A [(q, .inr (0, [.ref qb, .ref qg, .ref qf, .int (nI len), .int (nI len), .int (nI (m_nb b len))])), (qb, .inl (E.2.1 0, 96, .inl (upd fb len (nI k)))), (qg, .inl (E.2.1 1, 96, .inl (upd fg len (nI 1)))), (qf, .inl (E.2.1 0, 96, .inl (upd ff len lat)))] := hD
            refine lv_aload_n hx hb d_Pr_append_89 rfl (lv_at hl 0 rfl) ?_
            refine lv_aload_n hx hb d_Pr_append_90 rfl (lv_at hl 0 rfl) ?_
            refine va_get (D := E.1) (ci := 0) (v := .int (nI len)) (C := "WideStack$Program") (T := T_Pr) (N := 6) hx hb hts in_Pr hown hK hP 0 rfl rfl 3 (by decide) (hts _ t_93) (fun _ h9 => h9) rfl d_Pr_append_91 ?_
            refine lv_iconst (v := nI 1) hx hb d_Pr_append_94 (by decide) ?_
            refine lv_iadd hx hb d_Pr_append_95 ?_
            refine k_top (nI_add _ _) ?_
            refine lv_iload_n hx hb d_Pr_append_96 rfl (lv_at hl 1 rfl) ?_
            refine k_Sp (As := [.int (nI k)]) (rest := [.int (nI (len + 1)), .ref q]) ⟨hx, hb, hml, hown, hts⟩ (c_I_numberLength l E k (by omega)) (k_cwS 1 hts t_263 t_264 t_72 t_265 (by decide +kernel) ⟨Nat.le_of_ble_eq_true rfl, Nat.le_of_ble_eq_true rfl⟩) hK hG hA hP hD hS [] rfl (by decide) rfl hl.1 rfl (Nat.le_of_ble_eq_true rfl) d_Pr_append_97 ⟨Nat.zero_le _, Nat.zero_le _⟩ (fun r97 hu97 => ?_)
            subst hu97
            refine lv_iadd hx hb d_Pr_append_100 ?_
            refine k_top (nI_add _ _) ?_
            refine va_put (D := E.1) (ci := 0) (v := .int (nI ((len + 1) + (m_numl k)))) (ty := .int) (C := "WideStack$Program") (T := T_Pr) (N := 6) hx hb hts in_Pr ty_Pr tyok_Pr nm_Pr hown hK hP hD hS 0 rfl rfl 5 (by decide) (hts _ t_95) (fun _ h9 => h9) rfl (by decide +kernel) rfl rfl (Nat.le_of_ble_eq_true rfl) d_Pr_append_101 (fun H locs hP hD hS => ?_)
            have hP : va_P E.1 vwCl [(q, .inr (0, [.ref qb, .ref qg, .ref qf, .int (nI len), .int (nI len), .int (nI ((len + 1) + (m_numl k)))])), (qb, .inl (E.2.1 0, 96, .inl (upd fb len (nI k)))), (qg, .inl (E.2.1 1, 96, .inl (upd fg len (nI 1)))), (qf, .inl (E.2.1 0, 96, .inl (upd ff len lat)))] H := hP
            have hD : va_D A [(q, .inr (0, [.ref qb, .ref qg, .ref qf, .int (nI len), .int (nI len), .int (nI ((len + 1) + (m_numl k)))])), (qb, .inl (E.2.1 0, 96, .inl (upd fb len (nI k)))), (qg, .inl (E.2.1 1, 96, .inl (upd fg len (nI 1)))), (qf, .inl (E.2.1 0, 96, .inl (upd ff len lat)))] := hD
            refine lv_aload_n hx hb d_Pr_append_104 rfl (lv_at hl 0 rfl) ?_
            refine lv_dup hx hb d_Pr_append_105 rfl ?_
            refine va_get (D := E.1) (ci := 0) (v := .int (nI len)) (C := "WideStack$Program") (T := T_Pr) (N := 6) hx hb hts in_Pr hown hK hP 0 rfl rfl 3 (by decide) (hts _ t_93) (fun _ h9 => h9) rfl d_Pr_append_106 ?_
            refine lv_iconst (v := nI 1) hx hb d_Pr_append_109 (by decide) ?_
            refine lv_iadd hx hb d_Pr_append_110 ?_
            refine k_top (nI_add _ _) ?_
            refine va_put (D := E.1) (ci := 0) (v := .int (nI (len + 1))) (ty := .int) (C := "WideStack$Program") (T := T_Pr) (N := 6) hx hb hts in_Pr ty_Pr tyok_Pr nm_Pr hown hK hP hD hS 0 rfl rfl 3 (by decide) (hts _ t_93) (fun _ h9 => h9) rfl (by decide +kernel) rfl rfl (Nat.le_of_ble_eq_true rfl) d_Pr_append_111 (fun H locs hP hD hS => ?_)
            have hP : va_P E.1 vwCl [(q, .inr (0, [.ref qb, .ref qg, .ref qf, .int (nI (len + 1)), .int (nI len), .int (nI ((len + 1) + (m_numl k)))])), (qb, .inl (E.2.1 0, 96, .inl (upd fb len (nI k)))), (qg, .inl (E.2.1 1, 96, .inl (upd fg len (nI 1)))), (qf, .inl (E.2.1 0, 96, .inl (upd ff len lat)))] H := hP
            have hD : va_D A [(q, .inr (0, [.ref qb, .ref qg, .ref qf, .int (nI (len + 1)), .int (nI len), .int (nI ((len + 1) + (m_numl k)))])), (qb, .inl (E.2.1 0, 96, .inl (upd fb len (nI k)))), (qg, .inl (E.2.1 1, 96, .inl (upd fg len (nI 1)))), (qf, .inl (E.2.1 0, 96, .inl (upd ff len lat)))] := hD
            refine lv_iconst (v := nI 1) hx hb d_Pr_append_114 (by decide) ?_
            first | exact hret _ ls _ _ _ (upd fb len (nI k), upd fg len (nI 1), upd ff len lat, len + 1, nI len, nI (len + 1 + m_numl k)) d_Pr_append_115 (by decide) (Or.inl ⟨k, by omega, rfl, h6, rfl, rfl, okP_beg ok h6 (by omega) h48⟩) hP hS | exact hret _ ls _ _ _ (upd fb len (nI k), upd fg len (nI 0), upd ff len lat, len + 1, lat, nI (m_nb b len)) d_Pr_append_115 (by decide) (Or.inl ⟨k, by omega, rfl, h6, rfl, rfl, okP_mid ok h6 (by omega) h48⟩) hP hS
      · refine lv_iconst (v := nI 0) hx hb d_Pr_append_20 (by decide) ?_
        first | exact hret _ ls _ _ _ (fb, fg, ff, len, lat, nI (m_nb b len)) d_Pr_append_21 (by decide) (Or.inr ⟨Or.inl (by omega), rfl, rfl, ok⟩) hP hS | exact hret _ ls _ _ _ (fb, fg, ff, len, lat, nI (m_nb b len)) d_Pr_append_21 (by decide) (Or.inr ⟨Or.inr (Or.inl h10), rfl, rfl, ok⟩) hP hS | exact hret _ ls _ _ _ (fb, fg, ff, len, lat, nI (m_nb b len)) d_Pr_append_21 (by decide) (Or.inr ⟨Or.inr (Or.inr h17), rfl, rfl, ok⟩) hP hS

