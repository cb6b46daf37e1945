/-! products -/
theorem lp_mul {z : Nat → Int32} {i j a b cy W0 Xj : Nat} (hk : i + j < 16) (hs : wv z 16 + cy * kK ^ (i + j) = W0 + a * kK ^ i * Xj) : wv (upd z (i + j) (nI (a * b + uw (z (i + j)) + cy))) 16 + (a * b + uw (z (i + j)) + cy) / 4294967296 * kK ^ (i + (j + 1)) = W0 + a * kK ^ i * (Xj + b * kK ^ j) := by
  have h1 := wv_upd (f := z) (k := i + j) (x := nI (a * b + uw (z (i + j)) + cy)) (n := 16) hk
  rw [uw_nI] at h1
  have h2 := k_mdm (a * b + uw (z (i + j)) + cy) kK (kK ^ (i + j))
  have e1 : kK * kK ^ (i + j) = kK ^ (i + (j + 1)) := by rw [← Nat.add_assoc, Nat.pow_succ, Nat.mul_comm]
  have e2 : a * kK ^ i * (Xj + b * kK ^ j) = a * kK ^ i * Xj + a * b * kK ^ (i + j) := by
    rw [Nat.mul_add, Nat.pow_add]
    congr 1
    rw [Nat.mul_assoc, Nat.mul_assoc, Nat.mul_left_comm (kK ^ i) b]
  rw [e1, Nat.add_mul, Nat.add_mul] at h2
  rw [e2]
  rw [kK_eq] at *
  omega
theorem lp_mul2 {z : Nat → Int32} {i a cy W0 X : Nat} (hk : i + 8 < 16) (h0 : z (i + 8) = 0) (hc : cy < 4294967296) (hs : wv z 16 + cy * kK ^ (i + 8) = W0 + a * kK ^ i * X) : wv (upd z (i + 8) (nI cy)) 16 = W0 + a * kK ^ i * X := by
  have h1 := wv_upd (f := z) (k := i + 8) (x := nI cy) (n := 16) hk
  rw [uw_nI' hc, h0, uw_0, Nat.zero_mul] at h1
  omega
theorem mul_bd {a b z c : Nat} (ha : a < 4294967296) (hb : b < 4294967296) (hz : z < 4294967296) (hc : c < 4294967296) : a * b + z + c < 18446744073709551616 := by
  have h := Nat.mul_le_mul (show a ≤ 4294967295 by omega) (show b ≤ 4294967295 by omega)
  omega

abbrev y_Wo_multiply : MethodName := ⟨"WideStack$Words", "multiply", "([I[I[I)V"⟩
theorem d_Wo_multiply_0 : decode prog_10_method_15_code 0 = .ok (.aload_n 2, 1) := by decide +kernel
theorem d_Wo_multiply_1 : decode prog_10_method_15_code 1 = .ok (.iconst 0, 1) := by decide +kernel
theorem d_Wo_multiply_2 : decode prog_10_method_15_code 2 = .ok (.invokestatic 7, 3) := by decide +kernel
theorem d_Wo_multiply_5 : decode prog_10_method_15_code 5 = .ok (.iconst 0, 1) := by decide +kernel
theorem d_Wo_multiply_6 : decode prog_10_method_15_code 6 = .ok (.istore_n 3, 1) := by decide +kernel
theorem d_Wo_multiply_7 : decode prog_10_method_15_code 7 = .ok (.iload_n 3, 1) := by decide +kernel
theorem d_Wo_multiply_8 : decode prog_10_method_15_code 8 = .ok (.bipush 8, 2) := by decide +kernel
theorem d_Wo_multiply_10 : decode prog_10_method_15_code 10 = .ok (.if_icmp .ge 88, 3) := by decide +kernel
theorem d_Wo_multiply_13 : decode prog_10_method_15_code 13 = .ok (.lconst 0, 1) := by decide +kernel
theorem d_Wo_multiply_14 : decode prog_10_method_15_code 14 = .ok (.lstore 4, 2) := by decide +kernel
theorem d_Wo_multiply_16 : decode prog_10_method_15_code 16 = .ok (.iconst 0, 1) := by decide +kernel
theorem d_Wo_multiply_17 : decode prog_10_method_15_code 17 = .ok (.istore 6, 2) := by decide +kernel
theorem d_Wo_multiply_19 : decode prog_10_method_15_code 19 = .ok (.iload 6, 2) := by decide +kernel
theorem d_Wo_multiply_21 : decode prog_10_method_15_code 21 = .ok (.bipush 8, 2) := by decide +kernel
theorem d_Wo_multiply_23 : decode prog_10_method_15_code 23 = .ok (.if_icmp .ge 60, 3) := by decide +kernel
theorem d_Wo_multiply_26 : decode prog_10_method_15_code 26 = .ok (.aload_n 0, 1) := by decide +kernel
theorem d_Wo_multiply_27 : decode prog_10_method_15_code 27 = .ok (.iload_n 3, 1) := by decide +kernel
theorem d_Wo_multiply_28 : decode prog_10_method_15_code 28 = .ok (.iaload, 1) := by decide +kernel
theorem d_Wo_multiply_29 : decode prog_10_method_15_code 29 = .ok (.i2l, 1) := by decide +kernel
theorem d_Wo_multiply_30 : decode prog_10_method_15_code 30 = .ok (.ldc2_w 28, 3) := by decide +kernel
theorem d_Wo_multiply_33 : decode prog_10_method_15_code 33 = .ok (.land, 1) := by decide +kernel
theorem d_Wo_multiply_34 : decode prog_10_method_15_code 34 = .ok (.aload_n 1, 1) := by decide +kernel
theorem d_Wo_multiply_35 : decode prog_10_method_15_code 35 = .ok (.iload 6, 2) := by decide +kernel
theorem d_Wo_multiply_37 : decode prog_10_method_15_code 37 = .ok (.iaload, 1) := by decide +kernel
theorem d_Wo_multiply_38 : decode prog_10_method_15_code 38 = .ok (.i2l, 1) := by decide +kernel
theorem d_Wo_multiply_39 : decode prog_10_method_15_code 39 = .ok (.ldc2_w 28, 3) := by decide +kernel
theorem d_Wo_multiply_42 : decode prog_10_method_15_code 42 = .ok (.land, 1) := by decide +kernel
theorem d_Wo_multiply_43 : decode prog_10_method_15_code 43 = .ok (.lmul, 1) := by decide +kernel
theorem d_Wo_multiply_44 : decode prog_10_method_15_code 44 = .ok (.aload_n 2, 1) := by decide +kernel
theorem d_Wo_multiply_45 : decode prog_10_method_15_code 45 = .ok (.iload_n 3, 1) := by decide +kernel
theorem d_Wo_multiply_46 : decode prog_10_method_15_code 46 = .ok (.iload 6, 2) := by decide +kernel
theorem d_Wo_multiply_48 : decode prog_10_method_15_code 48 = .ok (.iadd, 1) := by decide +kernel
theorem d_Wo_multiply_49 : decode prog_10_method_15_code 49 = .ok (.iaload, 1) := by decide +kernel
theorem d_Wo_multiply_50 : decode prog_10_method_15_code 50 = .ok (.i2l, 1) := by decide +kernel
theorem d_Wo_multiply_51 : decode prog_10_method_15_code 51 = .ok (.ldc2_w 28, 3) := by decide +kernel
theorem d_Wo_multiply_54 : decode prog_10_method_15_code 54 = .ok (.land, 1) := by decide +kernel
theorem d_Wo_multiply_55 : decode prog_10_method_15_code 55 = .ok (.ladd, 1) := by decide +kernel
theorem d_Wo_multiply_56 : decode prog_10_method_15_code 56 = .ok (.lload 4, 2) := by decide +kernel
theorem d_Wo_multiply_58 : decode prog_10_method_15_code 58 = .ok (.ladd, 1) := by decide +kernel
theorem d_Wo_multiply_59 : decode prog_10_method_15_code 59 = .ok (.lstore 7, 2) := by decide +kernel
theorem d_Wo_multiply_61 : decode prog_10_method_15_code 61 = .ok (.aload_n 2, 1) := by decide +kernel
theorem d_Wo_multiply_62 : decode prog_10_method_15_code 62 = .ok (.iload_n 3, 1) := by decide +kernel
theorem d_Wo_multiply_63 : decode prog_10_method_15_code 63 = .ok (.iload 6, 2) := by decide +kernel
theorem d_Wo_multiply_65 : decode prog_10_method_15_code 65 = .ok (.iadd, 1) := by decide +kernel
theorem d_Wo_multiply_66 : decode prog_10_method_15_code 66 = .ok (.lload 7, 2) := by decide +kernel
theorem d_Wo_multiply_68 : decode prog_10_method_15_code 68 = .ok (.l2i, 1) := by decide +kernel
theorem d_Wo_multiply_69 : decode prog_10_method_15_code 69 = .ok (.iastore, 1) := by decide +kernel
theorem d_Wo_multiply_70 : decode prog_10_method_15_code 70 = .ok (.lload 7, 2) := by decide +kernel
theorem d_Wo_multiply_72 : decode prog_10_method_15_code 72 = .ok (.bipush 32, 2) := by decide +kernel
theorem d_Wo_multiply_74 : decode prog_10_method_15_code 74 = .ok (.lushr, 1) := by decide +kernel
theorem d_Wo_multiply_75 : decode prog_10_method_15_code 75 = .ok (.lstore 4, 2) := by decide +kernel
theorem d_Wo_multiply_77 : decode prog_10_method_15_code 77 = .ok (.iinc 6 1, 3) := by decide +kernel
theorem d_Wo_multiply_80 : decode prog_10_method_15_code 80 = .ok (.goto (-61), 3) := by decide +kernel
theorem d_Wo_multiply_83 : decode prog_10_method_15_code 83 = .ok (.aload_n 2, 1) := by decide +kernel
theorem d_Wo_multiply_84 : decode prog_10_method_15_code 84 = .ok (.iload_n 3, 1) := by decide +kernel
theorem d_Wo_multiply_85 : decode prog_10_method_15_code 85 = .ok (.bipush 8, 2) := by decide +kernel
theorem d_Wo_multiply_87 : decode prog_10_method_15_code 87 = .ok (.iadd, 1) := by decide +kernel
theorem d_Wo_multiply_88 : decode prog_10_method_15_code 88 = .ok (.lload 4, 2) := by decide +kernel
theorem d_Wo_multiply_90 : decode prog_10_method_15_code 90 = .ok (.l2i, 1) := by decide +kernel
theorem d_Wo_multiply_91 : decode prog_10_method_15_code 91 = .ok (.iastore, 1) := by decide +kernel
theorem d_Wo_multiply_92 : decode prog_10_method_15_code 92 = .ok (.iinc 3 1, 3) := by decide +kernel
theorem d_Wo_multiply_95 : decode prog_10_method_15_code 95 = .ok (.goto (-88), 3) := by decide +kernel
theorem d_Wo_multiply_98 : decode prog_10_method_15_code 98 = .ok (.return_, 1) := by decide +kernel
def rm_c_W_multiply : Room := { frames := 1, cells := 0, slots := 0, locals := 23 }
set_option maxHeartbeats 4000000 in
set_option maxRecDepth 100000 in
theorem c_W_multiply (l : Launch) (E : kE) (a b t : Nat) (f x y : Nat → Int32) : Kv l y_Wo_multiply (kW y_Wo_multiply prog_10_method_15_code 9 (none)) rm_c_W_multiply E [.ref a, .ref b, .ref t] [(a, .inl (E.2.1 0, 8, .inl f)), (b, .inl (E.2.1 0, 8, .inl x)), (t, .inl (E.2.1 0, 16, .inl y))] (S := Nat → Int32) (fun u => wv u 16 = wv f 8 * wv x 8) (fun u => [(a, .inl (E.2.1 0, 8, .inl f)), (b, .inl (E.2.1 0, 8, .inl x)), (t, .inl (E.2.1 0, 16, .inl u))]) := by
  refine Kv.ofW (cc := prog_10_method_15_code) (maxL := 9) (by decide) (Nat.le_of_ble_eq_true rfl) ?_
  intro p e s m args below meth c A ls Q hx hb hts hown hml hK hG hA hP hD hS hl hret
  have hl : lv_has ls 9 [(0, .ref a), (1, .ref b), (2, .ref t)] := hl
  refine lv_aload_n hx hb d_Wo_multiply_0 rfl (lv_at hl 2 rfl) ?_
  refine lv_iconst (v := nI 0) hx hb d_Wo_multiply_1 (by decide) ?_
  refine k_Sv (As := [.ref t, .int (nI 0)]) (rest := []) ⟨hx, hb, hml, hown, hts⟩ (c_fill l E t 16 y (nI 0) (by decide)) (k_cwS 2 hts t_350 t_233 t_70 t_234 (by decide +kernel) ⟨Nat.le_of_ble_eq_true rfl, Nat.le_of_ble_eq_true rfl⟩) hK hG hA hP hD hS [2] rfl (by decide) (fun _ => rfl) rfl hl.1 rfl (Nat.le_of_ble_eq_true rfl) d_Wo_multiply_2 ⟨Nat.zero_le _, Nat.zero_le _⟩ (fun u0 H locs hu0 hP hD hS => ?_)
  have hP : va_P E.1 vwCl [(a, .inl (E.2.1 0, 8, .inl f)), (b, .inl (E.2.1 0, 8, .inl x)), (t, .inl (E.2.1 0, 16, .inl u0))] H := hP
  have hD : va_D A [(a, .inl (E.2.1 0, 8, .inl f)), (b, .inl (E.2.1 0, 8, .inl x)), (t, .inl (E.2.1 0, 16, .inl u0))] := hD
  refine lv_iconst (v := nI 0) hx hb d_Wo_multiply_5 (by decide) ?_
  refine lv_istore_n (lv' := [(3, .int (nI 0)), (0, .ref a), (1, .ref b), (2, .ref t)]) hx hb d_Wo_multiply_6 rfl hl (by decide) rfl (fun ls hl => ?_)
  have key7 : ∀ (n : Nat) (i : Nat) (z : Nat → Int32) (H : Heap) (locs : List Loc) (ls : Array Slot), i + n = 8 → (wv z 16 = wv f i * wv x 8 ∧ ∀ k, i + 8 ≤ k → k < 16 → z k = 0) → lv_has ls 9 [(3, .int (nI i)), (0, .ref a), (1, .ref b), (2, .ref t)] → va_P E.1 vwCl [(a, .inl (E.2.1 0, 8, .inl f)), (b, .inl (E.2.1 0, 8, .inl x)), (t, .inl (E.2.1 0, 16, .inl z))] H → va_D A [(a, .inl (E.2.1 0, 8, .inl f)), (b, .inl (E.2.1 0, 8, .inl x)), (t, .inl (E.2.1 0, 16, .inl z))] → va_S A s.heap H locs → W p l e rm_c_W_multiply s m args below meth c H locs 0 0 Q (F0 m 7 ls []) := by
    intro n
    induction n using Nat.strongRecOn with
    | ind n ih =>
      intro i z H locs ls hn hI hl hP hD hS
      refine lv_iload_n hx hb d_Wo_multiply_7 rfl (lv_at hl 0 rfl) ?_
      refine lv_bipush (v := nI 8) hx hb d_Wo_multiply_8 (by decide) ?_
      refine kn_ge (tgt := 98) hx hb (by omega) (by omega) d_Wo_multiply_10 (by decide) (fun h10 => ?_) (fun h10 => ?_)
      · obtain rfl : i = 8 := by omega
        exact hret _ ls _ _ z d_Wo_multiply_98 hI.1 hP hS
      · refine lv_lconst (v := lN 0) hx hb d_Wo_multiply_13 (by decide) ?_
        refine lv_lstore (lv' := [(4, .long (lN 0)), (3, .int (nI i)), (0, .ref a), (1, .ref b), (2, .ref t)]) hx hb d_Wo_multiply_14 hl (by decide) rfl (fun ls hl => ?_)
        refine lv_iconst (v := nI 0) hx hb d_Wo_multiply_16 (by decide) ?_
        refine lv_istore (lv' := [(6, .int (nI 0)), (4, .long (lN 0)), (3, .int (nI i)), (0, .ref a), (1, .ref b), (2, .ref t)]) hx hb d_Wo_multiply_17 hl (by decide) rfl (fun ls hl => ?_)
        have key19 : ∀ (n2 : Nat) (j cy : Nat) (z : Nat → Int32) (H : Heap) (locs : List Loc) (ls : Array Slot), j + n2 = 8 → (cy < 4294967296 ∧ wv z 16 + cy * kK ^ (i + j) = wv f i * wv x 8 + uw (f i) * kK ^ i * wv x j ∧ ∀ k, i + 8 ≤ k → k < 16 → z k = 0) → lv_has ls 9 [(6, .int (nI j)), (4, .long (lN cy)), (3, .int (nI i)), (0, .ref a), (1, .ref b), (2, .ref t)] → va_P E.1 vwCl [(a, .inl (E.2.1 0, 8, .inl f)), (b, .inl (E.2.1 0, 8, .inl x)), (t, .inl (E.2.1 0, 16, .inl z))] H → va_D A [(a, .inl (E.2.1 0, 8, .inl f)), (b, .inl (E.2.1 0, 8, .inl x)), (t, .inl (E.2.1 0, 16, .inl z))] → va_S A s.heap H locs → W p l e rm_c_W_multiply s m args below meth c H locs 0 0 Q (F0 m 19 ls []) := by
          intro n2
          induction n2 using Nat.strongRecOn with
          | ind n2 ih_n2 =>
            intro j cy z H locs ls hn hJ hl hP hD hS
            have b1 := uw_lt' (f i)
            have b2 := uw_lt' (x j)
            have b3 := uw_lt' (z (i + j))
            have b4 := mul_bd b1 b2 b3 hJ.1
            refine lv_iload hx hb d_Wo_multiply_19 (lv_at hl 0 rfl) ?_
            refine lv_bipush (v := nI 8) hx hb d_Wo_multiply_21 (by decide) ?_
            refine kn_ge (tgt := 83) hx hb (by omega) (by omega) d_Wo_multiply_23 (by decide) (fun h23 => ?_) (fun h23 => ?_)
            · obtain rfl : j = 8 := by omega
              refine lv_aload_n hx hb d_Wo_multiply_83 rfl (lv_at hl 5 rfl) ?_
              refine lv_iload_n hx hb d_Wo_multiply_84 rfl (lv_at hl 2 rfl) ?_
              refine lv_bipush (v := nI 8) hx hb d_Wo_multiply_85 (by decide) ?_
              refine lv_iadd hx hb d_Wo_multiply_87 ?_
              refine k_top (nI_add _ _) ?_
              refine lv_lload hx hb d_Wo_multiply_88 (lv_at hl 1 rfl) ?_
              refine lv_l2i (v := nI cy) hx hb d_Wo_multiply_90 (lN_i _) ?_
              refine k_iast hx hb hK hP hD hS 2 rfl (i := (i + 8)) (by omega) (by omega) d_Wo_multiply_91 (fun H locs hP hD hS => ?_)
              have hP : va_P E.1 vwCl [(a, .inl (E.2.1 0, 8, .inl f)), (b, .inl (E.2.1 0, 8, .inl x)), (t, .inl (E.2.1 0, 16, .inl (upd z (i + 8) (nI cy))))] H := hP
              have hD : va_D A [(a, .inl (E.2.1 0, 8, .inl f)), (b, .inl (E.2.1 0, 8, .inl x)), (t, .inl (E.2.1 0, 16, .inl (upd z (i + 8) (nI cy))))] := hD
              refine lv_iinc (k := 2) (v := nI (i + 1)) (lv' := [(3, .int (nI (i + 1))), (6, .int (nI 8)), (4, .long (lN cy)), (0, .ref a), (1, .ref b), (2, .ref t)]) hx hb d_Wo_multiply_92 hl rfl (k_inc _) (by decide) rfl (fun ls hl => ?_)
              refine lv_goto (tgt := 7) hx hb d_Wo_multiply_95 (by decide) ?_
              exact ih (n - 1) (by omega) (i + 1) (upd z (i + 8) (nI cy)) _ _ ls (by omega) ⟨by rw [lp_mul2 (by omega) (hJ.2.2 (i + 8) (by omega) (by omega)) hJ.1 hJ.2.1, wv_s f i, Nat.add_mul], fun k h1 h2 => (pk_un (by omega)).trans (hJ.2.2 k (by omega) h2)⟩ (lv_sub hl [0, 3, 4, 5] rfl) hP hD hS
            · refine lv_aload_n hx hb d_Wo_multiply_26 rfl (lv_at hl 3 rfl) ?_
              refine lv_iload_n hx hb d_Wo_multiply_27 rfl (lv_at hl 2 rfl) ?_
              refine k_iald hx hb hK hP 0 rfl (i := i) (by omega) (by omega) d_Wo_multiply_28 ?_
              refine lv_i2l (v := (f i).toInt64) hx hb d_Wo_multiply_29 rfl ?_
              refine lv_ldc2 (v := 4294967295) hx hb hown (hts _ t_515) d_Wo_multiply_30 ?_
              refine lv_land hx hb d_Wo_multiply_33 ?_
              refine k_topl (k_lo _) ?_
              refine lv_aload_n hx hb d_Wo_multiply_34 rfl (lv_at hl 4 rfl) ?_
              refine lv_iload hx hb d_Wo_multiply_35 (lv_at hl 0 rfl) ?_
              refine k_iald hx hb hK hP 1 rfl (i := j) (by omega) (by omega) d_Wo_multiply_37 ?_
              refine lv_i2l (v := (x j).toInt64) hx hb d_Wo_multiply_38 rfl ?_
              refine lv_ldc2 (v := 4294967295) hx hb hown (hts _ t_515) d_Wo_multiply_39 ?_
              refine lv_land hx hb d_Wo_multiply_42 ?_
              refine k_topl (k_lo _) ?_
              refine lv_lmul hx hb d_Wo_multiply_43 ?_
              refine k_topl (lN_mul _ _) ?_
              refine lv_aload_n hx hb d_Wo_multiply_44 rfl (lv_at hl 5 rfl) ?_
              refine lv_iload_n hx hb d_Wo_multiply_45 rfl (lv_at hl 2 rfl) ?_
              refine lv_iload hx hb d_Wo_multiply_46 (lv_at hl 0 rfl) ?_
              refine lv_iadd hx hb d_Wo_multiply_48 ?_
              refine k_top (nI_add _ _) ?_
              refine k_iald hx hb hK hP 2 rfl (i := (i + j)) (by omega) (by omega) d_Wo_multiply_49 ?_
              refine lv_i2l (v := (z (i + j)).toInt64) hx hb d_Wo_multiply_50 rfl ?_
              refine lv_ldc2 (v := 4294967295) hx hb hown (hts _ t_515) d_Wo_multiply_51 ?_
              refine lv_land hx hb d_Wo_multiply_54 ?_
              refine k_topl (k_lo _) ?_
              refine lv_ladd hx hb d_Wo_multiply_55 ?_
              refine k_topl (lN_add _ _) ?_
              refine lv_lload hx hb d_Wo_multiply_56 (lv_at hl 1 rfl) ?_
              refine lv_ladd hx hb d_Wo_multiply_58 ?_
              refine k_topl (lN_add _ _) ?_
              refine lv_lstore (lv' := [(7, .long (lN ((((uw (f i)) * (uw (x j))) + (uw (z (i + j)))) + cy))), (6, .int (nI j)), (4, .long (lN cy)), (3, .int (nI i)), (0, .ref a), (1, .ref b), (2, .ref t)]) hx hb d_Wo_multiply_59 hl (by decide) rfl (fun ls hl => ?_)
              refine lv_aload_n hx hb d_Wo_multiply_61 rfl (lv_at hl 6 rfl) ?_
              refine lv_iload_n hx hb d_Wo_multiply_62 rfl (lv_at hl 3 rfl) ?_
              refine lv_iload hx hb d_Wo_multiply_63 (lv_at hl 1 rfl) ?_
              refine lv_iadd hx hb d_Wo_multiply_65 ?_
              refine k_top (nI_add _ _) ?_
              refine lv_lload hx hb d_Wo_multiply_66 (lv_at hl 0 rfl) ?_
              refine lv_l2i (v := nI ((((uw (f i)) * (uw (x j))) + (uw (z (i + j)))) + cy)) hx hb d_Wo_multiply_68 (lN_i _) ?_
              refine k_iast hx hb hK hP hD hS 2 rfl (i := (i + j)) (by omega) (by omega) d_Wo_multiply_69 (fun H locs hP hD hS => ?_)
              have hP : va_P E.1 vwCl [(a, .inl (E.2.1 0, 8, .inl f)), (b, .inl (E.2.1 0, 8, .inl x)), (t, .inl (E.2.1 0, 16, .inl (upd z (i + j) (nI ((((uw (f i)) * (uw (x j))) + (uw (z (i + j)))) + cy)))))] H := hP
              have hD : va_D A [(a, .inl (E.2.1 0, 8, .inl f)), (b, .inl (E.2.1 0, 8, .inl x)), (t, .inl (E.2.1 0, 16, .inl (upd z (i + j) (nI ((((uw (f i)) * (uw (x j))) + (uw (z (i + j)))) + cy)))))] := hD
              refine lv_lload hx hb d_Wo_multiply_70 (lv_at hl 0 rfl) ?_
              refine lv_bipush (v := nI 32) hx hb d_Wo_multiply_72 (by decide) ?_
              refine lv_lushr (v := lN (((((uw (f i)) * (uw (x j))) + (uw (z (i + j)))) + cy) / 4294967296)) hx hb d_Wo_multiply_74 (wb_shr (by omega) (by decide)) ?_
              refine lv_lstore (lv' := [(4, .long (lN (((((uw (f i)) * (uw (x j))) + (uw (z (i + j)))) + cy) / 4294967296))), (7, .long (lN ((((uw (f i)) * (uw (x j))) + (uw (z (i + j)))) + cy))), (6, .int (nI j)), (3, .int (nI i)), (0, .ref a), (1, .ref b), (2, .ref t)]) hx hb d_Wo_multiply_75 hl (by decide) rfl (fun ls hl => ?_)
              refine lv_iinc (k := 2) (v := nI (j + 1)) (lv' := [(6, .int (nI (j + 1))), (4, .long (lN (((((uw (f i)) * (uw (x j))) + (uw (z (i + j)))) + cy) / 4294967296))), (7, .long (lN ((((uw (f i)) * (uw (x j))) + (uw (z (i + j)))) + cy))), (3, .int (nI i)), (0, .ref a), (1, .ref b), (2, .ref t)]) hx hb d_Wo_multiply_77 hl rfl (k_inc _) (by decide) rfl (fun ls hl => ?_)
              refine lv_goto (tgt := 19) hx hb d_Wo_multiply_80 (by decide) ?_
              exact ih_n2 (n2 - 1) (by omega) (j + 1) ((uw (f i) * uw (x j) + uw (z (i + j)) + cy) / 4294967296) (upd z (i + j) (nI (uw (f i) * uw (x j) + uw (z (i + j)) + cy))) _ _ ls (by omega) ⟨by omega, by rw [wv_s x j]; exact lp_mul (by omega) hJ.2.1, fun k h1 h2 => (pk_un (by omega)).trans (hJ.2.2 k h1 h2)⟩ (lv_sub hl [0, 1, 3, 4, 5, 6] rfl) hP hD hS
        exact key19 8 0 0 z _ _ ls (by omega) ⟨by decide, by rw [wv_0, Nat.mul_zero, Nat.zero_mul, Nat.add_zero, Nat.add_zero]; exact hI.1, hI.2⟩ (lv_sub hl [0, 1, 2, 3, 4, 5] rfl) hP hD hS
  exact key7 8 0 u0 _ _ ls (by omega) ⟨by rw [wv_is0.mpr (fun j hj => (hu0 j hj).trans nI_0), wv_0, Nat.zero_mul], fun k _ hk => (hu0 k hk).trans nI_0⟩ (lv_sub hl [0, 1, 2, 3] rfl) hP hD hS

