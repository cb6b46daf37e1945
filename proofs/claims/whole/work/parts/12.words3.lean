abbrev y_Wo_signedOrder : MethodName := ⟨"WideStack$Words", "signedOrder", "([I[I)I"⟩
theorem d_Wo_signedOrder_0 : decode prog_10_method_10_code 0 = .ok (.aload_n 0, 1) := by decide +kernel
theorem d_Wo_signedOrder_1 : decode prog_10_method_10_code 1 = .ok (.invokestatic 30, 3) := by decide +kernel
theorem d_Wo_signedOrder_4 : decode prog_10_method_10_code 4 = .ok (.aload_n 1, 1) := by decide +kernel
theorem d_Wo_signedOrder_5 : decode prog_10_method_10_code 5 = .ok (.invokestatic 30, 3) := by decide +kernel
theorem d_Wo_signedOrder_8 : decode prog_10_method_10_code 8 = .ok (.if_icmp .eq 16, 3) := by decide +kernel
theorem d_Wo_signedOrder_11 : decode prog_10_method_10_code 11 = .ok (.aload_n 0, 1) := by decide +kernel
theorem d_Wo_signedOrder_12 : decode prog_10_method_10_code 12 = .ok (.invokestatic 30, 3) := by decide +kernel
theorem d_Wo_signedOrder_15 : decode prog_10_method_10_code 15 = .ok (.ifCond .eq 7, 3) := by decide +kernel
theorem d_Wo_signedOrder_18 : decode prog_10_method_10_code 18 = .ok (.iconst (-1), 1) := by decide +kernel
theorem d_Wo_signedOrder_19 : decode prog_10_method_10_code 19 = .ok (.goto 4, 3) := by decide +kernel
theorem d_Wo_signedOrder_22 : decode prog_10_method_10_code 22 = .ok (.iconst 1, 1) := by decide +kernel
theorem d_Wo_signedOrder_23 : decode prog_10_method_10_code 23 = .ok (.ireturn, 1) := by decide +kernel
theorem d_Wo_signedOrder_24 : decode prog_10_method_10_code 24 = .ok (.aload_n 0, 1) := by decide +kernel
theorem d_Wo_signedOrder_25 : decode prog_10_method_10_code 25 = .ok (.aload_n 1, 1) := by decide +kernel
theorem d_Wo_signedOrder_26 : decode prog_10_method_10_code 26 = .ok (.invokestatic 34, 3) := by decide +kernel
theorem d_Wo_signedOrder_29 : decode prog_10_method_10_code 29 = .ok (.ireturn, 1) := by decide +kernel
def rm_c_W_signedOrder : Room := { frames := 1, cells := 0, slots := 0, locals := 26 }
set_option maxHeartbeats 4000000 in
set_option maxRecDepth 100000 in
theorem c_W_signedOrder (l : Launch) (E : kE) (a b : Nat) (f x : Nat → Int32) : Kp l y_Wo_signedOrder (kW y_Wo_signedOrder prog_10_method_10_code 2 (some .int)) rm_c_W_signedOrder E [.ref a, .ref b] [(a, .inl (E.2.1 0, 8, .inl f)), (b, .inl (E.2.1 0, 8, .inl x))] (fun r => r = m_sord (wv f 8) (wv x 8)) := by
  refine Kp.ofI (cc := prog_10_method_10_code) (maxL := 2) (by decide) (Nat.le_of_ble_eq_true rfl) ?_
  intro p e s m args below meth c A ls Q hx hb hts hown hml hK hG hA hP hD hS hl hret
  have hl : lv_has ls 2 [(0, .ref a), (1, .ref b)] := hl
  refine lv_aload_n hx hb d_Wo_signedOrder_0 rfl (lv_at hl 0 rfl) ?_
  refine k_Sp (As := [.ref a]) (rest := []) ⟨hx, hb, hml, hown, hts⟩ (c_W_isNegative l E a 8 f (by decide) (by decide)) (k_cwS 1 hts t_601 t_547 t_73 t_548 (by decide +kernel) ⟨Nat.le_of_ble_eq_true rfl, Nat.le_of_ble_eq_true rfl⟩) hK hG hA hP hD hS [0] rfl (by decide) rfl hl.1 rfl (Nat.le_of_ble_eq_true rfl) d_Wo_signedOrder_1 ⟨Nat.zero_le _, Nat.zero_le _⟩ (fun r1 hu1 => ?_)
  subst hu1
  refine lv_aload_n hx hb d_Wo_signedOrder_4 rfl (lv_at hl 1 rfl) ?_
  refine k_Sp (As := [.ref b]) (rest := [.int (kb (m_isneg (wv f 8)))]) ⟨hx, hb, hml, hown, hts⟩ (c_W_isNegative l E b 8 x (by decide) (by decide)) (k_cwS 1 hts t_601 t_547 t_73 t_548 (by decide +kernel) ⟨Nat.le_of_ble_eq_true rfl, Nat.le_of_ble_eq_true rfl⟩) hK hG hA hP hD hS [1] rfl (by decide) rfl hl.1 rfl (Nat.le_of_ble_eq_true rfl) d_Wo_signedOrder_5 ⟨Nat.zero_le _, Nat.zero_le _⟩ (fun r5 hu5 => ?_)
  subst hu5
  refine lv_icmp_eq (tgt := 24) hx hb d_Wo_signedOrder_8 (by decide) (fun h8 => ?_) (fun h8 => ?_)
  · refine lv_aload_n hx hb d_Wo_signedOrder_24 rfl (lv_at hl 0 rfl) ?_
    refine lv_aload_n hx hb d_Wo_signedOrder_25 rfl (lv_at hl 1 rfl) ?_
    refine k_Sp (As := [.ref a, .ref b]) (rest := []) ⟨hx, hb, hml, hown, hts⟩ (c_W_order l E a b f x) (k_cwS 2 hts t_602 t_554 t_73 t_555 (by decide +kernel) ⟨Nat.le_of_ble_eq_true rfl, Nat.le_of_ble_eq_true rfl⟩) hK hG hA hP hD hS [0, 1] rfl (by decide) rfl hl.1 rfl (Nat.le_of_ble_eq_true rfl) d_Wo_signedOrder_26 ⟨Nat.zero_le _, Nat.zero_le _⟩ (fun r26 hu26 => ?_)
    subst hu26
    exact hret _ ls _ d_Wo_signedOrder_29 (m_sord_eq h8)
  · refine lv_aload_n hx hb d_Wo_signedOrder_11 rfl (lv_at hl 0 rfl) ?_
    refine k_Sp (As := [.ref a]) (rest := []) ⟨hx, hb, hml, hown, hts⟩ (c_W_isNegative l E a 8 f (by decide) (by decide)) (k_cwS 1 hts t_601 t_547 t_73 t_548 (by decide +kernel) ⟨Nat.le_of_ble_eq_true rfl, Nat.le_of_ble_eq_true rfl⟩) hK hG hA hP hD hS [0] rfl (by decide) rfl hl.1 rfl (Nat.le_of_ble_eq_true rfl) d_Wo_signedOrder_12 ⟨Nat.zero_le _, Nat.zero_le _⟩ (fun r12 hu12 => ?_)
    subst hu12
    refine lv_if_eq (tgt := 22) hx hb d_Wo_signedOrder_15 (by decide) (fun h15 => ?_) (fun h15 => ?_)
    · refine lv_iconst (v := nI 1) hx hb d_Wo_signedOrder_22 (by decide) ?_
      first | exact hret _ ls _ d_Wo_signedOrder_23 (m_sord_neg h8 h15) | exact hret _ ls _ d_Wo_signedOrder_23 (m_sord_pos h8 h15)
    · refine lv_iconst (v := -1) hx hb d_Wo_signedOrder_18 (by decide) ?_
      refine lv_goto (tgt := 23) hx hb d_Wo_signedOrder_19 (by decide) ?_
      first | exact hret _ ls _ d_Wo_signedOrder_23 (m_sord_neg h8 h15) | exact hret _ ls _ d_Wo_signedOrder_23 (m_sord_pos h8 h15)

abbrev y_Wo_add : MethodName := ⟨"WideStack$Words", "add", "([I[I[I)I"⟩
theorem d_Wo_add_0 : decode prog_10_method_11_code 0 = .ok (.lconst 0, 1) := by decide +kernel
theorem d_Wo_add_1 : decode prog_10_method_11_code 1 = .ok (.lstore_n 3, 1) := by decide +kernel
theorem d_Wo_add_2 : decode prog_10_method_11_code 2 = .ok (.iconst 0, 1) := by decide +kernel
theorem d_Wo_add_3 : decode prog_10_method_11_code 3 = .ok (.istore 5, 2) := by decide +kernel
theorem d_Wo_add_5 : decode prog_10_method_11_code 5 = .ok (.iload 5, 2) := by decide +kernel
theorem d_Wo_add_7 : decode prog_10_method_11_code 7 = .ok (.bipush 8, 2) := by decide +kernel
theorem d_Wo_add_9 : decode prog_10_method_11_code 9 = .ok (.if_icmp .ge 45, 3) := by decide +kernel
theorem d_Wo_add_12 : decode prog_10_method_11_code 12 = .ok (.aload_n 0, 1) := by decide +kernel
theorem d_Wo_add_13 : decode prog_10_method_11_code 13 = .ok (.iload 5, 2) := by decide +kernel
theorem d_Wo_add_15 : decode prog_10_method_11_code 15 = .ok (.iaload, 1) := by decide +kernel
theorem d_Wo_add_16 : decode prog_10_method_11_code 16 = .ok (.i2l, 1) := by decide +kernel
theorem d_Wo_add_17 : decode prog_10_method_11_code 17 = .ok (.ldc2_w 28, 3) := by decide +kernel
theorem d_Wo_add_20 : decode prog_10_method_11_code 20 = .ok (.land, 1) := by decide +kernel
theorem d_Wo_add_21 : decode prog_10_method_11_code 21 = .ok (.aload_n 1, 1) := by decide +kernel
theorem d_Wo_add_22 : decode prog_10_method_11_code 22 = .ok (.iload 5, 2) := by decide +kernel
theorem d_Wo_add_24 : decode prog_10_method_11_code 24 = .ok (.iaload, 1) := by decide +kernel
theorem d_Wo_add_25 : decode prog_10_method_11_code 25 = .ok (.i2l, 1) := by decide +kernel
theorem d_Wo_add_26 : decode prog_10_method_11_code 26 = .ok (.ldc2_w 28, 3) := by decide +kernel
theorem d_Wo_add_29 : decode prog_10_method_11_code 29 = .ok (.land, 1) := by decide +kernel
theorem d_Wo_add_30 : decode prog_10_method_11_code 30 = .ok (.ladd, 1) := by decide +kernel
theorem d_Wo_add_31 : decode prog_10_method_11_code 31 = .ok (.lload_n 3, 1) := by decide +kernel
theorem d_Wo_add_32 : decode prog_10_method_11_code 32 = .ok (.ladd, 1) := by decide +kernel
theorem d_Wo_add_33 : decode prog_10_method_11_code 33 = .ok (.lstore 6, 2) := by decide +kernel
theorem d_Wo_add_35 : decode prog_10_method_11_code 35 = .ok (.aload_n 2, 1) := by decide +kernel
theorem d_Wo_add_36 : decode prog_10_method_11_code 36 = .ok (.iload 5, 2) := by decide +kernel
theorem d_Wo_add_38 : decode prog_10_method_11_code 38 = .ok (.lload 6, 2) := by decide +kernel
theorem d_Wo_add_40 : decode prog_10_method_11_code 40 = .ok (.l2i, 1) := by decide +kernel
theorem d_Wo_add_41 : decode prog_10_method_11_code 41 = .ok (.iastore, 1) := by decide +kernel
theorem d_Wo_add_42 : decode prog_10_method_11_code 42 = .ok (.lload 6, 2) := by decide +kernel
theorem d_Wo_add_44 : decode prog_10_method_11_code 44 = .ok (.bipush 32, 2) := by decide +kernel
theorem d_Wo_add_46 : decode prog_10_method_11_code 46 = .ok (.lushr, 1) := by decide +kernel
theorem d_Wo_add_47 : decode prog_10_method_11_code 47 = .ok (.lstore_n 3, 1) := by decide +kernel
theorem d_Wo_add_48 : decode prog_10_method_11_code 48 = .ok (.iinc 5 1, 3) := by decide +kernel
theorem d_Wo_add_51 : decode prog_10_method_11_code 51 = .ok (.goto (-46), 3) := by decide +kernel
theorem d_Wo_add_54 : decode prog_10_method_11_code 54 = .ok (.lload_n 3, 1) := by decide +kernel
theorem d_Wo_add_55 : decode prog_10_method_11_code 55 = .ok (.l2i, 1) := by decide +kernel
theorem d_Wo_add_56 : decode prog_10_method_11_code 56 = .ok (.ireturn, 1) := by decide +kernel
def rm_c_W_add : Room := { frames := 0, cells := 0, slots := 0, locals := 0 }
set_option maxHeartbeats 4000000 in
set_option maxRecDepth 100000 in
theorem c_W_add (l : Launch) (E : kE) (a b t nt : Nat) (f x y : Nat → Int32) (h8 : 8 ≤ nt) (ht : nt < 100) : Ki l y_Wo_add (kW y_Wo_add prog_10_method_11_code 8 (some .int)) rm_c_W_add E [.ref a, .ref b, .ref t] [(a, .inl (E.2.1 0, 8, .inl f)), (b, .inl (E.2.1 0, 8, .inl x)), (t, .inl (E.2.1 0, nt, .inl y))] (S := Nat → Int32) (fun r u => (∃ c, c ≤ 1 ∧ r = nI c ∧ wv u 8 + c * kK ^ 8 = wv f 8 + wv x 8) ∧ ∀ j, 8 ≤ j → u j = y j) (fun u => [(a, .inl (E.2.1 0, 8, .inl f)), (b, .inl (E.2.1 0, 8, .inl x)), (t, .inl (E.2.1 0, nt, .inl u))]) := by
  refine Ki.ofI (cc := prog_10_method_11_code) (maxL := 8) (by decide) (Nat.le_of_ble_eq_true rfl) ?_
  intro p e s m args below meth c A ls Q hx hb hts hown hml hK hG hA hP hD hS hl hret
  have hl : lv_has ls 8 [(0, .ref a), (1, .ref b), (2, .ref t)] := hl
  refine lv_lconst (v := lN 0) hx hb d_Wo_add_0 (by decide) ?_
  refine lv_lstore_n (lv' := [(3, .long (lN 0)), (0, .ref a), (1, .ref b), (2, .ref t)]) hx hb d_Wo_add_1 rfl hl (by decide) rfl (fun ls hl => ?_)
  refine lv_iconst (v := nI 0) hx hb d_Wo_add_2 (by decide) ?_
  refine lv_istore (lv' := [(5, .int (nI 0)), (3, .long (lN 0)), (0, .ref a), (1, .ref b), (2, .ref t)]) hx hb d_Wo_add_3 hl (by decide) rfl (fun ls hl => ?_)
  have key5 : ∀ (n : Nat) (i cy : Nat) (z : Nat → Int32) (H : Heap) (locs : List Loc) (ls : Array Slot), i + n = 8 → (cy ≤ 1 ∧ wv z i + cy * kK ^ i = wv f i + wv x i ∧ ∀ j, i ≤ j → z j = y j) → lv_has ls 8 [(5, .int (nI i)), (3, .long (lN cy)), (0, .ref a), (1, .ref b), (2, .ref t)] → va_P E.1 vwCl [(a, .inl (E.2.1 0, 8, .inl f)), (b, .inl (E.2.1 0, 8, .inl x)), (t, .inl (E.2.1 0, nt, .inl z))] H → va_D A [(a, .inl (E.2.1 0, 8, .inl f)), (b, .inl (E.2.1 0, 8, .inl x)), (t, .inl (E.2.1 0, nt, .inl z))] → va_S A s.heap H locs → W p l e rm_c_W_add s m args below meth c H locs 0 0 Q (F0 m 5 ls []) := by
    intro n
    induction n using Nat.strongRecOn with
    | ind n ih =>
      intro i cy z H locs ls hn hI hl hP hD hS
      have b1 := uw_lt' (f i)
      have b2 := uw_lt' (x i)
      refine lv_iload hx hb d_Wo_add_5 (lv_at hl 0 rfl) ?_
      refine lv_bipush (v := nI 8) hx hb d_Wo_add_7 (by decide) ?_
      refine kn_ge (tgt := 54) hx hb (by omega) (by omega) d_Wo_add_9 (by decide) (fun h9 => ?_) (fun h9 => ?_)
      · refine lv_lload_n hx hb d_Wo_add_54 rfl (lv_at hl 1 rfl) ?_
        refine lv_l2i (v := nI cy) hx hb d_Wo_add_55 (lN_i _) ?_
        obtain rfl : i = 8 := by omega
        exact hret _ ls _ _ _ z d_Wo_add_56 ⟨⟨cy, hI.1, rfl, hI.2.1⟩, fun j hj => hI.2.2 j hj⟩ hP hS
      · refine lv_aload_n hx hb d_Wo_add_12 rfl (lv_at hl 2 rfl) ?_
        refine lv_iload hx hb d_Wo_add_13 (lv_at hl 0 rfl) ?_
        refine k_iald hx hb hK hP 0 rfl (i := i) (by omega) (by omega) d_Wo_add_15 ?_
        refine lv_i2l (v := (f i).toInt64) hx hb d_Wo_add_16 rfl ?_
        refine lv_ldc2 (v := 4294967295) hx hb hown (hts _ t_515) d_Wo_add_17 ?_
        refine lv_land hx hb d_Wo_add_20 ?_
        refine k_topl (k_lo _) ?_
        refine lv_aload_n hx hb d_Wo_add_21 rfl (lv_at hl 3 rfl) ?_
        refine lv_iload hx hb d_Wo_add_22 (lv_at hl 0 rfl) ?_
        refine k_iald hx hb hK hP 1 rfl (i := i) (by omega) (by omega) d_Wo_add_24 ?_
        refine lv_i2l (v := (x i).toInt64) hx hb d_Wo_add_25 rfl ?_
        refine lv_ldc2 (v := 4294967295) hx hb hown (hts _ t_515) d_Wo_add_26 ?_
        refine lv_land hx hb d_Wo_add_29 ?_
        refine k_topl (k_lo _) ?_
        refine lv_ladd hx hb d_Wo_add_30 ?_
        refine k_topl (lN_add _ _) ?_
        refine lv_lload_n hx hb d_Wo_add_31 rfl (lv_at hl 1 rfl) ?_
        refine lv_ladd hx hb d_Wo_add_32 ?_
        refine k_topl (lN_add _ _) ?_
        refine lv_lstore (lv' := [(6, .long (lN (((uw (f i)) + (uw (x i))) + cy))), (5, .int (nI i)), (3, .long (lN cy)), (0, .ref a), (1, .ref b), (2, .ref t)]) hx hb d_Wo_add_33 hl (by decide) rfl (fun ls hl => ?_)
        refine lv_aload_n hx hb d_Wo_add_35 rfl (lv_at hl 5 rfl) ?_
        refine lv_iload hx hb d_Wo_add_36 (lv_at hl 1 rfl) ?_
        refine lv_lload hx hb d_Wo_add_38 (lv_at hl 0 rfl) ?_
        refine lv_l2i (v := nI (((uw (f i)) + (uw (x i))) + cy)) hx hb d_Wo_add_40 (lN_i _) ?_
        refine k_iast hx hb hK hP hD hS 2 rfl (i := i) (by omega) (by omega) d_Wo_add_41 (fun H locs hP hD hS => ?_)
        have hP : va_P E.1 vwCl [(a, .inl (E.2.1 0, 8, .inl f)), (b, .inl (E.2.1 0, 8, .inl x)), (t, .inl (E.2.1 0, nt, .inl (upd z i (nI (((uw (f i)) + (uw (x i))) + cy)))))] H := hP
        have hD : va_D A [(a, .inl (E.2.1 0, 8, .inl f)), (b, .inl (E.2.1 0, 8, .inl x)), (t, .inl (E.2.1 0, nt, .inl (upd z i (nI (((uw (f i)) + (uw (x i))) + cy)))))] := hD
        refine lv_lload hx hb d_Wo_add_42 (lv_at hl 0 rfl) ?_
        refine lv_bipush (v := nI 32) hx hb d_Wo_add_44 (by decide) ?_
        refine lv_lushr (v := lN ((((uw (f i)) + (uw (x i))) + cy) / 4294967296)) hx hb d_Wo_add_46 (wb_shr (by omega) (by decide)) ?_
        refine lv_lstore_n (lv' := [(3, .long (lN ((((uw (f i)) + (uw (x i))) + cy) / 4294967296))), (6, .long (lN (((uw (f i)) + (uw (x i))) + cy))), (5, .int (nI i)), (0, .ref a), (1, .ref b), (2, .ref t)]) hx hb d_Wo_add_47 rfl hl (by decide) rfl (fun ls hl => ?_)
        refine lv_iinc (k := 2) (v := nI (i + 1)) (lv' := [(5, .int (nI (i + 1))), (3, .long (lN ((((uw (f i)) + (uw (x i))) + cy) / 4294967296))), (6, .long (lN (((uw (f i)) + (uw (x i))) + cy))), (0, .ref a), (1, .ref b), (2, .ref t)]) hx hb d_Wo_add_48 hl rfl (k_inc _) (by decide) rfl (fun ls hl => ?_)
        refine lv_goto (tgt := 5) hx hb d_Wo_add_51 (by decide) ?_
        exact ih (n - 1) (by omega) (i + 1) ((uw (f i) + uw (x i) + cy) / 4294967296) (upd z i (nI (uw (f i) + uw (x i) + cy))) _ _ ls (by omega) ⟨by omega, lp_add hI.2.1, fun j hj => (pk_un (by omega)).trans (hI.2.2 j (by omega))⟩ (lv_sub hl [0, 1, 3, 4, 5] rfl) hP hD hS
  exact key5 8 0 0 y _ _ ls (by omega) ⟨Nat.zero_le 1, by simp [wv_0], fun _ _ => rfl⟩ (lv_sub hl [0, 1, 2, 3, 4] rfl) hP hD hS

abbrev y_Wo_subtract : MethodName := ⟨"WideStack$Words", "subtract", "([I[I[I)V"⟩
theorem d_Wo_subtract_0 : decode prog_10_method_12_code 0 = .ok (.lconst 0, 1) := by decide +kernel
theorem d_Wo_subtract_1 : decode prog_10_method_12_code 1 = .ok (.lstore_n 3, 1) := by decide +kernel
theorem d_Wo_subtract_2 : decode prog_10_method_12_code 2 = .ok (.iconst 0, 1) := by decide +kernel
theorem d_Wo_subtract_3 : decode prog_10_method_12_code 3 = .ok (.istore 5, 2) := by decide +kernel
theorem d_Wo_subtract_5 : decode prog_10_method_12_code 5 = .ok (.iload 5, 2) := by decide +kernel
theorem d_Wo_subtract_7 : decode prog_10_method_12_code 7 = .ok (.bipush 8, 2) := by decide +kernel
theorem d_Wo_subtract_9 : decode prog_10_method_12_code 9 = .ok (.if_icmp .ge 52, 3) := by decide +kernel
theorem d_Wo_subtract_12 : decode prog_10_method_12_code 12 = .ok (.aload_n 0, 1) := by decide +kernel
theorem d_Wo_subtract_13 : decode prog_10_method_12_code 13 = .ok (.iload 5, 2) := by decide +kernel
theorem d_Wo_subtract_15 : decode prog_10_method_12_code 15 = .ok (.iaload, 1) := by decide +kernel
theorem d_Wo_subtract_16 : decode prog_10_method_12_code 16 = .ok (.i2l, 1) := by decide +kernel
theorem d_Wo_subtract_17 : decode prog_10_method_12_code 17 = .ok (.ldc2_w 28, 3) := by decide +kernel
theorem d_Wo_subtract_20 : decode prog_10_method_12_code 20 = .ok (.land, 1) := by decide +kernel
theorem d_Wo_subtract_21 : decode prog_10_method_12_code 21 = .ok (.aload_n 1, 1) := by decide +kernel
theorem d_Wo_subtract_22 : decode prog_10_method_12_code 22 = .ok (.iload 5, 2) := by decide +kernel
theorem d_Wo_subtract_24 : decode prog_10_method_12_code 24 = .ok (.iaload, 1) := by decide +kernel
theorem d_Wo_subtract_25 : decode prog_10_method_12_code 25 = .ok (.i2l, 1) := by decide +kernel
theorem d_Wo_subtract_26 : decode prog_10_method_12_code 26 = .ok (.ldc2_w 28, 3) := by decide +kernel
theorem d_Wo_subtract_29 : decode prog_10_method_12_code 29 = .ok (.land, 1) := by decide +kernel
theorem d_Wo_subtract_30 : decode prog_10_method_12_code 30 = .ok (.lsub, 1) := by decide +kernel
theorem d_Wo_subtract_31 : decode prog_10_method_12_code 31 = .ok (.lload_n 3, 1) := by decide +kernel
theorem d_Wo_subtract_32 : decode prog_10_method_12_code 32 = .ok (.lsub, 1) := by decide +kernel
theorem d_Wo_subtract_33 : decode prog_10_method_12_code 33 = .ok (.lstore 6, 2) := by decide +kernel
theorem d_Wo_subtract_35 : decode prog_10_method_12_code 35 = .ok (.aload_n 2, 1) := by decide +kernel
theorem d_Wo_subtract_36 : decode prog_10_method_12_code 36 = .ok (.iload 5, 2) := by decide +kernel
theorem d_Wo_subtract_38 : decode prog_10_method_12_code 38 = .ok (.lload 6, 2) := by decide +kernel
theorem d_Wo_subtract_40 : decode prog_10_method_12_code 40 = .ok (.l2i, 1) := by decide +kernel
theorem d_Wo_subtract_41 : decode prog_10_method_12_code 41 = .ok (.iastore, 1) := by decide +kernel
theorem d_Wo_subtract_42 : decode prog_10_method_12_code 42 = .ok (.lload 6, 2) := by decide +kernel
theorem d_Wo_subtract_44 : decode prog_10_method_12_code 44 = .ok (.lconst 0, 1) := by decide +kernel
theorem d_Wo_subtract_45 : decode prog_10_method_12_code 45 = .ok (.lcmp, 1) := by decide +kernel
theorem d_Wo_subtract_46 : decode prog_10_method_12_code 46 = .ok (.ifCond .ge 7, 3) := by decide +kernel
theorem d_Wo_subtract_49 : decode prog_10_method_12_code 49 = .ok (.lconst 1, 1) := by decide +kernel
theorem d_Wo_subtract_50 : decode prog_10_method_12_code 50 = .ok (.goto 4, 3) := by decide +kernel
theorem d_Wo_subtract_53 : decode prog_10_method_12_code 53 = .ok (.lconst 0, 1) := by decide +kernel
theorem d_Wo_subtract_54 : decode prog_10_method_12_code 54 = .ok (.lstore_n 3, 1) := by decide +kernel
theorem d_Wo_subtract_55 : decode prog_10_method_12_code 55 = .ok (.iinc 5 1, 3) := by decide +kernel
theorem d_Wo_subtract_58 : decode prog_10_method_12_code 58 = .ok (.goto (-53), 3) := by decide +kernel
theorem d_Wo_subtract_61 : decode prog_10_method_12_code 61 = .ok (.return_, 1) := by decide +kernel
def rm_c_W_sub : Room := { frames := 0, cells := 0, slots := 0, locals := 0 }
set_option maxHeartbeats 4000000 in
set_option maxRecDepth 100000 in
theorem c_W_sub (l : Launch) (E : kE) (a b t : Nat) (f x y : Nat → Int32) : Kv l y_Wo_subtract (kW y_Wo_subtract prog_10_method_12_code 8 (none)) rm_c_W_sub E [.ref a, .ref b, .ref t] [(a, .inl (E.2.1 0, 8, .inl f)), (b, .inl (E.2.1 0, 8, .inl x)), (t, .inl (E.2.1 0, 8, .inl y))] (S := Nat → Int32) (fun u => wv u 8 = (wv f 8 + (mM - wv x 8)) % mM) (fun u => [(a, .inl (E.2.1 0, 8, .inl f)), (b, .inl (E.2.1 0, 8, .inl x)), (t, .inl (E.2.1 0, 8, .inl u))]) := by
  refine Kv.ofW (cc := prog_10_method_12_code) (maxL := 8) (by decide) (Nat.le_of_ble_eq_true rfl) ?_
  intro p e s m args below meth c A ls Q hx hb hts hown hml hK hG hA hP hD hS hl hret
  have hl : lv_has ls 8 [(0, .ref a), (1, .ref b), (2, .ref t)] := hl
  refine lv_lconst (v := lN 0) hx hb d_Wo_subtract_0 (by decide) ?_
  refine lv_lstore_n (lv' := [(3, .long (lN 0)), (0, .ref a), (1, .ref b), (2, .ref t)]) hx hb d_Wo_subtract_1 rfl hl (by decide) rfl (fun ls hl => ?_)
  refine lv_iconst (v := nI 0) hx hb d_Wo_subtract_2 (by decide) ?_
  refine lv_istore (lv' := [(5, .int (nI 0)), (3, .long (lN 0)), (0, .ref a), (1, .ref b), (2, .ref t)]) hx hb d_Wo_subtract_3 hl (by decide) rfl (fun ls hl => ?_)
  have key5 : ∀ (n : Nat) (i cy : Nat) (z : Nat → Int32) (H : Heap) (locs : List Loc) (ls : Array Slot), i + n = 8 → (cy ≤ 1 ∧ wv z i + wv x i = wv f i + cy * kK ^ i ∧ ∀ j, i ≤ j → z j = y j) → lv_has ls 8 [(5, .int (nI i)), (3, .long (lN cy)), (0, .ref a), (1, .ref b), (2, .ref t)] → va_P E.1 vwCl [(a, .inl (E.2.1 0, 8, .inl f)), (b, .inl (E.2.1 0, 8, .inl x)), (t, .inl (E.2.1 0, 8, .inl z))] H → va_D A [(a, .inl (E.2.1 0, 8, .inl f)), (b, .inl (E.2.1 0, 8, .inl x)), (t, .inl (E.2.1 0, 8, .inl z))] → va_S A s.heap H locs → W p l e rm_c_W_sub s m args below meth c H locs 0 0 Q (F0 m 5 ls []) := by
    intro n
    induction n using Nat.strongRecOn with
    | ind n ih =>
      intro i cy z H locs ls hn hI hl hP hD hS
      have b1 := uw_lt' (f i)
      have b2 := uw_lt' (x i)
      refine lv_iload hx hb d_Wo_subtract_5 (lv_at hl 0 rfl) ?_
      refine lv_bipush (v := nI 8) hx hb d_Wo_subtract_7 (by decide) ?_
      refine kn_ge (tgt := 61) hx hb (by omega) (by omega) d_Wo_subtract_9 (by decide) (fun h9 => ?_) (fun h9 => ?_)
      · obtain rfl : i = 8 := by omega
        exact hret _ ls _ _ z d_Wo_subtract_61 (fin_sub (wv_lt8 _) (wv_lt8 _) (wv_lt8 _) hI.1 hI.2.1) hP hS
      · refine lv_aload_n hx hb d_Wo_subtract_12 rfl (lv_at hl 2 rfl) ?_
        refine lv_iload hx hb d_Wo_subtract_13 (lv_at hl 0 rfl) ?_
        refine k_iald hx hb hK hP 0 rfl (i := i) (by omega) (by omega) d_Wo_subtract_15 ?_
        refine lv_i2l (v := (f i).toInt64) hx hb d_Wo_subtract_16 rfl ?_
        refine lv_ldc2 (v := 4294967295) hx hb hown (hts _ t_515) d_Wo_subtract_17 ?_
        refine lv_land hx hb d_Wo_subtract_20 ?_
        refine k_topl (k_lo _) ?_
        refine lv_aload_n hx hb d_Wo_subtract_21 rfl (lv_at hl 3 rfl) ?_
        refine lv_iload hx hb d_Wo_subtract_22 (lv_at hl 0 rfl) ?_
        refine k_iald hx hb hK hP 1 rfl (i := i) (by omega) (by omega) d_Wo_subtract_24 ?_
        refine lv_i2l (v := (x i).toInt64) hx hb d_Wo_subtract_25 rfl ?_
        refine lv_ldc2 (v := 4294967295) hx hb hown (hts _ t_515) d_Wo_subtract_26 ?_
        refine lv_land hx hb d_Wo_subtract_29 ?_
        refine k_topl (k_lo _) ?_
        refine lv_lsub hx hb d_Wo_subtract_30 ?_
        refine lv_lload_n hx hb d_Wo_subtract_31 rfl (lv_at hl 1 rfl) ?_
        refine lv_lsub hx hb d_Wo_subtract_32 ?_
        refine lv_lstore (lv' := [(6, .long (((lN (uw (f i))) - (lN (uw (x i)))) - (lN cy))), (5, .int (nI i)), (3, .long (lN cy)), (0, .ref a), (1, .ref b), (2, .ref t)]) hx hb d_Wo_subtract_33 hl (by decide) rfl (fun ls hl => ?_)
        refine lv_aload_n hx hb d_Wo_subtract_35 rfl (lv_at hl 5 rfl) ?_
        refine lv_iload hx hb d_Wo_subtract_36 (lv_at hl 1 rfl) ?_
        refine lv_lload hx hb d_Wo_subtract_38 (lv_at hl 0 rfl) ?_
        refine lv_l2i (v := (((lN (uw (f i))) - (lN (uw (x i)))) - (lN cy)).toInt32) hx hb d_Wo_subtract_40 rfl ?_
        refine k_iast hx hb hK hP hD hS 2 rfl (i := i) (by omega) (by omega) d_Wo_subtract_41 (fun H locs hP hD hS => ?_)
        have hP : va_P E.1 vwCl [(a, .inl (E.2.1 0, 8, .inl f)), (b, .inl (E.2.1 0, 8, .inl x)), (t, .inl (E.2.1 0, 8, .inl (upd z i ((((lN (uw (f i))) - (lN (uw (x i)))) - (lN cy)).toInt32))))] H := hP
        have hD : va_D A [(a, .inl (E.2.1 0, 8, .inl f)), (b, .inl (E.2.1 0, 8, .inl x)), (t, .inl (E.2.1 0, 8, .inl (upd z i ((((lN (uw (f i))) - (lN (uw (x i)))) - (lN cy)).toInt32))))] := hD
        refine lv_lload hx hb d_Wo_subtract_42 (lv_at hl 0 rfl) ?_
        refine lv_lconst (v := lN 0) hx hb d_Wo_subtract_44 (by decide) ?_
        refine W.lcmp hx hb d_Wo_subtract_45 ?_
        refine lv_if_ge (tgt := 53) hx hb d_Wo_subtract_46 (by decide) (fun h46 => ?_) (fun h46 => ?_)
        · refine lv_lconst (v := lN 0) hx hb d_Wo_subtract_53 (by decide) ?_
          refine lv_lstore_n (lv' := [(3, .long (lN 0)), (6, .long (((lN (uw (f i))) - (lN (uw (x i)))) - (lN cy))), (5, .int (nI i)), (0, .ref a), (1, .ref b), (2, .ref t)]) hx hb d_Wo_subtract_54 rfl hl (by decide) rfl (fun ls hl => ?_)
          refine lv_iinc (k := 2) (v := nI (i + 1)) (lv' := [(5, .int (nI (i + 1))), (3, .long (lN 0)), (6, .long (((lN (uw (f i))) - (lN (uw (x i)))) - (lN cy))), (0, .ref a), (1, .ref b), (2, .ref t)]) hx hb d_Wo_subtract_55 hl rfl (k_inc _) (by decide) rfl (fun ls hl => ?_)
          refine lv_goto (tgt := 5) hx hb d_Wo_subtract_58 (by decide) ?_
          exact ih (n - 1) (by omega) (i + 1) 0 (upd z i (((lN (uw (f i)) - lN (uw (x i))) - lN cy).toInt32)) _ _ ls (by omega) ⟨by decide, lp_sub0 hI.1 hI.2.1 ((k_subge b1 b2 hI.1).mp h46), fun j hj => (pk_un (by omega)).trans (hI.2.2 j (by omega))⟩ (lv_sub hl [0, 1, 3, 4, 5] rfl) hP hD hS
        · refine lv_lconst (v := lN 1) hx hb d_Wo_subtract_49 (by decide) ?_
          refine lv_goto (tgt := 54) hx hb d_Wo_subtract_50 (by decide) ?_
          refine lv_lstore_n (lv' := [(3, .long (lN 1)), (6, .long (((lN (uw (f i))) - (lN (uw (x i)))) - (lN cy))), (5, .int (nI i)), (0, .ref a), (1, .ref b), (2, .ref t)]) hx hb d_Wo_subtract_54 rfl hl (by decide) rfl (fun ls hl => ?_)
          refine lv_iinc (k := 2) (v := nI (i + 1)) (lv' := [(5, .int (nI (i + 1))), (3, .long (lN 1)), (6, .long (((lN (uw (f i))) - (lN (uw (x i)))) - (lN cy))), (0, .ref a), (1, .ref b), (2, .ref t)]) hx hb d_Wo_subtract_55 hl rfl (k_inc _) (by decide) rfl (fun ls hl => ?_)
          refine lv_goto (tgt := 5) hx hb d_Wo_subtract_58 (by decide) ?_
          exact ih (n - 1) (by omega) (i + 1) 1 (upd z i (((lN (uw (f i)) - lN (uw (x i))) - lN cy).toInt32)) _ _ ls (by omega) ⟨by decide, lp_sub1 hI.1 hI.2.1 (fun q => h46 ((k_subge b1 b2 hI.1).mpr q)), fun j hj => (pk_un (by omega)).trans (hI.2.2 j (by omega))⟩ (lv_sub hl [0, 1, 3, 4, 5] rfl) hP hD hS
  exact key5 8 0 0 y _ _ ls (by omega) ⟨Nat.zero_le 1, by simp [wv_0], fun _ _ => rfl⟩ (lv_sub hl [0, 1, 2, 3, 4] rfl) hP hD hS

def rm_c_W_sub1 : Room := { frames := 0, cells := 0, slots := 0, locals := 0 }
set_option maxHeartbeats 4000000 in
set_option maxRecDepth 100000 in
theorem c_W_sub1 (l : Launch) (E : kE) (a b : Nat) (f x : Nat → Int32) : Kv l y_Wo_subtract (kW y_Wo_subtract prog_10_method_12_code 8 (none)) rm_c_W_sub1 E [.ref a, .ref b, .ref a] [(a, .inl (E.2.1 0, 8, .inl f)), (b, .inl (E.2.1 0, 8, .inl x))] (S := Nat → Int32) (fun u => wv u 8 = (wv f 8 + (mM - wv x 8)) % mM) (fun u => [(a, .inl (E.2.1 0, 8, .inl u)), (b, .inl (E.2.1 0, 8, .inl x))]) := by
  refine Kv.ofW (cc := prog_10_method_12_code) (maxL := 8) (by decide) (Nat.le_of_ble_eq_true rfl) ?_
  intro p e s m args below meth c A ls Q hx hb hts hown hml hK hG hA hP hD hS hl hret
  have hl : lv_has ls 8 [(0, .ref a), (1, .ref b), (2, .ref a)] := hl
  refine lv_lconst (v := lN 0) hx hb d_Wo_subtract_0 (by decide) ?_
  refine lv_lstore_n (lv' := [(3, .long (lN 0)), (0, .ref a), (1, .ref b), (2, .ref a)]) hx hb d_Wo_subtract_1 rfl hl (by decide) rfl (fun ls hl => ?_)
  refine lv_iconst (v := nI 0) hx hb d_Wo_subtract_2 (by decide) ?_
  refine lv_istore (lv' := [(5, .int (nI 0)), (3, .long (lN 0)), (0, .ref a), (1, .ref b), (2, .ref a)]) hx hb d_Wo_subtract_3 hl (by decide) rfl (fun ls hl => ?_)
  have key5 : ∀ (n : Nat) (i cy : Nat) (z : Nat → Int32) (H : Heap) (locs : List Loc) (ls : Array Slot), i + n = 8 → (cy ≤ 1 ∧ wv z i + wv x i = wv f i + cy * kK ^ i ∧ ∀ j, i ≤ j → z j = f j) → lv_has ls 8 [(5, .int (nI i)), (3, .long (lN cy)), (0, .ref a), (1, .ref b), (2, .ref a)] → va_P E.1 vwCl [(a, .inl (E.2.1 0, 8, .inl z)), (b, .inl (E.2.1 0, 8, .inl x))] H → va_D A [(a, .inl (E.2.1 0, 8, .inl z)), (b, .inl (E.2.1 0, 8, .inl x))] → va_S A s.heap H locs → W p l e rm_c_W_sub1 s m args below meth c H locs 0 0 Q (F0 m 5 ls []) := by
    intro n
    induction n using Nat.strongRecOn with
    | ind n ih =>
      intro i cy z H locs ls hn hI hl hP hD hS
      have b1 := uw_lt' (f i)
      have b2 := uw_lt' (x i)
      refine lv_iload hx hb d_Wo_subtract_5 (lv_at hl 0 rfl) ?_
      refine lv_bipush (v := nI 8) hx hb d_Wo_subtract_7 (by decide) ?_
      refine kn_ge (tgt := 61) hx hb (by omega) (by omega) d_Wo_subtract_9 (by decide) (fun h9 => ?_) (fun h9 => ?_)
      · obtain rfl : i = 8 := by omega
        exact hret _ ls _ _ z d_Wo_subtract_61 (fin_sub (wv_lt8 _) (wv_lt8 _) (wv_lt8 _) hI.1 hI.2.1) hP hS
      · refine lv_aload_n hx hb d_Wo_subtract_12 rfl (lv_at hl 2 rfl) ?_
        refine lv_iload hx hb d_Wo_subtract_13 (lv_at hl 0 rfl) ?_
        refine k_iald hx hb hK hP 0 rfl (i := i) (by omega) (by omega) d_Wo_subtract_15 ?_
        refine k_top (hI.2.2 i (Nat.le_refl i)) ?_
        refine lv_i2l (v := (f i).toInt64) hx hb d_Wo_subtract_16 rfl ?_
        refine lv_ldc2 (v := 4294967295) hx hb hown (hts _ t_515) d_Wo_subtract_17 ?_
        refine lv_land hx hb d_Wo_subtract_20 ?_
        refine k_topl (k_lo _) ?_
        refine lv_aload_n hx hb d_Wo_subtract_21 rfl (lv_at hl 3 rfl) ?_
        refine lv_iload hx hb d_Wo_subtract_22 (lv_at hl 0 rfl) ?_
        refine k_iald hx hb hK hP 1 rfl (i := i) (by omega) (by omega) d_Wo_subtract_24 ?_
        refine lv_i2l (v := (x i).toInt64) hx hb d_Wo_subtract_25 rfl ?_
        refine lv_ldc2 (v := 4294967295) hx hb hown (hts _ t_515) d_Wo_subtract_26 ?_
        refine lv_land hx hb d_Wo_subtract_29 ?_
        refine k_topl (k_lo _) ?_
        refine lv_lsub hx hb d_Wo_subtract_30 ?_
        refine lv_lload_n hx hb d_Wo_subtract_31 rfl (lv_at hl 1 rfl) ?_
        refine lv_lsub hx hb d_Wo_subtract_32 ?_
        refine lv_lstore (lv' := [(6, .long (((lN (uw (f i))) - (lN (uw (x i)))) - (lN cy))), (5, .int (nI i)), (3, .long (lN cy)), (0, .ref a), (1, .ref b), (2, .ref a)]) hx hb d_Wo_subtract_33 hl (by decide) rfl (fun ls hl => ?_)
        refine lv_aload_n hx hb d_Wo_subtract_35 rfl (lv_at hl 5 rfl) ?_
        refine lv_iload hx hb d_Wo_subtract_36 (lv_at hl 1 rfl) ?_
        refine lv_lload hx hb d_Wo_subtract_38 (lv_at hl 0 rfl) ?_
        refine lv_l2i (v := (((lN (uw (f i))) - (lN (uw (x i)))) - (lN cy)).toInt32) hx hb d_Wo_subtract_40 rfl ?_
        refine k_iast hx hb hK hP hD hS 0 rfl (i := i) (by omega) (by omega) d_Wo_subtract_41 (fun H locs hP hD hS => ?_)
        have hP : va_P E.1 vwCl [(a, .inl (E.2.1 0, 8, .inl (upd z i ((((lN (uw (f i))) - (lN (uw (x i)))) - (lN cy)).toInt32)))), (b, .inl (E.2.1 0, 8, .inl x))] H := hP
        have hD : va_D A [(a, .inl (E.2.1 0, 8, .inl (upd z i ((((lN (uw (f i))) - (lN (uw (x i)))) - (lN cy)).toInt32)))), (b, .inl (E.2.1 0, 8, .inl x))] := hD
        refine lv_lload hx hb d_Wo_subtract_42 (lv_at hl 0 rfl) ?_
        refine lv_lconst (v := lN 0) hx hb d_Wo_subtract_44 (by decide) ?_
        refine W.lcmp hx hb d_Wo_subtract_45 ?_
        refine lv_if_ge (tgt := 53) hx hb d_Wo_subtract_46 (by decide) (fun h46 => ?_) (fun h46 => ?_)
        · refine lv_lconst (v := lN 0) hx hb d_Wo_subtract_53 (by decide) ?_
          refine lv_lstore_n (lv' := [(3, .long (lN 0)), (6, .long (((lN (uw (f i))) - (lN (uw (x i)))) - (lN cy))), (5, .int (nI i)), (0, .ref a), (1, .ref b), (2, .ref a)]) hx hb d_Wo_subtract_54 rfl hl (by decide) rfl (fun ls hl => ?_)
          refine lv_iinc (k := 2) (v := nI (i + 1)) (lv' := [(5, .int (nI (i + 1))), (3, .long (lN 0)), (6, .long (((lN (uw (f i))) - (lN (uw (x i)))) - (lN cy))), (0, .ref a), (1, .ref b), (2, .ref a)]) hx hb d_Wo_subtract_55 hl rfl (k_inc _) (by decide) rfl (fun ls hl => ?_)
          refine lv_goto (tgt := 5) hx hb d_Wo_subtract_58 (by decide) ?_
          exact ih (n - 1) (by omega) (i + 1) 0 (upd z i (((lN (uw (f i)) - lN (uw (x i))) - lN cy).toInt32)) _ _ ls (by omega) ⟨by decide, lp_sub0 hI.1 hI.2.1 ((k_subge b1 b2 hI.1).mp h46), fun j hj => (pk_un (by omega)).trans (hI.2.2 j (by omega))⟩ (lv_sub hl [0, 1, 3, 4, 5] rfl) hP hD hS
        · refine lv_lconst (v := lN 1) hx hb d_Wo_subtract_49 (by decide) ?_
          refine lv_goto (tgt := 54) hx hb d_Wo_subtract_50 (by decide) ?_
          refine lv_lstore_n (lv' := [(3, .long (lN 1)), (6, .long (((lN (uw (f i))) - (lN (uw (x i)))) - (lN cy))), (5, .int (nI i)), (0, .ref a), (1, .ref b), (2, .ref a)]) hx hb d_Wo_subtract_54 rfl hl (by decide) rfl (fun ls hl => ?_)
          refine lv_iinc (k := 2) (v := nI (i + 1)) (lv' := [(5, .int (nI (i + 1))), (3, .long (lN 1)), (6, .long (((lN (uw (f i))) - (lN (uw (x i)))) - (lN cy))), (0, .ref a), (1, .ref b), (2, .ref a)]) hx hb d_Wo_subtract_55 hl rfl (k_inc _) (by decide) rfl (fun ls hl => ?_)
          refine lv_goto (tgt := 5) hx hb d_Wo_subtract_58 (by decide) ?_
          exact ih (n - 1) (by omega) (i + 1) 1 (upd z i (((lN (uw (f i)) - lN (uw (x i))) - lN cy).toInt32)) _ _ ls (by omega) ⟨by decide, lp_sub1 hI.1 hI.2.1 (fun q => h46 ((k_subge b1 b2 hI.1).mpr q)), fun j hj => (pk_un (by omega)).trans (hI.2.2 j (by omega))⟩ (lv_sub hl [0, 1, 3, 4, 5] rfl) hP hD hS
  exact key5 8 0 0 f _ _ ls (by omega) ⟨Nat.zero_le 1, by simp [wv_0], fun _ _ => rfl⟩ (lv_sub hl [0, 1, 2, 3, 4] rfl) hP hD hS

abbrev y_Wo_negate : MethodName := ⟨"WideStack$Words", "negate", "([I[I)V"⟩
theorem d_Wo_negate_0 : decode prog_10_method_13_code 0 = .ok (.lconst 1, 1) := by decide +kernel
theorem d_Wo_negate_1 : decode prog_10_method_13_code 1 = .ok (.lstore_n 2, 1) := by decide +kernel
theorem d_Wo_negate_2 : decode prog_10_method_13_code 2 = .ok (.iconst 0, 1) := by decide +kernel
theorem d_Wo_negate_3 : decode prog_10_method_13_code 3 = .ok (.istore 4, 2) := by decide +kernel
theorem d_Wo_negate_5 : decode prog_10_method_13_code 5 = .ok (.iload 4, 2) := by decide +kernel
theorem d_Wo_negate_7 : decode prog_10_method_13_code 7 = .ok (.bipush 8, 2) := by decide +kernel
theorem d_Wo_negate_9 : decode prog_10_method_13_code 9 = .ok (.if_icmp .ge 37, 3) := by decide +kernel
theorem d_Wo_negate_12 : decode prog_10_method_13_code 12 = .ok (.aload_n 0, 1) := by decide +kernel
theorem d_Wo_negate_13 : decode prog_10_method_13_code 13 = .ok (.iload 4, 2) := by decide +kernel
theorem d_Wo_negate_15 : decode prog_10_method_13_code 15 = .ok (.iaload, 1) := by decide +kernel
theorem d_Wo_negate_16 : decode prog_10_method_13_code 16 = .ok (.iconst (-1), 1) := by decide +kernel
theorem d_Wo_negate_17 : decode prog_10_method_13_code 17 = .ok (.ixor, 1) := by decide +kernel
theorem d_Wo_negate_18 : decode prog_10_method_13_code 18 = .ok (.i2l, 1) := by decide +kernel
theorem d_Wo_negate_19 : decode prog_10_method_13_code 19 = .ok (.ldc2_w 28, 3) := by decide +kernel
theorem d_Wo_negate_22 : decode prog_10_method_13_code 22 = .ok (.land, 1) := by decide +kernel
theorem d_Wo_negate_23 : decode prog_10_method_13_code 23 = .ok (.lload_n 2, 1) := by decide +kernel
theorem d_Wo_negate_24 : decode prog_10_method_13_code 24 = .ok (.ladd, 1) := by decide +kernel
theorem d_Wo_negate_25 : decode prog_10_method_13_code 25 = .ok (.lstore 5, 2) := by decide +kernel
theorem d_Wo_negate_27 : decode prog_10_method_13_code 27 = .ok (.aload_n 1, 1) := by decide +kernel
theorem d_Wo_negate_28 : decode prog_10_method_13_code 28 = .ok (.iload 4, 2) := by decide +kernel
theorem d_Wo_negate_30 : decode prog_10_method_13_code 30 = .ok (.lload 5, 2) := by decide +kernel
theorem d_Wo_negate_32 : decode prog_10_method_13_code 32 = .ok (.l2i, 1) := by decide +kernel
theorem d_Wo_negate_33 : decode prog_10_method_13_code 33 = .ok (.iastore, 1) := by decide +kernel
theorem d_Wo_negate_34 : decode prog_10_method_13_code 34 = .ok (.lload 5, 2) := by decide +kernel
theorem d_Wo_negate_36 : decode prog_10_method_13_code 36 = .ok (.bipush 32, 2) := by decide +kernel
theorem d_Wo_negate_38 : decode prog_10_method_13_code 38 = .ok (.lushr, 1) := by decide +kernel
theorem d_Wo_negate_39 : decode prog_10_method_13_code 39 = .ok (.lstore_n 2, 1) := by decide +kernel
theorem d_Wo_negate_40 : decode prog_10_method_13_code 40 = .ok (.iinc 4 1, 3) := by decide +kernel
theorem d_Wo_negate_43 : decode prog_10_method_13_code 43 = .ok (.goto (-38), 3) := by decide +kernel
theorem d_Wo_negate_46 : decode prog_10_method_13_code 46 = .ok (.return_, 1) := by decide +kernel
def rm_c_W_negate : Room := { frames := 0, cells := 0, slots := 0, locals := 0 }
set_option maxHeartbeats 4000000 in
set_option maxRecDepth 100000 in
theorem c_W_negate (l : Launch) (E : kE) (a t na : Nat) (f y : Nat → Int32) (h8 : 8 ≤ na) (hna : na < 100) : Kv l y_Wo_negate (kW y_Wo_negate prog_10_method_13_code 7 (none)) rm_c_W_negate E [.ref a, .ref t] [(a, .inl (E.2.1 0, na, .inl f)), (t, .inl (E.2.1 0, 8, .inl y))] (S := Nat → Int32) (fun u => wv u 8 = m_neg (wv f 8)) (fun u => [(a, .inl (E.2.1 0, na, .inl f)), (t, .inl (E.2.1 0, 8, .inl u))]) := by
  refine Kv.ofW (cc := prog_10_method_13_code) (maxL := 7) (by decide) (Nat.le_of_ble_eq_true rfl) ?_
  intro p e s m args below meth c A ls Q hx hb hts hown hml hK hG hA hP hD hS hl hret
  have hl : lv_has ls 7 [(0, .ref a), (1, .ref t)] := hl
  refine lv_lconst (v := lN 1) hx hb d_Wo_negate_0 (by decide) ?_
  refine lv_lstore_n (lv' := [(2, .long (lN 1)), (0, .ref a), (1, .ref t)]) hx hb d_Wo_negate_1 rfl hl (by decide) rfl (fun ls hl => ?_)
  refine lv_iconst (v := nI 0) hx hb d_Wo_negate_2 (by decide) ?_
  refine lv_istore (lv' := [(4, .int (nI 0)), (2, .long (lN 1)), (0, .ref a), (1, .ref t)]) hx hb d_Wo_negate_3 hl (by decide) rfl (fun ls hl => ?_)
  have key5 : ∀ (n : Nat) (i cy : Nat) (z : Nat → Int32) (H : Heap) (locs : List Loc) (ls : Array Slot), i + n = 8 → (cy ≤ 1 ∧ wv z i + wv f i + cy * kK ^ i = kK ^ i) → lv_has ls 7 [(4, .int (nI i)), (2, .long (lN cy)), (0, .ref a), (1, .ref t)] → va_P E.1 vwCl [(a, .inl (E.2.1 0, na, .inl f)), (t, .inl (E.2.1 0, 8, .inl z))] H → va_D A [(a, .inl (E.2.1 0, na, .inl f)), (t, .inl (E.2.1 0, 8, .inl z))] → va_S A s.heap H locs → W p l e rm_c_W_negate s m args below meth c H locs 0 0 Q (F0 m 5 ls []) := by
    intro n
    induction n using Nat.strongRecOn with
    | ind n ih =>
      intro i cy z H locs ls hn hI hl hP hD hS
      have b1 := uw_lt' (f i ^^^ (-1))
      refine lv_iload hx hb d_Wo_negate_5 (lv_at hl 0 rfl) ?_
      refine lv_bipush (v := nI 8) hx hb d_Wo_negate_7 (by decide) ?_
      refine kn_ge (tgt := 46) hx hb (by omega) (by omega) d_Wo_negate_9 (by decide) (fun h9 => ?_) (fun h9 => ?_)
      · obtain rfl : i = 8 := by omega
        exact hret _ ls _ _ z d_Wo_negate_46 (fin_neg (wv_lt8 _) (wv_lt8 _) hI.2) hP hS
      · refine lv_aload_n hx hb d_Wo_negate_12 rfl (lv_at hl 2 rfl) ?_
        refine lv_iload hx hb d_Wo_negate_13 (lv_at hl 0 rfl) ?_
        refine k_iald hx hb hK hP 0 rfl (i := i) (by omega) (by omega) d_Wo_negate_15 ?_
        refine lv_iconst (v := -1) hx hb d_Wo_negate_16 (by decide) ?_
        refine lv_ixor hx hb d_Wo_negate_17 ?_
        refine lv_i2l (v := ((f i) ^^^ (-1)).toInt64) hx hb d_Wo_negate_18 rfl ?_
        refine lv_ldc2 (v := 4294967295) hx hb hown (hts _ t_515) d_Wo_negate_19 ?_
        refine lv_land hx hb d_Wo_negate_22 ?_
        refine k_topl (k_lo _) ?_
        refine lv_lload_n hx hb d_Wo_negate_23 rfl (lv_at hl 1 rfl) ?_
        refine lv_ladd hx hb d_Wo_negate_24 ?_
        refine k_topl (lN_add _ _) ?_
        refine lv_lstore (lv' := [(5, .long (lN ((uw ((f i) ^^^ (-1))) + cy))), (4, .int (nI i)), (2, .long (lN cy)), (0, .ref a), (1, .ref t)]) hx hb d_Wo_negate_25 hl (by decide) rfl (fun ls hl => ?_)
        refine lv_aload_n hx hb d_Wo_negate_27 rfl (lv_at hl 4 rfl) ?_
        refine lv_iload hx hb d_Wo_negate_28 (lv_at hl 1 rfl) ?_
        refine lv_lload hx hb d_Wo_negate_30 (lv_at hl 0 rfl) ?_
        refine lv_l2i (v := nI ((uw ((f i) ^^^ (-1))) + cy)) hx hb d_Wo_negate_32 (lN_i _) ?_
        refine k_iast hx hb hK hP hD hS 1 rfl (i := i) (by omega) (by omega) d_Wo_negate_33 (fun H locs hP hD hS => ?_)
        have hP : va_P E.1 vwCl [(a, .inl (E.2.1 0, na, .inl f)), (t, .inl (E.2.1 0, 8, .inl (upd z i (nI ((uw ((f i) ^^^ (-1))) + cy)))))] H := hP
        have hD : va_D A [(a, .inl (E.2.1 0, na, .inl f)), (t, .inl (E.2.1 0, 8, .inl (upd z i (nI ((uw ((f i) ^^^ (-1))) + cy)))))] := hD
        refine lv_lload hx hb d_Wo_negate_34 (lv_at hl 0 rfl) ?_
        refine lv_bipush (v := nI 32) hx hb d_Wo_negate_36 (by decide) ?_
        refine lv_lushr (v := lN (((uw ((f i) ^^^ (-1))) + cy) / 4294967296)) hx hb d_Wo_negate_38 (wb_shr (by omega) (by decide)) ?_
        refine lv_lstore_n (lv' := [(2, .long (lN (((uw ((f i) ^^^ (-1))) + cy) / 4294967296))), (5, .long (lN ((uw ((f i) ^^^ (-1))) + cy))), (4, .int (nI i)), (0, .ref a), (1, .ref t)]) hx hb d_Wo_negate_39 rfl hl (by decide) rfl (fun ls hl => ?_)
        refine lv_iinc (k := 2) (v := nI (i + 1)) (lv' := [(4, .int (nI (i + 1))), (2, .long (lN (((uw ((f i) ^^^ (-1))) + cy) / 4294967296))), (5, .long (lN ((uw ((f i) ^^^ (-1))) + cy))), (0, .ref a), (1, .ref t)]) hx hb d_Wo_negate_40 hl rfl (k_inc _) (by decide) rfl (fun ls hl => ?_)
        refine lv_goto (tgt := 5) hx hb d_Wo_negate_43 (by decide) ?_
        exact ih (n - 1) (by omega) (i + 1) ((uw (f i ^^^ (-1)) + cy) / 4294967296) (upd z i (nI (uw (f i ^^^ (-1)) + cy))) _ _ ls (by omega) ⟨by omega, lp_neg hI.2⟩ (lv_sub hl [0, 1, 3, 4] rfl) hP hD hS
  exact key5 8 0 1 y _ _ ls (by omega) ⟨Nat.le_refl 1, by simp [wv_0]⟩ (lv_sub hl [0, 1, 2, 3] rfl) hP hD hS

abbrev y_Wo_copyOrNegate : MethodName := ⟨"WideStack$Words", "copyOrNegate", "([IZ[I)V"⟩
theorem d_Wo_copyOrNegate_0 : decode prog_10_method_14_code 0 = .ok (.iload_n 1, 1) := by decide +kernel
theorem d_Wo_copyOrNegate_1 : decode prog_10_method_14_code 1 = .ok (.ifCond .eq 11, 3) := by decide +kernel
theorem d_Wo_copyOrNegate_4 : decode prog_10_method_14_code 4 = .ok (.aload_n 0, 1) := by decide +kernel
theorem d_Wo_copyOrNegate_5 : decode prog_10_method_14_code 5 = .ok (.aload_n 2, 1) := by decide +kernel
theorem d_Wo_copyOrNegate_6 : decode prog_10_method_14_code 6 = .ok (.invokestatic 38, 3) := by decide +kernel
theorem d_Wo_copyOrNegate_9 : decode prog_10_method_14_code 9 = .ok (.goto 8, 3) := by decide +kernel
theorem d_Wo_copyOrNegate_12 : decode prog_10_method_14_code 12 = .ok (.aload_n 0, 1) := by decide +kernel
theorem d_Wo_copyOrNegate_13 : decode prog_10_method_14_code 13 = .ok (.aload_n 2, 1) := by decide +kernel
theorem d_Wo_copyOrNegate_14 : decode prog_10_method_14_code 14 = .ok (.invokestatic 42, 3) := by decide +kernel
theorem d_Wo_copyOrNegate_17 : decode prog_10_method_14_code 17 = .ok (.return_, 1) := by decide +kernel
def rm_c_W_copyOrNegate : Room := { frames := 2, cells := 0, slots := 0, locals := 61 }
set_option maxHeartbeats 4000000 in
set_option maxRecDepth 100000 in
theorem c_W_copyOrNegate (l : Launch) (E : kE) (a t na : Nat) (f y : Nat → Int32) (b : Bool) (h8 : 8 ≤ na) (hna : na < 100) : Kv l y_Wo_copyOrNegate (kW y_Wo_copyOrNegate prog_10_method_14_code 3 (none)) rm_c_W_copyOrNegate E [.ref a, .int (kb b), .ref t] [(a, .inl (E.2.1 0, na, .inl f)), (t, .inl (E.2.1 0, 8, .inl y))] (S := Nat → Int32) (fun u => wv u 8 = if b then m_neg (wv f 8) else wv f 8) (fun u => [(a, .inl (E.2.1 0, na, .inl f)), (t, .inl (E.2.1 0, 8, .inl u))]) := by
  refine Kv.ofW (cc := prog_10_method_14_code) (maxL := 3) (by decide) (Nat.le_of_ble_eq_true rfl) ?_
  intro p e s m args below meth c A ls Q hx hb hts hown hml hK hG hA hP hD hS hl hret
  have hl : lv_has ls 3 [(0, .ref a), (1, .int (kb b)), (2, .ref t)] := hl
  refine lv_iload_n hx hb d_Wo_copyOrNegate_0 rfl (lv_at hl 1 rfl) ?_
  refine lv_if_eq (tgt := 12) hx hb d_Wo_copyOrNegate_1 (by decide) (fun h1 => ?_) (fun h1 => ?_)
  · refine lv_aload_n hx hb d_Wo_copyOrNegate_12 rfl (lv_at hl 0 rfl) ?_
    refine lv_aload_n hx hb d_Wo_copyOrNegate_13 rfl (lv_at hl 2 rfl) ?_
    refine k_Sv (As := [.ref a, .ref t]) (rest := []) ⟨hx, hb, hml, hown, hts⟩ (c_W_copy l E a t na 8 f y h8 (by decide)) (k_cwS 2 hts t_568 t_314 t_73 t_315 (by decide +kernel) ⟨Nat.le_of_ble_eq_true rfl, Nat.le_of_ble_eq_true rfl⟩) hK hG hA hP hD hS [0, 1] rfl (by decide) (fun _ => rfl) rfl hl.1 rfl (Nat.le_of_ble_eq_true rfl) d_Wo_copyOrNegate_14 ⟨Nat.zero_le _, Nat.zero_le _⟩ (fun u H locs hu hP hD hS => ?_)
    have hP : va_P E.1 vwCl [(a, .inl (E.2.1 0, na, .inl f)), (t, .inl (E.2.1 0, 8, .inl u))] H := hP
    have hD : va_D A [(a, .inl (E.2.1 0, na, .inl f)), (t, .inl (E.2.1 0, 8, .inl u))] := hD
    first | exact hret _ ls _ _ u d_Wo_copyOrNegate_17 (by rw [kb_0.mp h1]; exact wv_congr (fun j hj => (hu j).trans (if_pos hj))) hP hS | exact hret _ ls _ _ u d_Wo_copyOrNegate_17 (by rw [if_pos (kb_n0 h1)]; exact hu) hP hS
  · refine lv_aload_n hx hb d_Wo_copyOrNegate_4 rfl (lv_at hl 0 rfl) ?_
    refine lv_aload_n hx hb d_Wo_copyOrNegate_5 rfl (lv_at hl 2 rfl) ?_
    refine k_Sv (As := [.ref a, .ref t]) (rest := []) ⟨hx, hb, hml, hown, hts⟩ (c_W_negate l E a t na f y h8 hna) (k_cwS 2 hts t_565 t_566 t_73 t_567 (by decide +kernel) ⟨Nat.le_of_ble_eq_true rfl, Nat.le_of_ble_eq_true rfl⟩) hK hG hA hP hD hS [0, 1] rfl (by decide) (fun _ => rfl) rfl hl.1 rfl (Nat.le_of_ble_eq_true rfl) d_Wo_copyOrNegate_6 ⟨Nat.zero_le _, Nat.zero_le _⟩ (fun u H locs hu hP hD hS => ?_)
    have hP : va_P E.1 vwCl [(a, .inl (E.2.1 0, na, .inl f)), (t, .inl (E.2.1 0, 8, .inl u))] H := hP
    have hD : va_D A [(a, .inl (E.2.1 0, na, .inl f)), (t, .inl (E.2.1 0, 8, .inl u))] := hD
    refine lv_goto (tgt := 17) hx hb d_Wo_copyOrNegate_9 (by decide) ?_
    first | exact hret _ ls _ _ u d_Wo_copyOrNegate_17 (by rw [kb_0.mp h1]; exact wv_congr (fun j hj => (hu j).trans (if_pos hj))) hP hS | exact hret _ ls _ _ u d_Wo_copyOrNegate_17 (by rw [if_pos (kb_n0 h1)]; exact hu) hP hS

abbrev y_Wo_not : MethodName := ⟨"WideStack$Words", "not", "([I[I)V"⟩
theorem d_Wo_not_0 : decode prog_10_method_19_code 0 = .ok (.iconst 0, 1) := by decide +kernel
theorem d_Wo_not_1 : decode prog_10_method_19_code 1 = .ok (.istore_n 2, 1) := by decide +kernel
theorem d_Wo_not_2 : decode prog_10_method_19_code 2 = .ok (.iload_n 2, 1) := by decide +kernel
theorem d_Wo_not_3 : decode prog_10_method_19_code 3 = .ok (.bipush 8, 2) := by decide +kernel
theorem d_Wo_not_5 : decode prog_10_method_19_code 5 = .ok (.if_icmp .ge 17, 3) := by decide +kernel
theorem d_Wo_not_8 : decode prog_10_method_19_code 8 = .ok (.aload_n 1, 1) := by decide +kernel
theorem d_Wo_not_9 : decode prog_10_method_19_code 9 = .ok (.iload_n 2, 1) := by decide +kernel
theorem d_Wo_not_10 : decode prog_10_method_19_code 10 = .ok (.aload_n 0, 1) := by decide +kernel
theorem d_Wo_not_11 : decode prog_10_method_19_code 11 = .ok (.iload_n 2, 1) := by decide +kernel
theorem d_Wo_not_12 : decode prog_10_method_19_code 12 = .ok (.iaload, 1) := by decide +kernel
theorem d_Wo_not_13 : decode prog_10_method_19_code 13 = .ok (.iconst (-1), 1) := by decide +kernel
theorem d_Wo_not_14 : decode prog_10_method_19_code 14 = .ok (.ixor, 1) := by decide +kernel
theorem d_Wo_not_15 : decode prog_10_method_19_code 15 = .ok (.iastore, 1) := by decide +kernel
theorem d_Wo_not_16 : decode prog_10_method_19_code 16 = .ok (.iinc 2 1, 3) := by decide +kernel
theorem d_Wo_not_19 : decode prog_10_method_19_code 19 = .ok (.goto (-17), 3) := by decide +kernel
theorem d_Wo_not_22 : decode prog_10_method_19_code 22 = .ok (.return_, 1) := by decide +kernel
def rm_c_W_not : Room := { frames := 0, cells := 0, slots := 0, locals := 0 }
set_option maxHeartbeats 4000000 in
set_option maxRecDepth 100000 in
theorem c_W_not (l : Launch) (E : kE) (a t : Nat) (f y : Nat → Int32) : Kv l y_Wo_not (kW y_Wo_not prog_10_method_19_code 3 (none)) rm_c_W_not E [.ref a, .ref t] [(a, .inl (E.2.1 0, 8, .inl f)), (t, .inl (E.2.1 0, 8, .inl y))] (S := Nat → Int32) (fun u => ∀ j, j < 8 → u j = f j ^^^ (-1)) (fun u => [(a, .inl (E.2.1 0, 8, .inl f)), (t, .inl (E.2.1 0, 8, .inl u))]) := by
  refine Kv.ofW (cc := prog_10_method_19_code) (maxL := 3) (by decide) (Nat.le_of_ble_eq_true rfl) ?_
  intro p e s m args below meth c A ls Q hx hb hts hown hml hK hG hA hP hD hS hl hret
  have hl : lv_has ls 3 [(0, .ref a), (1, .ref t)] := hl
  refine lv_iconst (v := nI 0) hx hb d_Wo_not_0 (by decide) ?_
  refine lv_istore_n (lv' := [(2, .int (nI 0)), (0, .ref a), (1, .ref t)]) hx hb d_Wo_not_1 rfl hl (by decide) rfl (fun ls hl => ?_)
  have key2 : ∀ (n : Nat) (i : Nat) (z : Nat → Int32) (H : Heap) (locs : List Loc) (ls : Array Slot), i + n = 8 → (∀ j, j < i → z j = f j ^^^ (-1)) → lv_has ls 3 [(2, .int (nI i)), (0, .ref a), (1, .ref t)] → va_P E.1 vwCl [(a, .inl (E.2.1 0, 8, .inl f)), (t, .inl (E.2.1 0, 8, .inl z))] H → va_D A [(a, .inl (E.2.1 0, 8, .inl f)), (t, .inl (E.2.1 0, 8, .inl z))] → va_S A s.heap H locs → W p l e rm_c_W_not s m args below meth c H locs 0 0 Q (F0 m 2 ls []) := by
    intro n
    induction n using Nat.strongRecOn with
    | ind n ih =>
      intro i z H locs ls hn hI hl hP hD hS
      refine lv_iload_n hx hb d_Wo_not_2 rfl (lv_at hl 0 rfl) ?_
      refine lv_bipush (v := nI 8) hx hb d_Wo_not_3 (by decide) ?_
      refine kn_ge (tgt := 22) hx hb (by omega) (by omega) d_Wo_not_5 (by decide) (fun h5 => ?_) (fun h5 => ?_)
      · exact hret _ ls _ _ z d_Wo_not_22 (fun j hj => hI j (by omega)) hP hS
      · refine lv_aload_n hx hb d_Wo_not_8 rfl (lv_at hl 2 rfl) ?_
        refine lv_iload_n hx hb d_Wo_not_9 rfl (lv_at hl 0 rfl) ?_
        refine lv_aload_n hx hb d_Wo_not_10 rfl (lv_at hl 1 rfl) ?_
        refine lv_iload_n hx hb d_Wo_not_11 rfl (lv_at hl 0 rfl) ?_
        refine k_iald hx hb hK hP 0 rfl (i := i) (by omega) (by omega) d_Wo_not_12 ?_
        refine lv_iconst (v := -1) hx hb d_Wo_not_13 (by decide) ?_
        refine lv_ixor hx hb d_Wo_not_14 ?_
        refine k_iast hx hb hK hP hD hS 1 rfl (i := i) (by omega) (by omega) d_Wo_not_15 (fun H locs hP hD hS => ?_)
        have hP : va_P E.1 vwCl [(a, .inl (E.2.1 0, 8, .inl f)), (t, .inl (E.2.1 0, 8, .inl (upd z i ((f i) ^^^ (-1)))))] H := hP
        have hD : va_D A [(a, .inl (E.2.1 0, 8, .inl f)), (t, .inl (E.2.1 0, 8, .inl (upd z i ((f i) ^^^ (-1)))))] := hD
        refine lv_iinc (k := 0) (v := nI (i + 1)) (lv' := [(2, .int (nI (i + 1))), (0, .ref a), (1, .ref t)]) hx hb d_Wo_not_16 hl rfl (k_inc _) (by decide) rfl (fun ls hl => ?_)
        refine lv_goto (tgt := 2) hx hb d_Wo_not_19 (by decide) ?_
        exact ih (n - 1) (by omega) (i + 1) (upd z i (f i ^^^ (-1))) _ _ ls (by omega) (fun j hj => if q : j = i then by subst q; exact pk_us else by rw [pk_un q]; exact hI j (by omega)) (lv_sub hl [0, 1, 2] rfl) hP hD hS
  exact key2 8 0 y _ _ ls (by omega) (fun j hj => absurd hj (Nat.not_lt_zero j)) (lv_sub hl [0, 1, 2] rfl) hP hD hS

