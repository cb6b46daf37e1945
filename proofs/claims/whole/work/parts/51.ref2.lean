abbrev y_M_copy : MethodName := ⟨"WideStackModel", "copy", "(II)V"⟩
theorem d_M_copy_0 : decode prog_12_method_13_code 0 = .ok (.iconst 0, 1) := by decide +kernel
theorem d_M_copy_1 : decode prog_12_method_13_code 1 = .ok (.istore_n 3, 1) := by decide +kernel
theorem d_M_copy_2 : decode prog_12_method_13_code 2 = .ok (.iload_n 3, 1) := by decide +kernel
theorem d_M_copy_3 : decode prog_12_method_13_code 3 = .ok (.bipush 16, 2) := by decide +kernel
theorem d_M_copy_5 : decode prog_12_method_13_code 5 = .ok (.if_icmp .ge 25, 3) := by decide +kernel
theorem d_M_copy_8 : decode prog_12_method_13_code 8 = .ok (.aload_n 0, 1) := by decide +kernel
theorem d_M_copy_9 : decode prog_12_method_13_code 9 = .ok (.getfield 16, 3) := by decide +kernel
theorem d_M_copy_12 : decode prog_12_method_13_code 12 = .ok (.iload_n 1, 1) := by decide +kernel
theorem d_M_copy_13 : decode prog_12_method_13_code 13 = .ok (.iload_n 3, 1) := by decide +kernel
theorem d_M_copy_14 : decode prog_12_method_13_code 14 = .ok (.iadd, 1) := by decide +kernel
theorem d_M_copy_15 : decode prog_12_method_13_code 15 = .ok (.aload_n 0, 1) := by decide +kernel
theorem d_M_copy_16 : decode prog_12_method_13_code 16 = .ok (.getfield 16, 3) := by decide +kernel
theorem d_M_copy_19 : decode prog_12_method_13_code 19 = .ok (.iload_n 2, 1) := by decide +kernel
theorem d_M_copy_20 : decode prog_12_method_13_code 20 = .ok (.iload_n 3, 1) := by decide +kernel
theorem d_M_copy_21 : decode prog_12_method_13_code 21 = .ok (.iadd, 1) := by decide +kernel
theorem d_M_copy_22 : decode prog_12_method_13_code 22 = .ok (.iaload, 1) := by decide +kernel
theorem d_M_copy_23 : decode prog_12_method_13_code 23 = .ok (.iastore, 1) := by decide +kernel
theorem d_M_copy_24 : decode prog_12_method_13_code 24 = .ok (.iinc 3 1, 3) := by decide +kernel
theorem d_M_copy_27 : decode prog_12_method_13_code 27 = .ok (.goto (-25), 3) := by decide +kernel
theorem d_M_copy_30 : decode prog_12_method_13_code 30 = .ok (.return_, 1) := by decide +kernel
def rm_c_M_copy : Room := { frames := 0, cells := 0, slots := 0, locals := 0 }
set_option maxHeartbeats 4000000 in
set_option maxRecDepth 100000 in
theorem c_M_copy (l : Launch) (E : kE) (mo mb mm mw mh ml len en gas ctr siz hgt frm ret : Nat) (on ay : Bool) (g : Nat → Nat) (hg : ∀ j, g j < 65536) (ta tb : Nat) (h1 : ta + 16 ≤ 370) (h2 : tb + 16 ≤ 370) (hd : tb + 16 ≤ ta ∨ ta + 16 ≤ tb) : Kv l y_M_copy (kW y_M_copy prog_12_method_13_code 4 (none)) rm_c_M_copy E [.ref mo, .int (nI ta), .int (nI tb)] [(mo, .inr (8, [.int (nI len), .ref mb, .int (kb on), .int (nI en), .int (nI gas), .int (nI ctr), .int (nI siz), .int (nI hgt), .int (nI frm), .int (nI ret), .ref mm, .ref mw, .ref mh, .ref ml, .int (kb ay)])), (mw, .inl (E.2.1 0, 370, .inl (nF g)))] (S := Unit) (fun _ => True) (fun _ => [(mo, .inr (8, [.int (nI len), .ref mb, .int (kb on), .int (nI en), .int (nI gas), .int (nI ctr), .int (nI siz), .int (nI hgt), .int (nI frm), .int (nI ret), .ref mm, .ref mw, .ref mh, .ref ml, .int (kb ay)])), (mw, .inl (E.2.1 0, 370, .inl (nF (cpy g ta tb))))]) := by
  refine Kv.ofW (cc := prog_12_method_13_code) (maxL := 4) (by decide) (Nat.le_of_ble_eq_true rfl) ?_
  intro p e s m args below meth c A ls Q hx hb hts hown hml hK hG hA hP hD hS hl hret
  have hl : lv_has ls 4 [(0, .ref mo), (1, .int (nI ta)), (2, .int (nI tb))] := hl
  refine lv_iconst (v := nI 0) hx hb d_M_copy_0 (by decide) ?_
  refine lv_istore_n (lv' := [(3, .int (nI 0)), (0, .ref mo), (1, .int (nI ta)), (2, .int (nI tb))]) hx hb d_M_copy_1 rfl hl (by decide) rfl (fun ls hl => ?_)
  have key2 : ∀ (n : Nat) (i : Nat) (z : Nat → Nat) (H : Heap) (locs : List Loc) (ls : Array Slot), i + n = 16 → (∀ j, z j = if ta ≤ j ∧ j < ta + i then g (tb + (j - ta)) else g j) → lv_has ls 4 [(3, .int (nI i)), (0, .ref mo), (1, .int (nI ta)), (2, .int (nI tb))] → va_P E.1 vwCl [(mo, .inr (8, [.int (nI len), .ref mb, .int (kb on), .int (nI en), .int (nI gas), .int (nI ctr), .int (nI siz), .int (nI hgt), .int (nI frm), .int (nI ret), .ref mm, .ref mw, .ref mh, .ref ml, .int (kb ay)])), (mw, .inl (E.2.1 0, 370, .inl (nF z)))] H → va_D A [(mo, .inr (8, [.int (nI len), .ref mb, .int (kb on), .int (nI en), .int (nI gas), .int (nI ctr), .int (nI siz), .int (nI hgt), .int (nI frm), .int (nI ret), .ref mm, .ref mw, .ref mh, .ref ml, .int (kb ay)])), (mw, .inl (E.2.1 0, 370, .inl (nF z)))] → va_S A s.heap H locs → W p l e rm_c_M_copy s m args below meth c H locs 0 0 Q (F0 m 2 ls []) := by
    intro n
    induction n using Nat.strongRecOn with
    | ind n ih =>
      intro i z H locs ls hn hI hl hP hD hS
      refine lv_iload_n hx hb d_M_copy_2 rfl (lv_at hl 0 rfl) ?_
      refine lv_bipush (v := nI 16) hx hb d_M_copy_3 (by decide) ?_
      refine kn_ge (tgt := 30) hx hb (by omega) (by omega) d_M_copy_5 (by decide) (fun h5 => ?_) (fun h5 => ?_)
      · obtain rfl : i = 16 := by omega
        obtain rfl : z = cpy g ta tb := funext hI
        exact hret _ ls _ _ () d_M_copy_30 trivial hP hS
      · refine lv_aload_n hx hb d_M_copy_8 rfl (lv_at hl 1 rfl) ?_
        refine va_get (D := E.1) (ci := 8) (v := .ref mw) (C := "WideStackModel") (T := T_M) (N := 15) hx hb hts in_M hown hK hP 0 rfl rfl 11 (by decide) (hts _ t_758) (fun _ h9 => h9) rfl d_M_copy_9 ?_
        refine lv_iload_n hx hb d_M_copy_12 rfl (lv_at hl 2 rfl) ?_
        refine lv_iload_n hx hb d_M_copy_13 rfl (lv_at hl 0 rfl) ?_
        refine lv_iadd hx hb d_M_copy_14 ?_
        refine k_top (nI_add _ _) ?_
        refine lv_aload_n hx hb d_M_copy_15 rfl (lv_at hl 1 rfl) ?_
        refine va_get (D := E.1) (ci := 8) (v := .ref mw) (C := "WideStackModel") (T := T_M) (N := 15) hx hb hts in_M hown hK hP 0 rfl rfl 11 (by decide) (hts _ t_758) (fun _ h9 => h9) rfl d_M_copy_16 ?_
        refine lv_iload_n hx hb d_M_copy_19 rfl (lv_at hl 3 rfl) ?_
        refine lv_iload_n hx hb d_M_copy_20 rfl (lv_at hl 0 rfl) ?_
        refine lv_iadd hx hb d_M_copy_21 ?_
        refine k_top (nI_add _ _) ?_
        refine k_ialdN hx hb hK hP 1 rfl (i := (tb + i)) (by omega) (by omega) d_M_copy_22 ?_
        refine k_iastN hx hb hK hP hD hS 1 rfl (i := (ta + i)) (by omega) (by omega) d_M_copy_23 (fun H locs hP hD hS => ?_)
        have hP : va_P E.1 vwCl [(mo, .inr (8, [.int (nI len), .ref mb, .int (kb on), .int (nI en), .int (nI gas), .int (nI ctr), .int (nI siz), .int (nI hgt), .int (nI frm), .int (nI ret), .ref mm, .ref mw, .ref mh, .ref ml, .int (kb ay)])), (mw, .inl (E.2.1 0, 370, .inl (nF (va_up z (ta + i) (z (tb + i))))))] H := hP
        have hD : va_D A [(mo, .inr (8, [.int (nI len), .ref mb, .int (kb on), .int (nI en), .int (nI gas), .int (nI ctr), .int (nI siz), .int (nI hgt), .int (nI frm), .int (nI ret), .ref mm, .ref mw, .ref mh, .ref ml, .int (kb ay)])), (mw, .inl (E.2.1 0, 370, .inl (nF (va_up z (ta + i) (z (tb + i))))))] := hD
        refine lv_iinc (k := 0) (v := nI (i + 1)) (lv' := [(3, .int (nI (i + 1))), (0, .ref mo), (1, .int (nI ta)), (2, .int (nI tb))]) hx hb d_M_copy_24 hl rfl (k_inc _) (by decide) rfl (fun ls hl => ?_)
        refine lv_goto (tgt := 2) hx hb d_M_copy_27 (by decide) ?_
        exact ih (n - 1) (by omega) (i + 1) (va_up z (ta + i) (z (tb + i))) _ _ ls (by omega) (fun j => cp_step hd (by omega) hI j) (lv_sub hl [0, 1, 2, 3] rfl) hP hD hS
  exact key2 16 0 g _ _ ls (by omega) (fun j => by rw [if_neg (by omega)]) (lv_sub hl [0, 1, 2, 3] rfl) hP hD hS

abbrev y_M_number : MethodName := ⟨"WideStackModel", "number", "(II)V"⟩
theorem d_M_number_0 : decode prog_12_method_14_code 0 = .ok (.iconst 0, 1) := by decide +kernel
theorem d_M_number_1 : decode prog_12_method_14_code 1 = .ok (.istore_n 3, 1) := by decide +kernel
theorem d_M_number_2 : decode prog_12_method_14_code 2 = .ok (.iload_n 3, 1) := by decide +kernel
theorem d_M_number_3 : decode prog_12_method_14_code 3 = .ok (.bipush 16, 2) := by decide +kernel
theorem d_M_number_5 : decode prog_12_method_14_code 5 = .ok (.if_icmp .ge 41, 3) := by decide +kernel
theorem d_M_number_8 : decode prog_12_method_14_code 8 = .ok (.aload_n 0, 1) := by decide +kernel
theorem d_M_number_9 : decode prog_12_method_14_code 9 = .ok (.getfield 16, 3) := by decide +kernel
theorem d_M_number_12 : decode prog_12_method_14_code 12 = .ok (.iload_n 1, 1) := by decide +kernel
theorem d_M_number_13 : decode prog_12_method_14_code 13 = .ok (.iload_n 3, 1) := by decide +kernel
theorem d_M_number_14 : decode prog_12_method_14_code 14 = .ok (.iadd, 1) := by decide +kernel
theorem d_M_number_15 : decode prog_12_method_14_code 15 = .ok (.iload_n 3, 1) := by decide +kernel
theorem d_M_number_16 : decode prog_12_method_14_code 16 = .ok (.ifCond .ne 10, 3) := by decide +kernel
theorem d_M_number_19 : decode prog_12_method_14_code 19 = .ok (.iload_n 2, 1) := by decide +kernel
theorem d_M_number_20 : decode prog_12_method_14_code 20 = .ok (.ldc 52, 2) := by decide +kernel
theorem d_M_number_22 : decode prog_12_method_14_code 22 = .ok (.iand, 1) := by decide +kernel
theorem d_M_number_23 : decode prog_12_method_14_code 23 = .ok (.goto 16, 3) := by decide +kernel
theorem d_M_number_26 : decode prog_12_method_14_code 26 = .ok (.iload_n 3, 1) := by decide +kernel
theorem d_M_number_27 : decode prog_12_method_14_code 27 = .ok (.iconst 1, 1) := by decide +kernel
theorem d_M_number_28 : decode prog_12_method_14_code 28 = .ok (.if_icmp .ne 10, 3) := by decide +kernel
theorem d_M_number_31 : decode prog_12_method_14_code 31 = .ok (.iload_n 2, 1) := by decide +kernel
theorem d_M_number_32 : decode prog_12_method_14_code 32 = .ok (.bipush 16, 2) := by decide +kernel
theorem d_M_number_34 : decode prog_12_method_14_code 34 = .ok (.iushr, 1) := by decide +kernel
theorem d_M_number_35 : decode prog_12_method_14_code 35 = .ok (.goto 4, 3) := by decide +kernel
theorem d_M_number_38 : decode prog_12_method_14_code 38 = .ok (.iconst 0, 1) := by decide +kernel
theorem d_M_number_39 : decode prog_12_method_14_code 39 = .ok (.iastore, 1) := by decide +kernel
theorem d_M_number_40 : decode prog_12_method_14_code 40 = .ok (.iinc 3 1, 3) := by decide +kernel
theorem d_M_number_43 : decode prog_12_method_14_code 43 = .ok (.goto (-41), 3) := by decide +kernel
theorem d_M_number_46 : decode prog_12_method_14_code 46 = .ok (.return_, 1) := by decide +kernel
def rm_c_M_number : Room := { frames := 0, cells := 0, slots := 0, locals := 0 }
set_option maxHeartbeats 4000000 in
set_option maxRecDepth 100000 in
theorem c_M_number (l : Launch) (E : kE) (mo mb mm mw mh ml len en gas ctr siz hgt frm ret : Nat) (on ay : Bool) (g : Nat → Nat) (hg : ∀ j, g j < 65536) (ta v : Nat) (h1 : ta + 16 ≤ 370) (h2 : v < 2147483648) : Kv l y_M_number (kW y_M_number prog_12_method_14_code 4 (none)) rm_c_M_number E [.ref mo, .int (nI ta), .int (nI v)] [(mo, .inr (8, [.int (nI len), .ref mb, .int (kb on), .int (nI en), .int (nI gas), .int (nI ctr), .int (nI siz), .int (nI hgt), .int (nI frm), .int (nI ret), .ref mm, .ref mw, .ref mh, .ref ml, .int (kb ay)])), (mw, .inl (E.2.1 0, 370, .inl (nF g)))] (S := Unit) (fun _ => True) (fun _ => [(mo, .inr (8, [.int (nI len), .ref mb, .int (kb on), .int (nI en), .int (nI gas), .int (nI ctr), .int (nI siz), .int (nI hgt), .int (nI frm), .int (nI ret), .ref mm, .ref mw, .ref mh, .ref ml, .int (kb ay)])), (mw, .inl (E.2.1 0, 370, .inl (nF (nmb g ta v))))]) := by
  refine Kv.ofW (cc := prog_12_method_14_code) (maxL := 4) (by decide) (Nat.le_of_ble_eq_true rfl) ?_
  intro p e s m args below meth c A ls Q hx hb hts hown hml hK hG hA hP hD hS hl hret
  have hl : lv_has ls 4 [(0, .ref mo), (1, .int (nI ta)), (2, .int (nI v))] := hl
  refine lv_iconst (v := nI 0) hx hb d_M_number_0 (by decide) ?_
  refine lv_istore_n (lv' := [(3, .int (nI 0)), (0, .ref mo), (1, .int (nI ta)), (2, .int (nI v))]) hx hb d_M_number_1 rfl hl (by decide) rfl (fun ls hl => ?_)
  have key2 : ∀ (n : Nat) (i : Nat) (z : Nat → Nat) (H : Heap) (locs : List Loc) (ls : Array Slot), i + n = 16 → (∀ j, z j = if ta ≤ j ∧ j < ta + i then nmb g ta v j else g j) → lv_has ls 4 [(3, .int (nI i)), (0, .ref mo), (1, .int (nI ta)), (2, .int (nI v))] → va_P E.1 vwCl [(mo, .inr (8, [.int (nI len), .ref mb, .int (kb on), .int (nI en), .int (nI gas), .int (nI ctr), .int (nI siz), .int (nI hgt), .int (nI frm), .int (nI ret), .ref mm, .ref mw, .ref mh, .ref ml, .int (kb ay)])), (mw, .inl (E.2.1 0, 370, .inl (nF z)))] H → va_D A [(mo, .inr (8, [.int (nI len), .ref mb, .int (kb on), .int (nI en), .int (nI gas), .int (nI ctr), .int (nI siz), .int (nI hgt), .int (nI frm), .int (nI ret), .ref mm, .ref mw, .ref mh, .ref ml, .int (kb ay)])), (mw, .inl (E.2.1 0, 370, .inl (nF z)))] → va_S A s.heap H locs → W p l e rm_c_M_number s m args below meth c H locs 0 0 Q (F0 m 2 ls []) := by
    intro n
    induction n using Nat.strongRecOn with
    | ind n ih =>
      intro i z H locs ls hn hI hl hP hD hS
      refine lv_iload_n hx hb d_M_number_2 rfl (lv_at hl 0 rfl) ?_
      refine lv_bipush (v := nI 16) hx hb d_M_number_3 (by decide) ?_
      refine kn_ge (tgt := 46) hx hb (by omega) (by omega) d_M_number_5 (by decide) (fun h5 => ?_) (fun h5 => ?_)
      · obtain rfl : z = nmb g ta v := nm_fin (by omega) hI
        exact hret _ ls _ _ () d_M_number_46 trivial hP hS
      · refine lv_aload_n hx hb d_M_number_8 rfl (lv_at hl 1 rfl) ?_
        refine va_get (D := E.1) (ci := 8) (v := .ref mw) (C := "WideStackModel") (T := T_M) (N := 15) hx hb hts in_M hown hK hP 0 rfl rfl 11 (by decide) (hts _ t_758) (fun _ h9 => h9) rfl d_M_number_9 ?_
        refine lv_iload_n hx hb d_M_number_12 rfl (lv_at hl 2 rfl) ?_
        refine lv_iload_n hx hb d_M_number_13 rfl (lv_at hl 0 rfl) ?_
        refine lv_iadd hx hb d_M_number_14 ?_
        refine k_top (nI_add _ _) ?_
        refine lv_iload_n hx hb d_M_number_15 rfl (lv_at hl 0 rfl) ?_
        refine kn_ifne (tgt := 26) hx hb (by omega) d_M_number_16 (by decide) (fun h16 => ?_) (fun h16 => ?_)
        · refine lv_iload_n hx hb d_M_number_26 rfl (lv_at hl 0 rfl) ?_
          refine lv_iconst (v := nI 1) hx hb d_M_number_27 (by decide) ?_
          refine kn_ne (tgt := 38) hx hb (by omega) (by omega) d_M_number_28 (by decide) (fun h28 => ?_) (fun h28 => ?_)
          · refine lv_iconst (v := nI 0) hx hb d_M_number_38 (by decide) ?_
            refine k_iastN hx hb hK hP hD hS 1 rfl (i := (ta + i)) (by omega) (by omega) d_M_number_39 (fun H locs hP hD hS => ?_)
            have hP : va_P E.1 vwCl [(mo, .inr (8, [.int (nI len), .ref mb, .int (kb on), .int (nI en), .int (nI gas), .int (nI ctr), .int (nI siz), .int (nI hgt), .int (nI frm), .int (nI ret), .ref mm, .ref mw, .ref mh, .ref ml, .int (kb ay)])), (mw, .inl (E.2.1 0, 370, .inl (nF (va_up z (ta + i) 0))))] H := hP
            have hD : va_D A [(mo, .inr (8, [.int (nI len), .ref mb, .int (kb on), .int (nI en), .int (nI gas), .int (nI ctr), .int (nI siz), .int (nI hgt), .int (nI frm), .int (nI ret), .ref mm, .ref mw, .ref mh, .ref ml, .int (kb ay)])), (mw, .inl (E.2.1 0, 370, .inl (nF (va_up z (ta + i) 0))))] := hD
            refine lv_iinc (k := 0) (v := nI (i + 1)) (lv' := [(3, .int (nI (i + 1))), (0, .ref mo), (1, .int (nI ta)), (2, .int (nI v))]) hx hb d_M_number_40 hl rfl (k_inc _) (by decide) rfl (fun ls hl => ?_)
            refine lv_goto (tgt := 2) hx hb d_M_number_43 (by decide) ?_
            exact ih (n - 1) (by omega) (i + 1) (va_up z (ta + i) 0) _ _ ls (by omega) (fun j => nm_step (by omega) (by first | exact (if_pos h16).symm | exact ((if_neg h16).trans (if_pos h28)).symm | exact ((if_neg h16).trans (if_neg h28)).symm) hI j) (lv_sub hl [0, 1, 2, 3] rfl) hP hD hS
          · refine lv_iload_n hx hb d_M_number_31 rfl (lv_at hl 3 rfl) ?_
            refine lv_bipush (v := nI 16) hx hb d_M_number_32 (by decide) ?_
            refine lv_iushr (v := ((nI v).toUInt32 >>> ((nI 16).toUInt32 &&& Int32.toUInt32 31)).toInt32) hx hb d_M_number_34 rfl ?_
            refine k_top ((k_ushr (by decide)).trans (by rw [uw_nI' (by omega)])) ?_
            refine lv_goto (tgt := 39) hx hb d_M_number_35 (by decide) ?_
            refine k_iastN hx hb hK hP hD hS 1 rfl (i := (ta + i)) (by omega) (by omega) d_M_number_39 (fun H locs hP hD hS => ?_)
            have hP : va_P E.1 vwCl [(mo, .inr (8, [.int (nI len), .ref mb, .int (kb on), .int (nI en), .int (nI gas), .int (nI ctr), .int (nI siz), .int (nI hgt), .int (nI frm), .int (nI ret), .ref mm, .ref mw, .ref mh, .ref ml, .int (kb ay)])), (mw, .inl (E.2.1 0, 370, .inl (nF (va_up z (ta + i) (v / 65536)))))] H := hP
            have hD : va_D A [(mo, .inr (8, [.int (nI len), .ref mb, .int (kb on), .int (nI en), .int (nI gas), .int (nI ctr), .int (nI siz), .int (nI hgt), .int (nI frm), .int (nI ret), .ref mm, .ref mw, .ref mh, .ref ml, .int (kb ay)])), (mw, .inl (E.2.1 0, 370, .inl (nF (va_up z (ta + i) (v / 65536)))))] := hD
            refine lv_iinc (k := 0) (v := nI (i + 1)) (lv' := [(3, .int (nI (i + 1))), (0, .ref mo), (1, .int (nI ta)), (2, .int (nI v))]) hx hb d_M_number_40 hl rfl (k_inc _) (by decide) rfl (fun ls hl => ?_)
            refine lv_goto (tgt := 2) hx hb d_M_number_43 (by decide) ?_
            exact ih (n - 1) (by omega) (i + 1) (va_up z (ta + i) (v / 65536)) _ _ ls (by omega) (fun j => nm_step (by omega) (by first | exact (if_pos h16).symm | exact ((if_neg h16).trans (if_pos h28)).symm | exact ((if_neg h16).trans (if_neg h28)).symm) hI j) (lv_sub hl [0, 1, 2, 3] rfl) hP hD hS
        · refine lv_iload_n hx hb d_M_number_19 rfl (lv_at hl 3 rfl) ?_
          refine lv_ldc (v := 65535) hx hb hown (hts _ t_827) d_M_number_20 ?_
          refine k_top (y := nI 65535) (by decide) ?_
          refine lv_iand hx hb d_M_number_22 ?_
          refine k_top (pk_andN (by omega) 16 (by decide)) ?_
          refine lv_goto (tgt := 39) hx hb d_M_number_23 (by decide) ?_
          refine k_iastN hx hb hK hP hD hS 1 rfl (i := (ta + i)) (by omega) (by omega) d_M_number_39 (fun H locs hP hD hS => ?_)
          have hP : va_P E.1 vwCl [(mo, .inr (8, [.int (nI len), .ref mb, .int (kb on), .int (nI en), .int (nI gas), .int (nI ctr), .int (nI siz), .int (nI hgt), .int (nI frm), .int (nI ret), .ref mm, .ref mw, .ref mh, .ref ml, .int (kb ay)])), (mw, .inl (E.2.1 0, 370, .inl (nF (va_up z (ta + i) (v % 65536)))))] H := hP
          have hD : va_D A [(mo, .inr (8, [.int (nI len), .ref mb, .int (kb on), .int (nI en), .int (nI gas), .int (nI ctr), .int (nI siz), .int (nI hgt), .int (nI frm), .int (nI ret), .ref mm, .ref mw, .ref mh, .ref ml, .int (kb ay)])), (mw, .inl (E.2.1 0, 370, .inl (nF (va_up z (ta + i) (v % 65536)))))] := hD
          refine lv_iinc (k := 0) (v := nI (i + 1)) (lv' := [(3, .int (nI (i + 1))), (0, .ref mo), (1, .int (nI ta)), (2, .int (nI v))]) hx hb d_M_number_40 hl rfl (k_inc _) (by decide) rfl (fun ls hl => ?_)
          refine lv_goto (tgt := 2) hx hb d_M_number_43 (by decide) ?_
          exact ih (n - 1) (by omega) (i + 1) (va_up z (ta + i) (v % 65536)) _ _ ls (by omega) (fun j => nm_step (by omega) (by first | exact (if_pos h16).symm | exact ((if_neg h16).trans (if_pos h28)).symm | exact ((if_neg h16).trans (if_neg h28)).symm) hI j) (lv_sub hl [0, 1, 2, 3] rfl) hP hD hS
  exact key2 16 0 g _ _ ls (by omega) (fun j => by rw [if_neg (by omega)]) (lv_sub hl [0, 1, 2, 3] rfl) hP hD hS

abbrev y_M_isZero : MethodName := ⟨"WideStackModel", "isZero", "(I)Z"⟩
theorem d_M_isZero_0 : decode prog_12_method_15_code 0 = .ok (.iconst 1, 1) := by decide +kernel
theorem d_M_isZero_1 : decode prog_12_method_15_code 1 = .ok (.istore_n 2, 1) := by decide +kernel
theorem d_M_isZero_2 : decode prog_12_method_15_code 2 = .ok (.iconst 0, 1) := by decide +kernel
theorem d_M_isZero_3 : decode prog_12_method_15_code 3 = .ok (.istore_n 3, 1) := by decide +kernel
theorem d_M_isZero_4 : decode prog_12_method_15_code 4 = .ok (.iload_n 3, 1) := by decide +kernel
theorem d_M_isZero_5 : decode prog_12_method_15_code 5 = .ok (.bipush 16, 2) := by decide +kernel
theorem d_M_isZero_7 : decode prog_12_method_15_code 7 = .ok (.if_icmp .ge 30, 3) := by decide +kernel
theorem d_M_isZero_10 : decode prog_12_method_15_code 10 = .ok (.iload_n 2, 1) := by decide +kernel
theorem d_M_isZero_11 : decode prog_12_method_15_code 11 = .ok (.ifCond .eq 18, 3) := by decide +kernel
theorem d_M_isZero_14 : decode prog_12_method_15_code 14 = .ok (.aload_n 0, 1) := by decide +kernel
theorem d_M_isZero_15 : decode prog_12_method_15_code 15 = .ok (.getfield 16, 3) := by decide +kernel
theorem d_M_isZero_18 : decode prog_12_method_15_code 18 = .ok (.iload_n 1, 1) := by decide +kernel
theorem d_M_isZero_19 : decode prog_12_method_15_code 19 = .ok (.iload_n 3, 1) := by decide +kernel
theorem d_M_isZero_20 : decode prog_12_method_15_code 20 = .ok (.iadd, 1) := by decide +kernel
theorem d_M_isZero_21 : decode prog_12_method_15_code 21 = .ok (.iaload, 1) := by decide +kernel
theorem d_M_isZero_22 : decode prog_12_method_15_code 22 = .ok (.ifCond .ne 7, 3) := by decide +kernel
theorem d_M_isZero_25 : decode prog_12_method_15_code 25 = .ok (.iconst 1, 1) := by decide +kernel
theorem d_M_isZero_26 : decode prog_12_method_15_code 26 = .ok (.goto 4, 3) := by decide +kernel
theorem d_M_isZero_29 : decode prog_12_method_15_code 29 = .ok (.iconst 0, 1) := by decide +kernel
theorem d_M_isZero_30 : decode prog_12_method_15_code 30 = .ok (.istore_n 2, 1) := by decide +kernel
theorem d_M_isZero_31 : decode prog_12_method_15_code 31 = .ok (.iinc 3 1, 3) := by decide +kernel
theorem d_M_isZero_34 : decode prog_12_method_15_code 34 = .ok (.goto (-30), 3) := by decide +kernel
theorem d_M_isZero_37 : decode prog_12_method_15_code 37 = .ok (.iload_n 2, 1) := by decide +kernel
theorem d_M_isZero_38 : decode prog_12_method_15_code 38 = .ok (.ireturn, 1) := by decide +kernel
def rm_c_M_isZero : Room := { frames := 0, cells := 0, slots := 0, locals := 0 }
set_option maxHeartbeats 4000000 in
set_option maxRecDepth 100000 in
theorem c_M_isZero (l : Launch) (E : kE) (mo mb mm mw mh ml len en gas ctr siz hgt frm ret : Nat) (on ay : Bool) (g : Nat → Nat) (hg : ∀ j, g j < 65536) (ta : Nat) (h1 : ta + 16 ≤ 370) : Kp l y_M_isZero (kW y_M_isZero prog_12_method_15_code 4 (some .boolean)) rm_c_M_isZero E [.ref mo, .int (nI ta)] [(mo, .inr (8, [.int (nI len), .ref mb, .int (kb on), .int (nI en), .int (nI gas), .int (nI ctr), .int (nI siz), .int (nI hgt), .int (nI frm), .int (nI ret), .ref mm, .ref mw, .ref mh, .ref ml, .int (kb ay)])), (mw, .inl (E.2.1 0, 370, .inl (nF g)))] (fun r => r = kb (decide (gv g ta 16 = 0))) := by
  refine Kp.ofZ (cc := prog_12_method_15_code) (maxL := 4) (by decide) (Nat.le_of_ble_eq_true rfl) ?_
  intro p e s m args below meth c A ls Q hx hb hts hown hml hK hG hA hP hD hS hl hret
  have hl : lv_has ls 4 [(0, .ref mo), (1, .int (nI ta))] := hl
  refine lv_iconst (v := nI 1) hx hb d_M_isZero_0 (by decide) ?_
  refine lv_istore_n (lv' := [(2, .int (nI 1)), (0, .ref mo), (1, .int (nI ta))]) hx hb d_M_isZero_1 rfl hl (by decide) rfl (fun ls hl => ?_)
  refine lv_iconst (v := nI 0) hx hb d_M_isZero_2 (by decide) ?_
  refine lv_istore_n (lv' := [(3, .int (nI 0)), (2, .int (nI 1)), (0, .ref mo), (1, .int (nI ta))]) hx hb d_M_isZero_3 rfl hl (by decide) rfl (fun ls hl => ?_)
  have key4 : ∀ (n : Nat) (i : Nat) (zb : Bool) (ls : Array Slot), i + n = 16 → (zb = decide (gv g ta i = 0)) → lv_has ls 4 [(3, .int (nI i)), (2, .int (kb zb)), (0, .ref mo), (1, .int (nI ta))] → W p l e rm_c_M_isZero s m args below meth c s.heap [] 0 0 Q (F0 m 4 ls []) := by
    intro n
    induction n using Nat.strongRecOn with
    | ind n ih =>
      intro i zb ls hn hI hl
      refine lv_iload_n hx hb d_M_isZero_4 rfl (lv_at hl 0 rfl) ?_
      refine lv_bipush (v := nI 16) hx hb d_M_isZero_5 (by decide) ?_
      refine kn_ge (tgt := 37) hx hb (by omega) (by omega) d_M_isZero_7 (by decide) (fun h7 => ?_) (fun h7 => ?_)
      · refine lv_iload_n hx hb d_M_isZero_37 rfl (lv_at hl 1 rfl) ?_
        obtain rfl : i = 16 := by omega
        exact hret _ ls _ d_M_isZero_38 (kb_nar zb) (by rw [hI])
      · refine lv_iload_n hx hb d_M_isZero_10 rfl (lv_at hl 1 rfl) ?_
        refine lv_if_eq (tgt := 29) hx hb d_M_isZero_11 (by decide) (fun h11 => ?_) (fun h11 => ?_)
        · refine lv_iconst (v := nI 0) hx hb d_M_isZero_29 (by decide) ?_
          refine k_top (y := kb false) (by decide) ?_
          refine lv_istore_n (lv' := [(2, .int (kb false)), (3, .int (nI i)), (0, .ref mo), (1, .int (nI ta))]) hx hb d_M_isZero_30 rfl hl (by decide) rfl (fun ls hl => ?_)
          refine lv_iinc (k := 1) (v := nI (i + 1)) (lv' := [(3, .int (nI (i + 1))), (2, .int (kb false)), (0, .ref mo), (1, .int (nI ta))]) hx hb d_M_isZero_31 hl rfl (k_inc _) (by decide) rfl (fun ls hl => ?_)
          refine lv_goto (tgt := 4) hx hb d_M_isZero_34 (by decide) ?_
          exact ih (n - 1) (by omega) (i + 1) false ls (by omega) (by first | exact (iz_f1 (of_decide_eq_false (hI.symm.trans (kb_0.mp h11)))).symm | exact (iz_f2 h22).symm) (lv_sub hl [0, 1, 2, 3] rfl)
        · refine lv_aload_n hx hb d_M_isZero_14 rfl (lv_at hl 2 rfl) ?_
          refine va_get (D := E.1) (ci := 8) (v := .ref mw) (C := "WideStackModel") (T := T_M) (N := 15) hx hb hts in_M hown hK hP 0 rfl rfl 11 (by decide) (hts _ t_758) (fun _ h9 => h9) rfl d_M_isZero_15 ?_
          refine lv_iload_n hx hb d_M_isZero_18 rfl (lv_at hl 3 rfl) ?_
          refine lv_iload_n hx hb d_M_isZero_19 rfl (lv_at hl 0 rfl) ?_
          refine lv_iadd hx hb d_M_isZero_20 ?_
          refine k_top (nI_add _ _) ?_
          refine k_ialdN hx hb hK hP 1 rfl (i := (ta + i)) (by omega) (by omega) d_M_isZero_21 ?_
          refine kn_ifne (tgt := 29) hx hb (by have := hg (ta + i); omega) d_M_isZero_22 (by decide) (fun h22 => ?_) (fun h22 => ?_)
          · refine lv_iconst (v := nI 0) hx hb d_M_isZero_29 (by decide) ?_
            refine k_top (y := kb false) (by decide) ?_
            refine lv_istore_n (lv' := [(2, .int (kb false)), (3, .int (nI i)), (0, .ref mo), (1, .int (nI ta))]) hx hb d_M_isZero_30 rfl hl (by decide) rfl (fun ls hl => ?_)
            refine lv_iinc (k := 1) (v := nI (i + 1)) (lv' := [(3, .int (nI (i + 1))), (2, .int (kb false)), (0, .ref mo), (1, .int (nI ta))]) hx hb d_M_isZero_31 hl rfl (k_inc _) (by decide) rfl (fun ls hl => ?_)
            refine lv_goto (tgt := 4) hx hb d_M_isZero_34 (by decide) ?_
            exact ih (n - 1) (by omega) (i + 1) false ls (by omega) (by first | exact (iz_f1 (of_decide_eq_false (hI.symm.trans (kb_0.mp h11)))).symm | exact (iz_f2 h22).symm) (lv_sub hl [0, 1, 2, 3] rfl)
          · refine lv_iconst (v := nI 1) hx hb d_M_isZero_25 (by decide) ?_
            refine lv_goto (tgt := 30) hx hb d_M_isZero_26 (by decide) ?_
            refine k_top (y := kb true) (by decide) ?_
            refine lv_istore_n (lv' := [(2, .int (kb true)), (3, .int (nI i)), (0, .ref mo), (1, .int (nI ta))]) hx hb d_M_isZero_30 rfl hl (by decide) rfl (fun ls hl => ?_)
            refine lv_iinc (k := 1) (v := nI (i + 1)) (lv' := [(3, .int (nI (i + 1))), (2, .int (kb true)), (0, .ref mo), (1, .int (nI ta))]) hx hb d_M_isZero_31 hl rfl (k_inc _) (by decide) rfl (fun ls hl => ?_)
            refine lv_goto (tgt := 4) hx hb d_M_isZero_34 (by decide) ?_
            exact ih (n - 1) (by omega) (i + 1) true ls (by omega) (iz_t (of_decide_eq_true (hI.symm.trans (kb_n0 h11))) h22).symm (lv_sub hl [0, 1, 2, 3] rfl)
  exact key4 16 0 true ls (by omega) (by rw [gv_0]; rfl) (lv_sub hl [0, 1, 2, 3] rfl)

theorem sm_n0 {g : Nat → Nat} {r i : Nat} {zb : Bool} (hI : zb = !decide (gv g r i = 0)) (h : kb zb = 0) (h2 : g (r + i) = 0) : false = !decide (gv g r (i + 1) = 0) := by
  have e : gv g r i = 0 := by
    rw [kb_0.mp h] at hI
    exact of_decide_eq_true (by revert hI; cases decide (gv g r i = 0) <;> decide)
  rw [iz_t e h2]; rfl
theorem sm_n1 {g : Nat → Nat} {r i : Nat} {zb : Bool} (hI : zb = !decide (gv g r i = 0)) (h : ¬ kb zb = 0) : true = !decide (gv g r (i + 1) = 0) := by
  have e : ¬ gv g r i = 0 := by
    rw [kb_n0 h] at hI
    exact of_decide_eq_false (by revert hI; cases decide (gv g r i = 0) <;> decide)
  rw [iz_f1 e]; rfl
theorem sm_n2 {g : Nat → Nat} {r i : Nat} (h2 : ¬ g (r + i) = 0) : true = !decide (gv g r (i + 1) = 0) := by rw [iz_f2 h2]; rfl
theorem sm_b1 {g : Nat → Nat} {r i : Nat} {zb : Bool} (hI : zb = !decide (gv g r i = 0)) (h : ¬ kb zb = 0) : ¬ gv g r i = 0 := by
  rw [kb_n0 h] at hI
  exact of_decide_eq_false (by revert hI; cases decide (gv g r i = 0) <;> decide)
theorem sm_b0 {g : Nat → Nat} {r i : Nat} {zb : Bool} (hI : zb = !decide (gv g r i = 0)) (h : kb zb = 0) : gv g r i = 0 := by
  rw [kb_0.mp h] at hI
  exact of_decide_eq_true (by revert hI; cases decide (gv g r i = 0) <;> decide)

abbrev y_M_small : MethodName := ⟨"WideStackModel", "small", "(I)I"⟩
theorem d_M_small_0 : decode prog_12_method_16_code 0 = .ok (.iconst 0, 1) := by decide +kernel
theorem d_M_small_1 : decode prog_12_method_16_code 1 = .ok (.istore_n 2, 1) := by decide +kernel
theorem d_M_small_2 : decode prog_12_method_16_code 2 = .ok (.iconst 1, 1) := by decide +kernel
theorem d_M_small_3 : decode prog_12_method_16_code 3 = .ok (.istore_n 3, 1) := by decide +kernel
theorem d_M_small_4 : decode prog_12_method_16_code 4 = .ok (.iload_n 3, 1) := by decide +kernel
theorem d_M_small_5 : decode prog_12_method_16_code 5 = .ok (.bipush 16, 2) := by decide +kernel
theorem d_M_small_7 : decode prog_12_method_16_code 7 = .ok (.if_icmp .ge 30, 3) := by decide +kernel
theorem d_M_small_10 : decode prog_12_method_16_code 10 = .ok (.iload_n 2, 1) := by decide +kernel
theorem d_M_small_11 : decode prog_12_method_16_code 11 = .ok (.ifCond .ne 14, 3) := by decide +kernel
theorem d_M_small_14 : decode prog_12_method_16_code 14 = .ok (.aload_n 0, 1) := by decide +kernel
theorem d_M_small_15 : decode prog_12_method_16_code 15 = .ok (.getfield 16, 3) := by decide +kernel
theorem d_M_small_18 : decode prog_12_method_16_code 18 = .ok (.iload_n 1, 1) := by decide +kernel
theorem d_M_small_19 : decode prog_12_method_16_code 19 = .ok (.iload_n 3, 1) := by decide +kernel
theorem d_M_small_20 : decode prog_12_method_16_code 20 = .ok (.iadd, 1) := by decide +kernel
theorem d_M_small_21 : decode prog_12_method_16_code 21 = .ok (.iaload, 1) := by decide +kernel
theorem d_M_small_22 : decode prog_12_method_16_code 22 = .ok (.ifCond .eq 7, 3) := by decide +kernel
theorem d_M_small_25 : decode prog_12_method_16_code 25 = .ok (.iconst 1, 1) := by decide +kernel
theorem d_M_small_26 : decode prog_12_method_16_code 26 = .ok (.goto 4, 3) := by decide +kernel
theorem d_M_small_29 : decode prog_12_method_16_code 29 = .ok (.iconst 0, 1) := by decide +kernel
theorem d_M_small_30 : decode prog_12_method_16_code 30 = .ok (.istore_n 2, 1) := by decide +kernel
theorem d_M_small_31 : decode prog_12_method_16_code 31 = .ok (.iinc 3 1, 3) := by decide +kernel
theorem d_M_small_34 : decode prog_12_method_16_code 34 = .ok (.goto (-30), 3) := by decide +kernel
theorem d_M_small_37 : decode prog_12_method_16_code 37 = .ok (.iload_n 2, 1) := by decide +kernel
theorem d_M_small_38 : decode prog_12_method_16_code 38 = .ok (.ifCond .eq 8, 3) := by decide +kernel
theorem d_M_small_41 : decode prog_12_method_16_code 41 = .ok (.ldc 52, 2) := by decide +kernel
theorem d_M_small_43 : decode prog_12_method_16_code 43 = .ok (.goto 9, 3) := by decide +kernel
theorem d_M_small_46 : decode prog_12_method_16_code 46 = .ok (.aload_n 0, 1) := by decide +kernel
theorem d_M_small_47 : decode prog_12_method_16_code 47 = .ok (.getfield 16, 3) := by decide +kernel
theorem d_M_small_50 : decode prog_12_method_16_code 50 = .ok (.iload_n 1, 1) := by decide +kernel
theorem d_M_small_51 : decode prog_12_method_16_code 51 = .ok (.iaload, 1) := by decide +kernel
theorem d_M_small_52 : decode prog_12_method_16_code 52 = .ok (.ireturn, 1) := by decide +kernel
def rm_c_M_small : Room := { frames := 0, cells := 0, slots := 0, locals := 0 }
set_option maxHeartbeats 4000000 in
set_option maxRecDepth 100000 in
theorem c_M_small (l : Launch) (E : kE) (mo mb mm mw mh ml len en gas ctr siz hgt frm ret : Nat) (on ay : Bool) (g : Nat → Nat) (hg : ∀ j, g j < 65536) (ta : Nat) (h1 : ta + 16 ≤ 370) : Kp l y_M_small (kW y_M_small prog_12_method_16_code 4 (some .int)) rm_c_M_small E [.ref mo, .int (nI ta)] [(mo, .inr (8, [.int (nI len), .ref mb, .int (kb on), .int (nI en), .int (nI gas), .int (nI ctr), .int (nI siz), .int (nI hgt), .int (nI frm), .int (nI ret), .ref mm, .ref mw, .ref mh, .ref ml, .int (kb ay)])), (mw, .inl (E.2.1 0, 370, .inl (nF g)))] (fun r => r = nI (min (gv g ta 16) 65535)) := by
  refine Kp.ofI (cc := prog_12_method_16_code) (maxL := 4) (by decide) (Nat.le_of_ble_eq_true rfl) ?_
  intro p e s m args below meth c A ls Q hx hb hts hown hml hK hG hA hP hD hS hl hret
  have hl : lv_has ls 4 [(0, .ref mo), (1, .int (nI ta))] := hl
  refine lv_iconst (v := nI 0) hx hb d_M_small_0 (by decide) ?_
  refine lv_istore_n (lv' := [(2, .int (nI 0)), (0, .ref mo), (1, .int (nI ta))]) hx hb d_M_small_1 rfl hl (by decide) rfl (fun ls hl => ?_)
  refine lv_iconst (v := nI 1) hx hb d_M_small_2 (by decide) ?_
  refine lv_istore_n (lv' := [(3, .int (nI 1)), (2, .int (nI 0)), (0, .ref mo), (1, .int (nI ta))]) hx hb d_M_small_3 rfl hl (by decide) rfl (fun ls hl => ?_)
  have key4 : ∀ (n : Nat) (i : Nat) (zb : Bool) (ls : Array Slot), i + n = 15 → (zb = !decide (gv g (ta + 1) i = 0)) → lv_has ls 4 [(3, .int (nI (i + 1))), (2, .int (kb zb)), (0, .ref mo), (1, .int (nI ta))] → W p l e rm_c_M_small s m args below meth c s.heap [] 0 0 Q (F0 m 4 ls []) := by
    intro n
    induction n using Nat.strongRecOn with
    | ind n ih =>
      intro i zb ls hn hI hl
      refine lv_iload_n hx hb d_M_small_4 rfl (lv_at hl 0 rfl) ?_
      refine lv_bipush (v := nI 16) hx hb d_M_small_5 (by decide) ?_
      refine kn_ge (tgt := 37) hx hb (by omega) (by omega) d_M_small_7 (by decide) (fun h7 => ?_) (fun h7 => ?_)
      · refine lv_iload_n hx hb d_M_small_37 rfl (lv_at hl 1 rfl) ?_
        refine lv_if_eq (tgt := 46) hx hb d_M_small_38 (by decide) (fun h38 => ?_) (fun h38 => ?_)
        · refine lv_aload_n hx hb d_M_small_46 rfl (lv_at hl 2 rfl) ?_
          refine va_get (D := E.1) (ci := 8) (v := .ref mw) (C := "WideStackModel") (T := T_M) (N := 15) hx hb hts in_M hown hK hP 0 rfl rfl 11 (by decide) (hts _ t_758) (fun _ h9 => h9) rfl d_M_small_47 ?_
          refine lv_iload_n hx hb d_M_small_50 rfl (lv_at hl 3 rfl) ?_
          refine k_ialdN hx hb hK hP 1 rfl (i := ta) (by omega) (by omega) d_M_small_51 ?_
          obtain rfl : i = 15 := by omega
          first | exact hret _ ls _ d_M_small_52 (congrArg nI (sm_t (sm_b1 hI h38))) | exact hret _ ls _ d_M_small_52 (congrArg nI (sm_f hg (sm_b0 hI h38)))
        · refine lv_ldc (v := 65535) hx hb hown (hts _ t_827) d_M_small_41 ?_
          refine k_top (y := nI 65535) (by decide) ?_
          refine lv_goto (tgt := 52) hx hb d_M_small_43 (by decide) ?_
          obtain rfl : i = 15 := by omega
          first | exact hret _ ls _ d_M_small_52 (congrArg nI (sm_t (sm_b1 hI h38))) | exact hret _ ls _ d_M_small_52 (congrArg nI (sm_f hg (sm_b0 hI h38)))
      · refine lv_iload_n hx hb d_M_small_10 rfl (lv_at hl 1 rfl) ?_
        refine lv_if_ne (tgt := 25) hx hb d_M_small_11 (by decide) (fun h11 => ?_) (fun h11 => ?_)
        · refine lv_iconst (v := nI 1) hx hb d_M_small_25 (by decide) ?_
          refine lv_goto (tgt := 30) hx hb d_M_small_26 (by decide) ?_
          refine k_top (y := kb true) (by decide) ?_
          refine lv_istore_n (lv' := [(2, .int (kb true)), (3, .int (nI (i + 1))), (0, .ref mo), (1, .int (nI ta))]) hx hb d_M_small_30 rfl hl (by decide) rfl (fun ls hl => ?_)
          refine lv_iinc (k := 1) (v := nI (i + 1 + 1)) (lv' := [(3, .int (nI (i + 1 + 1))), (2, .int (kb true)), (0, .ref mo), (1, .int (nI ta))]) hx hb d_M_small_31 hl rfl (k_inc _) (by decide) rfl (fun ls hl => ?_)
          refine lv_goto (tgt := 4) hx hb d_M_small_34 (by decide) ?_
          exact ih (n - 1) (by omega) (i + 1) true ls (by omega) (by first | exact sm_n1 hI h11 | exact sm_n2 (by rw [Nat.add_assoc, Nat.add_comm 1 i]; exact h22)) (lv_sub hl [0, 1, 2, 3] rfl)
        · refine lv_aload_n hx hb d_M_small_14 rfl (lv_at hl 2 rfl) ?_
          refine va_get (D := E.1) (ci := 8) (v := .ref mw) (C := "WideStackModel") (T := T_M) (N := 15) hx hb hts in_M hown hK hP 0 rfl rfl 11 (by decide) (hts _ t_758) (fun _ h9 => h9) rfl d_M_small_15 ?_
          refine lv_iload_n hx hb d_M_small_18 rfl (lv_at hl 3 rfl) ?_
          refine lv_iload_n hx hb d_M_small_19 rfl (lv_at hl 0 rfl) ?_
          refine lv_iadd hx hb d_M_small_20 ?_
          refine k_top (nI_add _ _) ?_
          refine k_ialdN hx hb hK hP 1 rfl (i := (ta + (i + 1))) (by omega) (by omega) d_M_small_21 ?_
          refine kn_ifeq (tgt := 29) hx hb (by have := hg (ta + (i + 1)); omega) d_M_small_22 (by decide) (fun h22 => ?_) (fun h22 => ?_)
          · refine lv_iconst (v := nI 0) hx hb d_M_small_29 (by decide) ?_
            refine k_top (y := kb false) (by decide) ?_
            refine lv_istore_n (lv' := [(2, .int (kb false)), (3, .int (nI (i + 1))), (0, .ref mo), (1, .int (nI ta))]) hx hb d_M_small_30 rfl hl (by decide) rfl (fun ls hl => ?_)
            refine lv_iinc (k := 1) (v := nI (i + 1 + 1)) (lv' := [(3, .int (nI (i + 1 + 1))), (2, .int (kb false)), (0, .ref mo), (1, .int (nI ta))]) hx hb d_M_small_31 hl rfl (k_inc _) (by decide) rfl (fun ls hl => ?_)
            refine lv_goto (tgt := 4) hx hb d_M_small_34 (by decide) ?_
            exact ih (n - 1) (by omega) (i + 1) false ls (by omega) (sm_n0 hI h11 (by rw [Nat.add_assoc, Nat.add_comm 1 i]; exact h22)) (lv_sub hl [0, 1, 2, 3] rfl)
          · refine lv_iconst (v := nI 1) hx hb d_M_small_25 (by decide) ?_
            refine lv_goto (tgt := 30) hx hb d_M_small_26 (by decide) ?_
            refine k_top (y := kb true) (by decide) ?_
            refine lv_istore_n (lv' := [(2, .int (kb true)), (3, .int (nI (i + 1))), (0, .ref mo), (1, .int (nI ta))]) hx hb d_M_small_30 rfl hl (by decide) rfl (fun ls hl => ?_)
            refine lv_iinc (k := 1) (v := nI (i + 1 + 1)) (lv' := [(3, .int (nI (i + 1 + 1))), (2, .int (kb true)), (0, .ref mo), (1, .int (nI ta))]) hx hb d_M_small_31 hl rfl (k_inc _) (by decide) rfl (fun ls hl => ?_)
            refine lv_goto (tgt := 4) hx hb d_M_small_34 (by decide) ?_
            exact ih (n - 1) (by omega) (i + 1) true ls (by omega) (by first | exact sm_n1 hI h11 | exact sm_n2 (by rw [Nat.add_assoc, Nat.add_comm 1 i]; exact h22)) (lv_sub hl [0, 1, 2, 3] rfl)
  exact key4 15 0 false ls (by omega) (by rw [gv_0]; rfl) (lv_sub hl [0, 1, 2, 3] rfl)

abbrev y_M_below : MethodName := ⟨"WideStackModel", "below", "(II)Z"⟩
theorem d_M_below_0 : decode prog_12_method_17_code 0 = .ok (.bipush 15, 2) := by decide +kernel
theorem d_M_below_2 : decode prog_12_method_17_code 2 = .ok (.istore_n 3, 1) := by decide +kernel
theorem d_M_below_3 : decode prog_12_method_17_code 3 = .ok (.iload_n 3, 1) := by decide +kernel
theorem d_M_below_4 : decode prog_12_method_17_code 4 = .ok (.ifCond .lt 53, 3) := by decide +kernel
theorem d_M_below_7 : decode prog_12_method_17_code 7 = .ok (.aload_n 0, 1) := by decide +kernel
theorem d_M_below_8 : decode prog_12_method_17_code 8 = .ok (.getfield 16, 3) := by decide +kernel
theorem d_M_below_11 : decode prog_12_method_17_code 11 = .ok (.iload_n 1, 1) := by decide +kernel
theorem d_M_below_12 : decode prog_12_method_17_code 12 = .ok (.iload_n 3, 1) := by decide +kernel
theorem d_M_below_13 : decode prog_12_method_17_code 13 = .ok (.iadd, 1) := by decide +kernel
theorem d_M_below_14 : decode prog_12_method_17_code 14 = .ok (.iaload, 1) := by decide +kernel
theorem d_M_below_15 : decode prog_12_method_17_code 15 = .ok (.aload_n 0, 1) := by decide +kernel
theorem d_M_below_16 : decode prog_12_method_17_code 16 = .ok (.getfield 16, 3) := by decide +kernel
theorem d_M_below_19 : decode prog_12_method_17_code 19 = .ok (.iload_n 2, 1) := by decide +kernel
theorem d_M_below_20 : decode prog_12_method_17_code 20 = .ok (.iload_n 3, 1) := by decide +kernel
theorem d_M_below_21 : decode prog_12_method_17_code 21 = .ok (.iadd, 1) := by decide +kernel
theorem d_M_below_22 : decode prog_12_method_17_code 22 = .ok (.iaload, 1) := by decide +kernel
theorem d_M_below_23 : decode prog_12_method_17_code 23 = .ok (.if_icmp .eq 28, 3) := by decide +kernel
theorem d_M_below_26 : decode prog_12_method_17_code 26 = .ok (.aload_n 0, 1) := by decide +kernel
theorem d_M_below_27 : decode prog_12_method_17_code 27 = .ok (.getfield 16, 3) := by decide +kernel
theorem d_M_below_30 : decode prog_12_method_17_code 30 = .ok (.iload_n 1, 1) := by decide +kernel
theorem d_M_below_31 : decode prog_12_method_17_code 31 = .ok (.iload_n 3, 1) := by decide +kernel
theorem d_M_below_32 : decode prog_12_method_17_code 32 = .ok (.iadd, 1) := by decide +kernel
theorem d_M_below_33 : decode prog_12_method_17_code 33 = .ok (.iaload, 1) := by decide +kernel
theorem d_M_below_34 : decode prog_12_method_17_code 34 = .ok (.aload_n 0, 1) := by decide +kernel
theorem d_M_below_35 : decode prog_12_method_17_code 35 = .ok (.getfield 16, 3) := by decide +kernel
theorem d_M_below_38 : decode prog_12_method_17_code 38 = .ok (.iload_n 2, 1) := by decide +kernel
theorem d_M_below_39 : decode prog_12_method_17_code 39 = .ok (.iload_n 3, 1) := by decide +kernel
theorem d_M_below_40 : decode prog_12_method_17_code 40 = .ok (.iadd, 1) := by decide +kernel
theorem d_M_below_41 : decode prog_12_method_17_code 41 = .ok (.iaload, 1) := by decide +kernel
theorem d_M_below_42 : decode prog_12_method_17_code 42 = .ok (.if_icmp .ge 7, 3) := by decide +kernel
theorem d_M_below_45 : decode prog_12_method_17_code 45 = .ok (.iconst 1, 1) := by decide +kernel
theorem d_M_below_46 : decode prog_12_method_17_code 46 = .ok (.goto 4, 3) := by decide +kernel
theorem d_M_below_49 : decode prog_12_method_17_code 49 = .ok (.iconst 0, 1) := by decide +kernel
theorem d_M_below_50 : decode prog_12_method_17_code 50 = .ok (.ireturn, 1) := by decide +kernel
theorem d_M_below_51 : decode prog_12_method_17_code 51 = .ok (.iinc 3 (-1), 3) := by decide +kernel
theorem d_M_below_54 : decode prog_12_method_17_code 54 = .ok (.goto (-51), 3) := by decide +kernel
theorem d_M_below_57 : decode prog_12_method_17_code 57 = .ok (.iconst 0, 1) := by decide +kernel
theorem d_M_below_58 : decode prog_12_method_17_code 58 = .ok (.ireturn, 1) := by decide +kernel
def rm_c_M_below : Room := { frames := 0, cells := 0, slots := 0, locals := 0 }
set_option maxHeartbeats 4000000 in
set_option maxRecDepth 100000 in
theorem c_M_below (l : Launch) (E : kE) (mo mb mm mw mh ml len en gas ctr siz hgt frm ret : Nat) (on ay : Bool) (g : Nat → Nat) (hg : ∀ j, g j < 65536) (tx ty : Nat) (h1 : tx + 16 ≤ 370) (h2 : ty + 16 ≤ 370) : Kp l y_M_below (kW y_M_below prog_12_method_17_code 4 (some .boolean)) rm_c_M_below E [.ref mo, .int (nI tx), .int (nI ty)] [(mo, .inr (8, [.int (nI len), .ref mb, .int (kb on), .int (nI en), .int (nI gas), .int (nI ctr), .int (nI siz), .int (nI hgt), .int (nI frm), .int (nI ret), .ref mm, .ref mw, .ref mh, .ref ml, .int (kb ay)])), (mw, .inl (E.2.1 0, 370, .inl (nF g)))] (fun r => r = kb (decide (gv g tx 16 < gv g ty 16))) := by
  refine Kp.ofZ (cc := prog_12_method_17_code) (maxL := 4) (by decide) (Nat.le_of_ble_eq_true rfl) ?_
  intro p e s m args below meth c A ls Q hx hb hts hown hml hK hG hA hP hD hS hl hret
  have hl : lv_has ls 4 [(0, .ref mo), (1, .int (nI tx)), (2, .int (nI ty))] := hl
  refine lv_bipush (v := nI 15) hx hb d_M_below_0 (by decide) ?_
  refine lv_istore_n (lv' := [(3, .int (nI 15)), (0, .ref mo), (1, .int (nI tx)), (2, .int (nI ty))]) hx hb d_M_below_2 rfl hl (by decide) rfl (fun ls hl => ?_)
  have key3 : ∀ (n : Nat) (i : Nat) (ls : Array Slot), i = n ∧ i ≤ 16 → (∀ j, i ≤ j → j < 16 → g (tx + j) = g (ty + j)) → lv_has ls 4 [(3, .int (m1 i)), (0, .ref mo), (1, .int (nI tx)), (2, .int (nI ty))] → W p l e rm_c_M_below s m args below meth c s.heap [] 0 0 Q (F0 m 3 ls []) := by
    intro n
    induction n using Nat.strongRecOn with
    | ind n ih =>
      intro i ls hn hI hl
      rcases i with _ | k
      · have hl : lv_has ls 4 [(3, .int (-1)), (0, .ref mo), (1, .int (nI tx)), (2, .int (nI ty))] := hl
        refine lv_iload_n hx hb d_M_below_3 rfl (lv_at hl 0 rfl) ?_
        refine lv_if_lt (tgt := 57) hx hb d_M_below_4 (by decide) (fun h4 => ?_) (fun h4 => ?_)
        · refine lv_iconst (v := nI 0) hx hb d_M_below_57 (by decide) ?_
          exact hret _ ls _ d_M_below_58 (by decide) (by rw [show gv g tx 16 = gv g ty 16 from bv_congr (fun j hj => hI j (Nat.zero_le _) hj), decide_eq_false (Nat.lt_irrefl _)]; rfl)
        · exact absurd (by decide) h4
      · have hl : lv_has ls 4 [(3, .int (nI k)), (0, .ref mo), (1, .int (nI tx)), (2, .int (nI ty))] := hl
        have b1 := hg (tx + k)
        have b2 := hg (ty + k)
        refine lv_iload_n hx hb d_M_below_3 rfl (lv_at hl 0 rfl) ?_
        refine kn_iflt (tgt := 57) hx hb (by omega) d_M_below_4 (by decide) ?_
        refine lv_aload_n hx hb d_M_below_7 rfl (lv_at hl 1 rfl) ?_
        refine va_get (D := E.1) (ci := 8) (v := .ref mw) (C := "WideStackModel") (T := T_M) (N := 15) hx hb hts in_M hown hK hP 0 rfl rfl 11 (by decide) (hts _ t_758) (fun _ h9 => h9) rfl d_M_below_8 ?_
        refine lv_iload_n hx hb d_M_below_11 rfl (lv_at hl 2 rfl) ?_
        refine lv_iload_n hx hb d_M_below_12 rfl (lv_at hl 0 rfl) ?_
        refine lv_iadd hx hb d_M_below_13 ?_
        refine k_top (nI_add _ _) ?_
        refine k_ialdN hx hb hK hP 1 rfl (i := (tx + k)) (by omega) (by omega) d_M_below_14 ?_
        refine lv_aload_n hx hb d_M_below_15 rfl (lv_at hl 1 rfl) ?_
        refine va_get (D := E.1) (ci := 8) (v := .ref mw) (C := "WideStackModel") (T := T_M) (N := 15) hx hb hts in_M hown hK hP 0 rfl rfl 11 (by decide) (hts _ t_758) (fun _ h9 => h9) rfl d_M_below_16 ?_
        refine lv_iload_n hx hb d_M_below_19 rfl (lv_at hl 3 rfl) ?_
        refine lv_iload_n hx hb d_M_below_20 rfl (lv_at hl 0 rfl) ?_
        refine lv_iadd hx hb d_M_below_21 ?_
        refine k_top (nI_add _ _) ?_
        refine k_ialdN hx hb hK hP 1 rfl (i := (ty + k)) (by omega) (by omega) d_M_below_22 ?_
        refine kn_eq (tgt := 51) hx hb (by omega) (by omega) d_M_below_23 (by decide) (fun h23 => ?_) (fun h23 => ?_)
        · refine lv_iinc (k := 0) (v := m1 k) (lv' := [(3, .int (m1 k)), (0, .ref mo), (1, .int (nI tx)), (2, .int (nI ty))]) hx hb d_M_below_51 hl rfl (k_decm _) (by decide) rfl (fun ls hl => ?_)
          refine lv_goto (tgt := 3) hx hb d_M_below_54 (by decide) ?_
          exact ih k (by omega) k ls ⟨rfl, by omega⟩ (fun j h1 h2 => if q : j = k then by subst q; exact h23 else by exact hI j (by omega) h2) (lv_sub hl [0, 1, 2, 3] rfl)
        · refine lv_aload_n hx hb d_M_below_26 rfl (lv_at hl 1 rfl) ?_
          refine va_get (D := E.1) (ci := 8) (v := .ref mw) (C := "WideStackModel") (T := T_M) (N := 15) hx hb hts in_M hown hK hP 0 rfl rfl 11 (by decide) (hts _ t_758) (fun _ h9 => h9) rfl d_M_below_27 ?_
          refine lv_iload_n hx hb d_M_below_30 rfl (lv_at hl 2 rfl) ?_
          refine lv_iload_n hx hb d_M_below_31 rfl (lv_at hl 0 rfl) ?_
          refine lv_iadd hx hb d_M_below_32 ?_
          refine k_top (nI_add _ _) ?_
          refine k_ialdN hx hb hK hP 1 rfl (i := (tx + k)) (by omega) (by omega) d_M_below_33 ?_
          refine lv_aload_n hx hb d_M_below_34 rfl (lv_at hl 1 rfl) ?_
          refine va_get (D := E.1) (ci := 8) (v := .ref mw) (C := "WideStackModel") (T := T_M) (N := 15) hx hb hts in_M hown hK hP 0 rfl rfl 11 (by decide) (hts _ t_758) (fun _ h9 => h9) rfl d_M_below_35 ?_
          refine lv_iload_n hx hb d_M_below_38 rfl (lv_at hl 3 rfl) ?_
          refine lv_iload_n hx hb d_M_below_39 rfl (lv_at hl 0 rfl) ?_
          refine lv_iadd hx hb d_M_below_40 ?_
          refine k_top (nI_add _ _) ?_
          refine k_ialdN hx hb hK hP 1 rfl (i := (ty + k)) (by omega) (by omega) d_M_below_41 ?_
          refine kn_ge (tgt := 49) hx hb (by omega) (by omega) d_M_below_42 (by decide) (fun h42 => ?_) (fun h42 => ?_)
          · refine lv_iconst (v := nI 0) hx hb d_M_below_49 (by decide) ?_
            first | exact hret _ ls _ d_M_below_50 (by decide) (by rw [decide_eq_true (gv_less hg (k := k) (by omega) (fun j a b => hI j (by omega) b) (by omega))]; rfl) | exact hret _ ls _ d_M_below_50 (by decide) (by rw [decide_eq_false (Nat.lt_asymm (gv_less hg (k := k) (by omega) (fun j a b => (hI j (by omega) b).symm) (by omega)))]; rfl)
          · refine lv_iconst (v := nI 1) hx hb d_M_below_45 (by decide) ?_
            refine lv_goto (tgt := 50) hx hb d_M_below_46 (by decide) ?_
            first | exact hret _ ls _ d_M_below_50 (by decide) (by rw [decide_eq_true (gv_less hg (k := k) (by omega) (fun j a b => hI j (by omega) b) (by omega))]; rfl) | exact hret _ ls _ d_M_below_50 (by decide) (by rw [decide_eq_false (Nat.lt_asymm (gv_less hg (k := k) (by omega) (fun j a b => (hI j (by omega) b).symm) (by omega)))]; rfl)
  exact key3 16 16 ls ⟨rfl, Nat.le_refl 16⟩ (fun j h1 h2 => by omega) (lv_sub hl [0, 1, 2, 3] rfl)

abbrev y_M_isNegative : MethodName := ⟨"WideStackModel", "isNegative", "(I)Z"⟩
theorem d_M_isNegative_0 : decode prog_12_method_18_code 0 = .ok (.aload_n 0, 1) := by decide +kernel
theorem d_M_isNegative_1 : decode prog_12_method_18_code 1 = .ok (.getfield 16, 3) := by decide +kernel
theorem d_M_isNegative_4 : decode prog_12_method_18_code 4 = .ok (.iload_n 1, 1) := by decide +kernel
theorem d_M_isNegative_5 : decode prog_12_method_18_code 5 = .ok (.bipush 15, 2) := by decide +kernel
theorem d_M_isNegative_7 : decode prog_12_method_18_code 7 = .ok (.iadd, 1) := by decide +kernel
theorem d_M_isNegative_8 : decode prog_12_method_18_code 8 = .ok (.iaload, 1) := by decide +kernel
theorem d_M_isNegative_9 : decode prog_12_method_18_code 9 = .ok (.sipush 32767, 3) := by decide +kernel
theorem d_M_isNegative_12 : decode prog_12_method_18_code 12 = .ok (.if_icmp .le 7, 3) := by decide +kernel
theorem d_M_isNegative_15 : decode prog_12_method_18_code 15 = .ok (.iconst 1, 1) := by decide +kernel
theorem d_M_isNegative_16 : decode prog_12_method_18_code 16 = .ok (.goto 4, 3) := by decide +kernel
theorem d_M_isNegative_19 : decode prog_12_method_18_code 19 = .ok (.iconst 0, 1) := by decide +kernel
theorem d_M_isNegative_20 : decode prog_12_method_18_code 20 = .ok (.ireturn, 1) := by decide +kernel
def rm_c_M_isNegative : Room := { frames := 0, cells := 0, slots := 0, locals := 0 }
set_option maxHeartbeats 4000000 in
set_option maxRecDepth 100000 in
theorem c_M_isNegative (l : Launch) (E : kE) (mo mb mm mw mh ml len en gas ctr siz hgt frm ret : Nat) (on ay : Bool) (g : Nat → Nat) (hg : ∀ j, g j < 65536) (ta : Nat) (h1 : ta + 16 ≤ 370) : Kp l y_M_isNegative (kW y_M_isNegative prog_12_method_18_code 2 (some .boolean)) rm_c_M_isNegative E [.ref mo, .int (nI ta)] [(mo, .inr (8, [.int (nI len), .ref mb, .int (kb on), .int (nI en), .int (nI gas), .int (nI ctr), .int (nI siz), .int (nI hgt), .int (nI frm), .int (nI ret), .ref mm, .ref mw, .ref mh, .ref ml, .int (kb ay)])), (mw, .inl (E.2.1 0, 370, .inl (nF g)))] (fun r => r = kb (m_isneg (gv g ta 16))) := by
  refine Kp.ofZ (cc := prog_12_method_18_code) (maxL := 2) (by decide) (Nat.le_of_ble_eq_true rfl) ?_
  intro p e s m args below meth c A ls Q hx hb hts hown hml hK hG hA hP hD hS hl hret
  have hl : lv_has ls 2 [(0, .ref mo), (1, .int (nI ta))] := hl
  have b1 := hg (ta + 15)
  refine lv_aload_n hx hb d_M_isNegative_0 rfl (lv_at hl 0 rfl) ?_
  refine va_get (D := E.1) (ci := 8) (v := .ref mw) (C := "WideStackModel") (T := T_M) (N := 15) hx hb hts in_M hown hK hP 0 rfl rfl 11 (by decide) (hts _ t_758) (fun _ h9 => h9) rfl d_M_isNegative_1 ?_
  refine lv_iload_n hx hb d_M_isNegative_4 rfl (lv_at hl 1 rfl) ?_
  refine lv_bipush (v := nI 15) hx hb d_M_isNegative_5 (by decide) ?_
  refine lv_iadd hx hb d_M_isNegative_7 ?_
  refine k_top (nI_add _ _) ?_
  refine k_ialdN hx hb hK hP 1 rfl (i := (ta + 15)) (by omega) (by omega) d_M_isNegative_8 ?_
  refine lv_sipush (v := nI 32767) hx hb d_M_isNegative_9 (by decide) ?_
  refine kn_le (tgt := 19) hx hb (by omega) (by omega) d_M_isNegative_12 (by decide) (fun h12 => ?_) (fun h12 => ?_)
  · refine lv_iconst (v := nI 0) hx hb d_M_isNegative_19 (by decide) ?_
    first | exact hret _ ls _ d_M_isNegative_20 (by decide) (by rw [gv_neg hg, decide_eq_true (by omega)]; rfl) | exact hret _ ls _ d_M_isNegative_20 (by decide) (by rw [gv_neg hg, decide_eq_false (by omega)]; rfl)
  · refine lv_iconst (v := nI 1) hx hb d_M_isNegative_15 (by decide) ?_
    refine lv_goto (tgt := 20) hx hb d_M_isNegative_16 (by decide) ?_
    first | exact hret _ ls _ d_M_isNegative_20 (by decide) (by rw [gv_neg hg, decide_eq_true (by omega)]; rfl) | exact hret _ ls _ d_M_isNegative_20 (by decide) (by rw [gv_neg hg, decide_eq_false (by omega)]; rfl)

abbrev y_M_belowSigned : MethodName := ⟨"WideStackModel", "belowSigned", "(II)Z"⟩
theorem d_M_belowSigned_0 : decode prog_12_method_19_code 0 = .ok (.aload_n 0, 1) := by decide +kernel
theorem d_M_belowSigned_1 : decode prog_12_method_19_code 1 = .ok (.iload_n 1, 1) := by decide +kernel
theorem d_M_belowSigned_2 : decode prog_12_method_19_code 2 = .ok (.invokevirtual 53, 3) := by decide +kernel
theorem d_M_belowSigned_5 : decode prog_12_method_19_code 5 = .ok (.aload_n 0, 1) := by decide +kernel
theorem d_M_belowSigned_6 : decode prog_12_method_19_code 6 = .ok (.iload_n 2, 1) := by decide +kernel
theorem d_M_belowSigned_7 : decode prog_12_method_19_code 7 = .ok (.invokevirtual 53, 3) := by decide +kernel
theorem d_M_belowSigned_10 : decode prog_12_method_19_code 10 = .ok (.if_icmp .eq 11, 3) := by decide +kernel
theorem d_M_belowSigned_13 : decode prog_12_method_19_code 13 = .ok (.aload_n 0, 1) := by decide +kernel
theorem d_M_belowSigned_14 : decode prog_12_method_19_code 14 = .ok (.iload_n 1, 1) := by decide +kernel
theorem d_M_belowSigned_15 : decode prog_12_method_19_code 15 = .ok (.invokevirtual 53, 3) := by decide +kernel
theorem d_M_belowSigned_18 : decode prog_12_method_19_code 18 = .ok (.goto 9, 3) := by decide +kernel
theorem d_M_belowSigned_21 : decode prog_12_method_19_code 21 = .ok (.aload_n 0, 1) := by decide +kernel
theorem d_M_belowSigned_22 : decode prog_12_method_19_code 22 = .ok (.iload_n 1, 1) := by decide +kernel
theorem d_M_belowSigned_23 : decode prog_12_method_19_code 23 = .ok (.iload_n 2, 1) := by decide +kernel
theorem d_M_belowSigned_24 : decode prog_12_method_19_code 24 = .ok (.invokevirtual 56, 3) := by decide +kernel
theorem d_M_belowSigned_27 : decode prog_12_method_19_code 27 = .ok (.ireturn, 1) := by decide +kernel
def rm_c_M_belowSigned : Room := { frames := 1, cells := 0, slots := 0, locals := 23 }
set_option maxHeartbeats 4000000 in
set_option maxRecDepth 100000 in
theorem c_M_belowSigned (l : Launch) (E : kE) (mo mb mm mw mh ml len en gas ctr siz hgt frm ret : Nat) (on ay : Bool) (g : Nat → Nat) (hg : ∀ j, g j < 65536) (tx ty : Nat) (h1 : tx + 16 ≤ 370) (h2 : ty + 16 ≤ 370) : Kp l y_M_belowSigned (kW y_M_belowSigned prog_12_method_19_code 3 (some .boolean)) rm_c_M_belowSigned E [.ref mo, .int (nI tx), .int (nI ty)] [(mo, .inr (8, [.int (nI len), .ref mb, .int (kb on), .int (nI en), .int (nI gas), .int (nI ctr), .int (nI siz), .int (nI hgt), .int (nI frm), .int (nI ret), .ref mm, .ref mw, .ref mh, .ref ml, .int (kb ay)])), (mw, .inl (E.2.1 0, 370, .inl (nF g)))] (fun r => r = kb (m_slt (gv g tx 16) (gv g ty 16))) := by
  refine Kp.ofZ (cc := prog_12_method_19_code) (maxL := 3) (by decide) (Nat.le_of_ble_eq_true rfl) ?_
  intro p e s m args below meth c A ls Q hx hb hts hown hml hK hG hA hP hD hS hl hret
  have hl : lv_has ls 3 [(0, .ref mo), (1, .int (nI tx)), (2, .int (nI ty))] := hl
  refine lv_aload_n hx hb d_M_belowSigned_0 rfl (lv_at hl 0 rfl) ?_
  refine lv_iload_n hx hb d_M_belowSigned_1 rfl (lv_at hl 1 rfl) ?_
  refine k_Vp (As := [.int (nI tx)]) (rest := []) ⟨hx, hb, hml, hown, hts⟩ (c_M_isNegative l E mo mb mm mw mh ml len en gas ctr siz hgt frm ret on ay g hg tx h1) (k_cwV 1 hts t_922 t_924 t_47 t_71 t_925 (by decide +kernel) ⟨Nat.le_of_ble_eq_true rfl, Nat.le_of_ble_eq_true rfl⟩) hK hG hA hP hD hS [0, 1] rfl (by decide) 0 rfl rfl rfl hl.1 rfl (Nat.le_of_ble_eq_true rfl) d_M_belowSigned_2 ⟨Nat.zero_le _, Nat.zero_le _⟩ (fun r2 hu2 => ?_)
  subst hu2
  refine lv_aload_n hx hb d_M_belowSigned_5 rfl (lv_at hl 0 rfl) ?_
  refine lv_iload_n hx hb d_M_belowSigned_6 rfl (lv_at hl 2 rfl) ?_
  refine k_Vp (As := [.int (nI ty)]) (rest := [.int (kb (m_isneg (gv g tx 16)))]) ⟨hx, hb, hml, hown, hts⟩ (c_M_isNegative l E mo mb mm mw mh ml len en gas ctr siz hgt frm ret on ay g hg ty h2) (k_cwV 1 hts t_922 t_924 t_47 t_71 t_925 (by decide +kernel) ⟨Nat.le_of_ble_eq_true rfl, Nat.le_of_ble_eq_true rfl⟩) hK hG hA hP hD hS [0, 1] rfl (by decide) 0 rfl rfl rfl hl.1 rfl (Nat.le_of_ble_eq_true rfl) d_M_belowSigned_7 ⟨Nat.zero_le _, Nat.zero_le _⟩ (fun r7 hu7 => ?_)
  subst hu7
  refine lv_icmp_eq (tgt := 21) hx hb d_M_belowSigned_10 (by decide) (fun h10 => ?_) (fun h10 => ?_)
  · refine lv_aload_n hx hb d_M_belowSigned_21 rfl (lv_at hl 0 rfl) ?_
    refine lv_iload_n hx hb d_M_belowSigned_22 rfl (lv_at hl 1 rfl) ?_
    refine lv_iload_n hx hb d_M_belowSigned_23 rfl (lv_at hl 2 rfl) ?_
    refine k_Vp (As := [.int (nI tx), .int (nI ty)]) (rest := []) ⟨hx, hb, hml, hown, hts⟩ (c_M_below l E mo mb mm mw mh ml len en gas ctr siz hgt frm ret on ay g hg tx ty h1 h2) (k_cwV 2 hts t_934 t_936 t_50 t_71 t_937 (by decide +kernel) ⟨Nat.le_of_ble_eq_true rfl, Nat.le_of_ble_eq_true rfl⟩) hK hG hA hP hD hS [0, 1] rfl (by decide) 0 rfl rfl rfl hl.1 rfl (Nat.le_of_ble_eq_true rfl) d_M_belowSigned_24 ⟨Nat.zero_le _, Nat.zero_le _⟩ (fun r24 hu24 => ?_)
    subst hu24
    first | exact hret _ ls _ d_M_belowSigned_27 (kb_nar _) (by unfold m_slt; rw [if_neg (fun q => h10 (congrArg kb q))]) | exact hret _ ls _ d_M_belowSigned_27 (kb_nar _) (by unfold m_slt; rw [if_pos (kb_inj h10)])
  · refine lv_aload_n hx hb d_M_belowSigned_13 rfl (lv_at hl 0 rfl) ?_
    refine lv_iload_n hx hb d_M_belowSigned_14 rfl (lv_at hl 1 rfl) ?_
    refine k_Vp (As := [.int (nI tx)]) (rest := []) ⟨hx, hb, hml, hown, hts⟩ (c_M_isNegative l E mo mb mm mw mh ml len en gas ctr siz hgt frm ret on ay g hg tx h1) (k_cwV 1 hts t_922 t_924 t_47 t_71 t_925 (by decide +kernel) ⟨Nat.le_of_ble_eq_true rfl, Nat.le_of_ble_eq_true rfl⟩) hK hG hA hP hD hS [0, 1] rfl (by decide) 0 rfl rfl rfl hl.1 rfl (Nat.le_of_ble_eq_true rfl) d_M_belowSigned_15 ⟨Nat.zero_le _, Nat.zero_le _⟩ (fun r15 hu15 => ?_)
    subst hu15
    refine lv_goto (tgt := 27) hx hb d_M_belowSigned_18 (by decide) ?_
    first | exact hret _ ls _ d_M_belowSigned_27 (kb_nar _) (by unfold m_slt; rw [if_neg (fun q => h10 (congrArg kb q))]) | exact hret _ ls _ d_M_belowSigned_27 (kb_nar _) (by unfold m_slt; rw [if_pos (kb_inj h10)])

