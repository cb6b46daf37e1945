abbrev y_M_run : MethodName := ⟨"WideStackModel", "run", "(I)I"⟩
theorem d_M_run_0 : decode prog_12_method_45_code 0 = .ok (.aload_n 0, 1) := by decide +kernel
theorem d_M_run_1 : decode prog_12_method_45_code 1 = .ok (.getfield 30, 3) := by decide +kernel
theorem d_M_run_4 : decode prog_12_method_45_code 4 = .ok (.ifCond .eq 15, 3) := by decide +kernel
theorem d_M_run_7 : decode prog_12_method_45_code 7 = .ok (.iload_n 1, 1) := by decide +kernel
theorem d_M_run_8 : decode prog_12_method_45_code 8 = .ok (.iconst 1, 1) := by decide +kernel
theorem d_M_run_9 : decode prog_12_method_45_code 9 = .ok (.if_icmp .lt 10, 3) := by decide +kernel
theorem d_M_run_12 : decode prog_12_method_45_code 12 = .ok (.iload_n 1, 1) := by decide +kernel
theorem d_M_run_13 : decode prog_12_method_45_code 13 = .ok (.sipush 500, 3) := by decide +kernel
theorem d_M_run_16 : decode prog_12_method_45_code 16 = .ok (.if_icmp .le 5, 3) := by decide +kernel
theorem d_M_run_19 : decode prog_12_method_45_code 19 = .ok (.iconst (-1), 1) := by decide +kernel
theorem d_M_run_20 : decode prog_12_method_45_code 20 = .ok (.ireturn, 1) := by decide +kernel
theorem d_M_run_21 : decode prog_12_method_45_code 21 = .ok (.iconst 0, 1) := by decide +kernel
theorem d_M_run_22 : decode prog_12_method_45_code 22 = .ok (.istore_n 2, 1) := by decide +kernel
theorem d_M_run_23 : decode prog_12_method_45_code 23 = .ok (.iload_n 2, 1) := by decide +kernel
theorem d_M_run_24 : decode prog_12_method_45_code 24 = .ok (.iload_n 1, 1) := by decide +kernel
theorem d_M_run_25 : decode prog_12_method_45_code 25 = .ok (.if_icmp .ge 32, 3) := by decide +kernel
theorem d_M_run_28 : decode prog_12_method_45_code 28 = .ok (.aload_n 0, 1) := by decide +kernel
theorem d_M_run_29 : decode prog_12_method_45_code 29 = .ok (.getfield 94, 3) := by decide +kernel
theorem d_M_run_32 : decode prog_12_method_45_code 32 = .ok (.ifCond .ne 25, 3) := by decide +kernel
theorem d_M_run_35 : decode prog_12_method_45_code 35 = .ok (.aload_n 0, 1) := by decide +kernel
theorem d_M_run_36 : decode prog_12_method_45_code 36 = .ok (.invokevirtual 182, 3) := by decide +kernel
theorem d_M_run_39 : decode prog_12_method_45_code 39 = .ok (.aload_n 0, 1) := by decide +kernel
theorem d_M_run_40 : decode prog_12_method_45_code 40 = .ok (.getfield 94, 3) := by decide +kernel
theorem d_M_run_43 : decode prog_12_method_45_code 43 = .ok (.ifCond .ne 9, 3) := by decide +kernel
theorem d_M_run_46 : decode prog_12_method_45_code 46 = .ok (.iload_n 2, 1) := by decide +kernel
theorem d_M_run_47 : decode prog_12_method_45_code 47 = .ok (.iconst 1, 1) := by decide +kernel
theorem d_M_run_48 : decode prog_12_method_45_code 48 = .ok (.iadd, 1) := by decide +kernel
theorem d_M_run_49 : decode prog_12_method_45_code 49 = .ok (.goto 4, 3) := by decide +kernel
theorem d_M_run_52 : decode prog_12_method_45_code 52 = .ok (.iload_n 2, 1) := by decide +kernel
theorem d_M_run_53 : decode prog_12_method_45_code 53 = .ok (.istore_n 2, 1) := by decide +kernel
theorem d_M_run_54 : decode prog_12_method_45_code 54 = .ok (.goto (-31), 3) := by decide +kernel
theorem d_M_run_57 : decode prog_12_method_45_code 57 = .ok (.iload_n 2, 1) := by decide +kernel
theorem d_M_run_58 : decode prog_12_method_45_code 58 = .ok (.ireturn, 1) := by decide +kernel
def rm_c_MX_run : Room := { frames := 6, cells := 0, slots := 0, locals := 140 }
set_option maxHeartbeats 4000000 in
set_option maxRecDepth 100000 in
theorem c_MX_run (l : Launch) (E : kE) (mo mb mm mw mh ml : Nat) (on ay : Bool) (y0 : rS) (len : Nat) (nb bb : Nat → Nat) (okb : okB len bb nb) (fh fl : Nat → Int32) (i : Int32) (hY : okY y0) : Ki l y_M_run (kW y_M_run prog_12_method_45_code 3 (some .int)) rm_c_MX_run E [.ref mo, .int i] [(mo, .inr (8, [.int (nI len), .ref mb, .int (kb on), .int (nI y0.1.1), .int (nI y0.1.2.1), .int (nI y0.1.2.2.1), .int (nI y0.1.2.2.2.1), .int (nI y0.1.2.2.2.2.1), .int (nI y0.2.1), .int (nI y0.1.2.2.2.2.2.2.1), .ref mm, .ref mw, .ref mh, .ref ml, .int (kb ay)])), (mb, .inl (E.2.1 0, 96, .inl (nF nb))), (mm, .inl (E.2.1 0, 160, .inl (nF y0.1.2.2.2.2.2.2.2.2))), (mw, .inl (E.2.1 0, 370, .inl (nF y0.2.2))), (mh, .inl (E.2.1 0, 144, .inl fh)), (ml, .inl (E.2.1 1, 144, .inl fl))] (S := rS) (fun r u => okY u ∧ ((on = true ∧ 1 ≤ i ∧ i ≤ nI 500 ∧ r = nI (m_run len bb i.toNatClampNeg 0 y0.1).1 ∧ u.1 = (m_run len bb i.toNatClampNeg 0 y0.1).2) ∨ ((on = false ∨ ¬ 1 ≤ i ∨ ¬ i ≤ nI 500) ∧ r = -1 ∧ u = y0))) (fun u => [(mo, .inr (8, [.int (nI len), .ref mb, .int (kb on), .int (nI u.1.1), .int (nI u.1.2.1), .int (nI u.1.2.2.1), .int (nI u.1.2.2.2.1), .int (nI u.1.2.2.2.2.1), .int (nI u.2.1), .int (nI u.1.2.2.2.2.2.2.1), .ref mm, .ref mw, .ref mh, .ref ml, .int (kb ay)])), (mb, .inl (E.2.1 0, 96, .inl (nF nb))), (mm, .inl (E.2.1 0, 160, .inl (nF u.1.2.2.2.2.2.2.2.2))), (mw, .inl (E.2.1 0, 370, .inl (nF u.2.2))), (mh, .inl (E.2.1 0, 144, .inl fh)), (ml, .inl (E.2.1 1, 144, .inl fl))]) := by
  refine Ki.ofI (cc := prog_12_method_45_code) (maxL := 3) (by decide) (Nat.le_of_ble_eq_true rfl) ?_
  intro p e s m args below meth c A ls Q hx hb hts hown hml hK hG hA hP hD hS hl hret
  have hl : lv_has ls 3 [(0, .ref mo), (1, .int i)] := hl
  refine lv_aload_n hx hb d_M_run_0 rfl (lv_at hl 0 rfl) ?_
  refine va_get (D := E.1) (ci := 8) (v := .int (kb on)) (C := "WideStackModel") (T := T_M) (N := 15) hx hb hts in_M hown hK hP 0 rfl rfl 2 (by decide) (hts _ t_749) (fun _ h9 => h9) rfl d_M_run_1 ?_
  refine lv_if_eq (tgt := 19) hx hb d_M_run_4 (by decide) (fun h4 => ?_) (fun h4 => ?_)
  · refine lv_iconst (v := -1) hx hb d_M_run_19 (by decide) ?_
    first | exact hret _ ls _ _ _ y0 d_M_run_20 ⟨hY, Or.inr ⟨Or.inl (kb_0.mp h4), rfl, rfl⟩⟩ hP hS | exact hret _ ls _ _ _ y0 d_M_run_20 ⟨hY, Or.inr ⟨Or.inr (Or.inl (Int32.not_le.mpr h9)), rfl, rfl⟩⟩ hP hS | exact hret _ ls _ _ _ y0 d_M_run_20 ⟨hY, Or.inr ⟨Or.inr (Or.inr h16), rfl, rfl⟩⟩ hP hS
  · refine lv_iload_n hx hb d_M_run_7 rfl (lv_at hl 1 rfl) ?_
    refine lv_iconst (v := nI 1) hx hb d_M_run_8 (by decide) ?_
    refine lv_icmp_lt (tgt := 19) hx hb d_M_run_9 (by decide) (fun h9 => ?_) (fun h9 => ?_)
    · refine lv_iconst (v := -1) hx hb d_M_run_19 (by decide) ?_
      first | exact hret _ ls _ _ _ y0 d_M_run_20 ⟨hY, Or.inr ⟨Or.inl (kb_0.mp h4), rfl, rfl⟩⟩ hP hS | exact hret _ ls _ _ _ y0 d_M_run_20 ⟨hY, Or.inr ⟨Or.inr (Or.inl (Int32.not_le.mpr h9)), rfl, rfl⟩⟩ hP hS | exact hret _ ls _ _ _ y0 d_M_run_20 ⟨hY, Or.inr ⟨Or.inr (Or.inr h16), rfl, rfl⟩⟩ hP hS
    · refine lv_iload_n hx hb d_M_run_12 rfl (lv_at hl 1 rfl) ?_
      refine lv_sipush (v := nI 500) hx hb d_M_run_13 (by decide) ?_
      refine lv_icmp_le (tgt := 21) hx hb d_M_run_16 (by decide) (fun h16 => ?_) (fun h16 => ?_)
      · obtain ⟨j, hj, rfl⟩ := nI_of2 (n := 500) (M := nI 500) (by decide) (fun q => h9 (Int32.lt_trans q (by decide))) h16
        rw [nI_clamp (by omega)] at hret
        refine lv_iconst (v := nI 0) hx hb d_M_run_21 (by decide) ?_
        refine lv_istore_n (lv' := [(2, .int (nI 0)), (0, .ref mo), (1, .int (nI j))]) hx hb d_M_run_22 rfl hl (by decide) rfl (fun ls hl => ?_)
        have key23 : ∀ (n : Nat) (d0 nn : Nat) (y1 : rS) (H : Heap) (locs : List Loc) (ls : Array Slot), nn + (if y1.1.1 = 0 then 1 else 0) = n → (okY y1 ∧ d0 + nn = j ∧ m_run len bb nn d0 y1.1 = m_run len bb j 0 y0.1) → lv_has ls 3 [(2, .int (nI d0)), (0, .ref mo), (1, .int (nI j))] → va_P E.1 vwCl [(mo, .inr (8, [.int (nI len), .ref mb, .int (kb on), .int (nI y1.1.1), .int (nI y1.1.2.1), .int (nI y1.1.2.2.1), .int (nI y1.1.2.2.2.1), .int (nI y1.1.2.2.2.2.1), .int (nI y1.2.1), .int (nI y1.1.2.2.2.2.2.2.1), .ref mm, .ref mw, .ref mh, .ref ml, .int (kb ay)])), (mb, .inl (E.2.1 0, 96, .inl (nF nb))), (mm, .inl (E.2.1 0, 160, .inl (nF y1.1.2.2.2.2.2.2.2.2))), (mw, .inl (E.2.1 0, 370, .inl (nF y1.2.2))), (mh, .inl (E.2.1 0, 144, .inl fh)), (ml, .inl (E.2.1 1, 144, .inl fl))] H → va_D A [(mo, .inr (8, [.int (nI len), .ref mb, .int (kb on), .int (nI y1.1.1), .int (nI y1.1.2.1), .int (nI y1.1.2.2.1), .int (nI y1.1.2.2.2.1), .int (nI y1.1.2.2.2.2.1), .int (nI y1.2.1), .int (nI y1.1.2.2.2.2.2.2.1), .ref mm, .ref mw, .ref mh, .ref ml, .int (kb ay)])), (mb, .inl (E.2.1 0, 96, .inl (nF nb))), (mm, .inl (E.2.1 0, 160, .inl (nF y1.1.2.2.2.2.2.2.2.2))), (mw, .inl (E.2.1 0, 370, .inl (nF y1.2.2))), (mh, .inl (E.2.1 0, 144, .inl fh)), (ml, .inl (E.2.1 1, 144, .inl fl))] → va_S A s.heap H locs → W p l e rm_c_MX_run s m args below meth c H locs 0 0 Q (F0 m 23 ls []) := by
          intro n
          induction n using Nat.strongRecOn with
          | ind n ih =>
            intro d0 nn y1 H locs ls hn hI hl hP hD hS
            have b1 := hI.1.1.1.1
            have b2 := hI.2.1
            refine lv_iload_n hx hb d_M_run_23 rfl (lv_at hl 0 rfl) ?_
            refine lv_iload_n hx hb d_M_run_24 rfl (lv_at hl 2 rfl) ?_
            refine kn_ge (tgt := 57) hx hb (by omega) (by omega) d_M_run_25 (by decide) (fun h25 => ?_) (fun h25 => ?_)
            · refine lv_iload_n hx hb d_M_run_57 rfl (lv_at hl 0 rfl) ?_
              first | exact hret _ ls _ _ _ y1 d_M_run_58 ⟨hI.1, Or.inl ⟨kb_n0 h4, Int32.not_lt.mp h9, h16, by rw [← hI.2.2, mr_stop h32], by rw [← hI.2.2, mr_stop h32]⟩⟩ hP hS | ((obtain rfl : nn = 0 := by omega); exact hret _ ls _ _ _ y1 d_M_run_58 ⟨hI.1, Or.inl ⟨kb_n0 h4, Int32.not_lt.mp h9, h16, by rw [← hI.2.2]; rfl, by rw [← hI.2.2]; rfl⟩⟩ hP hS)
            · refine lv_aload_n hx hb d_M_run_28 rfl (lv_at hl 1 rfl) ?_
              refine va_get (D := E.1) (ci := 8) (v := .int (nI y1.1.1)) (C := "WideStackModel") (T := T_M) (N := 15) hx hb hts in_M hown hK hP 0 rfl rfl 3 (by decide) (hts _ t_750) (fun _ h9 => h9) rfl d_M_run_29 ?_
              refine kn_ifne (tgt := 57) hx hb (by omega) d_M_run_32 (by decide) (fun h32 => ?_) (fun h32 => ?_)
              · refine lv_iload_n hx hb d_M_run_57 rfl (lv_at hl 0 rfl) ?_
                first | exact hret _ ls _ _ _ y1 d_M_run_58 ⟨hI.1, Or.inl ⟨kb_n0 h4, Int32.not_lt.mp h9, h16, by rw [← hI.2.2, mr_stop h32], by rw [← hI.2.2, mr_stop h32]⟩⟩ hP hS | ((obtain rfl : nn = 0 := by omega); exact hret _ ls _ _ _ y1 d_M_run_58 ⟨hI.1, Or.inl ⟨kb_n0 h4, Int32.not_lt.mp h9, h16, by rw [← hI.2.2]; rfl, by rw [← hI.2.2]; rfl⟩⟩ hP hS)
              · refine lv_aload_n hx hb d_M_run_35 rfl (lv_at hl 1 rfl) ?_
                refine k_Vv (As := []) (rest := []) ⟨hx, hb, hml, hown, hts⟩ (c_M_step l E mo mb mm mw mh ml len y1.1.1 y1.1.2.1 y1.1.2.2.1 y1.1.2.2.2.1 y1.1.2.2.2.2.1 y1.2.1 y1.1.2.2.2.2.2.2.1 on ay nb bb okb y1.2.2 hI.1.1.2.2.2 y1.1.2.2.2.2.2.2.2.2 hI.1.1.1.2.2.2.2.2.2.2.1 y1.1.2.2.2.2.2.1 y1.1.2.2.2.2.2.2.2.1 hI.1.1.1 hI.1.1.2.1 hI.1.1.2.2.1) (k_cwV 0 hts t_832 t_834 t_28 t_71 t_835 (by decide +kernel) ⟨Nat.le_of_ble_eq_true rfl, Nat.le_of_ble_eq_true rfl⟩) hK hG hA hP hD hS [0, 1, 2, 3] rfl (by decide) 0 rfl rfl (fun _ => rfl) rfl hl.1 rfl (Nat.le_of_ble_eq_true rfl) d_M_run_36 ⟨Nat.zero_le _, Nat.zero_le _⟩ (fun u H locs hu hP hD hS => ?_)
                have hP : va_P E.1 vwCl [(mo, .inr (8, [.int (nI len), .ref mb, .int (kb on), .int (nI u.1.1), .int (nI u.1.2.1), .int (nI u.1.2.2.1), .int (nI u.1.2.2.2.1), .int (nI u.1.2.2.2.2.1), .int (nI u.2.1), .int (nI u.1.2.2.2.2.2.2.1), .ref mm, .ref mw, .ref mh, .ref ml, .int (kb ay)])), (mb, .inl (E.2.1 0, 96, .inl (nF nb))), (mm, .inl (E.2.1 0, 160, .inl (nF u.1.2.2.2.2.2.2.2.2))), (mw, .inl (E.2.1 0, 370, .inl (nF u.2.2))), (mh, .inl (E.2.1 0, 144, .inl fh)), (ml, .inl (E.2.1 1, 144, .inl fl))] H := hP
                have hD : va_D A [(mo, .inr (8, [.int (nI len), .ref mb, .int (kb on), .int (nI u.1.1), .int (nI u.1.2.1), .int (nI u.1.2.2.1), .int (nI u.1.2.2.2.1), .int (nI u.1.2.2.2.2.1), .int (nI u.2.1), .int (nI u.1.2.2.2.2.2.2.1), .ref mm, .ref mw, .ref mh, .ref ml, .int (kb ay)])), (mb, .inl (E.2.1 0, 96, .inl (nF nb))), (mm, .inl (E.2.1 0, 160, .inl (nF u.1.2.2.2.2.2.2.2.2))), (mw, .inl (E.2.1 0, 370, .inl (nF u.2.2))), (mh, .inl (E.2.1 0, 144, .inl fh)), (ml, .inl (E.2.1 1, 144, .inl fl))] := hD
                obtain ⟨hu1, hu2, hu3, hu4⟩ := hu
                replace hu1 : u.1 = m_go len bb y1.1 := hu1
                have hY1 : okY u := ⟨⟨by rw [hu1]; exact okM_go okb.1 okb.2.1 okb.2.2.1 h32 hI.1.1.1, hu2, hu3, hu4⟩, by rw [hu1]; exact okZ_go hI.1.2⟩
                have b3 := hY1.1.1.1
                refine lv_aload_n hx hb d_M_run_39 rfl (lv_at hl 1 rfl) ?_
                refine va_get (D := E.1) (ci := 8) (v := .int (nI u.1.1)) (C := "WideStackModel") (T := T_M) (N := 15) hx hb hts in_M hown hK hP 0 rfl rfl 3 (by decide) (hts _ t_750) (fun _ h9 => h9) rfl d_M_run_40 ?_
                refine kn_ifne (tgt := 52) hx hb (by omega) d_M_run_43 (by decide) (fun h43 => ?_) (fun h43 => ?_)
                · refine lv_iload_n hx hb d_M_run_52 rfl (lv_at hl 0 rfl) ?_
                  refine lv_istore_n (lv' := [(2, .int (nI d0)), (0, .ref mo), (1, .int (nI j))]) hx hb d_M_run_53 rfl hl (by decide) rfl (fun ls hl => ?_)
                  refine lv_goto (tgt := 23) hx hb d_M_run_54 (by decide) ?_
                  exact ih (n - 1) (by omega) d0 nn u _ _ ls (by rw [if_pos h32] at hn; first | (rw [if_neg h43]; omega) | (rw [if_pos h43]; omega)) ⟨hY1, by omega, by rw [← hI.2.2, mr_stop h43, mr_end (by omega) h32 (by rw [← hu1]; exact h43), hu1]⟩ (lv_sub hl [0, 1, 2] rfl) hP hD hS
                · refine lv_iload_n hx hb d_M_run_46 rfl (lv_at hl 0 rfl) ?_
                  refine lv_iconst (v := nI 1) hx hb d_M_run_47 (by decide) ?_
                  refine lv_iadd hx hb d_M_run_48 ?_
                  refine k_top (nI_add _ _) ?_
                  refine lv_goto (tgt := 53) hx hb d_M_run_49 (by decide) ?_
                  refine lv_istore_n (lv' := [(2, .int (nI (d0 + 1))), (0, .ref mo), (1, .int (nI j))]) hx hb d_M_run_53 rfl hl (by decide) rfl (fun ls hl => ?_)
                  refine lv_goto (tgt := 23) hx hb d_M_run_54 (by decide) ?_
                  exact ih (n - 1) (by omega) (d0 + 1) (nn - 1) u _ _ ls (by rw [if_pos h32] at hn; first | (rw [if_neg h43]; omega) | (rw [if_pos h43]; omega)) ⟨hY1, by omega, by rw [← hI.2.2, hu1]; exact mr_on (by omega) h32 (by rw [← hu1]; exact h43)⟩ (lv_sub hl [0, 1, 2] rfl) hP hD hS
        exact key23 (j + (if y0.1.1 = 0 then 1 else 0)) 0 j y0 _ _ ls rfl ⟨hY, Nat.zero_add j, rfl⟩ (lv_sub hl [0, 1, 2] rfl) hP hD hS
      · refine lv_iconst (v := -1) hx hb d_M_run_19 (by decide) ?_
        first | exact hret _ ls _ _ _ y0 d_M_run_20 ⟨hY, Or.inr ⟨Or.inl (kb_0.mp h4), rfl, rfl⟩⟩ hP hS | exact hret _ ls _ _ _ y0 d_M_run_20 ⟨hY, Or.inr ⟨Or.inr (Or.inl (Int32.not_le.mpr h9)), rfl, rfl⟩⟩ hP hS | exact hret _ ls _ _ _ y0 d_M_run_20 ⟨hY, Or.inr ⟨Or.inr (Or.inr h16), rfl, rfl⟩⟩ hP hS

