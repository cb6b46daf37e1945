abbrev y_In_wordsNeeded : MethodName := ⟨"WideStack$Instructions", "wordsNeeded", "(I)I"⟩
theorem d_In_wordsNeeded_0 : decode prog_5_method_2_code 0 = .ok (.iload_n 0, 1) := by decide +kernel
theorem d_In_wordsNeeded_1 : decode prog_5_method_2_code 1 = .ok (.ifCond .lt 15, 3) := by decide +kernel
theorem d_In_wordsNeeded_4 : decode prog_5_method_2_code 4 = .ok (.iload_n 0, 1) := by decide +kernel
theorem d_In_wordsNeeded_5 : decode prog_5_method_2_code 5 = .ok (.bipush 32, 2) := by decide +kernel
theorem d_In_wordsNeeded_7 : decode prog_5_method_2_code 7 = .ok (.if_icmp .ge 9, 3) := by decide +kernel
theorem d_In_wordsNeeded_10 : decode prog_5_method_2_code 10 = .ok (.getstatic 9, 3) := by decide +kernel
theorem d_In_wordsNeeded_13 : decode prog_5_method_2_code 13 = .ok (.iload_n 0, 1) := by decide +kernel
theorem d_In_wordsNeeded_14 : decode prog_5_method_2_code 14 = .ok (.iaload, 1) := by decide +kernel
theorem d_In_wordsNeeded_15 : decode prog_5_method_2_code 15 = .ok (.ireturn, 1) := by decide +kernel
theorem d_In_wordsNeeded_16 : decode prog_5_method_2_code 16 = .ok (.iload_n 0, 1) := by decide +kernel
theorem d_In_wordsNeeded_17 : decode prog_5_method_2_code 17 = .ok (.bipush 80, 2) := by decide +kernel
theorem d_In_wordsNeeded_19 : decode prog_5_method_2_code 19 = .ok (.if_icmp .lt 18, 3) := by decide +kernel
theorem d_In_wordsNeeded_22 : decode prog_5_method_2_code 22 = .ok (.iload_n 0, 1) := by decide +kernel
theorem d_In_wordsNeeded_23 : decode prog_5_method_2_code 23 = .ok (.bipush 96, 2) := by decide +kernel
theorem d_In_wordsNeeded_25 : decode prog_5_method_2_code 25 = .ok (.if_icmp .ge 12, 3) := by decide +kernel
theorem d_In_wordsNeeded_28 : decode prog_5_method_2_code 28 = .ok (.getstatic 13, 3) := by decide +kernel
theorem d_In_wordsNeeded_31 : decode prog_5_method_2_code 31 = .ok (.iload_n 0, 1) := by decide +kernel
theorem d_In_wordsNeeded_32 : decode prog_5_method_2_code 32 = .ok (.bipush 80, 2) := by decide +kernel
theorem d_In_wordsNeeded_34 : decode prog_5_method_2_code 34 = .ok (.isub, 1) := by decide +kernel
theorem d_In_wordsNeeded_35 : decode prog_5_method_2_code 35 = .ok (.iaload, 1) := by decide +kernel
theorem d_In_wordsNeeded_36 : decode prog_5_method_2_code 36 = .ok (.ireturn, 1) := by decide +kernel
theorem d_In_wordsNeeded_37 : decode prog_5_method_2_code 37 = .ok (.iload_n 0, 1) := by decide +kernel
theorem d_In_wordsNeeded_38 : decode prog_5_method_2_code 38 = .ok (.bipush 96, 2) := by decide +kernel
theorem d_In_wordsNeeded_40 : decode prog_5_method_2_code 40 = .ok (.if_icmp .lt 12, 3) := by decide +kernel
theorem d_In_wordsNeeded_43 : decode prog_5_method_2_code 43 = .ok (.iload_n 0, 1) := by decide +kernel
theorem d_In_wordsNeeded_44 : decode prog_5_method_2_code 44 = .ok (.sipush 128, 3) := by decide +kernel
theorem d_In_wordsNeeded_47 : decode prog_5_method_2_code 47 = .ok (.if_icmp .ge 5, 3) := by decide +kernel
theorem d_In_wordsNeeded_50 : decode prog_5_method_2_code 50 = .ok (.iconst 0, 1) := by decide +kernel
theorem d_In_wordsNeeded_51 : decode prog_5_method_2_code 51 = .ok (.ireturn, 1) := by decide +kernel
theorem d_In_wordsNeeded_52 : decode prog_5_method_2_code 52 = .ok (.iload_n 0, 1) := by decide +kernel
theorem d_In_wordsNeeded_53 : decode prog_5_method_2_code 53 = .ok (.sipush 128, 3) := by decide +kernel
theorem d_In_wordsNeeded_56 : decode prog_5_method_2_code 56 = .ok (.if_icmp .lt 18, 3) := by decide +kernel
theorem d_In_wordsNeeded_59 : decode prog_5_method_2_code 59 = .ok (.iload_n 0, 1) := by decide +kernel
theorem d_In_wordsNeeded_60 : decode prog_5_method_2_code 60 = .ok (.sipush 144, 3) := by decide +kernel
theorem d_In_wordsNeeded_63 : decode prog_5_method_2_code 63 = .ok (.if_icmp .ge 11, 3) := by decide +kernel
theorem d_In_wordsNeeded_66 : decode prog_5_method_2_code 66 = .ok (.iload_n 0, 1) := by decide +kernel
theorem d_In_wordsNeeded_67 : decode prog_5_method_2_code 67 = .ok (.sipush 128, 3) := by decide +kernel
theorem d_In_wordsNeeded_70 : decode prog_5_method_2_code 70 = .ok (.isub, 1) := by decide +kernel
theorem d_In_wordsNeeded_71 : decode prog_5_method_2_code 71 = .ok (.iconst 1, 1) := by decide +kernel
theorem d_In_wordsNeeded_72 : decode prog_5_method_2_code 72 = .ok (.iadd, 1) := by decide +kernel
theorem d_In_wordsNeeded_73 : decode prog_5_method_2_code 73 = .ok (.ireturn, 1) := by decide +kernel
theorem d_In_wordsNeeded_74 : decode prog_5_method_2_code 74 = .ok (.iload_n 0, 1) := by decide +kernel
theorem d_In_wordsNeeded_75 : decode prog_5_method_2_code 75 = .ok (.sipush 144, 3) := by decide +kernel
theorem d_In_wordsNeeded_78 : decode prog_5_method_2_code 78 = .ok (.if_icmp .lt 18, 3) := by decide +kernel
theorem d_In_wordsNeeded_81 : decode prog_5_method_2_code 81 = .ok (.iload_n 0, 1) := by decide +kernel
theorem d_In_wordsNeeded_82 : decode prog_5_method_2_code 82 = .ok (.sipush 160, 3) := by decide +kernel
theorem d_In_wordsNeeded_85 : decode prog_5_method_2_code 85 = .ok (.if_icmp .ge 11, 3) := by decide +kernel
theorem d_In_wordsNeeded_88 : decode prog_5_method_2_code 88 = .ok (.iload_n 0, 1) := by decide +kernel
theorem d_In_wordsNeeded_89 : decode prog_5_method_2_code 89 = .ok (.sipush 144, 3) := by decide +kernel
theorem d_In_wordsNeeded_92 : decode prog_5_method_2_code 92 = .ok (.isub, 1) := by decide +kernel
theorem d_In_wordsNeeded_93 : decode prog_5_method_2_code 93 = .ok (.iconst 2, 1) := by decide +kernel
theorem d_In_wordsNeeded_94 : decode prog_5_method_2_code 94 = .ok (.iadd, 1) := by decide +kernel
theorem d_In_wordsNeeded_95 : decode prog_5_method_2_code 95 = .ok (.ireturn, 1) := by decide +kernel
theorem d_In_wordsNeeded_96 : decode prog_5_method_2_code 96 = .ok (.iload_n 0, 1) := by decide +kernel
theorem d_In_wordsNeeded_97 : decode prog_5_method_2_code 97 = .ok (.sipush 243, 3) := by decide +kernel
theorem d_In_wordsNeeded_100 : decode prog_5_method_2_code 100 = .ok (.if_icmp .ne 7, 3) := by decide +kernel
theorem d_In_wordsNeeded_103 : decode prog_5_method_2_code 103 = .ok (.iconst 2, 1) := by decide +kernel
theorem d_In_wordsNeeded_104 : decode prog_5_method_2_code 104 = .ok (.goto 4, 3) := by decide +kernel
theorem d_In_wordsNeeded_107 : decode prog_5_method_2_code 107 = .ok (.iconst (-1), 1) := by decide +kernel
theorem d_In_wordsNeeded_108 : decode prog_5_method_2_code 108 = .ok (.ireturn, 1) := by decide +kernel
def rm_c_I_wordsNeeded : Room := { frames := 0, cells := 0, slots := 0, locals := 0 }
set_option maxHeartbeats 4000000 in
set_option maxRecDepth 100000 in
theorem c_I_wordsNeeded (l : Launch) (E : kE) (o : Nat) (ho : o < 256) : Kp l y_In_wordsNeeded (kW y_In_wordsNeeded prog_5_method_2_code 1 (some .int)) rm_c_I_wordsNeeded E [.int (nI o)] [] (fun r => r = m_need o) := by
  refine Kp.ofI (cc := prog_5_method_2_code) (maxL := 1) (by decide) (Nat.le_of_ble_eq_true rfl) ?_
  intro p e s m args below meth c A ls Q hx hb hts hown hml hK hG hA hP hD hS hl hret
  have hl : lv_has ls 1 [(0, .int (nI o))] := hl
  refine lv_iload_n hx hb d_In_wordsNeeded_0 rfl (lv_at hl 0 rfl) ?_
  refine kn_iflt (tgt := 16) hx hb (by omega) d_In_wordsNeeded_1 (by decide) ?_
  refine lv_iload_n hx hb d_In_wordsNeeded_4 rfl (lv_at hl 0 rfl) ?_
  refine lv_bipush (v := nI 32) hx hb d_In_wordsNeeded_5 (by decide) ?_
  refine kn_ge (tgt := 16) hx hb (by omega) (by omega) d_In_wordsNeeded_7 (by decide) (fun h7 => ?_) (fun h7 => ?_)
  · refine lv_iload_n hx hb d_In_wordsNeeded_16 rfl (lv_at hl 0 rfl) ?_
    refine lv_bipush (v := nI 80) hx hb d_In_wordsNeeded_17 (by decide) ?_
    refine kn_lt (tgt := 37) hx hb (by omega) (by omega) d_In_wordsNeeded_19 (by decide) (fun h19 => ?_) (fun h19 => ?_)
    · refine lv_iload_n hx hb d_In_wordsNeeded_37 rfl (lv_at hl 0 rfl) ?_
      refine lv_bipush (v := nI 96) hx hb d_In_wordsNeeded_38 (by decide) ?_
      refine kn_lt (tgt := 52) hx hb (by omega) (by omega) d_In_wordsNeeded_40 (by decide) (fun h40 => ?_) (fun h40 => ?_)
      · refine lv_iload_n hx hb d_In_wordsNeeded_52 rfl (lv_at hl 0 rfl) ?_
        refine lv_sipush (v := nI 128) hx hb d_In_wordsNeeded_53 (by decide) ?_
        refine kn_lt (tgt := 74) hx hb (by omega) (by omega) d_In_wordsNeeded_56 (by decide) (fun h56 => ?_) (fun h56 => ?_)
        · refine lv_iload_n hx hb d_In_wordsNeeded_74 rfl (lv_at hl 0 rfl) ?_
          refine lv_sipush (v := nI 144) hx hb d_In_wordsNeeded_75 (by decide) ?_
          refine kn_lt (tgt := 96) hx hb (by omega) (by omega) d_In_wordsNeeded_78 (by decide) (fun h78 => ?_) (fun h78 => ?_)
          · refine lv_iload_n hx hb d_In_wordsNeeded_96 rfl (lv_at hl 0 rfl) ?_
            refine lv_sipush (v := nI 243) hx hb d_In_wordsNeeded_97 (by decide) ?_
            refine kn_ne (tgt := 107) hx hb (by omega) (by omega) d_In_wordsNeeded_100 (by decide) (fun h100 => ?_) (fun h100 => ?_)
            · refine lv_iconst (v := -1) hx hb d_In_wordsNeeded_107 (by decide) ?_
              first | exact hret _ ls _ d_In_wordsNeeded_108 (nd5 o ho (by omega)) | exact hret _ ls _ d_In_wordsNeeded_108 (nd6 o ho (by omega))
            · refine lv_iconst (v := nI 2) hx hb d_In_wordsNeeded_103 (by decide) ?_
              refine lv_goto (tgt := 108) hx hb d_In_wordsNeeded_104 (by decide) ?_
              first | exact hret _ ls _ d_In_wordsNeeded_108 (nd5 o ho (by omega)) | exact hret _ ls _ d_In_wordsNeeded_108 (nd6 o ho (by omega))
          · refine lv_iload_n hx hb d_In_wordsNeeded_81 rfl (lv_at hl 0 rfl) ?_
            refine lv_sipush (v := nI 160) hx hb d_In_wordsNeeded_82 (by decide) ?_
            refine kn_ge (tgt := 96) hx hb (by omega) (by omega) d_In_wordsNeeded_85 (by decide) (fun h85 => ?_) (fun h85 => ?_)
            · refine lv_iload_n hx hb d_In_wordsNeeded_96 rfl (lv_at hl 0 rfl) ?_
              refine lv_sipush (v := nI 243) hx hb d_In_wordsNeeded_97 (by decide) ?_
              refine kn_ne (tgt := 107) hx hb (by omega) (by omega) d_In_wordsNeeded_100 (by decide) (fun h100 => ?_) (fun h100 => ?_)
              · refine lv_iconst (v := -1) hx hb d_In_wordsNeeded_107 (by decide) ?_
                first | exact hret _ ls _ d_In_wordsNeeded_108 (nd5 o ho (by omega)) | exact hret _ ls _ d_In_wordsNeeded_108 (nd6 o ho (by omega))
              · refine lv_iconst (v := nI 2) hx hb d_In_wordsNeeded_103 (by decide) ?_
                refine lv_goto (tgt := 108) hx hb d_In_wordsNeeded_104 (by decide) ?_
                first | exact hret _ ls _ d_In_wordsNeeded_108 (nd5 o ho (by omega)) | exact hret _ ls _ d_In_wordsNeeded_108 (nd6 o ho (by omega))
            · refine lv_iload_n hx hb d_In_wordsNeeded_88 rfl (lv_at hl 0 rfl) ?_
              refine lv_sipush (v := nI 144) hx hb d_In_wordsNeeded_89 (by decide) ?_
              refine lv_isub hx hb d_In_wordsNeeded_92 ?_
              refine k_top (pk_sub (by omega)) ?_
              refine lv_iconst (v := nI 2) hx hb d_In_wordsNeeded_93 (by decide) ?_
              refine lv_iadd hx hb d_In_wordsNeeded_94 ?_
              refine k_top (nI_add _ _) ?_
              exact hret _ ls _ d_In_wordsNeeded_95 (nd4 o ho (by omega))
        · refine lv_iload_n hx hb d_In_wordsNeeded_59 rfl (lv_at hl 0 rfl) ?_
          refine lv_sipush (v := nI 144) hx hb d_In_wordsNeeded_60 (by decide) ?_
          refine kn_ge (tgt := 74) hx hb (by omega) (by omega) d_In_wordsNeeded_63 (by decide) (fun h63 => ?_) (fun h63 => ?_)
          · refine lv_iload_n hx hb d_In_wordsNeeded_74 rfl (lv_at hl 0 rfl) ?_
            refine lv_sipush (v := nI 144) hx hb d_In_wordsNeeded_75 (by decide) ?_
            refine kn_lt (tgt := 96) hx hb (by omega) (by omega) d_In_wordsNeeded_78 (by decide) (fun h78 => ?_) (fun h78 => ?_)
            · refine lv_iload_n hx hb d_In_wordsNeeded_96 rfl (lv_at hl 0 rfl) ?_
              refine lv_sipush (v := nI 243) hx hb d_In_wordsNeeded_97 (by decide) ?_
              refine kn_ne (tgt := 107) hx hb (by omega) (by omega) d_In_wordsNeeded_100 (by decide) (fun h100 => ?_) (fun h100 => ?_)
              · refine lv_iconst (v := -1) hx hb d_In_wordsNeeded_107 (by decide) ?_
                first | exact hret _ ls _ d_In_wordsNeeded_108 (nd5 o ho (by omega)) | exact hret _ ls _ d_In_wordsNeeded_108 (nd6 o ho (by omega))
              · refine lv_iconst (v := nI 2) hx hb d_In_wordsNeeded_103 (by decide) ?_
                refine lv_goto (tgt := 108) hx hb d_In_wordsNeeded_104 (by decide) ?_
                first | exact hret _ ls _ d_In_wordsNeeded_108 (nd5 o ho (by omega)) | exact hret _ ls _ d_In_wordsNeeded_108 (nd6 o ho (by omega))
            · refine lv_iload_n hx hb d_In_wordsNeeded_81 rfl (lv_at hl 0 rfl) ?_
              refine lv_sipush (v := nI 160) hx hb d_In_wordsNeeded_82 (by decide) ?_
              refine kn_ge (tgt := 96) hx hb (by omega) (by omega) d_In_wordsNeeded_85 (by decide) (fun h85 => ?_) (fun h85 => ?_)
              · refine lv_iload_n hx hb d_In_wordsNeeded_96 rfl (lv_at hl 0 rfl) ?_
                refine lv_sipush (v := nI 243) hx hb d_In_wordsNeeded_97 (by decide) ?_
                refine kn_ne (tgt := 107) hx hb (by omega) (by omega) d_In_wordsNeeded_100 (by decide) (fun h100 => ?_) (fun h100 => ?_)
                · refine lv_iconst (v := -1) hx hb d_In_wordsNeeded_107 (by decide) ?_
                  first | exact hret _ ls _ d_In_wordsNeeded_108 (nd5 o ho (by omega)) | exact hret _ ls _ d_In_wordsNeeded_108 (nd6 o ho (by omega))
                · refine lv_iconst (v := nI 2) hx hb d_In_wordsNeeded_103 (by decide) ?_
                  refine lv_goto (tgt := 108) hx hb d_In_wordsNeeded_104 (by decide) ?_
                  first | exact hret _ ls _ d_In_wordsNeeded_108 (nd5 o ho (by omega)) | exact hret _ ls _ d_In_wordsNeeded_108 (nd6 o ho (by omega))
              · refine lv_iload_n hx hb d_In_wordsNeeded_88 rfl (lv_at hl 0 rfl) ?_
                refine lv_sipush (v := nI 144) hx hb d_In_wordsNeeded_89 (by decide) ?_
                refine lv_isub hx hb d_In_wordsNeeded_92 ?_
                refine k_top (pk_sub (by omega)) ?_
                refine lv_iconst (v := nI 2) hx hb d_In_wordsNeeded_93 (by decide) ?_
                refine lv_iadd hx hb d_In_wordsNeeded_94 ?_
                refine k_top (nI_add _ _) ?_
                exact hret _ ls _ d_In_wordsNeeded_95 (nd4 o ho (by omega))
          · refine lv_iload_n hx hb d_In_wordsNeeded_66 rfl (lv_at hl 0 rfl) ?_
            refine lv_sipush (v := nI 128) hx hb d_In_wordsNeeded_67 (by decide) ?_
            refine lv_isub hx hb d_In_wordsNeeded_70 ?_
            refine k_top (pk_sub (by omega)) ?_
            refine lv_iconst (v := nI 1) hx hb d_In_wordsNeeded_71 (by decide) ?_
            refine lv_iadd hx hb d_In_wordsNeeded_72 ?_
            refine k_top (nI_add _ _) ?_
            exact hret _ ls _ d_In_wordsNeeded_73 (nd3 o ho (by omega))
      · refine lv_iload_n hx hb d_In_wordsNeeded_43 rfl (lv_at hl 0 rfl) ?_
        refine lv_sipush (v := nI 128) hx hb d_In_wordsNeeded_44 (by decide) ?_
        refine kn_ge (tgt := 52) hx hb (by omega) (by omega) d_In_wordsNeeded_47 (by decide) (fun h47 => ?_) (fun h47 => ?_)
        · refine lv_iload_n hx hb d_In_wordsNeeded_52 rfl (lv_at hl 0 rfl) ?_
          refine lv_sipush (v := nI 128) hx hb d_In_wordsNeeded_53 (by decide) ?_
          refine kn_lt (tgt := 74) hx hb (by omega) (by omega) d_In_wordsNeeded_56 (by decide) (fun h56 => ?_) (fun h56 => ?_)
          · refine lv_iload_n hx hb d_In_wordsNeeded_74 rfl (lv_at hl 0 rfl) ?_
            refine lv_sipush (v := nI 144) hx hb d_In_wordsNeeded_75 (by decide) ?_
            refine kn_lt (tgt := 96) hx hb (by omega) (by omega) d_In_wordsNeeded_78 (by decide) (fun h78 => ?_) (fun h78 => ?_)
            · refine lv_iload_n hx hb d_In_wordsNeeded_96 rfl (lv_at hl 0 rfl) ?_
              refine lv_sipush (v := nI 243) hx hb d_In_wordsNeeded_97 (by decide) ?_
              refine kn_ne (tgt := 107) hx hb (by omega) (by omega) d_In_wordsNeeded_100 (by decide) (fun h100 => ?_) (fun h100 => ?_)
              · refine lv_iconst (v := -1) hx hb d_In_wordsNeeded_107 (by decide) ?_
                first | exact hret _ ls _ d_In_wordsNeeded_108 (nd5 o ho (by omega)) | exact hret _ ls _ d_In_wordsNeeded_108 (nd6 o ho (by omega))
              · refine lv_iconst (v := nI 2) hx hb d_In_wordsNeeded_103 (by decide) ?_
                refine lv_goto (tgt := 108) hx hb d_In_wordsNeeded_104 (by decide) ?_
                first | exact hret _ ls _ d_In_wordsNeeded_108 (nd5 o ho (by omega)) | exact hret _ ls _ d_In_wordsNeeded_108 (nd6 o ho (by omega))
            · refine lv_iload_n hx hb d_In_wordsNeeded_81 rfl (lv_at hl 0 rfl) ?_
              refine lv_sipush (v := nI 160) hx hb d_In_wordsNeeded_82 (by decide) ?_
              refine kn_ge (tgt := 96) hx hb (by omega) (by omega) d_In_wordsNeeded_85 (by decide) (fun h85 => ?_) (fun h85 => ?_)
              · refine lv_iload_n hx hb d_In_wordsNeeded_96 rfl (lv_at hl 0 rfl) ?_
                refine lv_sipush (v := nI 243) hx hb d_In_wordsNeeded_97 (by decide) ?_
                refine kn_ne (tgt := 107) hx hb (by omega) (by omega) d_In_wordsNeeded_100 (by decide) (fun h100 => ?_) (fun h100 => ?_)
                · refine lv_iconst (v := -1) hx hb d_In_wordsNeeded_107 (by decide) ?_
                  first | exact hret _ ls _ d_In_wordsNeeded_108 (nd5 o ho (by omega)) | exact hret _ ls _ d_In_wordsNeeded_108 (nd6 o ho (by omega))
                · refine lv_iconst (v := nI 2) hx hb d_In_wordsNeeded_103 (by decide) ?_
                  refine lv_goto (tgt := 108) hx hb d_In_wordsNeeded_104 (by decide) ?_
                  first | exact hret _ ls _ d_In_wordsNeeded_108 (nd5 o ho (by omega)) | exact hret _ ls _ d_In_wordsNeeded_108 (nd6 o ho (by omega))
              · refine lv_iload_n hx hb d_In_wordsNeeded_88 rfl (lv_at hl 0 rfl) ?_
                refine lv_sipush (v := nI 144) hx hb d_In_wordsNeeded_89 (by decide) ?_
                refine lv_isub hx hb d_In_wordsNeeded_92 ?_
                refine k_top (pk_sub (by omega)) ?_
                refine lv_iconst (v := nI 2) hx hb d_In_wordsNeeded_93 (by decide) ?_
                refine lv_iadd hx hb d_In_wordsNeeded_94 ?_
                refine k_top (nI_add _ _) ?_
                exact hret _ ls _ d_In_wordsNeeded_95 (nd4 o ho (by omega))
          · refine lv_iload_n hx hb d_In_wordsNeeded_59 rfl (lv_at hl 0 rfl) ?_
            refine lv_sipush (v := nI 144) hx hb d_In_wordsNeeded_60 (by decide) ?_
            refine kn_ge (tgt := 74) hx hb (by omega) (by omega) d_In_wordsNeeded_63 (by decide) (fun h63 => ?_) (fun h63 => ?_)
            · refine lv_iload_n hx hb d_In_wordsNeeded_74 rfl (lv_at hl 0 rfl) ?_
              refine lv_sipush (v := nI 144) hx hb d_In_wordsNeeded_75 (by decide) ?_
              refine kn_lt (tgt := 96) hx hb (by omega) (by omega) d_In_wordsNeeded_78 (by decide) (fun h78 => ?_) (fun h78 => ?_)
              · refine lv_iload_n hx hb d_In_wordsNeeded_96 rfl (lv_at hl 0 rfl) ?_
                refine lv_sipush (v := nI 243) hx hb d_In_wordsNeeded_97 (by decide) ?_
                refine kn_ne (tgt := 107) hx hb (by omega) (by omega) d_In_wordsNeeded_100 (by decide) (fun h100 => ?_) (fun h100 => ?_)
                · refine lv_iconst (v := -1) hx hb d_In_wordsNeeded_107 (by decide) ?_
                  first | exact hret _ ls _ d_In_wordsNeeded_108 (nd5 o ho (by omega)) | exact hret _ ls _ d_In_wordsNeeded_108 (nd6 o ho (by omega))
                · refine lv_iconst (v := nI 2) hx hb d_In_wordsNeeded_103 (by decide) ?_
                  refine lv_goto (tgt := 108) hx hb d_In_wordsNeeded_104 (by decide) ?_
                  first | exact hret _ ls _ d_In_wordsNeeded_108 (nd5 o ho (by omega)) | exact hret _ ls _ d_In_wordsNeeded_108 (nd6 o ho (by omega))
              · refine lv_iload_n hx hb d_In_wordsNeeded_81 rfl (lv_at hl 0 rfl) ?_
                refine lv_sipush (v := nI 160) hx hb d_In_wordsNeeded_82 (by decide) ?_
                refine kn_ge (tgt := 96) hx hb (by omega) (by omega) d_In_wordsNeeded_85 (by decide) (fun h85 => ?_) (fun h85 => ?_)
                · refine lv_iload_n hx hb d_In_wordsNeeded_96 rfl (lv_at hl 0 rfl) ?_
                  refine lv_sipush (v := nI 243) hx hb d_In_wordsNeeded_97 (by decide) ?_
                  refine kn_ne (tgt := 107) hx hb (by omega) (by omega) d_In_wordsNeeded_100 (by decide) (fun h100 => ?_) (fun h100 => ?_)
                  · refine lv_iconst (v := -1) hx hb d_In_wordsNeeded_107 (by decide) ?_
                    first | exact hret _ ls _ d_In_wordsNeeded_108 (nd5 o ho (by omega)) | exact hret _ ls _ d_In_wordsNeeded_108 (nd6 o ho (by omega))
                  · refine lv_iconst (v := nI 2) hx hb d_In_wordsNeeded_103 (by decide) ?_
                    refine lv_goto (tgt := 108) hx hb d_In_wordsNeeded_104 (by decide) ?_
                    first | exact hret _ ls _ d_In_wordsNeeded_108 (nd5 o ho (by omega)) | exact hret _ ls _ d_In_wordsNeeded_108 (nd6 o ho (by omega))
                · refine lv_iload_n hx hb d_In_wordsNeeded_88 rfl (lv_at hl 0 rfl) ?_
                  refine lv_sipush (v := nI 144) hx hb d_In_wordsNeeded_89 (by decide) ?_
                  refine lv_isub hx hb d_In_wordsNeeded_92 ?_
                  refine k_top (pk_sub (by omega)) ?_
                  refine lv_iconst (v := nI 2) hx hb d_In_wordsNeeded_93 (by decide) ?_
                  refine lv_iadd hx hb d_In_wordsNeeded_94 ?_
                  refine k_top (nI_add _ _) ?_
                  exact hret _ ls _ d_In_wordsNeeded_95 (nd4 o ho (by omega))
            · refine lv_iload_n hx hb d_In_wordsNeeded_66 rfl (lv_at hl 0 rfl) ?_
              refine lv_sipush (v := nI 128) hx hb d_In_wordsNeeded_67 (by decide) ?_
              refine lv_isub hx hb d_In_wordsNeeded_70 ?_
              refine k_top (pk_sub (by omega)) ?_
              refine lv_iconst (v := nI 1) hx hb d_In_wordsNeeded_71 (by decide) ?_
              refine lv_iadd hx hb d_In_wordsNeeded_72 ?_
              refine k_top (nI_add _ _) ?_
              exact hret _ ls _ d_In_wordsNeeded_73 (nd3 o ho (by omega))
        · refine lv_iconst (v := nI 0) hx hb d_In_wordsNeeded_50 (by decide) ?_
          exact hret _ ls _ d_In_wordsNeeded_51 (nd2 o ho (by omega))
    · refine lv_iload_n hx hb d_In_wordsNeeded_22 rfl (lv_at hl 0 rfl) ?_
      refine lv_bipush (v := nI 96) hx hb d_In_wordsNeeded_23 (by decide) ?_
      refine kn_ge (tgt := 37) hx hb (by omega) (by omega) d_In_wordsNeeded_25 (by decide) (fun h25 => ?_) (fun h25 => ?_)
      · refine lv_iload_n hx hb d_In_wordsNeeded_37 rfl (lv_at hl 0 rfl) ?_
        refine lv_bipush (v := nI 96) hx hb d_In_wordsNeeded_38 (by decide) ?_
        refine kn_lt (tgt := 52) hx hb (by omega) (by omega) d_In_wordsNeeded_40 (by decide) (fun h40 => ?_) (fun h40 => ?_)
        · refine lv_iload_n hx hb d_In_wordsNeeded_52 rfl (lv_at hl 0 rfl) ?_
          refine lv_sipush (v := nI 128) hx hb d_In_wordsNeeded_53 (by decide) ?_
          refine kn_lt (tgt := 74) hx hb (by omega) (by omega) d_In_wordsNeeded_56 (by decide) (fun h56 => ?_) (fun h56 => ?_)
          · refine lv_iload_n hx hb d_In_wordsNeeded_74 rfl (lv_at hl 0 rfl) ?_
            refine lv_sipush (v := nI 144) hx hb d_In_wordsNeeded_75 (by decide) ?_
            refine kn_lt (tgt := 96) hx hb (by omega) (by omega) d_In_wordsNeeded_78 (by decide) (fun h78 => ?_) (fun h78 => ?_)
            · refine lv_iload_n hx hb d_In_wordsNeeded_96 rfl (lv_at hl 0 rfl) ?_
              refine lv_sipush (v := nI 243) hx hb d_In_wordsNeeded_97 (by decide) ?_
              refine kn_ne (tgt := 107) hx hb (by omega) (by omega) d_In_wordsNeeded_100 (by decide) (fun h100 => ?_) (fun h100 => ?_)
              · refine lv_iconst (v := -1) hx hb d_In_wordsNeeded_107 (by decide) ?_
                first | exact hret _ ls _ d_In_wordsNeeded_108 (nd5 o ho (by omega)) | exact hret _ ls _ d_In_wordsNeeded_108 (nd6 o ho (by omega))
              · refine lv_iconst (v := nI 2) hx hb d_In_wordsNeeded_103 (by decide) ?_
                refine lv_goto (tgt := 108) hx hb d_In_wordsNeeded_104 (by decide) ?_
                first | exact hret _ ls _ d_In_wordsNeeded_108 (nd5 o ho (by omega)) | exact hret _ ls _ d_In_wordsNeeded_108 (nd6 o ho (by omega))
            · refine lv_iload_n hx hb d_In_wordsNeeded_81 rfl (lv_at hl 0 rfl) ?_
              refine lv_sipush (v := nI 160) hx hb d_In_wordsNeeded_82 (by decide) ?_
              refine kn_ge (tgt := 96) hx hb (by omega) (by omega) d_In_wordsNeeded_85 (by decide) (fun h85 => ?_) (fun h85 => ?_)
              · refine lv_iload_n hx hb d_In_wordsNeeded_96 rfl (lv_at hl 0 rfl) ?_
                refine lv_sipush (v := nI 243) hx hb d_In_wordsNeeded_97 (by decide) ?_
                refine kn_ne (tgt := 107) hx hb (by omega) (by omega) d_In_wordsNeeded_100 (by decide) (fun h100 => ?_) (fun h100 => ?_)
                · refine lv_iconst (v := -1) hx hb d_In_wordsNeeded_107 (by decide) ?_
                  first | exact hret _ ls _ d_In_wordsNeeded_108 (nd5 o ho (by omega)) | exact hret _ ls _ d_In_wordsNeeded_108 (nd6 o ho (by omega))
                · refine lv_iconst (v := nI 2) hx hb d_In_wordsNeeded_103 (by decide) ?_
                  refine lv_goto (tgt := 108) hx hb d_In_wordsNeeded_104 (by decide) ?_
                  first | exact hret _ ls _ d_In_wordsNeeded_108 (nd5 o ho (by omega)) | exact hret _ ls _ d_In_wordsNeeded_108 (nd6 o ho (by omega))
              · refine lv_iload_n hx hb d_In_wordsNeeded_88 rfl (lv_at hl 0 rfl) ?_
                refine lv_sipush (v := nI 144) hx hb d_In_wordsNeeded_89 (by decide) ?_
                refine lv_isub hx hb d_In_wordsNeeded_92 ?_
                refine k_top (pk_sub (by omega)) ?_
                refine lv_iconst (v := nI 2) hx hb d_In_wordsNeeded_93 (by decide) ?_
                refine lv_iadd hx hb d_In_wordsNeeded_94 ?_
                refine k_top (nI_add _ _) ?_
                exact hret _ ls _ d_In_wordsNeeded_95 (nd4 o ho (by omega))
          · refine lv_iload_n hx hb d_In_wordsNeeded_59 rfl (lv_at hl 0 rfl) ?_
            refine lv_sipush (v := nI 144) hx hb d_In_wordsNeeded_60 (by decide) ?_
            refine kn_ge (tgt := 74) hx hb (by omega) (by omega) d_In_wordsNeeded_63 (by decide) (fun h63 => ?_) (fun h63 => ?_)
            · refine lv_iload_n hx hb d_In_wordsNeeded_74 rfl (lv_at hl 0 rfl) ?_
              refine lv_sipush (v := nI 144) hx hb d_In_wordsNeeded_75 (by decide) ?_
              refine kn_lt (tgt := 96) hx hb (by omega) (by omega) d_In_wordsNeeded_78 (by decide) (fun h78 => ?_) (fun h78 => ?_)
              · refine lv_iload_n hx hb d_In_wordsNeeded_96 rfl (lv_at hl 0 rfl) ?_
                refine lv_sipush (v := nI 243) hx hb d_In_wordsNeeded_97 (by decide) ?_
                refine kn_ne (tgt := 107) hx hb (by omega) (by omega) d_In_wordsNeeded_100 (by decide) (fun h100 => ?_) (fun h100 => ?_)
                · refine lv_iconst (v := -1) hx hb d_In_wordsNeeded_107 (by decide) ?_
                  first | exact hret _ ls _ d_In_wordsNeeded_108 (nd5 o ho (by omega)) | exact hret _ ls _ d_In_wordsNeeded_108 (nd6 o ho (by omega))
                · refine lv_iconst (v := nI 2) hx hb d_In_wordsNeeded_103 (by decide) ?_
                  refine lv_goto (tgt := 108) hx hb d_In_wordsNeeded_104 (by decide) ?_
                  first | exact hret _ ls _ d_In_wordsNeeded_108 (nd5 o ho (by omega)) | exact hret _ ls _ d_In_wordsNeeded_108 (nd6 o ho (by omega))
              · refine lv_iload_n hx hb d_In_wordsNeeded_81 rfl (lv_at hl 0 rfl) ?_
                refine lv_sipush (v := nI 160) hx hb d_In_wordsNeeded_82 (by decide) ?_
                refine kn_ge (tgt := 96) hx hb (by omega) (by omega) d_In_wordsNeeded_85 (by decide) (fun h85 => ?_) (fun h85 => ?_)
                · refine lv_iload_n hx hb d_In_wordsNeeded_96 rfl (lv_at hl 0 rfl) ?_
                  refine lv_sipush (v := nI 243) hx hb d_In_wordsNeeded_97 (by decide) ?_
                  refine kn_ne (tgt := 107) hx hb (by omega) (by omega) d_In_wordsNeeded_100 (by decide) (fun h100 => ?_) (fun h100 => ?_)
                  · refine lv_iconst (v := -1) hx hb d_In_wordsNeeded_107 (by decide) ?_
                    first | exact hret _ ls _ d_In_wordsNeeded_108 (nd5 o ho (by omega)) | exact hret _ ls _ d_In_wordsNeeded_108 (nd6 o ho (by omega))
                  · refine lv_iconst (v := nI 2) hx hb d_In_wordsNeeded_103 (by decide) ?_
                    refine lv_goto (tgt := 108) hx hb d_In_wordsNeeded_104 (by decide) ?_
                    first | exact hret _ ls _ d_In_wordsNeeded_108 (nd5 o ho (by omega)) | exact hret _ ls _ d_In_wordsNeeded_108 (nd6 o ho (by omega))
                · refine lv_iload_n hx hb d_In_wordsNeeded_88 rfl (lv_at hl 0 rfl) ?_
                  refine lv_sipush (v := nI 144) hx hb d_In_wordsNeeded_89 (by decide) ?_
                  refine lv_isub hx hb d_In_wordsNeeded_92 ?_
                  refine k_top (pk_sub (by omega)) ?_
                  refine lv_iconst (v := nI 2) hx hb d_In_wordsNeeded_93 (by decide) ?_
                  refine lv_iadd hx hb d_In_wordsNeeded_94 ?_
                  refine k_top (nI_add _ _) ?_
                  exact hret _ ls _ d_In_wordsNeeded_95 (nd4 o ho (by omega))
            · refine lv_iload_n hx hb d_In_wordsNeeded_66 rfl (lv_at hl 0 rfl) ?_
              refine lv_sipush (v := nI 128) hx hb d_In_wordsNeeded_67 (by decide) ?_
              refine lv_isub hx hb d_In_wordsNeeded_70 ?_
              refine k_top (pk_sub (by omega)) ?_
              refine lv_iconst (v := nI 1) hx hb d_In_wordsNeeded_71 (by decide) ?_
              refine lv_iadd hx hb d_In_wordsNeeded_72 ?_
              refine k_top (nI_add _ _) ?_
              exact hret _ ls _ d_In_wordsNeeded_73 (nd3 o ho (by omega))
        · refine lv_iload_n hx hb d_In_wordsNeeded_43 rfl (lv_at hl 0 rfl) ?_
          refine lv_sipush (v := nI 128) hx hb d_In_wordsNeeded_44 (by decide) ?_
          refine kn_ge (tgt := 52) hx hb (by omega) (by omega) d_In_wordsNeeded_47 (by decide) (fun h47 => ?_) (fun h47 => ?_)
          · refine lv_iload_n hx hb d_In_wordsNeeded_52 rfl (lv_at hl 0 rfl) ?_
            refine lv_sipush (v := nI 128) hx hb d_In_wordsNeeded_53 (by decide) ?_
            refine kn_lt (tgt := 74) hx hb (by omega) (by omega) d_In_wordsNeeded_56 (by decide) (fun h56 => ?_) (fun h56 => ?_)
            · refine lv_iload_n hx hb d_In_wordsNeeded_74 rfl (lv_at hl 0 rfl) ?_
              refine lv_sipush (v := nI 144) hx hb d_In_wordsNeeded_75 (by decide) ?_
              refine kn_lt (tgt := 96) hx hb (by omega) (by omega) d_In_wordsNeeded_78 (by decide) (fun h78 => ?_) (fun h78 => ?_)
              · refine lv_iload_n hx hb d_In_wordsNeeded_96 rfl (lv_at hl 0 rfl) ?_
                refine lv_sipush (v := nI 243) hx hb d_In_wordsNeeded_97 (by decide) ?_
                refine kn_ne (tgt := 107) hx hb (by omega) (by omega) d_In_wordsNeeded_100 (by decide) (fun h100 => ?_) (fun h100 => ?_)
                · refine lv_iconst (v := -1) hx hb d_In_wordsNeeded_107 (by decide) ?_
                  first | exact hret _ ls _ d_In_wordsNeeded_108 (nd5 o ho (by omega)) | exact hret _ ls _ d_In_wordsNeeded_108 (nd6 o ho (by omega))
                · refine lv_iconst (v := nI 2) hx hb d_In_wordsNeeded_103 (by decide) ?_
                  refine lv_goto (tgt := 108) hx hb d_In_wordsNeeded_104 (by decide) ?_
                  first | exact hret _ ls _ d_In_wordsNeeded_108 (nd5 o ho (by omega)) | exact hret _ ls _ d_In_wordsNeeded_108 (nd6 o ho (by omega))
              · refine lv_iload_n hx hb d_In_wordsNeeded_81 rfl (lv_at hl 0 rfl) ?_
                refine lv_sipush (v := nI 160) hx hb d_In_wordsNeeded_82 (by decide) ?_
                refine kn_ge (tgt := 96) hx hb (by omega) (by omega) d_In_wordsNeeded_85 (by decide) (fun h85 => ?_) (fun h85 => ?_)
                · refine lv_iload_n hx hb d_In_wordsNeeded_96 rfl (lv_at hl 0 rfl) ?_
                  refine lv_sipush (v := nI 243) hx hb d_In_wordsNeeded_97 (by decide) ?_
                  refine kn_ne (tgt := 107) hx hb (by omega) (by omega) d_In_wordsNeeded_100 (by decide) (fun h100 => ?_) (fun h100 => ?_)
                  · refine lv_iconst (v := -1) hx hb d_In_wordsNeeded_107 (by decide) ?_
                    first | exact hret _ ls _ d_In_wordsNeeded_108 (nd5 o ho (by omega)) | exact hret _ ls _ d_In_wordsNeeded_108 (nd6 o ho (by omega))
                  · refine lv_iconst (v := nI 2) hx hb d_In_wordsNeeded_103 (by decide) ?_
                    refine lv_goto (tgt := 108) hx hb d_In_wordsNeeded_104 (by decide) ?_
                    first | exact hret _ ls _ d_In_wordsNeeded_108 (nd5 o ho (by omega)) | exact hret _ ls _ d_In_wordsNeeded_108 (nd6 o ho (by omega))
                · refine lv_iload_n hx hb d_In_wordsNeeded_88 rfl (lv_at hl 0 rfl) ?_
                  refine lv_sipush (v := nI 144) hx hb d_In_wordsNeeded_89 (by decide) ?_
                  refine lv_isub hx hb d_In_wordsNeeded_92 ?_
                  refine k_top (pk_sub (by omega)) ?_
                  refine lv_iconst (v := nI 2) hx hb d_In_wordsNeeded_93 (by decide) ?_
                  refine lv_iadd hx hb d_In_wordsNeeded_94 ?_
                  refine k_top (nI_add _ _) ?_
                  exact hret _ ls _ d_In_wordsNeeded_95 (nd4 o ho (by omega))
            · refine lv_iload_n hx hb d_In_wordsNeeded_59 rfl (lv_at hl 0 rfl) ?_
              refine lv_sipush (v := nI 144) hx hb d_In_wordsNeeded_60 (by decide) ?_
              refine kn_ge (tgt := 74) hx hb (by omega) (by omega) d_In_wordsNeeded_63 (by decide) (fun h63 => ?_) (fun h63 => ?_)
              · refine lv_iload_n hx hb d_In_wordsNeeded_74 rfl (lv_at hl 0 rfl) ?_
                refine lv_sipush (v := nI 144) hx hb d_In_wordsNeeded_75 (by decide) ?_
                refine kn_lt (tgt := 96) hx hb (by omega) (by omega) d_In_wordsNeeded_78 (by decide) (fun h78 => ?_) (fun h78 => ?_)
                · refine lv_iload_n hx hb d_In_wordsNeeded_96 rfl (lv_at hl 0 rfl) ?_
                  refine lv_sipush (v := nI 243) hx hb d_In_wordsNeeded_97 (by decide) ?_
                  refine kn_ne (tgt := 107) hx hb (by omega) (by omega) d_In_wordsNeeded_100 (by decide) (fun h100 => ?_) (fun h100 => ?_)
                  · refine lv_iconst (v := -1) hx hb d_In_wordsNeeded_107 (by decide) ?_
                    first | exact hret _ ls _ d_In_wordsNeeded_108 (nd5 o ho (by omega)) | exact hret _ ls _ d_In_wordsNeeded_108 (nd6 o ho (by omega))
                  · refine lv_iconst (v := nI 2) hx hb d_In_wordsNeeded_103 (by decide) ?_
                    refine lv_goto (tgt := 108) hx hb d_In_wordsNeeded_104 (by decide) ?_
                    first | exact hret _ ls _ d_In_wordsNeeded_108 (nd5 o ho (by omega)) | exact hret _ ls _ d_In_wordsNeeded_108 (nd6 o ho (by omega))
                · refine lv_iload_n hx hb d_In_wordsNeeded_81 rfl (lv_at hl 0 rfl) ?_
                  refine lv_sipush (v := nI 160) hx hb d_In_wordsNeeded_82 (by decide) ?_
                  refine kn_ge (tgt := 96) hx hb (by omega) (by omega) d_In_wordsNeeded_85 (by decide) (fun h85 => ?_) (fun h85 => ?_)
                  · refine lv_iload_n hx hb d_In_wordsNeeded_96 rfl (lv_at hl 0 rfl) ?_
                    refine lv_sipush (v := nI 243) hx hb d_In_wordsNeeded_97 (by decide) ?_
                    refine kn_ne (tgt := 107) hx hb (by omega) (by omega) d_In_wordsNeeded_100 (by decide) (fun h100 => ?_) (fun h100 => ?_)
                    · refine lv_iconst (v := -1) hx hb d_In_wordsNeeded_107 (by decide) ?_
                      first | exact hret _ ls _ d_In_wordsNeeded_108 (nd5 o ho (by omega)) | exact hret _ ls _ d_In_wordsNeeded_108 (nd6 o ho (by omega))
                    · refine lv_iconst (v := nI 2) hx hb d_In_wordsNeeded_103 (by decide) ?_
                      refine lv_goto (tgt := 108) hx hb d_In_wordsNeeded_104 (by decide) ?_
                      first | exact hret _ ls _ d_In_wordsNeeded_108 (nd5 o ho (by omega)) | exact hret _ ls _ d_In_wordsNeeded_108 (nd6 o ho (by omega))
                  · refine lv_iload_n hx hb d_In_wordsNeeded_88 rfl (lv_at hl 0 rfl) ?_
                    refine lv_sipush (v := nI 144) hx hb d_In_wordsNeeded_89 (by decide) ?_
                    refine lv_isub hx hb d_In_wordsNeeded_92 ?_
                    refine k_top (pk_sub (by omega)) ?_
                    refine lv_iconst (v := nI 2) hx hb d_In_wordsNeeded_93 (by decide) ?_
                    refine lv_iadd hx hb d_In_wordsNeeded_94 ?_
                    refine k_top (nI_add _ _) ?_
                    exact hret _ ls _ d_In_wordsNeeded_95 (nd4 o ho (by omega))
              · refine lv_iload_n hx hb d_In_wordsNeeded_66 rfl (lv_at hl 0 rfl) ?_
                refine lv_sipush (v := nI 128) hx hb d_In_wordsNeeded_67 (by decide) ?_
                refine lv_isub hx hb d_In_wordsNeeded_70 ?_
                refine k_top (pk_sub (by omega)) ?_
                refine lv_iconst (v := nI 1) hx hb d_In_wordsNeeded_71 (by decide) ?_
                refine lv_iadd hx hb d_In_wordsNeeded_72 ?_
                refine k_top (nI_add _ _) ?_
                exact hret _ ls _ d_In_wordsNeeded_73 (nd3 o ho (by omega))
          · refine lv_iconst (v := nI 0) hx hb d_In_wordsNeeded_50 (by decide) ?_
            exact hret _ ls _ d_In_wordsNeeded_51 (nd2 o ho (by omega))
      · refine va_gets hx hb hG.2.1.1 hS hown (hts _ t_363) (fun _ h9 => h9) d_In_wordsNeeded_28 ?_
        refine lv_iload_n hx hb d_In_wordsNeeded_31 rfl (lv_at hl 0 rfl) ?_
        refine lv_bipush (v := nI 80) hx hb d_In_wordsNeeded_32 (by decide) ?_
        refine lv_isub hx hb d_In_wordsNeeded_34 ?_
        refine k_top (pk_sub (by omega)) ?_
        refine k_tabB hx hb hG hS (i := (o - 80)) (by omega) d_In_wordsNeeded_35 ?_
        exact hret _ ls _ d_In_wordsNeeded_36 (nd1 o ho (by omega))
  · refine va_gets hx hb hG.1.1 hS hown (hts _ t_361) (fun _ h9 => h9) d_In_wordsNeeded_10 ?_
    refine lv_iload_n hx hb d_In_wordsNeeded_13 rfl (lv_at hl 0 rfl) ?_
    refine k_tabA hx hb hG hS (i := o) (by omega) d_In_wordsNeeded_14 ?_
    exact hret _ ls _ d_In_wordsNeeded_15 (nd0 o ho (by omega))

abbrev y_In_isDefined : MethodName := ⟨"WideStack$Instructions", "isDefined", "(I)Z"⟩
theorem d_In_isDefined_0 : decode prog_5_method_3_code 0 = .ok (.iload_n 0, 1) := by decide +kernel
theorem d_In_isDefined_1 : decode prog_5_method_3_code 1 = .ok (.invokestatic 16, 3) := by decide +kernel
theorem d_In_isDefined_4 : decode prog_5_method_3_code 4 = .ok (.iconst (-1), 1) := by decide +kernel
theorem d_In_isDefined_5 : decode prog_5_method_3_code 5 = .ok (.if_icmp .eq 7, 3) := by decide +kernel
theorem d_In_isDefined_8 : decode prog_5_method_3_code 8 = .ok (.iconst 1, 1) := by decide +kernel
theorem d_In_isDefined_9 : decode prog_5_method_3_code 9 = .ok (.goto 4, 3) := by decide +kernel
theorem d_In_isDefined_12 : decode prog_5_method_3_code 12 = .ok (.iconst 0, 1) := by decide +kernel
theorem d_In_isDefined_13 : decode prog_5_method_3_code 13 = .ok (.ireturn, 1) := by decide +kernel
def rm_c_I_isDefined : Room := { frames := 1, cells := 0, slots := 0, locals := 20 }
set_option maxHeartbeats 4000000 in
set_option maxRecDepth 100000 in
theorem c_I_isDefined (l : Launch) (E : kE) (o : Nat) (ho : o < 256) : Kp l y_In_isDefined (kW y_In_isDefined prog_5_method_3_code 1 (some .boolean)) rm_c_I_isDefined E [.int (nI o)] [] (fun r => r = kb (m_known o)) := by
  refine Kp.ofZ (cc := prog_5_method_3_code) (maxL := 1) (by decide) (Nat.le_of_ble_eq_true rfl) ?_
  intro p e s m args below meth c A ls Q hx hb hts hown hml hK hG hA hP hD hS hl hret
  have hl : lv_has ls 1 [(0, .int (nI o))] := hl
  refine lv_iload_n hx hb d_In_isDefined_0 rfl (lv_at hl 0 rfl) ?_
  refine k_Sp (As := [.int (nI o)]) (rest := []) ⟨hx, hb, hml, hown, hts⟩ (c_I_wordsNeeded l E o ho) (k_cwS 1 hts t_358 t_359 t_72 t_360 (by decide +kernel) ⟨Nat.le_of_ble_eq_true rfl, Nat.le_of_ble_eq_true rfl⟩) hK hG hA hP hD hS [] rfl (by decide) rfl hl.1 rfl (Nat.le_of_ble_eq_true rfl) d_In_isDefined_1 ⟨Nat.zero_le _, Nat.zero_le _⟩ (fun r1 hu1 => ?_)
  subst hu1
  refine lv_iconst (v := -1) hx hb d_In_isDefined_4 (by decide) ?_
  refine lv_icmp_eq (tgt := 12) hx hb d_In_isDefined_5 (by decide) (fun h5 => ?_) (fun h5 => ?_)
  · refine lv_iconst (v := nI 0) hx hb d_In_isDefined_12 (by decide) ?_
    first | exact hret _ ls _ d_In_isDefined_13 (by decide) (by rw [(nd_m1 o ho).mp h5]; rfl) | exact hret _ ls _ d_In_isDefined_13 (by decide) (by rw [ts_nf (fun q => h5 ((nd_m1 o ho).mpr q))]; rfl)
  · refine lv_iconst (v := nI 1) hx hb d_In_isDefined_8 (by decide) ?_
    refine lv_goto (tgt := 13) hx hb d_In_isDefined_9 (by decide) ?_
    first | exact hret _ ls _ d_In_isDefined_13 (by decide) (by rw [(nd_m1 o ho).mp h5]; rfl) | exact hret _ ls _ d_In_isDefined_13 (by decide) (by rw [ts_nf (fun q => h5 ((nd_m1 o ho).mpr q))]; rfl)

abbrev y_In_wordsLeft : MethodName := ⟨"WideStack$Instructions", "wordsLeft", "(I)I"⟩
theorem d_In_wordsLeft_0 : decode prog_5_method_4_code 0 = .ok (.iload_n 0, 1) := by decide +kernel
theorem d_In_wordsLeft_1 : decode prog_5_method_4_code 1 = .ok (.ifCond .le 11, 3) := by decide +kernel
theorem d_In_wordsLeft_4 : decode prog_5_method_4_code 4 = .ok (.iload_n 0, 1) := by decide +kernel
theorem d_In_wordsLeft_5 : decode prog_5_method_4_code 5 = .ok (.bipush 32, 2) := by decide +kernel
theorem d_In_wordsLeft_7 : decode prog_5_method_4_code 7 = .ok (.if_icmp .ge 5, 3) := by decide +kernel
theorem d_In_wordsLeft_10 : decode prog_5_method_4_code 10 = .ok (.iconst 1, 1) := by decide +kernel
theorem d_In_wordsLeft_11 : decode prog_5_method_4_code 11 = .ok (.ireturn, 1) := by decide +kernel
theorem d_In_wordsLeft_12 : decode prog_5_method_4_code 12 = .ok (.iload_n 0, 1) := by decide +kernel
theorem d_In_wordsLeft_13 : decode prog_5_method_4_code 13 = .ok (.bipush 96, 2) := by decide +kernel
theorem d_In_wordsLeft_15 : decode prog_5_method_4_code 15 = .ok (.if_icmp .lt 12, 3) := by decide +kernel
theorem d_In_wordsLeft_18 : decode prog_5_method_4_code 18 = .ok (.iload_n 0, 1) := by decide +kernel
theorem d_In_wordsLeft_19 : decode prog_5_method_4_code 19 = .ok (.sipush 128, 3) := by decide +kernel
theorem d_In_wordsLeft_22 : decode prog_5_method_4_code 22 = .ok (.if_icmp .ge 5, 3) := by decide +kernel
theorem d_In_wordsLeft_25 : decode prog_5_method_4_code 25 = .ok (.iconst 1, 1) := by decide +kernel
theorem d_In_wordsLeft_26 : decode prog_5_method_4_code 26 = .ok (.ireturn, 1) := by decide +kernel
theorem d_In_wordsLeft_27 : decode prog_5_method_4_code 27 = .ok (.iload_n 0, 1) := by decide +kernel
theorem d_In_wordsLeft_28 : decode prog_5_method_4_code 28 = .ok (.sipush 128, 3) := by decide +kernel
theorem d_In_wordsLeft_31 : decode prog_5_method_4_code 31 = .ok (.if_icmp .lt 17, 3) := by decide +kernel
theorem d_In_wordsLeft_34 : decode prog_5_method_4_code 34 = .ok (.iload_n 0, 1) := by decide +kernel
theorem d_In_wordsLeft_35 : decode prog_5_method_4_code 35 = .ok (.sipush 144, 3) := by decide +kernel
theorem d_In_wordsLeft_38 : decode prog_5_method_4_code 38 = .ok (.if_icmp .ge 10, 3) := by decide +kernel
theorem d_In_wordsLeft_41 : decode prog_5_method_4_code 41 = .ok (.iload_n 0, 1) := by decide +kernel
theorem d_In_wordsLeft_42 : decode prog_5_method_4_code 42 = .ok (.invokestatic 16, 3) := by decide +kernel
theorem d_In_wordsLeft_45 : decode prog_5_method_4_code 45 = .ok (.iconst 1, 1) := by decide +kernel
theorem d_In_wordsLeft_46 : decode prog_5_method_4_code 46 = .ok (.iadd, 1) := by decide +kernel
theorem d_In_wordsLeft_47 : decode prog_5_method_4_code 47 = .ok (.ireturn, 1) := by decide +kernel
theorem d_In_wordsLeft_48 : decode prog_5_method_4_code 48 = .ok (.iload_n 0, 1) := by decide +kernel
theorem d_In_wordsLeft_49 : decode prog_5_method_4_code 49 = .ok (.sipush 144, 3) := by decide +kernel
theorem d_In_wordsLeft_52 : decode prog_5_method_4_code 52 = .ok (.if_icmp .lt 15, 3) := by decide +kernel
theorem d_In_wordsLeft_55 : decode prog_5_method_4_code 55 = .ok (.iload_n 0, 1) := by decide +kernel
theorem d_In_wordsLeft_56 : decode prog_5_method_4_code 56 = .ok (.sipush 160, 3) := by decide +kernel
theorem d_In_wordsLeft_59 : decode prog_5_method_4_code 59 = .ok (.if_icmp .ge 8, 3) := by decide +kernel
theorem d_In_wordsLeft_62 : decode prog_5_method_4_code 62 = .ok (.iload_n 0, 1) := by decide +kernel
theorem d_In_wordsLeft_63 : decode prog_5_method_4_code 63 = .ok (.invokestatic 16, 3) := by decide +kernel
theorem d_In_wordsLeft_66 : decode prog_5_method_4_code 66 = .ok (.ireturn, 1) := by decide +kernel
theorem d_In_wordsLeft_67 : decode prog_5_method_4_code 67 = .ok (.iload_n 0, 1) := by decide +kernel
theorem d_In_wordsLeft_68 : decode prog_5_method_4_code 68 = .ok (.bipush 81, 2) := by decide +kernel
theorem d_In_wordsLeft_70 : decode prog_5_method_4_code 70 = .ok (.if_icmp .eq 21, 3) := by decide +kernel
theorem d_In_wordsLeft_73 : decode prog_5_method_4_code 73 = .ok (.iload_n 0, 1) := by decide +kernel
theorem d_In_wordsLeft_74 : decode prog_5_method_4_code 74 = .ok (.bipush 88, 2) := by decide +kernel
theorem d_In_wordsLeft_76 : decode prog_5_method_4_code 76 = .ok (.if_icmp .eq 15, 3) := by decide +kernel
theorem d_In_wordsLeft_79 : decode prog_5_method_4_code 79 = .ok (.iload_n 0, 1) := by decide +kernel
theorem d_In_wordsLeft_80 : decode prog_5_method_4_code 80 = .ok (.bipush 89, 2) := by decide +kernel
theorem d_In_wordsLeft_82 : decode prog_5_method_4_code 82 = .ok (.if_icmp .eq 9, 3) := by decide +kernel
theorem d_In_wordsLeft_85 : decode prog_5_method_4_code 85 = .ok (.iload_n 0, 1) := by decide +kernel
theorem d_In_wordsLeft_86 : decode prog_5_method_4_code 86 = .ok (.bipush 90, 2) := by decide +kernel
theorem d_In_wordsLeft_88 : decode prog_5_method_4_code 88 = .ok (.if_icmp .ne 7, 3) := by decide +kernel
theorem d_In_wordsLeft_91 : decode prog_5_method_4_code 91 = .ok (.iconst 1, 1) := by decide +kernel
theorem d_In_wordsLeft_92 : decode prog_5_method_4_code 92 = .ok (.goto 4, 3) := by decide +kernel
theorem d_In_wordsLeft_95 : decode prog_5_method_4_code 95 = .ok (.iconst 0, 1) := by decide +kernel
theorem d_In_wordsLeft_96 : decode prog_5_method_4_code 96 = .ok (.ireturn, 1) := by decide +kernel
def rm_c_I_wordsLeft : Room := { frames := 1, cells := 0, slots := 0, locals := 20 }
set_option maxHeartbeats 4000000 in
set_option maxRecDepth 100000 in
theorem c_I_wordsLeft (l : Launch) (E : kE) (o : Nat) (ho : o < 256) (hk : m_known o = true) : Kp l y_In_wordsLeft (kW y_In_wordsLeft prog_5_method_4_code 1 (some .int)) rm_c_I_wordsLeft E [.int (nI o)] [] (fun r => r = nI (m_gives o)) := by
  refine Kp.ofI (cc := prog_5_method_4_code) (maxL := 1) (by decide) (Nat.le_of_ble_eq_true rfl) ?_
  intro p e s m args below meth c A ls Q hx hb hts hown hml hK hG hA hP hD hS hl hret
  have hl : lv_has ls 1 [(0, .int (nI o))] := hl
  refine lv_iload_n hx hb d_In_wordsLeft_0 rfl (lv_at hl 0 rfl) ?_
  refine kn_ifle (tgt := 12) hx hb (by omega) d_In_wordsLeft_1 (by decide) (fun h1 => ?_) (fun h1 => ?_)
  · refine lv_iload_n hx hb d_In_wordsLeft_12 rfl (lv_at hl 0 rfl) ?_
    refine lv_bipush (v := nI 96) hx hb d_In_wordsLeft_13 (by decide) ?_
    refine kn_lt (tgt := 27) hx hb (by omega) (by omega) d_In_wordsLeft_15 (by decide) (fun h15 => ?_) (fun h15 => ?_)
    · refine lv_iload_n hx hb d_In_wordsLeft_27 rfl (lv_at hl 0 rfl) ?_
      refine lv_sipush (v := nI 128) hx hb d_In_wordsLeft_28 (by decide) ?_
      refine kn_lt (tgt := 48) hx hb (by omega) (by omega) d_In_wordsLeft_31 (by decide) (fun h31 => ?_) (fun h31 => ?_)
      · refine lv_iload_n hx hb d_In_wordsLeft_48 rfl (lv_at hl 0 rfl) ?_
        refine lv_sipush (v := nI 144) hx hb d_In_wordsLeft_49 (by decide) ?_
        refine kn_lt (tgt := 67) hx hb (by omega) (by omega) d_In_wordsLeft_52 (by decide) (fun h52 => ?_) (fun h52 => ?_)
        · refine lv_iload_n hx hb d_In_wordsLeft_67 rfl (lv_at hl 0 rfl) ?_
          refine lv_bipush (v := nI 81) hx hb d_In_wordsLeft_68 (by decide) ?_
          refine kn_eq (tgt := 91) hx hb (by omega) (by omega) d_In_wordsLeft_70 (by decide) (fun h70 => ?_) (fun h70 => ?_)
          · refine lv_iconst (v := nI 1) hx hb d_In_wordsLeft_91 (by decide) ?_
            refine lv_goto (tgt := 96) hx hb d_In_wordsLeft_92 (by decide) ?_
            first | exact hret _ ls _ d_In_wordsLeft_96 (gv5 o ho hk (by omega)) | exact hret _ ls _ d_In_wordsLeft_96 (gv6 o ho hk (by omega))
          · refine lv_iload_n hx hb d_In_wordsLeft_73 rfl (lv_at hl 0 rfl) ?_
            refine lv_bipush (v := nI 88) hx hb d_In_wordsLeft_74 (by decide) ?_
            refine kn_eq (tgt := 91) hx hb (by omega) (by omega) d_In_wordsLeft_76 (by decide) (fun h76 => ?_) (fun h76 => ?_)
            · refine lv_iconst (v := nI 1) hx hb d_In_wordsLeft_91 (by decide) ?_
              refine lv_goto (tgt := 96) hx hb d_In_wordsLeft_92 (by decide) ?_
              first | exact hret _ ls _ d_In_wordsLeft_96 (gv5 o ho hk (by omega)) | exact hret _ ls _ d_In_wordsLeft_96 (gv6 o ho hk (by omega))
            · refine lv_iload_n hx hb d_In_wordsLeft_79 rfl (lv_at hl 0 rfl) ?_
              refine lv_bipush (v := nI 89) hx hb d_In_wordsLeft_80 (by decide) ?_
              refine kn_eq (tgt := 91) hx hb (by omega) (by omega) d_In_wordsLeft_82 (by decide) (fun h82 => ?_) (fun h82 => ?_)
              · refine lv_iconst (v := nI 1) hx hb d_In_wordsLeft_91 (by decide) ?_
                refine lv_goto (tgt := 96) hx hb d_In_wordsLeft_92 (by decide) ?_
                first | exact hret _ ls _ d_In_wordsLeft_96 (gv5 o ho hk (by omega)) | exact hret _ ls _ d_In_wordsLeft_96 (gv6 o ho hk (by omega))
              · refine lv_iload_n hx hb d_In_wordsLeft_85 rfl (lv_at hl 0 rfl) ?_
                refine lv_bipush (v := nI 90) hx hb d_In_wordsLeft_86 (by decide) ?_
                refine kn_ne (tgt := 95) hx hb (by omega) (by omega) d_In_wordsLeft_88 (by decide) (fun h88 => ?_) (fun h88 => ?_)
                · refine lv_iconst (v := nI 0) hx hb d_In_wordsLeft_95 (by decide) ?_
                  first | exact hret _ ls _ d_In_wordsLeft_96 (gv5 o ho hk (by omega)) | exact hret _ ls _ d_In_wordsLeft_96 (gv6 o ho hk (by omega))
                · refine lv_iconst (v := nI 1) hx hb d_In_wordsLeft_91 (by decide) ?_
                  refine lv_goto (tgt := 96) hx hb d_In_wordsLeft_92 (by decide) ?_
                  first | exact hret _ ls _ d_In_wordsLeft_96 (gv5 o ho hk (by omega)) | exact hret _ ls _ d_In_wordsLeft_96 (gv6 o ho hk (by omega))
        · refine lv_iload_n hx hb d_In_wordsLeft_55 rfl (lv_at hl 0 rfl) ?_
          refine lv_sipush (v := nI 160) hx hb d_In_wordsLeft_56 (by decide) ?_
          refine kn_ge (tgt := 67) hx hb (by omega) (by omega) d_In_wordsLeft_59 (by decide) (fun h59 => ?_) (fun h59 => ?_)
          · refine lv_iload_n hx hb d_In_wordsLeft_67 rfl (lv_at hl 0 rfl) ?_
            refine lv_bipush (v := nI 81) hx hb d_In_wordsLeft_68 (by decide) ?_
            refine kn_eq (tgt := 91) hx hb (by omega) (by omega) d_In_wordsLeft_70 (by decide) (fun h70 => ?_) (fun h70 => ?_)
            · refine lv_iconst (v := nI 1) hx hb d_In_wordsLeft_91 (by decide) ?_
              refine lv_goto (tgt := 96) hx hb d_In_wordsLeft_92 (by decide) ?_
              first | exact hret _ ls _ d_In_wordsLeft_96 (gv5 o ho hk (by omega)) | exact hret _ ls _ d_In_wordsLeft_96 (gv6 o ho hk (by omega))
            · refine lv_iload_n hx hb d_In_wordsLeft_73 rfl (lv_at hl 0 rfl) ?_
              refine lv_bipush (v := nI 88) hx hb d_In_wordsLeft_74 (by decide) ?_
              refine kn_eq (tgt := 91) hx hb (by omega) (by omega) d_In_wordsLeft_76 (by decide) (fun h76 => ?_) (fun h76 => ?_)
              · refine lv_iconst (v := nI 1) hx hb d_In_wordsLeft_91 (by decide) ?_
                refine lv_goto (tgt := 96) hx hb d_In_wordsLeft_92 (by decide) ?_
                first | exact hret _ ls _ d_In_wordsLeft_96 (gv5 o ho hk (by omega)) | exact hret _ ls _ d_In_wordsLeft_96 (gv6 o ho hk (by omega))
              · refine lv_iload_n hx hb d_In_wordsLeft_79 rfl (lv_at hl 0 rfl) ?_
                refine lv_bipush (v := nI 89) hx hb d_In_wordsLeft_80 (by decide) ?_
                refine kn_eq (tgt := 91) hx hb (by omega) (by omega) d_In_wordsLeft_82 (by decide) (fun h82 => ?_) (fun h82 => ?_)
                · refine lv_iconst (v := nI 1) hx hb d_In_wordsLeft_91 (by decide) ?_
                  refine lv_goto (tgt := 96) hx hb d_In_wordsLeft_92 (by decide) ?_
                  first | exact hret _ ls _ d_In_wordsLeft_96 (gv5 o ho hk (by omega)) | exact hret _ ls _ d_In_wordsLeft_96 (gv6 o ho hk (by omega))
                · refine lv_iload_n hx hb d_In_wordsLeft_85 rfl (lv_at hl 0 rfl) ?_
                  refine lv_bipush (v := nI 90) hx hb d_In_wordsLeft_86 (by decide) ?_
                  refine kn_ne (tgt := 95) hx hb (by omega) (by omega) d_In_wordsLeft_88 (by decide) (fun h88 => ?_) (fun h88 => ?_)
                  · refine lv_iconst (v := nI 0) hx hb d_In_wordsLeft_95 (by decide) ?_
                    first | exact hret _ ls _ d_In_wordsLeft_96 (gv5 o ho hk (by omega)) | exact hret _ ls _ d_In_wordsLeft_96 (gv6 o ho hk (by omega))
                  · refine lv_iconst (v := nI 1) hx hb d_In_wordsLeft_91 (by decide) ?_
                    refine lv_goto (tgt := 96) hx hb d_In_wordsLeft_92 (by decide) ?_
                    first | exact hret _ ls _ d_In_wordsLeft_96 (gv5 o ho hk (by omega)) | exact hret _ ls _ d_In_wordsLeft_96 (gv6 o ho hk (by omega))
          · refine lv_iload_n hx hb d_In_wordsLeft_62 rfl (lv_at hl 0 rfl) ?_
            refine k_Sp (As := [.int (nI o)]) (rest := []) ⟨hx, hb, hml, hown, hts⟩ (c_I_wordsNeeded l E o ho) (k_cwS 1 hts t_358 t_359 t_72 t_360 (by decide +kernel) ⟨Nat.le_of_ble_eq_true rfl, Nat.le_of_ble_eq_true rfl⟩) hK hG hA hP hD hS [] rfl (by decide) rfl hl.1 rfl (Nat.le_of_ble_eq_true rfl) d_In_wordsLeft_63 ⟨Nat.zero_le _, Nat.zero_le _⟩ (fun r63 hu63 => ?_)
            have hu63 := hu63.trans (m_need_k hk)
            subst hu63
            exact hret _ ls _ d_In_wordsLeft_66 (gv4 o ho hk (by omega))
      · refine lv_iload_n hx hb d_In_wordsLeft_34 rfl (lv_at hl 0 rfl) ?_
        refine lv_sipush (v := nI 144) hx hb d_In_wordsLeft_35 (by decide) ?_
        refine kn_ge (tgt := 48) hx hb (by omega) (by omega) d_In_wordsLeft_38 (by decide) (fun h38 => ?_) (fun h38 => ?_)
        · refine lv_iload_n hx hb d_In_wordsLeft_48 rfl (lv_at hl 0 rfl) ?_
          refine lv_sipush (v := nI 144) hx hb d_In_wordsLeft_49 (by decide) ?_
          refine kn_lt (tgt := 67) hx hb (by omega) (by omega) d_In_wordsLeft_52 (by decide) (fun h52 => ?_) (fun h52 => ?_)
          · refine lv_iload_n hx hb d_In_wordsLeft_67 rfl (lv_at hl 0 rfl) ?_
            refine lv_bipush (v := nI 81) hx hb d_In_wordsLeft_68 (by decide) ?_
            refine kn_eq (tgt := 91) hx hb (by omega) (by omega) d_In_wordsLeft_70 (by decide) (fun h70 => ?_) (fun h70 => ?_)
            · refine lv_iconst (v := nI 1) hx hb d_In_wordsLeft_91 (by decide) ?_
              refine lv_goto (tgt := 96) hx hb d_In_wordsLeft_92 (by decide) ?_
              first | exact hret _ ls _ d_In_wordsLeft_96 (gv5 o ho hk (by omega)) | exact hret _ ls _ d_In_wordsLeft_96 (gv6 o ho hk (by omega))
            · refine lv_iload_n hx hb d_In_wordsLeft_73 rfl (lv_at hl 0 rfl) ?_
              refine lv_bipush (v := nI 88) hx hb d_In_wordsLeft_74 (by decide) ?_
              refine kn_eq (tgt := 91) hx hb (by omega) (by omega) d_In_wordsLeft_76 (by decide) (fun h76 => ?_) (fun h76 => ?_)
              · refine lv_iconst (v := nI 1) hx hb d_In_wordsLeft_91 (by decide) ?_
                refine lv_goto (tgt := 96) hx hb d_In_wordsLeft_92 (by decide) ?_
                first | exact hret _ ls _ d_In_wordsLeft_96 (gv5 o ho hk (by omega)) | exact hret _ ls _ d_In_wordsLeft_96 (gv6 o ho hk (by omega))
              · refine lv_iload_n hx hb d_In_wordsLeft_79 rfl (lv_at hl 0 rfl) ?_
                refine lv_bipush (v := nI 89) hx hb d_In_wordsLeft_80 (by decide) ?_
                refine kn_eq (tgt := 91) hx hb (by omega) (by omega) d_In_wordsLeft_82 (by decide) (fun h82 => ?_) (fun h82 => ?_)
                · refine lv_iconst (v := nI 1) hx hb d_In_wordsLeft_91 (by decide) ?_
                  refine lv_goto (tgt := 96) hx hb d_In_wordsLeft_92 (by decide) ?_
                  first | exact hret _ ls _ d_In_wordsLeft_96 (gv5 o ho hk (by omega)) | exact hret _ ls _ d_In_wordsLeft_96 (gv6 o ho hk (by omega))
                · refine lv_iload_n hx hb d_In_wordsLeft_85 rfl (lv_at hl 0 rfl) ?_
                  refine lv_bipush (v := nI 90) hx hb d_In_wordsLeft_86 (by decide) ?_
                  refine kn_ne (tgt := 95) hx hb (by omega) (by omega) d_In_wordsLeft_88 (by decide) (fun h88 => ?_) (fun h88 => ?_)
                  · refine lv_iconst (v := nI 0) hx hb d_In_wordsLeft_95 (by decide) ?_
                    first | exact hret _ ls _ d_In_wordsLeft_96 (gv5 o ho hk (by omega)) | exact hret _ ls _ d_In_wordsLeft_96 (gv6 o ho hk (by omega))
                  · refine lv_iconst (v := nI 1) hx hb d_In_wordsLeft_91 (by decide) ?_
                    refine lv_goto (tgt := 96) hx hb d_In_wordsLeft_92 (by decide) ?_
                    first | exact hret _ ls _ d_In_wordsLeft_96 (gv5 o ho hk (by omega)) | exact hret _ ls _ d_In_wordsLeft_96 (gv6 o ho hk (by omega))
          · refine lv_iload_n hx hb d_In_wordsLeft_55 rfl (lv_at hl 0 rfl) ?_
            refine lv_sipush (v := nI 160) hx hb d_In_wordsLeft_56 (by decide) ?_
            refine kn_ge (tgt := 67) hx hb (by omega) (by omega) d_In_wordsLeft_59 (by decide) (fun h59 => ?_) (fun h59 => ?_)
            · refine lv_iload_n hx hb d_In_wordsLeft_67 rfl (lv_at hl 0 rfl) ?_
              refine lv_bipush (v := nI 81) hx hb d_In_wordsLeft_68 (by decide) ?_
              refine kn_eq (tgt := 91) hx hb (by omega) (by omega) d_In_wordsLeft_70 (by decide) (fun h70 => ?_) (fun h70 => ?_)
              · refine lv_iconst (v := nI 1) hx hb d_In_wordsLeft_91 (by decide) ?_
                refine lv_goto (tgt := 96) hx hb d_In_wordsLeft_92 (by decide) ?_
                first | exact hret _ ls _ d_In_wordsLeft_96 (gv5 o ho hk (by omega)) | exact hret _ ls _ d_In_wordsLeft_96 (gv6 o ho hk (by omega))
              · refine lv_iload_n hx hb d_In_wordsLeft_73 rfl (lv_at hl 0 rfl) ?_
                refine lv_bipush (v := nI 88) hx hb d_In_wordsLeft_74 (by decide) ?_
                refine kn_eq (tgt := 91) hx hb (by omega) (by omega) d_In_wordsLeft_76 (by decide) (fun h76 => ?_) (fun h76 => ?_)
                · refine lv_iconst (v := nI 1) hx hb d_In_wordsLeft_91 (by decide) ?_
                  refine lv_goto (tgt := 96) hx hb d_In_wordsLeft_92 (by decide) ?_
                  first | exact hret _ ls _ d_In_wordsLeft_96 (gv5 o ho hk (by omega)) | exact hret _ ls _ d_In_wordsLeft_96 (gv6 o ho hk (by omega))
                · refine lv_iload_n hx hb d_In_wordsLeft_79 rfl (lv_at hl 0 rfl) ?_
                  refine lv_bipush (v := nI 89) hx hb d_In_wordsLeft_80 (by decide) ?_
                  refine kn_eq (tgt := 91) hx hb (by omega) (by omega) d_In_wordsLeft_82 (by decide) (fun h82 => ?_) (fun h82 => ?_)
                  · refine lv_iconst (v := nI 1) hx hb d_In_wordsLeft_91 (by decide) ?_
                    refine lv_goto (tgt := 96) hx hb d_In_wordsLeft_92 (by decide) ?_
                    first | exact hret _ ls _ d_In_wordsLeft_96 (gv5 o ho hk (by omega)) | exact hret _ ls _ d_In_wordsLeft_96 (gv6 o ho hk (by omega))
                  · refine lv_iload_n hx hb d_In_wordsLeft_85 rfl (lv_at hl 0 rfl) ?_
                    refine lv_bipush (v := nI 90) hx hb d_In_wordsLeft_86 (by decide) ?_
                    refine kn_ne (tgt := 95) hx hb (by omega) (by omega) d_In_wordsLeft_88 (by decide) (fun h88 => ?_) (fun h88 => ?_)
                    · refine lv_iconst (v := nI 0) hx hb d_In_wordsLeft_95 (by decide) ?_
                      first | exact hret _ ls _ d_In_wordsLeft_96 (gv5 o ho hk (by omega)) | exact hret _ ls _ d_In_wordsLeft_96 (gv6 o ho hk (by omega))
                    · refine lv_iconst (v := nI 1) hx hb d_In_wordsLeft_91 (by decide) ?_
                      refine lv_goto (tgt := 96) hx hb d_In_wordsLeft_92 (by decide) ?_
                      first | exact hret _ ls _ d_In_wordsLeft_96 (gv5 o ho hk (by omega)) | exact hret _ ls _ d_In_wordsLeft_96 (gv6 o ho hk (by omega))
            · refine lv_iload_n hx hb d_In_wordsLeft_62 rfl (lv_at hl 0 rfl) ?_
              refine k_Sp (As := [.int (nI o)]) (rest := []) ⟨hx, hb, hml, hown, hts⟩ (c_I_wordsNeeded l E o ho) (k_cwS 1 hts t_358 t_359 t_72 t_360 (by decide +kernel) ⟨Nat.le_of_ble_eq_true rfl, Nat.le_of_ble_eq_true rfl⟩) hK hG hA hP hD hS [] rfl (by decide) rfl hl.1 rfl (Nat.le_of_ble_eq_true rfl) d_In_wordsLeft_63 ⟨Nat.zero_le _, Nat.zero_le _⟩ (fun r63 hu63 => ?_)
              have hu63 := hu63.trans (m_need_k hk)
              subst hu63
              exact hret _ ls _ d_In_wordsLeft_66 (gv4 o ho hk (by omega))
        · refine lv_iload_n hx hb d_In_wordsLeft_41 rfl (lv_at hl 0 rfl) ?_
          refine k_Sp (As := [.int (nI o)]) (rest := []) ⟨hx, hb, hml, hown, hts⟩ (c_I_wordsNeeded l E o ho) (k_cwS 1 hts t_358 t_359 t_72 t_360 (by decide +kernel) ⟨Nat.le_of_ble_eq_true rfl, Nat.le_of_ble_eq_true rfl⟩) hK hG hA hP hD hS [] rfl (by decide) rfl hl.1 rfl (Nat.le_of_ble_eq_true rfl) d_In_wordsLeft_42 ⟨Nat.zero_le _, Nat.zero_le _⟩ (fun r42 hu42 => ?_)
          have hu42 := hu42.trans (m_need_k hk)
          subst hu42
          refine lv_iconst (v := nI 1) hx hb d_In_wordsLeft_45 (by decide) ?_
          refine lv_iadd hx hb d_In_wordsLeft_46 ?_
          refine k_top (nI_add _ _) ?_
          exact hret _ ls _ d_In_wordsLeft_47 (gv3 o ho hk (by omega))
    · refine lv_iload_n hx hb d_In_wordsLeft_18 rfl (lv_at hl 0 rfl) ?_
      refine lv_sipush (v := nI 128) hx hb d_In_wordsLeft_19 (by decide) ?_
      refine kn_ge (tgt := 27) hx hb (by omega) (by omega) d_In_wordsLeft_22 (by decide) (fun h22 => ?_) (fun h22 => ?_)
      · refine lv_iload_n hx hb d_In_wordsLeft_27 rfl (lv_at hl 0 rfl) ?_
        refine lv_sipush (v := nI 128) hx hb d_In_wordsLeft_28 (by decide) ?_
        refine kn_lt (tgt := 48) hx hb (by omega) (by omega) d_In_wordsLeft_31 (by decide) (fun h31 => ?_) (fun h31 => ?_)
        · refine lv_iload_n hx hb d_In_wordsLeft_48 rfl (lv_at hl 0 rfl) ?_
          refine lv_sipush (v := nI 144) hx hb d_In_wordsLeft_49 (by decide) ?_
          refine kn_lt (tgt := 67) hx hb (by omega) (by omega) d_In_wordsLeft_52 (by decide) (fun h52 => ?_) (fun h52 => ?_)
          · refine lv_iload_n hx hb d_In_wordsLeft_67 rfl (lv_at hl 0 rfl) ?_
            refine lv_bipush (v := nI 81) hx hb d_In_wordsLeft_68 (by decide) ?_
            refine kn_eq (tgt := 91) hx hb (by omega) (by omega) d_In_wordsLeft_70 (by decide) (fun h70 => ?_) (fun h70 => ?_)
            · refine lv_iconst (v := nI 1) hx hb d_In_wordsLeft_91 (by decide) ?_
              refine lv_goto (tgt := 96) hx hb d_In_wordsLeft_92 (by decide) ?_
              first | exact hret _ ls _ d_In_wordsLeft_96 (gv5 o ho hk (by omega)) | exact hret _ ls _ d_In_wordsLeft_96 (gv6 o ho hk (by omega))
            · refine lv_iload_n hx hb d_In_wordsLeft_73 rfl (lv_at hl 0 rfl) ?_
              refine lv_bipush (v := nI 88) hx hb d_In_wordsLeft_74 (by decide) ?_
              refine kn_eq (tgt := 91) hx hb (by omega) (by omega) d_In_wordsLeft_76 (by decide) (fun h76 => ?_) (fun h76 => ?_)
              · refine lv_iconst (v := nI 1) hx hb d_In_wordsLeft_91 (by decide) ?_
                refine lv_goto (tgt := 96) hx hb d_In_wordsLeft_92 (by decide) ?_
                first | exact hret _ ls _ d_In_wordsLeft_96 (gv5 o ho hk (by omega)) | exact hret _ ls _ d_In_wordsLeft_96 (gv6 o ho hk (by omega))
              · refine lv_iload_n hx hb d_In_wordsLeft_79 rfl (lv_at hl 0 rfl) ?_
                refine lv_bipush (v := nI 89) hx hb d_In_wordsLeft_80 (by decide) ?_
                refine kn_eq (tgt := 91) hx hb (by omega) (by omega) d_In_wordsLeft_82 (by decide) (fun h82 => ?_) (fun h82 => ?_)
                · refine lv_iconst (v := nI 1) hx hb d_In_wordsLeft_91 (by decide) ?_
                  refine lv_goto (tgt := 96) hx hb d_In_wordsLeft_92 (by decide) ?_
                  first | exact hret _ ls _ d_In_wordsLeft_96 (gv5 o ho hk (by omega)) | exact hret _ ls _ d_In_wordsLeft_96 (gv6 o ho hk (by omega))
                · refine lv_iload_n hx hb d_In_wordsLeft_85 rfl (lv_at hl 0 rfl) ?_
                  refine lv_bipush (v := nI 90) hx hb d_In_wordsLeft_86 (by decide) ?_
                  refine kn_ne (tgt := 95) hx hb (by omega) (by omega) d_In_wordsLeft_88 (by decide) (fun h88 => ?_) (fun h88 => ?_)
                  · refine lv_iconst (v := nI 0) hx hb d_In_wordsLeft_95 (by decide) ?_
                    first | exact hret _ ls _ d_In_wordsLeft_96 (gv5 o ho hk (by omega)) | exact hret _ ls _ d_In_wordsLeft_96 (gv6 o ho hk (by omega))
                  · refine lv_iconst (v := nI 1) hx hb d_In_wordsLeft_91 (by decide) ?_
                    refine lv_goto (tgt := 96) hx hb d_In_wordsLeft_92 (by decide) ?_
                    first | exact hret _ ls _ d_In_wordsLeft_96 (gv5 o ho hk (by omega)) | exact hret _ ls _ d_In_wordsLeft_96 (gv6 o ho hk (by omega))
          · refine lv_iload_n hx hb d_In_wordsLeft_55 rfl (lv_at hl 0 rfl) ?_
            refine lv_sipush (v := nI 160) hx hb d_In_wordsLeft_56 (by decide) ?_
            refine kn_ge (tgt := 67) hx hb (by omega) (by omega) d_In_wordsLeft_59 (by decide) (fun h59 => ?_) (fun h59 => ?_)
            · refine lv_iload_n hx hb d_In_wordsLeft_67 rfl (lv_at hl 0 rfl) ?_
              refine lv_bipush (v := nI 81) hx hb d_In_wordsLeft_68 (by decide) ?_
              refine kn_eq (tgt := 91) hx hb (by omega) (by omega) d_In_wordsLeft_70 (by decide) (fun h70 => ?_) (fun h70 => ?_)
              · refine lv_iconst (v := nI 1) hx hb d_In_wordsLeft_91 (by decide) ?_
                refine lv_goto (tgt := 96) hx hb d_In_wordsLeft_92 (by decide) ?_
                first | exact hret _ ls _ d_In_wordsLeft_96 (gv5 o ho hk (by omega)) | exact hret _ ls _ d_In_wordsLeft_96 (gv6 o ho hk (by omega))
              · refine lv_iload_n hx hb d_In_wordsLeft_73 rfl (lv_at hl 0 rfl) ?_
                refine lv_bipush (v := nI 88) hx hb d_In_wordsLeft_74 (by decide) ?_
                refine kn_eq (tgt := 91) hx hb (by omega) (by omega) d_In_wordsLeft_76 (by decide) (fun h76 => ?_) (fun h76 => ?_)
                · refine lv_iconst (v := nI 1) hx hb d_In_wordsLeft_91 (by decide) ?_
                  refine lv_goto (tgt := 96) hx hb d_In_wordsLeft_92 (by decide) ?_
                  first | exact hret _ ls _ d_In_wordsLeft_96 (gv5 o ho hk (by omega)) | exact hret _ ls _ d_In_wordsLeft_96 (gv6 o ho hk (by omega))
                · refine lv_iload_n hx hb d_In_wordsLeft_79 rfl (lv_at hl 0 rfl) ?_
                  refine lv_bipush (v := nI 89) hx hb d_In_wordsLeft_80 (by decide) ?_
                  refine kn_eq (tgt := 91) hx hb (by omega) (by omega) d_In_wordsLeft_82 (by decide) (fun h82 => ?_) (fun h82 => ?_)
                  · refine lv_iconst (v := nI 1) hx hb d_In_wordsLeft_91 (by decide) ?_
                    refine lv_goto (tgt := 96) hx hb d_In_wordsLeft_92 (by decide) ?_
                    first | exact hret _ ls _ d_In_wordsLeft_96 (gv5 o ho hk (by omega)) | exact hret _ ls _ d_In_wordsLeft_96 (gv6 o ho hk (by omega))
                  · refine lv_iload_n hx hb d_In_wordsLeft_85 rfl (lv_at hl 0 rfl) ?_
                    refine lv_bipush (v := nI 90) hx hb d_In_wordsLeft_86 (by decide) ?_
                    refine kn_ne (tgt := 95) hx hb (by omega) (by omega) d_In_wordsLeft_88 (by decide) (fun h88 => ?_) (fun h88 => ?_)
                    · refine lv_iconst (v := nI 0) hx hb d_In_wordsLeft_95 (by decide) ?_
                      first | exact hret _ ls _ d_In_wordsLeft_96 (gv5 o ho hk (by omega)) | exact hret _ ls _ d_In_wordsLeft_96 (gv6 o ho hk (by omega))
                    · refine lv_iconst (v := nI 1) hx hb d_In_wordsLeft_91 (by decide) ?_
                      refine lv_goto (tgt := 96) hx hb d_In_wordsLeft_92 (by decide) ?_
                      first | exact hret _ ls _ d_In_wordsLeft_96 (gv5 o ho hk (by omega)) | exact hret _ ls _ d_In_wordsLeft_96 (gv6 o ho hk (by omega))
            · refine lv_iload_n hx hb d_In_wordsLeft_62 rfl (lv_at hl 0 rfl) ?_
              refine k_Sp (As := [.int (nI o)]) (rest := []) ⟨hx, hb, hml, hown, hts⟩ (c_I_wordsNeeded l E o ho) (k_cwS 1 hts t_358 t_359 t_72 t_360 (by decide +kernel) ⟨Nat.le_of_ble_eq_true rfl, Nat.le_of_ble_eq_true rfl⟩) hK hG hA hP hD hS [] rfl (by decide) rfl hl.1 rfl (Nat.le_of_ble_eq_true rfl) d_In_wordsLeft_63 ⟨Nat.zero_le _, Nat.zero_le _⟩ (fun r63 hu63 => ?_)
              have hu63 := hu63.trans (m_need_k hk)
              subst hu63
              exact hret _ ls _ d_In_wordsLeft_66 (gv4 o ho hk (by omega))
        · refine lv_iload_n hx hb d_In_wordsLeft_34 rfl (lv_at hl 0 rfl) ?_
          refine lv_sipush (v := nI 144) hx hb d_In_wordsLeft_35 (by decide) ?_
          refine kn_ge (tgt := 48) hx hb (by omega) (by omega) d_In_wordsLeft_38 (by decide) (fun h38 => ?_) (fun h38 => ?_)
          · refine lv_iload_n hx hb d_In_wordsLeft_48 rfl (lv_at hl 0 rfl) ?_
            refine lv_sipush (v := nI 144) hx hb d_In_wordsLeft_49 (by decide) ?_
            refine kn_lt (tgt := 67) hx hb (by omega) (by omega) d_In_wordsLeft_52 (by decide) (fun h52 => ?_) (fun h52 => ?_)
            · refine lv_iload_n hx hb d_In_wordsLeft_67 rfl (lv_at hl 0 rfl) ?_
              refine lv_bipush (v := nI 81) hx hb d_In_wordsLeft_68 (by decide) ?_
              refine kn_eq (tgt := 91) hx hb (by omega) (by omega) d_In_wordsLeft_70 (by decide) (fun h70 => ?_) (fun h70 => ?_)
              · refine lv_iconst (v := nI 1) hx hb d_In_wordsLeft_91 (by decide) ?_
                refine lv_goto (tgt := 96) hx hb d_In_wordsLeft_92 (by decide) ?_
                first | exact hret _ ls _ d_In_wordsLeft_96 (gv5 o ho hk (by omega)) | exact hret _ ls _ d_In_wordsLeft_96 (gv6 o ho hk (by omega))
              · refine lv_iload_n hx hb d_In_wordsLeft_73 rfl (lv_at hl 0 rfl) ?_
                refine lv_bipush (v := nI 88) hx hb d_In_wordsLeft_74 (by decide) ?_
                refine kn_eq (tgt := 91) hx hb (by omega) (by omega) d_In_wordsLeft_76 (by decide) (fun h76 => ?_) (fun h76 => ?_)
                · refine lv_iconst (v := nI 1) hx hb d_In_wordsLeft_91 (by decide) ?_
                  refine lv_goto (tgt := 96) hx hb d_In_wordsLeft_92 (by decide) ?_
                  first | exact hret _ ls _ d_In_wordsLeft_96 (gv5 o ho hk (by omega)) | exact hret _ ls _ d_In_wordsLeft_96 (gv6 o ho hk (by omega))
                · refine lv_iload_n hx hb d_In_wordsLeft_79 rfl (lv_at hl 0 rfl) ?_
                  refine lv_bipush (v := nI 89) hx hb d_In_wordsLeft_80 (by decide) ?_
                  refine kn_eq (tgt := 91) hx hb (by omega) (by omega) d_In_wordsLeft_82 (by decide) (fun h82 => ?_) (fun h82 => ?_)
                  · refine lv_iconst (v := nI 1) hx hb d_In_wordsLeft_91 (by decide) ?_
                    refine lv_goto (tgt := 96) hx hb d_In_wordsLeft_92 (by decide) ?_
                    first | exact hret _ ls _ d_In_wordsLeft_96 (gv5 o ho hk (by omega)) | exact hret _ ls _ d_In_wordsLeft_96 (gv6 o ho hk (by omega))
                  · refine lv_iload_n hx hb d_In_wordsLeft_85 rfl (lv_at hl 0 rfl) ?_
                    refine lv_bipush (v := nI 90) hx hb d_In_wordsLeft_86 (by decide) ?_
                    refine kn_ne (tgt := 95) hx hb (by omega) (by omega) d_In_wordsLeft_88 (by decide) (fun h88 => ?_) (fun h88 => ?_)
                    · refine lv_iconst (v := nI 0) hx hb d_In_wordsLeft_95 (by decide) ?_
                      first | exact hret _ ls _ d_In_wordsLeft_96 (gv5 o ho hk (by omega)) | exact hret _ ls _ d_In_wordsLeft_96 (gv6 o ho hk (by omega))
                    · refine lv_iconst (v := nI 1) hx hb d_In_wordsLeft_91 (by decide) ?_
                      refine lv_goto (tgt := 96) hx hb d_In_wordsLeft_92 (by decide) ?_
                      first | exact hret _ ls _ d_In_wordsLeft_96 (gv5 o ho hk (by omega)) | exact hret _ ls _ d_In_wordsLeft_96 (gv6 o ho hk (by omega))
            · refine lv_iload_n hx hb d_In_wordsLeft_55 rfl (lv_at hl 0 rfl) ?_
              refine lv_sipush (v := nI 160) hx hb d_In_wordsLeft_56 (by decide) ?_
              refine kn_ge (tgt := 67) hx hb (by omega) (by omega) d_In_wordsLeft_59 (by decide) (fun h59 => ?_) (fun h59 => ?_)
              · refine lv_iload_n hx hb d_In_wordsLeft_67 rfl (lv_at hl 0 rfl) ?_
                refine lv_bipush (v := nI 81) hx hb d_In_wordsLeft_68 (by decide) ?_
                refine kn_eq (tgt := 91) hx hb (by omega) (by omega) d_In_wordsLeft_70 (by decide) (fun h70 => ?_) (fun h70 => ?_)
                · refine lv_iconst (v := nI 1) hx hb d_In_wordsLeft_91 (by decide) ?_
                  refine lv_goto (tgt := 96) hx hb d_In_wordsLeft_92 (by decide) ?_
                  first | exact hret _ ls _ d_In_wordsLeft_96 (gv5 o ho hk (by omega)) | exact hret _ ls _ d_In_wordsLeft_96 (gv6 o ho hk (by omega))
                · refine lv_iload_n hx hb d_In_wordsLeft_73 rfl (lv_at hl 0 rfl) ?_
                  refine lv_bipush (v := nI 88) hx hb d_In_wordsLeft_74 (by decide) ?_
                  refine kn_eq (tgt := 91) hx hb (by omega) (by omega) d_In_wordsLeft_76 (by decide) (fun h76 => ?_) (fun h76 => ?_)
                  · refine lv_iconst (v := nI 1) hx hb d_In_wordsLeft_91 (by decide) ?_
                    refine lv_goto (tgt := 96) hx hb d_In_wordsLeft_92 (by decide) ?_
                    first | exact hret _ ls _ d_In_wordsLeft_96 (gv5 o ho hk (by omega)) | exact hret _ ls _ d_In_wordsLeft_96 (gv6 o ho hk (by omega))
                  · refine lv_iload_n hx hb d_In_wordsLeft_79 rfl (lv_at hl 0 rfl) ?_
                    refine lv_bipush (v := nI 89) hx hb d_In_wordsLeft_80 (by decide) ?_
                    refine kn_eq (tgt := 91) hx hb (by omega) (by omega) d_In_wordsLeft_82 (by decide) (fun h82 => ?_) (fun h82 => ?_)
                    · refine lv_iconst (v := nI 1) hx hb d_In_wordsLeft_91 (by decide) ?_
                      refine lv_goto (tgt := 96) hx hb d_In_wordsLeft_92 (by decide) ?_
                      first | exact hret _ ls _ d_In_wordsLeft_96 (gv5 o ho hk (by omega)) | exact hret _ ls _ d_In_wordsLeft_96 (gv6 o ho hk (by omega))
                    · refine lv_iload_n hx hb d_In_wordsLeft_85 rfl (lv_at hl 0 rfl) ?_
                      refine lv_bipush (v := nI 90) hx hb d_In_wordsLeft_86 (by decide) ?_
                      refine kn_ne (tgt := 95) hx hb (by omega) (by omega) d_In_wordsLeft_88 (by decide) (fun h88 => ?_) (fun h88 => ?_)
                      · refine lv_iconst (v := nI 0) hx hb d_In_wordsLeft_95 (by decide) ?_
                        first | exact hret _ ls _ d_In_wordsLeft_96 (gv5 o ho hk (by omega)) | exact hret _ ls _ d_In_wordsLeft_96 (gv6 o ho hk (by omega))
                      · refine lv_iconst (v := nI 1) hx hb d_In_wordsLeft_91 (by decide) ?_
                        refine lv_goto (tgt := 96) hx hb d_In_wordsLeft_92 (by decide) ?_
                        first | exact hret _ ls _ d_In_wordsLeft_96 (gv5 o ho hk (by omega)) | exact hret _ ls _ d_In_wordsLeft_96 (gv6 o ho hk (by omega))
              · refine lv_iload_n hx hb d_In_wordsLeft_62 rfl (lv_at hl 0 rfl) ?_
                refine k_Sp (As := [.int (nI o)]) (rest := []) ⟨hx, hb, hml, hown, hts⟩ (c_I_wordsNeeded l E o ho) (k_cwS 1 hts t_358 t_359 t_72 t_360 (by decide +kernel) ⟨Nat.le_of_ble_eq_true rfl, Nat.le_of_ble_eq_true rfl⟩) hK hG hA hP hD hS [] rfl (by decide) rfl hl.1 rfl (Nat.le_of_ble_eq_true rfl) d_In_wordsLeft_63 ⟨Nat.zero_le _, Nat.zero_le _⟩ (fun r63 hu63 => ?_)
                have hu63 := hu63.trans (m_need_k hk)
                subst hu63
                exact hret _ ls _ d_In_wordsLeft_66 (gv4 o ho hk (by omega))
          · refine lv_iload_n hx hb d_In_wordsLeft_41 rfl (lv_at hl 0 rfl) ?_
            refine k_Sp (As := [.int (nI o)]) (rest := []) ⟨hx, hb, hml, hown, hts⟩ (c_I_wordsNeeded l E o ho) (k_cwS 1 hts t_358 t_359 t_72 t_360 (by decide +kernel) ⟨Nat.le_of_ble_eq_true rfl, Nat.le_of_ble_eq_true rfl⟩) hK hG hA hP hD hS [] rfl (by decide) rfl hl.1 rfl (Nat.le_of_ble_eq_true rfl) d_In_wordsLeft_42 ⟨Nat.zero_le _, Nat.zero_le _⟩ (fun r42 hu42 => ?_)
            have hu42 := hu42.trans (m_need_k hk)
            subst hu42
            refine lv_iconst (v := nI 1) hx hb d_In_wordsLeft_45 (by decide) ?_
            refine lv_iadd hx hb d_In_wordsLeft_46 ?_
            refine k_top (nI_add _ _) ?_
            exact hret _ ls _ d_In_wordsLeft_47 (gv3 o ho hk (by omega))
      · refine lv_iconst (v := nI 1) hx hb d_In_wordsLeft_25 (by decide) ?_
        exact hret _ ls _ d_In_wordsLeft_26 (gv2 o ho hk (by omega))
  · refine lv_iload_n hx hb d_In_wordsLeft_4 rfl (lv_at hl 0 rfl) ?_
    refine lv_bipush (v := nI 32) hx hb d_In_wordsLeft_5 (by decide) ?_
    refine kn_ge (tgt := 12) hx hb (by omega) (by omega) d_In_wordsLeft_7 (by decide) (fun h7 => ?_) (fun h7 => ?_)
    · refine lv_iload_n hx hb d_In_wordsLeft_12 rfl (lv_at hl 0 rfl) ?_
      refine lv_bipush (v := nI 96) hx hb d_In_wordsLeft_13 (by decide) ?_
      refine kn_lt (tgt := 27) hx hb (by omega) (by omega) d_In_wordsLeft_15 (by decide) (fun h15 => ?_) (fun h15 => ?_)
      · refine lv_iload_n hx hb d_In_wordsLeft_27 rfl (lv_at hl 0 rfl) ?_
        refine lv_sipush (v := nI 128) hx hb d_In_wordsLeft_28 (by decide) ?_
        refine kn_lt (tgt := 48) hx hb (by omega) (by omega) d_In_wordsLeft_31 (by decide) (fun h31 => ?_) (fun h31 => ?_)
        · refine lv_iload_n hx hb d_In_wordsLeft_48 rfl (lv_at hl 0 rfl) ?_
          refine lv_sipush (v := nI 144) hx hb d_In_wordsLeft_49 (by decide) ?_
          refine kn_lt (tgt := 67) hx hb (by omega) (by omega) d_In_wordsLeft_52 (by decide) (fun h52 => ?_) (fun h52 => ?_)
          · refine lv_iload_n hx hb d_In_wordsLeft_67 rfl (lv_at hl 0 rfl) ?_
            refine lv_bipush (v := nI 81) hx hb d_In_wordsLeft_68 (by decide) ?_
            refine kn_eq (tgt := 91) hx hb (by omega) (by omega) d_In_wordsLeft_70 (by decide) (fun h70 => ?_) (fun h70 => ?_)
            · refine lv_iconst (v := nI 1) hx hb d_In_wordsLeft_91 (by decide) ?_
              refine lv_goto (tgt := 96) hx hb d_In_wordsLeft_92 (by decide) ?_
              first | exact hret _ ls _ d_In_wordsLeft_96 (gv5 o ho hk (by omega)) | exact hret _ ls _ d_In_wordsLeft_96 (gv6 o ho hk (by omega))
            · refine lv_iload_n hx hb d_In_wordsLeft_73 rfl (lv_at hl 0 rfl) ?_
              refine lv_bipush (v := nI 88) hx hb d_In_wordsLeft_74 (by decide) ?_
              refine kn_eq (tgt := 91) hx hb (by omega) (by omega) d_In_wordsLeft_76 (by decide) (fun h76 => ?_) (fun h76 => ?_)
              · refine lv_iconst (v := nI 1) hx hb d_In_wordsLeft_91 (by decide) ?_
                refine lv_goto (tgt := 96) hx hb d_In_wordsLeft_92 (by decide) ?_
                first | exact hret _ ls _ d_In_wordsLeft_96 (gv5 o ho hk (by omega)) | exact hret _ ls _ d_In_wordsLeft_96 (gv6 o ho hk (by omega))
              · refine lv_iload_n hx hb d_In_wordsLeft_79 rfl (lv_at hl 0 rfl) ?_
                refine lv_bipush (v := nI 89) hx hb d_In_wordsLeft_80 (by decide) ?_
                refine kn_eq (tgt := 91) hx hb (by omega) (by omega) d_In_wordsLeft_82 (by decide) (fun h82 => ?_) (fun h82 => ?_)
                · refine lv_iconst (v := nI 1) hx hb d_In_wordsLeft_91 (by decide) ?_
                  refine lv_goto (tgt := 96) hx hb d_In_wordsLeft_92 (by decide) ?_
                  first | exact hret _ ls _ d_In_wordsLeft_96 (gv5 o ho hk (by omega)) | exact hret _ ls _ d_In_wordsLeft_96 (gv6 o ho hk (by omega))
                · refine lv_iload_n hx hb d_In_wordsLeft_85 rfl (lv_at hl 0 rfl) ?_
                  refine lv_bipush (v := nI 90) hx hb d_In_wordsLeft_86 (by decide) ?_
                  refine kn_ne (tgt := 95) hx hb (by omega) (by omega) d_In_wordsLeft_88 (by decide) (fun h88 => ?_) (fun h88 => ?_)
                  · refine lv_iconst (v := nI 0) hx hb d_In_wordsLeft_95 (by decide) ?_
                    first | exact hret _ ls _ d_In_wordsLeft_96 (gv5 o ho hk (by omega)) | exact hret _ ls _ d_In_wordsLeft_96 (gv6 o ho hk (by omega))
                  · refine lv_iconst (v := nI 1) hx hb d_In_wordsLeft_91 (by decide) ?_
                    refine lv_goto (tgt := 96) hx hb d_In_wordsLeft_92 (by decide) ?_
                    first | exact hret _ ls _ d_In_wordsLeft_96 (gv5 o ho hk (by omega)) | exact hret _ ls _ d_In_wordsLeft_96 (gv6 o ho hk (by omega))
          · refine lv_iload_n hx hb d_In_wordsLeft_55 rfl (lv_at hl 0 rfl) ?_
            refine lv_sipush (v := nI 160) hx hb d_In_wordsLeft_56 (by decide) ?_
            refine kn_ge (tgt := 67) hx hb (by omega) (by omega) d_In_wordsLeft_59 (by decide) (fun h59 => ?_) (fun h59 => ?_)
            · refine lv_iload_n hx hb d_In_wordsLeft_67 rfl (lv_at hl 0 rfl) ?_
              refine lv_bipush (v := nI 81) hx hb d_In_wordsLeft_68 (by decide) ?_
              refine kn_eq (tgt := 91) hx hb (by omega) (by omega) d_In_wordsLeft_70 (by decide) (fun h70 => ?_) (fun h70 => ?_)
              · refine lv_iconst (v := nI 1) hx hb d_In_wordsLeft_91 (by decide) ?_
                refine lv_goto (tgt := 96) hx hb d_In_wordsLeft_92 (by decide) ?_
                first | exact hret _ ls _ d_In_wordsLeft_96 (gv5 o ho hk (by omega)) | exact hret _ ls _ d_In_wordsLeft_96 (gv6 o ho hk (by omega))
              · refine lv_iload_n hx hb d_In_wordsLeft_73 rfl (lv_at hl 0 rfl) ?_
                refine lv_bipush (v := nI 88) hx hb d_In_wordsLeft_74 (by decide) ?_
                refine kn_eq (tgt := 91) hx hb (by omega) (by omega) d_In_wordsLeft_76 (by decide) (fun h76 => ?_) (fun h76 => ?_)
                · refine lv_iconst (v := nI 1) hx hb d_In_wordsLeft_91 (by decide) ?_
                  refine lv_goto (tgt := 96) hx hb d_In_wordsLeft_92 (by decide) ?_
                  first | exact hret _ ls _ d_In_wordsLeft_96 (gv5 o ho hk (by omega)) | exact hret _ ls _ d_In_wordsLeft_96 (gv6 o ho hk (by omega))
                · refine lv_iload_n hx hb d_In_wordsLeft_79 rfl (lv_at hl 0 rfl) ?_
                  refine lv_bipush (v := nI 89) hx hb d_In_wordsLeft_80 (by decide) ?_
                  refine kn_eq (tgt := 91) hx hb (by omega) (by omega) d_In_wordsLeft_82 (by decide) (fun h82 => ?_) (fun h82 => ?_)
                  · refine lv_iconst (v := nI 1) hx hb d_In_wordsLeft_91 (by decide) ?_
                    refine lv_goto (tgt := 96) hx hb d_In_wordsLeft_92 (by decide) ?_
                    first | exact hret _ ls _ d_In_wordsLeft_96 (gv5 o ho hk (by omega)) | exact hret _ ls _ d_In_wordsLeft_96 (gv6 o ho hk (by omega))
                  · refine lv_iload_n hx hb d_In_wordsLeft_85 rfl (lv_at hl 0 rfl) ?_
                    refine lv_bipush (v := nI 90) hx hb d_In_wordsLeft_86 (by decide) ?_
                    refine kn_ne (tgt := 95) hx hb (by omega) (by omega) d_In_wordsLeft_88 (by decide) (fun h88 => ?_) (fun h88 => ?_)
                    · refine lv_iconst (v := nI 0) hx hb d_In_wordsLeft_95 (by decide) ?_
                      first | exact hret _ ls _ d_In_wordsLeft_96 (gv5 o ho hk (by omega)) | exact hret _ ls _ d_In_wordsLeft_96 (gv6 o ho hk (by omega))
                    · refine lv_iconst (v := nI 1) hx hb d_In_wordsLeft_91 (by decide) ?_
                      refine lv_goto (tgt := 96) hx hb d_In_wordsLeft_92 (by decide) ?_
                      first | exact hret _ ls _ d_In_wordsLeft_96 (gv5 o ho hk (by omega)) | exact hret _ ls _ d_In_wordsLeft_96 (gv6 o ho hk (by omega))
            · refine lv_iload_n hx hb d_In_wordsLeft_62 rfl (lv_at hl 0 rfl) ?_
              refine k_Sp (As := [.int (nI o)]) (rest := []) ⟨hx, hb, hml, hown, hts⟩ (c_I_wordsNeeded l E o ho) (k_cwS 1 hts t_358 t_359 t_72 t_360 (by decide +kernel) ⟨Nat.le_of_ble_eq_true rfl, Nat.le_of_ble_eq_true rfl⟩) hK hG hA hP hD hS [] rfl (by decide) rfl hl.1 rfl (Nat.le_of_ble_eq_true rfl) d_In_wordsLeft_63 ⟨Nat.zero_le _, Nat.zero_le _⟩ (fun r63 hu63 => ?_)
              have hu63 := hu63.trans (m_need_k hk)
              subst hu63
              exact hret _ ls _ d_In_wordsLeft_66 (gv4 o ho hk (by omega))
        · refine lv_iload_n hx hb d_In_wordsLeft_34 rfl (lv_at hl 0 rfl) ?_
          refine lv_sipush (v := nI 144) hx hb d_In_wordsLeft_35 (by decide) ?_
          refine kn_ge (tgt := 48) hx hb (by omega) (by omega) d_In_wordsLeft_38 (by decide) (fun h38 => ?_) (fun h38 => ?_)
          · refine lv_iload_n hx hb d_In_wordsLeft_48 rfl (lv_at hl 0 rfl) ?_
            refine lv_sipush (v := nI 144) hx hb d_In_wordsLeft_49 (by decide) ?_
            refine kn_lt (tgt := 67) hx hb (by omega) (by omega) d_In_wordsLeft_52 (by decide) (fun h52 => ?_) (fun h52 => ?_)
            · refine lv_iload_n hx hb d_In_wordsLeft_67 rfl (lv_at hl 0 rfl) ?_
              refine lv_bipush (v := nI 81) hx hb d_In_wordsLeft_68 (by decide) ?_
              refine kn_eq (tgt := 91) hx hb (by omega) (by omega) d_In_wordsLeft_70 (by decide) (fun h70 => ?_) (fun h70 => ?_)
              · refine lv_iconst (v := nI 1) hx hb d_In_wordsLeft_91 (by decide) ?_
                refine lv_goto (tgt := 96) hx hb d_In_wordsLeft_92 (by decide) ?_
                first | exact hret _ ls _ d_In_wordsLeft_96 (gv5 o ho hk (by omega)) | exact hret _ ls _ d_In_wordsLeft_96 (gv6 o ho hk (by omega))
              · refine lv_iload_n hx hb d_In_wordsLeft_73 rfl (lv_at hl 0 rfl) ?_
                refine lv_bipush (v := nI 88) hx hb d_In_wordsLeft_74 (by decide) ?_
                refine kn_eq (tgt := 91) hx hb (by omega) (by omega) d_In_wordsLeft_76 (by decide) (fun h76 => ?_) (fun h76 => ?_)
                · refine lv_iconst (v := nI 1) hx hb d_In_wordsLeft_91 (by decide) ?_
                  refine lv_goto (tgt := 96) hx hb d_In_wordsLeft_92 (by decide) ?_
                  first | exact hret _ ls _ d_In_wordsLeft_96 (gv5 o ho hk (by omega)) | exact hret _ ls _ d_In_wordsLeft_96 (gv6 o ho hk (by omega))
                · refine lv_iload_n hx hb d_In_wordsLeft_79 rfl (lv_at hl 0 rfl) ?_
                  refine lv_bipush (v := nI 89) hx hb d_In_wordsLeft_80 (by decide) ?_
                  refine kn_eq (tgt := 91) hx hb (by omega) (by omega) d_In_wordsLeft_82 (by decide) (fun h82 => ?_) (fun h82 => ?_)
                  · refine lv_iconst (v := nI 1) hx hb d_In_wordsLeft_91 (by decide) ?_
                    refine lv_goto (tgt := 96) hx hb d_In_wordsLeft_92 (by decide) ?_
                    first | exact hret _ ls _ d_In_wordsLeft_96 (gv5 o ho hk (by omega)) | exact hret _ ls _ d_In_wordsLeft_96 (gv6 o ho hk (by omega))
                  · refine lv_iload_n hx hb d_In_wordsLeft_85 rfl (lv_at hl 0 rfl) ?_
                    refine lv_bipush (v := nI 90) hx hb d_In_wordsLeft_86 (by decide) ?_
                    refine kn_ne (tgt := 95) hx hb (by omega) (by omega) d_In_wordsLeft_88 (by decide) (fun h88 => ?_) (fun h88 => ?_)
                    · refine lv_iconst (v := nI 0) hx hb d_In_wordsLeft_95 (by decide) ?_
                      first | exact hret _ ls _ d_In_wordsLeft_96 (gv5 o ho hk (by omega)) | exact hret _ ls _ d_In_wordsLeft_96 (gv6 o ho hk (by omega))
                    · refine lv_iconst (v := nI 1) hx hb d_In_wordsLeft_91 (by decide) ?_
                      refine lv_goto (tgt := 96) hx hb d_In_wordsLeft_92 (by decide) ?_
                      first | exact hret _ ls _ d_In_wordsLeft_96 (gv5 o ho hk (by omega)) | exact hret _ ls _ d_In_wordsLeft_96 (gv6 o ho hk (by omega))
            · refine lv_iload_n hx hb d_In_wordsLeft_55 rfl (lv_at hl 0 rfl) ?_
              refine lv_sipush (v := nI 160) hx hb d_In_wordsLeft_56 (by decide) ?_
              refine kn_ge (tgt := 67) hx hb (by omega) (by omega) d_In_wordsLeft_59 (by decide) (fun h59 => ?_) (fun h59 => ?_)
              · refine lv_iload_n hx hb d_In_wordsLeft_67 rfl (lv_at hl 0 rfl) ?_
                refine lv_bipush (v := nI 81) hx hb d_In_wordsLeft_68 (by decide) ?_
                refine kn_eq (tgt := 91) hx hb (by omega) (by omega) d_In_wordsLeft_70 (by decide) (fun h70 => ?_) (fun h70 => ?_)
                · refine lv_iconst (v := nI 1) hx hb d_In_wordsLeft_91 (by decide) ?_
                  refine lv_goto (tgt := 96) hx hb d_In_wordsLeft_92 (by decide) ?_
                  first | exact hret _ ls _ d_In_wordsLeft_96 (gv5 o ho hk (by omega)) | exact hret _ ls _ d_In_wordsLeft_96 (gv6 o ho hk (by omega))
                · refine lv_iload_n hx hb d_In_wordsLeft_73 rfl (lv_at hl 0 rfl) ?_
                  refine lv_bipush (v := nI 88) hx hb d_In_wordsLeft_74 (by decide) ?_
                  refine kn_eq (tgt := 91) hx hb (by omega) (by omega) d_In_wordsLeft_76 (by decide) (fun h76 => ?_) (fun h76 => ?_)
                  · refine lv_iconst (v := nI 1) hx hb d_In_wordsLeft_91 (by decide) ?_
                    refine lv_goto (tgt := 96) hx hb d_In_wordsLeft_92 (by decide) ?_
                    first | exact hret _ ls _ d_In_wordsLeft_96 (gv5 o ho hk (by omega)) | exact hret _ ls _ d_In_wordsLeft_96 (gv6 o ho hk (by omega))
                  · refine lv_iload_n hx hb d_In_wordsLeft_79 rfl (lv_at hl 0 rfl) ?_
                    refine lv_bipush (v := nI 89) hx hb d_In_wordsLeft_80 (by decide) ?_
                    refine kn_eq (tgt := 91) hx hb (by omega) (by omega) d_In_wordsLeft_82 (by decide) (fun h82 => ?_) (fun h82 => ?_)
                    · refine lv_iconst (v := nI 1) hx hb d_In_wordsLeft_91 (by decide) ?_
                      refine lv_goto (tgt := 96) hx hb d_In_wordsLeft_92 (by decide) ?_
                      first | exact hret _ ls _ d_In_wordsLeft_96 (gv5 o ho hk (by omega)) | exact hret _ ls _ d_In_wordsLeft_96 (gv6 o ho hk (by omega))
                    · refine lv_iload_n hx hb d_In_wordsLeft_85 rfl (lv_at hl 0 rfl) ?_
                      refine lv_bipush (v := nI 90) hx hb d_In_wordsLeft_86 (by decide) ?_
                      refine kn_ne (tgt := 95) hx hb (by omega) (by omega) d_In_wordsLeft_88 (by decide) (fun h88 => ?_) (fun h88 => ?_)
                      · refine lv_iconst (v := nI 0) hx hb d_In_wordsLeft_95 (by decide) ?_
                        first | exact hret _ ls _ d_In_wordsLeft_96 (gv5 o ho hk (by omega)) | exact hret _ ls _ d_In_wordsLeft_96 (gv6 o ho hk (by omega))
                      · refine lv_iconst (v := nI 1) hx hb d_In_wordsLeft_91 (by decide) ?_
                        refine lv_goto (tgt := 96) hx hb d_In_wordsLeft_92 (by decide) ?_
                        first | exact hret _ ls _ d_In_wordsLeft_96 (gv5 o ho hk (by omega)) | exact hret _ ls _ d_In_wordsLeft_96 (gv6 o ho hk (by omega))
              · refine lv_iload_n hx hb d_In_wordsLeft_62 rfl (lv_at hl 0 rfl) ?_
                refine k_Sp (As := [.int (nI o)]) (rest := []) ⟨hx, hb, hml, hown, hts⟩ (c_I_wordsNeeded l E o ho) (k_cwS 1 hts t_358 t_359 t_72 t_360 (by decide +kernel) ⟨Nat.le_of_ble_eq_true rfl, Nat.le_of_ble_eq_true rfl⟩) hK hG hA hP hD hS [] rfl (by decide) rfl hl.1 rfl (Nat.le_of_ble_eq_true rfl) d_In_wordsLeft_63 ⟨Nat.zero_le _, Nat.zero_le _⟩ (fun r63 hu63 => ?_)
                have hu63 := hu63.trans (m_need_k hk)
                subst hu63
                exact hret _ ls _ d_In_wordsLeft_66 (gv4 o ho hk (by omega))
          · refine lv_iload_n hx hb d_In_wordsLeft_41 rfl (lv_at hl 0 rfl) ?_
            refine k_Sp (As := [.int (nI o)]) (rest := []) ⟨hx, hb, hml, hown, hts⟩ (c_I_wordsNeeded l E o ho) (k_cwS 1 hts t_358 t_359 t_72 t_360 (by decide +kernel) ⟨Nat.le_of_ble_eq_true rfl, Nat.le_of_ble_eq_true rfl⟩) hK hG hA hP hD hS [] rfl (by decide) rfl hl.1 rfl (Nat.le_of_ble_eq_true rfl) d_In_wordsLeft_42 ⟨Nat.zero_le _, Nat.zero_le _⟩ (fun r42 hu42 => ?_)
            have hu42 := hu42.trans (m_need_k hk)
            subst hu42
            refine lv_iconst (v := nI 1) hx hb d_In_wordsLeft_45 (by decide) ?_
            refine lv_iadd hx hb d_In_wordsLeft_46 ?_
            refine k_top (nI_add _ _) ?_
            exact hret _ ls _ d_In_wordsLeft_47 (gv3 o ho hk (by omega))
      · refine lv_iload_n hx hb d_In_wordsLeft_18 rfl (lv_at hl 0 rfl) ?_
        refine lv_sipush (v := nI 128) hx hb d_In_wordsLeft_19 (by decide) ?_
        refine kn_ge (tgt := 27) hx hb (by omega) (by omega) d_In_wordsLeft_22 (by decide) (fun h22 => ?_) (fun h22 => ?_)
        · refine lv_iload_n hx hb d_In_wordsLeft_27 rfl (lv_at hl 0 rfl) ?_
          refine lv_sipush (v := nI 128) hx hb d_In_wordsLeft_28 (by decide) ?_
          refine kn_lt (tgt := 48) hx hb (by omega) (by omega) d_In_wordsLeft_31 (by decide) (fun h31 => ?_) (fun h31 => ?_)
          · refine lv_iload_n hx hb d_In_wordsLeft_48 rfl (lv_at hl 0 rfl) ?_
            refine lv_sipush (v := nI 144) hx hb d_In_wordsLeft_49 (by decide) ?_
            refine kn_lt (tgt := 67) hx hb (by omega) (by omega) d_In_wordsLeft_52 (by decide) (fun h52 => ?_) (fun h52 => ?_)
            · refine lv_iload_n hx hb d_In_wordsLeft_67 rfl (lv_at hl 0 rfl) ?_
              refine lv_bipush (v := nI 81) hx hb d_In_wordsLeft_68 (by decide) ?_
              refine kn_eq (tgt := 91) hx hb (by omega) (by omega) d_In_wordsLeft_70 (by decide) (fun h70 => ?_) (fun h70 => ?_)
              · refine lv_iconst (v := nI 1) hx hb d_In_wordsLeft_91 (by decide) ?_
                refine lv_goto (tgt := 96) hx hb d_In_wordsLeft_92 (by decide) ?_
                first | exact hret _ ls _ d_In_wordsLeft_96 (gv5 o ho hk (by omega)) | exact hret _ ls _ d_In_wordsLeft_96 (gv6 o ho hk (by omega))
              · refine lv_iload_n hx hb d_In_wordsLeft_73 rfl (lv_at hl 0 rfl) ?_
                refine lv_bipush (v := nI 88) hx hb d_In_wordsLeft_74 (by decide) ?_
                refine kn_eq (tgt := 91) hx hb (by omega) (by omega) d_In_wordsLeft_76 (by decide) (fun h76 => ?_) (fun h76 => ?_)
                · refine lv_iconst (v := nI 1) hx hb d_In_wordsLeft_91 (by decide) ?_
                  refine lv_goto (tgt := 96) hx hb d_In_wordsLeft_92 (by decide) ?_
                  first | exact hret _ ls _ d_In_wordsLeft_96 (gv5 o ho hk (by omega)) | exact hret _ ls _ d_In_wordsLeft_96 (gv6 o ho hk (by omega))
                · refine lv_iload_n hx hb d_In_wordsLeft_79 rfl (lv_at hl 0 rfl) ?_
                  refine lv_bipush (v := nI 89) hx hb d_In_wordsLeft_80 (by decide) ?_
                  refine kn_eq (tgt := 91) hx hb (by omega) (by omega) d_In_wordsLeft_82 (by decide) (fun h82 => ?_) (fun h82 => ?_)
                  · refine lv_iconst (v := nI 1) hx hb d_In_wordsLeft_91 (by decide) ?_
                    refine lv_goto (tgt := 96) hx hb d_In_wordsLeft_92 (by decide) ?_
                    first | exact hret _ ls _ d_In_wordsLeft_96 (gv5 o ho hk (by omega)) | exact hret _ ls _ d_In_wordsLeft_96 (gv6 o ho hk (by omega))
                  · refine lv_iload_n hx hb d_In_wordsLeft_85 rfl (lv_at hl 0 rfl) ?_
                    refine lv_bipush (v := nI 90) hx hb d_In_wordsLeft_86 (by decide) ?_
                    refine kn_ne (tgt := 95) hx hb (by omega) (by omega) d_In_wordsLeft_88 (by decide) (fun h88 => ?_) (fun h88 => ?_)
                    · refine lv_iconst (v := nI 0) hx hb d_In_wordsLeft_95 (by decide) ?_
                      first | exact hret _ ls _ d_In_wordsLeft_96 (gv5 o ho hk (by omega)) | exact hret _ ls _ d_In_wordsLeft_96 (gv6 o ho hk (by omega))
                    · refine lv_iconst (v := nI 1) hx hb d_In_wordsLeft_91 (by decide) ?_
                      refine lv_goto (tgt := 96) hx hb d_In_wordsLeft_92 (by decide) ?_
                      first | exact hret _ ls _ d_In_wordsLeft_96 (gv5 o ho hk (by omega)) | exact hret _ ls _ d_In_wordsLeft_96 (gv6 o ho hk (by omega))
            · refine lv_iload_n hx hb d_In_wordsLeft_55 rfl (lv_at hl 0 rfl) ?_
              refine lv_sipush (v := nI 160) hx hb d_In_wordsLeft_56 (by decide) ?_
              refine kn_ge (tgt := 67) hx hb (by omega) (by omega) d_In_wordsLeft_59 (by decide) (fun h59 => ?_) (fun h59 => ?_)
              · refine lv_iload_n hx hb d_In_wordsLeft_67 rfl (lv_at hl 0 rfl) ?_
                refine lv_bipush (v := nI 81) hx hb d_In_wordsLeft_68 (by decide) ?_
                refine kn_eq (tgt := 91) hx hb (by omega) (by omega) d_In_wordsLeft_70 (by decide) (fun h70 => ?_) (fun h70 => ?_)
                · refine lv_iconst (v := nI 1) hx hb d_In_wordsLeft_91 (by decide) ?_
                  refine lv_goto (tgt := 96) hx hb d_In_wordsLeft_92 (by decide) ?_
                  first | exact hret _ ls _ d_In_wordsLeft_96 (gv5 o ho hk (by omega)) | exact hret _ ls _ d_In_wordsLeft_96 (gv6 o ho hk (by omega))
                · refine lv_iload_n hx hb d_In_wordsLeft_73 rfl (lv_at hl 0 rfl) ?_
                  refine lv_bipush (v := nI 88) hx hb d_In_wordsLeft_74 (by decide) ?_
                  refine kn_eq (tgt := 91) hx hb (by omega) (by omega) d_In_wordsLeft_76 (by decide) (fun h76 => ?_) (fun h76 => ?_)
                  · refine lv_iconst (v := nI 1) hx hb d_In_wordsLeft_91 (by decide) ?_
                    refine lv_goto (tgt := 96) hx hb d_In_wordsLeft_92 (by decide) ?_
                    first | exact hret _ ls _ d_In_wordsLeft_96 (gv5 o ho hk (by omega)) | exact hret _ ls _ d_In_wordsLeft_96 (gv6 o ho hk (by omega))
                  · refine lv_iload_n hx hb d_In_wordsLeft_79 rfl (lv_at hl 0 rfl) ?_
                    refine lv_bipush (v := nI 89) hx hb d_In_wordsLeft_80 (by decide) ?_
                    refine kn_eq (tgt := 91) hx hb (by omega) (by omega) d_In_wordsLeft_82 (by decide) (fun h82 => ?_) (fun h82 => ?_)
                    · refine lv_iconst (v := nI 1) hx hb d_In_wordsLeft_91 (by decide) ?_
                      refine lv_goto (tgt := 96) hx hb d_In_wordsLeft_92 (by decide) ?_
                      first | exact hret _ ls _ d_In_wordsLeft_96 (gv5 o ho hk (by omega)) | exact hret _ ls _ d_In_wordsLeft_96 (gv6 o ho hk (by omega))
                    · refine lv_iload_n hx hb d_In_wordsLeft_85 rfl (lv_at hl 0 rfl) ?_
                      refine lv_bipush (v := nI 90) hx hb d_In_wordsLeft_86 (by decide) ?_
                      refine kn_ne (tgt := 95) hx hb (by omega) (by omega) d_In_wordsLeft_88 (by decide) (fun h88 => ?_) (fun h88 => ?_)
                      · refine lv_iconst (v := nI 0) hx hb d_In_wordsLeft_95 (by decide) ?_
                        first | exact hret _ ls _ d_In_wordsLeft_96 (gv5 o ho hk (by omega)) | exact hret _ ls _ d_In_wordsLeft_96 (gv6 o ho hk (by omega))
                      · refine lv_iconst (v := nI 1) hx hb d_In_wordsLeft_91 (by decide) ?_
                        refine lv_goto (tgt := 96) hx hb d_In_wordsLeft_92 (by decide) ?_
                        first | exact hret _ ls _ d_In_wordsLeft_96 (gv5 o ho hk (by omega)) | exact hret _ ls _ d_In_wordsLeft_96 (gv6 o ho hk (by omega))
              · refine lv_iload_n hx hb d_In_wordsLeft_62 rfl (lv_at hl 0 rfl) ?_
                refine k_Sp (As := [.int (nI o)]) (rest := []) ⟨hx, hb, hml, hown, hts⟩ (c_I_wordsNeeded l E o ho) (k_cwS 1 hts t_358 t_359 t_72 t_360 (by decide +kernel) ⟨Nat.le_of_ble_eq_true rfl, Nat.le_of_ble_eq_true rfl⟩) hK hG hA hP hD hS [] rfl (by decide) rfl hl.1 rfl (Nat.le_of_ble_eq_true rfl) d_In_wordsLeft_63 ⟨Nat.zero_le _, Nat.zero_le _⟩ (fun r63 hu63 => ?_)
                have hu63 := hu63.trans (m_need_k hk)
                subst hu63
                exact hret _ ls _ d_In_wordsLeft_66 (gv4 o ho hk (by omega))
          · refine lv_iload_n hx hb d_In_wordsLeft_34 rfl (lv_at hl 0 rfl) ?_
            refine lv_sipush (v := nI 144) hx hb d_In_wordsLeft_35 (by decide) ?_
            refine kn_ge (tgt := 48) hx hb (by omega) (by omega) d_In_wordsLeft_38 (by decide) (fun h38 => ?_) (fun h38 => ?_)
            · refine lv_iload_n hx hb d_In_wordsLeft_48 rfl (lv_at hl 0 rfl) ?_
              refine lv_sipush (v := nI 144) hx hb d_In_wordsLeft_49 (by decide) ?_
              refine kn_lt (tgt := 67) hx hb (by omega) (by omega) d_In_wordsLeft_52 (by decide) (fun h52 => ?_) (fun h52 => ?_)
              · refine lv_iload_n hx hb d_In_wordsLeft_67 rfl (lv_at hl 0 rfl) ?_
                refine lv_bipush (v := nI 81) hx hb d_In_wordsLeft_68 (by decide) ?_
                refine kn_eq (tgt := 91) hx hb (by omega) (by omega) d_In_wordsLeft_70 (by decide) (fun h70 => ?_) (fun h70 => ?_)
                · refine lv_iconst (v := nI 1) hx hb d_In_wordsLeft_91 (by decide) ?_
                  refine lv_goto (tgt := 96) hx hb d_In_wordsLeft_92 (by decide) ?_
                  first | exact hret _ ls _ d_In_wordsLeft_96 (gv5 o ho hk (by omega)) | exact hret _ ls _ d_In_wordsLeft_96 (gv6 o ho hk (by omega))
                · refine lv_iload_n hx hb d_In_wordsLeft_73 rfl (lv_at hl 0 rfl) ?_
                  refine lv_bipush (v := nI 88) hx hb d_In_wordsLeft_74 (by decide) ?_
                  refine kn_eq (tgt := 91) hx hb (by omega) (by omega) d_In_wordsLeft_76 (by decide) (fun h76 => ?_) (fun h76 => ?_)
                  · refine lv_iconst (v := nI 1) hx hb d_In_wordsLeft_91 (by decide) ?_
                    refine lv_goto (tgt := 96) hx hb d_In_wordsLeft_92 (by decide) ?_
                    first | exact hret _ ls _ d_In_wordsLeft_96 (gv5 o ho hk (by omega)) | exact hret _ ls _ d_In_wordsLeft_96 (gv6 o ho hk (by omega))
                  · refine lv_iload_n hx hb d_In_wordsLeft_79 rfl (lv_at hl 0 rfl) ?_
                    refine lv_bipush (v := nI 89) hx hb d_In_wordsLeft_80 (by decide) ?_
                    refine kn_eq (tgt := 91) hx hb (by omega) (by omega) d_In_wordsLeft_82 (by decide) (fun h82 => ?_) (fun h82 => ?_)
                    · refine lv_iconst (v := nI 1) hx hb d_In_wordsLeft_91 (by decide) ?_
                      refine lv_goto (tgt := 96) hx hb d_In_wordsLeft_92 (by decide) ?_
                      first | exact hret _ ls _ d_In_wordsLeft_96 (gv5 o ho hk (by omega)) | exact hret _ ls _ d_In_wordsLeft_96 (gv6 o ho hk (by omega))
                    · refine lv_iload_n hx hb d_In_wordsLeft_85 rfl (lv_at hl 0 rfl) ?_
                      refine lv_bipush (v := nI 90) hx hb d_In_wordsLeft_86 (by decide) ?_
                      refine kn_ne (tgt := 95) hx hb (by omega) (by omega) d_In_wordsLeft_88 (by decide) (fun h88 => ?_) (fun h88 => ?_)
                      · refine lv_iconst (v := nI 0) hx hb d_In_wordsLeft_95 (by decide) ?_
                        first | exact hret _ ls _ d_In_wordsLeft_96 (gv5 o ho hk (by omega)) | exact hret _ ls _ d_In_wordsLeft_96 (gv6 o ho hk (by omega))
                      · refine lv_iconst (v := nI 1) hx hb d_In_wordsLeft_91 (by decide) ?_
                        refine lv_goto (tgt := 96) hx hb d_In_wordsLeft_92 (by decide) ?_
                        first | exact hret _ ls _ d_In_wordsLeft_96 (gv5 o ho hk (by omega)) | exact hret _ ls _ d_In_wordsLeft_96 (gv6 o ho hk (by omega))
              · refine lv_iload_n hx hb d_In_wordsLeft_55 rfl (lv_at hl 0 rfl) ?_
                refine lv_sipush (v := nI 160) hx hb d_In_wordsLeft_56 (by decide) ?_
                refine kn_ge (tgt := 67) hx hb (by omega) (by omega) d_In_wordsLeft_59 (by decide) (fun h59 => ?_) (fun h59 => ?_)
                · refine lv_iload_n hx hb d_In_wordsLeft_67 rfl (lv_at hl 0 rfl) ?_
                  refine lv_bipush (v := nI 81) hx hb d_In_wordsLeft_68 (by decide) ?_
                  refine kn_eq (tgt := 91) hx hb (by omega) (by omega) d_In_wordsLeft_70 (by decide) (fun h70 => ?_) (fun h70 => ?_)
                  · refine lv_iconst (v := nI 1) hx hb d_In_wordsLeft_91 (by decide) ?_
                    refine lv_goto (tgt := 96) hx hb d_In_wordsLeft_92 (by decide) ?_
                    first | exact hret _ ls _ d_In_wordsLeft_96 (gv5 o ho hk (by omega)) | exact hret _ ls _ d_In_wordsLeft_96 (gv6 o ho hk (by omega))
                  · refine lv_iload_n hx hb d_In_wordsLeft_73 rfl (lv_at hl 0 rfl) ?_
                    refine lv_bipush (v := nI 88) hx hb d_In_wordsLeft_74 (by decide) ?_
                    refine kn_eq (tgt := 91) hx hb (by omega) (by omega) d_In_wordsLeft_76 (by decide) (fun h76 => ?_) (fun h76 => ?_)
                    · refine lv_iconst (v := nI 1) hx hb d_In_wordsLeft_91 (by decide) ?_
                      refine lv_goto (tgt := 96) hx hb d_In_wordsLeft_92 (by decide) ?_
                      first | exact hret _ ls _ d_In_wordsLeft_96 (gv5 o ho hk (by omega)) | exact hret _ ls _ d_In_wordsLeft_96 (gv6 o ho hk (by omega))
                    · refine lv_iload_n hx hb d_In_wordsLeft_79 rfl (lv_at hl 0 rfl) ?_
                      refine lv_bipush (v := nI 89) hx hb d_In_wordsLeft_80 (by decide) ?_
                      refine kn_eq (tgt := 91) hx hb (by omega) (by omega) d_In_wordsLeft_82 (by decide) (fun h82 => ?_) (fun h82 => ?_)
                      · refine lv_iconst (v := nI 1) hx hb d_In_wordsLeft_91 (by decide) ?_
                        refine lv_goto (tgt := 96) hx hb d_In_wordsLeft_92 (by decide) ?_
                        first | exact hret _ ls _ d_In_wordsLeft_96 (gv5 o ho hk (by omega)) | exact hret _ ls _ d_In_wordsLeft_96 (gv6 o ho hk (by omega))
                      · refine lv_iload_n hx hb d_In_wordsLeft_85 rfl (lv_at hl 0 rfl) ?_
                        refine lv_bipush (v := nI 90) hx hb d_In_wordsLeft_86 (by decide) ?_
                        refine kn_ne (tgt := 95) hx hb (by omega) (by omega) d_In_wordsLeft_88 (by decide) (fun h88 => ?_) (fun h88 => ?_)
                        · refine lv_iconst (v := nI 0) hx hb d_In_wordsLeft_95 (by decide) ?_
                          first | exact hret _ ls _ d_In_wordsLeft_96 (gv5 o ho hk (by omega)) | exact hret _ ls _ d_In_wordsLeft_96 (gv6 o ho hk (by omega))
                        · refine lv_iconst (v := nI 1) hx hb d_In_wordsLeft_91 (by decide) ?_
                          refine lv_goto (tgt := 96) hx hb d_In_wordsLeft_92 (by decide) ?_
                          first | exact hret _ ls _ d_In_wordsLeft_96 (gv5 o ho hk (by omega)) | exact hret _ ls _ d_In_wordsLeft_96 (gv6 o ho hk (by omega))
                · refine lv_iload_n hx hb d_In_wordsLeft_62 rfl (lv_at hl 0 rfl) ?_
                  refine k_Sp (As := [.int (nI o)]) (rest := []) ⟨hx, hb, hml, hown, hts⟩ (c_I_wordsNeeded l E o ho) (k_cwS 1 hts t_358 t_359 t_72 t_360 (by decide +kernel) ⟨Nat.le_of_ble_eq_true rfl, Nat.le_of_ble_eq_true rfl⟩) hK hG hA hP hD hS [] rfl (by decide) rfl hl.1 rfl (Nat.le_of_ble_eq_true rfl) d_In_wordsLeft_63 ⟨Nat.zero_le _, Nat.zero_le _⟩ (fun r63 hu63 => ?_)
                  have hu63 := hu63.trans (m_need_k hk)
                  subst hu63
                  exact hret _ ls _ d_In_wordsLeft_66 (gv4 o ho hk (by omega))
            · refine lv_iload_n hx hb d_In_wordsLeft_41 rfl (lv_at hl 0 rfl) ?_
              refine k_Sp (As := [.int (nI o)]) (rest := []) ⟨hx, hb, hml, hown, hts⟩ (c_I_wordsNeeded l E o ho) (k_cwS 1 hts t_358 t_359 t_72 t_360 (by decide +kernel) ⟨Nat.le_of_ble_eq_true rfl, Nat.le_of_ble_eq_true rfl⟩) hK hG hA hP hD hS [] rfl (by decide) rfl hl.1 rfl (Nat.le_of_ble_eq_true rfl) d_In_wordsLeft_42 ⟨Nat.zero_le _, Nat.zero_le _⟩ (fun r42 hu42 => ?_)
              have hu42 := hu42.trans (m_need_k hk)
              subst hu42
              refine lv_iconst (v := nI 1) hx hb d_In_wordsLeft_45 (by decide) ?_
              refine lv_iadd hx hb d_In_wordsLeft_46 ?_
              refine k_top (nI_add _ _) ?_
              exact hret _ ls _ d_In_wordsLeft_47 (gv3 o ho hk (by omega))
        · refine lv_iconst (v := nI 1) hx hb d_In_wordsLeft_25 (by decide) ?_
          exact hret _ ls _ d_In_wordsLeft_26 (gv2 o ho hk (by omega))
    · refine lv_iconst (v := nI 1) hx hb d_In_wordsLeft_10 (by decide) ?_
      exact hret _ ls _ d_In_wordsLeft_11 (gv1 o ho hk (by omega))

abbrev y_In_numberLength : MethodName := ⟨"WideStack$Instructions", "numberLength", "(I)I"⟩
theorem d_In_numberLength_0 : decode prog_5_method_6_code 0 = .ok (.iload_n 0, 1) := by decide +kernel
theorem d_In_numberLength_1 : decode prog_5_method_6_code 1 = .ok (.bipush 96, 2) := by decide +kernel
theorem d_In_numberLength_3 : decode prog_5_method_6_code 3 = .ok (.if_icmp .lt 19, 3) := by decide +kernel
theorem d_In_numberLength_6 : decode prog_5_method_6_code 6 = .ok (.iload_n 0, 1) := by decide +kernel
theorem d_In_numberLength_7 : decode prog_5_method_6_code 7 = .ok (.sipush 128, 3) := by decide +kernel
theorem d_In_numberLength_10 : decode prog_5_method_6_code 10 = .ok (.if_icmp .ge 12, 3) := by decide +kernel
theorem d_In_numberLength_13 : decode prog_5_method_6_code 13 = .ok (.iload_n 0, 1) := by decide +kernel
theorem d_In_numberLength_14 : decode prog_5_method_6_code 14 = .ok (.bipush 96, 2) := by decide +kernel
theorem d_In_numberLength_16 : decode prog_5_method_6_code 16 = .ok (.isub, 1) := by decide +kernel
theorem d_In_numberLength_17 : decode prog_5_method_6_code 17 = .ok (.iconst 1, 1) := by decide +kernel
theorem d_In_numberLength_18 : decode prog_5_method_6_code 18 = .ok (.iadd, 1) := by decide +kernel
theorem d_In_numberLength_19 : decode prog_5_method_6_code 19 = .ok (.goto 4, 3) := by decide +kernel
theorem d_In_numberLength_22 : decode prog_5_method_6_code 22 = .ok (.iconst 0, 1) := by decide +kernel
theorem d_In_numberLength_23 : decode prog_5_method_6_code 23 = .ok (.ireturn, 1) := by decide +kernel
def rm_c_I_numberLength : Room := { frames := 0, cells := 0, slots := 0, locals := 0 }
set_option maxHeartbeats 4000000 in
set_option maxRecDepth 100000 in
theorem c_I_numberLength (l : Launch) (E : kE) (o : Nat) (ho : o < 256) : Kp l y_In_numberLength (kW y_In_numberLength prog_5_method_6_code 1 (some .int)) rm_c_I_numberLength E [.int (nI o)] [] (fun r => r = nI (m_numl o)) := by
  refine Kp.ofI (cc := prog_5_method_6_code) (maxL := 1) (by decide) (Nat.le_of_ble_eq_true rfl) ?_
  intro p e s m args below meth c A ls Q hx hb hts hown hml hK hG hA hP hD hS hl hret
  have hl : lv_has ls 1 [(0, .int (nI o))] := hl
  refine lv_iload_n hx hb d_In_numberLength_0 rfl (lv_at hl 0 rfl) ?_
  refine lv_bipush (v := nI 96) hx hb d_In_numberLength_1 (by decide) ?_
  refine kn_lt (tgt := 22) hx hb (by omega) (by omega) d_In_numberLength_3 (by decide) (fun h3 => ?_) (fun h3 => ?_)
  · refine lv_iconst (v := nI 0) hx hb d_In_numberLength_22 (by decide) ?_
    first | exact hret _ ls _ d_In_numberLength_23 (by rw [m_numl_in (by omega) (by omega)]) | exact hret _ ls _ d_In_numberLength_23 (by rw [m_numl_out (by omega)])
  · refine lv_iload_n hx hb d_In_numberLength_6 rfl (lv_at hl 0 rfl) ?_
    refine lv_sipush (v := nI 128) hx hb d_In_numberLength_7 (by decide) ?_
    refine kn_ge (tgt := 22) hx hb (by omega) (by omega) d_In_numberLength_10 (by decide) (fun h10 => ?_) (fun h10 => ?_)
    · refine lv_iconst (v := nI 0) hx hb d_In_numberLength_22 (by decide) ?_
      first | exact hret _ ls _ d_In_numberLength_23 (by rw [m_numl_in (by omega) (by omega)]) | exact hret _ ls _ d_In_numberLength_23 (by rw [m_numl_out (by omega)])
    · refine lv_iload_n hx hb d_In_numberLength_13 rfl (lv_at hl 0 rfl) ?_
      refine lv_bipush (v := nI 96) hx hb d_In_numberLength_14 (by decide) ?_
      refine lv_isub hx hb d_In_numberLength_16 ?_
      refine k_top (pk_sub (by omega)) ?_
      refine lv_iconst (v := nI 1) hx hb d_In_numberLength_17 (by decide) ?_
      refine lv_iadd hx hb d_In_numberLength_18 ?_
      refine k_top (nI_add _ _) ?_
      refine lv_goto (tgt := 23) hx hb d_In_numberLength_19 (by decide) ?_
      first | exact hret _ ls _ d_In_numberLength_23 (by rw [m_numl_in (by omega) (by omega)]) | exact hret _ ls _ d_In_numberLength_23 (by rw [m_numl_out (by omega)])

abbrev y_In_isJump : MethodName := ⟨"WideStack$Instructions", "isJump", "(I)Z"⟩
theorem d_In_isJump_0 : decode prog_5_method_7_code 0 = .ok (.iload_n 0, 1) := by decide +kernel
theorem d_In_isJump_1 : decode prog_5_method_7_code 1 = .ok (.bipush 86, 2) := by decide +kernel
theorem d_In_isJump_3 : decode prog_5_method_7_code 3 = .ok (.if_icmp .eq 9, 3) := by decide +kernel
theorem d_In_isJump_6 : decode prog_5_method_7_code 6 = .ok (.iload_n 0, 1) := by decide +kernel
theorem d_In_isJump_7 : decode prog_5_method_7_code 7 = .ok (.bipush 87, 2) := by decide +kernel
theorem d_In_isJump_9 : decode prog_5_method_7_code 9 = .ok (.if_icmp .ne 7, 3) := by decide +kernel
theorem d_In_isJump_12 : decode prog_5_method_7_code 12 = .ok (.iconst 1, 1) := by decide +kernel
theorem d_In_isJump_13 : decode prog_5_method_7_code 13 = .ok (.goto 4, 3) := by decide +kernel
theorem d_In_isJump_16 : decode prog_5_method_7_code 16 = .ok (.iconst 0, 1) := by decide +kernel
theorem d_In_isJump_17 : decode prog_5_method_7_code 17 = .ok (.ireturn, 1) := by decide +kernel
def rm_c_I_isJump : Room := { frames := 0, cells := 0, slots := 0, locals := 0 }
set_option maxHeartbeats 4000000 in
set_option maxRecDepth 100000 in
theorem c_I_isJump (l : Launch) (E : kE) (o : Nat) (ho : o < 256) : Kp l y_In_isJump (kW y_In_isJump prog_5_method_7_code 1 (some .boolean)) rm_c_I_isJump E [.int (nI o)] [] (fun r => r = kb (decide (o = 86 ∨ o = 87))) := by
  refine Kp.ofZ (cc := prog_5_method_7_code) (maxL := 1) (by decide) (Nat.le_of_ble_eq_true rfl) ?_
  intro p e s m args below meth c A ls Q hx hb hts hown hml hK hG hA hP hD hS hl hret
  have hl : lv_has ls 1 [(0, .int (nI o))] := hl
  refine lv_iload_n hx hb d_In_isJump_0 rfl (lv_at hl 0 rfl) ?_
  refine lv_bipush (v := nI 86) hx hb d_In_isJump_1 (by decide) ?_
  refine kn_eq (tgt := 12) hx hb (by omega) (by omega) d_In_isJump_3 (by decide) (fun h3 => ?_) (fun h3 => ?_)
  · refine lv_iconst (v := nI 1) hx hb d_In_isJump_12 (by decide) ?_
    refine lv_goto (tgt := 17) hx hb d_In_isJump_13 (by decide) ?_
    first | exact hret _ ls _ d_In_isJump_17 (by decide) (by rw [decide_eq_true (by omega)]; rfl) | exact hret _ ls _ d_In_isJump_17 (by decide) (by rw [decide_eq_false (by omega)]; rfl)
  · refine lv_iload_n hx hb d_In_isJump_6 rfl (lv_at hl 0 rfl) ?_
    refine lv_bipush (v := nI 87) hx hb d_In_isJump_7 (by decide) ?_
    refine kn_ne (tgt := 16) hx hb (by omega) (by omega) d_In_isJump_9 (by decide) (fun h9 => ?_) (fun h9 => ?_)
    · refine lv_iconst (v := nI 0) hx hb d_In_isJump_16 (by decide) ?_
      first | exact hret _ ls _ d_In_isJump_17 (by decide) (by rw [decide_eq_true (by omega)]; rfl) | exact hret _ ls _ d_In_isJump_17 (by decide) (by rw [decide_eq_false (by omega)]; rfl)
    · refine lv_iconst (v := nI 1) hx hb d_In_isJump_12 (by decide) ?_
      refine lv_goto (tgt := 17) hx hb d_In_isJump_13 (by decide) ?_
      first | exact hret _ ls _ d_In_isJump_17 (by decide) (by rw [decide_eq_true (by omega)]; rfl) | exact hret _ ls _ d_In_isJump_17 (by decide) (by rw [decide_eq_false (by omega)]; rfl)

abbrev y_In_isLast : MethodName := ⟨"WideStack$Instructions", "isLast", "(I)Z"⟩
theorem d_In_isLast_0 : decode prog_5_method_8_code 0 = .ok (.iload_n 0, 1) := by decide +kernel
theorem d_In_isLast_1 : decode prog_5_method_8_code 1 = .ok (.ifCond .eq 10, 3) := by decide +kernel
theorem d_In_isLast_4 : decode prog_5_method_8_code 4 = .ok (.iload_n 0, 1) := by decide +kernel
theorem d_In_isLast_5 : decode prog_5_method_8_code 5 = .ok (.sipush 243, 3) := by decide +kernel
theorem d_In_isLast_8 : decode prog_5_method_8_code 8 = .ok (.if_icmp .ne 7, 3) := by decide +kernel
theorem d_In_isLast_11 : decode prog_5_method_8_code 11 = .ok (.iconst 1, 1) := by decide +kernel
theorem d_In_isLast_12 : decode prog_5_method_8_code 12 = .ok (.goto 4, 3) := by decide +kernel
theorem d_In_isLast_15 : decode prog_5_method_8_code 15 = .ok (.iconst 0, 1) := by decide +kernel
theorem d_In_isLast_16 : decode prog_5_method_8_code 16 = .ok (.ireturn, 1) := by decide +kernel
def rm_c_I_isLast : Room := { frames := 0, cells := 0, slots := 0, locals := 0 }
set_option maxHeartbeats 4000000 in
set_option maxRecDepth 100000 in
theorem c_I_isLast (l : Launch) (E : kE) (o : Nat) (ho : o < 256) : Kp l y_In_isLast (kW y_In_isLast prog_5_method_8_code 1 (some .boolean)) rm_c_I_isLast E [.int (nI o)] [] (fun r => r = kb (decide (o = 0 ∨ o = 243))) := by
  refine Kp.ofZ (cc := prog_5_method_8_code) (maxL := 1) (by decide) (Nat.le_of_ble_eq_true rfl) ?_
  intro p e s m args below meth c A ls Q hx hb hts hown hml hK hG hA hP hD hS hl hret
  have hl : lv_has ls 1 [(0, .int (nI o))] := hl
  refine lv_iload_n hx hb d_In_isLast_0 rfl (lv_at hl 0 rfl) ?_
  refine kn_ifeq (tgt := 11) hx hb (by omega) d_In_isLast_1 (by decide) (fun h1 => ?_) (fun h1 => ?_)
  · refine lv_iconst (v := nI 1) hx hb d_In_isLast_11 (by decide) ?_
    refine lv_goto (tgt := 16) hx hb d_In_isLast_12 (by decide) ?_
    first | exact hret _ ls _ d_In_isLast_16 (by decide) (by rw [decide_eq_true (by omega)]; rfl) | exact hret _ ls _ d_In_isLast_16 (by decide) (by rw [decide_eq_false (by omega)]; rfl)
  · refine lv_iload_n hx hb d_In_isLast_4 rfl (lv_at hl 0 rfl) ?_
    refine lv_sipush (v := nI 243) hx hb d_In_isLast_5 (by decide) ?_
    refine kn_ne (tgt := 15) hx hb (by omega) (by omega) d_In_isLast_8 (by decide) (fun h8 => ?_) (fun h8 => ?_)
    · refine lv_iconst (v := nI 0) hx hb d_In_isLast_15 (by decide) ?_
      first | exact hret _ ls _ d_In_isLast_16 (by decide) (by rw [decide_eq_true (by omega)]; rfl) | exact hret _ ls _ d_In_isLast_16 (by decide) (by rw [decide_eq_false (by omega)]; rfl)
    · refine lv_iconst (v := nI 1) hx hb d_In_isLast_11 (by decide) ?_
      refine lv_goto (tgt := 16) hx hb d_In_isLast_12 (by decide) ?_
      first | exact hret _ ls _ d_In_isLast_16 (by decide) (by rw [decide_eq_true (by omega)]; rfl) | exact hret _ ls _ d_In_isLast_16 (by decide) (by rw [decide_eq_false (by omega)]; rfl)

theorem sw_cost : ∀ o : Nat, o < 256 → Op.lookupswitch.offset ([(0, 147), (2, 153), (4, 153), (5, 153), (6, 153), (7, 153), (8, 155), (9, 155), (11, 153), (80, 151), (86, 155), (87, 158), (88, 151), (89, 151), (90, 151), (91, 149), (243, 147)] : List (Int × Int)) 161 (o : Int) = if m_cost o = 0 then 147 else if m_cost o = 1 then 149 else if m_cost o = 2 then 151 else if m_cost o = 5 then 153 else if m_cost o = 8 then 155 else if m_cost o = 10 then 158 else 161 := by decide +kernel
abbrev y_In_cost : MethodName := ⟨"WideStack$Instructions", "cost", "(I)I"⟩
theorem d_In_cost_0 : decode prog_5_method_5_code 0 = .ok (.iload_n 0, 1) := by decide +kernel
theorem d_In_cost_1 : decode prog_5_method_5_code 1 = .ok (.lookupswitch 161 #[(0, 147), (2, 153), (4, 153), (5, 153), (6, 153), (7, 153), (8, 155), (9, 155), (11, 153), (80, 151), (86, 155), (87, 158), (88, 151), (89, 151), (90, 151), (91, 149), (243, 147)], 147) := by decide +kernel
theorem d_In_cost_148 : decode prog_5_method_5_code 148 = .ok (.iconst 0, 1) := by decide +kernel
theorem d_In_cost_149 : decode prog_5_method_5_code 149 = .ok (.ireturn, 1) := by decide +kernel
theorem d_In_cost_150 : decode prog_5_method_5_code 150 = .ok (.iconst 1, 1) := by decide +kernel
theorem d_In_cost_151 : decode prog_5_method_5_code 151 = .ok (.ireturn, 1) := by decide +kernel
theorem d_In_cost_152 : decode prog_5_method_5_code 152 = .ok (.iconst 2, 1) := by decide +kernel
theorem d_In_cost_153 : decode prog_5_method_5_code 153 = .ok (.ireturn, 1) := by decide +kernel
theorem d_In_cost_154 : decode prog_5_method_5_code 154 = .ok (.iconst 5, 1) := by decide +kernel
theorem d_In_cost_155 : decode prog_5_method_5_code 155 = .ok (.ireturn, 1) := by decide +kernel
theorem d_In_cost_156 : decode prog_5_method_5_code 156 = .ok (.bipush 8, 2) := by decide +kernel
theorem d_In_cost_158 : decode prog_5_method_5_code 158 = .ok (.ireturn, 1) := by decide +kernel
theorem d_In_cost_159 : decode prog_5_method_5_code 159 = .ok (.bipush 10, 2) := by decide +kernel
theorem d_In_cost_161 : decode prog_5_method_5_code 161 = .ok (.ireturn, 1) := by decide +kernel
theorem d_In_cost_162 : decode prog_5_method_5_code 162 = .ok (.iconst 3, 1) := by decide +kernel
theorem d_In_cost_163 : decode prog_5_method_5_code 163 = .ok (.ireturn, 1) := by decide +kernel
def rm_c_I_cost : Room := { frames := 0, cells := 0, slots := 0, locals := 0 }
set_option maxHeartbeats 4000000 in
set_option maxRecDepth 100000 in
theorem c_I_cost (l : Launch) (E : kE) (o : Nat) (ho : o < 256) : Kp l y_In_cost (kW y_In_cost prog_5_method_5_code 1 (some .int)) rm_c_I_cost E [.int (nI o)] [] (fun r => r = nI (m_cost o)) := by
  refine Kp.ofI (cc := prog_5_method_5_code) (maxL := 1) (by decide) (Nat.le_of_ble_eq_true rfl) ?_
  intro p e s m args below meth c A ls Q hx hb hts hown hml hK hG hA hP hD hS hl hret
  have hl : lv_has ls 1 [(0, .int (nI o))] := hl
  refine lv_iload_n hx hb d_In_cost_0 rfl (lv_at hl 0 rfl) ?_
  rcases sw_c o ho with hq | hq | hq | hq | hq | hq | hq
  · refine lv_lookup (off := 147) (tgt := 148) hx hb d_In_cost_1 (by decide) (by rw [nI_toInt (by omega)]; exact (sw_cost o ho).trans (by rw [hq]; rfl)) (by decide) ?_
    refine lv_iconst (v := nI 0) hx hb d_In_cost_148 (by decide) ?_
    exact hret _ ls _ d_In_cost_149 (by rw [hq])
  · refine lv_lookup (off := 149) (tgt := 150) hx hb d_In_cost_1 (by decide) (by rw [nI_toInt (by omega)]; exact (sw_cost o ho).trans (by rw [hq]; rfl)) (by decide) ?_
    refine lv_iconst (v := nI 1) hx hb d_In_cost_150 (by decide) ?_
    exact hret _ ls _ d_In_cost_151 (by rw [hq])
  · refine lv_lookup (off := 151) (tgt := 152) hx hb d_In_cost_1 (by decide) (by rw [nI_toInt (by omega)]; exact (sw_cost o ho).trans (by rw [hq]; rfl)) (by decide) ?_
    refine lv_iconst (v := nI 2) hx hb d_In_cost_152 (by decide) ?_
    exact hret _ ls _ d_In_cost_153 (by rw [hq])
  · refine lv_lookup (off := 153) (tgt := 154) hx hb d_In_cost_1 (by decide) (by rw [nI_toInt (by omega)]; exact (sw_cost o ho).trans (by rw [hq]; rfl)) (by decide) ?_
    refine lv_iconst (v := nI 5) hx hb d_In_cost_154 (by decide) ?_
    exact hret _ ls _ d_In_cost_155 (by rw [hq])
  · refine lv_lookup (off := 155) (tgt := 156) hx hb d_In_cost_1 (by decide) (by rw [nI_toInt (by omega)]; exact (sw_cost o ho).trans (by rw [hq]; rfl)) (by decide) ?_
    refine lv_bipush (v := nI 8) hx hb d_In_cost_156 (by decide) ?_
    exact hret _ ls _ d_In_cost_158 (by rw [hq])
  · refine lv_lookup (off := 158) (tgt := 159) hx hb d_In_cost_1 (by decide) (by rw [nI_toInt (by omega)]; exact (sw_cost o ho).trans (by rw [hq]; rfl)) (by decide) ?_
    refine lv_bipush (v := nI 10) hx hb d_In_cost_159 (by decide) ?_
    exact hret _ ls _ d_In_cost_161 (by rw [hq])
  · refine lv_lookup (off := 161) (tgt := 162) hx hb d_In_cost_1 (by decide) (by rw [nI_toInt (by omega)]; exact (sw_cost o ho).trans (by rw [hq]; rfl)) (by decide) ?_
    refine lv_iconst (v := nI 3) hx hb d_In_cost_162 (by decide) ?_
    exact hret _ ls _ d_In_cost_163 (by rw [hq])

