/-! quotients and rests, with signs or without -/
def ngi : Bool → Nat → Nat
  | true, x => m_neg x
  | false, x => x
def m_q2 : Bool → Bool → Bool → Nat → Nat → Nat
  | true, a, b, A, B => ngi a (m_rem (ngi a A) (ngi b B))
  | false, a, b, A, B => ngi (xor a b) (ngi a A / ngi b B)
def m_quo (sg rs : Bool) (A B : Nat) : Nat := m_q2 rs (sg && m_isneg A) (sg && m_isneg B) A B
theorem q2_000 (A B : Nat) : m_q2 false false false A B = A / B := rfl
theorem q2_001 (A B : Nat) : m_q2 false false true A B = m_neg (A / m_neg B) := rfl
theorem q2_010 (A B : Nat) : m_q2 false true false A B = m_neg (m_neg A / B) := rfl
theorem q2_011 (A B : Nat) : m_q2 false true true A B = m_neg A / m_neg B := rfl
theorem q2_100 (A B : Nat) : m_q2 true false false A B = m_rem A B := rfl
theorem q2_101 (A B : Nat) : m_q2 true false true A B = m_rem A (m_neg B) := rfl
theorem q2_110 (A B : Nat) : m_q2 true true false A B = m_neg (m_rem (m_neg A) B) := rfl
theorem q2_111 (A B : Nat) : m_q2 true true true A B = m_neg (m_rem (m_neg A) (m_neg B)) := rfl
theorem q_ok {sg rs a b : Bool} {A B X : Nat} (ha : (sg && m_isneg A) = a) (hb : (sg && m_isneg B) = b) (h : X = m_q2 rs a b A B) : X = m_quo sg rs A B := by unfold m_quo; rw [ha, hb]; exact h
def fr3 (g z : Nat → Nat) : Prop := ∀ j, j < 256 ∨ (288 ≤ j ∧ j < 304) → z j = g j
def qS (g z : Nat → Nat) (A B : Nat) : Prop := gv z 256 16 = A ∧ gv z 272 16 = B ∧ fr3 g z ∧ ∀ j, z j < 65536
theorem q_a {g z u : Nat → Nat} {A B : Nat} (h : qS g z A B) (hu : gv u 256 16 = m_neg (gv z 256 16) ∧ fr1 z u 256 16 ∧ ∀ j, u j < 65536) : qS g u (m_neg A) B :=
  ⟨by rw [hu.1, h.1], by rw [fr1_gv hu.2.1 (by omega)]; exact h.2.1, fun j hj => (hu.2.1 j (by omega)).trans (h.2.2.1 j hj), hu.2.2⟩
theorem q_b {g z u : Nat → Nat} {A B : Nat} (h : qS g z A B) (hu : gv u 272 16 = m_neg (gv z 272 16) ∧ fr1 z u 272 16 ∧ ∀ j, u j < 65536) : qS g u A (m_neg B) :=
  ⟨by rw [fr1_gv hu.2.1 (by omega)]; exact h.1, by rw [hu.1, h.2.1], fun j hj => (hu.2.1 j (by omega)).trans (h.2.2.1 j hj), hu.2.2⟩
def qD (g z : Nat → Nat) (A B : Nat) : Prop := gv z 304 16 = A / B ∧ gv z 353 16 = m_rem A B ∧ fr3 g z ∧ ∀ j, z j < 65536
theorem m_rem_lt {A B : Nat} (hB : B < mM) : m_rem A B < mM := by
  unfold m_rem
  by_cases e : B = 0
  · rw [if_pos e]; decide
  · rw [if_neg e]; exact Nat.lt_trans (Nat.mod_lt _ (Nat.pos_of_ne_zero e)) hB
theorem rest16 {z : Nat → Nat} (h : gv z 353 17 < mM) : gv z 353 16 = gv z 353 17 := by
  have e : gv z 353 17 = gv z 353 16 + z 369 * 65536 ^ 16 := gv_s z 353 16
  rw [g16m] at e
  rcases Nat.eq_zero_or_pos (z 369) with q | q
  · rw [q, Nat.zero_mul, Nat.add_zero] at e; exact e.symm
  · have : 1 * mM ≤ z 369 * mM := Nat.mul_le_mul_right _ q
    omega
theorem q_d {g z u w : Nat → Nat} {A B : Nat} (h : qS g z A B) (hu : gv u 320 33 = gv z 256 16 ∧ fr1 z u 320 33 ∧ ∀ j, u j < 65536) (hw : dvP u w 272) : qD g w A B := by
  obtain ⟨w1, w2, w3, w4⟩ := hw
  have eB : gv u 272 16 = B := by rw [fr1_gv hu.2.1 (by omega)]; exact h.2.1
  have eA : gv u 320 33 = A := by rw [hu.1]; exact h.1
  have lA : A < mM := by rw [← h.1]; exact gv_lt16 h.2.2.2 256
  have lB : B < mM := by rw [← h.2.1]; exact gv_lt16 h.2.2.2 272
  rw [eA, eB] at w1 w2
  refine ⟨by rw [w1]; exact Nat.mod_eq_of_lt (Nat.lt_of_le_of_lt (Nat.div_le_self A B) lA), ?_, fun j hj => (w3 j (by omega)).trans ((hu.2.1 j (by omega)).trans (h.2.2.1 j hj)), w4⟩
  rw [rest16 (by rw [w2]; exact m_rem_lt lB), w2]
def qE (g z : Nat → Nat) (X : Nat) : Prop := gv z 304 16 = X ∧ fr3 g z ∧ ∀ j, z j < 65536
theorem q_e {g z : Nat → Nat} {A B : Nat} (h : qD g z A B) : qE g z (A / B) := ⟨h.1, h.2.2⟩
theorem q_r {g z : Nat → Nat} {A B : Nat} (h : qD g z A B) : qE g (cpy z 304 353) (m_rem A B) := ⟨by rw [gv_cpy]; exact h.2.1, fun j hj => (cpy_out (by omega)).trans (h.2.2.1 j hj), cpy_16 h.2.2.2⟩
theorem q_n {g z u : Nat → Nat} {X : Nat} (h : qE g z X) (hu : gv u 304 16 = m_neg (gv z 304 16) ∧ fr1 z u 304 16 ∧ ∀ j, u j < 65536) : qE g u (m_neg X) := ⟨by rw [hu.1, h.1], fun j hj => (hu.2.1 j (by omega)).trans (h.2.1 j hj), hu.2.2⟩

abbrev y_M_quotient : MethodName := ⟨"WideStackModel", "quotient", "(ZZ)V"⟩
theorem d_M_quotient_0 : decode prog_12_method_27_code 0 = .ok (.iload_n 1, 1) := by decide +kernel
theorem d_M_quotient_1 : decode prog_12_method_27_code 1 = .ok (.ifCond .eq 17, 3) := by decide +kernel
theorem d_M_quotient_4 : decode prog_12_method_27_code 4 = .ok (.aload_n 0, 1) := by decide +kernel
theorem d_M_quotient_5 : decode prog_12_method_27_code 5 = .ok (.sipush 256, 3) := by decide +kernel
theorem d_M_quotient_8 : decode prog_12_method_27_code 8 = .ok (.invokevirtual 53, 3) := by decide +kernel
theorem d_M_quotient_11 : decode prog_12_method_27_code 11 = .ok (.ifCond .eq 7, 3) := by decide +kernel
theorem d_M_quotient_14 : decode prog_12_method_27_code 14 = .ok (.iconst 1, 1) := by decide +kernel
theorem d_M_quotient_15 : decode prog_12_method_27_code 15 = .ok (.goto 4, 3) := by decide +kernel
theorem d_M_quotient_18 : decode prog_12_method_27_code 18 = .ok (.iconst 0, 1) := by decide +kernel
theorem d_M_quotient_19 : decode prog_12_method_27_code 19 = .ok (.istore_n 3, 1) := by decide +kernel
theorem d_M_quotient_20 : decode prog_12_method_27_code 20 = .ok (.iload_n 1, 1) := by decide +kernel
theorem d_M_quotient_21 : decode prog_12_method_27_code 21 = .ok (.ifCond .eq 17, 3) := by decide +kernel
theorem d_M_quotient_24 : decode prog_12_method_27_code 24 = .ok (.aload_n 0, 1) := by decide +kernel
theorem d_M_quotient_25 : decode prog_12_method_27_code 25 = .ok (.sipush 272, 3) := by decide +kernel
theorem d_M_quotient_28 : decode prog_12_method_27_code 28 = .ok (.invokevirtual 53, 3) := by decide +kernel
theorem d_M_quotient_31 : decode prog_12_method_27_code 31 = .ok (.ifCond .eq 7, 3) := by decide +kernel
theorem d_M_quotient_34 : decode prog_12_method_27_code 34 = .ok (.iconst 1, 1) := by decide +kernel
theorem d_M_quotient_35 : decode prog_12_method_27_code 35 = .ok (.goto 4, 3) := by decide +kernel
theorem d_M_quotient_38 : decode prog_12_method_27_code 38 = .ok (.iconst 0, 1) := by decide +kernel
theorem d_M_quotient_39 : decode prog_12_method_27_code 39 = .ok (.istore 4, 2) := by decide +kernel
theorem d_M_quotient_41 : decode prog_12_method_27_code 41 = .ok (.iload_n 3, 1) := by decide +kernel
theorem d_M_quotient_42 : decode prog_12_method_27_code 42 = .ok (.ifCond .eq 10, 3) := by decide +kernel
theorem d_M_quotient_45 : decode prog_12_method_27_code 45 = .ok (.aload_n 0, 1) := by decide +kernel
theorem d_M_quotient_46 : decode prog_12_method_27_code 46 = .ok (.sipush 256, 3) := by decide +kernel
theorem d_M_quotient_49 : decode prog_12_method_27_code 49 = .ok (.invokevirtual 72, 3) := by decide +kernel
theorem d_M_quotient_52 : decode prog_12_method_27_code 52 = .ok (.iload 4, 2) := by decide +kernel
theorem d_M_quotient_54 : decode prog_12_method_27_code 54 = .ok (.ifCond .eq 10, 3) := by decide +kernel
theorem d_M_quotient_57 : decode prog_12_method_27_code 57 = .ok (.aload_n 0, 1) := by decide +kernel
theorem d_M_quotient_58 : decode prog_12_method_27_code 58 = .ok (.sipush 272, 3) := by decide +kernel
theorem d_M_quotient_61 : decode prog_12_method_27_code 61 = .ok (.invokevirtual 72, 3) := by decide +kernel
theorem d_M_quotient_64 : decode prog_12_method_27_code 64 = .ok (.aload_n 0, 1) := by decide +kernel
theorem d_M_quotient_65 : decode prog_12_method_27_code 65 = .ok (.invokevirtual 75, 3) := by decide +kernel
theorem d_M_quotient_68 : decode prog_12_method_27_code 68 = .ok (.aload_n 0, 1) := by decide +kernel
theorem d_M_quotient_69 : decode prog_12_method_27_code 69 = .ok (.sipush 272, 3) := by decide +kernel
theorem d_M_quotient_72 : decode prog_12_method_27_code 72 = .ok (.invokevirtual 78, 3) := by decide +kernel
theorem d_M_quotient_75 : decode prog_12_method_27_code 75 = .ok (.iload_n 2, 1) := by decide +kernel
theorem d_M_quotient_76 : decode prog_12_method_27_code 76 = .ok (.ifCond .eq 13, 3) := by decide +kernel
theorem d_M_quotient_79 : decode prog_12_method_27_code 79 = .ok (.aload_n 0, 1) := by decide +kernel
theorem d_M_quotient_80 : decode prog_12_method_27_code 80 = .ok (.sipush 304, 3) := by decide +kernel
theorem d_M_quotient_83 : decode prog_12_method_27_code 83 = .ok (.sipush 353, 3) := by decide +kernel
theorem d_M_quotient_86 : decode prog_12_method_27_code 86 = .ok (.invokevirtual 81, 3) := by decide +kernel
theorem d_M_quotient_89 : decode prog_12_method_27_code 89 = .ok (.iload_n 2, 1) := by decide +kernel
theorem d_M_quotient_90 : decode prog_12_method_27_code 90 = .ok (.ifCond .eq 10, 3) := by decide +kernel
theorem d_M_quotient_93 : decode prog_12_method_27_code 93 = .ok (.iload_n 3, 1) := by decide +kernel
theorem d_M_quotient_94 : decode prog_12_method_27_code 94 = .ok (.ifCond .eq 19, 3) := by decide +kernel
theorem d_M_quotient_97 : decode prog_12_method_27_code 97 = .ok (.goto 9, 3) := by decide +kernel
theorem d_M_quotient_100 : decode prog_12_method_27_code 100 = .ok (.iload_n 3, 1) := by decide +kernel
theorem d_M_quotient_101 : decode prog_12_method_27_code 101 = .ok (.iload 4, 2) := by decide +kernel
theorem d_M_quotient_103 : decode prog_12_method_27_code 103 = .ok (.if_icmp .eq 10, 3) := by decide +kernel
theorem d_M_quotient_106 : decode prog_12_method_27_code 106 = .ok (.aload_n 0, 1) := by decide +kernel
theorem d_M_quotient_107 : decode prog_12_method_27_code 107 = .ok (.sipush 304, 3) := by decide +kernel
theorem d_M_quotient_110 : decode prog_12_method_27_code 110 = .ok (.invokevirtual 72, 3) := by decide +kernel
theorem d_M_quotient_113 : decode prog_12_method_27_code 113 = .ok (.return_, 1) := by decide +kernel
def rm_c_M_quotient : Room := { frames := 2, cells := 0, slots := 0, locals := 50 }
set_option maxHeartbeats 4000000 in
set_option maxRecDepth 100000 in
theorem c_M_quotient (l : Launch) (E : kE) (mo mb mm mw mh ml len en gas ctr siz hgt frm ret : Nat) (on ay : Bool) (g : Nat → Nat) (hg : ∀ j, g j < 65536) (sg rs : Bool) : Kv l y_M_quotient (kW y_M_quotient prog_12_method_27_code 5 (none)) rm_c_M_quotient E [.ref mo, .int (kb sg), .int (kb rs)] [(mo, .inr (8, [.int (nI len), .ref mb, .int (kb on), .int (nI en), .int (nI gas), .int (nI ctr), .int (nI siz), .int (nI hgt), .int (nI frm), .int (nI ret), .ref mm, .ref mw, .ref mh, .ref ml, .int (kb ay)])), (mw, .inl (E.2.1 0, 370, .inl (nF g)))] (S := Nat → Nat) (fun u => qE g u (m_quo sg rs (gv g 256 16) (gv g 272 16))) (fun u => [(mo, .inr (8, [.int (nI len), .ref mb, .int (kb on), .int (nI en), .int (nI gas), .int (nI ctr), .int (nI siz), .int (nI hgt), .int (nI frm), .int (nI ret), .ref mm, .ref mw, .ref mh, .ref ml, .int (kb ay)])), (mw, .inl (E.2.1 0, 370, .inl (nF u)))]) := by
  refine Kv.ofW (cc := prog_12_method_27_code) (maxL := 5) (by decide) (Nat.le_of_ble_eq_true rfl) ?_
  intro p e s m args below meth c A ls Q hx hb hts hown hml hK hG hA hP hD hS hl hret
  have hl : lv_has ls 5 [(0, .ref mo), (1, .int (kb sg)), (2, .int (kb rs))] := hl
  have hq : qS g g (gv g 256 16) (gv g 272 16) := ⟨rfl, rfl, fun _ _ => rfl, hg⟩
  cases sg
  · cases rs
    · skip
      refine lv_iload_n hx hb d_M_quotient_0 rfl (lv_at hl 1 rfl) ?_
      refine lv_if_eq (tgt := 18) hx hb d_M_quotient_1 (by decide) (fun h1 => ?_) (fun h1 => ?_)
      · refine lv_iconst (v := nI 0) hx hb d_M_quotient_18 (by decide) ?_
        refine lv_istore_n (lv' := [(3, .int (nI 0)), (0, .ref mo), (1, .int (kb false)), (2, .int (kb false))]) hx hb d_M_quotient_19 rfl hl (by decide) rfl (fun ls hl => ?_)
        refine lv_iload_n hx hb d_M_quotient_20 rfl (lv_at hl 2 rfl) ?_
        refine lv_if_eq (tgt := 38) hx hb d_M_quotient_21 (by decide) (fun h21 => ?_) (fun h21 => ?_)
        · refine lv_iconst (v := nI 0) hx hb d_M_quotient_38 (by decide) ?_
          refine lv_istore (lv' := [(4, .int (nI 0)), (3, .int (nI 0)), (0, .ref mo), (1, .int (kb false)), (2, .int (kb false))]) hx hb d_M_quotient_39 hl (by decide) rfl (fun ls hl => ?_)
          refine lv_iload_n hx hb d_M_quotient_41 rfl (lv_at hl 1 rfl) ?_
          refine kn_ifeq (tgt := 52) hx hb (by omega) d_M_quotient_42 (by decide) (fun h42 => ?_) (fun h42 => ?_)
          · refine lv_iload hx hb d_M_quotient_52 (lv_at hl 0 rfl) ?_
            refine kn_ifeq (tgt := 64) hx hb (by omega) d_M_quotient_54 (by decide) (fun h54 => ?_) (fun h54 => ?_)
            · refine lv_aload_n hx hb d_M_quotient_64 rfl (lv_at hl 2 rfl) ?_
              refine k_Vv (As := []) (rest := []) ⟨hx, hb, hml, hown, hts⟩ (c_M_alone l E mo mb mm mw mh ml len en gas ctr siz hgt frm ret on ay g hq.2.2.2) (k_cwV 0 hts t_926 t_928 t_48 t_71 t_929 (by decide +kernel) ⟨Nat.le_of_ble_eq_true rfl, Nat.le_of_ble_eq_true rfl⟩) hK hG hA hP hD hS [0, 1] rfl (by decide) 0 rfl rfl (fun _ => rfl) rfl hl.1 rfl (Nat.le_of_ble_eq_true rfl) d_M_quotient_65 ⟨Nat.zero_le _, Nat.zero_le _⟩ (fun u3 H locs hu3 hP hD hS => ?_)
              have hP : va_P E.1 vwCl [(mo, .inr (8, [.int (nI len), .ref mb, .int (kb on), .int (nI en), .int (nI gas), .int (nI ctr), .int (nI siz), .int (nI hgt), .int (nI frm), .int (nI ret), .ref mm, .ref mw, .ref mh, .ref ml, .int (kb ay)])), (mw, .inl (E.2.1 0, 370, .inl (nF u3)))] H := hP
              have hD : va_D A [(mo, .inr (8, [.int (nI len), .ref mb, .int (kb on), .int (nI en), .int (nI gas), .int (nI ctr), .int (nI siz), .int (nI hgt), .int (nI frm), .int (nI ret), .ref mm, .ref mw, .ref mh, .ref ml, .int (kb ay)])), (mw, .inl (E.2.1 0, 370, .inl (nF u3)))] := hD
              refine lv_aload_n hx hb d_M_quotient_68 rfl (lv_at hl 2 rfl) ?_
              refine lv_sipush (v := nI 272) hx hb d_M_quotient_69 (by decide) ?_
              refine k_Vv (As := [.int (nI 272)]) (rest := []) ⟨hx, hb, hml, hown, hts⟩ (c_M_divide l E mo mb mm mw mh ml len en gas ctr siz hgt frm ret on ay u3 hu3.2.2 272 (by decide)) (k_cwV 1 hts t_898 t_900 t_41 t_71 t_901 (by decide +kernel) ⟨Nat.le_of_ble_eq_true rfl, Nat.le_of_ble_eq_true rfl⟩) hK hG hA hP hD hS [0, 1] rfl (by decide) 0 rfl rfl (fun _ => rfl) rfl hl.1 rfl (Nat.le_of_ble_eq_true rfl) d_M_quotient_72 ⟨Nat.zero_le _, Nat.zero_le _⟩ (fun u4 H locs hu4 hP hD hS => ?_)
              have hP : va_P E.1 vwCl [(mo, .inr (8, [.int (nI len), .ref mb, .int (kb on), .int (nI en), .int (nI gas), .int (nI ctr), .int (nI siz), .int (nI hgt), .int (nI frm), .int (nI ret), .ref mm, .ref mw, .ref mh, .ref ml, .int (kb ay)])), (mw, .inl (E.2.1 0, 370, .inl (nF u4)))] H := hP
              have hD : va_D A [(mo, .inr (8, [.int (nI len), .ref mb, .int (kb on), .int (nI en), .int (nI gas), .int (nI ctr), .int (nI siz), .int (nI hgt), .int (nI frm), .int (nI ret), .ref mm, .ref mw, .ref mh, .ref ml, .int (kb ay)])), (mw, .inl (E.2.1 0, 370, .inl (nF u4)))] := hD
              have hq := q_d hq hu3 hu4
              have hq := q_e hq
              refine lv_iload_n hx hb d_M_quotient_75 rfl (lv_at hl 4 rfl) ?_
              refine lv_if_eq (tgt := 89) hx hb d_M_quotient_76 (by decide) (fun h76 => ?_) (fun h76 => ?_)
              · refine lv_iload_n hx hb d_M_quotient_89 rfl (lv_at hl 4 rfl) ?_
                refine lv_if_eq (tgt := 100) hx hb d_M_quotient_90 (by decide) (fun h90 => ?_) (fun h90 => ?_)
                · refine lv_iload_n hx hb d_M_quotient_100 rfl (lv_at hl 1 rfl) ?_
                  refine lv_iload hx hb d_M_quotient_101 (lv_at hl 0 rfl) ?_
                  refine kn_eq (tgt := 113) hx hb (by omega) (by omega) d_M_quotient_103 (by decide) (fun h103 => ?_) (fun h103 => ?_)
                  · exact hret _ ls _ _ (u4) d_M_quotient_113 ⟨q_ok (a := false) (b := false) (Bool.false_and _) (Bool.false_and _) (hq.1.trans (q2_000 _ _).symm), hq.2⟩ hP hS
                  · exact absurd rfl h103
                · exact absurd (by decide) h90
              · exact absurd (by decide) h76
            · exact absurd (by decide) h54
          · exact absurd (by decide) h42
        · exact absurd (by decide) h21
      · exact absurd (by decide) h1
    · skip
      refine lv_iload_n hx hb d_M_quotient_0 rfl (lv_at hl 1 rfl) ?_
      refine lv_if_eq (tgt := 18) hx hb d_M_quotient_1 (by decide) (fun h1 => ?_) (fun h1 => ?_)
      · refine lv_iconst (v := nI 0) hx hb d_M_quotient_18 (by decide) ?_
        refine lv_istore_n (lv' := [(3, .int (nI 0)), (0, .ref mo), (1, .int (kb false)), (2, .int (kb true))]) hx hb d_M_quotient_19 rfl hl (by decide) rfl (fun ls hl => ?_)
        refine lv_iload_n hx hb d_M_quotient_20 rfl (lv_at hl 2 rfl) ?_
        refine lv_if_eq (tgt := 38) hx hb d_M_quotient_21 (by decide) (fun h21 => ?_) (fun h21 => ?_)
        · refine lv_iconst (v := nI 0) hx hb d_M_quotient_38 (by decide) ?_
          refine lv_istore (lv' := [(4, .int (nI 0)), (3, .int (nI 0)), (0, .ref mo), (1, .int (kb false)), (2, .int (kb true))]) hx hb d_M_quotient_39 hl (by decide) rfl (fun ls hl => ?_)
          refine lv_iload_n hx hb d_M_quotient_41 rfl (lv_at hl 1 rfl) ?_
          refine kn_ifeq (tgt := 52) hx hb (by omega) d_M_quotient_42 (by decide) (fun h42 => ?_) (fun h42 => ?_)
          · refine lv_iload hx hb d_M_quotient_52 (lv_at hl 0 rfl) ?_
            refine kn_ifeq (tgt := 64) hx hb (by omega) d_M_quotient_54 (by decide) (fun h54 => ?_) (fun h54 => ?_)
            · refine lv_aload_n hx hb d_M_quotient_64 rfl (lv_at hl 2 rfl) ?_
              refine k_Vv (As := []) (rest := []) ⟨hx, hb, hml, hown, hts⟩ (c_M_alone l E mo mb mm mw mh ml len en gas ctr siz hgt frm ret on ay g hq.2.2.2) (k_cwV 0 hts t_926 t_928 t_48 t_71 t_929 (by decide +kernel) ⟨Nat.le_of_ble_eq_true rfl, Nat.le_of_ble_eq_true rfl⟩) hK hG hA hP hD hS [0, 1] rfl (by decide) 0 rfl rfl (fun _ => rfl) rfl hl.1 rfl (Nat.le_of_ble_eq_true rfl) d_M_quotient_65 ⟨Nat.zero_le _, Nat.zero_le _⟩ (fun u3 H locs hu3 hP hD hS => ?_)
              have hP : va_P E.1 vwCl [(mo, .inr (8, [.int (nI len), .ref mb, .int (kb on), .int (nI en), .int (nI gas), .int (nI ctr), .int (nI siz), .int (nI hgt), .int (nI frm), .int (nI ret), .ref mm, .ref mw, .ref mh, .ref ml, .int (kb ay)])), (mw, .inl (E.2.1 0, 370, .inl (nF u3)))] H := hP
              have hD : va_D A [(mo, .inr (8, [.int (nI len), .ref mb, .int (kb on), .int (nI en), .int (nI gas), .int (nI ctr), .int (nI siz), .int (nI hgt), .int (nI frm), .int (nI ret), .ref mm, .ref mw, .ref mh, .ref ml, .int (kb ay)])), (mw, .inl (E.2.1 0, 370, .inl (nF u3)))] := hD
              refine lv_aload_n hx hb d_M_quotient_68 rfl (lv_at hl 2 rfl) ?_
              refine lv_sipush (v := nI 272) hx hb d_M_quotient_69 (by decide) ?_
              refine k_Vv (As := [.int (nI 272)]) (rest := []) ⟨hx, hb, hml, hown, hts⟩ (c_M_divide l E mo mb mm mw mh ml len en gas ctr siz hgt frm ret on ay u3 hu3.2.2 272 (by decide)) (k_cwV 1 hts t_898 t_900 t_41 t_71 t_901 (by decide +kernel) ⟨Nat.le_of_ble_eq_true rfl, Nat.le_of_ble_eq_true rfl⟩) hK hG hA hP hD hS [0, 1] rfl (by decide) 0 rfl rfl (fun _ => rfl) rfl hl.1 rfl (Nat.le_of_ble_eq_true rfl) d_M_quotient_72 ⟨Nat.zero_le _, Nat.zero_le _⟩ (fun u4 H locs hu4 hP hD hS => ?_)
              have hP : va_P E.1 vwCl [(mo, .inr (8, [.int (nI len), .ref mb, .int (kb on), .int (nI en), .int (nI gas), .int (nI ctr), .int (nI siz), .int (nI hgt), .int (nI frm), .int (nI ret), .ref mm, .ref mw, .ref mh, .ref ml, .int (kb ay)])), (mw, .inl (E.2.1 0, 370, .inl (nF u4)))] H := hP
              have hD : va_D A [(mo, .inr (8, [.int (nI len), .ref mb, .int (kb on), .int (nI en), .int (nI gas), .int (nI ctr), .int (nI siz), .int (nI hgt), .int (nI frm), .int (nI ret), .ref mm, .ref mw, .ref mh, .ref ml, .int (kb ay)])), (mw, .inl (E.2.1 0, 370, .inl (nF u4)))] := hD
              have hq := q_d hq hu3 hu4
              refine lv_iload_n hx hb d_M_quotient_75 rfl (lv_at hl 4 rfl) ?_
              refine lv_if_eq (tgt := 89) hx hb d_M_quotient_76 (by decide) (fun h76 => ?_) (fun h76 => ?_)
              · exact absurd h76 (by decide)
              · refine lv_aload_n hx hb d_M_quotient_79 rfl (lv_at hl 2 rfl) ?_
                refine lv_sipush (v := nI 304) hx hb d_M_quotient_80 (by decide) ?_
                refine lv_sipush (v := nI 353) hx hb d_M_quotient_83 (by decide) ?_
                refine k_Vv (As := [.int (nI 304), .int (nI 353)]) (rest := []) ⟨hx, hb, hml, hown, hts⟩ (c_M_copy l E mo mb mm mw mh ml len en gas ctr siz hgt frm ret on ay u4 hq.2.2.2 304 353 (by decide) (by decide) (by decide)) (k_cwV 2 hts t_873 t_875 t_35 t_71 t_876 (by decide +kernel) ⟨Nat.le_of_ble_eq_true rfl, Nat.le_of_ble_eq_true rfl⟩) hK hG hA hP hD hS [0, 1] rfl (by decide) 0 rfl rfl (fun _ => rfl) rfl hl.1 rfl (Nat.le_of_ble_eq_true rfl) d_M_quotient_86 ⟨Nat.zero_le _, Nat.zero_le _⟩ (fun u6 H locs hu6 hP hD hS => ?_)
                have hP : va_P E.1 vwCl [(mo, .inr (8, [.int (nI len), .ref mb, .int (kb on), .int (nI en), .int (nI gas), .int (nI ctr), .int (nI siz), .int (nI hgt), .int (nI frm), .int (nI ret), .ref mm, .ref mw, .ref mh, .ref ml, .int (kb ay)])), (mw, .inl (E.2.1 0, 370, .inl (nF (cpy u4 304 353))))] H := hP
                have hD : va_D A [(mo, .inr (8, [.int (nI len), .ref mb, .int (kb on), .int (nI en), .int (nI gas), .int (nI ctr), .int (nI siz), .int (nI hgt), .int (nI frm), .int (nI ret), .ref mm, .ref mw, .ref mh, .ref ml, .int (kb ay)])), (mw, .inl (E.2.1 0, 370, .inl (nF (cpy u4 304 353))))] := hD
                have hq := q_r hq
                refine lv_iload_n hx hb d_M_quotient_89 rfl (lv_at hl 4 rfl) ?_
                refine lv_if_eq (tgt := 100) hx hb d_M_quotient_90 (by decide) (fun h90 => ?_) (fun h90 => ?_)
                · exact absurd h90 (by decide)
                · refine lv_iload_n hx hb d_M_quotient_93 rfl (lv_at hl 1 rfl) ?_
                  refine kn_ifeq (tgt := 113) hx hb (by omega) d_M_quotient_94 (by decide) (fun h94 => ?_) (fun h94 => ?_)
                  · exact hret _ ls _ _ (cpy u4 304 353) d_M_quotient_113 ⟨q_ok (a := false) (b := false) (Bool.false_and _) (Bool.false_and _) (hq.1.trans (q2_100 _ _).symm), hq.2⟩ hP hS
                  · exact absurd (by decide) h94
            · exact absurd (by decide) h54
          · exact absurd (by decide) h42
        · exact absurd (by decide) h21
      · exact absurd (by decide) h1
  · cases rs
    · skip
      refine lv_iload_n hx hb d_M_quotient_0 rfl (lv_at hl 1 rfl) ?_
      refine lv_if_eq (tgt := 18) hx hb d_M_quotient_1 (by decide) (fun h1 => ?_) (fun h1 => ?_)
      · exact absurd h1 (by decide)
      · refine lv_aload_n hx hb d_M_quotient_4 rfl (lv_at hl 0 rfl) ?_
        refine lv_sipush (v := nI 256) hx hb d_M_quotient_5 (by decide) ?_
        refine k_Vp (As := [.int (nI 256)]) (rest := []) ⟨hx, hb, hml, hown, hts⟩ (c_M_isNegative l E mo mb mm mw mh ml len en gas ctr siz hgt frm ret on ay g hg 256 (by decide)) (k_cwV 1 hts t_922 t_924 t_47 t_71 t_925 (by decide +kernel) ⟨Nat.le_of_ble_eq_true rfl, Nat.le_of_ble_eq_true rfl⟩) hK hG hA hP hD hS [0, 1] rfl (by decide) 0 rfl rfl rfl hl.1 rfl (Nat.le_of_ble_eq_true rfl) d_M_quotient_8 ⟨Nat.zero_le _, Nat.zero_le _⟩ (fun r8 hu8 => ?_)
        subst hu8
        refine lv_if_eq (tgt := 18) hx hb d_M_quotient_11 (by decide) (fun h11 => ?_) (fun h11 => ?_)
        · refine lv_iconst (v := nI 0) hx hb d_M_quotient_18 (by decide) ?_
          refine lv_istore_n (lv' := [(3, .int (nI 0)), (0, .ref mo), (1, .int (kb true)), (2, .int (kb false))]) hx hb d_M_quotient_19 rfl hl (by decide) rfl (fun ls hl => ?_)
          refine lv_iload_n hx hb d_M_quotient_20 rfl (lv_at hl 2 rfl) ?_
          refine lv_if_eq (tgt := 38) hx hb d_M_quotient_21 (by decide) (fun h21 => ?_) (fun h21 => ?_)
          · exact absurd h21 (by decide)
          · refine lv_aload_n hx hb d_M_quotient_24 rfl (lv_at hl 1 rfl) ?_
            refine lv_sipush (v := nI 272) hx hb d_M_quotient_25 (by decide) ?_
            refine k_Vp (As := [.int (nI 272)]) (rest := []) ⟨hx, hb, hml, hown, hts⟩ (c_M_isNegative l E mo mb mm mw mh ml len en gas ctr siz hgt frm ret on ay g hg 272 (by decide)) (k_cwV 1 hts t_922 t_924 t_47 t_71 t_925 (by decide +kernel) ⟨Nat.le_of_ble_eq_true rfl, Nat.le_of_ble_eq_true rfl⟩) hK hG hA hP hD hS [0, 1] rfl (by decide) 0 rfl rfl rfl hl.1 rfl (Nat.le_of_ble_eq_true rfl) d_M_quotient_28 ⟨Nat.zero_le _, Nat.zero_le _⟩ (fun r28 hu28 => ?_)
            subst hu28
            refine lv_if_eq (tgt := 38) hx hb d_M_quotient_31 (by decide) (fun h31 => ?_) (fun h31 => ?_)
            · refine lv_iconst (v := nI 0) hx hb d_M_quotient_38 (by decide) ?_
              refine lv_istore (lv' := [(4, .int (nI 0)), (3, .int (nI 0)), (0, .ref mo), (1, .int (kb true)), (2, .int (kb false))]) hx hb d_M_quotient_39 hl (by decide) rfl (fun ls hl => ?_)
              refine lv_iload_n hx hb d_M_quotient_41 rfl (lv_at hl 1 rfl) ?_
              refine kn_ifeq (tgt := 52) hx hb (by omega) d_M_quotient_42 (by decide) (fun h42 => ?_) (fun h42 => ?_)
              · refine lv_iload hx hb d_M_quotient_52 (lv_at hl 0 rfl) ?_
                refine kn_ifeq (tgt := 64) hx hb (by omega) d_M_quotient_54 (by decide) (fun h54 => ?_) (fun h54 => ?_)
                · refine lv_aload_n hx hb d_M_quotient_64 rfl (lv_at hl 2 rfl) ?_
                  refine k_Vv (As := []) (rest := []) ⟨hx, hb, hml, hown, hts⟩ (c_M_alone l E mo mb mm mw mh ml len en gas ctr siz hgt frm ret on ay g hq.2.2.2) (k_cwV 0 hts t_926 t_928 t_48 t_71 t_929 (by decide +kernel) ⟨Nat.le_of_ble_eq_true rfl, Nat.le_of_ble_eq_true rfl⟩) hK hG hA hP hD hS [0, 1] rfl (by decide) 0 rfl rfl (fun _ => rfl) rfl hl.1 rfl (Nat.le_of_ble_eq_true rfl) d_M_quotient_65 ⟨Nat.zero_le _, Nat.zero_le _⟩ (fun u3 H locs hu3 hP hD hS => ?_)
                  have hP : va_P E.1 vwCl [(mo, .inr (8, [.int (nI len), .ref mb, .int (kb on), .int (nI en), .int (nI gas), .int (nI ctr), .int (nI siz), .int (nI hgt), .int (nI frm), .int (nI ret), .ref mm, .ref mw, .ref mh, .ref ml, .int (kb ay)])), (mw, .inl (E.2.1 0, 370, .inl (nF u3)))] H := hP
                  have hD : va_D A [(mo, .inr (8, [.int (nI len), .ref mb, .int (kb on), .int (nI en), .int (nI gas), .int (nI ctr), .int (nI siz), .int (nI hgt), .int (nI frm), .int (nI ret), .ref mm, .ref mw, .ref mh, .ref ml, .int (kb ay)])), (mw, .inl (E.2.1 0, 370, .inl (nF u3)))] := hD
                  refine lv_aload_n hx hb d_M_quotient_68 rfl (lv_at hl 2 rfl) ?_
                  refine lv_sipush (v := nI 272) hx hb d_M_quotient_69 (by decide) ?_
                  refine k_Vv (As := [.int (nI 272)]) (rest := []) ⟨hx, hb, hml, hown, hts⟩ (c_M_divide l E mo mb mm mw mh ml len en gas ctr siz hgt frm ret on ay u3 hu3.2.2 272 (by decide)) (k_cwV 1 hts t_898 t_900 t_41 t_71 t_901 (by decide +kernel) ⟨Nat.le_of_ble_eq_true rfl, Nat.le_of_ble_eq_true rfl⟩) hK hG hA hP hD hS [0, 1] rfl (by decide) 0 rfl rfl (fun _ => rfl) rfl hl.1 rfl (Nat.le_of_ble_eq_true rfl) d_M_quotient_72 ⟨Nat.zero_le _, Nat.zero_le _⟩ (fun u4 H locs hu4 hP hD hS => ?_)
                  have hP : va_P E.1 vwCl [(mo, .inr (8, [.int (nI len), .ref mb, .int (kb on), .int (nI en), .int (nI gas), .int (nI ctr), .int (nI siz), .int (nI hgt), .int (nI frm), .int (nI ret), .ref mm, .ref mw, .ref mh, .ref ml, .int (kb ay)])), (mw, .inl (E.2.1 0, 370, .inl (nF u4)))] H := hP
                  have hD : va_D A [(mo, .inr (8, [.int (nI len), .ref mb, .int (kb on), .int (nI en), .int (nI gas), .int (nI ctr), .int (nI siz), .int (nI hgt), .int (nI frm), .int (nI ret), .ref mm, .ref mw, .ref mh, .ref ml, .int (kb ay)])), (mw, .inl (E.2.1 0, 370, .inl (nF u4)))] := hD
                  have hq := q_d hq hu3 hu4
                  have hq := q_e hq
                  refine lv_iload_n hx hb d_M_quotient_75 rfl (lv_at hl 4 rfl) ?_
                  refine lv_if_eq (tgt := 89) hx hb d_M_quotient_76 (by decide) (fun h76 => ?_) (fun h76 => ?_)
                  · refine lv_iload_n hx hb d_M_quotient_89 rfl (lv_at hl 4 rfl) ?_
                    refine lv_if_eq (tgt := 100) hx hb d_M_quotient_90 (by decide) (fun h90 => ?_) (fun h90 => ?_)
                    · refine lv_iload_n hx hb d_M_quotient_100 rfl (lv_at hl 1 rfl) ?_
                      refine lv_iload hx hb d_M_quotient_101 (lv_at hl 0 rfl) ?_
                      refine kn_eq (tgt := 113) hx hb (by omega) (by omega) d_M_quotient_103 (by decide) (fun h103 => ?_) (fun h103 => ?_)
                      · exact hret _ ls _ _ (u4) d_M_quotient_113 ⟨q_ok (a := false) (b := false) ((Bool.true_and _).trans (by first | exact kb_n0 h11 | exact kb_0.mp h11)) ((Bool.true_and _).trans (by first | exact kb_n0 h31 | exact kb_0.mp h31)) (hq.1.trans (q2_000 _ _).symm), hq.2⟩ hP hS
                      · exact absurd rfl h103
                    · exact absurd (by decide) h90
                  · exact absurd (by decide) h76
                · exact absurd (by decide) h54
              · exact absurd (by decide) h42
            · refine lv_iconst (v := nI 1) hx hb d_M_quotient_34 (by decide) ?_
              refine lv_goto (tgt := 39) hx hb d_M_quotient_35 (by decide) ?_
              refine lv_istore (lv' := [(4, .int (nI 1)), (3, .int (nI 0)), (0, .ref mo), (1, .int (kb true)), (2, .int (kb false))]) hx hb d_M_quotient_39 hl (by decide) rfl (fun ls hl => ?_)
              refine lv_iload_n hx hb d_M_quotient_41 rfl (lv_at hl 1 rfl) ?_
              refine kn_ifeq (tgt := 52) hx hb (by omega) d_M_quotient_42 (by decide) (fun h42 => ?_) (fun h42 => ?_)
              · refine lv_iload hx hb d_M_quotient_52 (lv_at hl 0 rfl) ?_
                refine kn_ifeq (tgt := 64) hx hb (by omega) d_M_quotient_54 (by decide) (fun h54 => ?_) (fun h54 => ?_)
                · exact absurd h54 (by decide)
                · refine lv_aload_n hx hb d_M_quotient_57 rfl (lv_at hl 2 rfl) ?_
                  refine lv_sipush (v := nI 272) hx hb d_M_quotient_58 (by decide) ?_
                  refine k_Vv (As := [.int (nI 272)]) (rest := []) ⟨hx, hb, hml, hown, hts⟩ (c_M_negate l E mo mb mm mw mh ml len en gas ctr siz hgt frm ret on ay g hq.2.2.2 272 (by decide)) (k_cwV 1 hts t_885 t_887 t_38 t_71 t_888 (by decide +kernel) ⟨Nat.le_of_ble_eq_true rfl, Nat.le_of_ble_eq_true rfl⟩) hK hG hA hP hD hS [0, 1] rfl (by decide) 0 rfl rfl (fun _ => rfl) rfl hl.1 rfl (Nat.le_of_ble_eq_true rfl) d_M_quotient_61 ⟨Nat.zero_le _, Nat.zero_le _⟩ (fun u2 H locs hu2 hP hD hS => ?_)
                  have hP : va_P E.1 vwCl [(mo, .inr (8, [.int (nI len), .ref mb, .int (kb on), .int (nI en), .int (nI gas), .int (nI ctr), .int (nI siz), .int (nI hgt), .int (nI frm), .int (nI ret), .ref mm, .ref mw, .ref mh, .ref ml, .int (kb ay)])), (mw, .inl (E.2.1 0, 370, .inl (nF u2)))] H := hP
                  have hD : va_D A [(mo, .inr (8, [.int (nI len), .ref mb, .int (kb on), .int (nI en), .int (nI gas), .int (nI ctr), .int (nI siz), .int (nI hgt), .int (nI frm), .int (nI ret), .ref mm, .ref mw, .ref mh, .ref ml, .int (kb ay)])), (mw, .inl (E.2.1 0, 370, .inl (nF u2)))] := hD
                  have hq := q_b hq hu2
                  refine lv_aload_n hx hb d_M_quotient_64 rfl (lv_at hl 2 rfl) ?_
                  refine k_Vv (As := []) (rest := []) ⟨hx, hb, hml, hown, hts⟩ (c_M_alone l E mo mb mm mw mh ml len en gas ctr siz hgt frm ret on ay u2 hq.2.2.2) (k_cwV 0 hts t_926 t_928 t_48 t_71 t_929 (by decide +kernel) ⟨Nat.le_of_ble_eq_true rfl, Nat.le_of_ble_eq_true rfl⟩) hK hG hA hP hD hS [0, 1] rfl (by decide) 0 rfl rfl (fun _ => rfl) rfl hl.1 rfl (Nat.le_of_ble_eq_true rfl) d_M_quotient_65 ⟨Nat.zero_le _, Nat.zero_le _⟩ (fun u3 H locs hu3 hP hD hS => ?_)
                  have hP : va_P E.1 vwCl [(mo, .inr (8, [.int (nI len), .ref mb, .int (kb on), .int (nI en), .int (nI gas), .int (nI ctr), .int (nI siz), .int (nI hgt), .int (nI frm), .int (nI ret), .ref mm, .ref mw, .ref mh, .ref ml, .int (kb ay)])), (mw, .inl (E.2.1 0, 370, .inl (nF u3)))] H := hP
                  have hD : va_D A [(mo, .inr (8, [.int (nI len), .ref mb, .int (kb on), .int (nI en), .int (nI gas), .int (nI ctr), .int (nI siz), .int (nI hgt), .int (nI frm), .int (nI ret), .ref mm, .ref mw, .ref mh, .ref ml, .int (kb ay)])), (mw, .inl (E.2.1 0, 370, .inl (nF u3)))] := hD
                  refine lv_aload_n hx hb d_M_quotient_68 rfl (lv_at hl 2 rfl) ?_
                  refine lv_sipush (v := nI 272) hx hb d_M_quotient_69 (by decide) ?_
                  refine k_Vv (As := [.int (nI 272)]) (rest := []) ⟨hx, hb, hml, hown, hts⟩ (c_M_divide l E mo mb mm mw mh ml len en gas ctr siz hgt frm ret on ay u3 hu3.2.2 272 (by decide)) (k_cwV 1 hts t_898 t_900 t_41 t_71 t_901 (by decide +kernel) ⟨Nat.le_of_ble_eq_true rfl, Nat.le_of_ble_eq_true rfl⟩) hK hG hA hP hD hS [0, 1] rfl (by decide) 0 rfl rfl (fun _ => rfl) rfl hl.1 rfl (Nat.le_of_ble_eq_true rfl) d_M_quotient_72 ⟨Nat.zero_le _, Nat.zero_le _⟩ (fun u4 H locs hu4 hP hD hS => ?_)
                  have hP : va_P E.1 vwCl [(mo, .inr (8, [.int (nI len), .ref mb, .int (kb on), .int (nI en), .int (nI gas), .int (nI ctr), .int (nI siz), .int (nI hgt), .int (nI frm), .int (nI ret), .ref mm, .ref mw, .ref mh, .ref ml, .int (kb ay)])), (mw, .inl (E.2.1 0, 370, .inl (nF u4)))] H := hP
                  have hD : va_D A [(mo, .inr (8, [.int (nI len), .ref mb, .int (kb on), .int (nI en), .int (nI gas), .int (nI ctr), .int (nI siz), .int (nI hgt), .int (nI frm), .int (nI ret), .ref mm, .ref mw, .ref mh, .ref ml, .int (kb ay)])), (mw, .inl (E.2.1 0, 370, .inl (nF u4)))] := hD
                  have hq := q_d hq hu3 hu4
                  have hq := q_e hq
                  refine lv_iload_n hx hb d_M_quotient_75 rfl (lv_at hl 4 rfl) ?_
                  refine lv_if_eq (tgt := 89) hx hb d_M_quotient_76 (by decide) (fun h76 => ?_) (fun h76 => ?_)
                  · refine lv_iload_n hx hb d_M_quotient_89 rfl (lv_at hl 4 rfl) ?_
                    refine lv_if_eq (tgt := 100) hx hb d_M_quotient_90 (by decide) (fun h90 => ?_) (fun h90 => ?_)
                    · refine lv_iload_n hx hb d_M_quotient_100 rfl (lv_at hl 1 rfl) ?_
                      refine lv_iload hx hb d_M_quotient_101 (lv_at hl 0 rfl) ?_
                      refine kn_eq (tgt := 113) hx hb (by omega) (by omega) d_M_quotient_103 (by decide) (fun h103 => ?_) (fun h103 => ?_)
                      · exact absurd h103 (by decide)
                      · refine lv_aload_n hx hb d_M_quotient_106 rfl (lv_at hl 2 rfl) ?_
                        refine lv_sipush (v := nI 304) hx hb d_M_quotient_107 (by decide) ?_
                        refine k_Vv (As := [.int (nI 304)]) (rest := []) ⟨hx, hb, hml, hown, hts⟩ (c_M_negate l E mo mb mm mw mh ml len en gas ctr siz hgt frm ret on ay u4 hq.2.2 304 (by decide)) (k_cwV 1 hts t_885 t_887 t_38 t_71 t_888 (by decide +kernel) ⟨Nat.le_of_ble_eq_true rfl, Nat.le_of_ble_eq_true rfl⟩) hK hG hA hP hD hS [0, 1] rfl (by decide) 0 rfl rfl (fun _ => rfl) rfl hl.1 rfl (Nat.le_of_ble_eq_true rfl) d_M_quotient_110 ⟨Nat.zero_le _, Nat.zero_le _⟩ (fun u5 H locs hu5 hP hD hS => ?_)
                        have hP : va_P E.1 vwCl [(mo, .inr (8, [.int (nI len), .ref mb, .int (kb on), .int (nI en), .int (nI gas), .int (nI ctr), .int (nI siz), .int (nI hgt), .int (nI frm), .int (nI ret), .ref mm, .ref mw, .ref mh, .ref ml, .int (kb ay)])), (mw, .inl (E.2.1 0, 370, .inl (nF u5)))] H := hP
                        have hD : va_D A [(mo, .inr (8, [.int (nI len), .ref mb, .int (kb on), .int (nI en), .int (nI gas), .int (nI ctr), .int (nI siz), .int (nI hgt), .int (nI frm), .int (nI ret), .ref mm, .ref mw, .ref mh, .ref ml, .int (kb ay)])), (mw, .inl (E.2.1 0, 370, .inl (nF u5)))] := hD
                        have hq := q_n hq hu5
                        exact hret _ ls _ _ (u5) d_M_quotient_113 ⟨q_ok (a := false) (b := true) ((Bool.true_and _).trans (by first | exact kb_n0 h11 | exact kb_0.mp h11)) ((Bool.true_and _).trans (by first | exact kb_n0 h31 | exact kb_0.mp h31)) (hq.1.trans (q2_001 _ _).symm), hq.2⟩ hP hS
                    · exact absurd (by decide) h90
                  · exact absurd (by decide) h76
              · exact absurd (by decide) h42
        · refine lv_iconst (v := nI 1) hx hb d_M_quotient_14 (by decide) ?_
          refine lv_goto (tgt := 19) hx hb d_M_quotient_15 (by decide) ?_
          refine lv_istore_n (lv' := [(3, .int (nI 1)), (0, .ref mo), (1, .int (kb true)), (2, .int (kb false))]) hx hb d_M_quotient_19 rfl hl (by decide) rfl (fun ls hl => ?_)
          refine lv_iload_n hx hb d_M_quotient_20 rfl (lv_at hl 2 rfl) ?_
          refine lv_if_eq (tgt := 38) hx hb d_M_quotient_21 (by decide) (fun h21 => ?_) (fun h21 => ?_)
          · exact absurd h21 (by decide)
          · refine lv_aload_n hx hb d_M_quotient_24 rfl (lv_at hl 1 rfl) ?_
            refine lv_sipush (v := nI 272) hx hb d_M_quotient_25 (by decide) ?_
            refine k_Vp (As := [.int (nI 272)]) (rest := []) ⟨hx, hb, hml, hown, hts⟩ (c_M_isNegative l E mo mb mm mw mh ml len en gas ctr siz hgt frm ret on ay g hg 272 (by decide)) (k_cwV 1 hts t_922 t_924 t_47 t_71 t_925 (by decide +kernel) ⟨Nat.le_of_ble_eq_true rfl, Nat.le_of_ble_eq_true rfl⟩) hK hG hA hP hD hS [0, 1] rfl (by decide) 0 rfl rfl rfl hl.1 rfl (Nat.le_of_ble_eq_true rfl) d_M_quotient_28 ⟨Nat.zero_le _, Nat.zero_le _⟩ (fun r28 hu28 => ?_)
            subst hu28
            refine lv_if_eq (tgt := 38) hx hb d_M_quotient_31 (by decide) (fun h31 => ?_) (fun h31 => ?_)
            · refine lv_iconst (v := nI 0) hx hb d_M_quotient_38 (by decide) ?_
              refine lv_istore (lv' := [(4, .int (nI 0)), (3, .int (nI 1)), (0, .ref mo), (1, .int (kb true)), (2, .int (kb false))]) hx hb d_M_quotient_39 hl (by decide) rfl (fun ls hl => ?_)
              refine lv_iload_n hx hb d_M_quotient_41 rfl (lv_at hl 1 rfl) ?_
              refine kn_ifeq (tgt := 52) hx hb (by omega) d_M_quotient_42 (by decide) (fun h42 => ?_) (fun h42 => ?_)
              · exact absurd h42 (by decide)
              · refine lv_aload_n hx hb d_M_quotient_45 rfl (lv_at hl 2 rfl) ?_
                refine lv_sipush (v := nI 256) hx hb d_M_quotient_46 (by decide) ?_
                refine k_Vv (As := [.int (nI 256)]) (rest := []) ⟨hx, hb, hml, hown, hts⟩ (c_M_negate l E mo mb mm mw mh ml len en gas ctr siz hgt frm ret on ay g hg 256 (by decide)) (k_cwV 1 hts t_885 t_887 t_38 t_71 t_888 (by decide +kernel) ⟨Nat.le_of_ble_eq_true rfl, Nat.le_of_ble_eq_true rfl⟩) hK hG hA hP hD hS [0, 1] rfl (by decide) 0 rfl rfl (fun _ => rfl) rfl hl.1 rfl (Nat.le_of_ble_eq_true rfl) d_M_quotient_49 ⟨Nat.zero_le _, Nat.zero_le _⟩ (fun u1 H locs hu1 hP hD hS => ?_)
                have hP : va_P E.1 vwCl [(mo, .inr (8, [.int (nI len), .ref mb, .int (kb on), .int (nI en), .int (nI gas), .int (nI ctr), .int (nI siz), .int (nI hgt), .int (nI frm), .int (nI ret), .ref mm, .ref mw, .ref mh, .ref ml, .int (kb ay)])), (mw, .inl (E.2.1 0, 370, .inl (nF u1)))] H := hP
                have hD : va_D A [(mo, .inr (8, [.int (nI len), .ref mb, .int (kb on), .int (nI en), .int (nI gas), .int (nI ctr), .int (nI siz), .int (nI hgt), .int (nI frm), .int (nI ret), .ref mm, .ref mw, .ref mh, .ref ml, .int (kb ay)])), (mw, .inl (E.2.1 0, 370, .inl (nF u1)))] := hD
                have hq := q_a hq hu1
                refine lv_iload hx hb d_M_quotient_52 (lv_at hl 0 rfl) ?_
                refine kn_ifeq (tgt := 64) hx hb (by omega) d_M_quotient_54 (by decide) (fun h54 => ?_) (fun h54 => ?_)
                · refine lv_aload_n hx hb d_M_quotient_64 rfl (lv_at hl 2 rfl) ?_
                  refine k_Vv (As := []) (rest := []) ⟨hx, hb, hml, hown, hts⟩ (c_M_alone l E mo mb mm mw mh ml len en gas ctr siz hgt frm ret on ay u1 hq.2.2.2) (k_cwV 0 hts t_926 t_928 t_48 t_71 t_929 (by decide +kernel) ⟨Nat.le_of_ble_eq_true rfl, Nat.le_of_ble_eq_true rfl⟩) hK hG hA hP hD hS [0, 1] rfl (by decide) 0 rfl rfl (fun _ => rfl) rfl hl.1 rfl (Nat.le_of_ble_eq_true rfl) d_M_quotient_65 ⟨Nat.zero_le _, Nat.zero_le _⟩ (fun u3 H locs hu3 hP hD hS => ?_)
                  have hP : va_P E.1 vwCl [(mo, .inr (8, [.int (nI len), .ref mb, .int (kb on), .int (nI en), .int (nI gas), .int (nI ctr), .int (nI siz), .int (nI hgt), .int (nI frm), .int (nI ret), .ref mm, .ref mw, .ref mh, .ref ml, .int (kb ay)])), (mw, .inl (E.2.1 0, 370, .inl (nF u3)))] H := hP
                  have hD : va_D A [(mo, .inr (8, [.int (nI len), .ref mb, .int (kb on), .int (nI en), .int (nI gas), .int (nI ctr), .int (nI siz), .int (nI hgt), .int (nI frm), .int (nI ret), .ref mm, .ref mw, .ref mh, .ref ml, .int (kb ay)])), (mw, .inl (E.2.1 0, 370, .inl (nF u3)))] := hD
                  refine lv_aload_n hx hb d_M_quotient_68 rfl (lv_at hl 2 rfl) ?_
                  refine lv_sipush (v := nI 272) hx hb d_M_quotient_69 (by decide) ?_
                  refine k_Vv (As := [.int (nI 272)]) (rest := []) ⟨hx, hb, hml, hown, hts⟩ (c_M_divide l E mo mb mm mw mh ml len en gas ctr siz hgt frm ret on ay u3 hu3.2.2 272 (by decide)) (k_cwV 1 hts t_898 t_900 t_41 t_71 t_901 (by decide +kernel) ⟨Nat.le_of_ble_eq_true rfl, Nat.le_of_ble_eq_true rfl⟩) hK hG hA hP hD hS [0, 1] rfl (by decide) 0 rfl rfl (fun _ => rfl) rfl hl.1 rfl (Nat.le_of_ble_eq_true rfl) d_M_quotient_72 ⟨Nat.zero_le _, Nat.zero_le _⟩ (fun u4 H locs hu4 hP hD hS => ?_)
                  have hP : va_P E.1 vwCl [(mo, .inr (8, [.int (nI len), .ref mb, .int (kb on), .int (nI en), .int (nI gas), .int (nI ctr), .int (nI siz), .int (nI hgt), .int (nI frm), .int (nI ret), .ref mm, .ref mw, .ref mh, .ref ml, .int (kb ay)])), (mw, .inl (E.2.1 0, 370, .inl (nF u4)))] H := hP
                  have hD : va_D A [(mo, .inr (8, [.int (nI len), .ref mb, .int (kb on), .int (nI en), .int (nI gas), .int (nI ctr), .int (nI siz), .int (nI hgt), .int (nI frm), .int (nI ret), .ref mm, .ref mw, .ref mh, .ref ml, .int (kb ay)])), (mw, .inl (E.2.1 0, 370, .inl (nF u4)))] := hD
                  have hq := q_d hq hu3 hu4
                  have hq := q_e hq
                  refine lv_iload_n hx hb d_M_quotient_75 rfl (lv_at hl 4 rfl) ?_
                  refine lv_if_eq (tgt := 89) hx hb d_M_quotient_76 (by decide) (fun h76 => ?_) (fun h76 => ?_)
                  · refine lv_iload_n hx hb d_M_quotient_89 rfl (lv_at hl 4 rfl) ?_
                    refine lv_if_eq (tgt := 100) hx hb d_M_quotient_90 (by decide) (fun h90 => ?_) (fun h90 => ?_)
                    · refine lv_iload_n hx hb d_M_quotient_100 rfl (lv_at hl 1 rfl) ?_
                      refine lv_iload hx hb d_M_quotient_101 (lv_at hl 0 rfl) ?_
                      refine kn_eq (tgt := 113) hx hb (by omega) (by omega) d_M_quotient_103 (by decide) (fun h103 => ?_) (fun h103 => ?_)
                      · exact absurd h103 (by decide)
                      · refine lv_aload_n hx hb d_M_quotient_106 rfl (lv_at hl 2 rfl) ?_
                        refine lv_sipush (v := nI 304) hx hb d_M_quotient_107 (by decide) ?_
                        refine k_Vv (As := [.int (nI 304)]) (rest := []) ⟨hx, hb, hml, hown, hts⟩ (c_M_negate l E mo mb mm mw mh ml len en gas ctr siz hgt frm ret on ay u4 hq.2.2 304 (by decide)) (k_cwV 1 hts t_885 t_887 t_38 t_71 t_888 (by decide +kernel) ⟨Nat.le_of_ble_eq_true rfl, Nat.le_of_ble_eq_true rfl⟩) hK hG hA hP hD hS [0, 1] rfl (by decide) 0 rfl rfl (fun _ => rfl) rfl hl.1 rfl (Nat.le_of_ble_eq_true rfl) d_M_quotient_110 ⟨Nat.zero_le _, Nat.zero_le _⟩ (fun u5 H locs hu5 hP hD hS => ?_)
                        have hP : va_P E.1 vwCl [(mo, .inr (8, [.int (nI len), .ref mb, .int (kb on), .int (nI en), .int (nI gas), .int (nI ctr), .int (nI siz), .int (nI hgt), .int (nI frm), .int (nI ret), .ref mm, .ref mw, .ref mh, .ref ml, .int (kb ay)])), (mw, .inl (E.2.1 0, 370, .inl (nF u5)))] H := hP
                        have hD : va_D A [(mo, .inr (8, [.int (nI len), .ref mb, .int (kb on), .int (nI en), .int (nI gas), .int (nI ctr), .int (nI siz), .int (nI hgt), .int (nI frm), .int (nI ret), .ref mm, .ref mw, .ref mh, .ref ml, .int (kb ay)])), (mw, .inl (E.2.1 0, 370, .inl (nF u5)))] := hD
                        have hq := q_n hq hu5
                        exact hret _ ls _ _ (u5) d_M_quotient_113 ⟨q_ok (a := true) (b := false) ((Bool.true_and _).trans (by first | exact kb_n0 h11 | exact kb_0.mp h11)) ((Bool.true_and _).trans (by first | exact kb_n0 h31 | exact kb_0.mp h31)) (hq.1.trans (q2_010 _ _).symm), hq.2⟩ hP hS
                    · exact absurd (by decide) h90
                  · exact absurd (by decide) h76
                · exact absurd (by decide) h54
            · refine lv_iconst (v := nI 1) hx hb d_M_quotient_34 (by decide) ?_
              refine lv_goto (tgt := 39) hx hb d_M_quotient_35 (by decide) ?_
              refine lv_istore (lv' := [(4, .int (nI 1)), (3, .int (nI 1)), (0, .ref mo), (1, .int (kb true)), (2, .int (kb false))]) hx hb d_M_quotient_39 hl (by decide) rfl (fun ls hl => ?_)
              refine lv_iload_n hx hb d_M_quotient_41 rfl (lv_at hl 1 rfl) ?_
              refine kn_ifeq (tgt := 52) hx hb (by omega) d_M_quotient_42 (by decide) (fun h42 => ?_) (fun h42 => ?_)
              · exact absurd h42 (by decide)
              · refine lv_aload_n hx hb d_M_quotient_45 rfl (lv_at hl 2 rfl) ?_
                refine lv_sipush (v := nI 256) hx hb d_M_quotient_46 (by decide) ?_
                refine k_Vv (As := [.int (nI 256)]) (rest := []) ⟨hx, hb, hml, hown, hts⟩ (c_M_negate l E mo mb mm mw mh ml len en gas ctr siz hgt frm ret on ay g hg 256 (by decide)) (k_cwV 1 hts t_885 t_887 t_38 t_71 t_888 (by decide +kernel) ⟨Nat.le_of_ble_eq_true rfl, Nat.le_of_ble_eq_true rfl⟩) hK hG hA hP hD hS [0, 1] rfl (by decide) 0 rfl rfl (fun _ => rfl) rfl hl.1 rfl (Nat.le_of_ble_eq_true rfl) d_M_quotient_49 ⟨Nat.zero_le _, Nat.zero_le _⟩ (fun u1 H locs hu1 hP hD hS => ?_)
                have hP : va_P E.1 vwCl [(mo, .inr (8, [.int (nI len), .ref mb, .int (kb on), .int (nI en), .int (nI gas), .int (nI ctr), .int (nI siz), .int (nI hgt), .int (nI frm), .int (nI ret), .ref mm, .ref mw, .ref mh, .ref ml, .int (kb ay)])), (mw, .inl (E.2.1 0, 370, .inl (nF u1)))] H := hP
                have hD : va_D A [(mo, .inr (8, [.int (nI len), .ref mb, .int (kb on), .int (nI en), .int (nI gas), .int (nI ctr), .int (nI siz), .int (nI hgt), .int (nI frm), .int (nI ret), .ref mm, .ref mw, .ref mh, .ref ml, .int (kb ay)])), (mw, .inl (E.2.1 0, 370, .inl (nF u1)))] := hD
                have hq := q_a hq hu1
                refine lv_iload hx hb d_M_quotient_52 (lv_at hl 0 rfl) ?_
                refine kn_ifeq (tgt := 64) hx hb (by omega) d_M_quotient_54 (by decide) (fun h54 => ?_) (fun h54 => ?_)
                · exact absurd h54 (by decide)
                · refine lv_aload_n hx hb d_M_quotient_57 rfl (lv_at hl 2 rfl) ?_
                  refine lv_sipush (v := nI 272) hx hb d_M_quotient_58 (by decide) ?_
                  refine k_Vv (As := [.int (nI 272)]) (rest := []) ⟨hx, hb, hml, hown, hts⟩ (c_M_negate l E mo mb mm mw mh ml len en gas ctr siz hgt frm ret on ay u1 hq.2.2.2 272 (by decide)) (k_cwV 1 hts t_885 t_887 t_38 t_71 t_888 (by decide +kernel) ⟨Nat.le_of_ble_eq_true rfl, Nat.le_of_ble_eq_true rfl⟩) hK hG hA hP hD hS [0, 1] rfl (by decide) 0 rfl rfl (fun _ => rfl) rfl hl.1 rfl (Nat.le_of_ble_eq_true rfl) d_M_quotient_61 ⟨Nat.zero_le _, Nat.zero_le _⟩ (fun u2 H locs hu2 hP hD hS => ?_)
                  have hP : va_P E.1 vwCl [(mo, .inr (8, [.int (nI len), .ref mb, .int (kb on), .int (nI en), .int (nI gas), .int (nI ctr), .int (nI siz), .int (nI hgt), .int (nI frm), .int (nI ret), .ref mm, .ref mw, .ref mh, .ref ml, .int (kb ay)])), (mw, .inl (E.2.1 0, 370, .inl (nF u2)))] H := hP
                  have hD : va_D A [(mo, .inr (8, [.int (nI len), .ref mb, .int (kb on), .int (nI en), .int (nI gas), .int (nI ctr), .int (nI siz), .int (nI hgt), .int (nI frm), .int (nI ret), .ref mm, .ref mw, .ref mh, .ref ml, .int (kb ay)])), (mw, .inl (E.2.1 0, 370, .inl (nF u2)))] := hD
                  have hq := q_b hq hu2
                  refine lv_aload_n hx hb d_M_quotient_64 rfl (lv_at hl 2 rfl) ?_
                  refine k_Vv (As := []) (rest := []) ⟨hx, hb, hml, hown, hts⟩ (c_M_alone l E mo mb mm mw mh ml len en gas ctr siz hgt frm ret on ay u2 hq.2.2.2) (k_cwV 0 hts t_926 t_928 t_48 t_71 t_929 (by decide +kernel) ⟨Nat.le_of_ble_eq_true rfl, Nat.le_of_ble_eq_true rfl⟩) hK hG hA hP hD hS [0, 1] rfl (by decide) 0 rfl rfl (fun _ => rfl) rfl hl.1 rfl (Nat.le_of_ble_eq_true rfl) d_M_quotient_65 ⟨Nat.zero_le _, Nat.zero_le _⟩ (fun u3 H locs hu3 hP hD hS => ?_)
                  have hP : va_P E.1 vwCl [(mo, .inr (8, [.int (nI len), .ref mb, .int (kb on), .int (nI en), .int (nI gas), .int (nI ctr), .int (nI siz), .int (nI hgt), .int (nI frm), .int (nI ret), .ref mm, .ref mw, .ref mh, .ref ml, .int (kb ay)])), (mw, .inl (E.2.1 0, 370, .inl (nF u3)))] H := hP
                  have hD : va_D A [(mo, .inr (8, [.int (nI len), .ref mb, .int (kb on), .int (nI en), .int (nI gas), .int (nI ctr), .int (nI siz), .int (nI hgt), .int (nI frm), .int (nI ret), .ref mm, .ref mw, .ref mh, .ref ml, .int (kb ay)])), (mw, .inl (E.2.1 0, 370, .inl (nF u3)))] := hD
                  refine lv_aload_n hx hb d_M_quotient_68 rfl (lv_at hl 2 rfl) ?_
                  refine lv_sipush (v := nI 272) hx hb d_M_quotient_69 (by decide) ?_
                  refine k_Vv (As := [.int (nI 272)]) (rest := []) ⟨hx, hb, hml, hown, hts⟩ (c_M_divide l E mo mb mm mw mh ml len en gas ctr siz hgt frm ret on ay u3 hu3.2.2 272 (by decide)) (k_cwV 1 hts t_898 t_900 t_41 t_71 t_901 (by decide +kernel) ⟨Nat.le_of_ble_eq_true rfl, Nat.le_of_ble_eq_true rfl⟩) hK hG hA hP hD hS [0, 1] rfl (by decide) 0 rfl rfl (fun _ => rfl) rfl hl.1 rfl (Nat.le_of_ble_eq_true rfl) d_M_quotient_72 ⟨Nat.zero_le _, Nat.zero_le _⟩ (fun u4 H locs hu4 hP hD hS => ?_)
                  have hP : va_P E.1 vwCl [(mo, .inr (8, [.int (nI len), .ref mb, .int (kb on), .int (nI en), .int (nI gas), .int (nI ctr), .int (nI siz), .int (nI hgt), .int (nI frm), .int (nI ret), .ref mm, .ref mw, .ref mh, .ref ml, .int (kb ay)])), (mw, .inl (E.2.1 0, 370, .inl (nF u4)))] H := hP
                  have hD : va_D A [(mo, .inr (8, [.int (nI len), .ref mb, .int (kb on), .int (nI en), .int (nI gas), .int (nI ctr), .int (nI siz), .int (nI hgt), .int (nI frm), .int (nI ret), .ref mm, .ref mw, .ref mh, .ref ml, .int (kb ay)])), (mw, .inl (E.2.1 0, 370, .inl (nF u4)))] := hD
                  have hq := q_d hq hu3 hu4
                  have hq := q_e hq
                  refine lv_iload_n hx hb d_M_quotient_75 rfl (lv_at hl 4 rfl) ?_
                  refine lv_if_eq (tgt := 89) hx hb d_M_quotient_76 (by decide) (fun h76 => ?_) (fun h76 => ?_)
                  · refine lv_iload_n hx hb d_M_quotient_89 rfl (lv_at hl 4 rfl) ?_
                    refine lv_if_eq (tgt := 100) hx hb d_M_quotient_90 (by decide) (fun h90 => ?_) (fun h90 => ?_)
                    · refine lv_iload_n hx hb d_M_quotient_100 rfl (lv_at hl 1 rfl) ?_
                      refine lv_iload hx hb d_M_quotient_101 (lv_at hl 0 rfl) ?_
                      refine kn_eq (tgt := 113) hx hb (by omega) (by omega) d_M_quotient_103 (by decide) (fun h103 => ?_) (fun h103 => ?_)
                      · exact hret _ ls _ _ (u4) d_M_quotient_113 ⟨q_ok (a := true) (b := true) ((Bool.true_and _).trans (by first | exact kb_n0 h11 | exact kb_0.mp h11)) ((Bool.true_and _).trans (by first | exact kb_n0 h31 | exact kb_0.mp h31)) (hq.1.trans (q2_011 _ _).symm), hq.2⟩ hP hS
                      · exact absurd rfl h103
                    · exact absurd (by decide) h90
                  · exact absurd (by decide) h76
    · skip
      refine lv_iload_n hx hb d_M_quotient_0 rfl (lv_at hl 1 rfl) ?_
      refine lv_if_eq (tgt := 18) hx hb d_M_quotient_1 (by decide) (fun h1 => ?_) (fun h1 => ?_)
      · exact absurd h1 (by decide)
      · refine lv_aload_n hx hb d_M_quotient_4 rfl (lv_at hl 0 rfl) ?_
        refine lv_sipush (v := nI 256) hx hb d_M_quotient_5 (by decide) ?_
        refine k_Vp (As := [.int (nI 256)]) (rest := []) ⟨hx, hb, hml, hown, hts⟩ (c_M_isNegative l E mo mb mm mw mh ml len en gas ctr siz hgt frm ret on ay g hg 256 (by decide)) (k_cwV 1 hts t_922 t_924 t_47 t_71 t_925 (by decide +kernel) ⟨Nat.le_of_ble_eq_true rfl, Nat.le_of_ble_eq_true rfl⟩) hK hG hA hP hD hS [0, 1] rfl (by decide) 0 rfl rfl rfl hl.1 rfl (Nat.le_of_ble_eq_true rfl) d_M_quotient_8 ⟨Nat.zero_le _, Nat.zero_le _⟩ (fun r8 hu8 => ?_)
        subst hu8
        refine lv_if_eq (tgt := 18) hx hb d_M_quotient_11 (by decide) (fun h11 => ?_) (fun h11 => ?_)
        · refine lv_iconst (v := nI 0) hx hb d_M_quotient_18 (by decide) ?_
          refine lv_istore_n (lv' := [(3, .int (nI 0)), (0, .ref mo), (1, .int (kb true)), (2, .int (kb true))]) hx hb d_M_quotient_19 rfl hl (by decide) rfl (fun ls hl => ?_)
          refine lv_iload_n hx hb d_M_quotient_20 rfl (lv_at hl 2 rfl) ?_
          refine lv_if_eq (tgt := 38) hx hb d_M_quotient_21 (by decide) (fun h21 => ?_) (fun h21 => ?_)
          · exact absurd h21 (by decide)
          · refine lv_aload_n hx hb d_M_quotient_24 rfl (lv_at hl 1 rfl) ?_
            refine lv_sipush (v := nI 272) hx hb d_M_quotient_25 (by decide) ?_
            refine k_Vp (As := [.int (nI 272)]) (rest := []) ⟨hx, hb, hml, hown, hts⟩ (c_M_isNegative l E mo mb mm mw mh ml len en gas ctr siz hgt frm ret on ay g hg 272 (by decide)) (k_cwV 1 hts t_922 t_924 t_47 t_71 t_925 (by decide +kernel) ⟨Nat.le_of_ble_eq_true rfl, Nat.le_of_ble_eq_true rfl⟩) hK hG hA hP hD hS [0, 1] rfl (by decide) 0 rfl rfl rfl hl.1 rfl (Nat.le_of_ble_eq_true rfl) d_M_quotient_28 ⟨Nat.zero_le _, Nat.zero_le _⟩ (fun r28 hu28 => ?_)
            subst hu28
            refine lv_if_eq (tgt := 38) hx hb d_M_quotient_31 (by decide) (fun h31 => ?_) (fun h31 => ?_)
            · refine lv_iconst (v := nI 0) hx hb d_M_quotient_38 (by decide) ?_
              refine lv_istore (lv' := [(4, .int (nI 0)), (3, .int (nI 0)), (0, .ref mo), (1, .int (kb true)), (2, .int (kb true))]) hx hb d_M_quotient_39 hl (by decide) rfl (fun ls hl => ?_)
              refine lv_iload_n hx hb d_M_quotient_41 rfl (lv_at hl 1 rfl) ?_
              refine kn_ifeq (tgt := 52) hx hb (by omega) d_M_quotient_42 (by decide) (fun h42 => ?_) (fun h42 => ?_)
              · refine lv_iload hx hb d_M_quotient_52 (lv_at hl 0 rfl) ?_
                refine kn_ifeq (tgt := 64) hx hb (by omega) d_M_quotient_54 (by decide) (fun h54 => ?_) (fun h54 => ?_)
                · refine lv_aload_n hx hb d_M_quotient_64 rfl (lv_at hl 2 rfl) ?_
                  refine k_Vv (As := []) (rest := []) ⟨hx, hb, hml, hown, hts⟩ (c_M_alone l E mo mb mm mw mh ml len en gas ctr siz hgt frm ret on ay g hq.2.2.2) (k_cwV 0 hts t_926 t_928 t_48 t_71 t_929 (by decide +kernel) ⟨Nat.le_of_ble_eq_true rfl, Nat.le_of_ble_eq_true rfl⟩) hK hG hA hP hD hS [0, 1] rfl (by decide) 0 rfl rfl (fun _ => rfl) rfl hl.1 rfl (Nat.le_of_ble_eq_true rfl) d_M_quotient_65 ⟨Nat.zero_le _, Nat.zero_le _⟩ (fun u3 H locs hu3 hP hD hS => ?_)
                  have hP : va_P E.1 vwCl [(mo, .inr (8, [.int (nI len), .ref mb, .int (kb on), .int (nI en), .int (nI gas), .int (nI ctr), .int (nI siz), .int (nI hgt), .int (nI frm), .int (nI ret), .ref mm, .ref mw, .ref mh, .ref ml, .int (kb ay)])), (mw, .inl (E.2.1 0, 370, .inl (nF u3)))] H := hP
                  have hD : va_D A [(mo, .inr (8, [.int (nI len), .ref mb, .int (kb on), .int (nI en), .int (nI gas), .int (nI ctr), .int (nI siz), .int (nI hgt), .int (nI frm), .int (nI ret), .ref mm, .ref mw, .ref mh, .ref ml, .int (kb ay)])), (mw, .inl (E.2.1 0, 370, .inl (nF u3)))] := hD
                  refine lv_aload_n hx hb d_M_quotient_68 rfl (lv_at hl 2 rfl) ?_
                  refine lv_sipush (v := nI 272) hx hb d_M_quotient_69 (by decide) ?_
                  refine k_Vv (As := [.int (nI 272)]) (rest := []) ⟨hx, hb, hml, hown, hts⟩ (c_M_divide l E mo mb mm mw mh ml len en gas ctr siz hgt frm ret on ay u3 hu3.2.2 272 (by decide)) (k_cwV 1 hts t_898 t_900 t_41 t_71 t_901 (by decide +kernel) ⟨Nat.le_of_ble_eq_true rfl, Nat.le_of_ble_eq_true rfl⟩) hK hG hA hP hD hS [0, 1] rfl (by decide) 0 rfl rfl (fun _ => rfl) rfl hl.1 rfl (Nat.le_of_ble_eq_true rfl) d_M_quotient_72 ⟨Nat.zero_le _, Nat.zero_le _⟩ (fun u4 H locs hu4 hP hD hS => ?_)
                  have hP : va_P E.1 vwCl [(mo, .inr (8, [.int (nI len), .ref mb, .int (kb on), .int (nI en), .int (nI gas), .int (nI ctr), .int (nI siz), .int (nI hgt), .int (nI frm), .int (nI ret), .ref mm, .ref mw, .ref mh, .ref ml, .int (kb ay)])), (mw, .inl (E.2.1 0, 370, .inl (nF u4)))] H := hP
                  have hD : va_D A [(mo, .inr (8, [.int (nI len), .ref mb, .int (kb on), .int (nI en), .int (nI gas), .int (nI ctr), .int (nI siz), .int (nI hgt), .int (nI frm), .int (nI ret), .ref mm, .ref mw, .ref mh, .ref ml, .int (kb ay)])), (mw, .inl (E.2.1 0, 370, .inl (nF u4)))] := hD
                  have hq := q_d hq hu3 hu4
                  refine lv_iload_n hx hb d_M_quotient_75 rfl (lv_at hl 4 rfl) ?_
                  refine lv_if_eq (tgt := 89) hx hb d_M_quotient_76 (by decide) (fun h76 => ?_) (fun h76 => ?_)
                  · exact absurd h76 (by decide)
                  · refine lv_aload_n hx hb d_M_quotient_79 rfl (lv_at hl 2 rfl) ?_
                    refine lv_sipush (v := nI 304) hx hb d_M_quotient_80 (by decide) ?_
                    refine lv_sipush (v := nI 353) hx hb d_M_quotient_83 (by decide) ?_
                    refine k_Vv (As := [.int (nI 304), .int (nI 353)]) (rest := []) ⟨hx, hb, hml, hown, hts⟩ (c_M_copy l E mo mb mm mw mh ml len en gas ctr siz hgt frm ret on ay u4 hq.2.2.2 304 353 (by decide) (by decide) (by decide)) (k_cwV 2 hts t_873 t_875 t_35 t_71 t_876 (by decide +kernel) ⟨Nat.le_of_ble_eq_true rfl, Nat.le_of_ble_eq_true rfl⟩) hK hG hA hP hD hS [0, 1] rfl (by decide) 0 rfl rfl (fun _ => rfl) rfl hl.1 rfl (Nat.le_of_ble_eq_true rfl) d_M_quotient_86 ⟨Nat.zero_le _, Nat.zero_le _⟩ (fun u6 H locs hu6 hP hD hS => ?_)
                    have hP : va_P E.1 vwCl [(mo, .inr (8, [.int (nI len), .ref mb, .int (kb on), .int (nI en), .int (nI gas), .int (nI ctr), .int (nI siz), .int (nI hgt), .int (nI frm), .int (nI ret), .ref mm, .ref mw, .ref mh, .ref ml, .int (kb ay)])), (mw, .inl (E.2.1 0, 370, .inl (nF (cpy u4 304 353))))] H := hP
                    have hD : va_D A [(mo, .inr (8, [.int (nI len), .ref mb, .int (kb on), .int (nI en), .int (nI gas), .int (nI ctr), .int (nI siz), .int (nI hgt), .int (nI frm), .int (nI ret), .ref mm, .ref mw, .ref mh, .ref ml, .int (kb ay)])), (mw, .inl (E.2.1 0, 370, .inl (nF (cpy u4 304 353))))] := hD
                    have hq := q_r hq
                    refine lv_iload_n hx hb d_M_quotient_89 rfl (lv_at hl 4 rfl) ?_
                    refine lv_if_eq (tgt := 100) hx hb d_M_quotient_90 (by decide) (fun h90 => ?_) (fun h90 => ?_)
                    · exact absurd h90 (by decide)
                    · refine lv_iload_n hx hb d_M_quotient_93 rfl (lv_at hl 1 rfl) ?_
                      refine kn_ifeq (tgt := 113) hx hb (by omega) d_M_quotient_94 (by decide) (fun h94 => ?_) (fun h94 => ?_)
                      · exact hret _ ls _ _ (cpy u4 304 353) d_M_quotient_113 ⟨q_ok (a := false) (b := false) ((Bool.true_and _).trans (by first | exact kb_n0 h11 | exact kb_0.mp h11)) ((Bool.true_and _).trans (by first | exact kb_n0 h31 | exact kb_0.mp h31)) (hq.1.trans (q2_100 _ _).symm), hq.2⟩ hP hS
                      · exact absurd (by decide) h94
                · exact absurd (by decide) h54
              · exact absurd (by decide) h42
            · refine lv_iconst (v := nI 1) hx hb d_M_quotient_34 (by decide) ?_
              refine lv_goto (tgt := 39) hx hb d_M_quotient_35 (by decide) ?_
              refine lv_istore (lv' := [(4, .int (nI 1)), (3, .int (nI 0)), (0, .ref mo), (1, .int (kb true)), (2, .int (kb true))]) hx hb d_M_quotient_39 hl (by decide) rfl (fun ls hl => ?_)
              refine lv_iload_n hx hb d_M_quotient_41 rfl (lv_at hl 1 rfl) ?_
              refine kn_ifeq (tgt := 52) hx hb (by omega) d_M_quotient_42 (by decide) (fun h42 => ?_) (fun h42 => ?_)
              · refine lv_iload hx hb d_M_quotient_52 (lv_at hl 0 rfl) ?_
                refine kn_ifeq (tgt := 64) hx hb (by omega) d_M_quotient_54 (by decide) (fun h54 => ?_) (fun h54 => ?_)
                · exact absurd h54 (by decide)
                · refine lv_aload_n hx hb d_M_quotient_57 rfl (lv_at hl 2 rfl) ?_
                  refine lv_sipush (v := nI 272) hx hb d_M_quotient_58 (by decide) ?_
                  refine k_Vv (As := [.int (nI 272)]) (rest := []) ⟨hx, hb, hml, hown, hts⟩ (c_M_negate l E mo mb mm mw mh ml len en gas ctr siz hgt frm ret on ay g hq.2.2.2 272 (by decide)) (k_cwV 1 hts t_885 t_887 t_38 t_71 t_888 (by decide +kernel) ⟨Nat.le_of_ble_eq_true rfl, Nat.le_of_ble_eq_true rfl⟩) hK hG hA hP hD hS [0, 1] rfl (by decide) 0 rfl rfl (fun _ => rfl) rfl hl.1 rfl (Nat.le_of_ble_eq_true rfl) d_M_quotient_61 ⟨Nat.zero_le _, Nat.zero_le _⟩ (fun u2 H locs hu2 hP hD hS => ?_)
                  have hP : va_P E.1 vwCl [(mo, .inr (8, [.int (nI len), .ref mb, .int (kb on), .int (nI en), .int (nI gas), .int (nI ctr), .int (nI siz), .int (nI hgt), .int (nI frm), .int (nI ret), .ref mm, .ref mw, .ref mh, .ref ml, .int (kb ay)])), (mw, .inl (E.2.1 0, 370, .inl (nF u2)))] H := hP
                  have hD : va_D A [(mo, .inr (8, [.int (nI len), .ref mb, .int (kb on), .int (nI en), .int (nI gas), .int (nI ctr), .int (nI siz), .int (nI hgt), .int (nI frm), .int (nI ret), .ref mm, .ref mw, .ref mh, .ref ml, .int (kb ay)])), (mw, .inl (E.2.1 0, 370, .inl (nF u2)))] := hD
                  have hq := q_b hq hu2
                  refine lv_aload_n hx hb d_M_quotient_64 rfl (lv_at hl 2 rfl) ?_
                  refine k_Vv (As := []) (rest := []) ⟨hx, hb, hml, hown, hts⟩ (c_M_alone l E mo mb mm mw mh ml len en gas ctr siz hgt frm ret on ay u2 hq.2.2.2) (k_cwV 0 hts t_926 t_928 t_48 t_71 t_929 (by decide +kernel) ⟨Nat.le_of_ble_eq_true rfl, Nat.le_of_ble_eq_true rfl⟩) hK hG hA hP hD hS [0, 1] rfl (by decide) 0 rfl rfl (fun _ => rfl) rfl hl.1 rfl (Nat.le_of_ble_eq_true rfl) d_M_quotient_65 ⟨Nat.zero_le _, Nat.zero_le _⟩ (fun u3 H locs hu3 hP hD hS => ?_)
                  have hP : va_P E.1 vwCl [(mo, .inr (8, [.int (nI len), .ref mb, .int (kb on), .int (nI en), .int (nI gas), .int (nI ctr), .int (nI siz), .int (nI hgt), .int (nI frm), .int (nI ret), .ref mm, .ref mw, .ref mh, .ref ml, .int (kb ay)])), (mw, .inl (E.2.1 0, 370, .inl (nF u3)))] H := hP
                  have hD : va_D A [(mo, .inr (8, [.int (nI len), .ref mb, .int (kb on), .int (nI en), .int (nI gas), .int (nI ctr), .int (nI siz), .int (nI hgt), .int (nI frm), .int (nI ret), .ref mm, .ref mw, .ref mh, .ref ml, .int (kb ay)])), (mw, .inl (E.2.1 0, 370, .inl (nF u3)))] := hD
                  refine lv_aload_n hx hb d_M_quotient_68 rfl (lv_at hl 2 rfl) ?_
                  refine lv_sipush (v := nI 272) hx hb d_M_quotient_69 (by decide) ?_
                  refine k_Vv (As := [.int (nI 272)]) (rest := []) ⟨hx, hb, hml, hown, hts⟩ (c_M_divide l E mo mb mm mw mh ml len en gas ctr siz hgt frm ret on ay u3 hu3.2.2 272 (by decide)) (k_cwV 1 hts t_898 t_900 t_41 t_71 t_901 (by decide +kernel) ⟨Nat.le_of_ble_eq_true rfl, Nat.le_of_ble_eq_true rfl⟩) hK hG hA hP hD hS [0, 1] rfl (by decide) 0 rfl rfl (fun _ => rfl) rfl hl.1 rfl (Nat.le_of_ble_eq_true rfl) d_M_quotient_72 ⟨Nat.zero_le _, Nat.zero_le _⟩ (fun u4 H locs hu4 hP hD hS => ?_)
                  have hP : va_P E.1 vwCl [(mo, .inr (8, [.int (nI len), .ref mb, .int (kb on), .int (nI en), .int (nI gas), .int (nI ctr), .int (nI siz), .int (nI hgt), .int (nI frm), .int (nI ret), .ref mm, .ref mw, .ref mh, .ref ml, .int (kb ay)])), (mw, .inl (E.2.1 0, 370, .inl (nF u4)))] H := hP
                  have hD : va_D A [(mo, .inr (8, [.int (nI len), .ref mb, .int (kb on), .int (nI en), .int (nI gas), .int (nI ctr), .int (nI siz), .int (nI hgt), .int (nI frm), .int (nI ret), .ref mm, .ref mw, .ref mh, .ref ml, .int (kb ay)])), (mw, .inl (E.2.1 0, 370, .inl (nF u4)))] := hD
                  have hq := q_d hq hu3 hu4
                  refine lv_iload_n hx hb d_M_quotient_75 rfl (lv_at hl 4 rfl) ?_
                  refine lv_if_eq (tgt := 89) hx hb d_M_quotient_76 (by decide) (fun h76 => ?_) (fun h76 => ?_)
                  · exact absurd h76 (by decide)
                  · refine lv_aload_n hx hb d_M_quotient_79 rfl (lv_at hl 2 rfl) ?_
                    refine lv_sipush (v := nI 304) hx hb d_M_quotient_80 (by decide) ?_
                    refine lv_sipush (v := nI 353) hx hb d_M_quotient_83 (by decide) ?_
                    refine k_Vv (As := [.int (nI 304), .int (nI 353)]) (rest := []) ⟨hx, hb, hml, hown, hts⟩ (c_M_copy l E mo mb mm mw mh ml len en gas ctr siz hgt frm ret on ay u4 hq.2.2.2 304 353 (by decide) (by decide) (by decide)) (k_cwV 2 hts t_873 t_875 t_35 t_71 t_876 (by decide +kernel) ⟨Nat.le_of_ble_eq_true rfl, Nat.le_of_ble_eq_true rfl⟩) hK hG hA hP hD hS [0, 1] rfl (by decide) 0 rfl rfl (fun _ => rfl) rfl hl.1 rfl (Nat.le_of_ble_eq_true rfl) d_M_quotient_86 ⟨Nat.zero_le _, Nat.zero_le _⟩ (fun u6 H locs hu6 hP hD hS => ?_)
                    have hP : va_P E.1 vwCl [(mo, .inr (8, [.int (nI len), .ref mb, .int (kb on), .int (nI en), .int (nI gas), .int (nI ctr), .int (nI siz), .int (nI hgt), .int (nI frm), .int (nI ret), .ref mm, .ref mw, .ref mh, .ref ml, .int (kb ay)])), (mw, .inl (E.2.1 0, 370, .inl (nF (cpy u4 304 353))))] H := hP
                    have hD : va_D A [(mo, .inr (8, [.int (nI len), .ref mb, .int (kb on), .int (nI en), .int (nI gas), .int (nI ctr), .int (nI siz), .int (nI hgt), .int (nI frm), .int (nI ret), .ref mm, .ref mw, .ref mh, .ref ml, .int (kb ay)])), (mw, .inl (E.2.1 0, 370, .inl (nF (cpy u4 304 353))))] := hD
                    have hq := q_r hq
                    refine lv_iload_n hx hb d_M_quotient_89 rfl (lv_at hl 4 rfl) ?_
                    refine lv_if_eq (tgt := 100) hx hb d_M_quotient_90 (by decide) (fun h90 => ?_) (fun h90 => ?_)
                    · exact absurd h90 (by decide)
                    · refine lv_iload_n hx hb d_M_quotient_93 rfl (lv_at hl 1 rfl) ?_
                      refine kn_ifeq (tgt := 113) hx hb (by omega) d_M_quotient_94 (by decide) (fun h94 => ?_) (fun h94 => ?_)
                      · exact hret _ ls _ _ (cpy u4 304 353) d_M_quotient_113 ⟨q_ok (a := false) (b := true) ((Bool.true_and _).trans (by first | exact kb_n0 h11 | exact kb_0.mp h11)) ((Bool.true_and _).trans (by first | exact kb_n0 h31 | exact kb_0.mp h31)) (hq.1.trans (q2_101 _ _).symm), hq.2⟩ hP hS
                      · exact absurd (by decide) h94
              · exact absurd (by decide) h42
        · refine lv_iconst (v := nI 1) hx hb d_M_quotient_14 (by decide) ?_
          refine lv_goto (tgt := 19) hx hb d_M_quotient_15 (by decide) ?_
          refine lv_istore_n (lv' := [(3, .int (nI 1)), (0, .ref mo), (1, .int (kb true)), (2, .int (kb true))]) hx hb d_M_quotient_19 rfl hl (by decide) rfl (fun ls hl => ?_)
          refine lv_iload_n hx hb d_M_quotient_20 rfl (lv_at hl 2 rfl) ?_
          refine lv_if_eq (tgt := 38) hx hb d_M_quotient_21 (by decide) (fun h21 => ?_) (fun h21 => ?_)
          · exact absurd h21 (by decide)
          · refine lv_aload_n hx hb d_M_quotient_24 rfl (lv_at hl 1 rfl) ?_
            refine lv_sipush (v := nI 272) hx hb d_M_quotient_25 (by decide) ?_
            refine k_Vp (As := [.int (nI 272)]) (rest := []) ⟨hx, hb, hml, hown, hts⟩ (c_M_isNegative l E mo mb mm mw mh ml len en gas ctr siz hgt frm ret on ay g hg 272 (by decide)) (k_cwV 1 hts t_922 t_924 t_47 t_71 t_925 (by decide +kernel) ⟨Nat.le_of_ble_eq_true rfl, Nat.le_of_ble_eq_true rfl⟩) hK hG hA hP hD hS [0, 1] rfl (by decide) 0 rfl rfl rfl hl.1 rfl (Nat.le_of_ble_eq_true rfl) d_M_quotient_28 ⟨Nat.zero_le _, Nat.zero_le _⟩ (fun r28 hu28 => ?_)
            subst hu28
            refine lv_if_eq (tgt := 38) hx hb d_M_quotient_31 (by decide) (fun h31 => ?_) (fun h31 => ?_)
            · refine lv_iconst (v := nI 0) hx hb d_M_quotient_38 (by decide) ?_
              refine lv_istore (lv' := [(4, .int (nI 0)), (3, .int (nI 1)), (0, .ref mo), (1, .int (kb true)), (2, .int (kb true))]) hx hb d_M_quotient_39 hl (by decide) rfl (fun ls hl => ?_)
              refine lv_iload_n hx hb d_M_quotient_41 rfl (lv_at hl 1 rfl) ?_
              refine kn_ifeq (tgt := 52) hx hb (by omega) d_M_quotient_42 (by decide) (fun h42 => ?_) (fun h42 => ?_)
              · exact absurd h42 (by decide)
              · refine lv_aload_n hx hb d_M_quotient_45 rfl (lv_at hl 2 rfl) ?_
                refine lv_sipush (v := nI 256) hx hb d_M_quotient_46 (by decide) ?_
                refine k_Vv (As := [.int (nI 256)]) (rest := []) ⟨hx, hb, hml, hown, hts⟩ (c_M_negate l E mo mb mm mw mh ml len en gas ctr siz hgt frm ret on ay g hg 256 (by decide)) (k_cwV 1 hts t_885 t_887 t_38 t_71 t_888 (by decide +kernel) ⟨Nat.le_of_ble_eq_true rfl, Nat.le_of_ble_eq_true rfl⟩) hK hG hA hP hD hS [0, 1] rfl (by decide) 0 rfl rfl (fun _ => rfl) rfl hl.1 rfl (Nat.le_of_ble_eq_true rfl) d_M_quotient_49 ⟨Nat.zero_le _, Nat.zero_le _⟩ (fun u1 H locs hu1 hP hD hS => ?_)
                have hP : va_P E.1 vwCl [(mo, .inr (8, [.int (nI len), .ref mb, .int (kb on), .int (nI en), .int (nI gas), .int (nI ctr), .int (nI siz), .int (nI hgt), .int (nI frm), .int (nI ret), .ref mm, .ref mw, .ref mh, .ref ml, .int (kb ay)])), (mw, .inl (E.2.1 0, 370, .inl (nF u1)))] H := hP
                have hD : va_D A [(mo, .inr (8, [.int (nI len), .ref mb, .int (kb on), .int (nI en), .int (nI gas), .int (nI ctr), .int (nI siz), .int (nI hgt), .int (nI frm), .int (nI ret), .ref mm, .ref mw, .ref mh, .ref ml, .int (kb ay)])), (mw, .inl (E.2.1 0, 370, .inl (nF u1)))] := hD
                have hq := q_a hq hu1
                refine lv_iload hx hb d_M_quotient_52 (lv_at hl 0 rfl) ?_
                refine kn_ifeq (tgt := 64) hx hb (by omega) d_M_quotient_54 (by decide) (fun h54 => ?_) (fun h54 => ?_)
                · refine lv_aload_n hx hb d_M_quotient_64 rfl (lv_at hl 2 rfl) ?_
                  refine k_Vv (As := []) (rest := []) ⟨hx, hb, hml, hown, hts⟩ (c_M_alone l E mo mb mm mw mh ml len en gas ctr siz hgt frm ret on ay u1 hq.2.2.2) (k_cwV 0 hts t_926 t_928 t_48 t_71 t_929 (by decide +kernel) ⟨Nat.le_of_ble_eq_true rfl, Nat.le_of_ble_eq_true rfl⟩) hK hG hA hP hD hS [0, 1] rfl (by decide) 0 rfl rfl (fun _ => rfl) rfl hl.1 rfl (Nat.le_of_ble_eq_true rfl) d_M_quotient_65 ⟨Nat.zero_le _, Nat.zero_le _⟩ (fun u3 H locs hu3 hP hD hS => ?_)
                  have hP : va_P E.1 vwCl [(mo, .inr (8, [.int (nI len), .ref mb, .int (kb on), .int (nI en), .int (nI gas), .int (nI ctr), .int (nI siz), .int (nI hgt), .int (nI frm), .int (nI ret), .ref mm, .ref mw, .ref mh, .ref ml, .int (kb ay)])), (mw, .inl (E.2.1 0, 370, .inl (nF u3)))] H := hP
                  have hD : va_D A [(mo, .inr (8, [.int (nI len), .ref mb, .int (kb on), .int (nI en), .int (nI gas), .int (nI ctr), .int (nI siz), .int (nI hgt), .int (nI frm), .int (nI ret), .ref mm, .ref mw, .ref mh, .ref ml, .int (kb ay)])), (mw, .inl (E.2.1 0, 370, .inl (nF u3)))] := hD
                  refine lv_aload_n hx hb d_M_quotient_68 rfl (lv_at hl 2 rfl) ?_
                  refine lv_sipush (v := nI 272) hx hb d_M_quotient_69 (by decide) ?_
                  refine k_Vv (As := [.int (nI 272)]) (rest := []) ⟨hx, hb, hml, hown, hts⟩ (c_M_divide l E mo mb mm mw mh ml len en gas ctr siz hgt frm ret on ay u3 hu3.2.2 272 (by decide)) (k_cwV 1 hts t_898 t_900 t_41 t_71 t_901 (by decide +kernel) ⟨Nat.le_of_ble_eq_true rfl, Nat.le_of_ble_eq_true rfl⟩) hK hG hA hP hD hS [0, 1] rfl (by decide) 0 rfl rfl (fun _ => rfl) rfl hl.1 rfl (Nat.le_of_ble_eq_true rfl) d_M_quotient_72 ⟨Nat.zero_le _, Nat.zero_le _⟩ (fun u4 H locs hu4 hP hD hS => ?_)
                  have hP : va_P E.1 vwCl [(mo, .inr (8, [.int (nI len), .ref mb, .int (kb on), .int (nI en), .int (nI gas), .int (nI ctr), .int (nI siz), .int (nI hgt), .int (nI frm), .int (nI ret), .ref mm, .ref mw, .ref mh, .ref ml, .int (kb ay)])), (mw, .inl (E.2.1 0, 370, .inl (nF u4)))] H := hP
                  have hD : va_D A [(mo, .inr (8, [.int (nI len), .ref mb, .int (kb on), .int (nI en), .int (nI gas), .int (nI ctr), .int (nI siz), .int (nI hgt), .int (nI frm), .int (nI ret), .ref mm, .ref mw, .ref mh, .ref ml, .int (kb ay)])), (mw, .inl (E.2.1 0, 370, .inl (nF u4)))] := hD
                  have hq := q_d hq hu3 hu4
                  refine lv_iload_n hx hb d_M_quotient_75 rfl (lv_at hl 4 rfl) ?_
                  refine lv_if_eq (tgt := 89) hx hb d_M_quotient_76 (by decide) (fun h76 => ?_) (fun h76 => ?_)
                  · exact absurd h76 (by decide)
                  · refine lv_aload_n hx hb d_M_quotient_79 rfl (lv_at hl 2 rfl) ?_
                    refine lv_sipush (v := nI 304) hx hb d_M_quotient_80 (by decide) ?_
                    refine lv_sipush (v := nI 353) hx hb d_M_quotient_83 (by decide) ?_
                    refine k_Vv (As := [.int (nI 304), .int (nI 353)]) (rest := []) ⟨hx, hb, hml, hown, hts⟩ (c_M_copy l E mo mb mm mw mh ml len en gas ctr siz hgt frm ret on ay u4 hq.2.2.2 304 353 (by decide) (by decide) (by decide)) (k_cwV 2 hts t_873 t_875 t_35 t_71 t_876 (by decide +kernel) ⟨Nat.le_of_ble_eq_true rfl, Nat.le_of_ble_eq_true rfl⟩) hK hG hA hP hD hS [0, 1] rfl (by decide) 0 rfl rfl (fun _ => rfl) rfl hl.1 rfl (Nat.le_of_ble_eq_true rfl) d_M_quotient_86 ⟨Nat.zero_le _, Nat.zero_le _⟩ (fun u6 H locs hu6 hP hD hS => ?_)
                    have hP : va_P E.1 vwCl [(mo, .inr (8, [.int (nI len), .ref mb, .int (kb on), .int (nI en), .int (nI gas), .int (nI ctr), .int (nI siz), .int (nI hgt), .int (nI frm), .int (nI ret), .ref mm, .ref mw, .ref mh, .ref ml, .int (kb ay)])), (mw, .inl (E.2.1 0, 370, .inl (nF (cpy u4 304 353))))] H := hP
                    have hD : va_D A [(mo, .inr (8, [.int (nI len), .ref mb, .int (kb on), .int (nI en), .int (nI gas), .int (nI ctr), .int (nI siz), .int (nI hgt), .int (nI frm), .int (nI ret), .ref mm, .ref mw, .ref mh, .ref ml, .int (kb ay)])), (mw, .inl (E.2.1 0, 370, .inl (nF (cpy u4 304 353))))] := hD
                    have hq := q_r hq
                    refine lv_iload_n hx hb d_M_quotient_89 rfl (lv_at hl 4 rfl) ?_
                    refine lv_if_eq (tgt := 100) hx hb d_M_quotient_90 (by decide) (fun h90 => ?_) (fun h90 => ?_)
                    · exact absurd h90 (by decide)
                    · refine lv_iload_n hx hb d_M_quotient_93 rfl (lv_at hl 1 rfl) ?_
                      refine kn_ifeq (tgt := 113) hx hb (by omega) d_M_quotient_94 (by decide) (fun h94 => ?_) (fun h94 => ?_)
                      · exact absurd h94 (by decide)
                      · refine lv_goto (tgt := 106) hx hb d_M_quotient_97 (by decide) ?_
                        refine lv_aload_n hx hb d_M_quotient_106 rfl (lv_at hl 2 rfl) ?_
                        refine lv_sipush (v := nI 304) hx hb d_M_quotient_107 (by decide) ?_
                        refine k_Vv (As := [.int (nI 304)]) (rest := []) ⟨hx, hb, hml, hown, hts⟩ (c_M_negate l E mo mb mm mw mh ml len en gas ctr siz hgt frm ret on ay (cpy u4 304 353) hq.2.2 304 (by decide)) (k_cwV 1 hts t_885 t_887 t_38 t_71 t_888 (by decide +kernel) ⟨Nat.le_of_ble_eq_true rfl, Nat.le_of_ble_eq_true rfl⟩) hK hG hA hP hD hS [0, 1] rfl (by decide) 0 rfl rfl (fun _ => rfl) rfl hl.1 rfl (Nat.le_of_ble_eq_true rfl) d_M_quotient_110 ⟨Nat.zero_le _, Nat.zero_le _⟩ (fun u5 H locs hu5 hP hD hS => ?_)
                        have hP : va_P E.1 vwCl [(mo, .inr (8, [.int (nI len), .ref mb, .int (kb on), .int (nI en), .int (nI gas), .int (nI ctr), .int (nI siz), .int (nI hgt), .int (nI frm), .int (nI ret), .ref mm, .ref mw, .ref mh, .ref ml, .int (kb ay)])), (mw, .inl (E.2.1 0, 370, .inl (nF u5)))] H := hP
                        have hD : va_D A [(mo, .inr (8, [.int (nI len), .ref mb, .int (kb on), .int (nI en), .int (nI gas), .int (nI ctr), .int (nI siz), .int (nI hgt), .int (nI frm), .int (nI ret), .ref mm, .ref mw, .ref mh, .ref ml, .int (kb ay)])), (mw, .inl (E.2.1 0, 370, .inl (nF u5)))] := hD
                        have hq := q_n hq hu5
                        exact hret _ ls _ _ (u5) d_M_quotient_113 ⟨q_ok (a := true) (b := false) ((Bool.true_and _).trans (by first | exact kb_n0 h11 | exact kb_0.mp h11)) ((Bool.true_and _).trans (by first | exact kb_n0 h31 | exact kb_0.mp h31)) (hq.1.trans (q2_110 _ _).symm), hq.2⟩ hP hS
                · exact absurd (by decide) h54
            · refine lv_iconst (v := nI 1) hx hb d_M_quotient_34 (by decide) ?_
              refine lv_goto (tgt := 39) hx hb d_M_quotient_35 (by decide) ?_
              refine lv_istore (lv' := [(4, .int (nI 1)), (3, .int (nI 1)), (0, .ref mo), (1, .int (kb true)), (2, .int (kb true))]) hx hb d_M_quotient_39 hl (by decide) rfl (fun ls hl => ?_)
              refine lv_iload_n hx hb d_M_quotient_41 rfl (lv_at hl 1 rfl) ?_
              refine kn_ifeq (tgt := 52) hx hb (by omega) d_M_quotient_42 (by decide) (fun h42 => ?_) (fun h42 => ?_)
              · exact absurd h42 (by decide)
              · refine lv_aload_n hx hb d_M_quotient_45 rfl (lv_at hl 2 rfl) ?_
                refine lv_sipush (v := nI 256) hx hb d_M_quotient_46 (by decide) ?_
                refine k_Vv (As := [.int (nI 256)]) (rest := []) ⟨hx, hb, hml, hown, hts⟩ (c_M_negate l E mo mb mm mw mh ml len en gas ctr siz hgt frm ret on ay g hg 256 (by decide)) (k_cwV 1 hts t_885 t_887 t_38 t_71 t_888 (by decide +kernel) ⟨Nat.le_of_ble_eq_true rfl, Nat.le_of_ble_eq_true rfl⟩) hK hG hA hP hD hS [0, 1] rfl (by decide) 0 rfl rfl (fun _ => rfl) rfl hl.1 rfl (Nat.le_of_ble_eq_true rfl) d_M_quotient_49 ⟨Nat.zero_le _, Nat.zero_le _⟩ (fun u1 H locs hu1 hP hD hS => ?_)
                have hP : va_P E.1 vwCl [(mo, .inr (8, [.int (nI len), .ref mb, .int (kb on), .int (nI en), .int (nI gas), .int (nI ctr), .int (nI siz), .int (nI hgt), .int (nI frm), .int (nI ret), .ref mm, .ref mw, .ref mh, .ref ml, .int (kb ay)])), (mw, .inl (E.2.1 0, 370, .inl (nF u1)))] H := hP
                have hD : va_D A [(mo, .inr (8, [.int (nI len), .ref mb, .int (kb on), .int (nI en), .int (nI gas), .int (nI ctr), .int (nI siz), .int (nI hgt), .int (nI frm), .int (nI ret), .ref mm, .ref mw, .ref mh, .ref ml, .int (kb ay)])), (mw, .inl (E.2.1 0, 370, .inl (nF u1)))] := hD
                have hq := q_a hq hu1
                refine lv_iload hx hb d_M_quotient_52 (lv_at hl 0 rfl) ?_
                refine kn_ifeq (tgt := 64) hx hb (by omega) d_M_quotient_54 (by decide) (fun h54 => ?_) (fun h54 => ?_)
                · exact absurd h54 (by decide)
                · refine lv_aload_n hx hb d_M_quotient_57 rfl (lv_at hl 2 rfl) ?_
                  refine lv_sipush (v := nI 272) hx hb d_M_quotient_58 (by decide) ?_
                  refine k_Vv (As := [.int (nI 272)]) (rest := []) ⟨hx, hb, hml, hown, hts⟩ (c_M_negate l E mo mb mm mw mh ml len en gas ctr siz hgt frm ret on ay u1 hq.2.2.2 272 (by decide)) (k_cwV 1 hts t_885 t_887 t_38 t_71 t_888 (by decide +kernel) ⟨Nat.le_of_ble_eq_true rfl, Nat.le_of_ble_eq_true rfl⟩) hK hG hA hP hD hS [0, 1] rfl (by decide) 0 rfl rfl (fun _ => rfl) rfl hl.1 rfl (Nat.le_of_ble_eq_true rfl) d_M_quotient_61 ⟨Nat.zero_le _, Nat.zero_le _⟩ (fun u2 H locs hu2 hP hD hS => ?_)
                  have hP : va_P E.1 vwCl [(mo, .inr (8, [.int (nI len), .ref mb, .int (kb on), .int (nI en), .int (nI gas), .int (nI ctr), .int (nI siz), .int (nI hgt), .int (nI frm), .int (nI ret), .ref mm, .ref mw, .ref mh, .ref ml, .int (kb ay)])), (mw, .inl (E.2.1 0, 370, .inl (nF u2)))] H := hP
                  have hD : va_D A [(mo, .inr (8, [.int (nI len), .ref mb, .int (kb on), .int (nI en), .int (nI gas), .int (nI ctr), .int (nI siz), .int (nI hgt), .int (nI frm), .int (nI ret), .ref mm, .ref mw, .ref mh, .ref ml, .int (kb ay)])), (mw, .inl (E.2.1 0, 370, .inl (nF u2)))] := hD
                  have hq := q_b hq hu2
                  refine lv_aload_n hx hb d_M_quotient_64 rfl (lv_at hl 2 rfl) ?_
                  refine k_Vv (As := []) (rest := []) ⟨hx, hb, hml, hown, hts⟩ (c_M_alone l E mo mb mm mw mh ml len en gas ctr siz hgt frm ret on ay u2 hq.2.2.2) (k_cwV 0 hts t_926 t_928 t_48 t_71 t_929 (by decide +kernel) ⟨Nat.le_of_ble_eq_true rfl, Nat.le_of_ble_eq_true rfl⟩) hK hG hA hP hD hS [0, 1] rfl (by decide) 0 rfl rfl (fun _ => rfl) rfl hl.1 rfl (Nat.le_of_ble_eq_true rfl) d_M_quotient_65 ⟨Nat.zero_le _, Nat.zero_le _⟩ (fun u3 H locs hu3 hP hD hS => ?_)
                  have hP : va_P E.1 vwCl [(mo, .inr (8, [.int (nI len), .ref mb, .int (kb on), .int (nI en), .int (nI gas), .int (nI ctr), .int (nI siz), .int (nI hgt), .int (nI frm), .int (nI ret), .ref mm, .ref mw, .ref mh, .ref ml, .int (kb ay)])), (mw, .inl (E.2.1 0, 370, .inl (nF u3)))] H := hP
                  have hD : va_D A [(mo, .inr (8, [.int (nI len), .ref mb, .int (kb on), .int (nI en), .int (nI gas), .int (nI ctr), .int (nI siz), .int (nI hgt), .int (nI frm), .int (nI ret), .ref mm, .ref mw, .ref mh, .ref ml, .int (kb ay)])), (mw, .inl (E.2.1 0, 370, .inl (nF u3)))] := hD
                  refine lv_aload_n hx hb d_M_quotient_68 rfl (lv_at hl 2 rfl) ?_
                  refine lv_sipush (v := nI 272) hx hb d_M_quotient_69 (by decide) ?_
                  refine k_Vv (As := [.int (nI 272)]) (rest := []) ⟨hx, hb, hml, hown, hts⟩ (c_M_divide l E mo mb mm mw mh ml len en gas ctr siz hgt frm ret on ay u3 hu3.2.2 272 (by decide)) (k_cwV 1 hts t_898 t_900 t_41 t_71 t_901 (by decide +kernel) ⟨Nat.le_of_ble_eq_true rfl, Nat.le_of_ble_eq_true rfl⟩) hK hG hA hP hD hS [0, 1] rfl (by decide) 0 rfl rfl (fun _ => rfl) rfl hl.1 rfl (Nat.le_of_ble_eq_true rfl) d_M_quotient_72 ⟨Nat.zero_le _, Nat.zero_le _⟩ (fun u4 H locs hu4 hP hD hS => ?_)
                  have hP : va_P E.1 vwCl [(mo, .inr (8, [.int (nI len), .ref mb, .int (kb on), .int (nI en), .int (nI gas), .int (nI ctr), .int (nI siz), .int (nI hgt), .int (nI frm), .int (nI ret), .ref mm, .ref mw, .ref mh, .ref ml, .int (kb ay)])), (mw, .inl (E.2.1 0, 370, .inl (nF u4)))] H := hP
                  have hD : va_D A [(mo, .inr (8, [.int (nI len), .ref mb, .int (kb on), .int (nI en), .int (nI gas), .int (nI ctr), .int (nI siz), .int (nI hgt), .int (nI frm), .int (nI ret), .ref mm, .ref mw, .ref mh, .ref ml, .int (kb ay)])), (mw, .inl (E.2.1 0, 370, .inl (nF u4)))] := hD
                  have hq := q_d hq hu3 hu4
                  refine lv_iload_n hx hb d_M_quotient_75 rfl (lv_at hl 4 rfl) ?_
                  refine lv_if_eq (tgt := 89) hx hb d_M_quotient_76 (by decide) (fun h76 => ?_) (fun h76 => ?_)
                  · exact absurd h76 (by decide)
                  · refine lv_aload_n hx hb d_M_quotient_79 rfl (lv_at hl 2 rfl) ?_
                    refine lv_sipush (v := nI 304) hx hb d_M_quotient_80 (by decide) ?_
                    refine lv_sipush (v := nI 353) hx hb d_M_quotient_83 (by decide) ?_
                    refine k_Vv (As := [.int (nI 304), .int (nI 353)]) (rest := []) ⟨hx, hb, hml, hown, hts⟩ (c_M_copy l E mo mb mm mw mh ml len en gas ctr siz hgt frm ret on ay u4 hq.2.2.2 304 353 (by decide) (by decide) (by decide)) (k_cwV 2 hts t_873 t_875 t_35 t_71 t_876 (by decide +kernel) ⟨Nat.le_of_ble_eq_true rfl, Nat.le_of_ble_eq_true rfl⟩) hK hG hA hP hD hS [0, 1] rfl (by decide) 0 rfl rfl (fun _ => rfl) rfl hl.1 rfl (Nat.le_of_ble_eq_true rfl) d_M_quotient_86 ⟨Nat.zero_le _, Nat.zero_le _⟩ (fun u6 H locs hu6 hP hD hS => ?_)
                    have hP : va_P E.1 vwCl [(mo, .inr (8, [.int (nI len), .ref mb, .int (kb on), .int (nI en), .int (nI gas), .int (nI ctr), .int (nI siz), .int (nI hgt), .int (nI frm), .int (nI ret), .ref mm, .ref mw, .ref mh, .ref ml, .int (kb ay)])), (mw, .inl (E.2.1 0, 370, .inl (nF (cpy u4 304 353))))] H := hP
                    have hD : va_D A [(mo, .inr (8, [.int (nI len), .ref mb, .int (kb on), .int (nI en), .int (nI gas), .int (nI ctr), .int (nI siz), .int (nI hgt), .int (nI frm), .int (nI ret), .ref mm, .ref mw, .ref mh, .ref ml, .int (kb ay)])), (mw, .inl (E.2.1 0, 370, .inl (nF (cpy u4 304 353))))] := hD
                    have hq := q_r hq
                    refine lv_iload_n hx hb d_M_quotient_89 rfl (lv_at hl 4 rfl) ?_
                    refine lv_if_eq (tgt := 100) hx hb d_M_quotient_90 (by decide) (fun h90 => ?_) (fun h90 => ?_)
                    · exact absurd h90 (by decide)
                    · refine lv_iload_n hx hb d_M_quotient_93 rfl (lv_at hl 1 rfl) ?_
                      refine kn_ifeq (tgt := 113) hx hb (by omega) d_M_quotient_94 (by decide) (fun h94 => ?_) (fun h94 => ?_)
                      · exact absurd h94 (by decide)
                      · refine lv_goto (tgt := 106) hx hb d_M_quotient_97 (by decide) ?_
                        refine lv_aload_n hx hb d_M_quotient_106 rfl (lv_at hl 2 rfl) ?_
                        refine lv_sipush (v := nI 304) hx hb d_M_quotient_107 (by decide) ?_
                        refine k_Vv (As := [.int (nI 304)]) (rest := []) ⟨hx, hb, hml, hown, hts⟩ (c_M_negate l E mo mb mm mw mh ml len en gas ctr siz hgt frm ret on ay (cpy u4 304 353) hq.2.2 304 (by decide)) (k_cwV 1 hts t_885 t_887 t_38 t_71 t_888 (by decide +kernel) ⟨Nat.le_of_ble_eq_true rfl, Nat.le_of_ble_eq_true rfl⟩) hK hG hA hP hD hS [0, 1] rfl (by decide) 0 rfl rfl (fun _ => rfl) rfl hl.1 rfl (Nat.le_of_ble_eq_true rfl) d_M_quotient_110 ⟨Nat.zero_le _, Nat.zero_le _⟩ (fun u5 H locs hu5 hP hD hS => ?_)
                        have hP : va_P E.1 vwCl [(mo, .inr (8, [.int (nI len), .ref mb, .int (kb on), .int (nI en), .int (nI gas), .int (nI ctr), .int (nI siz), .int (nI hgt), .int (nI frm), .int (nI ret), .ref mm, .ref mw, .ref mh, .ref ml, .int (kb ay)])), (mw, .inl (E.2.1 0, 370, .inl (nF u5)))] H := hP
                        have hD : va_D A [(mo, .inr (8, [.int (nI len), .ref mb, .int (kb on), .int (nI en), .int (nI gas), .int (nI ctr), .int (nI siz), .int (nI hgt), .int (nI frm), .int (nI ret), .ref mm, .ref mw, .ref mh, .ref ml, .int (kb ay)])), (mw, .inl (E.2.1 0, 370, .inl (nF u5)))] := hD
                        have hq := q_n hq hu5
                        exact hret _ ls _ _ (u5) d_M_quotient_113 ⟨q_ok (a := true) (b := true) ((Bool.true_and _).trans (by first | exact kb_n0 h11 | exact kb_0.mp h11)) ((Bool.true_and _).trans (by first | exact kb_n0 h31 | exact kb_0.mp h31)) (hq.1.trans (q2_111 _ _).symm), hq.2⟩ hP hS

