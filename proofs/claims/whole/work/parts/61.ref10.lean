/-! the reference's calls -/
def okZ (S : mS) : Prop := ∀ j, 160 ≤ j → S.2.2.2.2.2.2.2.2 j = 0
theorem mem_z {o A B : Nat} {mem : Nat → Nat} (hu : m_used o A B ≤ 160) (h : ∀ j, 160 ≤ j → mem j = 0) : ∀ j, 160 ≤ j → m_mem o A B mem j = 0 := by
  intro j hj
  unfold m_mem
  by_cases c1 : o = 83 ∧ j = A
  · obtain ⟨rfl, rfl⟩ := c1
    have := rm_le (by omega) hu
    omega
  rw [if_neg c1]
  by_cases c2 : o = 82 ∧ A ≤ j ∧ j < A + 32
  · obtain ⟨rfl, h1, h2⟩ := c2
    have := rm_le2 (by omega) hu (by decide)
    omega
  rw [if_neg c2]
  exact h j hj
theorem okZ_go {len : Nat} {b : Nat → Nat} {S : mS} (h : okZ S) : okZ (m_go len b S) := by
  obtain ⟨en, gas, ctr, siz, hgt, frm, ret, stk, mem⟩ := S
  have h : ∀ j, 160 ≤ j → mem j = 0 := h
  by_cases hF : m_fault len b (b ctr) gas siz hgt (m_top stk hgt 0) (m_top stk hgt 1) = 0
  · by_cases h0 : b ctr = 0
    · rw [mg_stop rfl rfl hF h0]; exact h
    · by_cases h1 : b ctr = 243
      · rw [mg_ret rfl rfl hF h1]; exact h
      · rw [mg_do rfl rfl rfl hF (by omega)]
        intro j hj
        show (m_do b (b ctr) _ ctr _ hgt (m_top stk hgt 0) (m_top stk hgt 1) (m_top stk hgt 2) stk mem).2.2.2 j = 0
        by_cases c1 : 128 ≤ b ctr
        · rw [← hi_m c1]; exact h j hj
        · rw [← lo_m c1]; exact mem_z (ff_ok hF).2.2.2.1 h j hj
  · rw [mg_fault rfl rfl hF]; exact h
def okY (y : rS) : Prop := okRr y ∧ okZ y.1
theorem okY_beg {g : Nat} {y : rS} (h : okY y) (hg : g ≤ 9999) : okY ((0, g, 0, 0, 0, 0, 0, y.1.2.2.2.2.2.2.2.1, fun _ => 0), y.2.1, y.2.2) :=
  ⟨⟨⟨by show 0 ≤ 8; decide, hg, by show 0 ≤ 200; decide, by show 0 ≤ 160; decide, rfl, by show 0 ≤ 16; decide, fun q => absurd q (Nat.lt_irrefl 0), fun _ => (by decide : (0 : Nat) < 256), fun _ => rfl⟩, fun q => absurd q (Nat.lt_irrefl 0), h.1.2.2.1, h.1.2.2.2⟩, fun _ _ => rfl⟩
theorem pu_pow (i : Nat) : 65536 ^ (2 * i) = kK ^ i := by rw [Nat.pow_mul]; rfl
def puI (g z : Nat → Nat) (V : Nat → Int32) (r i : Nat) : Prop := gv z r (2 * i) = wv V i ∧ fr1 g z r 16 ∧ ∀ j, z j < 65536
theorem pu_step {g z : Nat → Nat} {V : Nat → Int32} {r i : Nat} {x : Int32} (hi : i < 8) (hV : V i = x) (h : puI g z V r i) : puI g (va_up (va_up z (r + 2 * i) (uw x % 65536)) (r + 2 * i + 1) (uw x / 65536)) V r (i + 1) := by
  obtain ⟨h1, h2, h3⟩ := h
  have b := uw_lt' x
  refine ⟨?_, fr1_up (fr1_up h2 (by omega)) (by omega), g16_up (g16_up h3 (by omega)) (by omega)⟩
  rw [show 2 * (i + 1) = 2 * i + 1 + 1 by omega, show r + 2 * i + 1 = r + (2 * i + 1) by omega, gv_push, gv_push, h1, wv_s, hV, ← pu_pow, Nat.pow_succ]
  generalize 65536 ^ (2 * i) = P
  have e : uw x = uw x % 65536 + uw x / 65536 * 65536 := by omega
  have e2 : uw x * P = uw x % 65536 * P + uw x / 65536 * (P * 65536) := by
    rw [Nat.mul_comm P 65536, ← Nat.mul_assoc, ← Nat.add_mul, ← e]
  omega
theorem okY_push {y : rS} {z : Nat → Nat} {V : Nat → Int32} (h : okY y) (hc : y.1.2.2.2.2.1 < 16) (hz : puI y.2.2 z V (16 * y.1.2.2.2.2.1) 8) : okY (m_push y.1 (wv V 8), y.2.1, z) := by
  obtain ⟨⟨⟨o1, o2, o3, o4, o5, o6, o7, o8, o9⟩, h2, h3, h4⟩, h5⟩ := h
  refine ⟨⟨⟨o1, o2, o3, o4, o5, hc, o7, o8, o9⟩, h2, fun i hi => ?_, hz.2.2⟩, h5⟩
  show rR z i = va_up y.1.2.2.2.2.2.2.2.1 y.1.2.2.2.2.1 (wv V 8) i
  by_cases e : i = y.1.2.2.2.2.1
  · rw [← e, va_up_self, ← hz.1, ← e]; rfl
  · rw [va_up_ne _ _ e, ← h3 i hi]
    exact gv_congr (fun j hj => hz.2.1 _ (by omega))
theorem part_w {M : Nat → Nat → Int32} {r j X : Nat} (hX : kR M r = X) (hj : j < 8) : M r j = nI (X / kK ^ j % kK) := by
  have h := bv_dig (B := kK) (f := fun k => uw (M r k)) (p := j) (n := 8) (fun k _ => uw_lt _) hj
  have h : kR M r / kK ^ j % kK = uw (M r j) := h
  rw [← hX, h, nI_uw]
theorem part_g {g : Nat → Nat} {r j X : Nat} (hg : ∀ j, g j < 65536) (hX : rR g r = X) (hj : j < 8) : g (16 * r + 2 * j) ||| g (16 * r + 2 * j + 1) * 65536 = X / kK ^ j % kK := by
  have h1 := gv_dig (g := g) (r := 16 * r) (p := 2 * j) (n := 16) hg (by omega)
  have h2 := gv_dig (g := g) (r := 16 * r) (p := 2 * j + 1) (n := 16) hg (by omega)
  have hX : gv g (16 * r) 16 = X := hX
  have b1 := hg (16 * r + 2 * j)
  rw [hX] at h1 h2
  rw [← Nat.add_assoc] at h2
  rw [show (65536 : Nat) = 2 ^ 16 from rfl, rd_or (s := 16) b1, ← h1, ← h2, ← pu_pow, Nat.pow_succ, ← Nat.div_div_eq_div_mul]
  generalize X / 65536 ^ (2 * j) = Y
  show Y % 65536 + Y / 65536 % 65536 * 65536 = Y % 4294967296
  omega
theorem okB_up {len : Nat} {b nb : Nat → Nat} {k : Nat} (h : okB len b nb) (hl : len < 96) (hk : k < 256) : okB (len + 1) (va_up b len k) (va_up nb len k) := by
  obtain ⟨h1, h2, h3, h4⟩ := h
  refine ⟨by omega, fun j hj => ?_, fun j => ?_, fun j hj => ?_⟩
  · rw [va_up_ne _ _ (by omega)]; exact h2 j (by omega)
  · by_cases e : j = len
    · subst e; rw [va_up_self]; exact hk
    · rw [va_up_ne _ _ e]; exact h3 j
  · by_cases e : j = len
    · subst e; rw [va_up_self, va_up_self]
    · rw [va_up_ne _ _ e, va_up_ne _ _ e]; exact h4 j (by omega)
theorem okB_0 {nb : Nat → Nat} : okB 0 (fun _ => 0) nb := ⟨by decide, fun _ _ => rfl, fun _ => (by decide : (0 : Nat) < 256), fun j hj => absurd hj (Nat.not_lt_zero j)⟩

abbrev y_M_code : MethodName := ⟨"WideStackModel", "code", "(I)Z"⟩
theorem d_M_code_0 : decode prog_12_method_2_code 0 = .ok (.aload_n 0, 1) := by decide +kernel
theorem d_M_code_1 : decode prog_12_method_2_code 1 = .ok (.getfield 26, 3) := by decide +kernel
theorem d_M_code_4 : decode prog_12_method_2_code 4 = .ok (.bipush 96, 2) := by decide +kernel
theorem d_M_code_6 : decode prog_12_method_2_code 6 = .ok (.if_icmp .eq 14, 3) := by decide +kernel
theorem d_M_code_9 : decode prog_12_method_2_code 9 = .ok (.iload_n 1, 1) := by decide +kernel
theorem d_M_code_10 : decode prog_12_method_2_code 10 = .ok (.ifCond .lt 10, 3) := by decide +kernel
theorem d_M_code_13 : decode prog_12_method_2_code 13 = .ok (.iload_n 1, 1) := by decide +kernel
theorem d_M_code_14 : decode prog_12_method_2_code 14 = .ok (.sipush 255, 3) := by decide +kernel
theorem d_M_code_17 : decode prog_12_method_2_code 17 = .ok (.if_icmp .le 5, 3) := by decide +kernel
theorem d_M_code_20 : decode prog_12_method_2_code 20 = .ok (.iconst 0, 1) := by decide +kernel
theorem d_M_code_21 : decode prog_12_method_2_code 21 = .ok (.ireturn, 1) := by decide +kernel
theorem d_M_code_22 : decode prog_12_method_2_code 22 = .ok (.aload_n 0, 1) := by decide +kernel
theorem d_M_code_23 : decode prog_12_method_2_code 23 = .ok (.getfield 7, 3) := by decide +kernel
theorem d_M_code_26 : decode prog_12_method_2_code 26 = .ok (.aload_n 0, 1) := by decide +kernel
theorem d_M_code_27 : decode prog_12_method_2_code 27 = .ok (.getfield 26, 3) := by decide +kernel
theorem d_M_code_30 : decode prog_12_method_2_code 30 = .ok (.iload_n 1, 1) := by decide +kernel
theorem d_M_code_31 : decode prog_12_method_2_code 31 = .ok (.iastore, 1) := by decide +kernel
theorem d_M_code_32 : decode prog_12_method_2_code 32 = .ok (.aload_n 0, 1) := by decide +kernel
theorem d_M_code_33 : decode prog_12_method_2_code 33 = .ok (.dup, 1) := by decide +kernel
theorem d_M_code_34 : decode prog_12_method_2_code 34 = .ok (.getfield 26, 3) := by decide +kernel
theorem d_M_code_37 : decode prog_12_method_2_code 37 = .ok (.iconst 1, 1) := by decide +kernel
theorem d_M_code_38 : decode prog_12_method_2_code 38 = .ok (.iadd, 1) := by decide +kernel
theorem d_M_code_39 : decode prog_12_method_2_code 39 = .ok (.putfield 26, 3) := by decide +kernel
theorem d_M_code_42 : decode prog_12_method_2_code 42 = .ok (.iconst 1, 1) := by decide +kernel
theorem d_M_code_43 : decode prog_12_method_2_code 43 = .ok (.ireturn, 1) := by decide +kernel
def rm_c_MX_code : Room := { frames := 0, cells := 0, slots := 0, locals := 0 }
set_option maxHeartbeats 4000000 in
set_option maxRecDepth 100000 in
theorem c_MX_code (l : Launch) (E : kE) (mo mb mm mw mh ml : Nat) (on ay : Bool) (y0 : rS) (len : Nat) (nb bb : Nat → Nat) (okb : okB len bb nb) (fh fl : Nat → Int32) (i : Int32) : Ki l y_M_code (kW y_M_code prog_12_method_2_code 2 (some .boolean)) rm_c_MX_code E [.ref mo, .int i] [(mo, .inr (8, [.int (nI len), .ref mb, .int (kb on), .int (nI y0.1.1), .int (nI y0.1.2.1), .int (nI y0.1.2.2.1), .int (nI y0.1.2.2.2.1), .int (nI y0.1.2.2.2.2.1), .int (nI y0.2.1), .int (nI y0.1.2.2.2.2.2.2.1), .ref mm, .ref mw, .ref mh, .ref ml, .int (kb ay)])), (mb, .inl (E.2.1 0, 96, .inl (nF nb))), (mm, .inl (E.2.1 0, 160, .inl (nF y0.1.2.2.2.2.2.2.2.2))), (mw, .inl (E.2.1 0, 370, .inl (nF y0.2.2))), (mh, .inl (E.2.1 0, 144, .inl fh)), (ml, .inl (E.2.1 1, 144, .inl fl))] (S := Nat × (Nat → Nat)) (fun r u => (∃ k, k < 256 ∧ i = nI k ∧ len < 96 ∧ r = nI 1 ∧ u.1 = len + 1 ∧ okB (len + 1) (va_up bb len k) u.2) ∨ ((len = 96 ∨ i < 0 ∨ ¬ i ≤ nI 255) ∧ r = nI 0 ∧ u = (len, nb))) (fun u => [(mo, .inr (8, [.int (nI u.1), .ref mb, .int (kb on), .int (nI y0.1.1), .int (nI y0.1.2.1), .int (nI y0.1.2.2.1), .int (nI y0.1.2.2.2.1), .int (nI y0.1.2.2.2.2.1), .int (nI y0.2.1), .int (nI y0.1.2.2.2.2.2.2.1), .ref mm, .ref mw, .ref mh, .ref ml, .int (kb ay)])), (mb, .inl (E.2.1 0, 96, .inl (nF u.2))), (mm, .inl (E.2.1 0, 160, .inl (nF y0.1.2.2.2.2.2.2.2.2))), (mw, .inl (E.2.1 0, 370, .inl (nF y0.2.2))), (mh, .inl (E.2.1 0, 144, .inl fh)), (ml, .inl (E.2.1 1, 144, .inl fl))]) := by
  refine Ki.ofZ (cc := prog_12_method_2_code) (maxL := 2) (by decide) (Nat.le_of_ble_eq_true rfl) ?_
  intro p e s m args below meth c A ls Q hx hb hts hown hml hK hG hA hP hD hS hl hret
  have hl : lv_has ls 2 [(0, .ref mo), (1, .int i)] := hl
  have hlen := okb.1
  refine lv_aload_n hx hb d_M_code_0 rfl (lv_at hl 0 rfl) ?_
  refine va_get (D := E.1) (ci := 8) (v := .int (nI len)) (C := "WideStackModel") (T := T_M) (N := 15) hx hb hts in_M hown hK hP 0 rfl rfl 0 (by decide) (hts _ t_747) (fun _ h9 => h9) rfl d_M_code_1 ?_
  refine lv_bipush (v := nI 96) hx hb d_M_code_4 (by decide) ?_
  refine kn_eq (tgt := 20) hx hb (by omega) (by omega) d_M_code_6 (by decide) (fun h6 => ?_) (fun h6 => ?_)
  · refine lv_iconst (v := nI 0) hx hb d_M_code_20 (by decide) ?_
    first | exact hret _ ls _ _ _ (len, nb) d_M_code_21 (by decide) (Or.inr ⟨Or.inl h6, rfl, rfl⟩) hP hS | exact hret _ ls _ _ _ (len, nb) d_M_code_21 (by decide) (Or.inr ⟨Or.inr (Or.inl h10), rfl, rfl⟩) hP hS | exact hret _ ls _ _ _ (len, nb) d_M_code_21 (by decide) (Or.inr ⟨Or.inr (Or.inr h17), rfl, rfl⟩) hP hS
  · refine lv_iload_n hx hb d_M_code_9 rfl (lv_at hl 1 rfl) ?_
    refine lv_if_lt (tgt := 20) hx hb d_M_code_10 (by decide) (fun h10 => ?_) (fun h10 => ?_)
    · refine lv_iconst (v := nI 0) hx hb d_M_code_20 (by decide) ?_
      first | exact hret _ ls _ _ _ (len, nb) d_M_code_21 (by decide) (Or.inr ⟨Or.inl h6, rfl, rfl⟩) hP hS | exact hret _ ls _ _ _ (len, nb) d_M_code_21 (by decide) (Or.inr ⟨Or.inr (Or.inl h10), rfl, rfl⟩) hP hS | exact hret _ ls _ _ _ (len, nb) d_M_code_21 (by decide) (Or.inr ⟨Or.inr (Or.inr h17), rfl, rfl⟩) hP hS
    · refine lv_iload_n hx hb d_M_code_13 rfl (lv_at hl 1 rfl) ?_
      refine lv_sipush (v := nI 255) hx hb d_M_code_14 (by decide) ?_
      refine lv_icmp_le (tgt := 22) hx hb d_M_code_17 (by decide) (fun h17 => ?_) (fun h17 => ?_)
      · obtain ⟨k, hk, rfl⟩ := nI_of2 (n := 255) (M := nI 255) (by decide) h10 h17
        refine lv_aload_n hx hb d_M_code_22 rfl (lv_at hl 0 rfl) ?_
        refine va_get (D := E.1) (ci := 8) (v := .ref mb) (C := "WideStackModel") (T := T_M) (N := 15) hx hb hts in_M hown hK hP 0 rfl rfl 1 (by decide) (hts _ t_748) (fun _ h9 => h9) rfl d_M_code_23 ?_
        refine lv_aload_n hx hb d_M_code_26 rfl (lv_at hl 0 rfl) ?_
        refine va_get (D := E.1) (ci := 8) (v := .int (nI len)) (C := "WideStackModel") (T := T_M) (N := 15) hx hb hts in_M hown hK hP 0 rfl rfl 0 (by decide) (hts _ t_747) (fun _ h9 => h9) rfl d_M_code_27 ?_
        refine lv_iload_n hx hb d_M_code_30 rfl (lv_at hl 1 rfl) ?_
        refine k_iastN hx hb hK hP hD hS 1 rfl (i := len) (by omega) (by omega) d_M_code_31 (fun H locs hP hD hS => ?_)
        have hP : va_P E.1 vwCl [(mo, .inr (8, [.int (nI len), .ref mb, .int (kb on), .int (nI y0.1.1), .int (nI y0.1.2.1), .int (nI y0.1.2.2.1), .int (nI y0.1.2.2.2.1), .int (nI y0.1.2.2.2.2.1), .int (nI y0.2.1), .int (nI y0.1.2.2.2.2.2.2.1), .ref mm, .ref mw, .ref mh, .ref ml, .int (kb ay)])), (mb, .inl (E.2.1 0, 96, .inl (nF (va_up nb len k)))), (mm, .inl (E.2.1 0, 160, .inl (nF y0.1.2.2.2.2.2.2.2.2))), (mw, .inl (E.2.1 0, 370, .inl (nF y0.2.2))), (mh, .inl (E.2.1 0, 144, .inl fh)), (ml, .inl (E.2.1 1, 144, .inl fl))] H := hP
        have hD : va_D A [(mo, .inr (8, [.int (nI len), .ref mb, .int (kb on), .int (nI y0.1.1), .int (nI y0.1.2.1), .int (nI y0.1.2.2.1), .int (nI y0.1.2.2.2.1), .int (nI y0.1.2.2.2.2.1), .int (nI y0.2.1), .int (nI y0.1.2.2.2.2.2.2.1), .ref mm, .ref mw, .ref mh, .ref ml, .int (kb ay)])), (mb, .inl (E.2.1 0, 96, .inl (nF (va_up nb len k)))), (mm, .inl (E.2.1 0, 160, .inl (nF y0.1.2.2.2.2.2.2.2.2))), (mw, .inl (E.2.1 0, 370, .inl (nF y0.2.2))), (mh, .inl (E.2.1 0, 144, .inl fh)), (ml, .inl (E.2.1 1, 144, .inl fl))] := hD
        refine lv_aload_n hx hb d_M_code_32 rfl (lv_at hl 0 rfl) ?_
        refine lv_dup hx hb d_M_code_33 rfl ?_
        refine va_get (D := E.1) (ci := 8) (v := .int (nI len)) (C := "WideStackModel") (T := T_M) (N := 15) hx hb hts in_M hown hK hP 0 rfl rfl 0 (by decide) (hts _ t_747) (fun _ h9 => h9) rfl d_M_code_34 ?_
        refine lv_iconst (v := nI 1) hx hb d_M_code_37 (by decide) ?_
        refine lv_iadd hx hb d_M_code_38 ?_
        refine k_top (nI_add _ _) ?_
        refine va_put (D := E.1) (ci := 8) (v := .int (nI (len + 1))) (ty := .int) (C := "WideStackModel") (T := T_M) (N := 15) hx hb hts in_M ty_M tyok_M nm_M hown hK hP hD hS 0 rfl rfl 0 (by decide) (hts _ t_747) (fun _ h9 => h9) rfl (by decide +kernel) rfl rfl (Nat.le_of_ble_eq_true rfl) d_M_code_39 (fun H locs hP hD hS => ?_)
        have hP : va_P E.1 vwCl [(mo, .inr (8, [.int (nI (len + 1)), .ref mb, .int (kb on), .int (nI y0.1.1), .int (nI y0.1.2.1), .int (nI y0.1.2.2.1), .int (nI y0.1.2.2.2.1), .int (nI y0.1.2.2.2.2.1), .int (nI y0.2.1), .int (nI y0.1.2.2.2.2.2.2.1), .ref mm, .ref mw, .ref mh, .ref ml, .int (kb ay)])), (mb, .inl (E.2.1 0, 96, .inl (nF (va_up nb len k)))), (mm, .inl (E.2.1 0, 160, .inl (nF y0.1.2.2.2.2.2.2.2.2))), (mw, .inl (E.2.1 0, 370, .inl (nF y0.2.2))), (mh, .inl (E.2.1 0, 144, .inl fh)), (ml, .inl (E.2.1 1, 144, .inl fl))] H := hP
        have hD : va_D A [(mo, .inr (8, [.int (nI (len + 1)), .ref mb, .int (kb on), .int (nI y0.1.1), .int (nI y0.1.2.1), .int (nI y0.1.2.2.1), .int (nI y0.1.2.2.2.1), .int (nI y0.1.2.2.2.2.1), .int (nI y0.2.1), .int (nI y0.1.2.2.2.2.2.2.1), .ref mm, .ref mw, .ref mh, .ref ml, .int (kb ay)])), (mb, .inl (E.2.1 0, 96, .inl (nF (va_up nb len k)))), (mm, .inl (E.2.1 0, 160, .inl (nF y0.1.2.2.2.2.2.2.2.2))), (mw, .inl (E.2.1 0, 370, .inl (nF y0.2.2))), (mh, .inl (E.2.1 0, 144, .inl fh)), (ml, .inl (E.2.1 1, 144, .inl fl))] := hD
        refine lv_iconst (v := nI 1) hx hb d_M_code_42 (by decide) ?_
        exact hret _ ls _ _ _ (len + 1, va_up nb len k) d_M_code_43 (by decide) (Or.inl ⟨k, by omega, rfl, by omega, rfl, rfl, okB_up okb (by omega) (by omega)⟩) hP hS
      · refine lv_iconst (v := nI 0) hx hb d_M_code_20 (by decide) ?_
        first | exact hret _ ls _ _ _ (len, nb) d_M_code_21 (by decide) (Or.inr ⟨Or.inl h6, rfl, rfl⟩) hP hS | exact hret _ ls _ _ _ (len, nb) d_M_code_21 (by decide) (Or.inr ⟨Or.inr (Or.inl h10), rfl, rfl⟩) hP hS | exact hret _ ls _ _ _ (len, nb) d_M_code_21 (by decide) (Or.inr ⟨Or.inr (Or.inr h17), rfl, rfl⟩) hP hS

abbrev y_M_clear : MethodName := ⟨"WideStackModel", "clear", "()V"⟩
theorem d_M_clear_0 : decode prog_12_method_3_code 0 = .ok (.aload_n 0, 1) := by decide +kernel
theorem d_M_clear_1 : decode prog_12_method_3_code 1 = .ok (.iconst 0, 1) := by decide +kernel
theorem d_M_clear_2 : decode prog_12_method_3_code 2 = .ok (.putfield 26, 3) := by decide +kernel
theorem d_M_clear_5 : decode prog_12_method_3_code 5 = .ok (.aload_n 0, 1) := by decide +kernel
theorem d_M_clear_6 : decode prog_12_method_3_code 6 = .ok (.iconst 0, 1) := by decide +kernel
theorem d_M_clear_7 : decode prog_12_method_3_code 7 = .ok (.putfield 30, 3) := by decide +kernel
theorem d_M_clear_10 : decode prog_12_method_3_code 10 = .ok (.aload_n 0, 1) := by decide +kernel
theorem d_M_clear_11 : decode prog_12_method_3_code 11 = .ok (.iconst 0, 1) := by decide +kernel
theorem d_M_clear_12 : decode prog_12_method_3_code 12 = .ok (.putfield 34, 3) := by decide +kernel
theorem d_M_clear_15 : decode prog_12_method_3_code 15 = .ok (.return_, 1) := by decide +kernel
def rm_c_MX_clear : Room := { frames := 0, cells := 0, slots := 0, locals := 0 }
set_option maxHeartbeats 4000000 in
set_option maxRecDepth 100000 in
theorem c_MX_clear (l : Launch) (E : kE) (mo mb mm mw mh ml : Nat) (on ay : Bool) (y0 : rS) (len : Nat) (nb bb : Nat → Nat) (okb : okB len bb nb) (fh fl : Nat → Int32) : Kv l y_M_clear (kW y_M_clear prog_12_method_3_code 1 (none)) rm_c_MX_clear E [.ref mo] [(mo, .inr (8, [.int (nI len), .ref mb, .int (kb on), .int (nI y0.1.1), .int (nI y0.1.2.1), .int (nI y0.1.2.2.1), .int (nI y0.1.2.2.2.1), .int (nI y0.1.2.2.2.2.1), .int (nI y0.2.1), .int (nI y0.1.2.2.2.2.2.2.1), .ref mm, .ref mw, .ref mh, .ref ml, .int (kb ay)])), (mb, .inl (E.2.1 0, 96, .inl (nF nb))), (mm, .inl (E.2.1 0, 160, .inl (nF y0.1.2.2.2.2.2.2.2.2))), (mw, .inl (E.2.1 0, 370, .inl (nF y0.2.2))), (mh, .inl (E.2.1 0, 144, .inl fh)), (ml, .inl (E.2.1 1, 144, .inl fl))] (S := Unit) (fun _ => True) (fun _ => [(mo, .inr (8, [.int (nI 0), .ref mb, .int (kb false), .int (nI y0.1.1), .int (nI y0.1.2.1), .int (nI y0.1.2.2.1), .int (nI y0.1.2.2.2.1), .int (nI y0.1.2.2.2.2.1), .int (nI y0.2.1), .int (nI y0.1.2.2.2.2.2.2.1), .ref mm, .ref mw, .ref mh, .ref ml, .int (kb false)])), (mb, .inl (E.2.1 0, 96, .inl (nF nb))), (mm, .inl (E.2.1 0, 160, .inl (nF y0.1.2.2.2.2.2.2.2.2))), (mw, .inl (E.2.1 0, 370, .inl (nF y0.2.2))), (mh, .inl (E.2.1 0, 144, .inl fh)), (ml, .inl (E.2.1 1, 144, .inl fl))]) := by
  refine Kv.ofW (cc := prog_12_method_3_code) (maxL := 1) (by decide) (Nat.le_of_ble_eq_true rfl) ?_
  intro p e s m args below meth c A ls Q hx hb hts hown hml hK hG hA hP hD hS hl hret
  have hl : lv_has ls 1 [(0, .ref mo)] := hl
  refine lv_aload_n hx hb d_M_clear_0 rfl (lv_at hl 0 rfl) ?_
  refine lv_iconst (v := nI 0) hx hb d_M_clear_1 (by decide) ?_
  refine va_put (D := E.1) (ci := 8) (v := .int (nI 0)) (ty := .int) (C := "WideStackModel") (T := T_M) (N := 15) hx hb hts in_M ty_M tyok_M nm_M hown hK hP hD hS 0 rfl rfl 0 (by decide) (hts _ t_747) (fun _ h9 => h9) rfl (by decide +kernel) rfl rfl (Nat.le_of_ble_eq_true rfl) d_M_clear_2 (fun H locs hP hD hS => ?_)
  have hP : va_P E.1 vwCl [(mo, .inr (8, [.int (nI 0), .ref mb, .int (kb on), .int (nI y0.1.1), .int (nI y0.1.2.1), .int (nI y0.1.2.2.1), .int (nI y0.1.2.2.2.1), .int (nI y0.1.2.2.2.2.1), .int (nI y0.2.1), .int (nI y0.1.2.2.2.2.2.2.1), .ref mm, .ref mw, .ref mh, .ref ml, .int (kb ay)])), (mb, .inl (E.2.1 0, 96, .inl (nF nb))), (mm, .inl (E.2.1 0, 160, .inl (nF y0.1.2.2.2.2.2.2.2.2))), (mw, .inl (E.2.1 0, 370, .inl (nF y0.2.2))), (mh, .inl (E.2.1 0, 144, .inl fh)), (ml, .inl (E.2.1 1, 144, .inl fl))] H := hP
  have hD : va_D A [(mo, .inr (8, [.int (nI 0), .ref mb, .int (kb on), .int (nI y0.1.1), .int (nI y0.1.2.1), .int (nI y0.1.2.2.1), .int (nI y0.1.2.2.2.1), .int (nI y0.1.2.2.2.2.1), .int (nI y0.2.1), .int (nI y0.1.2.2.2.2.2.2.1), .ref mm, .ref mw, .ref mh, .ref ml, .int (kb ay)])), (mb, .inl (E.2.1 0, 96, .inl (nF nb))), (mm, .inl (E.2.1 0, 160, .inl (nF y0.1.2.2.2.2.2.2.2.2))), (mw, .inl (E.2.1 0, 370, .inl (nF y0.2.2))), (mh, .inl (E.2.1 0, 144, .inl fh)), (ml, .inl (E.2.1 1, 144, .inl fl))] := hD
  refine lv_aload_n hx hb d_M_clear_5 rfl (lv_at hl 0 rfl) ?_
  refine lv_iconst (v := nI 0) hx hb d_M_clear_6 (by decide) ?_
  refine k_top (y := kb false) (by decide) ?_
  refine va_put (D := E.1) (ci := 8) (v := .int (kb false)) (ty := .boolean) (C := "WideStackModel") (T := T_M) (N := 15) hx hb hts in_M ty_M tyok_M nm_M hown hK hP hD hS 0 rfl rfl 2 (by decide) (hts _ t_749) (fun _ h9 => h9) rfl (by decide +kernel) rfl rfl (Nat.le_of_ble_eq_true rfl) d_M_clear_7 (fun H locs hP hD hS => ?_)
  have hP : va_P E.1 vwCl [(mo, .inr (8, [.int (nI 0), .ref mb, .int (kb false), .int (nI y0.1.1), .int (nI y0.1.2.1), .int (nI y0.1.2.2.1), .int (nI y0.1.2.2.2.1), .int (nI y0.1.2.2.2.2.1), .int (nI y0.2.1), .int (nI y0.1.2.2.2.2.2.2.1), .ref mm, .ref mw, .ref mh, .ref ml, .int (kb ay)])), (mb, .inl (E.2.1 0, 96, .inl (nF nb))), (mm, .inl (E.2.1 0, 160, .inl (nF y0.1.2.2.2.2.2.2.2.2))), (mw, .inl (E.2.1 0, 370, .inl (nF y0.2.2))), (mh, .inl (E.2.1 0, 144, .inl fh)), (ml, .inl (E.2.1 1, 144, .inl fl))] H := hP
  have hD : va_D A [(mo, .inr (8, [.int (nI 0), .ref mb, .int (kb false), .int (nI y0.1.1), .int (nI y0.1.2.1), .int (nI y0.1.2.2.1), .int (nI y0.1.2.2.2.1), .int (nI y0.1.2.2.2.2.1), .int (nI y0.2.1), .int (nI y0.1.2.2.2.2.2.2.1), .ref mm, .ref mw, .ref mh, .ref ml, .int (kb ay)])), (mb, .inl (E.2.1 0, 96, .inl (nF nb))), (mm, .inl (E.2.1 0, 160, .inl (nF y0.1.2.2.2.2.2.2.2.2))), (mw, .inl (E.2.1 0, 370, .inl (nF y0.2.2))), (mh, .inl (E.2.1 0, 144, .inl fh)), (ml, .inl (E.2.1 1, 144, .inl fl))] := hD
  refine lv_aload_n hx hb d_M_clear_10 rfl (lv_at hl 0 rfl) ?_
  refine lv_iconst (v := nI 0) hx hb d_M_clear_11 (by decide) ?_
  refine k_top (y := kb false) (by decide) ?_
  refine va_put (D := E.1) (ci := 8) (v := .int (kb false)) (ty := .boolean) (C := "WideStackModel") (T := T_M) (N := 15) hx hb hts in_M ty_M tyok_M nm_M hown hK hP hD hS 0 rfl rfl 14 (by decide) (hts _ t_761) (fun _ h9 => h9) rfl (by decide +kernel) rfl rfl (Nat.le_of_ble_eq_true rfl) d_M_clear_12 (fun H locs hP hD hS => ?_)
  have hP : va_P E.1 vwCl [(mo, .inr (8, [.int (nI 0), .ref mb, .int (kb false), .int (nI y0.1.1), .int (nI y0.1.2.1), .int (nI y0.1.2.2.1), .int (nI y0.1.2.2.2.1), .int (nI y0.1.2.2.2.2.1), .int (nI y0.2.1), .int (nI y0.1.2.2.2.2.2.2.1), .ref mm, .ref mw, .ref mh, .ref ml, .int (kb false)])), (mb, .inl (E.2.1 0, 96, .inl (nF nb))), (mm, .inl (E.2.1 0, 160, .inl (nF y0.1.2.2.2.2.2.2.2.2))), (mw, .inl (E.2.1 0, 370, .inl (nF y0.2.2))), (mh, .inl (E.2.1 0, 144, .inl fh)), (ml, .inl (E.2.1 1, 144, .inl fl))] H := hP
  have hD : va_D A [(mo, .inr (8, [.int (nI 0), .ref mb, .int (kb false), .int (nI y0.1.1), .int (nI y0.1.2.1), .int (nI y0.1.2.2.1), .int (nI y0.1.2.2.2.1), .int (nI y0.1.2.2.2.2.1), .int (nI y0.2.1), .int (nI y0.1.2.2.2.2.2.2.1), .ref mm, .ref mw, .ref mh, .ref ml, .int (kb false)])), (mb, .inl (E.2.1 0, 96, .inl (nF nb))), (mm, .inl (E.2.1 0, 160, .inl (nF y0.1.2.2.2.2.2.2.2.2))), (mw, .inl (E.2.1 0, 370, .inl (nF y0.2.2))), (mh, .inl (E.2.1 0, 144, .inl fh)), (ml, .inl (E.2.1 1, 144, .inl fl))] := hD
  exact hret _ ls _ _ () d_M_clear_15 trivial hP hS

theorem st_z {z : Nat → Nat} {i : Nat} (hi : i < 160) (h : (∀ q, q < i → z q = 0) ∧ ∀ q, 160 ≤ q → z q = 0) : (∀ q, q < i + 1 → va_up z i 0 q = 0) ∧ ∀ q, 160 ≤ q → va_up z i 0 q = 0 := by
  refine ⟨fun q hq => ?_, fun q hq => by rw [va_up_ne _ _ (by omega)]; exact h.2 q hq⟩
  by_cases e : q = i
  · subst e; rw [va_up_self]
  · rw [va_up_ne _ _ e]; exact h.1 q (by omega)

abbrev y_M_start : MethodName := ⟨"WideStackModel", "start", "(I)Z"⟩
theorem d_M_start_0 : decode prog_12_method_33_code 0 = .ok (.iload_n 1, 1) := by decide +kernel
theorem d_M_start_1 : decode prog_12_method_33_code 1 = .ok (.ifCond .lt 10, 3) := by decide +kernel
theorem d_M_start_4 : decode prog_12_method_33_code 4 = .ok (.iload_n 1, 1) := by decide +kernel
theorem d_M_start_5 : decode prog_12_method_33_code 5 = .ok (.sipush 9999, 3) := by decide +kernel
theorem d_M_start_8 : decode prog_12_method_33_code 8 = .ok (.if_icmp .le 5, 3) := by decide +kernel
theorem d_M_start_11 : decode prog_12_method_33_code 11 = .ok (.iconst 0, 1) := by decide +kernel
theorem d_M_start_12 : decode prog_12_method_33_code 12 = .ok (.ireturn, 1) := by decide +kernel
theorem d_M_start_13 : decode prog_12_method_33_code 13 = .ok (.aload_n 0, 1) := by decide +kernel
theorem d_M_start_14 : decode prog_12_method_33_code 14 = .ok (.iconst 1, 1) := by decide +kernel
theorem d_M_start_15 : decode prog_12_method_33_code 15 = .ok (.putfield 30, 3) := by decide +kernel
theorem d_M_start_18 : decode prog_12_method_33_code 18 = .ok (.aload_n 0, 1) := by decide +kernel
theorem d_M_start_19 : decode prog_12_method_33_code 19 = .ok (.iconst 0, 1) := by decide +kernel
theorem d_M_start_20 : decode prog_12_method_33_code 20 = .ok (.putfield 94, 3) := by decide +kernel
theorem d_M_start_23 : decode prog_12_method_33_code 23 = .ok (.aload_n 0, 1) := by decide +kernel
theorem d_M_start_24 : decode prog_12_method_33_code 24 = .ok (.iload_n 1, 1) := by decide +kernel
theorem d_M_start_25 : decode prog_12_method_33_code 25 = .ok (.putfield 97, 3) := by decide +kernel
theorem d_M_start_28 : decode prog_12_method_33_code 28 = .ok (.aload_n 0, 1) := by decide +kernel
theorem d_M_start_29 : decode prog_12_method_33_code 29 = .ok (.iconst 0, 1) := by decide +kernel
theorem d_M_start_30 : decode prog_12_method_33_code 30 = .ok (.putfield 100, 3) := by decide +kernel
theorem d_M_start_33 : decode prog_12_method_33_code 33 = .ok (.aload_n 0, 1) := by decide +kernel
theorem d_M_start_34 : decode prog_12_method_33_code 34 = .ok (.iconst 0, 1) := by decide +kernel
theorem d_M_start_35 : decode prog_12_method_33_code 35 = .ok (.putfield 103, 3) := by decide +kernel
theorem d_M_start_38 : decode prog_12_method_33_code 38 = .ok (.aload_n 0, 1) := by decide +kernel
theorem d_M_start_39 : decode prog_12_method_33_code 39 = .ok (.iconst 0, 1) := by decide +kernel
theorem d_M_start_40 : decode prog_12_method_33_code 40 = .ok (.putfield 91, 3) := by decide +kernel
theorem d_M_start_43 : decode prog_12_method_33_code 43 = .ok (.aload_n 0, 1) := by decide +kernel
theorem d_M_start_44 : decode prog_12_method_33_code 44 = .ok (.iconst 0, 1) := by decide +kernel
theorem d_M_start_45 : decode prog_12_method_33_code 45 = .ok (.putfield 106, 3) := by decide +kernel
theorem d_M_start_48 : decode prog_12_method_33_code 48 = .ok (.iconst 0, 1) := by decide +kernel
theorem d_M_start_49 : decode prog_12_method_33_code 49 = .ok (.istore_n 2, 1) := by decide +kernel
theorem d_M_start_50 : decode prog_12_method_33_code 50 = .ok (.iload_n 2, 1) := by decide +kernel
theorem d_M_start_51 : decode prog_12_method_33_code 51 = .ok (.sipush 160, 3) := by decide +kernel
theorem d_M_start_54 : decode prog_12_method_33_code 54 = .ok (.if_icmp .ge 16, 3) := by decide +kernel
theorem d_M_start_57 : decode prog_12_method_33_code 57 = .ok (.aload_n 0, 1) := by decide +kernel
theorem d_M_start_58 : decode prog_12_method_33_code 58 = .ok (.getfield 13, 3) := by decide +kernel
theorem d_M_start_61 : decode prog_12_method_33_code 61 = .ok (.iload_n 2, 1) := by decide +kernel
theorem d_M_start_62 : decode prog_12_method_33_code 62 = .ok (.iconst 0, 1) := by decide +kernel
theorem d_M_start_63 : decode prog_12_method_33_code 63 = .ok (.iastore, 1) := by decide +kernel
theorem d_M_start_64 : decode prog_12_method_33_code 64 = .ok (.iinc 2 1, 3) := by decide +kernel
theorem d_M_start_67 : decode prog_12_method_33_code 67 = .ok (.goto (-17), 3) := by decide +kernel
theorem d_M_start_70 : decode prog_12_method_33_code 70 = .ok (.iconst 1, 1) := by decide +kernel
theorem d_M_start_71 : decode prog_12_method_33_code 71 = .ok (.ireturn, 1) := by decide +kernel
def rm_c_MX_start : Room := { frames := 0, cells := 0, slots := 0, locals := 0 }
set_option maxHeartbeats 4000000 in
set_option maxRecDepth 100000 in
theorem c_MX_start (l : Launch) (E : kE) (mo mb mm mw mh ml : Nat) (on ay : Bool) (y0 : rS) (len : Nat) (nb bb : Nat → Nat) (okb : okB len bb nb) (fh fl : Nat → Int32) (i : Int32) (hY : okY y0) : Ki l y_M_start (kW y_M_start prog_12_method_33_code 3 (some .boolean)) rm_c_MX_start E [.ref mo, .int i] [(mo, .inr (8, [.int (nI len), .ref mb, .int (kb on), .int (nI y0.1.1), .int (nI y0.1.2.1), .int (nI y0.1.2.2.1), .int (nI y0.1.2.2.2.1), .int (nI y0.1.2.2.2.2.1), .int (nI y0.2.1), .int (nI y0.1.2.2.2.2.2.2.1), .ref mm, .ref mw, .ref mh, .ref ml, .int (kb ay)])), (mb, .inl (E.2.1 0, 96, .inl (nF nb))), (mm, .inl (E.2.1 0, 160, .inl (nF y0.1.2.2.2.2.2.2.2.2))), (mw, .inl (E.2.1 0, 370, .inl (nF y0.2.2))), (mh, .inl (E.2.1 0, 144, .inl fh)), (ml, .inl (E.2.1 1, 144, .inl fl))] (S := Bool × rS) (fun r u => (m_in i 10000 = true ∧ r = nI 1 ∧ u.1 = true ∧ okY u.2 ∧ u.2.1 = (0, i.toNatClampNeg, 0, 0, 0, 0, 0, y0.1.2.2.2.2.2.2.2.1, fun _ => 0)) ∨ (m_in i 10000 = false ∧ r = nI 0 ∧ u = (on, y0))) (fun u => [(mo, .inr (8, [.int (nI len), .ref mb, .int (kb u.1), .int (nI u.2.1.1), .int (nI u.2.1.2.1), .int (nI u.2.1.2.2.1), .int (nI u.2.1.2.2.2.1), .int (nI u.2.1.2.2.2.2.1), .int (nI u.2.2.1), .int (nI u.2.1.2.2.2.2.2.2.1), .ref mm, .ref mw, .ref mh, .ref ml, .int (kb ay)])), (mb, .inl (E.2.1 0, 96, .inl (nF nb))), (mm, .inl (E.2.1 0, 160, .inl (nF u.2.1.2.2.2.2.2.2.2.2))), (mw, .inl (E.2.1 0, 370, .inl (nF u.2.2.2))), (mh, .inl (E.2.1 0, 144, .inl fh)), (ml, .inl (E.2.1 1, 144, .inl fl))]) := by
  refine Ki.ofZ (cc := prog_12_method_33_code) (maxL := 3) (by decide) (Nat.le_of_ble_eq_true rfl) ?_
  intro p e s m args below meth c A ls Q hx hb hts hown hml hK hG hA hP hD hS hl hret
  have hl : lv_has ls 3 [(0, .ref mo), (1, .int i)] := hl
  refine lv_iload_n hx hb d_M_start_0 rfl (lv_at hl 1 rfl) ?_
  refine lv_if_lt (tgt := 11) hx hb d_M_start_1 (by decide) (fun h1 => ?_) (fun h1 => ?_)
  · refine lv_iconst (v := nI 0) hx hb d_M_start_11 (by decide) ?_
    first | exact hret _ ls _ _ _ (on, y0) d_M_start_12 (by decide) (Or.inr ⟨m_in_f1 h1, rfl, rfl⟩) hP hS | exact hret _ ls _ _ _ (on, y0) d_M_start_12 (by decide) (Or.inr ⟨m_in_f2 (st_hi h8), rfl, rfl⟩) hP hS
  · refine lv_iload_n hx hb d_M_start_4 rfl (lv_at hl 1 rfl) ?_
    refine lv_sipush (v := nI 9999) hx hb d_M_start_5 (by decide) ?_
    refine lv_icmp_le (tgt := 13) hx hb d_M_start_8 (by decide) (fun h8 => ?_) (fun h8 => ?_)
    · obtain ⟨j, hj, rfl⟩ := nI_of2 (n := 9999) (M := nI 9999) (by decide) h1 h8
      refine lv_aload_n hx hb d_M_start_13 rfl (lv_at hl 0 rfl) ?_
      refine lv_iconst (v := nI 1) hx hb d_M_start_14 (by decide) ?_
      refine k_top (y := kb true) (by decide) ?_
      refine va_put (D := E.1) (ci := 8) (v := .int (kb true)) (ty := .boolean) (C := "WideStackModel") (T := T_M) (N := 15) hx hb hts in_M ty_M tyok_M nm_M hown hK hP hD hS 0 rfl rfl 2 (by decide) (hts _ t_749) (fun _ h9 => h9) rfl (by decide +kernel) rfl rfl (Nat.le_of_ble_eq_true rfl) d_M_start_15 (fun H locs hP hD hS => ?_)
      have hP : va_P E.1 vwCl [(mo, .inr (8, [.int (nI len), .ref mb, .int (kb true), .int (nI y0.1.1), .int (nI y0.1.2.1), .int (nI y0.1.2.2.1), .int (nI y0.1.2.2.2.1), .int (nI y0.1.2.2.2.2.1), .int (nI y0.2.1), .int (nI y0.1.2.2.2.2.2.2.1), .ref mm, .ref mw, .ref mh, .ref ml, .int (kb ay)])), (mb, .inl (E.2.1 0, 96, .inl (nF nb))), (mm, .inl (E.2.1 0, 160, .inl (nF y0.1.2.2.2.2.2.2.2.2))), (mw, .inl (E.2.1 0, 370, .inl (nF y0.2.2))), (mh, .inl (E.2.1 0, 144, .inl fh)), (ml, .inl (E.2.1 1, 144, .inl fl))] H := hP
      have hD : va_D A [(mo, .inr (8, [.int (nI len), .ref mb, .int (kb true), .int (nI y0.1.1), .int (nI y0.1.2.1), .int (nI y0.1.2.2.1), .int (nI y0.1.2.2.2.1), .int (nI y0.1.2.2.2.2.1), .int (nI y0.2.1), .int (nI y0.1.2.2.2.2.2.2.1), .ref mm, .ref mw, .ref mh, .ref ml, .int (kb ay)])), (mb, .inl (E.2.1 0, 96, .inl (nF nb))), (mm, .inl (E.2.1 0, 160, .inl (nF y0.1.2.2.2.2.2.2.2.2))), (mw, .inl (E.2.1 0, 370, .inl (nF y0.2.2))), (mh, .inl (E.2.1 0, 144, .inl fh)), (ml, .inl (E.2.1 1, 144, .inl fl))] := hD
      refine lv_aload_n hx hb d_M_start_18 rfl (lv_at hl 0 rfl) ?_
      refine lv_iconst (v := nI 0) hx hb d_M_start_19 (by decide) ?_
      refine va_put (D := E.1) (ci := 8) (v := .int (nI 0)) (ty := .int) (C := "WideStackModel") (T := T_M) (N := 15) hx hb hts in_M ty_M tyok_M nm_M hown hK hP hD hS 0 rfl rfl 3 (by decide) (hts _ t_750) (fun _ h9 => h9) rfl (by decide +kernel) rfl rfl (Nat.le_of_ble_eq_true rfl) d_M_start_20 (fun H locs hP hD hS => ?_)
      have hP : va_P E.1 vwCl [(mo, .inr (8, [.int (nI len), .ref mb, .int (kb true), .int (nI 0), .int (nI y0.1.2.1), .int (nI y0.1.2.2.1), .int (nI y0.1.2.2.2.1), .int (nI y0.1.2.2.2.2.1), .int (nI y0.2.1), .int (nI y0.1.2.2.2.2.2.2.1), .ref mm, .ref mw, .ref mh, .ref ml, .int (kb ay)])), (mb, .inl (E.2.1 0, 96, .inl (nF nb))), (mm, .inl (E.2.1 0, 160, .inl (nF y0.1.2.2.2.2.2.2.2.2))), (mw, .inl (E.2.1 0, 370, .inl (nF y0.2.2))), (mh, .inl (E.2.1 0, 144, .inl fh)), (ml, .inl (E.2.1 1, 144, .inl fl))] H := hP
      have hD : va_D A [(mo, .inr (8, [.int (nI len), .ref mb, .int (kb true), .int (nI 0), .int (nI y0.1.2.1), .int (nI y0.1.2.2.1), .int (nI y0.1.2.2.2.1), .int (nI y0.1.2.2.2.2.1), .int (nI y0.2.1), .int (nI y0.1.2.2.2.2.2.2.1), .ref mm, .ref mw, .ref mh, .ref ml, .int (kb ay)])), (mb, .inl (E.2.1 0, 96, .inl (nF nb))), (mm, .inl (E.2.1 0, 160, .inl (nF y0.1.2.2.2.2.2.2.2.2))), (mw, .inl (E.2.1 0, 370, .inl (nF y0.2.2))), (mh, .inl (E.2.1 0, 144, .inl fh)), (ml, .inl (E.2.1 1, 144, .inl fl))] := hD
      refine lv_aload_n hx hb d_M_start_23 rfl (lv_at hl 0 rfl) ?_
      refine lv_iload_n hx hb d_M_start_24 rfl (lv_at hl 1 rfl) ?_
      refine va_put (D := E.1) (ci := 8) (v := .int (nI j)) (ty := .int) (C := "WideStackModel") (T := T_M) (N := 15) hx hb hts in_M ty_M tyok_M nm_M hown hK hP hD hS 0 rfl rfl 4 (by decide) (hts _ t_751) (fun _ h9 => h9) rfl (by decide +kernel) rfl rfl (Nat.le_of_ble_eq_true rfl) d_M_start_25 (fun H locs hP hD hS => ?_)
      have hP : va_P E.1 vwCl [(mo, .inr (8, [.int (nI len), .ref mb, .int (kb true), .int (nI 0), .int (nI j), .int (nI y0.1.2.2.1), .int (nI y0.1.2.2.2.1), .int (nI y0.1.2.2.2.2.1), .int (nI y0.2.1), .int (nI y0.1.2.2.2.2.2.2.1), .ref mm, .ref mw, .ref mh, .ref ml, .int (kb ay)])), (mb, .inl (E.2.1 0, 96, .inl (nF nb))), (mm, .inl (E.2.1 0, 160, .inl (nF y0.1.2.2.2.2.2.2.2.2))), (mw, .inl (E.2.1 0, 370, .inl (nF y0.2.2))), (mh, .inl (E.2.1 0, 144, .inl fh)), (ml, .inl (E.2.1 1, 144, .inl fl))] H := hP
      have hD : va_D A [(mo, .inr (8, [.int (nI len), .ref mb, .int (kb true), .int (nI 0), .int (nI j), .int (nI y0.1.2.2.1), .int (nI y0.1.2.2.2.1), .int (nI y0.1.2.2.2.2.1), .int (nI y0.2.1), .int (nI y0.1.2.2.2.2.2.2.1), .ref mm, .ref mw, .ref mh, .ref ml, .int (kb ay)])), (mb, .inl (E.2.1 0, 96, .inl (nF nb))), (mm, .inl (E.2.1 0, 160, .inl (nF y0.1.2.2.2.2.2.2.2.2))), (mw, .inl (E.2.1 0, 370, .inl (nF y0.2.2))), (mh, .inl (E.2.1 0, 144, .inl fh)), (ml, .inl (E.2.1 1, 144, .inl fl))] := hD
      refine lv_aload_n hx hb d_M_start_28 rfl (lv_at hl 0 rfl) ?_
      refine lv_iconst (v := nI 0) hx hb d_M_start_29 (by decide) ?_
      refine va_put (D := E.1) (ci := 8) (v := .int (nI 0)) (ty := .int) (C := "WideStackModel") (T := T_M) (N := 15) hx hb hts in_M ty_M tyok_M nm_M hown hK hP hD hS 0 rfl rfl 5 (by decide) (hts _ t_752) (fun _ h9 => h9) rfl (by decide +kernel) rfl rfl (Nat.le_of_ble_eq_true rfl) d_M_start_30 (fun H locs hP hD hS => ?_)
      have hP : va_P E.1 vwCl [(mo, .inr (8, [.int (nI len), .ref mb, .int (kb true), .int (nI 0), .int (nI j), .int (nI 0), .int (nI y0.1.2.2.2.1), .int (nI y0.1.2.2.2.2.1), .int (nI y0.2.1), .int (nI y0.1.2.2.2.2.2.2.1), .ref mm, .ref mw, .ref mh, .ref ml, .int (kb ay)])), (mb, .inl (E.2.1 0, 96, .inl (nF nb))), (mm, .inl (E.2.1 0, 160, .inl (nF y0.1.2.2.2.2.2.2.2.2))), (mw, .inl (E.2.1 0, 370, .inl (nF y0.2.2))), (mh, .inl (E.2.1 0, 144, .inl fh)), (ml, .inl (E.2.1 1, 144, .inl fl))] H := hP
      have hD : va_D A [(mo, .inr (8, [.int (nI len), .ref mb, .int (kb true), .int (nI 0), .int (nI j), .int (nI 0), .int (nI y0.1.2.2.2.1), .int (nI y0.1.2.2.2.2.1), .int (nI y0.2.1), .int (nI y0.1.2.2.2.2.2.2.1), .ref mm, .ref mw, .ref mh, .ref ml, .int (kb ay)])), (mb, .inl (E.2.1 0, 96, .inl (nF nb))), (mm, .inl (E.2.1 0, 160, .inl (nF y0.1.2.2.2.2.2.2.2.2))), (mw, .inl (E.2.1 0, 370, .inl (nF y0.2.2))), (mh, .inl (E.2.1 0, 144, .inl fh)), (ml, .inl (E.2.1 1, 144, .inl fl))] := hD
      refine lv_aload_n hx hb d_M_start_33 rfl (lv_at hl 0 rfl) ?_
      refine lv_iconst (v := nI 0) hx hb d_M_start_34 (by decide) ?_
      refine va_put (D := E.1) (ci := 8) (v := .int (nI 0)) (ty := .int) (C := "WideStackModel") (T := T_M) (N := 15) hx hb hts in_M ty_M tyok_M nm_M hown hK hP hD hS 0 rfl rfl 6 (by decide) (hts _ t_753) (fun _ h9 => h9) rfl (by decide +kernel) rfl rfl (Nat.le_of_ble_eq_true rfl) d_M_start_35 (fun H locs hP hD hS => ?_)
      have hP : va_P E.1 vwCl [(mo, .inr (8, [.int (nI len), .ref mb, .int (kb true), .int (nI 0), .int (nI j), .int (nI 0), .int (nI 0), .int (nI y0.1.2.2.2.2.1), .int (nI y0.2.1), .int (nI y0.1.2.2.2.2.2.2.1), .ref mm, .ref mw, .ref mh, .ref ml, .int (kb ay)])), (mb, .inl (E.2.1 0, 96, .inl (nF nb))), (mm, .inl (E.2.1 0, 160, .inl (nF y0.1.2.2.2.2.2.2.2.2))), (mw, .inl (E.2.1 0, 370, .inl (nF y0.2.2))), (mh, .inl (E.2.1 0, 144, .inl fh)), (ml, .inl (E.2.1 1, 144, .inl fl))] H := hP
      have hD : va_D A [(mo, .inr (8, [.int (nI len), .ref mb, .int (kb true), .int (nI 0), .int (nI j), .int (nI 0), .int (nI 0), .int (nI y0.1.2.2.2.2.1), .int (nI y0.2.1), .int (nI y0.1.2.2.2.2.2.2.1), .ref mm, .ref mw, .ref mh, .ref ml, .int (kb ay)])), (mb, .inl (E.2.1 0, 96, .inl (nF nb))), (mm, .inl (E.2.1 0, 160, .inl (nF y0.1.2.2.2.2.2.2.2.2))), (mw, .inl (E.2.1 0, 370, .inl (nF y0.2.2))), (mh, .inl (E.2.1 0, 144, .inl fh)), (ml, .inl (E.2.1 1, 144, .inl fl))] := hD
      refine lv_aload_n hx hb d_M_start_38 rfl (lv_at hl 0 rfl) ?_
      refine lv_iconst (v := nI 0) hx hb d_M_start_39 (by decide) ?_
      refine va_put (D := E.1) (ci := 8) (v := .int (nI 0)) (ty := .int) (C := "WideStackModel") (T := T_M) (N := 15) hx hb hts in_M ty_M tyok_M nm_M hown hK hP hD hS 0 rfl rfl 7 (by decide) (hts _ t_754) (fun _ h9 => h9) rfl (by decide +kernel) rfl rfl (Nat.le_of_ble_eq_true rfl) d_M_start_40 (fun H locs hP hD hS => ?_)
      have hP : va_P E.1 vwCl [(mo, .inr (8, [.int (nI len), .ref mb, .int (kb true), .int (nI 0), .int (nI j), .int (nI 0), .int (nI 0), .int (nI 0), .int (nI y0.2.1), .int (nI y0.1.2.2.2.2.2.2.1), .ref mm, .ref mw, .ref mh, .ref ml, .int (kb ay)])), (mb, .inl (E.2.1 0, 96, .inl (nF nb))), (mm, .inl (E.2.1 0, 160, .inl (nF y0.1.2.2.2.2.2.2.2.2))), (mw, .inl (E.2.1 0, 370, .inl (nF y0.2.2))), (mh, .inl (E.2.1 0, 144, .inl fh)), (ml, .inl (E.2.1 1, 144, .inl fl))] H := hP
      have hD : va_D A [(mo, .inr (8, [.int (nI len), .ref mb, .int (kb true), .int (nI 0), .int (nI j), .int (nI 0), .int (nI 0), .int (nI 0), .int (nI y0.2.1), .int (nI y0.1.2.2.2.2.2.2.1), .ref mm, .ref mw, .ref mh, .ref ml, .int (kb ay)])), (mb, .inl (E.2.1 0, 96, .inl (nF nb))), (mm, .inl (E.2.1 0, 160, .inl (nF y0.1.2.2.2.2.2.2.2.2))), (mw, .inl (E.2.1 0, 370, .inl (nF y0.2.2))), (mh, .inl (E.2.1 0, 144, .inl fh)), (ml, .inl (E.2.1 1, 144, .inl fl))] := hD
      refine lv_aload_n hx hb d_M_start_43 rfl (lv_at hl 0 rfl) ?_
      refine lv_iconst (v := nI 0) hx hb d_M_start_44 (by decide) ?_
      refine va_put (D := E.1) (ci := 8) (v := .int (nI 0)) (ty := .int) (C := "WideStackModel") (T := T_M) (N := 15) hx hb hts in_M ty_M tyok_M nm_M hown hK hP hD hS 0 rfl rfl 9 (by decide) (hts _ t_756) (fun _ h9 => h9) rfl (by decide +kernel) rfl rfl (Nat.le_of_ble_eq_true rfl) d_M_start_45 (fun H locs hP hD hS => ?_)
      have hP : va_P E.1 vwCl [(mo, .inr (8, [.int (nI len), .ref mb, .int (kb true), .int (nI 0), .int (nI j), .int (nI 0), .int (nI 0), .int (nI 0), .int (nI y0.2.1), .int (nI 0), .ref mm, .ref mw, .ref mh, .ref ml, .int (kb ay)])), (mb, .inl (E.2.1 0, 96, .inl (nF nb))), (mm, .inl (E.2.1 0, 160, .inl (nF y0.1.2.2.2.2.2.2.2.2))), (mw, .inl (E.2.1 0, 370, .inl (nF y0.2.2))), (mh, .inl (E.2.1 0, 144, .inl fh)), (ml, .inl (E.2.1 1, 144, .inl fl))] H := hP
      have hD : va_D A [(mo, .inr (8, [.int (nI len), .ref mb, .int (kb true), .int (nI 0), .int (nI j), .int (nI 0), .int (nI 0), .int (nI 0), .int (nI y0.2.1), .int (nI 0), .ref mm, .ref mw, .ref mh, .ref ml, .int (kb ay)])), (mb, .inl (E.2.1 0, 96, .inl (nF nb))), (mm, .inl (E.2.1 0, 160, .inl (nF y0.1.2.2.2.2.2.2.2.2))), (mw, .inl (E.2.1 0, 370, .inl (nF y0.2.2))), (mh, .inl (E.2.1 0, 144, .inl fh)), (ml, .inl (E.2.1 1, 144, .inl fl))] := hD
      refine lv_iconst (v := nI 0) hx hb d_M_start_48 (by decide) ?_
      refine lv_istore_n (lv' := [(2, .int (nI 0)), (0, .ref mo), (1, .int (nI j))]) hx hb d_M_start_49 rfl hl (by decide) rfl (fun ls hl => ?_)
      have key50 : ∀ (n : Nat) (i : Nat) (z : Nat → Nat) (H : Heap) (locs : List Loc) (ls : Array Slot), i + n = 160 → ((∀ q, q < i → z q = 0) ∧ ∀ q, 160 ≤ q → z q = 0) → lv_has ls 3 [(2, .int (nI i)), (0, .ref mo), (1, .int (nI j))] → va_P E.1 vwCl [(mo, .inr (8, [.int (nI len), .ref mb, .int (kb true), .int (nI 0), .int (nI j), .int (nI 0), .int (nI 0), .int (nI 0), .int (nI y0.2.1), .int (nI 0), .ref mm, .ref mw, .ref mh, .ref ml, .int (kb ay)])), (mb, .inl (E.2.1 0, 96, .inl (nF nb))), (mm, .inl (E.2.1 0, 160, .inl (nF z))), (mw, .inl (E.2.1 0, 370, .inl (nF y0.2.2))), (mh, .inl (E.2.1 0, 144, .inl fh)), (ml, .inl (E.2.1 1, 144, .inl fl))] H → va_D A [(mo, .inr (8, [.int (nI len), .ref mb, .int (kb true), .int (nI 0), .int (nI j), .int (nI 0), .int (nI 0), .int (nI 0), .int (nI y0.2.1), .int (nI 0), .ref mm, .ref mw, .ref mh, .ref ml, .int (kb ay)])), (mb, .inl (E.2.1 0, 96, .inl (nF nb))), (mm, .inl (E.2.1 0, 160, .inl (nF z))), (mw, .inl (E.2.1 0, 370, .inl (nF y0.2.2))), (mh, .inl (E.2.1 0, 144, .inl fh)), (ml, .inl (E.2.1 1, 144, .inl fl))] → va_S A s.heap H locs → W p l e rm_c_MX_start s m args below meth c H locs 0 0 Q (F0 m 50 ls []) := by
        intro n
        induction n using Nat.strongRecOn with
        | ind n ih =>
          intro i z H locs ls hn hI hl hP hD hS
          refine lv_iload_n hx hb d_M_start_50 rfl (lv_at hl 0 rfl) ?_
          refine lv_sipush (v := nI 160) hx hb d_M_start_51 (by decide) ?_
          refine kn_ge (tgt := 70) hx hb (by omega) (by omega) d_M_start_54 (by decide) (fun h54 => ?_) (fun h54 => ?_)
          · refine lv_iconst (v := nI 1) hx hb d_M_start_70 (by decide) ?_
            obtain rfl : z = fun _ => 0 := funext (fun q => by rcases Nat.lt_or_ge q 160 with w | w; exact hI.1 q (by omega); exact hI.2 q w)
            exact hret _ ls _ _ _ (true, ((0, j, 0, 0, 0, 0, 0, y0.1.2.2.2.2.2.2.2.1, fun _ => 0), y0.2.1, y0.2.2)) d_M_start_71 (by decide) (Or.inl ⟨by rw [m_in_nI (by omega) (by decide), decide_eq_true (by omega)], rfl, rfl, okY_beg hY (by omega), by rw [nI_clamp (by omega)]⟩) hP hS
          · refine lv_aload_n hx hb d_M_start_57 rfl (lv_at hl 1 rfl) ?_
            refine va_get (D := E.1) (ci := 8) (v := .ref mm) (C := "WideStackModel") (T := T_M) (N := 15) hx hb hts in_M hown hK hP 0 rfl rfl 10 (by decide) (hts _ t_757) (fun _ h9 => h9) rfl d_M_start_58 ?_
            refine lv_iload_n hx hb d_M_start_61 rfl (lv_at hl 0 rfl) ?_
            refine lv_iconst (v := nI 0) hx hb d_M_start_62 (by decide) ?_
            refine k_iastN hx hb hK hP hD hS 2 rfl (i := i) (by omega) (by omega) d_M_start_63 (fun H locs hP hD hS => ?_)
            have hP : va_P E.1 vwCl [(mo, .inr (8, [.int (nI len), .ref mb, .int (kb true), .int (nI 0), .int (nI j), .int (nI 0), .int (nI 0), .int (nI 0), .int (nI y0.2.1), .int (nI 0), .ref mm, .ref mw, .ref mh, .ref ml, .int (kb ay)])), (mb, .inl (E.2.1 0, 96, .inl (nF nb))), (mm, .inl (E.2.1 0, 160, .inl (nF (va_up z i 0)))), (mw, .inl (E.2.1 0, 370, .inl (nF y0.2.2))), (mh, .inl (E.2.1 0, 144, .inl fh)), (ml, .inl (E.2.1 1, 144, .inl fl))] H := hP
            have hD : va_D A [(mo, .inr (8, [.int (nI len), .ref mb, .int (kb true), .int (nI 0), .int (nI j), .int (nI 0), .int (nI 0), .int (nI 0), .int (nI y0.2.1), .int (nI 0), .ref mm, .ref mw, .ref mh, .ref ml, .int (kb ay)])), (mb, .inl (E.2.1 0, 96, .inl (nF nb))), (mm, .inl (E.2.1 0, 160, .inl (nF (va_up z i 0)))), (mw, .inl (E.2.1 0, 370, .inl (nF y0.2.2))), (mh, .inl (E.2.1 0, 144, .inl fh)), (ml, .inl (E.2.1 1, 144, .inl fl))] := hD
            refine lv_iinc (k := 0) (v := nI (i + 1)) (lv' := [(2, .int (nI (i + 1))), (0, .ref mo), (1, .int (nI j))]) hx hb d_M_start_64 hl rfl (k_inc _) (by decide) rfl (fun ls hl => ?_)
            refine lv_goto (tgt := 50) hx hb d_M_start_67 (by decide) ?_
            exact ih (n - 1) (by omega) (i + 1) (va_up z i 0) _ _ ls (by omega) (st_z (by omega) hI) (lv_sub hl [0, 1, 2] rfl) hP hD hS
      exact key50 160 0 y0.1.2.2.2.2.2.2.2.2 _ _ ls (by omega) ⟨fun q hq => absurd hq (Nat.not_lt_zero q), hY.2⟩ (lv_sub hl [0, 1, 2] rfl) hP hD hS
    · refine lv_iconst (v := nI 0) hx hb d_M_start_11 (by decide) ?_
      first | exact hret _ ls _ _ _ (on, y0) d_M_start_12 (by decide) (Or.inr ⟨m_in_f1 h1, rfl, rfl⟩) hP hS | exact hret _ ls _ _ _ (on, y0) d_M_start_12 (by decide) (Or.inr ⟨m_in_f2 (st_hi h8), rfl, rfl⟩) hP hS

abbrev y_M_push : MethodName := ⟨"WideStackModel", "push", "(IIII)Z"⟩
theorem d_M_push_0 : decode prog_12_method_34_code 0 = .ok (.aload_n 0, 1) := by decide +kernel
theorem d_M_push_1 : decode prog_12_method_34_code 1 = .ok (.getfield 30, 3) := by decide +kernel
theorem d_M_push_4 : decode prog_12_method_34_code 4 = .ok (.ifCond .eq 19, 3) := by decide +kernel
theorem d_M_push_7 : decode prog_12_method_34_code 7 = .ok (.aload_n 0, 1) := by decide +kernel
theorem d_M_push_8 : decode prog_12_method_34_code 8 = .ok (.getfield 94, 3) := by decide +kernel
theorem d_M_push_11 : decode prog_12_method_34_code 11 = .ok (.ifCond .ne 12, 3) := by decide +kernel
theorem d_M_push_14 : decode prog_12_method_34_code 14 = .ok (.aload_n 0, 1) := by decide +kernel
theorem d_M_push_15 : decode prog_12_method_34_code 15 = .ok (.getfield 91, 3) := by decide +kernel
theorem d_M_push_18 : decode prog_12_method_34_code 18 = .ok (.bipush 16, 2) := by decide +kernel
theorem d_M_push_20 : decode prog_12_method_34_code 20 = .ok (.if_icmp .ne 5, 3) := by decide +kernel
theorem d_M_push_23 : decode prog_12_method_34_code 23 = .ok (.iconst 0, 1) := by decide +kernel
theorem d_M_push_24 : decode prog_12_method_34_code 24 = .ok (.ireturn, 1) := by decide +kernel
theorem d_M_push_25 : decode prog_12_method_34_code 25 = .ok (.iconst 0, 1) := by decide +kernel
theorem d_M_push_26 : decode prog_12_method_34_code 26 = .ok (.istore 5, 2) := by decide +kernel
theorem d_M_push_28 : decode prog_12_method_34_code 28 = .ok (.iload 5, 2) := by decide +kernel
theorem d_M_push_30 : decode prog_12_method_34_code 30 = .ok (.bipush 8, 2) := by decide +kernel
theorem d_M_push_32 : decode prog_12_method_34_code 32 = .ok (.if_icmp .ge 89, 3) := by decide +kernel
theorem d_M_push_35 : decode prog_12_method_34_code 35 = .ok (.iload 5, 2) := by decide +kernel
theorem d_M_push_37 : decode prog_12_method_34_code 37 = .ok (.ifCond .ne 8, 3) := by decide +kernel
theorem d_M_push_40 : decode prog_12_method_34_code 40 = .ok (.iload 4, 2) := by decide +kernel
theorem d_M_push_42 : decode prog_12_method_34_code 42 = .ok (.goto 25, 3) := by decide +kernel
theorem d_M_push_45 : decode prog_12_method_34_code 45 = .ok (.iload 5, 2) := by decide +kernel
theorem d_M_push_47 : decode prog_12_method_34_code 47 = .ok (.iconst 1, 1) := by decide +kernel
theorem d_M_push_48 : decode prog_12_method_34_code 48 = .ok (.if_icmp .ne 7, 3) := by decide +kernel
theorem d_M_push_51 : decode prog_12_method_34_code 51 = .ok (.iload_n 3, 1) := by decide +kernel
theorem d_M_push_52 : decode prog_12_method_34_code 52 = .ok (.goto 15, 3) := by decide +kernel
theorem d_M_push_55 : decode prog_12_method_34_code 55 = .ok (.iload 5, 2) := by decide +kernel
theorem d_M_push_57 : decode prog_12_method_34_code 57 = .ok (.bipush 7, 2) := by decide +kernel
theorem d_M_push_59 : decode prog_12_method_34_code 59 = .ok (.if_icmp .ne 7, 3) := by decide +kernel
theorem d_M_push_62 : decode prog_12_method_34_code 62 = .ok (.iload_n 1, 1) := by decide +kernel
theorem d_M_push_63 : decode prog_12_method_34_code 63 = .ok (.goto 4, 3) := by decide +kernel
theorem d_M_push_66 : decode prog_12_method_34_code 66 = .ok (.iload_n 2, 1) := by decide +kernel
theorem d_M_push_67 : decode prog_12_method_34_code 67 = .ok (.istore 6, 2) := by decide +kernel
theorem d_M_push_69 : decode prog_12_method_34_code 69 = .ok (.aload_n 0, 1) := by decide +kernel
theorem d_M_push_70 : decode prog_12_method_34_code 70 = .ok (.getfield 16, 3) := by decide +kernel
theorem d_M_push_73 : decode prog_12_method_34_code 73 = .ok (.bipush 16, 2) := by decide +kernel
theorem d_M_push_75 : decode prog_12_method_34_code 75 = .ok (.aload_n 0, 1) := by decide +kernel
theorem d_M_push_76 : decode prog_12_method_34_code 76 = .ok (.getfield 91, 3) := by decide +kernel
theorem d_M_push_79 : decode prog_12_method_34_code 79 = .ok (.imul, 1) := by decide +kernel
theorem d_M_push_80 : decode prog_12_method_34_code 80 = .ok (.iconst 2, 1) := by decide +kernel
theorem d_M_push_81 : decode prog_12_method_34_code 81 = .ok (.iload 5, 2) := by decide +kernel
theorem d_M_push_83 : decode prog_12_method_34_code 83 = .ok (.imul, 1) := by decide +kernel
theorem d_M_push_84 : decode prog_12_method_34_code 84 = .ok (.iadd, 1) := by decide +kernel
theorem d_M_push_85 : decode prog_12_method_34_code 85 = .ok (.iload 6, 2) := by decide +kernel
theorem d_M_push_87 : decode prog_12_method_34_code 87 = .ok (.ldc 52, 2) := by decide +kernel
theorem d_M_push_89 : decode prog_12_method_34_code 89 = .ok (.iand, 1) := by decide +kernel
theorem d_M_push_90 : decode prog_12_method_34_code 90 = .ok (.iastore, 1) := by decide +kernel
theorem d_M_push_91 : decode prog_12_method_34_code 91 = .ok (.aload_n 0, 1) := by decide +kernel
theorem d_M_push_92 : decode prog_12_method_34_code 92 = .ok (.getfield 16, 3) := by decide +kernel
theorem d_M_push_95 : decode prog_12_method_34_code 95 = .ok (.bipush 16, 2) := by decide +kernel
theorem d_M_push_97 : decode prog_12_method_34_code 97 = .ok (.aload_n 0, 1) := by decide +kernel
theorem d_M_push_98 : decode prog_12_method_34_code 98 = .ok (.getfield 91, 3) := by decide +kernel
theorem d_M_push_101 : decode prog_12_method_34_code 101 = .ok (.imul, 1) := by decide +kernel
theorem d_M_push_102 : decode prog_12_method_34_code 102 = .ok (.iconst 2, 1) := by decide +kernel
theorem d_M_push_103 : decode prog_12_method_34_code 103 = .ok (.iload 5, 2) := by decide +kernel
theorem d_M_push_105 : decode prog_12_method_34_code 105 = .ok (.imul, 1) := by decide +kernel
theorem d_M_push_106 : decode prog_12_method_34_code 106 = .ok (.iadd, 1) := by decide +kernel
theorem d_M_push_107 : decode prog_12_method_34_code 107 = .ok (.iconst 1, 1) := by decide +kernel
theorem d_M_push_108 : decode prog_12_method_34_code 108 = .ok (.iadd, 1) := by decide +kernel
theorem d_M_push_109 : decode prog_12_method_34_code 109 = .ok (.iload 6, 2) := by decide +kernel
theorem d_M_push_111 : decode prog_12_method_34_code 111 = .ok (.bipush 16, 2) := by decide +kernel
theorem d_M_push_113 : decode prog_12_method_34_code 113 = .ok (.iushr, 1) := by decide +kernel
theorem d_M_push_114 : decode prog_12_method_34_code 114 = .ok (.iastore, 1) := by decide +kernel
theorem d_M_push_115 : decode prog_12_method_34_code 115 = .ok (.iinc 5 1, 3) := by decide +kernel
theorem d_M_push_118 : decode prog_12_method_34_code 118 = .ok (.goto (-90), 3) := by decide +kernel
theorem d_M_push_121 : decode prog_12_method_34_code 121 = .ok (.aload_n 0, 1) := by decide +kernel
theorem d_M_push_122 : decode prog_12_method_34_code 122 = .ok (.dup, 1) := by decide +kernel
theorem d_M_push_123 : decode prog_12_method_34_code 123 = .ok (.getfield 91, 3) := by decide +kernel
theorem d_M_push_126 : decode prog_12_method_34_code 126 = .ok (.iconst 1, 1) := by decide +kernel
theorem d_M_push_127 : decode prog_12_method_34_code 127 = .ok (.iadd, 1) := by decide +kernel
theorem d_M_push_128 : decode prog_12_method_34_code 128 = .ok (.putfield 91, 3) := by decide +kernel
theorem d_M_push_131 : decode prog_12_method_34_code 131 = .ok (.iconst 1, 1) := by decide +kernel
theorem d_M_push_132 : decode prog_12_method_34_code 132 = .ok (.ireturn, 1) := by decide +kernel
def rm_c_MX_push : Room := { frames := 0, cells := 0, slots := 0, locals := 0 }
set_option maxHeartbeats 4000000 in
set_option maxRecDepth 100000 in
theorem c_MX_push (l : Launch) (E : kE) (mo mb mm mw mh ml : Nat) (on ay : Bool) (y0 : rS) (len : Nat) (nb bb : Nat → Nat) (okb : okB len bb nb) (fh fl : Nat → Int32) (i1 i2 i3 i4 : Int32) (hY : okY y0) : Ki l y_M_push (kW y_M_push prog_12_method_34_code 7 (some .boolean)) rm_c_MX_push E [.ref mo, .int i1, .int i2, .int i3, .int i4] [(mo, .inr (8, [.int (nI len), .ref mb, .int (kb on), .int (nI y0.1.1), .int (nI y0.1.2.1), .int (nI y0.1.2.2.1), .int (nI y0.1.2.2.2.1), .int (nI y0.1.2.2.2.2.1), .int (nI y0.2.1), .int (nI y0.1.2.2.2.2.2.2.1), .ref mm, .ref mw, .ref mh, .ref ml, .int (kb ay)])), (mb, .inl (E.2.1 0, 96, .inl (nF nb))), (mm, .inl (E.2.1 0, 160, .inl (nF y0.1.2.2.2.2.2.2.2.2))), (mw, .inl (E.2.1 0, 370, .inl (nF y0.2.2))), (mh, .inl (E.2.1 0, 144, .inl fh)), (ml, .inl (E.2.1 1, 144, .inl fl))] (S := rS) (fun r u => okY u ∧ ((on = true ∧ y0.1.1 = 0 ∧ y0.1.2.2.2.2.1 < 16 ∧ r = nI 1 ∧ u.1 = m_push y0.1 (m_word i1 i2 i3 i4)) ∨ ((on = false ∨ y0.1.1 ≠ 0 ∨ y0.1.2.2.2.2.1 = 16) ∧ r = nI 0 ∧ u = y0))) (fun u => [(mo, .inr (8, [.int (nI len), .ref mb, .int (kb on), .int (nI u.1.1), .int (nI u.1.2.1), .int (nI u.1.2.2.1), .int (nI u.1.2.2.2.1), .int (nI u.1.2.2.2.2.1), .int (nI u.2.1), .int (nI u.1.2.2.2.2.2.2.1), .ref mm, .ref mw, .ref mh, .ref ml, .int (kb ay)])), (mb, .inl (E.2.1 0, 96, .inl (nF nb))), (mm, .inl (E.2.1 0, 160, .inl (nF u.1.2.2.2.2.2.2.2.2))), (mw, .inl (E.2.1 0, 370, .inl (nF u.2.2))), (mh, .inl (E.2.1 0, 144, .inl fh)), (ml, .inl (E.2.1 1, 144, .inl fl))]) := by
  refine Ki.ofZ (cc := prog_12_method_34_code) (maxL := 7) (by decide) (Nat.le_of_ble_eq_true rfl) ?_
  intro p e s m args below meth c A ls Q hx hb hts hown hml hK hG hA hP hD hS hl hret
  have hl : lv_has ls 7 [(0, .ref mo), (1, .int i1), (2, .int i2), (3, .int i3), (4, .int i4)] := hl
  have b1 := hY.1.1.1
  have b2 := hY.1.1.2.2.2.2.2.1
  refine lv_aload_n hx hb d_M_push_0 rfl (lv_at hl 0 rfl) ?_
  refine va_get (D := E.1) (ci := 8) (v := .int (kb on)) (C := "WideStackModel") (T := T_M) (N := 15) hx hb hts in_M hown hK hP 0 rfl rfl 2 (by decide) (hts _ t_749) (fun _ h9 => h9) rfl d_M_push_1 ?_
  refine lv_if_eq (tgt := 23) hx hb d_M_push_4 (by decide) (fun h4 => ?_) (fun h4 => ?_)
  · refine lv_iconst (v := nI 0) hx hb d_M_push_23 (by decide) ?_
    first | exact hret _ ls _ _ _ y0 d_M_push_24 (by decide) ⟨hY, Or.inr ⟨Or.inl (kb_0.mp h4), rfl, rfl⟩⟩ hP hS | exact hret _ ls _ _ _ y0 d_M_push_24 (by decide) ⟨hY, Or.inr ⟨Or.inr (Or.inl h11), rfl, rfl⟩⟩ hP hS | exact hret _ ls _ _ _ y0 d_M_push_24 (by decide) ⟨hY, Or.inr ⟨Or.inr (Or.inr h20), rfl, rfl⟩⟩ hP hS
  · refine lv_aload_n hx hb d_M_push_7 rfl (lv_at hl 0 rfl) ?_
    refine va_get (D := E.1) (ci := 8) (v := .int (nI y0.1.1)) (C := "WideStackModel") (T := T_M) (N := 15) hx hb hts in_M hown hK hP 0 rfl rfl 3 (by decide) (hts _ t_750) (fun _ h9 => h9) rfl d_M_push_8 ?_
    refine kn_ifne (tgt := 23) hx hb (by omega) d_M_push_11 (by decide) (fun h11 => ?_) (fun h11 => ?_)
    · refine lv_iconst (v := nI 0) hx hb d_M_push_23 (by decide) ?_
      first | exact hret _ ls _ _ _ y0 d_M_push_24 (by decide) ⟨hY, Or.inr ⟨Or.inl (kb_0.mp h4), rfl, rfl⟩⟩ hP hS | exact hret _ ls _ _ _ y0 d_M_push_24 (by decide) ⟨hY, Or.inr ⟨Or.inr (Or.inl h11), rfl, rfl⟩⟩ hP hS | exact hret _ ls _ _ _ y0 d_M_push_24 (by decide) ⟨hY, Or.inr ⟨Or.inr (Or.inr h20), rfl, rfl⟩⟩ hP hS
    · refine lv_aload_n hx hb d_M_push_14 rfl (lv_at hl 0 rfl) ?_
      refine va_get (D := E.1) (ci := 8) (v := .int (nI y0.1.2.2.2.2.1)) (C := "WideStackModel") (T := T_M) (N := 15) hx hb hts in_M hown hK hP 0 rfl rfl 7 (by decide) (hts _ t_754) (fun _ h9 => h9) rfl d_M_push_15 ?_
      refine lv_bipush (v := nI 16) hx hb d_M_push_18 (by decide) ?_
      refine kn_ne (tgt := 25) hx hb (by omega) (by omega) d_M_push_20 (by decide) (fun h20 => ?_) (fun h20 => ?_)
      · refine lv_iconst (v := nI 0) hx hb d_M_push_25 (by decide) ?_
        refine lv_istore (lv' := [(5, .int (nI 0)), (0, .ref mo), (1, .int i1), (2, .int i2), (3, .int i3), (4, .int i4)]) hx hb d_M_push_26 hl (by decide) rfl (fun ls hl => ?_)
        have key28 : ∀ (n : Nat) (i : Nat) (z : Nat → Nat) (H : Heap) (locs : List Loc) (ls : Array Slot), i + n = 8 → (puI y0.2.2 z (fun j => if j = 0 then i4 else if j = 1 then i3 else if j = 7 then i1 else i2) (16 * y0.1.2.2.2.2.1) i) → lv_has ls 7 [(5, .int (nI i)), (0, .ref mo), (1, .int i1), (2, .int i2), (3, .int i3), (4, .int i4)] → va_P E.1 vwCl [(mo, .inr (8, [.int (nI len), .ref mb, .int (kb on), .int (nI y0.1.1), .int (nI y0.1.2.1), .int (nI y0.1.2.2.1), .int (nI y0.1.2.2.2.1), .int (nI y0.1.2.2.2.2.1), .int (nI y0.2.1), .int (nI y0.1.2.2.2.2.2.2.1), .ref mm, .ref mw, .ref mh, .ref ml, .int (kb ay)])), (mb, .inl (E.2.1 0, 96, .inl (nF nb))), (mm, .inl (E.2.1 0, 160, .inl (nF y0.1.2.2.2.2.2.2.2.2))), (mw, .inl (E.2.1 0, 370, .inl (nF z))), (mh, .inl (E.2.1 0, 144, .inl fh)), (ml, .inl (E.2.1 1, 144, .inl fl))] H → va_D A [(mo, .inr (8, [.int (nI len), .ref mb, .int (kb on), .int (nI y0.1.1), .int (nI y0.1.2.1), .int (nI y0.1.2.2.1), .int (nI y0.1.2.2.2.1), .int (nI y0.1.2.2.2.2.1), .int (nI y0.2.1), .int (nI y0.1.2.2.2.2.2.2.1), .ref mm, .ref mw, .ref mh, .ref ml, .int (kb ay)])), (mb, .inl (E.2.1 0, 96, .inl (nF nb))), (mm, .inl (E.2.1 0, 160, .inl (nF y0.1.2.2.2.2.2.2.2.2))), (mw, .inl (E.2.1 0, 370, .inl (nF z))), (mh, .inl (E.2.1 0, 144, .inl fh)), (ml, .inl (E.2.1 1, 144, .inl fl))] → va_S A s.heap H locs → W p l e rm_c_MX_push s m args below meth c H locs 0 0 Q (F0 m 28 ls []) := by
          intro n
          induction n using Nat.strongRecOn with
          | ind n ih =>
            intro i z H locs ls hn hI hl hP hD hS
            refine lv_iload hx hb d_M_push_28 (lv_at hl 0 rfl) ?_
            refine lv_bipush (v := nI 8) hx hb d_M_push_30 (by decide) ?_
            refine kn_ge (tgt := 121) hx hb (by omega) (by omega) d_M_push_32 (by decide) (fun h32 => ?_) (fun h32 => ?_)
            · refine lv_aload_n hx hb d_M_push_121 rfl (lv_at hl 1 rfl) ?_
              refine lv_dup hx hb d_M_push_122 rfl ?_
              refine va_get (D := E.1) (ci := 8) (v := .int (nI y0.1.2.2.2.2.1)) (C := "WideStackModel") (T := T_M) (N := 15) hx hb hts in_M hown hK hP 0 rfl rfl 7 (by decide) (hts _ t_754) (fun _ h9 => h9) rfl d_M_push_123 ?_
              refine lv_iconst (v := nI 1) hx hb d_M_push_126 (by decide) ?_
              refine lv_iadd hx hb d_M_push_127 ?_
              refine k_top (nI_add _ _) ?_
              refine va_put (D := E.1) (ci := 8) (v := .int (nI (y0.1.2.2.2.2.1 + 1))) (ty := .int) (C := "WideStackModel") (T := T_M) (N := 15) hx hb hts in_M ty_M tyok_M nm_M hown hK hP hD hS 0 rfl rfl 7 (by decide) (hts _ t_754) (fun _ h9 => h9) rfl (by decide +kernel) rfl rfl (Nat.le_of_ble_eq_true rfl) d_M_push_128 (fun H locs hP hD hS => ?_)
              have hP : va_P E.1 vwCl [(mo, .inr (8, [.int (nI len), .ref mb, .int (kb on), .int (nI y0.1.1), .int (nI y0.1.2.1), .int (nI y0.1.2.2.1), .int (nI y0.1.2.2.2.1), .int (nI (y0.1.2.2.2.2.1 + 1)), .int (nI y0.2.1), .int (nI y0.1.2.2.2.2.2.2.1), .ref mm, .ref mw, .ref mh, .ref ml, .int (kb ay)])), (mb, .inl (E.2.1 0, 96, .inl (nF nb))), (mm, .inl (E.2.1 0, 160, .inl (nF y0.1.2.2.2.2.2.2.2.2))), (mw, .inl (E.2.1 0, 370, .inl (nF z))), (mh, .inl (E.2.1 0, 144, .inl fh)), (ml, .inl (E.2.1 1, 144, .inl fl))] H := hP
              have hD : va_D A [(mo, .inr (8, [.int (nI len), .ref mb, .int (kb on), .int (nI y0.1.1), .int (nI y0.1.2.1), .int (nI y0.1.2.2.1), .int (nI y0.1.2.2.2.1), .int (nI (y0.1.2.2.2.2.1 + 1)), .int (nI y0.2.1), .int (nI y0.1.2.2.2.2.2.2.1), .ref mm, .ref mw, .ref mh, .ref ml, .int (kb ay)])), (mb, .inl (E.2.1 0, 96, .inl (nF nb))), (mm, .inl (E.2.1 0, 160, .inl (nF y0.1.2.2.2.2.2.2.2.2))), (mw, .inl (E.2.1 0, 370, .inl (nF z))), (mh, .inl (E.2.1 0, 144, .inl fh)), (ml, .inl (E.2.1 1, 144, .inl fl))] := hD
              refine lv_iconst (v := nI 1) hx hb d_M_push_131 (by decide) ?_
              obtain rfl : i = 8 := by omega
              exact hret _ ls _ _ _ (m_push y0.1 (wv (fun j => if j = 0 then i4 else if j = 1 then i3 else if j = 7 then i1 else i2) 8), y0.2.1, z) d_M_push_132 (by decide) ⟨okY_push hY (by omega) hI, Or.inl ⟨kb_n0 h4, h11, by omega, rfl, rfl⟩⟩ hP hS
            · refine lv_iload hx hb d_M_push_35 (lv_at hl 0 rfl) ?_
              refine kn_ifne (tgt := 45) hx hb (by omega) d_M_push_37 (by decide) (fun h37 => ?_) (fun h37 => ?_)
              · refine lv_iload hx hb d_M_push_45 (lv_at hl 0 rfl) ?_
                refine lv_iconst (v := nI 1) hx hb d_M_push_47 (by decide) ?_
                refine kn_ne (tgt := 55) hx hb (by omega) (by omega) d_M_push_48 (by decide) (fun h48 => ?_) (fun h48 => ?_)
                · refine lv_iload hx hb d_M_push_55 (lv_at hl 0 rfl) ?_
                  refine lv_bipush (v := nI 7) hx hb d_M_push_57 (by decide) ?_
                  refine kn_ne (tgt := 66) hx hb (by omega) (by omega) d_M_push_59 (by decide) (fun h59 => ?_) (fun h59 => ?_)
                  · refine lv_iload_n hx hb d_M_push_66 rfl (lv_at hl 3 rfl) ?_
                    refine lv_istore (lv' := [(6, .int i2), (5, .int (nI i)), (0, .ref mo), (1, .int i1), (2, .int i2), (3, .int i3), (4, .int i4)]) hx hb d_M_push_67 hl (by decide) rfl (fun ls hl => ?_)
                    refine lv_aload_n hx hb d_M_push_69 rfl (lv_at hl 2 rfl) ?_
                    refine va_get (D := E.1) (ci := 8) (v := .ref mw) (C := "WideStackModel") (T := T_M) (N := 15) hx hb hts in_M hown hK hP 0 rfl rfl 11 (by decide) (hts _ t_758) (fun _ h9 => h9) rfl d_M_push_70 ?_
                    refine lv_bipush (v := nI 16) hx hb d_M_push_73 (by decide) ?_
                    refine lv_aload_n hx hb d_M_push_75 rfl (lv_at hl 2 rfl) ?_
                    refine va_get (D := E.1) (ci := 8) (v := .int (nI y0.1.2.2.2.2.1)) (C := "WideStackModel") (T := T_M) (N := 15) hx hb hts in_M hown hK hP 0 rfl rfl 7 (by decide) (hts _ t_754) (fun _ h9 => h9) rfl d_M_push_76 ?_
                    refine lv_imul hx hb d_M_push_79 ?_
                    refine k_top (pk_mul _ _) ?_
                    refine lv_iconst (v := nI 2) hx hb d_M_push_80 (by decide) ?_
                    refine lv_iload hx hb d_M_push_81 (lv_at hl 1 rfl) ?_
                    refine lv_imul hx hb d_M_push_83 ?_
                    refine k_top (pk_mul _ _) ?_
                    refine lv_iadd hx hb d_M_push_84 ?_
                    refine k_top (nI_add _ _) ?_
                    refine lv_iload hx hb d_M_push_85 (lv_at hl 0 rfl) ?_
                    refine lv_ldc (v := 65535) hx hb hown (hts _ t_827) d_M_push_87 ?_
                    refine k_top (y := nI 65535) (by decide) ?_
                    refine lv_iand hx hb d_M_push_89 ?_
                    refine k_top (pk_and _ 16 (by decide)) ?_
                    refine k_iastN hx hb hK hP hD hS 3 rfl (i := ((16 * y0.1.2.2.2.2.1) + (2 * i))) (by omega) (by omega) d_M_push_90 (fun H locs hP hD hS => ?_)
                    have hP : va_P E.1 vwCl [(mo, .inr (8, [.int (nI len), .ref mb, .int (kb on), .int (nI y0.1.1), .int (nI y0.1.2.1), .int (nI y0.1.2.2.1), .int (nI y0.1.2.2.2.1), .int (nI y0.1.2.2.2.2.1), .int (nI y0.2.1), .int (nI y0.1.2.2.2.2.2.2.1), .ref mm, .ref mw, .ref mh, .ref ml, .int (kb ay)])), (mb, .inl (E.2.1 0, 96, .inl (nF nb))), (mm, .inl (E.2.1 0, 160, .inl (nF y0.1.2.2.2.2.2.2.2.2))), (mw, .inl (E.2.1 0, 370, .inl (nF (va_up z ((16 * y0.1.2.2.2.2.1) + (2 * i)) (uw i2 % 65536))))), (mh, .inl (E.2.1 0, 144, .inl fh)), (ml, .inl (E.2.1 1, 144, .inl fl))] H := hP
                    have hD : va_D A [(mo, .inr (8, [.int (nI len), .ref mb, .int (kb on), .int (nI y0.1.1), .int (nI y0.1.2.1), .int (nI y0.1.2.2.1), .int (nI y0.1.2.2.2.1), .int (nI y0.1.2.2.2.2.1), .int (nI y0.2.1), .int (nI y0.1.2.2.2.2.2.2.1), .ref mm, .ref mw, .ref mh, .ref ml, .int (kb ay)])), (mb, .inl (E.2.1 0, 96, .inl (nF nb))), (mm, .inl (E.2.1 0, 160, .inl (nF y0.1.2.2.2.2.2.2.2.2))), (mw, .inl (E.2.1 0, 370, .inl (nF (va_up z ((16 * y0.1.2.2.2.2.1) + (2 * i)) (uw i2 % 65536))))), (mh, .inl (E.2.1 0, 144, .inl fh)), (ml, .inl (E.2.1 1, 144, .inl fl))] := hD
                    refine lv_aload_n hx hb d_M_push_91 rfl (lv_at hl 2 rfl) ?_
                    refine va_get (D := E.1) (ci := 8) (v := .ref mw) (C := "WideStackModel") (T := T_M) (N := 15) hx hb hts in_M hown hK hP 0 rfl rfl 11 (by decide) (hts _ t_758) (fun _ h9 => h9) rfl d_M_push_92 ?_
                    refine lv_bipush (v := nI 16) hx hb d_M_push_95 (by decide) ?_
                    refine lv_aload_n hx hb d_M_push_97 rfl (lv_at hl 2 rfl) ?_
                    refine va_get (D := E.1) (ci := 8) (v := .int (nI y0.1.2.2.2.2.1)) (C := "WideStackModel") (T := T_M) (N := 15) hx hb hts in_M hown hK hP 0 rfl rfl 7 (by decide) (hts _ t_754) (fun _ h9 => h9) rfl d_M_push_98 ?_
                    refine lv_imul hx hb d_M_push_101 ?_
                    refine k_top (pk_mul _ _) ?_
                    refine lv_iconst (v := nI 2) hx hb d_M_push_102 (by decide) ?_
                    refine lv_iload hx hb d_M_push_103 (lv_at hl 1 rfl) ?_
                    refine lv_imul hx hb d_M_push_105 ?_
                    refine k_top (pk_mul _ _) ?_
                    refine lv_iadd hx hb d_M_push_106 ?_
                    refine k_top (nI_add _ _) ?_
                    refine lv_iconst (v := nI 1) hx hb d_M_push_107 (by decide) ?_
                    refine lv_iadd hx hb d_M_push_108 ?_
                    refine k_top (nI_add _ _) ?_
                    refine lv_iload hx hb d_M_push_109 (lv_at hl 0 rfl) ?_
                    refine lv_bipush (v := nI 16) hx hb d_M_push_111 (by decide) ?_
                    refine lv_iushr (v := (i2.toUInt32 >>> ((nI 16).toUInt32 &&& Int32.toUInt32 31)).toInt32) hx hb d_M_push_113 rfl ?_
                    refine k_top (k_ushr (by decide)) ?_
                    refine k_iastN hx hb hK hP hD hS 3 rfl (i := (((16 * y0.1.2.2.2.2.1) + (2 * i)) + 1)) (by omega) (by omega) d_M_push_114 (fun H locs hP hD hS => ?_)
                    have hP : va_P E.1 vwCl [(mo, .inr (8, [.int (nI len), .ref mb, .int (kb on), .int (nI y0.1.1), .int (nI y0.1.2.1), .int (nI y0.1.2.2.1), .int (nI y0.1.2.2.2.1), .int (nI y0.1.2.2.2.2.1), .int (nI y0.2.1), .int (nI y0.1.2.2.2.2.2.2.1), .ref mm, .ref mw, .ref mh, .ref ml, .int (kb ay)])), (mb, .inl (E.2.1 0, 96, .inl (nF nb))), (mm, .inl (E.2.1 0, 160, .inl (nF y0.1.2.2.2.2.2.2.2.2))), (mw, .inl (E.2.1 0, 370, .inl (nF (va_up (va_up z ((16 * y0.1.2.2.2.2.1) + (2 * i)) (uw i2 % 65536)) (((16 * y0.1.2.2.2.2.1) + (2 * i)) + 1) (uw i2 / 65536))))), (mh, .inl (E.2.1 0, 144, .inl fh)), (ml, .inl (E.2.1 1, 144, .inl fl))] H := hP
                    have hD : va_D A [(mo, .inr (8, [.int (nI len), .ref mb, .int (kb on), .int (nI y0.1.1), .int (nI y0.1.2.1), .int (nI y0.1.2.2.1), .int (nI y0.1.2.2.2.1), .int (nI y0.1.2.2.2.2.1), .int (nI y0.2.1), .int (nI y0.1.2.2.2.2.2.2.1), .ref mm, .ref mw, .ref mh, .ref ml, .int (kb ay)])), (mb, .inl (E.2.1 0, 96, .inl (nF nb))), (mm, .inl (E.2.1 0, 160, .inl (nF y0.1.2.2.2.2.2.2.2.2))), (mw, .inl (E.2.1 0, 370, .inl (nF (va_up (va_up z ((16 * y0.1.2.2.2.2.1) + (2 * i)) (uw i2 % 65536)) (((16 * y0.1.2.2.2.2.1) + (2 * i)) + 1) (uw i2 / 65536))))), (mh, .inl (E.2.1 0, 144, .inl fh)), (ml, .inl (E.2.1 1, 144, .inl fl))] := hD
                    refine lv_iinc (k := 1) (v := nI (i + 1)) (lv' := [(5, .int (nI (i + 1))), (6, .int i2), (0, .ref mo), (1, .int i1), (2, .int i2), (3, .int i3), (4, .int i4)]) hx hb d_M_push_115 hl rfl (k_inc _) (by decide) rfl (fun ls hl => ?_)
                    refine lv_goto (tgt := 28) hx hb d_M_push_118 (by decide) ?_
                    exact ih (n - 1) (by omega) (i + 1) (va_up (va_up z ((16 * y0.1.2.2.2.2.1) + (2 * i)) (uw i2 % 65536)) (((16 * y0.1.2.2.2.2.1) + (2 * i)) + 1) (uw i2 / 65536)) _ _ ls (by omega) (pu_step (by omega) (by first | exact if_pos h37 | (rw [if_neg h37]; exact if_pos h48) | (rw [if_neg h37, if_neg h48]; exact if_pos h59) | (rw [if_neg h37, if_neg h48]; exact if_neg h59)) hI) (lv_sub hl [0, 2, 3, 4, 5, 6] rfl) hP hD hS
                  · refine lv_iload_n hx hb d_M_push_62 rfl (lv_at hl 2 rfl) ?_
                    refine lv_goto (tgt := 67) hx hb d_M_push_63 (by decide) ?_
                    refine lv_istore (lv' := [(6, .int i1), (5, .int (nI i)), (0, .ref mo), (1, .int i1), (2, .int i2), (3, .int i3), (4, .int i4)]) hx hb d_M_push_67 hl (by decide) rfl (fun ls hl => ?_)
                    refine lv_aload_n hx hb d_M_push_69 rfl (lv_at hl 2 rfl) ?_
                    refine va_get (D := E.1) (ci := 8) (v := .ref mw) (C := "WideStackModel") (T := T_M) (N := 15) hx hb hts in_M hown hK hP 0 rfl rfl 11 (by decide) (hts _ t_758) (fun _ h9 => h9) rfl d_M_push_70 ?_
                    refine lv_bipush (v := nI 16) hx hb d_M_push_73 (by decide) ?_
                    refine lv_aload_n hx hb d_M_push_75 rfl (lv_at hl 2 rfl) ?_
                    refine va_get (D := E.1) (ci := 8) (v := .int (nI y0.1.2.2.2.2.1)) (C := "WideStackModel") (T := T_M) (N := 15) hx hb hts in_M hown hK hP 0 rfl rfl 7 (by decide) (hts _ t_754) (fun _ h9 => h9) rfl d_M_push_76 ?_
                    refine lv_imul hx hb d_M_push_79 ?_
                    refine k_top (pk_mul _ _) ?_
                    refine lv_iconst (v := nI 2) hx hb d_M_push_80 (by decide) ?_
                    refine lv_iload hx hb d_M_push_81 (lv_at hl 1 rfl) ?_
                    refine lv_imul hx hb d_M_push_83 ?_
                    refine k_top (pk_mul _ _) ?_
                    refine lv_iadd hx hb d_M_push_84 ?_
                    refine k_top (nI_add _ _) ?_
                    refine lv_iload hx hb d_M_push_85 (lv_at hl 0 rfl) ?_
                    refine lv_ldc (v := 65535) hx hb hown (hts _ t_827) d_M_push_87 ?_
                    refine k_top (y := nI 65535) (by decide) ?_
                    refine lv_iand hx hb d_M_push_89 ?_
                    refine k_top (pk_and _ 16 (by decide)) ?_
                    refine k_iastN hx hb hK hP hD hS 3 rfl (i := ((16 * y0.1.2.2.2.2.1) + (2 * i))) (by omega) (by omega) d_M_push_90 (fun H locs hP hD hS => ?_)
                    have hP : va_P E.1 vwCl [(mo, .inr (8, [.int (nI len), .ref mb, .int (kb on), .int (nI y0.1.1), .int (nI y0.1.2.1), .int (nI y0.1.2.2.1), .int (nI y0.1.2.2.2.1), .int (nI y0.1.2.2.2.2.1), .int (nI y0.2.1), .int (nI y0.1.2.2.2.2.2.2.1), .ref mm, .ref mw, .ref mh, .ref ml, .int (kb ay)])), (mb, .inl (E.2.1 0, 96, .inl (nF nb))), (mm, .inl (E.2.1 0, 160, .inl (nF y0.1.2.2.2.2.2.2.2.2))), (mw, .inl (E.2.1 0, 370, .inl (nF (va_up z ((16 * y0.1.2.2.2.2.1) + (2 * i)) (uw i1 % 65536))))), (mh, .inl (E.2.1 0, 144, .inl fh)), (ml, .inl (E.2.1 1, 144, .inl fl))] H := hP
                    have hD : va_D A [(mo, .inr (8, [.int (nI len), .ref mb, .int (kb on), .int (nI y0.1.1), .int (nI y0.1.2.1), .int (nI y0.1.2.2.1), .int (nI y0.1.2.2.2.1), .int (nI y0.1.2.2.2.2.1), .int (nI y0.2.1), .int (nI y0.1.2.2.2.2.2.2.1), .ref mm, .ref mw, .ref mh, .ref ml, .int (kb ay)])), (mb, .inl (E.2.1 0, 96, .inl (nF nb))), (mm, .inl (E.2.1 0, 160, .inl (nF y0.1.2.2.2.2.2.2.2.2))), (mw, .inl (E.2.1 0, 370, .inl (nF (va_up z ((16 * y0.1.2.2.2.2.1) + (2 * i)) (uw i1 % 65536))))), (mh, .inl (E.2.1 0, 144, .inl fh)), (ml, .inl (E.2.1 1, 144, .inl fl))] := hD
                    refine lv_aload_n hx hb d_M_push_91 rfl (lv_at hl 2 rfl) ?_
                    refine va_get (D := E.1) (ci := 8) (v := .ref mw) (C := "WideStackModel") (T := T_M) (N := 15) hx hb hts in_M hown hK hP 0 rfl rfl 11 (by decide) (hts _ t_758) (fun _ h9 => h9) rfl d_M_push_92 ?_
                    refine lv_bipush (v := nI 16) hx hb d_M_push_95 (by decide) ?_
                    refine lv_aload_n hx hb d_M_push_97 rfl (lv_at hl 2 rfl) ?_
                    refine va_get (D := E.1) (ci := 8) (v := .int (nI y0.1.2.2.2.2.1)) (C := "WideStackModel") (T := T_M) (N := 15) hx hb hts in_M hown hK hP 0 rfl rfl 7 (by decide) (hts _ t_754) (fun _ h9 => h9) rfl d_M_push_98 ?_
                    refine lv_imul hx hb d_M_push_101 ?_
                    refine k_top (pk_mul _ _) ?_
                    refine lv_iconst (v := nI 2) hx hb d_M_push_102 (by decide) ?_
                    refine lv_iload hx hb d_M_push_103 (lv_at hl 1 rfl) ?_
                    refine lv_imul hx hb d_M_push_105 ?_
                    refine k_top (pk_mul _ _) ?_
                    refine lv_iadd hx hb d_M_push_106 ?_
                    refine k_top (nI_add _ _) ?_
                    refine lv_iconst (v := nI 1) hx hb d_M_push_107 (by decide) ?_
                    refine lv_iadd hx hb d_M_push_108 ?_
                    refine k_top (nI_add _ _) ?_
                    refine lv_iload hx hb d_M_push_109 (lv_at hl 0 rfl) ?_
                    refine lv_bipush (v := nI 16) hx hb d_M_push_111 (by decide) ?_
                    refine lv_iushr (v := (i1.toUInt32 >>> ((nI 16).toUInt32 &&& Int32.toUInt32 31)).toInt32) hx hb d_M_push_113 rfl ?_
                    refine k_top (k_ushr (by decide)) ?_
                    refine k_iastN hx hb hK hP hD hS 3 rfl (i := (((16 * y0.1.2.2.2.2.1) + (2 * i)) + 1)) (by omega) (by omega) d_M_push_114 (fun H locs hP hD hS => ?_)
                    have hP : va_P E.1 vwCl [(mo, .inr (8, [.int (nI len), .ref mb, .int (kb on), .int (nI y0.1.1), .int (nI y0.1.2.1), .int (nI y0.1.2.2.1), .int (nI y0.1.2.2.2.1), .int (nI y0.1.2.2.2.2.1), .int (nI y0.2.1), .int (nI y0.1.2.2.2.2.2.2.1), .ref mm, .ref mw, .ref mh, .ref ml, .int (kb ay)])), (mb, .inl (E.2.1 0, 96, .inl (nF nb))), (mm, .inl (E.2.1 0, 160, .inl (nF y0.1.2.2.2.2.2.2.2.2))), (mw, .inl (E.2.1 0, 370, .inl (nF (va_up (va_up z ((16 * y0.1.2.2.2.2.1) + (2 * i)) (uw i1 % 65536)) (((16 * y0.1.2.2.2.2.1) + (2 * i)) + 1) (uw i1 / 65536))))), (mh, .inl (E.2.1 0, 144, .inl fh)), (ml, .inl (E.2.1 1, 144, .inl fl))] H := hP
                    have hD : va_D A [(mo, .inr (8, [.int (nI len), .ref mb, .int (kb on), .int (nI y0.1.1), .int (nI y0.1.2.1), .int (nI y0.1.2.2.1), .int (nI y0.1.2.2.2.1), .int (nI y0.1.2.2.2.2.1), .int (nI y0.2.1), .int (nI y0.1.2.2.2.2.2.2.1), .ref mm, .ref mw, .ref mh, .ref ml, .int (kb ay)])), (mb, .inl (E.2.1 0, 96, .inl (nF nb))), (mm, .inl (E.2.1 0, 160, .inl (nF y0.1.2.2.2.2.2.2.2.2))), (mw, .inl (E.2.1 0, 370, .inl (nF (va_up (va_up z ((16 * y0.1.2.2.2.2.1) + (2 * i)) (uw i1 % 65536)) (((16 * y0.1.2.2.2.2.1) + (2 * i)) + 1) (uw i1 / 65536))))), (mh, .inl (E.2.1 0, 144, .inl fh)), (ml, .inl (E.2.1 1, 144, .inl fl))] := hD
                    refine lv_iinc (k := 1) (v := nI (i + 1)) (lv' := [(5, .int (nI (i + 1))), (6, .int i1), (0, .ref mo), (1, .int i1), (2, .int i2), (3, .int i3), (4, .int i4)]) hx hb d_M_push_115 hl rfl (k_inc _) (by decide) rfl (fun ls hl => ?_)
                    refine lv_goto (tgt := 28) hx hb d_M_push_118 (by decide) ?_
                    exact ih (n - 1) (by omega) (i + 1) (va_up (va_up z ((16 * y0.1.2.2.2.2.1) + (2 * i)) (uw i1 % 65536)) (((16 * y0.1.2.2.2.2.1) + (2 * i)) + 1) (uw i1 / 65536)) _ _ ls (by omega) (pu_step (by omega) (by first | exact if_pos h37 | (rw [if_neg h37]; exact if_pos h48) | (rw [if_neg h37, if_neg h48]; exact if_pos h59) | (rw [if_neg h37, if_neg h48]; exact if_neg h59)) hI) (lv_sub hl [0, 2, 3, 4, 5, 6] rfl) hP hD hS
                · refine lv_iload_n hx hb d_M_push_51 rfl (lv_at hl 4 rfl) ?_
                  refine lv_goto (tgt := 67) hx hb d_M_push_52 (by decide) ?_
                  refine lv_istore (lv' := [(6, .int i3), (5, .int (nI i)), (0, .ref mo), (1, .int i1), (2, .int i2), (3, .int i3), (4, .int i4)]) hx hb d_M_push_67 hl (by decide) rfl (fun ls hl => ?_)
                  refine lv_aload_n hx hb d_M_push_69 rfl (lv_at hl 2 rfl) ?_
                  refine va_get (D := E.1) (ci := 8) (v := .ref mw) (C := "WideStackModel") (T := T_M) (N := 15) hx hb hts in_M hown hK hP 0 rfl rfl 11 (by decide) (hts _ t_758) (fun _ h9 => h9) rfl d_M_push_70 ?_
                  refine lv_bipush (v := nI 16) hx hb d_M_push_73 (by decide) ?_
                  refine lv_aload_n hx hb d_M_push_75 rfl (lv_at hl 2 rfl) ?_
                  refine va_get (D := E.1) (ci := 8) (v := .int (nI y0.1.2.2.2.2.1)) (C := "WideStackModel") (T := T_M) (N := 15) hx hb hts in_M hown hK hP 0 rfl rfl 7 (by decide) (hts _ t_754) (fun _ h9 => h9) rfl d_M_push_76 ?_
                  refine lv_imul hx hb d_M_push_79 ?_
                  refine k_top (pk_mul _ _) ?_
                  refine lv_iconst (v := nI 2) hx hb d_M_push_80 (by decide) ?_
                  refine lv_iload hx hb d_M_push_81 (lv_at hl 1 rfl) ?_
                  refine lv_imul hx hb d_M_push_83 ?_
                  refine k_top (pk_mul _ _) ?_
                  refine lv_iadd hx hb d_M_push_84 ?_
                  refine k_top (nI_add _ _) ?_
                  refine lv_iload hx hb d_M_push_85 (lv_at hl 0 rfl) ?_
                  refine lv_ldc (v := 65535) hx hb hown (hts _ t_827) d_M_push_87 ?_
                  refine k_top (y := nI 65535) (by decide) ?_
                  refine lv_iand hx hb d_M_push_89 ?_
                  refine k_top (pk_and _ 16 (by decide)) ?_
                  refine k_iastN hx hb hK hP hD hS 3 rfl (i := ((16 * y0.1.2.2.2.2.1) + (2 * i))) (by omega) (by omega) d_M_push_90 (fun H locs hP hD hS => ?_)
                  have hP : va_P E.1 vwCl [(mo, .inr (8, [.int (nI len), .ref mb, .int (kb on), .int (nI y0.1.1), .int (nI y0.1.2.1), .int (nI y0.1.2.2.1), .int (nI y0.1.2.2.2.1), .int (nI y0.1.2.2.2.2.1), .int (nI y0.2.1), .int (nI y0.1.2.2.2.2.2.2.1), .ref mm, .ref mw, .ref mh, .ref ml, .int (kb ay)])), (mb, .inl (E.2.1 0, 96, .inl (nF nb))), (mm, .inl (E.2.1 0, 160, .inl (nF y0.1.2.2.2.2.2.2.2.2))), (mw, .inl (E.2.1 0, 370, .inl (nF (va_up z ((16 * y0.1.2.2.2.2.1) + (2 * i)) (uw i3 % 65536))))), (mh, .inl (E.2.1 0, 144, .inl fh)), (ml, .inl (E.2.1 1, 144, .inl fl))] H := hP
                  have hD : va_D A [(mo, .inr (8, [.int (nI len), .ref mb, .int (kb on), .int (nI y0.1.1), .int (nI y0.1.2.1), .int (nI y0.1.2.2.1), .int (nI y0.1.2.2.2.1), .int (nI y0.1.2.2.2.2.1), .int (nI y0.2.1), .int (nI y0.1.2.2.2.2.2.2.1), .ref mm, .ref mw, .ref mh, .ref ml, .int (kb ay)])), (mb, .inl (E.2.1 0, 96, .inl (nF nb))), (mm, .inl (E.2.1 0, 160, .inl (nF y0.1.2.2.2.2.2.2.2.2))), (mw, .inl (E.2.1 0, 370, .inl (nF (va_up z ((16 * y0.1.2.2.2.2.1) + (2 * i)) (uw i3 % 65536))))), (mh, .inl (E.2.1 0, 144, .inl fh)), (ml, .inl (E.2.1 1, 144, .inl fl))] := hD
                  refine lv_aload_n hx hb d_M_push_91 rfl (lv_at hl 2 rfl) ?_
                  refine va_get (D := E.1) (ci := 8) (v := .ref mw) (C := "WideStackModel") (T := T_M) (N := 15) hx hb hts in_M hown hK hP 0 rfl rfl 11 (by decide) (hts _ t_758) (fun _ h9 => h9) rfl d_M_push_92 ?_
                  refine lv_bipush (v := nI 16) hx hb d_M_push_95 (by decide) ?_
                  refine lv_aload_n hx hb d_M_push_97 rfl (lv_at hl 2 rfl) ?_
                  refine va_get (D := E.1) (ci := 8) (v := .int (nI y0.1.2.2.2.2.1)) (C := "WideStackModel") (T := T_M) (N := 15) hx hb hts in_M hown hK hP 0 rfl rfl 7 (by decide) (hts _ t_754) (fun _ h9 => h9) rfl d_M_push_98 ?_
                  refine lv_imul hx hb d_M_push_101 ?_
                  refine k_top (pk_mul _ _) ?_
                  refine lv_iconst (v := nI 2) hx hb d_M_push_102 (by decide) ?_
                  refine lv_iload hx hb d_M_push_103 (lv_at hl 1 rfl) ?_
                  refine lv_imul hx hb d_M_push_105 ?_
                  refine k_top (pk_mul _ _) ?_
                  refine lv_iadd hx hb d_M_push_106 ?_
                  refine k_top (nI_add _ _) ?_
                  refine lv_iconst (v := nI 1) hx hb d_M_push_107 (by decide) ?_
                  refine lv_iadd hx hb d_M_push_108 ?_
                  refine k_top (nI_add _ _) ?_
                  refine lv_iload hx hb d_M_push_109 (lv_at hl 0 rfl) ?_
                  refine lv_bipush (v := nI 16) hx hb d_M_push_111 (by decide) ?_
                  refine lv_iushr (v := (i3.toUInt32 >>> ((nI 16).toUInt32 &&& Int32.toUInt32 31)).toInt32) hx hb d_M_push_113 rfl ?_
                  refine k_top (k_ushr (by decide)) ?_
                  refine k_iastN hx hb hK hP hD hS 3 rfl (i := (((16 * y0.1.2.2.2.2.1) + (2 * i)) + 1)) (by omega) (by omega) d_M_push_114 (fun H locs hP hD hS => ?_)
                  have hP : va_P E.1 vwCl [(mo, .inr (8, [.int (nI len), .ref mb, .int (kb on), .int (nI y0.1.1), .int (nI y0.1.2.1), .int (nI y0.1.2.2.1), .int (nI y0.1.2.2.2.1), .int (nI y0.1.2.2.2.2.1), .int (nI y0.2.1), .int (nI y0.1.2.2.2.2.2.2.1), .ref mm, .ref mw, .ref mh, .ref ml, .int (kb ay)])), (mb, .inl (E.2.1 0, 96, .inl (nF nb))), (mm, .inl (E.2.1 0, 160, .inl (nF y0.1.2.2.2.2.2.2.2.2))), (mw, .inl (E.2.1 0, 370, .inl (nF (va_up (va_up z ((16 * y0.1.2.2.2.2.1) + (2 * i)) (uw i3 % 65536)) (((16 * y0.1.2.2.2.2.1) + (2 * i)) + 1) (uw i3 / 65536))))), (mh, .inl (E.2.1 0, 144, .inl fh)), (ml, .inl (E.2.1 1, 144, .inl fl))] H := hP
                  have hD : va_D A [(mo, .inr (8, [.int (nI len), .ref mb, .int (kb on), .int (nI y0.1.1), .int (nI y0.1.2.1), .int (nI y0.1.2.2.1), .int (nI y0.1.2.2.2.1), .int (nI y0.1.2.2.2.2.1), .int (nI y0.2.1), .int (nI y0.1.2.2.2.2.2.2.1), .ref mm, .ref mw, .ref mh, .ref ml, .int (kb ay)])), (mb, .inl (E.2.1 0, 96, .inl (nF nb))), (mm, .inl (E.2.1 0, 160, .inl (nF y0.1.2.2.2.2.2.2.2.2))), (mw, .inl (E.2.1 0, 370, .inl (nF (va_up (va_up z ((16 * y0.1.2.2.2.2.1) + (2 * i)) (uw i3 % 65536)) (((16 * y0.1.2.2.2.2.1) + (2 * i)) + 1) (uw i3 / 65536))))), (mh, .inl (E.2.1 0, 144, .inl fh)), (ml, .inl (E.2.1 1, 144, .inl fl))] := hD
                  refine lv_iinc (k := 1) (v := nI (i + 1)) (lv' := [(5, .int (nI (i + 1))), (6, .int i3), (0, .ref mo), (1, .int i1), (2, .int i2), (3, .int i3), (4, .int i4)]) hx hb d_M_push_115 hl rfl (k_inc _) (by decide) rfl (fun ls hl => ?_)
                  refine lv_goto (tgt := 28) hx hb d_M_push_118 (by decide) ?_
                  exact ih (n - 1) (by omega) (i + 1) (va_up (va_up z ((16 * y0.1.2.2.2.2.1) + (2 * i)) (uw i3 % 65536)) (((16 * y0.1.2.2.2.2.1) + (2 * i)) + 1) (uw i3 / 65536)) _ _ ls (by omega) (pu_step (by omega) (by first | exact if_pos h37 | (rw [if_neg h37]; exact if_pos h48) | (rw [if_neg h37, if_neg h48]; exact if_pos h59) | (rw [if_neg h37, if_neg h48]; exact if_neg h59)) hI) (lv_sub hl [0, 2, 3, 4, 5, 6] rfl) hP hD hS
              · refine lv_iload hx hb d_M_push_40 (lv_at hl 5 rfl) ?_
                refine lv_goto (tgt := 67) hx hb d_M_push_42 (by decide) ?_
                refine lv_istore (lv' := [(6, .int i4), (5, .int (nI i)), (0, .ref mo), (1, .int i1), (2, .int i2), (3, .int i3), (4, .int i4)]) hx hb d_M_push_67 hl (by decide) rfl (fun ls hl => ?_)
                refine lv_aload_n hx hb d_M_push_69 rfl (lv_at hl 2 rfl) ?_
                refine va_get (D := E.1) (ci := 8) (v := .ref mw) (C := "WideStackModel") (T := T_M) (N := 15) hx hb hts in_M hown hK hP 0 rfl rfl 11 (by decide) (hts _ t_758) (fun _ h9 => h9) rfl d_M_push_70 ?_
                refine lv_bipush (v := nI 16) hx hb d_M_push_73 (by decide) ?_
                refine lv_aload_n hx hb d_M_push_75 rfl (lv_at hl 2 rfl) ?_
                refine va_get (D := E.1) (ci := 8) (v := .int (nI y0.1.2.2.2.2.1)) (C := "WideStackModel") (T := T_M) (N := 15) hx hb hts in_M hown hK hP 0 rfl rfl 7 (by decide) (hts _ t_754) (fun _ h9 => h9) rfl d_M_push_76 ?_
                refine lv_imul hx hb d_M_push_79 ?_
                refine k_top (pk_mul _ _) ?_
                refine lv_iconst (v := nI 2) hx hb d_M_push_80 (by decide) ?_
                refine lv_iload hx hb d_M_push_81 (lv_at hl 1 rfl) ?_
                refine lv_imul hx hb d_M_push_83 ?_
                refine k_top (pk_mul _ _) ?_
                refine lv_iadd hx hb d_M_push_84 ?_
                refine k_top (nI_add _ _) ?_
                refine lv_iload hx hb d_M_push_85 (lv_at hl 0 rfl) ?_
                refine lv_ldc (v := 65535) hx hb hown (hts _ t_827) d_M_push_87 ?_
                refine k_top (y := nI 65535) (by decide) ?_
                refine lv_iand hx hb d_M_push_89 ?_
                refine k_top (pk_and _ 16 (by decide)) ?_
                refine k_iastN hx hb hK hP hD hS 3 rfl (i := ((16 * y0.1.2.2.2.2.1) + (2 * i))) (by omega) (by omega) d_M_push_90 (fun H locs hP hD hS => ?_)
                have hP : va_P E.1 vwCl [(mo, .inr (8, [.int (nI len), .ref mb, .int (kb on), .int (nI y0.1.1), .int (nI y0.1.2.1), .int (nI y0.1.2.2.1), .int (nI y0.1.2.2.2.1), .int (nI y0.1.2.2.2.2.1), .int (nI y0.2.1), .int (nI y0.1.2.2.2.2.2.2.1), .ref mm, .ref mw, .ref mh, .ref ml, .int (kb ay)])), (mb, .inl (E.2.1 0, 96, .inl (nF nb))), (mm, .inl (E.2.1 0, 160, .inl (nF y0.1.2.2.2.2.2.2.2.2))), (mw, .inl (E.2.1 0, 370, .inl (nF (va_up z ((16 * y0.1.2.2.2.2.1) + (2 * i)) (uw i4 % 65536))))), (mh, .inl (E.2.1 0, 144, .inl fh)), (ml, .inl (E.2.1 1, 144, .inl fl))] H := hP
                have hD : va_D A [(mo, .inr (8, [.int (nI len), .ref mb, .int (kb on), .int (nI y0.1.1), .int (nI y0.1.2.1), .int (nI y0.1.2.2.1), .int (nI y0.1.2.2.2.1), .int (nI y0.1.2.2.2.2.1), .int (nI y0.2.1), .int (nI y0.1.2.2.2.2.2.2.1), .ref mm, .ref mw, .ref mh, .ref ml, .int (kb ay)])), (mb, .inl (E.2.1 0, 96, .inl (nF nb))), (mm, .inl (E.2.1 0, 160, .inl (nF y0.1.2.2.2.2.2.2.2.2))), (mw, .inl (E.2.1 0, 370, .inl (nF (va_up z ((16 * y0.1.2.2.2.2.1) + (2 * i)) (uw i4 % 65536))))), (mh, .inl (E.2.1 0, 144, .inl fh)), (ml, .inl (E.2.1 1, 144, .inl fl))] := hD
                refine lv_aload_n hx hb d_M_push_91 rfl (lv_at hl 2 rfl) ?_
                refine va_get (D := E.1) (ci := 8) (v := .ref mw) (C := "WideStackModel") (T := T_M) (N := 15) hx hb hts in_M hown hK hP 0 rfl rfl 11 (by decide) (hts _ t_758) (fun _ h9 => h9) rfl d_M_push_92 ?_
                refine lv_bipush (v := nI 16) hx hb d_M_push_95 (by decide) ?_
                refine lv_aload_n hx hb d_M_push_97 rfl (lv_at hl 2 rfl) ?_
                refine va_get (D := E.1) (ci := 8) (v := .int (nI y0.1.2.2.2.2.1)) (C := "WideStackModel") (T := T_M) (N := 15) hx hb hts in_M hown hK hP 0 rfl rfl 7 (by decide) (hts _ t_754) (fun _ h9 => h9) rfl d_M_push_98 ?_
                refine lv_imul hx hb d_M_push_101 ?_
                refine k_top (pk_mul _ _) ?_
                refine lv_iconst (v := nI 2) hx hb d_M_push_102 (by decide) ?_
                refine lv_iload hx hb d_M_push_103 (lv_at hl 1 rfl) ?_
                refine lv_imul hx hb d_M_push_105 ?_
                refine k_top (pk_mul _ _) ?_
                refine lv_iadd hx hb d_M_push_106 ?_
                refine k_top (nI_add _ _) ?_
                refine lv_iconst (v := nI 1) hx hb d_M_push_107 (by decide) ?_
                refine lv_iadd hx hb d_M_push_108 ?_
                refine k_top (nI_add _ _) ?_
                refine lv_iload hx hb d_M_push_109 (lv_at hl 0 rfl) ?_
                refine lv_bipush (v := nI 16) hx hb d_M_push_111 (by decide) ?_
                refine lv_iushr (v := (i4.toUInt32 >>> ((nI 16).toUInt32 &&& Int32.toUInt32 31)).toInt32) hx hb d_M_push_113 rfl ?_
                refine k_top (k_ushr (by decide)) ?_
                refine k_iastN hx hb hK hP hD hS 3 rfl (i := (((16 * y0.1.2.2.2.2.1) + (2 * i)) + 1)) (by omega) (by omega) d_M_push_114 (fun H locs hP hD hS => ?_)
                have hP : va_P E.1 vwCl [(mo, .inr (8, [.int (nI len), .ref mb, .int (kb on), .int (nI y0.1.1), .int (nI y0.1.2.1), .int (nI y0.1.2.2.1), .int (nI y0.1.2.2.2.1), .int (nI y0.1.2.2.2.2.1), .int (nI y0.2.1), .int (nI y0.1.2.2.2.2.2.2.1), .ref mm, .ref mw, .ref mh, .ref ml, .int (kb ay)])), (mb, .inl (E.2.1 0, 96, .inl (nF nb))), (mm, .inl (E.2.1 0, 160, .inl (nF y0.1.2.2.2.2.2.2.2.2))), (mw, .inl (E.2.1 0, 370, .inl (nF (va_up (va_up z ((16 * y0.1.2.2.2.2.1) + (2 * i)) (uw i4 % 65536)) (((16 * y0.1.2.2.2.2.1) + (2 * i)) + 1) (uw i4 / 65536))))), (mh, .inl (E.2.1 0, 144, .inl fh)), (ml, .inl (E.2.1 1, 144, .inl fl))] H := hP
                have hD : va_D A [(mo, .inr (8, [.int (nI len), .ref mb, .int (kb on), .int (nI y0.1.1), .int (nI y0.1.2.1), .int (nI y0.1.2.2.1), .int (nI y0.1.2.2.2.1), .int (nI y0.1.2.2.2.2.1), .int (nI y0.2.1), .int (nI y0.1.2.2.2.2.2.2.1), .ref mm, .ref mw, .ref mh, .ref ml, .int (kb ay)])), (mb, .inl (E.2.1 0, 96, .inl (nF nb))), (mm, .inl (E.2.1 0, 160, .inl (nF y0.1.2.2.2.2.2.2.2.2))), (mw, .inl (E.2.1 0, 370, .inl (nF (va_up (va_up z ((16 * y0.1.2.2.2.2.1) + (2 * i)) (uw i4 % 65536)) (((16 * y0.1.2.2.2.2.1) + (2 * i)) + 1) (uw i4 / 65536))))), (mh, .inl (E.2.1 0, 144, .inl fh)), (ml, .inl (E.2.1 1, 144, .inl fl))] := hD
                refine lv_iinc (k := 1) (v := nI (i + 1)) (lv' := [(5, .int (nI (i + 1))), (6, .int i4), (0, .ref mo), (1, .int i1), (2, .int i2), (3, .int i3), (4, .int i4)]) hx hb d_M_push_115 hl rfl (k_inc _) (by decide) rfl (fun ls hl => ?_)
                refine lv_goto (tgt := 28) hx hb d_M_push_118 (by decide) ?_
                exact ih (n - 1) (by omega) (i + 1) (va_up (va_up z ((16 * y0.1.2.2.2.2.1) + (2 * i)) (uw i4 % 65536)) (((16 * y0.1.2.2.2.2.1) + (2 * i)) + 1) (uw i4 / 65536)) _ _ ls (by omega) (pu_step (by omega) (by first | exact if_pos h37 | (rw [if_neg h37]; exact if_pos h48) | (rw [if_neg h37, if_neg h48]; exact if_pos h59) | (rw [if_neg h37, if_neg h48]; exact if_neg h59)) hI) (lv_sub hl [0, 2, 3, 4, 5, 6] rfl) hP hD hS
        exact key28 8 0 y0.2.2 _ _ ls (by omega) ⟨rfl, fr1_0, hY.1.2.2.2⟩ (lv_sub hl [0, 1, 2, 3, 4, 5] rfl) hP hD hS
      · refine lv_iconst (v := nI 0) hx hb d_M_push_23 (by decide) ?_
        first | exact hret _ ls _ _ _ y0 d_M_push_24 (by decide) ⟨hY, Or.inr ⟨Or.inl (kb_0.mp h4), rfl, rfl⟩⟩ hP hS | exact hret _ ls _ _ _ y0 d_M_push_24 (by decide) ⟨hY, Or.inr ⟨Or.inr (Or.inl h11), rfl, rfl⟩⟩ hP hS | exact hret _ ls _ _ _ y0 d_M_push_24 (by decide) ⟨hY, Or.inr ⟨Or.inr (Or.inr h20), rfl, rfl⟩⟩ hP hS

abbrev y_M_ended : MethodName := ⟨"WideStackModel", "ended", "()I"⟩
theorem d_M_ended_0 : decode prog_12_method_46_code 0 = .ok (.aload_n 0, 1) := by decide +kernel
theorem d_M_ended_1 : decode prog_12_method_46_code 1 = .ok (.getfield 30, 3) := by decide +kernel
theorem d_M_ended_4 : decode prog_12_method_46_code 4 = .ok (.ifCond .eq 10, 3) := by decide +kernel
theorem d_M_ended_7 : decode prog_12_method_46_code 7 = .ok (.aload_n 0, 1) := by decide +kernel
theorem d_M_ended_8 : decode prog_12_method_46_code 8 = .ok (.getfield 94, 3) := by decide +kernel
theorem d_M_ended_11 : decode prog_12_method_46_code 11 = .ok (.goto 4, 3) := by decide +kernel
theorem d_M_ended_14 : decode prog_12_method_46_code 14 = .ok (.iconst (-1), 1) := by decide +kernel
theorem d_M_ended_15 : decode prog_12_method_46_code 15 = .ok (.ireturn, 1) := by decide +kernel
def rm_c_MX_ended : Room := { frames := 0, cells := 0, slots := 0, locals := 0 }
set_option maxHeartbeats 4000000 in
set_option maxRecDepth 100000 in
theorem c_MX_ended (l : Launch) (E : kE) (mo mb mm mw mh ml : Nat) (on ay : Bool) (y0 : rS) (len : Nat) (nb bb : Nat → Nat) (okb : okB len bb nb) (fh fl : Nat → Int32) : Kp l y_M_ended (kW y_M_ended prog_12_method_46_code 1 (some .int)) rm_c_MX_ended E [.ref mo] [(mo, .inr (8, [.int (nI len), .ref mb, .int (kb on), .int (nI y0.1.1), .int (nI y0.1.2.1), .int (nI y0.1.2.2.1), .int (nI y0.1.2.2.2.1), .int (nI y0.1.2.2.2.2.1), .int (nI y0.2.1), .int (nI y0.1.2.2.2.2.2.2.1), .ref mm, .ref mw, .ref mh, .ref ml, .int (kb ay)])), (mb, .inl (E.2.1 0, 96, .inl (nF nb))), (mm, .inl (E.2.1 0, 160, .inl (nF y0.1.2.2.2.2.2.2.2.2))), (mw, .inl (E.2.1 0, 370, .inl (nF y0.2.2))), (mh, .inl (E.2.1 0, 144, .inl fh)), (ml, .inl (E.2.1 1, 144, .inl fl))] (fun r => r = if on then nI y0.1.1 else -1) := by
  refine Kp.ofI (cc := prog_12_method_46_code) (maxL := 1) (by decide) (Nat.le_of_ble_eq_true rfl) ?_
  intro p e s m args below meth c A ls Q hx hb hts hown hml hK hG hA hP hD hS hl hret
  have hl : lv_has ls 1 [(0, .ref mo)] := hl
  refine lv_aload_n hx hb d_M_ended_0 rfl (lv_at hl 0 rfl) ?_
  refine va_get (D := E.1) (ci := 8) (v := .int (kb on)) (C := "WideStackModel") (T := T_M) (N := 15) hx hb hts in_M hown hK hP 0 rfl rfl 2 (by decide) (hts _ t_749) (fun _ h9 => h9) rfl d_M_ended_1 ?_
  refine lv_if_eq (tgt := 14) hx hb d_M_ended_4 (by decide) (fun h4 => ?_) (fun h4 => ?_)
  · refine lv_iconst (v := -1) hx hb d_M_ended_14 (by decide) ?_
    first | exact hret _ ls _ d_M_ended_15 (by rw [kb_n0 h4]; rfl) | exact hret _ ls _ d_M_ended_15 (by rw [kb_0.mp h4]; rfl)
  · refine lv_aload_n hx hb d_M_ended_7 rfl (lv_at hl 0 rfl) ?_
    refine va_get (D := E.1) (ci := 8) (v := .int (nI y0.1.1)) (C := "WideStackModel") (T := T_M) (N := 15) hx hb hts in_M hown hK hP 0 rfl rfl 3 (by decide) (hts _ t_750) (fun _ h9 => h9) rfl d_M_ended_8 ?_
    refine lv_goto (tgt := 15) hx hb d_M_ended_11 (by decide) ?_
    first | exact hret _ ls _ d_M_ended_15 (by rw [kb_n0 h4]; rfl) | exact hret _ ls _ d_M_ended_15 (by rw [kb_0.mp h4]; rfl)

abbrev y_M_height : MethodName := ⟨"WideStackModel", "height", "()I"⟩
theorem d_M_height_0 : decode prog_12_method_47_code 0 = .ok (.aload_n 0, 1) := by decide +kernel
theorem d_M_height_1 : decode prog_12_method_47_code 1 = .ok (.getfield 30, 3) := by decide +kernel
theorem d_M_height_4 : decode prog_12_method_47_code 4 = .ok (.ifCond .eq 10, 3) := by decide +kernel
theorem d_M_height_7 : decode prog_12_method_47_code 7 = .ok (.aload_n 0, 1) := by decide +kernel
theorem d_M_height_8 : decode prog_12_method_47_code 8 = .ok (.getfield 91, 3) := by decide +kernel
theorem d_M_height_11 : decode prog_12_method_47_code 11 = .ok (.goto 4, 3) := by decide +kernel
theorem d_M_height_14 : decode prog_12_method_47_code 14 = .ok (.iconst 0, 1) := by decide +kernel
theorem d_M_height_15 : decode prog_12_method_47_code 15 = .ok (.ireturn, 1) := by decide +kernel
def rm_c_MX_height : Room := { frames := 0, cells := 0, slots := 0, locals := 0 }
set_option maxHeartbeats 4000000 in
set_option maxRecDepth 100000 in
theorem c_MX_height (l : Launch) (E : kE) (mo mb mm mw mh ml : Nat) (on ay : Bool) (y0 : rS) (len : Nat) (nb bb : Nat → Nat) (okb : okB len bb nb) (fh fl : Nat → Int32) : Kp l y_M_height (kW y_M_height prog_12_method_47_code 1 (some .int)) rm_c_MX_height E [.ref mo] [(mo, .inr (8, [.int (nI len), .ref mb, .int (kb on), .int (nI y0.1.1), .int (nI y0.1.2.1), .int (nI y0.1.2.2.1), .int (nI y0.1.2.2.2.1), .int (nI y0.1.2.2.2.2.1), .int (nI y0.2.1), .int (nI y0.1.2.2.2.2.2.2.1), .ref mm, .ref mw, .ref mh, .ref ml, .int (kb ay)])), (mb, .inl (E.2.1 0, 96, .inl (nF nb))), (mm, .inl (E.2.1 0, 160, .inl (nF y0.1.2.2.2.2.2.2.2.2))), (mw, .inl (E.2.1 0, 370, .inl (nF y0.2.2))), (mh, .inl (E.2.1 0, 144, .inl fh)), (ml, .inl (E.2.1 1, 144, .inl fl))] (fun r => r = if on then nI y0.1.2.2.2.2.1 else nI 0) := by
  refine Kp.ofI (cc := prog_12_method_47_code) (maxL := 1) (by decide) (Nat.le_of_ble_eq_true rfl) ?_
  intro p e s m args below meth c A ls Q hx hb hts hown hml hK hG hA hP hD hS hl hret
  have hl : lv_has ls 1 [(0, .ref mo)] := hl
  refine lv_aload_n hx hb d_M_height_0 rfl (lv_at hl 0 rfl) ?_
  refine va_get (D := E.1) (ci := 8) (v := .int (kb on)) (C := "WideStackModel") (T := T_M) (N := 15) hx hb hts in_M hown hK hP 0 rfl rfl 2 (by decide) (hts _ t_749) (fun _ h9 => h9) rfl d_M_height_1 ?_
  refine lv_if_eq (tgt := 14) hx hb d_M_height_4 (by decide) (fun h4 => ?_) (fun h4 => ?_)
  · refine lv_iconst (v := nI 0) hx hb d_M_height_14 (by decide) ?_
    first | exact hret _ ls _ d_M_height_15 (by rw [kb_n0 h4]; rfl) | exact hret _ ls _ d_M_height_15 (by rw [kb_0.mp h4]; rfl)
  · refine lv_aload_n hx hb d_M_height_7 rfl (lv_at hl 0 rfl) ?_
    refine va_get (D := E.1) (ci := 8) (v := .int (nI y0.1.2.2.2.2.1)) (C := "WideStackModel") (T := T_M) (N := 15) hx hb hts in_M hown hK hP 0 rfl rfl 7 (by decide) (hts _ t_754) (fun _ h9 => h9) rfl d_M_height_8 ?_
    refine lv_goto (tgt := 15) hx hb d_M_height_11 (by decide) ?_
    first | exact hret _ ls _ d_M_height_15 (by rw [kb_n0 h4]; rfl) | exact hret _ ls _ d_M_height_15 (by rw [kb_0.mp h4]; rfl)

theorem pt_7 {j : Int32} (h : j ≤ nI 7) (q : nI 8 ≤ j) : False := by
  rw [Int32.le_iff_toInt_le] at h q
  have e1 : (nI 7).toInt = 7 := by decide
  have e2 : (nI 8).toInt = 8 := by decide
  omega
theorem pt_8 {j : Int32} (h : ¬ j ≤ nI 7) : nI 8 ≤ j := by
  rw [Int32.le_iff_toInt_le] at h ⊢
  have e1 : (nI 7).toInt = 7 := by decide
  have e2 : (nI 8).toInt = 8 := by decide
  omega

abbrev y_M_part : MethodName := ⟨"WideStackModel", "part", "(II)I"⟩
theorem d_M_part_0 : decode prog_12_method_48_code 0 = .ok (.aload_n 0, 1) := by decide +kernel
theorem d_M_part_1 : decode prog_12_method_48_code 1 = .ok (.getfield 30, 3) := by decide +kernel
theorem d_M_part_4 : decode prog_12_method_48_code 4 = .ok (.ifCond .eq 25, 3) := by decide +kernel
theorem d_M_part_7 : decode prog_12_method_48_code 7 = .ok (.iload_n 1, 1) := by decide +kernel
theorem d_M_part_8 : decode prog_12_method_48_code 8 = .ok (.ifCond .lt 21, 3) := by decide +kernel
theorem d_M_part_11 : decode prog_12_method_48_code 11 = .ok (.iload_n 1, 1) := by decide +kernel
theorem d_M_part_12 : decode prog_12_method_48_code 12 = .ok (.aload_n 0, 1) := by decide +kernel
theorem d_M_part_13 : decode prog_12_method_48_code 13 = .ok (.getfield 91, 3) := by decide +kernel
theorem d_M_part_16 : decode prog_12_method_48_code 16 = .ok (.if_icmp .ge 13, 3) := by decide +kernel
theorem d_M_part_19 : decode prog_12_method_48_code 19 = .ok (.iload_n 2, 1) := by decide +kernel
theorem d_M_part_20 : decode prog_12_method_48_code 20 = .ok (.ifCond .lt 9, 3) := by decide +kernel
theorem d_M_part_23 : decode prog_12_method_48_code 23 = .ok (.iload_n 2, 1) := by decide +kernel
theorem d_M_part_24 : decode prog_12_method_48_code 24 = .ok (.bipush 7, 2) := by decide +kernel
theorem d_M_part_26 : decode prog_12_method_48_code 26 = .ok (.if_icmp .le 5, 3) := by decide +kernel
theorem d_M_part_29 : decode prog_12_method_48_code 29 = .ok (.iconst 0, 1) := by decide +kernel
theorem d_M_part_30 : decode prog_12_method_48_code 30 = .ok (.ireturn, 1) := by decide +kernel
theorem d_M_part_31 : decode prog_12_method_48_code 31 = .ok (.aload_n 0, 1) := by decide +kernel
theorem d_M_part_32 : decode prog_12_method_48_code 32 = .ok (.getfield 16, 3) := by decide +kernel
theorem d_M_part_35 : decode prog_12_method_48_code 35 = .ok (.aload_n 0, 1) := by decide +kernel
theorem d_M_part_36 : decode prog_12_method_48_code 36 = .ok (.iload_n 1, 1) := by decide +kernel
theorem d_M_part_37 : decode prog_12_method_48_code 37 = .ok (.invokevirtual 109, 3) := by decide +kernel
theorem d_M_part_40 : decode prog_12_method_48_code 40 = .ok (.iconst 2, 1) := by decide +kernel
theorem d_M_part_41 : decode prog_12_method_48_code 41 = .ok (.iload_n 2, 1) := by decide +kernel
theorem d_M_part_42 : decode prog_12_method_48_code 42 = .ok (.imul, 1) := by decide +kernel
theorem d_M_part_43 : decode prog_12_method_48_code 43 = .ok (.iadd, 1) := by decide +kernel
theorem d_M_part_44 : decode prog_12_method_48_code 44 = .ok (.iaload, 1) := by decide +kernel
theorem d_M_part_45 : decode prog_12_method_48_code 45 = .ok (.aload_n 0, 1) := by decide +kernel
theorem d_M_part_46 : decode prog_12_method_48_code 46 = .ok (.getfield 16, 3) := by decide +kernel
theorem d_M_part_49 : decode prog_12_method_48_code 49 = .ok (.aload_n 0, 1) := by decide +kernel
theorem d_M_part_50 : decode prog_12_method_48_code 50 = .ok (.iload_n 1, 1) := by decide +kernel
theorem d_M_part_51 : decode prog_12_method_48_code 51 = .ok (.invokevirtual 109, 3) := by decide +kernel
theorem d_M_part_54 : decode prog_12_method_48_code 54 = .ok (.iconst 2, 1) := by decide +kernel
theorem d_M_part_55 : decode prog_12_method_48_code 55 = .ok (.iload_n 2, 1) := by decide +kernel
theorem d_M_part_56 : decode prog_12_method_48_code 56 = .ok (.imul, 1) := by decide +kernel
theorem d_M_part_57 : decode prog_12_method_48_code 57 = .ok (.iadd, 1) := by decide +kernel
theorem d_M_part_58 : decode prog_12_method_48_code 58 = .ok (.iconst 1, 1) := by decide +kernel
theorem d_M_part_59 : decode prog_12_method_48_code 59 = .ok (.iadd, 1) := by decide +kernel
theorem d_M_part_60 : decode prog_12_method_48_code 60 = .ok (.iaload, 1) := by decide +kernel
theorem d_M_part_61 : decode prog_12_method_48_code 61 = .ok (.bipush 16, 2) := by decide +kernel
theorem d_M_part_63 : decode prog_12_method_48_code 63 = .ok (.ishl, 1) := by decide +kernel
theorem d_M_part_64 : decode prog_12_method_48_code 64 = .ok (.ior, 1) := by decide +kernel
theorem d_M_part_65 : decode prog_12_method_48_code 65 = .ok (.ireturn, 1) := by decide +kernel
def rm_c_MX_part : Room := { frames := 1, cells := 0, slots := 0, locals := 21 }
set_option maxHeartbeats 4000000 in
set_option maxRecDepth 100000 in
theorem c_MX_part (l : Launch) (E : kE) (mo mb mm mw mh ml : Nat) (on ay : Bool) (y0 : rS) (len : Nat) (nb bb : Nat → Nat) (okb : okB len bb nb) (fh fl : Nat → Int32) (i j : Int32) (hY : okY y0) : Kp l y_M_part (kW y_M_part prog_12_method_48_code 3 (some .int)) rm_c_MX_part E [.ref mo, .int i, .int j] [(mo, .inr (8, [.int (nI len), .ref mb, .int (kb on), .int (nI y0.1.1), .int (nI y0.1.2.1), .int (nI y0.1.2.2.1), .int (nI y0.1.2.2.2.1), .int (nI y0.1.2.2.2.2.1), .int (nI y0.2.1), .int (nI y0.1.2.2.2.2.2.2.1), .ref mm, .ref mw, .ref mh, .ref ml, .int (kb ay)])), (mb, .inl (E.2.1 0, 96, .inl (nF nb))), (mm, .inl (E.2.1 0, 160, .inl (nF y0.1.2.2.2.2.2.2.2.2))), (mw, .inl (E.2.1 0, 370, .inl (nF y0.2.2))), (mh, .inl (E.2.1 0, 144, .inl fh)), (ml, .inl (E.2.1 1, 144, .inl fl))] (fun r => r = if on && (m_in i y0.1.2.2.2.2.1 && m_in j 8) then nI (y0.1.2.2.2.2.2.2.2.1 (y0.1.2.2.2.2.1 - 1 - i.toNatClampNeg) / kK ^ j.toNatClampNeg % kK) else nI 0) := by
  refine Kp.ofI (cc := prog_12_method_48_code) (maxL := 3) (by decide) (Nat.le_of_ble_eq_true rfl) ?_
  intro p e s m args below meth c A ls Q hx hb hts hown hml hK hG hA hP hD hS hl hret
  have hl : lv_has ls 3 [(0, .ref mo), (1, .int i), (2, .int j)] := hl
  have b2 := hY.1.1.2.2.2.2.2.1
  have hg := hY.1.2.2.2
  refine lv_aload_n hx hb d_M_part_0 rfl (lv_at hl 0 rfl) ?_
  refine va_get (D := E.1) (ci := 8) (v := .int (kb on)) (C := "WideStackModel") (T := T_M) (N := 15) hx hb hts in_M hown hK hP 0 rfl rfl 2 (by decide) (hts _ t_749) (fun _ h9 => h9) rfl d_M_part_1 ?_
  refine lv_if_eq (tgt := 29) hx hb d_M_part_4 (by decide) (fun h4 => ?_) (fun h4 => ?_)
  · refine lv_iconst (v := nI 0) hx hb d_M_part_29 (by decide) ?_
    first | exact hret _ ls _ d_M_part_30 (by rw [kb_0.mp h4]; rfl) | exact hret _ ls _ d_M_part_30 (by rw [m_in_f1 h8, Bool.false_and, Bool.and_false]; rfl) | exact hret _ ls _ d_M_part_30 (by rw [m_in_f2 h16, Bool.false_and, Bool.and_false]; rfl) | exact hret _ ls _ d_M_part_30 (by rw [m_in_f1 h20, Bool.and_false, Bool.and_false]; rfl) | exact hret _ ls _ d_M_part_30 (by rw [m_in_f2 (pt_8 h26), Bool.and_false, Bool.and_false]; rfl)
  · refine lv_iload_n hx hb d_M_part_7 rfl (lv_at hl 1 rfl) ?_
    refine lv_if_lt (tgt := 29) hx hb d_M_part_8 (by decide) (fun h8 => ?_) (fun h8 => ?_)
    · refine lv_iconst (v := nI 0) hx hb d_M_part_29 (by decide) ?_
      first | exact hret _ ls _ d_M_part_30 (by rw [kb_0.mp h4]; rfl) | exact hret _ ls _ d_M_part_30 (by rw [m_in_f1 h8, Bool.false_and, Bool.and_false]; rfl) | exact hret _ ls _ d_M_part_30 (by rw [m_in_f2 h16, Bool.false_and, Bool.and_false]; rfl) | exact hret _ ls _ d_M_part_30 (by rw [m_in_f1 h20, Bool.and_false, Bool.and_false]; rfl) | exact hret _ ls _ d_M_part_30 (by rw [m_in_f2 (pt_8 h26), Bool.and_false, Bool.and_false]; rfl)
    · refine lv_iload_n hx hb d_M_part_11 rfl (lv_at hl 1 rfl) ?_
      refine lv_aload_n hx hb d_M_part_12 rfl (lv_at hl 0 rfl) ?_
      refine va_get (D := E.1) (ci := 8) (v := .int (nI y0.1.2.2.2.2.1)) (C := "WideStackModel") (T := T_M) (N := 15) hx hb hts in_M hown hK hP 0 rfl rfl 7 (by decide) (hts _ t_754) (fun _ h9 => h9) rfl d_M_part_13 ?_
      refine lv_icmp_ge (tgt := 29) hx hb d_M_part_16 (by decide) (fun h16 => ?_) (fun h16 => ?_)
      · refine lv_iconst (v := nI 0) hx hb d_M_part_29 (by decide) ?_
        first | exact hret _ ls _ d_M_part_30 (by rw [kb_0.mp h4]; rfl) | exact hret _ ls _ d_M_part_30 (by rw [m_in_f1 h8, Bool.false_and, Bool.and_false]; rfl) | exact hret _ ls _ d_M_part_30 (by rw [m_in_f2 h16, Bool.false_and, Bool.and_false]; rfl) | exact hret _ ls _ d_M_part_30 (by rw [m_in_f1 h20, Bool.and_false, Bool.and_false]; rfl) | exact hret _ ls _ d_M_part_30 (by rw [m_in_f2 (pt_8 h26), Bool.and_false, Bool.and_false]; rfl)
      · refine lv_iload_n hx hb d_M_part_19 rfl (lv_at hl 2 rfl) ?_
        refine lv_if_lt (tgt := 29) hx hb d_M_part_20 (by decide) (fun h20 => ?_) (fun h20 => ?_)
        · refine lv_iconst (v := nI 0) hx hb d_M_part_29 (by decide) ?_
          first | exact hret _ ls _ d_M_part_30 (by rw [kb_0.mp h4]; rfl) | exact hret _ ls _ d_M_part_30 (by rw [m_in_f1 h8, Bool.false_and, Bool.and_false]; rfl) | exact hret _ ls _ d_M_part_30 (by rw [m_in_f2 h16, Bool.false_and, Bool.and_false]; rfl) | exact hret _ ls _ d_M_part_30 (by rw [m_in_f1 h20, Bool.and_false, Bool.and_false]; rfl) | exact hret _ ls _ d_M_part_30 (by rw [m_in_f2 (pt_8 h26), Bool.and_false, Bool.and_false]; rfl)
        · refine lv_iload_n hx hb d_M_part_23 rfl (lv_at hl 2 rfl) ?_
          refine lv_bipush (v := nI 7) hx hb d_M_part_24 (by decide) ?_
          refine lv_icmp_le (tgt := 31) hx hb d_M_part_26 (by decide) (fun h26 => ?_) (fun h26 => ?_)
          · have hin1 := m_in_t (n := y0.1.2.2.2.2.1) (by omega) h8 h16
            have hin2 := m_in_t (n := 8) (by decide) h20 (fun q => pt_7 h26 q)
            obtain ⟨x, hx1, rfl⟩ := m_in_of (by omega) hin1
            obtain ⟨y, hy1, rfl⟩ := m_in_of (by decide) hin2
            have c1 := hg (16 * (y0.1.2.2.2.2.1 - 1 - x) + 2 * y)
            have c2 := hg (16 * (y0.1.2.2.2.2.1 - 1 - x) + 2 * y + 1)
            refine lv_aload_n hx hb d_M_part_31 rfl (lv_at hl 0 rfl) ?_
            refine va_get (D := E.1) (ci := 8) (v := .ref mw) (C := "WideStackModel") (T := T_M) (N := 15) hx hb hts in_M hown hK hP 0 rfl rfl 11 (by decide) (hts _ t_758) (fun _ h9 => h9) rfl d_M_part_32 ?_
            refine lv_aload_n hx hb d_M_part_35 rfl (lv_at hl 0 rfl) ?_
            refine lv_iload_n hx hb d_M_part_36 rfl (lv_at hl 1 rfl) ?_
            refine k_Vp (As := [.int (nI x)]) (rest := [.ref mw]) ⟨hx, hb, hml, hown, hts⟩ (c_M_top l E mo mb mm mw mh ml len y0.1.1 y0.1.2.1 y0.1.2.2.1 y0.1.2.2.2.1 y0.1.2.2.2.2.1 y0.2.1 y0.1.2.2.2.2.2.2.1 on ay x (by omega)) (k_cwV 1 hts t_853 t_855 t_31 t_71 t_856 (by decide +kernel) ⟨Nat.le_of_ble_eq_true rfl, Nat.le_of_ble_eq_true rfl⟩) hK hG hA hP hD hS [0] rfl (by decide) 0 rfl rfl rfl hl.1 rfl (Nat.le_of_ble_eq_true rfl) d_M_part_37 ⟨Nat.zero_le _, Nat.zero_le _⟩ (fun r37 hu37 => ?_)
            subst hu37
            refine lv_iconst (v := nI 2) hx hb d_M_part_40 (by decide) ?_
            refine lv_iload_n hx hb d_M_part_41 rfl (lv_at hl 2 rfl) ?_
            refine lv_imul hx hb d_M_part_42 ?_
            refine k_top (pk_mul _ _) ?_
            refine lv_iadd hx hb d_M_part_43 ?_
            refine k_top (nI_add _ _) ?_
            refine k_ialdN hx hb hK hP 3 rfl (i := ((16 * (y0.1.2.2.2.2.1 - 1 - x)) + (2 * y))) (by omega) (by omega) d_M_part_44 ?_
            refine lv_aload_n hx hb d_M_part_45 rfl (lv_at hl 0 rfl) ?_
            refine va_get (D := E.1) (ci := 8) (v := .ref mw) (C := "WideStackModel") (T := T_M) (N := 15) hx hb hts in_M hown hK hP 0 rfl rfl 11 (by decide) (hts _ t_758) (fun _ h9 => h9) rfl d_M_part_46 ?_
            refine lv_aload_n hx hb d_M_part_49 rfl (lv_at hl 0 rfl) ?_
            refine lv_iload_n hx hb d_M_part_50 rfl (lv_at hl 1 rfl) ?_
            refine k_Vp (As := [.int (nI x)]) (rest := [.ref mw, .int (nI (y0.2.2 ((16 * (y0.1.2.2.2.2.1 - 1 - x)) + (2 * y))))]) ⟨hx, hb, hml, hown, hts⟩ (c_M_top l E mo mb mm mw mh ml len y0.1.1 y0.1.2.1 y0.1.2.2.1 y0.1.2.2.2.1 y0.1.2.2.2.2.1 y0.2.1 y0.1.2.2.2.2.2.2.1 on ay x (by omega)) (k_cwV 1 hts t_853 t_855 t_31 t_71 t_856 (by decide +kernel) ⟨Nat.le_of_ble_eq_true rfl, Nat.le_of_ble_eq_true rfl⟩) hK hG hA hP hD hS [0] rfl (by decide) 0 rfl rfl rfl hl.1 rfl (Nat.le_of_ble_eq_true rfl) d_M_part_51 ⟨Nat.zero_le _, Nat.zero_le _⟩ (fun r51 hu51 => ?_)
            subst hu51
            refine lv_iconst (v := nI 2) hx hb d_M_part_54 (by decide) ?_
            refine lv_iload_n hx hb d_M_part_55 rfl (lv_at hl 2 rfl) ?_
            refine lv_imul hx hb d_M_part_56 ?_
            refine k_top (pk_mul _ _) ?_
            refine lv_iadd hx hb d_M_part_57 ?_
            refine k_top (nI_add _ _) ?_
            refine lv_iconst (v := nI 1) hx hb d_M_part_58 (by decide) ?_
            refine lv_iadd hx hb d_M_part_59 ?_
            refine k_top (nI_add _ _) ?_
            refine k_ialdN hx hb hK hP 3 rfl (i := (((16 * (y0.1.2.2.2.2.1 - 1 - x)) + (2 * y)) + 1)) (by omega) (by omega) d_M_part_60 ?_
            refine lv_bipush (v := nI 16) hx hb d_M_part_61 (by decide) ?_
            refine lv_ishl hx hb d_M_part_63 ?_
            refine k_top (k_shlN (by decide) (by omega)) ?_
            refine lv_ior hx hb d_M_part_64 ?_
            refine k_top (r_or (by omega) (by omega)) ?_
            exact hret _ ls _ d_M_part_65 (by rw [kb_n0 h4, hin1, hin2, nI_clamp (by omega), nI_clamp (by omega), part_g hg (hY.1.2.2.1 _ (by omega)) hy1]; rfl)
          · refine lv_iconst (v := nI 0) hx hb d_M_part_29 (by decide) ?_
            first | exact hret _ ls _ d_M_part_30 (by rw [kb_0.mp h4]; rfl) | exact hret _ ls _ d_M_part_30 (by rw [m_in_f1 h8, Bool.false_and, Bool.and_false]; rfl) | exact hret _ ls _ d_M_part_30 (by rw [m_in_f2 h16, Bool.false_and, Bool.and_false]; rfl) | exact hret _ ls _ d_M_part_30 (by rw [m_in_f1 h20, Bool.and_false, Bool.and_false]; rfl) | exact hret _ ls _ d_M_part_30 (by rw [m_in_f2 (pt_8 h26), Bool.and_false, Bool.and_false]; rfl)

theorem m_in_0 {i : Int32} : m_in i 0 = false := by
  rcases Bool.eq_false_or_eq_true (m_in i 0) with z | z
  · obtain ⟨j, hj, _⟩ := m_in_of (by decide) z; omega
  · exact z

abbrev y_M_memory : MethodName := ⟨"WideStackModel", "memory", "(IZ)I"⟩
theorem d_M_memory_0 : decode prog_12_method_49_code 0 = .ok (.aload_n 0, 1) := by decide +kernel
theorem d_M_memory_1 : decode prog_12_method_49_code 1 = .ok (.getfield 30, 3) := by decide +kernel
theorem d_M_memory_4 : decode prog_12_method_49_code 4 = .ok (.ifCond .eq 7, 3) := by decide +kernel
theorem d_M_memory_7 : decode prog_12_method_49_code 7 = .ok (.iload_n 1, 1) := by decide +kernel
theorem d_M_memory_8 : decode prog_12_method_49_code 8 = .ok (.ifCond .ge 5, 3) := by decide +kernel
theorem d_M_memory_11 : decode prog_12_method_49_code 11 = .ok (.iconst (-1), 1) := by decide +kernel
theorem d_M_memory_12 : decode prog_12_method_49_code 12 = .ok (.ireturn, 1) := by decide +kernel
theorem d_M_memory_13 : decode prog_12_method_49_code 13 = .ok (.iload_n 2, 1) := by decide +kernel
theorem d_M_memory_14 : decode prog_12_method_49_code 14 = .ok (.ifCond .eq 35, 3) := by decide +kernel
theorem d_M_memory_17 : decode prog_12_method_49_code 17 = .ok (.aload_n 0, 1) := by decide +kernel
theorem d_M_memory_18 : decode prog_12_method_49_code 18 = .ok (.getfield 94, 3) := by decide +kernel
theorem d_M_memory_21 : decode prog_12_method_49_code 21 = .ok (.iconst 2, 1) := by decide +kernel
theorem d_M_memory_22 : decode prog_12_method_49_code 22 = .ok (.if_icmp .ne 25, 3) := by decide +kernel
theorem d_M_memory_25 : decode prog_12_method_49_code 25 = .ok (.iload_n 1, 1) := by decide +kernel
theorem d_M_memory_26 : decode prog_12_method_49_code 26 = .ok (.aload_n 0, 1) := by decide +kernel
theorem d_M_memory_27 : decode prog_12_method_49_code 27 = .ok (.getfield 106, 3) := by decide +kernel
theorem d_M_memory_30 : decode prog_12_method_49_code 30 = .ok (.if_icmp .ge 17, 3) := by decide +kernel
theorem d_M_memory_33 : decode prog_12_method_49_code 33 = .ok (.aload_n 0, 1) := by decide +kernel
theorem d_M_memory_34 : decode prog_12_method_49_code 34 = .ok (.getfield 13, 3) := by decide +kernel
theorem d_M_memory_37 : decode prog_12_method_49_code 37 = .ok (.aload_n 0, 1) := by decide +kernel
theorem d_M_memory_38 : decode prog_12_method_49_code 38 = .ok (.getfield 136, 3) := by decide +kernel
theorem d_M_memory_41 : decode prog_12_method_49_code 41 = .ok (.iload_n 1, 1) := by decide +kernel
theorem d_M_memory_42 : decode prog_12_method_49_code 42 = .ok (.iadd, 1) := by decide +kernel
theorem d_M_memory_43 : decode prog_12_method_49_code 43 = .ok (.iaload, 1) := by decide +kernel
theorem d_M_memory_44 : decode prog_12_method_49_code 44 = .ok (.goto 4, 3) := by decide +kernel
theorem d_M_memory_47 : decode prog_12_method_49_code 47 = .ok (.iconst (-1), 1) := by decide +kernel
theorem d_M_memory_48 : decode prog_12_method_49_code 48 = .ok (.ireturn, 1) := by decide +kernel
theorem d_M_memory_49 : decode prog_12_method_49_code 49 = .ok (.iload_n 1, 1) := by decide +kernel
theorem d_M_memory_50 : decode prog_12_method_49_code 50 = .ok (.sipush 160, 3) := by decide +kernel
theorem d_M_memory_53 : decode prog_12_method_49_code 53 = .ok (.if_icmp .ge 12, 3) := by decide +kernel
theorem d_M_memory_56 : decode prog_12_method_49_code 56 = .ok (.aload_n 0, 1) := by decide +kernel
theorem d_M_memory_57 : decode prog_12_method_49_code 57 = .ok (.getfield 13, 3) := by decide +kernel
theorem d_M_memory_60 : decode prog_12_method_49_code 60 = .ok (.iload_n 1, 1) := by decide +kernel
theorem d_M_memory_61 : decode prog_12_method_49_code 61 = .ok (.iaload, 1) := by decide +kernel
theorem d_M_memory_62 : decode prog_12_method_49_code 62 = .ok (.goto 4, 3) := by decide +kernel
theorem d_M_memory_65 : decode prog_12_method_49_code 65 = .ok (.iconst (-1), 1) := by decide +kernel
theorem d_M_memory_66 : decode prog_12_method_49_code 66 = .ok (.ireturn, 1) := by decide +kernel
def rm_c_MX_memory : Room := { frames := 0, cells := 0, slots := 0, locals := 0 }
set_option maxHeartbeats 4000000 in
set_option maxRecDepth 100000 in
theorem c_MX_memory (l : Launch) (E : kE) (mo mb mm mw mh ml : Nat) (on ay : Bool) (y0 : rS) (len : Nat) (nb bb : Nat → Nat) (okb : okB len bb nb) (fh fl : Nat → Int32) (i : Int32) (jb : Bool) (hY : okY y0) : Kp l y_M_memory (kW y_M_memory prog_12_method_49_code 3 (some .int)) rm_c_MX_memory E [.ref mo, .int i, .int (kb jb)] [(mo, .inr (8, [.int (nI len), .ref mb, .int (kb on), .int (nI y0.1.1), .int (nI y0.1.2.1), .int (nI y0.1.2.2.1), .int (nI y0.1.2.2.2.1), .int (nI y0.1.2.2.2.2.1), .int (nI y0.2.1), .int (nI y0.1.2.2.2.2.2.2.1), .ref mm, .ref mw, .ref mh, .ref ml, .int (kb ay)])), (mb, .inl (E.2.1 0, 96, .inl (nF nb))), (mm, .inl (E.2.1 0, 160, .inl (nF y0.1.2.2.2.2.2.2.2.2))), (mw, .inl (E.2.1 0, 370, .inl (nF y0.2.2))), (mh, .inl (E.2.1 0, 144, .inl fh)), (ml, .inl (E.2.1 1, 144, .inl fl))] (fun r => r = if on then (if jb then (if m_in i y0.1.2.2.2.2.2.2.1 then nI (y0.1.2.2.2.2.2.2.2.2 (y0.1.2.2.2.2.2.1 + i.toNatClampNeg)) else -1) else (if m_in i 160 then nI (y0.1.2.2.2.2.2.2.2.2 i.toNatClampNeg) else -1)) else -1) := by
  refine Kp.ofI (cc := prog_12_method_49_code) (maxL := 3) (by decide) (Nat.le_of_ble_eq_true rfl) ?_
  intro p e s m args below meth c A ls Q hx hb hts hown hml hK hG hA hP hD hS hl hret
  have hl : lv_has ls 3 [(0, .ref mo), (1, .int i), (2, .int (kb jb))] := hl
  have b1 := hY.1.1.1
  have b7 := hY.1.1.2.2.2.2.2.2.1
  have b9 := hY.1.1.2.2.2.2.2.2.2.2
  refine lv_aload_n hx hb d_M_memory_0 rfl (lv_at hl 0 rfl) ?_
  refine va_get (D := E.1) (ci := 8) (v := .int (kb on)) (C := "WideStackModel") (T := T_M) (N := 15) hx hb hts in_M hown hK hP 0 rfl rfl 2 (by decide) (hts _ t_749) (fun _ h9 => h9) rfl d_M_memory_1 ?_
  refine lv_if_eq (tgt := 11) hx hb d_M_memory_4 (by decide) (fun h4 => ?_) (fun h4 => ?_)
  · refine lv_iconst (v := -1) hx hb d_M_memory_11 (by decide) ?_
    first | exact hret _ ls _ d_M_memory_12 (by rw [kb_0.mp h4]; rfl) | exact hret _ ls _ d_M_memory_12 (by rw [m_in_f1 (Int32.not_le.mp h8), m_in_f1 (Int32.not_le.mp h8)]; cases on <;> cases jb <;> rfl)
  · refine lv_iload_n hx hb d_M_memory_7 rfl (lv_at hl 1 rfl) ?_
    refine lv_if_ge (tgt := 13) hx hb d_M_memory_8 (by decide) (fun h8 => ?_) (fun h8 => ?_)
    · refine lv_iload_n hx hb d_M_memory_13 rfl (lv_at hl 2 rfl) ?_
      refine lv_if_eq (tgt := 49) hx hb d_M_memory_14 (by decide) (fun h14 => ?_) (fun h14 => ?_)
      · refine lv_iload_n hx hb d_M_memory_49 rfl (lv_at hl 1 rfl) ?_
        refine lv_sipush (v := nI 160) hx hb d_M_memory_50 (by decide) ?_
        refine lv_icmp_ge (tgt := 65) hx hb d_M_memory_53 (by decide) (fun h53 => ?_) (fun h53 => ?_)
        · refine lv_iconst (v := -1) hx hb d_M_memory_65 (by decide) ?_
          first | exact hret _ ls _ d_M_memory_66 (by rw [kb_n0 h4, kb_0.mp h14, if_pos rfl, if_neg (by decide), if_pos hin, nI_clamp (by omega)]) | exact hret _ ls _ d_M_memory_66 (by rw [kb_n0 h4, kb_0.mp h14, if_pos rfl, if_neg (by decide), m_in_f2 h53]; rfl)
        · have hin := m_in_t (n := 160) (by decide) (Int32.not_lt.mpr h8) h53
          obtain ⟨x, hx1, rfl⟩ := m_in_of (by decide) hin
          refine lv_aload_n hx hb d_M_memory_56 rfl (lv_at hl 0 rfl) ?_
          refine va_get (D := E.1) (ci := 8) (v := .ref mm) (C := "WideStackModel") (T := T_M) (N := 15) hx hb hts in_M hown hK hP 0 rfl rfl 10 (by decide) (hts _ t_757) (fun _ h9 => h9) rfl d_M_memory_57 ?_
          refine lv_iload_n hx hb d_M_memory_60 rfl (lv_at hl 1 rfl) ?_
          refine k_ialdN hx hb hK hP 2 rfl (i := x) (by omega) (by omega) d_M_memory_61 ?_
          refine lv_goto (tgt := 66) hx hb d_M_memory_62 (by decide) ?_
          first | exact hret _ ls _ d_M_memory_66 (by rw [kb_n0 h4, kb_0.mp h14, if_pos rfl, if_neg (by decide), if_pos hin, nI_clamp (by omega)]) | exact hret _ ls _ d_M_memory_66 (by rw [kb_n0 h4, kb_0.mp h14, if_pos rfl, if_neg (by decide), m_in_f2 h53]; rfl)
      · refine lv_aload_n hx hb d_M_memory_17 rfl (lv_at hl 0 rfl) ?_
        refine va_get (D := E.1) (ci := 8) (v := .int (nI y0.1.1)) (C := "WideStackModel") (T := T_M) (N := 15) hx hb hts in_M hown hK hP 0 rfl rfl 3 (by decide) (hts _ t_750) (fun _ h9 => h9) rfl d_M_memory_18 ?_
        refine lv_iconst (v := nI 2) hx hb d_M_memory_21 (by decide) ?_
        refine kn_ne (tgt := 47) hx hb (by omega) (by omega) d_M_memory_22 (by decide) (fun h22 => ?_) (fun h22 => ?_)
        · refine lv_iconst (v := -1) hx hb d_M_memory_47 (by decide) ?_
          first | exact hret _ ls _ d_M_memory_48 (by rw [kb_n0 h4, kb_n0 h14, if_pos rfl, if_pos rfl, if_pos hin, nI_clamp (by omega), e8]) | exact hret _ ls _ d_M_memory_48 (by rw [kb_n0 h4, kb_n0 h14, if_pos rfl, if_pos rfl, b9 h22, m_in_0]; rfl) | exact hret _ ls _ d_M_memory_48 (by rw [kb_n0 h4, kb_n0 h14, if_pos rfl, if_pos rfl, m_in_f2 h30]; rfl)
        · refine lv_iload_n hx hb d_M_memory_25 rfl (lv_at hl 1 rfl) ?_
          refine lv_aload_n hx hb d_M_memory_26 rfl (lv_at hl 0 rfl) ?_
          refine va_get (D := E.1) (ci := 8) (v := .int (nI y0.1.2.2.2.2.2.2.1)) (C := "WideStackModel") (T := T_M) (N := 15) hx hb hts in_M hown hK hP 0 rfl rfl 9 (by decide) (hts _ t_756) (fun _ h9 => h9) rfl d_M_memory_27 ?_
          refine lv_icmp_ge (tgt := 47) hx hb d_M_memory_30 (by decide) (fun h30 => ?_) (fun h30 => ?_)
          · refine lv_iconst (v := -1) hx hb d_M_memory_47 (by decide) ?_
            first | exact hret _ ls _ d_M_memory_48 (by rw [kb_n0 h4, kb_n0 h14, if_pos rfl, if_pos rfl, if_pos hin, nI_clamp (by omega), e8]) | exact hret _ ls _ d_M_memory_48 (by rw [kb_n0 h4, kb_n0 h14, if_pos rfl, if_pos rfl, b9 h22, m_in_0]; rfl) | exact hret _ ls _ d_M_memory_48 (by rw [kb_n0 h4, kb_n0 h14, if_pos rfl, if_pos rfl, m_in_f2 h30]; rfl)
          · have hrl : y0.1.2.2.2.2.2.2.1 ≤ 161 := by rcases Nat.eq_zero_or_pos (y0.1.2.2.2.2.2.2.1) with q | q; omega; have := b7 q; omega
            have hin := m_in_t (n := y0.1.2.2.2.2.2.2.1) (by omega) (Int32.not_lt.mpr h8) h30
            obtain ⟨x, hx1, rfl⟩ := m_in_of (by omega) hin
            have e7 := b7 (by omega)
            have e8 := hY.1.2.1 (by omega)
            refine lv_aload_n hx hb d_M_memory_33 rfl (lv_at hl 0 rfl) ?_
            refine va_get (D := E.1) (ci := 8) (v := .ref mm) (C := "WideStackModel") (T := T_M) (N := 15) hx hb hts in_M hown hK hP 0 rfl rfl 10 (by decide) (hts _ t_757) (fun _ h9 => h9) rfl d_M_memory_34 ?_
            refine lv_aload_n hx hb d_M_memory_37 rfl (lv_at hl 0 rfl) ?_
            refine va_get (D := E.1) (ci := 8) (v := .int (nI y0.2.1)) (C := "WideStackModel") (T := T_M) (N := 15) hx hb hts in_M hown hK hP 0 rfl rfl 8 (by decide) (hts _ t_755) (fun _ h9 => h9) rfl d_M_memory_38 ?_
            refine lv_iload_n hx hb d_M_memory_41 rfl (lv_at hl 1 rfl) ?_
            refine lv_iadd hx hb d_M_memory_42 ?_
            refine k_top (nI_add _ _) ?_
            refine k_ialdN hx hb hK hP 2 rfl (i := (y0.2.1 + x)) (by omega) (by omega) d_M_memory_43 ?_
            refine lv_goto (tgt := 48) hx hb d_M_memory_44 (by decide) ?_
            first | exact hret _ ls _ d_M_memory_48 (by rw [kb_n0 h4, kb_n0 h14, if_pos rfl, if_pos rfl, if_pos hin, nI_clamp (by omega), e8]) | exact hret _ ls _ d_M_memory_48 (by rw [kb_n0 h4, kb_n0 h14, if_pos rfl, if_pos rfl, b9 h22, m_in_0]; rfl) | exact hret _ ls _ d_M_memory_48 (by rw [kb_n0 h4, kb_n0 h14, if_pos rfl, if_pos rfl, m_in_f2 h30]; rfl)
    · refine lv_iconst (v := -1) hx hb d_M_memory_11 (by decide) ?_
      first | exact hret _ ls _ d_M_memory_12 (by rw [kb_0.mp h4]; rfl) | exact hret _ ls _ d_M_memory_12 (by rw [m_in_f1 (Int32.not_le.mp h8), m_in_f1 (Int32.not_le.mp h8)]; cases on <;> cases jb <;> rfl)

abbrev y_M_state : MethodName := ⟨"WideStackModel", "state", "(I)I"⟩
theorem d_M_state_0 : decode prog_12_method_50_code 0 = .ok (.aload_n 0, 1) := by decide +kernel
theorem d_M_state_1 : decode prog_12_method_50_code 1 = .ok (.getfield 30, 3) := by decide +kernel
theorem d_M_state_4 : decode prog_12_method_50_code 4 = .ok (.ifCond .ne 5, 3) := by decide +kernel
theorem d_M_state_7 : decode prog_12_method_50_code 7 = .ok (.iconst (-1), 1) := by decide +kernel
theorem d_M_state_8 : decode prog_12_method_50_code 8 = .ok (.ireturn, 1) := by decide +kernel
theorem d_M_state_9 : decode prog_12_method_50_code 9 = .ok (.iload_n 1, 1) := by decide +kernel
theorem d_M_state_10 : decode prog_12_method_50_code 10 = .ok (.ifCond .ne 10, 3) := by decide +kernel
theorem d_M_state_13 : decode prog_12_method_50_code 13 = .ok (.aload_n 0, 1) := by decide +kernel
theorem d_M_state_14 : decode prog_12_method_50_code 14 = .ok (.getfield 97, 3) := by decide +kernel
theorem d_M_state_17 : decode prog_12_method_50_code 17 = .ok (.goto 52, 3) := by decide +kernel
theorem d_M_state_20 : decode prog_12_method_50_code 20 = .ok (.iload_n 1, 1) := by decide +kernel
theorem d_M_state_21 : decode prog_12_method_50_code 21 = .ok (.iconst 1, 1) := by decide +kernel
theorem d_M_state_22 : decode prog_12_method_50_code 22 = .ok (.if_icmp .ne 10, 3) := by decide +kernel
theorem d_M_state_25 : decode prog_12_method_50_code 25 = .ok (.aload_n 0, 1) := by decide +kernel
theorem d_M_state_26 : decode prog_12_method_50_code 26 = .ok (.getfield 100, 3) := by decide +kernel
theorem d_M_state_29 : decode prog_12_method_50_code 29 = .ok (.goto 40, 3) := by decide +kernel
theorem d_M_state_32 : decode prog_12_method_50_code 32 = .ok (.iload_n 1, 1) := by decide +kernel
theorem d_M_state_33 : decode prog_12_method_50_code 33 = .ok (.iconst 2, 1) := by decide +kernel
theorem d_M_state_34 : decode prog_12_method_50_code 34 = .ok (.if_icmp .ne 10, 3) := by decide +kernel
theorem d_M_state_37 : decode prog_12_method_50_code 37 = .ok (.aload_n 0, 1) := by decide +kernel
theorem d_M_state_38 : decode prog_12_method_50_code 38 = .ok (.getfield 103, 3) := by decide +kernel
theorem d_M_state_41 : decode prog_12_method_50_code 41 = .ok (.goto 28, 3) := by decide +kernel
theorem d_M_state_44 : decode prog_12_method_50_code 44 = .ok (.iload_n 1, 1) := by decide +kernel
theorem d_M_state_45 : decode prog_12_method_50_code 45 = .ok (.iconst 3, 1) := by decide +kernel
theorem d_M_state_46 : decode prog_12_method_50_code 46 = .ok (.if_icmp .ne 22, 3) := by decide +kernel
theorem d_M_state_49 : decode prog_12_method_50_code 49 = .ok (.aload_n 0, 1) := by decide +kernel
theorem d_M_state_50 : decode prog_12_method_50_code 50 = .ok (.getfield 94, 3) := by decide +kernel
theorem d_M_state_53 : decode prog_12_method_50_code 53 = .ok (.iconst 2, 1) := by decide +kernel
theorem d_M_state_54 : decode prog_12_method_50_code 54 = .ok (.if_icmp .ne 10, 3) := by decide +kernel
theorem d_M_state_57 : decode prog_12_method_50_code 57 = .ok (.aload_n 0, 1) := by decide +kernel
theorem d_M_state_58 : decode prog_12_method_50_code 58 = .ok (.getfield 106, 3) := by decide +kernel
theorem d_M_state_61 : decode prog_12_method_50_code 61 = .ok (.goto 8, 3) := by decide +kernel
theorem d_M_state_64 : decode prog_12_method_50_code 64 = .ok (.iconst 0, 1) := by decide +kernel
theorem d_M_state_65 : decode prog_12_method_50_code 65 = .ok (.goto 4, 3) := by decide +kernel
theorem d_M_state_68 : decode prog_12_method_50_code 68 = .ok (.iconst (-1), 1) := by decide +kernel
theorem d_M_state_69 : decode prog_12_method_50_code 69 = .ok (.ireturn, 1) := by decide +kernel
def rm_c_MX_state : Room := { frames := 0, cells := 0, slots := 0, locals := 0 }
set_option maxHeartbeats 4000000 in
set_option maxRecDepth 100000 in
theorem c_MX_state (l : Launch) (E : kE) (mo mb mm mw mh ml : Nat) (on ay : Bool) (y0 : rS) (len : Nat) (nb bb : Nat → Nat) (okb : okB len bb nb) (fh fl : Nat → Int32) (i : Int32) (hY : okY y0) : Kp l y_M_state (kW y_M_state prog_12_method_50_code 2 (some .int)) rm_c_MX_state E [.ref mo, .int i] [(mo, .inr (8, [.int (nI len), .ref mb, .int (kb on), .int (nI y0.1.1), .int (nI y0.1.2.1), .int (nI y0.1.2.2.1), .int (nI y0.1.2.2.2.1), .int (nI y0.1.2.2.2.2.1), .int (nI y0.2.1), .int (nI y0.1.2.2.2.2.2.2.1), .ref mm, .ref mw, .ref mh, .ref ml, .int (kb ay)])), (mb, .inl (E.2.1 0, 96, .inl (nF nb))), (mm, .inl (E.2.1 0, 160, .inl (nF y0.1.2.2.2.2.2.2.2.2))), (mw, .inl (E.2.1 0, 370, .inl (nF y0.2.2))), (mh, .inl (E.2.1 0, 144, .inl fh)), (ml, .inl (E.2.1 1, 144, .inl fl))] (fun r => r = if on then (if i = 0 then nI y0.1.2.1 else if i = 1 then nI y0.1.2.2.1 else if i = 2 then nI y0.1.2.2.2.1 else if i = 3 then nI y0.1.2.2.2.2.2.2.1 else -1) else -1) := by
  refine Kp.ofI (cc := prog_12_method_50_code) (maxL := 2) (by decide) (Nat.le_of_ble_eq_true rfl) ?_
  intro p e s m args below meth c A ls Q hx hb hts hown hml hK hG hA hP hD hS hl hret
  have hl : lv_has ls 2 [(0, .ref mo), (1, .int i)] := hl
  have b1 := hY.1.1.1
  have b9 := hY.1.1.2.2.2.2.2.2.2.2
  refine lv_aload_n hx hb d_M_state_0 rfl (lv_at hl 0 rfl) ?_
  refine va_get (D := E.1) (ci := 8) (v := .int (kb on)) (C := "WideStackModel") (T := T_M) (N := 15) hx hb hts in_M hown hK hP 0 rfl rfl 2 (by decide) (hts _ t_749) (fun _ h9 => h9) rfl d_M_state_1 ?_
  refine lv_if_ne (tgt := 9) hx hb d_M_state_4 (by decide) (fun h4 => ?_) (fun h4 => ?_)
  · refine lv_iload_n hx hb d_M_state_9 rfl (lv_at hl 1 rfl) ?_
    refine lv_if_ne (tgt := 20) hx hb d_M_state_10 (by decide) (fun h10 => ?_) (fun h10 => ?_)
    · refine lv_iload_n hx hb d_M_state_20 rfl (lv_at hl 1 rfl) ?_
      refine lv_iconst (v := nI 1) hx hb d_M_state_21 (by decide) ?_
      refine lv_icmp_ne (tgt := 32) hx hb d_M_state_22 (by decide) (fun h22 => ?_) (fun h22 => ?_)
      · refine lv_iload_n hx hb d_M_state_32 rfl (lv_at hl 1 rfl) ?_
        refine lv_iconst (v := nI 2) hx hb d_M_state_33 (by decide) ?_
        refine lv_icmp_ne (tgt := 44) hx hb d_M_state_34 (by decide) (fun h34 => ?_) (fun h34 => ?_)
        · refine lv_iload_n hx hb d_M_state_44 rfl (lv_at hl 1 rfl) ?_
          refine lv_iconst (v := nI 3) hx hb d_M_state_45 (by decide) ?_
          refine lv_icmp_ne (tgt := 68) hx hb d_M_state_46 (by decide) (fun h46 => ?_) (fun h46 => ?_)
          · refine lv_iconst (v := -1) hx hb d_M_state_68 (by decide) ?_
            first | exact hret _ ls _ d_M_state_69 (by rw [kb_n0 h4, if_pos rfl, if_pos h10]) | exact hret _ ls _ d_M_state_69 (by rw [kb_n0 h4, if_pos rfl, if_neg h10, if_pos (show i = 1 from h22)]) | exact hret _ ls _ d_M_state_69 (by rw [kb_n0 h4, if_pos rfl, if_neg h10, if_neg (show ¬ i = 1 from h22), if_pos (show i = 2 from h34)]) | exact hret _ ls _ d_M_state_69 (by rw [kb_n0 h4, if_pos rfl, if_neg h10, if_neg (show ¬ i = 1 from h22), if_neg (show ¬ i = 2 from h34), if_neg (show ¬ i = 3 from h46)]) | exact hret _ ls _ d_M_state_69 (by rw [kb_n0 h4, if_pos rfl, if_neg h10, if_neg (show ¬ i = 1 from h22), if_neg (show ¬ i = 2 from h34), if_pos (show i = 3 from h46), b9 h54]) | exact hret _ ls _ d_M_state_69 (by rw [kb_n0 h4, if_pos rfl, if_neg h10, if_neg (show ¬ i = 1 from h22), if_neg (show ¬ i = 2 from h34), if_pos (show i = 3 from h46)])
          · refine lv_aload_n hx hb d_M_state_49 rfl (lv_at hl 0 rfl) ?_
            refine va_get (D := E.1) (ci := 8) (v := .int (nI y0.1.1)) (C := "WideStackModel") (T := T_M) (N := 15) hx hb hts in_M hown hK hP 0 rfl rfl 3 (by decide) (hts _ t_750) (fun _ h9 => h9) rfl d_M_state_50 ?_
            refine lv_iconst (v := nI 2) hx hb d_M_state_53 (by decide) ?_
            refine kn_ne (tgt := 64) hx hb (by omega) (by omega) d_M_state_54 (by decide) (fun h54 => ?_) (fun h54 => ?_)
            · refine lv_iconst (v := nI 0) hx hb d_M_state_64 (by decide) ?_
              refine lv_goto (tgt := 69) hx hb d_M_state_65 (by decide) ?_
              first | exact hret _ ls _ d_M_state_69 (by rw [kb_n0 h4, if_pos rfl, if_pos h10]) | exact hret _ ls _ d_M_state_69 (by rw [kb_n0 h4, if_pos rfl, if_neg h10, if_pos (show i = 1 from h22)]) | exact hret _ ls _ d_M_state_69 (by rw [kb_n0 h4, if_pos rfl, if_neg h10, if_neg (show ¬ i = 1 from h22), if_pos (show i = 2 from h34)]) | exact hret _ ls _ d_M_state_69 (by rw [kb_n0 h4, if_pos rfl, if_neg h10, if_neg (show ¬ i = 1 from h22), if_neg (show ¬ i = 2 from h34), if_neg (show ¬ i = 3 from h46)]) | exact hret _ ls _ d_M_state_69 (by rw [kb_n0 h4, if_pos rfl, if_neg h10, if_neg (show ¬ i = 1 from h22), if_neg (show ¬ i = 2 from h34), if_pos (show i = 3 from h46), b9 h54]) | exact hret _ ls _ d_M_state_69 (by rw [kb_n0 h4, if_pos rfl, if_neg h10, if_neg (show ¬ i = 1 from h22), if_neg (show ¬ i = 2 from h34), if_pos (show i = 3 from h46)])
            · refine lv_aload_n hx hb d_M_state_57 rfl (lv_at hl 0 rfl) ?_
              refine va_get (D := E.1) (ci := 8) (v := .int (nI y0.1.2.2.2.2.2.2.1)) (C := "WideStackModel") (T := T_M) (N := 15) hx hb hts in_M hown hK hP 0 rfl rfl 9 (by decide) (hts _ t_756) (fun _ h9 => h9) rfl d_M_state_58 ?_
              refine lv_goto (tgt := 69) hx hb d_M_state_61 (by decide) ?_
              first | exact hret _ ls _ d_M_state_69 (by rw [kb_n0 h4, if_pos rfl, if_pos h10]) | exact hret _ ls _ d_M_state_69 (by rw [kb_n0 h4, if_pos rfl, if_neg h10, if_pos (show i = 1 from h22)]) | exact hret _ ls _ d_M_state_69 (by rw [kb_n0 h4, if_pos rfl, if_neg h10, if_neg (show ¬ i = 1 from h22), if_pos (show i = 2 from h34)]) | exact hret _ ls _ d_M_state_69 (by rw [kb_n0 h4, if_pos rfl, if_neg h10, if_neg (show ¬ i = 1 from h22), if_neg (show ¬ i = 2 from h34), if_neg (show ¬ i = 3 from h46)]) | exact hret _ ls _ d_M_state_69 (by rw [kb_n0 h4, if_pos rfl, if_neg h10, if_neg (show ¬ i = 1 from h22), if_neg (show ¬ i = 2 from h34), if_pos (show i = 3 from h46), b9 h54]) | exact hret _ ls _ d_M_state_69 (by rw [kb_n0 h4, if_pos rfl, if_neg h10, if_neg (show ¬ i = 1 from h22), if_neg (show ¬ i = 2 from h34), if_pos (show i = 3 from h46)])
        · refine lv_aload_n hx hb d_M_state_37 rfl (lv_at hl 0 rfl) ?_
          refine va_get (D := E.1) (ci := 8) (v := .int (nI y0.1.2.2.2.1)) (C := "WideStackModel") (T := T_M) (N := 15) hx hb hts in_M hown hK hP 0 rfl rfl 6 (by decide) (hts _ t_753) (fun _ h9 => h9) rfl d_M_state_38 ?_
          refine lv_goto (tgt := 69) hx hb d_M_state_41 (by decide) ?_
          first | exact hret _ ls _ d_M_state_69 (by rw [kb_n0 h4, if_pos rfl, if_pos h10]) | exact hret _ ls _ d_M_state_69 (by rw [kb_n0 h4, if_pos rfl, if_neg h10, if_pos (show i = 1 from h22)]) | exact hret _ ls _ d_M_state_69 (by rw [kb_n0 h4, if_pos rfl, if_neg h10, if_neg (show ¬ i = 1 from h22), if_pos (show i = 2 from h34)]) | exact hret _ ls _ d_M_state_69 (by rw [kb_n0 h4, if_pos rfl, if_neg h10, if_neg (show ¬ i = 1 from h22), if_neg (show ¬ i = 2 from h34), if_neg (show ¬ i = 3 from h46)]) | exact hret _ ls _ d_M_state_69 (by rw [kb_n0 h4, if_pos rfl, if_neg h10, if_neg (show ¬ i = 1 from h22), if_neg (show ¬ i = 2 from h34), if_pos (show i = 3 from h46), b9 h54]) | exact hret _ ls _ d_M_state_69 (by rw [kb_n0 h4, if_pos rfl, if_neg h10, if_neg (show ¬ i = 1 from h22), if_neg (show ¬ i = 2 from h34), if_pos (show i = 3 from h46)])
      · refine lv_aload_n hx hb d_M_state_25 rfl (lv_at hl 0 rfl) ?_
        refine va_get (D := E.1) (ci := 8) (v := .int (nI y0.1.2.2.1)) (C := "WideStackModel") (T := T_M) (N := 15) hx hb hts in_M hown hK hP 0 rfl rfl 5 (by decide) (hts _ t_752) (fun _ h9 => h9) rfl d_M_state_26 ?_
        refine lv_goto (tgt := 69) hx hb d_M_state_29 (by decide) ?_
        first | exact hret _ ls _ d_M_state_69 (by rw [kb_n0 h4, if_pos rfl, if_pos h10]) | exact hret _ ls _ d_M_state_69 (by rw [kb_n0 h4, if_pos rfl, if_neg h10, if_pos (show i = 1 from h22)]) | exact hret _ ls _ d_M_state_69 (by rw [kb_n0 h4, if_pos rfl, if_neg h10, if_neg (show ¬ i = 1 from h22), if_pos (show i = 2 from h34)]) | exact hret _ ls _ d_M_state_69 (by rw [kb_n0 h4, if_pos rfl, if_neg h10, if_neg (show ¬ i = 1 from h22), if_neg (show ¬ i = 2 from h34), if_neg (show ¬ i = 3 from h46)]) | exact hret _ ls _ d_M_state_69 (by rw [kb_n0 h4, if_pos rfl, if_neg h10, if_neg (show ¬ i = 1 from h22), if_neg (show ¬ i = 2 from h34), if_pos (show i = 3 from h46), b9 h54]) | exact hret _ ls _ d_M_state_69 (by rw [kb_n0 h4, if_pos rfl, if_neg h10, if_neg (show ¬ i = 1 from h22), if_neg (show ¬ i = 2 from h34), if_pos (show i = 3 from h46)])
    · refine lv_aload_n hx hb d_M_state_13 rfl (lv_at hl 0 rfl) ?_
      refine va_get (D := E.1) (ci := 8) (v := .int (nI y0.1.2.1)) (C := "WideStackModel") (T := T_M) (N := 15) hx hb hts in_M hown hK hP 0 rfl rfl 4 (by decide) (hts _ t_751) (fun _ h9 => h9) rfl d_M_state_14 ?_
      refine lv_goto (tgt := 69) hx hb d_M_state_17 (by decide) ?_
      first | exact hret _ ls _ d_M_state_69 (by rw [kb_n0 h4, if_pos rfl, if_pos h10]) | exact hret _ ls _ d_M_state_69 (by rw [kb_n0 h4, if_pos rfl, if_neg h10, if_pos (show i = 1 from h22)]) | exact hret _ ls _ d_M_state_69 (by rw [kb_n0 h4, if_pos rfl, if_neg h10, if_neg (show ¬ i = 1 from h22), if_pos (show i = 2 from h34)]) | exact hret _ ls _ d_M_state_69 (by rw [kb_n0 h4, if_pos rfl, if_neg h10, if_neg (show ¬ i = 1 from h22), if_neg (show ¬ i = 2 from h34), if_neg (show ¬ i = 3 from h46)]) | exact hret _ ls _ d_M_state_69 (by rw [kb_n0 h4, if_pos rfl, if_neg h10, if_neg (show ¬ i = 1 from h22), if_neg (show ¬ i = 2 from h34), if_pos (show i = 3 from h46), b9 h54]) | exact hret _ ls _ d_M_state_69 (by rw [kb_n0 h4, if_pos rfl, if_neg h10, if_neg (show ¬ i = 1 from h22), if_neg (show ¬ i = 2 from h34), if_pos (show i = 3 from h46)])
  · refine lv_iconst (v := -1) hx hb d_M_state_7 (by decide) ?_
    exact hret _ ls _ d_M_state_8 (by rw [kb_0.mp h4]; rfl)

theorem rc_hi {i : Int32} (h : nI 144 ≤ i) : nI 129 ≤ i := Int32.le_trans (by decide) h
theorem rc_lo {hs : Nat → Nat} {x : Nat} (h : ∀ j, 129 ≤ j → hs j = 0) (hx : x < 144) : m1 (hs x) = if m_in (nI x) 129 then m1 (hs (nI x).toNatClampNeg) else -1 := by
  rw [m_in_nI (by omega) (by decide), nI_clamp (by omega)]
  rcases Nat.lt_or_ge x 129 with q | q
  · rw [decide_eq_true q]; rfl
  · rw [decide_eq_false (by omega), h x q]; rfl

abbrev y_M_reached : MethodName := ⟨"WideStackModel", "reached", "(I)I"⟩
theorem d_M_reached_0 : decode prog_12_method_51_code 0 = .ok (.aload_n 0, 1) := by decide +kernel
theorem d_M_reached_1 : decode prog_12_method_51_code 1 = .ok (.getfield 34, 3) := by decide +kernel
theorem d_M_reached_4 : decode prog_12_method_51_code 4 = .ok (.ifCond .eq 23, 3) := by decide +kernel
theorem d_M_reached_7 : decode prog_12_method_51_code 7 = .ok (.iload_n 1, 1) := by decide +kernel
theorem d_M_reached_8 : decode prog_12_method_51_code 8 = .ok (.ifCond .lt 19, 3) := by decide +kernel
theorem d_M_reached_11 : decode prog_12_method_51_code 11 = .ok (.iload_n 1, 1) := by decide +kernel
theorem d_M_reached_12 : decode prog_12_method_51_code 12 = .ok (.sipush 144, 3) := by decide +kernel
theorem d_M_reached_15 : decode prog_12_method_51_code 15 = .ok (.if_icmp .ge 12, 3) := by decide +kernel
theorem d_M_reached_18 : decode prog_12_method_51_code 18 = .ok (.aload_n 0, 1) := by decide +kernel
theorem d_M_reached_19 : decode prog_12_method_51_code 19 = .ok (.getfield 19, 3) := by decide +kernel
theorem d_M_reached_22 : decode prog_12_method_51_code 22 = .ok (.iload_n 1, 1) := by decide +kernel
theorem d_M_reached_23 : decode prog_12_method_51_code 23 = .ok (.iaload, 1) := by decide +kernel
theorem d_M_reached_24 : decode prog_12_method_51_code 24 = .ok (.goto 4, 3) := by decide +kernel
theorem d_M_reached_27 : decode prog_12_method_51_code 27 = .ok (.iconst (-1), 1) := by decide +kernel
theorem d_M_reached_28 : decode prog_12_method_51_code 28 = .ok (.ireturn, 1) := by decide +kernel
def rm_c_MX_reached : Room := { frames := 0, cells := 0, slots := 0, locals := 0 }
set_option maxHeartbeats 4000000 in
set_option maxRecDepth 100000 in
theorem c_MX_reached (l : Launch) (E : kE) (mo mb mm mw mh ml : Nat) (on ay : Bool) (y0 : rS) (len : Nat) (nb bb : Nat → Nat) (okb : okB len bb nb) (fh fl : Nat → Int32) (hs : Nat → Nat) (hH : ay = true → okA2 hs fh ∧ ∀ j, 129 ≤ j → hs j = 0) (i : Int32) : Kp l y_M_reached (kW y_M_reached prog_12_method_51_code 2 (some .int)) rm_c_MX_reached E [.ref mo, .int i] [(mo, .inr (8, [.int (nI len), .ref mb, .int (kb on), .int (nI y0.1.1), .int (nI y0.1.2.1), .int (nI y0.1.2.2.1), .int (nI y0.1.2.2.2.1), .int (nI y0.1.2.2.2.2.1), .int (nI y0.2.1), .int (nI y0.1.2.2.2.2.2.2.1), .ref mm, .ref mw, .ref mh, .ref ml, .int (kb ay)])), (mb, .inl (E.2.1 0, 96, .inl (nF nb))), (mm, .inl (E.2.1 0, 160, .inl (nF y0.1.2.2.2.2.2.2.2.2))), (mw, .inl (E.2.1 0, 370, .inl (nF y0.2.2))), (mh, .inl (E.2.1 0, 144, .inl fh)), (ml, .inl (E.2.1 1, 144, .inl fl))] (fun r => r = if ay then (if m_in i 129 then m1 (hs i.toNatClampNeg) else -1) else -1) := by
  refine Kp.ofI (cc := prog_12_method_51_code) (maxL := 2) (by decide) (Nat.le_of_ble_eq_true rfl) ?_
  intro p e s m args below meth c A ls Q hx hb hts hown hml hK hG hA hP hD hS hl hret
  have hl : lv_has ls 2 [(0, .ref mo), (1, .int i)] := hl
  refine lv_aload_n hx hb d_M_reached_0 rfl (lv_at hl 0 rfl) ?_
  refine va_get (D := E.1) (ci := 8) (v := .int (kb ay)) (C := "WideStackModel") (T := T_M) (N := 15) hx hb hts in_M hown hK hP 0 rfl rfl 14 (by decide) (hts _ t_761) (fun _ h9 => h9) rfl d_M_reached_1 ?_
  refine lv_if_eq (tgt := 27) hx hb d_M_reached_4 (by decide) (fun h4 => ?_) (fun h4 => ?_)
  · refine lv_iconst (v := -1) hx hb d_M_reached_27 (by decide) ?_
    first | exact hret _ ls _ d_M_reached_28 (by rw [kb_0.mp h4]; rfl) | exact hret _ ls _ d_M_reached_28 (by rw [kb_n0 h4, m_in_f1 h8]; rfl) | exact hret _ ls _ d_M_reached_28 (by rw [kb_n0 h4, m_in_f2 (rc_hi h15)]; rfl) | exact hret _ ls _ d_M_reached_28 (by rw [kb_n0 h4, if_pos rfl, hH1.1 x hx1]; exact rc_lo hH2 hx1)
  · refine lv_iload_n hx hb d_M_reached_7 rfl (lv_at hl 1 rfl) ?_
    refine lv_if_lt (tgt := 27) hx hb d_M_reached_8 (by decide) (fun h8 => ?_) (fun h8 => ?_)
    · refine lv_iconst (v := -1) hx hb d_M_reached_27 (by decide) ?_
      first | exact hret _ ls _ d_M_reached_28 (by rw [kb_0.mp h4]; rfl) | exact hret _ ls _ d_M_reached_28 (by rw [kb_n0 h4, m_in_f1 h8]; rfl) | exact hret _ ls _ d_M_reached_28 (by rw [kb_n0 h4, m_in_f2 (rc_hi h15)]; rfl) | exact hret _ ls _ d_M_reached_28 (by rw [kb_n0 h4, if_pos rfl, hH1.1 x hx1]; exact rc_lo hH2 hx1)
    · refine lv_iload_n hx hb d_M_reached_11 rfl (lv_at hl 1 rfl) ?_
      refine lv_sipush (v := nI 144) hx hb d_M_reached_12 (by decide) ?_
      refine lv_icmp_ge (tgt := 27) hx hb d_M_reached_15 (by decide) (fun h15 => ?_) (fun h15 => ?_)
      · refine lv_iconst (v := -1) hx hb d_M_reached_27 (by decide) ?_
        first | exact hret _ ls _ d_M_reached_28 (by rw [kb_0.mp h4]; rfl) | exact hret _ ls _ d_M_reached_28 (by rw [kb_n0 h4, m_in_f1 h8]; rfl) | exact hret _ ls _ d_M_reached_28 (by rw [kb_n0 h4, m_in_f2 (rc_hi h15)]; rfl) | exact hret _ ls _ d_M_reached_28 (by rw [kb_n0 h4, if_pos rfl, hH1.1 x hx1]; exact rc_lo hH2 hx1)
      · obtain ⟨hH1, hH2⟩ := hH (kb_n0 h4)
        have hin := m_in_t (n := 144) (by decide) h8 h15
        obtain ⟨x, hx1, rfl⟩ := m_in_of (by decide) hin
        refine lv_aload_n hx hb d_M_reached_18 rfl (lv_at hl 0 rfl) ?_
        refine va_get (D := E.1) (ci := 8) (v := .ref mh) (C := "WideStackModel") (T := T_M) (N := 15) hx hb hts in_M hown hK hP 0 rfl rfl 12 (by decide) (hts _ t_759) (fun _ h9 => h9) rfl d_M_reached_19 ?_
        refine lv_iload_n hx hb d_M_reached_22 rfl (lv_at hl 1 rfl) ?_
        refine k_iald hx hb hK hP 4 rfl (i := x) (by omega) (by omega) d_M_reached_23 ?_
        refine lv_goto (tgt := 28) hx hb d_M_reached_24 (by decide) ?_
        first | exact hret _ ls _ d_M_reached_28 (by rw [kb_0.mp h4]; rfl) | exact hret _ ls _ d_M_reached_28 (by rw [kb_n0 h4, m_in_f1 h8]; rfl) | exact hret _ ls _ d_M_reached_28 (by rw [kb_n0 h4, m_in_f2 (rc_hi h15)]; rfl) | exact hret _ ls _ d_M_reached_28 (by rw [kb_n0 h4, if_pos rfl, hH1.1 x hx1]; exact rc_lo hH2 hx1)

