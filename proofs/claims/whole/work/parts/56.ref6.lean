/-! shifts as numbers -/
theorem sh_top {g u : Nat → Nat} {F : Nat → Bool} {X : Nat} (h : shI g u F 256) (hX : ∀ q, X.testBit q = (decide (q < 256) && F q)) : gv u 304 16 = X := Nat.eq_of_testBit_eq (fun q => by rw [h.2.2 q, hX q])
theorem sh_shl {g u : Nat → Nat} {A B s : Nat} (h : shI g u (shU B s) 256) (hs : (A ≤ 255 ∧ s = A) ∨ (255 < A ∧ s = 256)) : gv u 304 16 = m_shl A B := by
  refine sh_top h (fun q => ?_)
  unfold m_shl shU
  rcases hs with ⟨h1, rfl⟩ | ⟨h1, rfl⟩
  · rw [if_neg (by omega), show mM = 2 ^ 256 from rfl, Nat.testBit_mod_two_pow, Nat.mul_comm, Nat.testBit_two_pow_mul]
  · rw [if_pos h1, Nat.zero_testBit]
    by_cases e : q < 256
    · rw [decide_eq_false (by omega : ¬ 256 ≤ q), Bool.false_and, Bool.and_false]
    · rw [decide_eq_false e, Bool.false_and]
theorem tb_hi {B q : Nat} (hB : B < mM) (h : 256 ≤ q) : B.testBit q = false := Nat.testBit_lt_two_pow (Nat.lt_of_lt_of_le hB (Nat.pow_le_pow_right (n := 2) (by decide) h))
theorem sh_shr {g u : Nat → Nat} {A B s : Nat} (hB : B < mM) (h : shI g u (shD B s 0) 256) (hs : (A ≤ 255 ∧ s = A) ∨ (255 < A ∧ s = 256)) : gv u 304 16 = m_shr A B := by
  refine sh_top h (fun q => ?_)
  unfold m_shr shD
  rcases hs with ⟨h1, rfl⟩ | ⟨h1, rfl⟩
  · rw [if_neg (by omega), Nat.testBit_div_two_pow]
    by_cases e : q + s < 256
    · rw [if_pos e, decide_eq_true (by omega), Bool.true_and]
    · rw [if_neg e, tb_hi hB (by omega)]; simp
  · rw [if_pos h1, Nat.zero_testBit, if_neg (by omega)]; simp
theorem sh_sar1 {g u : Nat → Nat} {A B s : Nat} (hB : B < mM) (hn : m_isneg B = true) (h : shI g u (shD B s 1) 256) (hs : (A ≤ 255 ∧ s = A) ∨ (255 < A ∧ s = 256)) : gv u 304 16 = m_sar A B := by
  refine sh_top h (fun q => ?_)
  unfold m_sar shD
  rw [if_pos hn]
  have l0 : mM - 1 - B < mM := by omega
  have e0 : mM - 1 - B = 2 ^ 256 - (B + 1) := by rw [show mM = 2 ^ 256 from rfl]; omega
  rcases hs with ⟨h1, rfl⟩ | ⟨h1, rfl⟩
  · rw [if_neg (by omega)]
    have l1 : (mM - 1 - B) / 2 ^ s < mM := Nat.lt_of_le_of_lt (Nat.div_le_self _ _) l0
    rw [show mM - 1 - (mM - 1 - B) / 2 ^ s = 2 ^ 256 - ((mM - 1 - B) / 2 ^ s + 1) by rw [show mM = 2 ^ 256 from rfl]; omega, Nat.testBit_two_pow_sub_succ l1, Nat.testBit_div_two_pow, e0, Nat.testBit_two_pow_sub_succ hB]
    congr 1
    by_cases e : q + s < 256
    · rw [if_pos e, decide_eq_true e, Bool.true_and, Bool.not_not]
    · rw [if_neg e, decide_eq_false e, Bool.false_and]; rfl
  · rw [if_pos h1, if_neg (by omega), Nat.sub_zero, show mM - 1 = 2 ^ 256 - 1 from rfl, Nat.testBit_two_pow_sub_one]; simp
theorem sh_sar0 {g u : Nat → Nat} {A B s : Nat} (hB : B < mM) (hn : m_isneg B = false) (h : shI g u (shD B s 0) 256) (hs : (A ≤ 255 ∧ s = A) ∨ (255 < A ∧ s = 256)) : gv u 304 16 = m_sar A B := by
  rw [sh_shr hB h hs]; unfold m_sar; rw [if_neg (by rw [hn]; decide)]
theorem min_s {A : Nat} (h : min A 65535 ≤ 255) : A ≤ 255 ∧ min A 65535 = A := by omega
theorem min_b {A : Nat} (h : 255 < min A 65535) : 255 < A ∧ 256 = 256 := ⟨by omega, rfl⟩
/-- what does() leaves -/
def doP (g u : Nat → Nat) (o X : Nat) : Prop := (m_gives o = 1 → gv u 304 16 = X) ∧ (∀ j, j < 256 → u j = g j) ∧ (80 ≤ o → ∀ j, j < 304 → u j = g j) ∧ ∀ j, u j < 65536
theorem do_q {g u : Nat → Nat} {o X Y : Nat} (ho : o < 80) (h : qE g u Y) (hX : Y = X) : doP g u o X := ⟨fun _ => h.1.trans hX, fun j hj => h.2.1 j (by omega), fun q => by omega, h.2.2⟩
theorem do_f {g u : Nat → Nat} {o X : Nat} (hX : m_gives o = 1 → gv u 304 16 = X) (hf : fr1 g u 304 16) (hu : ∀ j, u j < 65536) : doP g u o X := ⟨hX, fun j hj => hf j (by omega), fun _ j hj => hf j (by omega), hu⟩
theorem do_n {g : Nat → Nat} {o X v : Nat} (hg : ∀ j, g j < 65536) (hv : v < 4294967296) (hX : v = X) : doP g (nmb g 304 v) o X := do_f (fun _ => by rw [gv_nmb]; exact hX) (fun j hj => nmb_out hj) (nmb_16 hg hv)
theorem do_0 {g : Nat → Nat} {o X : Nat} (hg : ∀ j, g j < 65536) (h : m_gives o = 0) : doP g g o X := do_f (fun q => by omega) fr1_0 hg
theorem mr_op {b : Nat → Nat} {o gas ctr siz A B C : Nat} {mem : Nat → Nat} (h : o < 32) : m_op o A B C = m_res b o gas ctr siz A B C mem := by unfold m_res; rw [if_pos h]
theorem mr_81 {b : Nat → Nat} {o gas ctr siz A B C : Nat} {mem : Nat → Nat} (h : o = 81) : m_num mem A 32 = m_res b o gas ctr siz A B C mem := by subst h; rfl
theorem mr_88 {b : Nat → Nat} {o gas ctr siz A B C : Nat} {mem : Nat → Nat} (h : o = 88) : ctr = m_res b o gas ctr siz A B C mem := by subst h; rfl
theorem mr_89 {b : Nat → Nat} {o gas ctr siz A B C : Nat} {mem : Nat → Nat} (h : o = 89) : siz = m_res b o gas ctr siz A B C mem := by subst h; rfl
theorem mr_90 {b : Nat → Nat} {o gas ctr siz A B C : Nat} {mem : Nat → Nat} (h : o = 90) : gas = m_res b o gas ctr siz A B C mem := by subst h; rfl
theorem mr_num {b : Nat → Nat} {o gas ctr siz A B C : Nat} {mem : Nat → Nat} (h : 96 ≤ o ∧ o ≤ 127) : m_num b (ctr + 1) (o - 95) = m_res b o gas ctr siz A B C mem := by
  unfold m_res; rw [if_neg (by omega), if_neg (by omega), if_neg (by omega), if_neg (by omega), if_neg (by omega), m_numl_in (by omega) (by omega), show o - 95 = o - 96 + 1 by omega]
theorem mg_0 {o : Nat} (hk : m_known o = true) (h : ¬ (1 ≤ o ∧ o ≤ 29)) (h2 : o ≠ 81) (h3 : ¬ (88 ≤ o ∧ o ≤ 90)) (h4 : o < 96) : m_gives o = 0 := by
  unfold m_gives; rw [if_neg (by omega), if_neg (by omega), if_neg (by omega)]
theorem mg_83 {o : Nat} (h : o = 82 ∨ o = 83) : m_gives o = 1 → False := by rcases h with rfl | rfl <;> decide
theorem byt_min {A B : Nat} (h : min A 65535 ≤ 31) : m_byte (min A 65535) B = m_byte A B := by rw [Nat.min_eq_left (by omega)]
theorem byt_big {A B : Nat} (h : 31 < min A 65535) : 0 = m_byte A B := by unfold m_byte; rw [if_pos (by omega)]
theorem byte_b (i B : Nat) : m_byte i B < 256 := m_byte_lt2 i B
/-- rows of the stack -/
def rR (g : Nat → Nat) : Nat → Nat := fun i => gv g (16 * i) 16
theorem rR_cpy {g : Nat → Nat} {a b i : Nat} : rR (cpy g (16 * a) (16 * b)) i = va_up (rR g) a (rR g b) i := by
  unfold rR
  by_cases e : i = a
  · subst e; rw [va_up_self, gv_cpy]
  · rw [va_up_ne _ _ e, gv_cpy_out (by omega)]
theorem rR_out {g u : Nat → Nat} {i : Nat} (hi : i < 16) (h : ∀ j, j < 256 → u j = g j) : rR u i = rR g i := gv_congr (fun j hj => h _ (by omega))
theorem rR_cp {g : Nat → Nat} {r a b i : Nat} (hr : r = 16 * a) (hi : i < 16) : rR (cpy g r b) i = va_up (rR g) a (gv g b 16) i := by
  subst hr
  unfold rR
  by_cases e : i = a
  · subst e; rw [va_up_self, gv_cpy]
  · rw [va_up_ne _ _ e, gv_cpy_out (by omega)]

theorem ex_rows {g : Nat → Nat} {t q i : Nat} (ht : t < 16) (hq : q < 16) (hn : t ≠ q) (hi : i < 16) : rR (cpy (cpy (cpy g 256 (16 * t)) (16 * t) (16 * q)) (16 * q) 256) i = va_up (va_up (rR g) t (rR g q)) q (rR g t) i := by
  have e0 : ∀ k, k < 16 → rR (cpy g 256 (16 * t)) k = rR g k := fun k hk => rR_out hk (fun j hj => cpy_out (by omega))
  have e1 : gv (cpy (cpy g 256 (16 * t)) (16 * t) (16 * q)) 256 16 = rR g t := by rw [gv_cpy_out (by omega), gv_cpy]; rfl
  rw [rR_cp rfl hi, e1]
  by_cases c1 : i = q
  · subst c1; rw [va_up_self, va_up_self]
  · rw [va_up_ne _ _ c1, va_up_ne _ _ c1, rR_cpy]
    by_cases c2 : i = t
    · subst c2; rw [va_up_self, va_up_self, e0 q hq]
    · rw [va_up_ne _ _ c2, va_up_ne _ _ c2, e0 i hi]

abbrev y_M_exchange : MethodName := ⟨"WideStackModel", "exchange", "(I)V"⟩
theorem d_M_exchange_0 : decode prog_12_method_38_code 0 = .ok (.iload_n 1, 1) := by decide +kernel
theorem d_M_exchange_1 : decode prog_12_method_38_code 1 = .ok (.sipush 144, 3) := by decide +kernel
theorem d_M_exchange_4 : decode prog_12_method_38_code 4 = .ok (.if_icmp .ge 34, 3) := by decide +kernel
theorem d_M_exchange_7 : decode prog_12_method_38_code 7 = .ok (.aload_n 0, 1) := by decide +kernel
theorem d_M_exchange_8 : decode prog_12_method_38_code 8 = .ok (.bipush 16, 2) := by decide +kernel
theorem d_M_exchange_10 : decode prog_12_method_38_code 10 = .ok (.aload_n 0, 1) := by decide +kernel
theorem d_M_exchange_11 : decode prog_12_method_38_code 11 = .ok (.getfield 91, 3) := by decide +kernel
theorem d_M_exchange_14 : decode prog_12_method_38_code 14 = .ok (.imul, 1) := by decide +kernel
theorem d_M_exchange_15 : decode prog_12_method_38_code 15 = .ok (.aload_n 0, 1) := by decide +kernel
theorem d_M_exchange_16 : decode prog_12_method_38_code 16 = .ok (.iload_n 1, 1) := by decide +kernel
theorem d_M_exchange_17 : decode prog_12_method_38_code 17 = .ok (.sipush 128, 3) := by decide +kernel
theorem d_M_exchange_20 : decode prog_12_method_38_code 20 = .ok (.isub, 1) := by decide +kernel
theorem d_M_exchange_21 : decode prog_12_method_38_code 21 = .ok (.invokevirtual 109, 3) := by decide +kernel
theorem d_M_exchange_24 : decode prog_12_method_38_code 24 = .ok (.invokevirtual 81, 3) := by decide +kernel
theorem d_M_exchange_27 : decode prog_12_method_38_code 27 = .ok (.aload_n 0, 1) := by decide +kernel
theorem d_M_exchange_28 : decode prog_12_method_38_code 28 = .ok (.dup, 1) := by decide +kernel
theorem d_M_exchange_29 : decode prog_12_method_38_code 29 = .ok (.getfield 91, 3) := by decide +kernel
theorem d_M_exchange_32 : decode prog_12_method_38_code 32 = .ok (.iconst 1, 1) := by decide +kernel
theorem d_M_exchange_33 : decode prog_12_method_38_code 33 = .ok (.iadd, 1) := by decide +kernel
theorem d_M_exchange_34 : decode prog_12_method_38_code 34 = .ok (.putfield 91, 3) := by decide +kernel
theorem d_M_exchange_37 : decode prog_12_method_38_code 37 = .ok (.return_, 1) := by decide +kernel
theorem d_M_exchange_38 : decode prog_12_method_38_code 38 = .ok (.aload_n 0, 1) := by decide +kernel
theorem d_M_exchange_39 : decode prog_12_method_38_code 39 = .ok (.iload_n 1, 1) := by decide +kernel
theorem d_M_exchange_40 : decode prog_12_method_38_code 40 = .ok (.sipush 143, 3) := by decide +kernel
theorem d_M_exchange_43 : decode prog_12_method_38_code 43 = .ok (.isub, 1) := by decide +kernel
theorem d_M_exchange_44 : decode prog_12_method_38_code 44 = .ok (.invokevirtual 109, 3) := by decide +kernel
theorem d_M_exchange_47 : decode prog_12_method_38_code 47 = .ok (.istore_n 2, 1) := by decide +kernel
theorem d_M_exchange_48 : decode prog_12_method_38_code 48 = .ok (.aload_n 0, 1) := by decide +kernel
theorem d_M_exchange_49 : decode prog_12_method_38_code 49 = .ok (.sipush 256, 3) := by decide +kernel
theorem d_M_exchange_52 : decode prog_12_method_38_code 52 = .ok (.aload_n 0, 1) := by decide +kernel
theorem d_M_exchange_53 : decode prog_12_method_38_code 53 = .ok (.iconst 0, 1) := by decide +kernel
theorem d_M_exchange_54 : decode prog_12_method_38_code 54 = .ok (.invokevirtual 109, 3) := by decide +kernel
theorem d_M_exchange_57 : decode prog_12_method_38_code 57 = .ok (.invokevirtual 81, 3) := by decide +kernel
theorem d_M_exchange_60 : decode prog_12_method_38_code 60 = .ok (.aload_n 0, 1) := by decide +kernel
theorem d_M_exchange_61 : decode prog_12_method_38_code 61 = .ok (.aload_n 0, 1) := by decide +kernel
theorem d_M_exchange_62 : decode prog_12_method_38_code 62 = .ok (.iconst 0, 1) := by decide +kernel
theorem d_M_exchange_63 : decode prog_12_method_38_code 63 = .ok (.invokevirtual 109, 3) := by decide +kernel
theorem d_M_exchange_66 : decode prog_12_method_38_code 66 = .ok (.iload_n 2, 1) := by decide +kernel
theorem d_M_exchange_67 : decode prog_12_method_38_code 67 = .ok (.invokevirtual 81, 3) := by decide +kernel
theorem d_M_exchange_70 : decode prog_12_method_38_code 70 = .ok (.aload_n 0, 1) := by decide +kernel
theorem d_M_exchange_71 : decode prog_12_method_38_code 71 = .ok (.iload_n 2, 1) := by decide +kernel
theorem d_M_exchange_72 : decode prog_12_method_38_code 72 = .ok (.sipush 256, 3) := by decide +kernel
theorem d_M_exchange_75 : decode prog_12_method_38_code 75 = .ok (.invokevirtual 81, 3) := by decide +kernel
theorem d_M_exchange_78 : decode prog_12_method_38_code 78 = .ok (.return_, 1) := by decide +kernel
def rm_c_M_exchange : Room := { frames := 1, cells := 0, slots := 0, locals := 23 }
set_option maxHeartbeats 4000000 in
set_option maxRecDepth 100000 in
theorem c_M_exchange (l : Launch) (E : kE) (mo mb mm mw mh ml len en gas ctr siz hgt frm ret : Nat) (on ay : Bool) (g : Nat → Nat) (hg : ∀ j, g j < 65536) (o : Nat) (ho : 128 ≤ o ∧ o ≤ 159) (h1 : o < 144 → o - 127 ≤ hgt ∧ hgt < 16) (h2 : 144 ≤ o → o - 142 ≤ hgt ∧ hgt ≤ 16) : Kv l y_M_exchange (kW y_M_exchange prog_12_method_38_code 3 (none)) rm_c_M_exchange E [.ref mo, .int (nI o)] [(mo, .inr (8, [.int (nI len), .ref mb, .int (kb on), .int (nI en), .int (nI gas), .int (nI ctr), .int (nI siz), .int (nI hgt), .int (nI frm), .int (nI ret), .ref mm, .ref mw, .ref mh, .ref ml, .int (kb ay)])), (mw, .inl (E.2.1 0, 370, .inl (nF g)))] (S := Nat × (Nat → Nat)) (fun u => u.1 = (if o < 144 then hgt + 1 else hgt) ∧ (∀ i, i < 16 → rR u.2 i = (if o < 144 then va_up (rR g) hgt (rR g (hgt - (o - 127))) else va_up (va_up (rR g) (hgt - 1) (rR g (hgt - (o - 142)))) (hgt - (o - 142)) (rR g (hgt - 1))) i) ∧ ∀ j, u.2 j < 65536) (fun u => [(mo, .inr (8, [.int (nI len), .ref mb, .int (kb on), .int (nI en), .int (nI gas), .int (nI ctr), .int (nI siz), .int (nI u.1), .int (nI frm), .int (nI ret), .ref mm, .ref mw, .ref mh, .ref ml, .int (kb ay)])), (mw, .inl (E.2.1 0, 370, .inl (nF u.2)))]) := by
  refine Kv.ofW (cc := prog_12_method_38_code) (maxL := 3) (by decide) (Nat.le_of_ble_eq_true rfl) ?_
  intro p e s m args below meth c A ls Q hx hb hts hown hml hK hG hA hP hD hS hl hret
  have hl : lv_has ls 3 [(0, .ref mo), (1, .int (nI o))] := hl
  refine lv_iload_n hx hb d_M_exchange_0 rfl (lv_at hl 1 rfl) ?_
  refine lv_sipush (v := nI 144) hx hb d_M_exchange_1 (by decide) ?_
  refine kn_ge (tgt := 38) hx hb (by omega) (by omega) d_M_exchange_4 (by decide) (fun h4 => ?_) (fun h4 => ?_)
  · have h2 := h2 h4
    refine lv_aload_n hx hb d_M_exchange_38 rfl (lv_at hl 0 rfl) ?_
    refine lv_iload_n hx hb d_M_exchange_39 rfl (lv_at hl 1 rfl) ?_
    refine lv_sipush (v := nI 143) hx hb d_M_exchange_40 (by decide) ?_
    refine lv_isub hx hb d_M_exchange_43 ?_
    refine k_top (pk_sub (by omega)) ?_
    refine k_Vp (As := [.int (nI (o - 143))]) (rest := []) ⟨hx, hb, hml, hown, hts⟩ (c_M_top l E mo mb mm mw mh ml len en gas ctr siz hgt frm ret on ay (o - 143) (by omega)) (k_cwV 1 hts t_853 t_855 t_31 t_71 t_856 (by decide +kernel) ⟨Nat.le_of_ble_eq_true rfl, Nat.le_of_ble_eq_true rfl⟩) hK hG hA hP hD hS [0] rfl (by decide) 0 rfl rfl rfl hl.1 rfl (Nat.le_of_ble_eq_true rfl) d_M_exchange_44 ⟨Nat.zero_le _, Nat.zero_le _⟩ (fun r44 hu44 => ?_)
    subst hu44
    refine lv_istore_n (lv' := [(2, .int (nI (16 * (hgt - 1 - (o - 143))))), (0, .ref mo), (1, .int (nI o))]) hx hb d_M_exchange_47 rfl hl (by decide) rfl (fun ls hl => ?_)
    refine lv_aload_n hx hb d_M_exchange_48 rfl (lv_at hl 1 rfl) ?_
    refine lv_sipush (v := nI 256) hx hb d_M_exchange_49 (by decide) ?_
    refine lv_aload_n hx hb d_M_exchange_52 rfl (lv_at hl 1 rfl) ?_
    refine lv_iconst (v := nI 0) hx hb d_M_exchange_53 (by decide) ?_
    refine k_Vp (As := [.int (nI 0)]) (rest := [.int (nI 256), .ref mo]) ⟨hx, hb, hml, hown, hts⟩ (c_M_top l E mo mb mm mw mh ml len en gas ctr siz hgt frm ret on ay 0 (by omega)) (k_cwV 1 hts t_853 t_855 t_31 t_71 t_856 (by decide +kernel) ⟨Nat.le_of_ble_eq_true rfl, Nat.le_of_ble_eq_true rfl⟩) hK hG hA hP hD hS [0] rfl (by decide) 0 rfl rfl rfl hl.1 rfl (Nat.le_of_ble_eq_true rfl) d_M_exchange_54 ⟨Nat.zero_le _, Nat.zero_le _⟩ (fun r54 hu54 => ?_)
    subst hu54
    refine k_Vv (As := [.int (nI 256), .int (nI (16 * (hgt - 1 - 0)))]) (rest := []) ⟨hx, hb, hml, hown, hts⟩ (c_M_copy l E mo mb mm mw mh ml len en gas ctr siz hgt frm ret on ay g hg 256 (16 * (hgt - 1 - 0)) (by omega) (by omega) (by omega)) (k_cwV 2 hts t_873 t_875 t_35 t_71 t_876 (by decide +kernel) ⟨Nat.le_of_ble_eq_true rfl, Nat.le_of_ble_eq_true rfl⟩) hK hG hA hP hD hS [0, 1] rfl (by decide) 0 rfl rfl (fun _ => rfl) rfl hl.1 rfl (Nat.le_of_ble_eq_true rfl) d_M_exchange_57 ⟨Nat.zero_le _, Nat.zero_le _⟩ (fun u9 H locs hu9 hP hD hS => ?_)
    have hP : va_P E.1 vwCl [(mo, .inr (8, [.int (nI len), .ref mb, .int (kb on), .int (nI en), .int (nI gas), .int (nI ctr), .int (nI siz), .int (nI hgt), .int (nI frm), .int (nI ret), .ref mm, .ref mw, .ref mh, .ref ml, .int (kb ay)])), (mw, .inl (E.2.1 0, 370, .inl (nF (cpy g 256 (16 * (hgt - 1 - 0))))))] H := hP
    have hD : va_D A [(mo, .inr (8, [.int (nI len), .ref mb, .int (kb on), .int (nI en), .int (nI gas), .int (nI ctr), .int (nI siz), .int (nI hgt), .int (nI frm), .int (nI ret), .ref mm, .ref mw, .ref mh, .ref ml, .int (kb ay)])), (mw, .inl (E.2.1 0, 370, .inl (nF (cpy g 256 (16 * (hgt - 1 - 0))))))] := hD
    refine lv_aload_n hx hb d_M_exchange_60 rfl (lv_at hl 1 rfl) ?_
    refine lv_aload_n hx hb d_M_exchange_61 rfl (lv_at hl 1 rfl) ?_
    refine lv_iconst (v := nI 0) hx hb d_M_exchange_62 (by decide) ?_
    refine k_Vp (As := [.int (nI 0)]) (rest := [.ref mo]) ⟨hx, hb, hml, hown, hts⟩ (c_M_top l E mo mb mm mw mh ml len en gas ctr siz hgt frm ret on ay 0 (by omega)) (k_cwV 1 hts t_853 t_855 t_31 t_71 t_856 (by decide +kernel) ⟨Nat.le_of_ble_eq_true rfl, Nat.le_of_ble_eq_true rfl⟩) hK hG hA hP hD hS [0] rfl (by decide) 0 rfl rfl rfl hl.1 rfl (Nat.le_of_ble_eq_true rfl) d_M_exchange_63 ⟨Nat.zero_le _, Nat.zero_le _⟩ (fun r63 hu63 => ?_)
    subst hu63
    refine lv_iload_n hx hb d_M_exchange_66 rfl (lv_at hl 0 rfl) ?_
    refine k_Vv (As := [.int (nI (16 * (hgt - 1 - 0))), .int (nI (16 * (hgt - 1 - (o - 143))))]) (rest := []) ⟨hx, hb, hml, hown, hts⟩ (c_M_copy l E mo mb mm mw mh ml len en gas ctr siz hgt frm ret on ay (cpy g 256 (16 * (hgt - 1 - 0))) (cpy_16 hg) (16 * (hgt - 1 - 0)) (16 * (hgt - 1 - (o - 143))) (by omega) (by omega) (by omega)) (k_cwV 2 hts t_873 t_875 t_35 t_71 t_876 (by decide +kernel) ⟨Nat.le_of_ble_eq_true rfl, Nat.le_of_ble_eq_true rfl⟩) hK hG hA hP hD hS [0, 1] rfl (by decide) 0 rfl rfl (fun _ => rfl) rfl hl.1 rfl (Nat.le_of_ble_eq_true rfl) d_M_exchange_67 ⟨Nat.zero_le _, Nat.zero_le _⟩ (fun u9 H locs hu9 hP hD hS => ?_)
    have hP : va_P E.1 vwCl [(mo, .inr (8, [.int (nI len), .ref mb, .int (kb on), .int (nI en), .int (nI gas), .int (nI ctr), .int (nI siz), .int (nI hgt), .int (nI frm), .int (nI ret), .ref mm, .ref mw, .ref mh, .ref ml, .int (kb ay)])), (mw, .inl (E.2.1 0, 370, .inl (nF (cpy (cpy g 256 (16 * (hgt - 1 - 0))) (16 * (hgt - 1 - 0)) (16 * (hgt - 1 - (o - 143)))))))] H := hP
    have hD : va_D A [(mo, .inr (8, [.int (nI len), .ref mb, .int (kb on), .int (nI en), .int (nI gas), .int (nI ctr), .int (nI siz), .int (nI hgt), .int (nI frm), .int (nI ret), .ref mm, .ref mw, .ref mh, .ref ml, .int (kb ay)])), (mw, .inl (E.2.1 0, 370, .inl (nF (cpy (cpy g 256 (16 * (hgt - 1 - 0))) (16 * (hgt - 1 - 0)) (16 * (hgt - 1 - (o - 143)))))))] := hD
    refine lv_aload_n hx hb d_M_exchange_70 rfl (lv_at hl 1 rfl) ?_
    refine lv_iload_n hx hb d_M_exchange_71 rfl (lv_at hl 0 rfl) ?_
    refine lv_sipush (v := nI 256) hx hb d_M_exchange_72 (by decide) ?_
    refine k_Vv (As := [.int (nI (16 * (hgt - 1 - (o - 143)))), .int (nI 256)]) (rest := []) ⟨hx, hb, hml, hown, hts⟩ (c_M_copy l E mo mb mm mw mh ml len en gas ctr siz hgt frm ret on ay (cpy (cpy g 256 (16 * (hgt - 1 - 0))) (16 * (hgt - 1 - 0)) (16 * (hgt - 1 - (o - 143)))) (cpy_16 (cpy_16 hg)) (16 * (hgt - 1 - (o - 143))) 256 (by omega) (by omega) (by omega)) (k_cwV 2 hts t_873 t_875 t_35 t_71 t_876 (by decide +kernel) ⟨Nat.le_of_ble_eq_true rfl, Nat.le_of_ble_eq_true rfl⟩) hK hG hA hP hD hS [0, 1] rfl (by decide) 0 rfl rfl (fun _ => rfl) rfl hl.1 rfl (Nat.le_of_ble_eq_true rfl) d_M_exchange_75 ⟨Nat.zero_le _, Nat.zero_le _⟩ (fun u9 H locs hu9 hP hD hS => ?_)
    have hP : va_P E.1 vwCl [(mo, .inr (8, [.int (nI len), .ref mb, .int (kb on), .int (nI en), .int (nI gas), .int (nI ctr), .int (nI siz), .int (nI hgt), .int (nI frm), .int (nI ret), .ref mm, .ref mw, .ref mh, .ref ml, .int (kb ay)])), (mw, .inl (E.2.1 0, 370, .inl (nF (cpy (cpy (cpy g 256 (16 * (hgt - 1 - 0))) (16 * (hgt - 1 - 0)) (16 * (hgt - 1 - (o - 143)))) (16 * (hgt - 1 - (o - 143))) 256))))] H := hP
    have hD : va_D A [(mo, .inr (8, [.int (nI len), .ref mb, .int (kb on), .int (nI en), .int (nI gas), .int (nI ctr), .int (nI siz), .int (nI hgt), .int (nI frm), .int (nI ret), .ref mm, .ref mw, .ref mh, .ref ml, .int (kb ay)])), (mw, .inl (E.2.1 0, 370, .inl (nF (cpy (cpy (cpy g 256 (16 * (hgt - 1 - 0))) (16 * (hgt - 1 - 0)) (16 * (hgt - 1 - (o - 143)))) (16 * (hgt - 1 - (o - 143))) 256))))] := hD
    exact hret _ ls _ _ (hgt, cpy (cpy (cpy g 256 (16 * (hgt - 1 - 0))) (16 * (hgt - 1 - 0)) (16 * (hgt - 1 - (o - 143)))) (16 * (hgt - 1 - (o - 143))) 256) d_M_exchange_78 ⟨(if_neg (by omega)).symm, fun i hi => by rw [if_neg (by omega), show hgt - (o - 142) = hgt - 1 - (o - 143) by omega]; exact ex_rows (by omega) (by omega) (by omega) hi, cpy_16 (cpy_16 (cpy_16 hg))⟩ hP hS
  · have h1 := h1 (by omega)
    refine lv_aload_n hx hb d_M_exchange_7 rfl (lv_at hl 0 rfl) ?_
    refine lv_bipush (v := nI 16) hx hb d_M_exchange_8 (by decide) ?_
    refine lv_aload_n hx hb d_M_exchange_10 rfl (lv_at hl 0 rfl) ?_
    refine va_get (D := E.1) (ci := 8) (v := .int (nI hgt)) (C := "WideStackModel") (T := T_M) (N := 15) hx hb hts in_M hown hK hP 0 rfl rfl 7 (by decide) (hts _ t_754) (fun _ h9 => h9) rfl d_M_exchange_11 ?_
    refine lv_imul hx hb d_M_exchange_14 ?_
    refine k_top (pk_mul _ _) ?_
    refine lv_aload_n hx hb d_M_exchange_15 rfl (lv_at hl 0 rfl) ?_
    refine lv_iload_n hx hb d_M_exchange_16 rfl (lv_at hl 1 rfl) ?_
    refine lv_sipush (v := nI 128) hx hb d_M_exchange_17 (by decide) ?_
    refine lv_isub hx hb d_M_exchange_20 ?_
    refine k_top (pk_sub (by omega)) ?_
    refine k_Vp (As := [.int (nI (o - 128))]) (rest := [.int (nI (16 * hgt)), .ref mo]) ⟨hx, hb, hml, hown, hts⟩ (c_M_top l E mo mb mm mw mh ml len en gas ctr siz hgt frm ret on ay (o - 128) (by omega)) (k_cwV 1 hts t_853 t_855 t_31 t_71 t_856 (by decide +kernel) ⟨Nat.le_of_ble_eq_true rfl, Nat.le_of_ble_eq_true rfl⟩) hK hG hA hP hD hS [0] rfl (by decide) 0 rfl rfl rfl hl.1 rfl (Nat.le_of_ble_eq_true rfl) d_M_exchange_21 ⟨Nat.zero_le _, Nat.zero_le _⟩ (fun r21 hu21 => ?_)
    subst hu21
    refine k_Vv (As := [.int (nI (16 * hgt)), .int (nI (16 * (hgt - 1 - (o - 128))))]) (rest := []) ⟨hx, hb, hml, hown, hts⟩ (c_M_copy l E mo mb mm mw mh ml len en gas ctr siz hgt frm ret on ay g hg (16 * hgt) (16 * (hgt - 1 - (o - 128))) (by omega) (by omega) (by omega)) (k_cwV 2 hts t_873 t_875 t_35 t_71 t_876 (by decide +kernel) ⟨Nat.le_of_ble_eq_true rfl, Nat.le_of_ble_eq_true rfl⟩) hK hG hA hP hD hS [0, 1] rfl (by decide) 0 rfl rfl (fun _ => rfl) rfl hl.1 rfl (Nat.le_of_ble_eq_true rfl) d_M_exchange_24 ⟨Nat.zero_le _, Nat.zero_le _⟩ (fun u9 H locs hu9 hP hD hS => ?_)
    have hP : va_P E.1 vwCl [(mo, .inr (8, [.int (nI len), .ref mb, .int (kb on), .int (nI en), .int (nI gas), .int (nI ctr), .int (nI siz), .int (nI hgt), .int (nI frm), .int (nI ret), .ref mm, .ref mw, .ref mh, .ref ml, .int (kb ay)])), (mw, .inl (E.2.1 0, 370, .inl (nF (cpy g (16 * hgt) (16 * (hgt - 1 - (o - 128)))))))] H := hP
    have hD : va_D A [(mo, .inr (8, [.int (nI len), .ref mb, .int (kb on), .int (nI en), .int (nI gas), .int (nI ctr), .int (nI siz), .int (nI hgt), .int (nI frm), .int (nI ret), .ref mm, .ref mw, .ref mh, .ref ml, .int (kb ay)])), (mw, .inl (E.2.1 0, 370, .inl (nF (cpy g (16 * hgt) (16 * (hgt - 1 - (o - 128)))))))] := hD
    refine lv_aload_n hx hb d_M_exchange_27 rfl (lv_at hl 0 rfl) ?_
    refine lv_dup hx hb d_M_exchange_28 rfl ?_
    refine va_get (D := E.1) (ci := 8) (v := .int (nI hgt)) (C := "WideStackModel") (T := T_M) (N := 15) hx hb hts in_M hown hK hP 0 rfl rfl 7 (by decide) (hts _ t_754) (fun _ h9 => h9) rfl d_M_exchange_29 ?_
    refine lv_iconst (v := nI 1) hx hb d_M_exchange_32 (by decide) ?_
    refine lv_iadd hx hb d_M_exchange_33 ?_
    refine k_top (nI_add _ _) ?_
    refine va_put (D := E.1) (ci := 8) (v := .int (nI (hgt + 1))) (ty := .int) (C := "WideStackModel") (T := T_M) (N := 15) hx hb hts in_M ty_M tyok_M nm_M hown hK hP hD hS 0 rfl rfl 7 (by decide) (hts _ t_754) (fun _ h9 => h9) rfl (by decide +kernel) rfl rfl (Nat.le_of_ble_eq_true rfl) d_M_exchange_34 (fun H locs hP hD hS => ?_)
    have hP : va_P E.1 vwCl [(mo, .inr (8, [.int (nI len), .ref mb, .int (kb on), .int (nI en), .int (nI gas), .int (nI ctr), .int (nI siz), .int (nI (hgt + 1)), .int (nI frm), .int (nI ret), .ref mm, .ref mw, .ref mh, .ref ml, .int (kb ay)])), (mw, .inl (E.2.1 0, 370, .inl (nF (cpy g (16 * hgt) (16 * (hgt - 1 - (o - 128)))))))] H := hP
    have hD : va_D A [(mo, .inr (8, [.int (nI len), .ref mb, .int (kb on), .int (nI en), .int (nI gas), .int (nI ctr), .int (nI siz), .int (nI (hgt + 1)), .int (nI frm), .int (nI ret), .ref mm, .ref mw, .ref mh, .ref ml, .int (kb ay)])), (mw, .inl (E.2.1 0, 370, .inl (nF (cpy g (16 * hgt) (16 * (hgt - 1 - (o - 128)))))))] := hD
    exact hret _ ls _ _ (hgt + 1, cpy g (16 * hgt) (16 * (hgt - 1 - (o - 128)))) d_M_exchange_37 ⟨(if_pos (by omega)).symm, fun i hi => by rw [if_pos (by omega), show hgt - (o - 127) = hgt - 1 - (o - 128) by omega]; exact rR_cpy, cpy_16 hg⟩ hP hS

