/-! the reference's analysis -/
def okA2 (hs : Nat → Nat) (fh : Nat → Int32) : Prop := (∀ j, j < 144 → fh j = m1 (hs j)) ∧ ∀ j, hs j ≤ 17
def okL2 (lk : Nat → Bool) (fl : Nat → Int32) : Prop := ∀ j, j < 144 → fl j = kb (lk j)
theorem m1_ge {k : Nat} (hk : k ≤ 17) : 0 ≤ m1 k ↔ k ≠ 0 := by
  cases k with
  | zero => exact ⟨fun h => absurd h (by decide), fun h => absurd rfl h⟩
  | succ k => exact ⟨fun _ => Nat.succ_ne_zero k, fun _ => nI_pos' (by omega)⟩
theorem okA2_1 {hs : Nat → Nat} {fh : Nat → Int32} {i : Nat} (h : okA2 hs fh) (hi : i < 144) (q : 0 ≤ fh i) : hs i ≠ 0 := by
  rw [h.1 i hi] at q; exact (m1_ge (h.2 i)).mp q
theorem okA2_0 {hs : Nat → Nat} {fh : Nat → Int32} {i : Nat} (h : okA2 hs fh) (hi : i < 144) (q : ¬ 0 ≤ fh i) : hs i = 0 := by
  rw [h.1 i hi] at q
  rcases Nat.eq_zero_or_pos (hs i) with w | w
  · exact w
  · exact absurd ((m1_ge (h.2 i)).mpr (by omega)) q
theorem rc2_new {hs : Nat → Nat} {fh : Nat → Int32} {i x : Nat} (h : okA2 hs fh) (hi : i < 144) (q : ¬ 0 ≤ fh i) : nI 1 = kb (decide (a_rch hs i x i = x + 1)) ∧ ∀ j, j < 144 → upd fh i (nI x) j = m1 (a_rch hs i x j) := by
  unfold a_rch
  rw [if_pos (okA2_0 h hi q)]
  refine ⟨by rw [va_up_self, decide_eq_true rfl]; rfl, fun j hj => ?_⟩
  by_cases e : j = i
  · subst e; rw [pk_us, va_up_self]; rfl
  · rw [pk_un e, va_up_ne _ _ e]; exact h.1 j hj
theorem rc2_old {hs : Nat → Nat} {fh : Nat → Int32} {i x : Nat} {r : Int32} (h : okA2 hs fh) (hi : i < 144) (hx : x ≤ 16) (q : 0 ≤ fh i) (hr : (fh i = nI x ∧ r = nI 1) ∨ (¬ fh i = nI x ∧ r = nI 0)) : r = kb (decide (a_rch hs i x i = x + 1)) ∧ ∀ j, j < 144 → fh j = m1 (a_rch hs i x j) := by
  unfold a_rch
  rw [if_neg (okA2_1 h hi q)]
  refine ⟨?_, fun j hj => h.1 j hj⟩
  have h17 := h.2 i
  rw [h.1 i hi, m1_nI (by omega) (by omega)] at hr
  rcases hr with ⟨e, rfl⟩ | ⟨e, rfl⟩
  · rw [decide_eq_true e]; rfl
  · rw [decide_eq_false e]; rfl
theorem okA2_rch {hs : Nat → Nat} {fh u : Nat → Int32} {i x : Nat} (h : okA2 hs fh) (hx : x ≤ 16) (hu : ∀ j, j < 144 → u j = m1 (a_rch hs i x j)) : okA2 (a_rch hs i x) u := by
  refine ⟨hu, fun j => ?_⟩
  unfold a_rch
  by_cases e0 : hs i = 0
  · rw [if_pos e0]
    by_cases e : j = i
    · subst e; rw [va_up_self]; omega
    · rw [va_up_ne _ _ e]; exact h.2 j
  · rw [if_neg e0]; exact h.2 j
theorem al_post {r x : Nat} {X : Nat × (Nat → Nat)} {hs : Nat → Nat} {u : Nat → Int32} (h : X = (x, hs)) (hr : r = x) (hk : okA2 hs u) : nI r = nI X.1 ∧ okA2 X.2 u := by subst h hr; exact ⟨rfl, hk⟩
theorem nof_step {b : Nat → Nat} {p k v : Nat} (hb : ∀ j, b j < 256) (h : (255 < min (m_num b p k) 65535 ∧ v = 65535) ∨ (¬ 255 < min (m_num b p k) 65535 ∧ v = 256 * min (m_num b p k) 65535 + b (p + k))) : v = min (m_num b p (k + 1)) 65535 := by
  have e : m_num b p (k + 1) = m_num b p k * 256 + b (p + k) := rfl
  have := hb (p + k)
  rw [e]
  omega
theorem numl_0 {o : Nat} (h : ¬ (96 ≤ o ∧ o ≤ 127)) : m_numl o = 0 := by unfold m_numl; rw [if_neg h]
theorem numl_1 {o : Nat} (h : 96 ≤ o ∧ o ≤ 127) : m_numl o ≠ 0 := by unfold m_numl; rw [if_pos h]; omega
theorem an_init {z y : Nat → Int32} {i : Nat} {x : Int32} (hI : ∀ j, j < i → z j = m1 (a_h0 j) ∧ y j = nI 0) (hx : x = m1 (a_h0 i)) (j : Nat) (hj : j < i + 1) : upd z i x j = m1 (a_h0 j) ∧ upd y i (nI 0) j = nI 0 := by
  by_cases e : j = i
  · subst e; rw [pk_us, pk_us]; exact ⟨hx, rfl⟩
  · rw [pk_un e, pk_un e]; exact hI j (by omega)
theorem h0_le (j : Nat) : a_h0 j ≤ 17 := by unfold a_h0; split <;> decide
theorem least_0 : a_least a_h0 (fun _ => false) = 0 := a_least_hit ⟨by decide, rfl⟩ (by decide) (fun x hx => absurd hx (Nat.not_lt_zero x))
theorem okL2_up {lk : Nat → Bool} {y : Nat → Int32} {i : Nat} (h : okL2 lk y) : okL2 (va_up lk i true) (upd y i (nI 1)) := by
  intro j hj
  by_cases e : j = i
  · subst e; rw [pk_us, va_up_self]; rfl
  · rw [pk_un e, va_up_ne _ _ e, h j hj]
theorem okL2_1 {lk : Nat → Bool} {y : Nat → Int32} {k : Nat} (h : okL2 lk y) (hk : k < 144) (q : ¬ y k = 0) : lk k = true := by
  rw [h k hk] at q; exact kb_n0 q
theorem okL2_0 {lk : Nat → Bool} {y : Nat → Int32} {k : Nat} (h : okL2 lk y) (hk : k < 144) (q : y k = 0) : lk k = false := by
  rw [h k hk] at q; exact kb_0.mp q
def anI (len : Nat) (b : Nat → Nat) (i n : Nat) (hs : Nat → Nat) (lk : Nat → Bool) (z y : Nat → Int32) : Prop := okA2 hs z ∧ okL2 lk y ∧ okH len b hs ∧ ((i = 144 ∧ a_least hs lk = 129) ∨ (i = a_least hs lk ∧ i ≠ 129)) ∧ a_go len b n hs lk = a_judge len b
theorem an_lt {len : Nat} {b : Nat → Nat} {i n : Nat} {hs : Nat → Nat} {lk : Nat → Bool} {z y : Nat → Int32} (h : anI len b i n hs lk z y) (hi : i < 144) : i = a_least hs lk ∧ hs i ≠ 0 ∧ lk i = false ∧ i < 129 := by
  rcases h.2.2.2.1 with ⟨q, _⟩ | ⟨q, q2⟩
  · omega
  · have := a_least_in (hs := hs) (lk := lk) (by omega)
    rw [← q] at this
    exact ⟨q, this⟩
theorem an_ret {len : Nat} {b : Nat → Nat} {i n : Nat} {hs : Nat → Nat} {lk : Nat → Bool} {z y u : Nat → Int32} (h : anI len b i n hs lk z y) (hn : a_cu lk 129 ≤ n) (hi : i < 144) (hr : (a_look len b hs i).1 ≠ 0) (hu : okA2 (a_look len b hs i).2 u) : nI (8 * i + (a_look len b hs i).1) = nI (a_judge len b).1 ∧ okA2 (a_judge len b).2 u := by
  obtain ⟨e, h1, h2, h3⟩ := an_lt h hi
  have hp := a_cu_pos h2 h3
  obtain ⟨n, rfl⟩ : ∃ k, n = k + 1 := ⟨n - 1, by omega⟩
  have hg := h.2.2.2.2
  rw [e] at hr hu ⊢
  rw [a_go_end (by omega) hr] at hg
  rw [← hg]
  exact ⟨rfl, hu⟩
theorem an_next {len : Nat} {b : Nat → Nat} {i p n : Nat} {hs : Nat → Nat} {lk : Nat → Bool} {z y u : Nat → Int32} (hl : len ≤ 96) (hb0 : ∀ j, len ≤ j → b j = 0) (h : anI len b i n hs lk z y) (hn : a_cu lk 129 ≤ n) (hi : i < 144) (hr : (a_look len b hs i).1 = 0) (hu : okA2 (a_look len b hs i).2 u)
    (hp : (p = 144 ∧ ∀ x, x < p → ¬ ((a_look len b hs i).2 x ≠ 0 ∧ va_up lk i true x = false)) ∨ (p < 144 ∧ ((a_look len b hs i).2 p ≠ 0 ∧ va_up lk i true p = false) ∧ ∀ x, x < p → ¬ ((a_look len b hs i).2 x ≠ 0 ∧ va_up lk i true x = false))) :
    a_cu (va_up lk i true) 129 ≤ n - 1 ∧ n - 1 < n ∧ anI len b p (n - 1) (a_look len b hs i).2 (va_up lk i true) u (upd y i (nI 1)) := by
  obtain ⟨e, h1, h2, h3⟩ := an_lt h hi
  have hc := a_cu_lt h2 h3
  obtain ⟨n, rfl⟩ : ∃ k, n = k + 1 := ⟨n - 1, by omega⟩
  have hg := h.2.2.2.2
  have ho := okH_look hl hb0 h.2.2.1 h1
  refine ⟨by omega, by omega, hu, okL2_up h.2.1, ho, ?_, ?_⟩
  · rcases hp with ⟨p1, p2⟩ | ⟨p1, p2, p3⟩
    · exact Or.inl ⟨p1, a_least_no (fun x hx => p2 x (by omega))⟩
    · have := (ho p).2 p2.1
      exact Or.inr ⟨(a_least_hit p2 this.1 p3).symm, by omega⟩
  · rw [e] at hr ⊢
    rw [a_go_on (by omega) hr] at hg
    exact hg
theorem an_end {len : Nat} {b : Nat → Nat} {i n : Nat} {hs : Nat → Nat} {lk : Nat → Bool} {z y : Nat → Int32} (h : anI len b i n hs lk z y) (hi : 144 ≤ i) : nI 0 = nI (a_judge len b).1 ∧ okA2 (a_judge len b).2 z := by
  rcases h.2.2.2.1 with ⟨_, q⟩ | ⟨q, q2⟩
  · have hg := h.2.2.2.2
    rw [a_go_no q] at hg
    rw [← hg]
    exact ⟨rfl, h.1⟩
  · have := a_least_in (hs := hs) (lk := lk) (by omega)
    omega

abbrev y_M_numberOf : MethodName := ⟨"WideStackModel", "numberOf", "(I)I"⟩
theorem d_M_numberOf_0 : decode prog_12_method_52_code 0 = .ok (.iconst 0, 1) := by decide +kernel
theorem d_M_numberOf_1 : decode prog_12_method_52_code 1 = .ok (.istore_n 2, 1) := by decide +kernel
theorem d_M_numberOf_2 : decode prog_12_method_52_code 2 = .ok (.iload_n 1, 1) := by decide +kernel
theorem d_M_numberOf_3 : decode prog_12_method_52_code 3 = .ok (.iconst 1, 1) := by decide +kernel
theorem d_M_numberOf_4 : decode prog_12_method_52_code 4 = .ok (.iadd, 1) := by decide +kernel
theorem d_M_numberOf_5 : decode prog_12_method_52_code 5 = .ok (.istore_n 3, 1) := by decide +kernel
theorem d_M_numberOf_6 : decode prog_12_method_52_code 6 = .ok (.iload_n 3, 1) := by decide +kernel
theorem d_M_numberOf_7 : decode prog_12_method_52_code 7 = .ok (.iload_n 1, 1) := by decide +kernel
theorem d_M_numberOf_8 : decode prog_12_method_52_code 8 = .ok (.aload_n 0, 1) := by decide +kernel
theorem d_M_numberOf_9 : decode prog_12_method_52_code 9 = .ok (.iload_n 1, 1) := by decide +kernel
theorem d_M_numberOf_10 : decode prog_12_method_52_code 10 = .ok (.invokevirtual 41, 3) := by decide +kernel
theorem d_M_numberOf_13 : decode prog_12_method_52_code 13 = .ok (.invokestatic 45, 3) := by decide +kernel
theorem d_M_numberOf_16 : decode prog_12_method_52_code 16 = .ok (.if_icmp .ge 33, 3) := by decide +kernel
theorem d_M_numberOf_19 : decode prog_12_method_52_code 19 = .ok (.iload_n 2, 1) := by decide +kernel
theorem d_M_numberOf_20 : decode prog_12_method_52_code 20 = .ok (.sipush 255, 3) := by decide +kernel
theorem d_M_numberOf_23 : decode prog_12_method_52_code 23 = .ok (.if_icmp .le 8, 3) := by decide +kernel
theorem d_M_numberOf_26 : decode prog_12_method_52_code 26 = .ok (.ldc 52, 2) := by decide +kernel
theorem d_M_numberOf_28 : decode prog_12_method_52_code 28 = .ok (.goto 14, 3) := by decide +kernel
theorem d_M_numberOf_31 : decode prog_12_method_52_code 31 = .ok (.sipush 256, 3) := by decide +kernel
theorem d_M_numberOf_34 : decode prog_12_method_52_code 34 = .ok (.iload_n 2, 1) := by decide +kernel
theorem d_M_numberOf_35 : decode prog_12_method_52_code 35 = .ok (.imul, 1) := by decide +kernel
theorem d_M_numberOf_36 : decode prog_12_method_52_code 36 = .ok (.aload_n 0, 1) := by decide +kernel
theorem d_M_numberOf_37 : decode prog_12_method_52_code 37 = .ok (.iload_n 3, 1) := by decide +kernel
theorem d_M_numberOf_38 : decode prog_12_method_52_code 38 = .ok (.invokevirtual 41, 3) := by decide +kernel
theorem d_M_numberOf_41 : decode prog_12_method_52_code 41 = .ok (.iadd, 1) := by decide +kernel
theorem d_M_numberOf_42 : decode prog_12_method_52_code 42 = .ok (.istore_n 2, 1) := by decide +kernel
theorem d_M_numberOf_43 : decode prog_12_method_52_code 43 = .ok (.iinc 3 1, 3) := by decide +kernel
theorem d_M_numberOf_46 : decode prog_12_method_52_code 46 = .ok (.goto (-40), 3) := by decide +kernel
theorem d_M_numberOf_49 : decode prog_12_method_52_code 49 = .ok (.iload_n 2, 1) := by decide +kernel
theorem d_M_numberOf_50 : decode prog_12_method_52_code 50 = .ok (.ireturn, 1) := by decide +kernel
def rm_c_M_numberOf : Room := { frames := 2, cells := 0, slots := 0, locals := 41 }
set_option maxHeartbeats 4000000 in
set_option maxRecDepth 100000 in
theorem c_M_numberOf (l : Launch) (E : kE) (mo mb mm mw mh ml len en gas ctr siz hgt frm ret : Nat) (on ay : Bool) (nb bb : Nat → Nat) (okb : okB len bb nb) (i : Nat) (hi : i < 1000) : Kp l y_M_numberOf (kW y_M_numberOf prog_12_method_52_code 4 (some .int)) rm_c_M_numberOf E [.ref mo, .int (nI i)] [(mo, .inr (8, [.int (nI len), .ref mb, .int (kb on), .int (nI en), .int (nI gas), .int (nI ctr), .int (nI siz), .int (nI hgt), .int (nI frm), .int (nI ret), .ref mm, .ref mw, .ref mh, .ref ml, .int (kb ay)])), (mb, .inl (E.2.1 0, 96, .inl (nF nb)))] (fun r => r = nI (min (m_num bb (i + 1) (m_numl (bb i))) 65535)) := by
  refine Kp.ofI (cc := prog_12_method_52_code) (maxL := 4) (by decide) (Nat.le_of_ble_eq_true rfl) ?_
  intro p e s m args below meth c A ls Q hx hb hts hown hml hK hG hA hP hD hS hl hret
  have hl : lv_has ls 4 [(0, .ref mo), (1, .int (nI i))] := hl
  have hnl := m_numl_le (bb i)
  refine lv_iconst (v := nI 0) hx hb d_M_numberOf_0 (by decide) ?_
  refine lv_istore_n (lv' := [(2, .int (nI 0)), (0, .ref mo), (1, .int (nI i))]) hx hb d_M_numberOf_1 rfl hl (by decide) rfl (fun ls hl => ?_)
  refine lv_iload_n hx hb d_M_numberOf_2 rfl (lv_at hl 2 rfl) ?_
  refine lv_iconst (v := nI 1) hx hb d_M_numberOf_3 (by decide) ?_
  refine lv_iadd hx hb d_M_numberOf_4 ?_
  refine k_top (nI_add _ _) ?_
  refine lv_istore_n (lv' := [(3, .int (nI (i + 1))), (2, .int (nI 0)), (0, .ref mo), (1, .int (nI i))]) hx hb d_M_numberOf_5 rfl hl (by decide) rfl (fun ls hl => ?_)
  have key6 : ∀ (n : Nat) (k : Nat) (ls : Array Slot), k + n = m_numl (bb i) → True → lv_has ls 4 [(3, .int (nI (i + 1 + k))), (2, .int (nI (min (m_num bb (i + 1) k) 65535))), (0, .ref mo), (1, .int (nI i))] → W p l e rm_c_M_numberOf s m args below meth c s.heap [] 0 0 Q (F0 m 6 ls []) := by
    intro n
    induction n using Nat.strongRecOn with
    | ind n ih =>
      intro k ls hn hI hl
      refine lv_iload_n hx hb d_M_numberOf_6 rfl (lv_at hl 0 rfl) ?_
      refine lv_iload_n hx hb d_M_numberOf_7 rfl (lv_at hl 3 rfl) ?_
      refine lv_aload_n hx hb d_M_numberOf_8 rfl (lv_at hl 2 rfl) ?_
      refine lv_iload_n hx hb d_M_numberOf_9 rfl (lv_at hl 3 rfl) ?_
      refine k_Vp (As := [.int (nI i)]) (rest := [.int (nI i), .int (nI (i + 1 + k))]) ⟨hx, hb, hml, hown, hts⟩ (c_M_at l E mo mb mm mw mh ml len en gas ctr siz hgt frm ret on ay nb bb okb i (by omega)) (k_cwV 1 hts t_809 t_811 t_27 t_71 t_812 (by decide +kernel) ⟨Nat.le_of_ble_eq_true rfl, Nat.le_of_ble_eq_true rfl⟩) hK hG hA hP hD hS [0, 1] rfl (by decide) 0 rfl rfl rfl hl.1 rfl (Nat.le_of_ble_eq_true rfl) d_M_numberOf_10 ⟨Nat.zero_le _, Nat.zero_le _⟩ (fun r10 hu10 => ?_)
      subst hu10
      refine k_Sp (As := [.int (nI i), .int (nI (bb i))]) (rest := [.int (nI (i + 1 + k))]) ⟨hx, hb, hml, hown, hts⟩ (c_M_behind l E i (bb i) (okb.2.2.1 i)) (k_cwS 2 hts t_813 t_814 t_71 t_815 (by decide +kernel) ⟨Nat.le_of_ble_eq_true rfl, Nat.le_of_ble_eq_true rfl⟩) hK hG hA hP hD hS [] rfl (by decide) rfl hl.1 rfl (Nat.le_of_ble_eq_true rfl) d_M_numberOf_13 ⟨Nat.zero_le _, Nat.zero_le _⟩ (fun r13 hu13 => ?_)
      subst hu13
      refine kn_ge (tgt := 49) hx hb (by omega) (by omega) d_M_numberOf_16 (by decide) (fun h16 => ?_) (fun h16 => ?_)
      · refine lv_iload_n hx hb d_M_numberOf_49 rfl (lv_at hl 1 rfl) ?_
        obtain rfl : k = m_numl (bb i) := by omega
        exact hret _ ls _ d_M_numberOf_50 rfl
      · refine lv_iload_n hx hb d_M_numberOf_19 rfl (lv_at hl 1 rfl) ?_
        refine lv_sipush (v := nI 255) hx hb d_M_numberOf_20 (by decide) ?_
        refine kn_le (tgt := 31) hx hb (by omega) (by omega) d_M_numberOf_23 (by decide) (fun h23 => ?_) (fun h23 => ?_)
        · refine lv_sipush (v := nI 256) hx hb d_M_numberOf_31 (by decide) ?_
          refine lv_iload_n hx hb d_M_numberOf_34 rfl (lv_at hl 1 rfl) ?_
          refine lv_imul hx hb d_M_numberOf_35 ?_
          refine k_top (pk_mul _ _) ?_
          refine lv_aload_n hx hb d_M_numberOf_36 rfl (lv_at hl 2 rfl) ?_
          refine lv_iload_n hx hb d_M_numberOf_37 rfl (lv_at hl 0 rfl) ?_
          refine k_Vp (As := [.int (nI (i + 1 + k))]) (rest := [.int (nI (256 * (min (m_num bb (i + 1) k) 65535)))]) ⟨hx, hb, hml, hown, hts⟩ (c_M_at l E mo mb mm mw mh ml len en gas ctr siz hgt frm ret on ay nb bb okb (i + 1 + k) (by omega)) (k_cwV 1 hts t_809 t_811 t_27 t_71 t_812 (by decide +kernel) ⟨Nat.le_of_ble_eq_true rfl, Nat.le_of_ble_eq_true rfl⟩) hK hG hA hP hD hS [0, 1] rfl (by decide) 0 rfl rfl rfl hl.1 rfl (Nat.le_of_ble_eq_true rfl) d_M_numberOf_38 ⟨Nat.zero_le _, Nat.zero_le _⟩ (fun r38 hu38 => ?_)
          subst hu38
          refine lv_iadd hx hb d_M_numberOf_41 ?_
          refine k_top (nI_add _ _) ?_
          refine k_top (congrArg nI (nof_step (k := k) okb.2.2.1 (by exact Or.inr ⟨by omega, rfl⟩))) ?_
          refine lv_istore_n (lv' := [(2, .int (nI (min (m_num bb (i + 1) (k + 1)) 65535))), (3, .int (nI (i + 1 + k))), (0, .ref mo), (1, .int (nI i))]) hx hb d_M_numberOf_42 rfl hl (by decide) rfl (fun ls hl => ?_)
          refine lv_iinc (k := 1) (v := nI (i + 1 + k + 1)) (lv' := [(3, .int (nI (i + 1 + k + 1))), (2, .int (nI (min (m_num bb (i + 1) (k + 1)) 65535))), (0, .ref mo), (1, .int (nI i))]) hx hb d_M_numberOf_43 hl rfl (k_inc _) (by decide) rfl (fun ls hl => ?_)
          refine lv_goto (tgt := 6) hx hb d_M_numberOf_46 (by decide) ?_
          exact ih (n - 1) (by omega) (k + 1) ls (by omega) trivial (lv_sub hl [0, 1, 2, 3] rfl)
        · refine lv_ldc (v := 65535) hx hb hown (hts _ t_827) d_M_numberOf_26 ?_
          refine k_top (y := nI 65535) (by decide) ?_
          refine lv_goto (tgt := 42) hx hb d_M_numberOf_28 (by decide) ?_
          refine k_top (congrArg nI (nof_step (k := k) okb.2.2.1 (by exact Or.inl ⟨by omega, rfl⟩))) ?_
          refine lv_istore_n (lv' := [(2, .int (nI (min (m_num bb (i + 1) (k + 1)) 65535))), (3, .int (nI (i + 1 + k))), (0, .ref mo), (1, .int (nI i))]) hx hb d_M_numberOf_42 rfl hl (by decide) rfl (fun ls hl => ?_)
          refine lv_iinc (k := 1) (v := nI (i + 1 + k + 1)) (lv' := [(3, .int (nI (i + 1 + k + 1))), (2, .int (nI (min (m_num bb (i + 1) (k + 1)) 65535))), (0, .ref mo), (1, .int (nI i))]) hx hb d_M_numberOf_43 hl rfl (k_inc _) (by decide) rfl (fun ls hl => ?_)
          refine lv_goto (tgt := 6) hx hb d_M_numberOf_46 (by decide) ?_
          exact ih (n - 1) (by omega) (k + 1) ls (by omega) trivial (lv_sub hl [0, 1, 2, 3] rfl)
  exact key6 (m_numl (bb i)) 0 ls (by omega) trivial (lv_sub hl [0, 1, 2, 3] rfl)

abbrev y_M_reach : MethodName := ⟨"WideStackModel", "reach", "(II)Z"⟩
theorem d_M_reach_0 : decode prog_12_method_53_code 0 = .ok (.aload_n 0, 1) := by decide +kernel
theorem d_M_reach_1 : decode prog_12_method_53_code 1 = .ok (.getfield 19, 3) := by decide +kernel
theorem d_M_reach_4 : decode prog_12_method_53_code 4 = .ok (.iload_n 1, 1) := by decide +kernel
theorem d_M_reach_5 : decode prog_12_method_53_code 5 = .ok (.iaload, 1) := by decide +kernel
theorem d_M_reach_6 : decode prog_12_method_53_code 6 = .ok (.ifCond .ge 10, 3) := by decide +kernel
theorem d_M_reach_9 : decode prog_12_method_53_code 9 = .ok (.aload_n 0, 1) := by decide +kernel
theorem d_M_reach_10 : decode prog_12_method_53_code 10 = .ok (.getfield 19, 3) := by decide +kernel
theorem d_M_reach_13 : decode prog_12_method_53_code 13 = .ok (.iload_n 1, 1) := by decide +kernel
theorem d_M_reach_14 : decode prog_12_method_53_code 14 = .ok (.iload_n 2, 1) := by decide +kernel
theorem d_M_reach_15 : decode prog_12_method_53_code 15 = .ok (.iastore, 1) := by decide +kernel
theorem d_M_reach_16 : decode prog_12_method_53_code 16 = .ok (.aload_n 0, 1) := by decide +kernel
theorem d_M_reach_17 : decode prog_12_method_53_code 17 = .ok (.getfield 19, 3) := by decide +kernel
theorem d_M_reach_20 : decode prog_12_method_53_code 20 = .ok (.iload_n 1, 1) := by decide +kernel
theorem d_M_reach_21 : decode prog_12_method_53_code 21 = .ok (.iaload, 1) := by decide +kernel
theorem d_M_reach_22 : decode prog_12_method_53_code 22 = .ok (.iload_n 2, 1) := by decide +kernel
theorem d_M_reach_23 : decode prog_12_method_53_code 23 = .ok (.if_icmp .ne 7, 3) := by decide +kernel
theorem d_M_reach_26 : decode prog_12_method_53_code 26 = .ok (.iconst 1, 1) := by decide +kernel
theorem d_M_reach_27 : decode prog_12_method_53_code 27 = .ok (.goto 4, 3) := by decide +kernel
theorem d_M_reach_30 : decode prog_12_method_53_code 30 = .ok (.iconst 0, 1) := by decide +kernel
theorem d_M_reach_31 : decode prog_12_method_53_code 31 = .ok (.ireturn, 1) := by decide +kernel
def rm_c_M_reach : Room := { frames := 0, cells := 0, slots := 0, locals := 0 }
set_option maxHeartbeats 4000000 in
set_option maxRecDepth 100000 in
theorem c_M_reach (l : Launch) (E : kE) (mo mb mm mw mh ml len en gas ctr siz hgt frm ret : Nat) (on ay : Bool) (fh : Nat → Int32) (hs : Nat → Nat) (hH : okA2 hs fh) (i x : Nat) (hi : i < 144) (hx0 : x ≤ 16) : Ki l y_M_reach (kW y_M_reach prog_12_method_53_code 3 (some .boolean)) rm_c_M_reach E [.ref mo, .int (nI i), .int (nI x)] [(mo, .inr (8, [.int (nI len), .ref mb, .int (kb on), .int (nI en), .int (nI gas), .int (nI ctr), .int (nI siz), .int (nI hgt), .int (nI frm), .int (nI ret), .ref mm, .ref mw, .ref mh, .ref ml, .int (kb ay)])), (mh, .inl (E.2.1 0, 144, .inl fh))] (S := Nat → Int32) (fun r u => r = kb (decide (a_rch hs i x i = x + 1)) ∧ ∀ j, j < 144 → u j = m1 (a_rch hs i x j)) (fun u => [(mo, .inr (8, [.int (nI len), .ref mb, .int (kb on), .int (nI en), .int (nI gas), .int (nI ctr), .int (nI siz), .int (nI hgt), .int (nI frm), .int (nI ret), .ref mm, .ref mw, .ref mh, .ref ml, .int (kb ay)])), (mh, .inl (E.2.1 0, 144, .inl u))]) := by
  refine Ki.ofZ (cc := prog_12_method_53_code) (maxL := 3) (by decide) (Nat.le_of_ble_eq_true rfl) ?_
  intro p e s m args below meth c A ls Q hx hb hts hown hml hK hG hA hP hD hS hl hret
  have hl : lv_has ls 3 [(0, .ref mo), (1, .int (nI i)), (2, .int (nI x))] := hl
  refine lv_aload_n hx hb d_M_reach_0 rfl (lv_at hl 0 rfl) ?_
  refine va_get (D := E.1) (ci := 8) (v := .ref mh) (C := "WideStackModel") (T := T_M) (N := 15) hx hb hts in_M hown hK hP 0 rfl rfl 12 (by decide) (hts _ t_759) (fun _ h9 => h9) rfl d_M_reach_1 ?_
  refine lv_iload_n hx hb d_M_reach_4 rfl (lv_at hl 1 rfl) ?_
  refine k_iald hx hb hK hP 1 rfl (i := i) (by omega) (by omega) d_M_reach_5 ?_
  refine lv_if_ge (tgt := 16) hx hb d_M_reach_6 (by decide) (fun h6 => ?_) (fun h6 => ?_)
  · refine lv_aload_n hx hb d_M_reach_16 rfl (lv_at hl 0 rfl) ?_
    refine va_get (D := E.1) (ci := 8) (v := .ref mh) (C := "WideStackModel") (T := T_M) (N := 15) hx hb hts in_M hown hK hP 0 rfl rfl 12 (by decide) (hts _ t_759) (fun _ h9 => h9) rfl d_M_reach_17 ?_
    refine lv_iload_n hx hb d_M_reach_20 rfl (lv_at hl 1 rfl) ?_
    refine k_iald hx hb hK hP 1 rfl (i := i) (by omega) (by omega) d_M_reach_21 ?_
    refine lv_iload_n hx hb d_M_reach_22 rfl (lv_at hl 2 rfl) ?_
    refine lv_icmp_ne (tgt := 30) hx hb d_M_reach_23 (by decide) (fun h23 => ?_) (fun h23 => ?_)
    · refine lv_iconst (v := nI 0) hx hb d_M_reach_30 (by decide) ?_
      first | exact hret _ ls _ _ _ (upd fh i (nI x)) d_M_reach_31 (by decide) (rc2_new hH hi h6) hP hS | exact hret _ ls _ _ _ fh d_M_reach_31 (by decide) (rc2_old hH hi hx0 h6 (Or.inl ⟨h23, rfl⟩)) hP hS | exact hret _ ls _ _ _ fh d_M_reach_31 (by decide) (rc2_old hH hi hx0 h6 (Or.inr ⟨h23, rfl⟩)) hP hS
    · refine lv_iconst (v := nI 1) hx hb d_M_reach_26 (by decide) ?_
      refine lv_goto (tgt := 31) hx hb d_M_reach_27 (by decide) ?_
      first | exact hret _ ls _ _ _ (upd fh i (nI x)) d_M_reach_31 (by decide) (rc2_new hH hi h6) hP hS | exact hret _ ls _ _ _ fh d_M_reach_31 (by decide) (rc2_old hH hi hx0 h6 (Or.inl ⟨h23, rfl⟩)) hP hS | exact hret _ ls _ _ _ fh d_M_reach_31 (by decide) (rc2_old hH hi hx0 h6 (Or.inr ⟨h23, rfl⟩)) hP hS
  · refine lv_aload_n hx hb d_M_reach_9 rfl (lv_at hl 0 rfl) ?_
    refine va_get (D := E.1) (ci := 8) (v := .ref mh) (C := "WideStackModel") (T := T_M) (N := 15) hx hb hts in_M hown hK hP 0 rfl rfl 12 (by decide) (hts _ t_759) (fun _ h9 => h9) rfl d_M_reach_10 ?_
    refine lv_iload_n hx hb d_M_reach_13 rfl (lv_at hl 1 rfl) ?_
    refine lv_iload_n hx hb d_M_reach_14 rfl (lv_at hl 2 rfl) ?_
    refine k_iast hx hb hK hP hD hS 1 rfl (i := i) (by omega) (by omega) d_M_reach_15 (fun H locs hP hD hS => ?_)
    have hP : va_P E.1 vwCl [(mo, .inr (8, [.int (nI len), .ref mb, .int (kb on), .int (nI en), .int (nI gas), .int (nI ctr), .int (nI siz), .int (nI hgt), .int (nI frm), .int (nI ret), .ref mm, .ref mw, .ref mh, .ref ml, .int (kb ay)])), (mh, .inl (E.2.1 0, 144, .inl (upd fh i (nI x))))] H := hP
    have hD : va_D A [(mo, .inr (8, [.int (nI len), .ref mb, .int (kb on), .int (nI en), .int (nI gas), .int (nI ctr), .int (nI siz), .int (nI hgt), .int (nI frm), .int (nI ret), .ref mm, .ref mw, .ref mh, .ref ml, .int (kb ay)])), (mh, .inl (E.2.1 0, 144, .inl (upd fh i (nI x))))] := hD
    refine lv_aload_n hx hb d_M_reach_16 rfl (lv_at hl 0 rfl) ?_
    refine va_get (D := E.1) (ci := 8) (v := .ref mh) (C := "WideStackModel") (T := T_M) (N := 15) hx hb hts in_M hown hK hP 0 rfl rfl 12 (by decide) (hts _ t_759) (fun _ h9 => h9) rfl d_M_reach_17 ?_
    refine lv_iload_n hx hb d_M_reach_20 rfl (lv_at hl 1 rfl) ?_
    refine k_iald hx hb hK hP 1 rfl (i := i) (by omega) (by omega) d_M_reach_21 ?_
    refine lv_iload_n hx hb d_M_reach_22 rfl (lv_at hl 2 rfl) ?_
    refine lv_icmp_ne (tgt := 30) hx hb d_M_reach_23 (by decide) (fun h23 => ?_) (fun h23 => ?_)
    · exact absurd pk_us h23
    · refine lv_iconst (v := nI 1) hx hb d_M_reach_26 (by decide) ?_
      refine lv_goto (tgt := 31) hx hb d_M_reach_27 (by decide) ?_
      first | exact hret _ ls _ _ _ (upd fh i (nI x)) d_M_reach_31 (by decide) (rc2_new hH hi h6) hP hS | exact hret _ ls _ _ _ fh d_M_reach_31 (by decide) (rc2_old hH hi hx0 h6 (Or.inl ⟨h23, rfl⟩)) hP hS | exact hret _ ls _ _ _ fh d_M_reach_31 (by decide) (rc2_old hH hi hx0 h6 (Or.inr ⟨h23, rfl⟩)) hP hS

abbrev y_M_look : MethodName := ⟨"WideStackModel", "look", "(I)I"⟩
theorem d_M_look_0 : decode prog_12_method_54_code 0 = .ok (.aload_n 0, 1) := by decide +kernel
theorem d_M_look_1 : decode prog_12_method_54_code 1 = .ok (.iload_n 1, 1) := by decide +kernel
theorem d_M_look_2 : decode prog_12_method_54_code 2 = .ok (.invokevirtual 41, 3) := by decide +kernel
theorem d_M_look_5 : decode prog_12_method_54_code 5 = .ok (.istore_n 2, 1) := by decide +kernel
theorem d_M_look_6 : decode prog_12_method_54_code 6 = .ok (.aload_n 0, 1) := by decide +kernel
theorem d_M_look_7 : decode prog_12_method_54_code 7 = .ok (.getfield 19, 3) := by decide +kernel
theorem d_M_look_10 : decode prog_12_method_54_code 10 = .ok (.iload_n 1, 1) := by decide +kernel
theorem d_M_look_11 : decode prog_12_method_54_code 11 = .ok (.iaload, 1) := by decide +kernel
theorem d_M_look_12 : decode prog_12_method_54_code 12 = .ok (.istore_n 3, 1) := by decide +kernel
theorem d_M_look_13 : decode prog_12_method_54_code 13 = .ok (.iload_n 2, 1) := by decide +kernel
theorem d_M_look_14 : decode prog_12_method_54_code 14 = .ok (.invokestatic 112, 3) := by decide +kernel
theorem d_M_look_17 : decode prog_12_method_54_code 17 = .ok (.ifCond .ne 5, 3) := by decide +kernel
theorem d_M_look_20 : decode prog_12_method_54_code 20 = .ok (.iconst 1, 1) := by decide +kernel
theorem d_M_look_21 : decode prog_12_method_54_code 21 = .ok (.ireturn, 1) := by decide +kernel
theorem d_M_look_22 : decode prog_12_method_54_code 22 = .ok (.iload_n 3, 1) := by decide +kernel
theorem d_M_look_23 : decode prog_12_method_54_code 23 = .ok (.iload_n 2, 1) := by decide +kernel
theorem d_M_look_24 : decode prog_12_method_54_code 24 = .ok (.invokestatic 115, 3) := by decide +kernel
theorem d_M_look_27 : decode prog_12_method_54_code 27 = .ok (.if_icmp .lt 19, 3) := by decide +kernel
theorem d_M_look_30 : decode prog_12_method_54_code 30 = .ok (.iload_n 3, 1) := by decide +kernel
theorem d_M_look_31 : decode prog_12_method_54_code 31 = .ok (.iload_n 2, 1) := by decide +kernel
theorem d_M_look_32 : decode prog_12_method_54_code 32 = .ok (.invokestatic 115, 3) := by decide +kernel
theorem d_M_look_35 : decode prog_12_method_54_code 35 = .ok (.isub, 1) := by decide +kernel
theorem d_M_look_36 : decode prog_12_method_54_code 36 = .ok (.iload_n 2, 1) := by decide +kernel
theorem d_M_look_37 : decode prog_12_method_54_code 37 = .ok (.invokestatic 118, 3) := by decide +kernel
theorem d_M_look_40 : decode prog_12_method_54_code 40 = .ok (.iadd, 1) := by decide +kernel
theorem d_M_look_41 : decode prog_12_method_54_code 41 = .ok (.bipush 16, 2) := by decide +kernel
theorem d_M_look_43 : decode prog_12_method_54_code 43 = .ok (.if_icmp .le 5, 3) := by decide +kernel
theorem d_M_look_46 : decode prog_12_method_54_code 46 = .ok (.iconst 2, 1) := by decide +kernel
theorem d_M_look_47 : decode prog_12_method_54_code 47 = .ok (.ireturn, 1) := by decide +kernel
theorem d_M_look_48 : decode prog_12_method_54_code 48 = .ok (.iload_n 3, 1) := by decide +kernel
theorem d_M_look_49 : decode prog_12_method_54_code 49 = .ok (.iload_n 2, 1) := by decide +kernel
theorem d_M_look_50 : decode prog_12_method_54_code 50 = .ok (.invokestatic 115, 3) := by decide +kernel
theorem d_M_look_53 : decode prog_12_method_54_code 53 = .ok (.isub, 1) := by decide +kernel
theorem d_M_look_54 : decode prog_12_method_54_code 54 = .ok (.iload_n 2, 1) := by decide +kernel
theorem d_M_look_55 : decode prog_12_method_54_code 55 = .ok (.invokestatic 118, 3) := by decide +kernel
theorem d_M_look_58 : decode prog_12_method_54_code 58 = .ok (.iadd, 1) := by decide +kernel
theorem d_M_look_59 : decode prog_12_method_54_code 59 = .ok (.istore_n 3, 1) := by decide +kernel
theorem d_M_look_60 : decode prog_12_method_54_code 60 = .ok (.iconst (-1), 1) := by decide +kernel
theorem d_M_look_61 : decode prog_12_method_54_code 61 = .ok (.istore 4, 2) := by decide +kernel
theorem d_M_look_63 : decode prog_12_method_54_code 63 = .ok (.iload_n 2, 1) := by decide +kernel
theorem d_M_look_64 : decode prog_12_method_54_code 64 = .ok (.bipush 86, 2) := by decide +kernel
theorem d_M_look_66 : decode prog_12_method_54_code 66 = .ok (.if_icmp .eq 9, 3) := by decide +kernel
theorem d_M_look_69 : decode prog_12_method_54_code 69 = .ok (.iload_n 2, 1) := by decide +kernel
theorem d_M_look_70 : decode prog_12_method_54_code 70 = .ok (.bipush 87, 2) := by decide +kernel
theorem d_M_look_72 : decode prog_12_method_54_code 72 = .ok (.if_icmp .ne 48, 3) := by decide +kernel
theorem d_M_look_75 : decode prog_12_method_54_code 75 = .ok (.aload_n 0, 1) := by decide +kernel
theorem d_M_look_76 : decode prog_12_method_54_code 76 = .ok (.iload_n 1, 1) := by decide +kernel
theorem d_M_look_77 : decode prog_12_method_54_code 77 = .ok (.invokevirtual 49, 3) := by decide +kernel
theorem d_M_look_80 : decode prog_12_method_54_code 80 = .ok (.istore 5, 2) := by decide +kernel
theorem d_M_look_82 : decode prog_12_method_54_code 82 = .ok (.iload 5, 2) := by decide +kernel
theorem d_M_look_84 : decode prog_12_method_54_code 84 = .ok (.ifCond .lt 15, 3) := by decide +kernel
theorem d_M_look_87 : decode prog_12_method_54_code 87 = .ok (.aload_n 0, 1) := by decide +kernel
theorem d_M_look_88 : decode prog_12_method_54_code 88 = .ok (.iload 5, 2) := by decide +kernel
theorem d_M_look_90 : decode prog_12_method_54_code 90 = .ok (.invokevirtual 41, 3) := by decide +kernel
theorem d_M_look_93 : decode prog_12_method_54_code 93 = .ok (.invokestatic 37, 3) := by decide +kernel
theorem d_M_look_96 : decode prog_12_method_54_code 96 = .ok (.ifCond .ne 5, 3) := by decide +kernel
theorem d_M_look_99 : decode prog_12_method_54_code 99 = .ok (.iconst 3, 1) := by decide +kernel
theorem d_M_look_100 : decode prog_12_method_54_code 100 = .ok (.ireturn, 1) := by decide +kernel
theorem d_M_look_101 : decode prog_12_method_54_code 101 = .ok (.aload_n 0, 1) := by decide +kernel
theorem d_M_look_102 : decode prog_12_method_54_code 102 = .ok (.iload 5, 2) := by decide +kernel
theorem d_M_look_104 : decode prog_12_method_54_code 104 = .ok (.invokevirtual 185, 3) := by decide +kernel
theorem d_M_look_107 : decode prog_12_method_54_code 107 = .ok (.istore 4, 2) := by decide +kernel
theorem d_M_look_109 : decode prog_12_method_54_code 109 = .ok (.aload_n 0, 1) := by decide +kernel
theorem d_M_look_110 : decode prog_12_method_54_code 110 = .ok (.iload 4, 2) := by decide +kernel
theorem d_M_look_112 : decode prog_12_method_54_code 112 = .ok (.invokevirtual 127, 3) := by decide +kernel
theorem d_M_look_115 : decode prog_12_method_54_code 115 = .ok (.ifCond .ne 5, 3) := by decide +kernel
theorem d_M_look_118 : decode prog_12_method_54_code 118 = .ok (.iconst 4, 1) := by decide +kernel
theorem d_M_look_119 : decode prog_12_method_54_code 119 = .ok (.ireturn, 1) := by decide +kernel
theorem d_M_look_120 : decode prog_12_method_54_code 120 = .ok (.iload_n 2, 1) := by decide +kernel
theorem d_M_look_121 : decode prog_12_method_54_code 121 = .ok (.ifCond .eq 10, 3) := by decide +kernel
theorem d_M_look_124 : decode prog_12_method_54_code 124 = .ok (.iload_n 2, 1) := by decide +kernel
theorem d_M_look_125 : decode prog_12_method_54_code 125 = .ok (.sipush 243, 3) := by decide +kernel
theorem d_M_look_128 : decode prog_12_method_54_code 128 = .ok (.if_icmp .ne 7, 3) := by decide +kernel
theorem d_M_look_131 : decode prog_12_method_54_code 131 = .ok (.iconst 1, 1) := by decide +kernel
theorem d_M_look_132 : decode prog_12_method_54_code 132 = .ok (.goto 4, 3) := by decide +kernel
theorem d_M_look_135 : decode prog_12_method_54_code 135 = .ok (.iconst 0, 1) := by decide +kernel
theorem d_M_look_136 : decode prog_12_method_54_code 136 = .ok (.istore 5, 2) := by decide +kernel
theorem d_M_look_138 : decode prog_12_method_54_code 138 = .ok (.iload 5, 2) := by decide +kernel
theorem d_M_look_140 : decode prog_12_method_54_code 140 = .ok (.ifCond .ne 24, 3) := by decide +kernel
theorem d_M_look_143 : decode prog_12_method_54_code 143 = .ok (.iload_n 2, 1) := by decide +kernel
theorem d_M_look_144 : decode prog_12_method_54_code 144 = .ok (.bipush 86, 2) := by decide +kernel
theorem d_M_look_146 : decode prog_12_method_54_code 146 = .ok (.if_icmp .eq 18, 3) := by decide +kernel
theorem d_M_look_149 : decode prog_12_method_54_code 149 = .ok (.aload_n 0, 1) := by decide +kernel
theorem d_M_look_150 : decode prog_12_method_54_code 150 = .ok (.iload_n 1, 1) := by decide +kernel
theorem d_M_look_151 : decode prog_12_method_54_code 151 = .ok (.iload_n 2, 1) := by decide +kernel
theorem d_M_look_152 : decode prog_12_method_54_code 152 = .ok (.invokestatic 45, 3) := by decide +kernel
theorem d_M_look_155 : decode prog_12_method_54_code 155 = .ok (.iload_n 3, 1) := by decide +kernel
theorem d_M_look_156 : decode prog_12_method_54_code 156 = .ok (.invokevirtual 188, 3) := by decide +kernel
theorem d_M_look_159 : decode prog_12_method_54_code 159 = .ok (.ifCond .ne 5, 3) := by decide +kernel
theorem d_M_look_162 : decode prog_12_method_54_code 162 = .ok (.iconst 5, 1) := by decide +kernel
theorem d_M_look_163 : decode prog_12_method_54_code 163 = .ok (.ireturn, 1) := by decide +kernel
theorem d_M_look_164 : decode prog_12_method_54_code 164 = .ok (.iload 4, 2) := by decide +kernel
theorem d_M_look_166 : decode prog_12_method_54_code 166 = .ok (.ifCond .lt 17, 3) := by decide +kernel
theorem d_M_look_169 : decode prog_12_method_54_code 169 = .ok (.aload_n 0, 1) := by decide +kernel
theorem d_M_look_170 : decode prog_12_method_54_code 170 = .ok (.iload 4, 2) := by decide +kernel
theorem d_M_look_172 : decode prog_12_method_54_code 172 = .ok (.iload_n 3, 1) := by decide +kernel
theorem d_M_look_173 : decode prog_12_method_54_code 173 = .ok (.invokevirtual 188, 3) := by decide +kernel
theorem d_M_look_176 : decode prog_12_method_54_code 176 = .ok (.ifCond .ne 7, 3) := by decide +kernel
theorem d_M_look_179 : decode prog_12_method_54_code 179 = .ok (.iconst 5, 1) := by decide +kernel
theorem d_M_look_180 : decode prog_12_method_54_code 180 = .ok (.goto 4, 3) := by decide +kernel
theorem d_M_look_183 : decode prog_12_method_54_code 183 = .ok (.iconst 0, 1) := by decide +kernel
theorem d_M_look_184 : decode prog_12_method_54_code 184 = .ok (.ireturn, 1) := by decide +kernel
def rm_c_M_look : Room := { frames := 4, cells := 0, slots := 0, locals := 85 }
set_option maxHeartbeats 4000000 in
set_option maxRecDepth 100000 in
theorem c_M_look (l : Launch) (E : kE) (mo mb mm mw mh ml len en gas ctr siz hgt frm ret : Nat) (on ay : Bool) (nb bb : Nat → Nat) (okb : okB len bb nb) (fh : Nat → Int32) (hs : Nat → Nat) (hH : okA2 hs fh) (hO : okH len bb hs) (i : Nat) (hr0 : hs i ≠ 0) : Ki l y_M_look (kW y_M_look prog_12_method_54_code 6 (some .int)) rm_c_M_look E [.ref mo, .int (nI i)] [(mo, .inr (8, [.int (nI len), .ref mb, .int (kb on), .int (nI en), .int (nI gas), .int (nI ctr), .int (nI siz), .int (nI hgt), .int (nI frm), .int (nI ret), .ref mm, .ref mw, .ref mh, .ref ml, .int (kb ay)])), (mb, .inl (E.2.1 0, 96, .inl (nF nb))), (mh, .inl (E.2.1 0, 144, .inl fh))] (S := Nat → Int32) (fun r u => r = nI (a_look len bb hs i).1 ∧ okA2 (a_look len bb hs i).2 u) (fun u => [(mo, .inr (8, [.int (nI len), .ref mb, .int (kb on), .int (nI en), .int (nI gas), .int (nI ctr), .int (nI siz), .int (nI hgt), .int (nI frm), .int (nI ret), .ref mm, .ref mw, .ref mh, .ref ml, .int (kb ay)])), (mb, .inl (E.2.1 0, 96, .inl (nF nb))), (mh, .inl (E.2.1 0, 144, .inl u))]) := by
  refine Ki.ofI (cc := prog_12_method_54_code) (maxL := 6) (by decide) (Nat.le_of_ble_eq_true rfl) ?_
  intro p e s m args below meth c A ls Q hx hb hts hown hml hK hG hA hP hD hS hl hret
  have hl : lv_has ls 6 [(0, .ref mo), (1, .int (nI i))] := hl
  obtain ⟨hi, hio⟩ := (hO i).2 hr0
  have hlen := okb.1
  have ho : bb i < 256 := okb.2.2.1 i
  have h17 := hH.2 i
  have htl := m_takes_le (bb i) ho
  have hgl := m_gives_le (bb i) ho
  have hnl := m_numl_le (bb i)
  have hin : bb i ≠ 0 → i < len := fun q => Nat.lt_of_not_le (fun w => q (okb.2.1 i w))
  have hll := m_lat_le bb i
  refine lv_aload_n hx hb d_M_look_0 rfl (lv_at hl 0 rfl) ?_
  refine lv_iload_n hx hb d_M_look_1 rfl (lv_at hl 1 rfl) ?_
  refine k_Vp (As := [.int (nI i)]) (rest := []) ⟨hx, hb, hml, hown, hts⟩ (c_M_at l E mo mb mm mw mh ml len en gas ctr siz hgt frm ret on ay nb bb okb i (by omega)) (k_cwV 1 hts t_809 t_811 t_27 t_71 t_812 (by decide +kernel) ⟨Nat.le_of_ble_eq_true rfl, Nat.le_of_ble_eq_true rfl⟩) hK hG hA hP hD hS [0, 1] rfl (by decide) 0 rfl rfl rfl hl.1 rfl (Nat.le_of_ble_eq_true rfl) d_M_look_2 ⟨Nat.zero_le _, Nat.zero_le _⟩ (fun r2 hu2 => ?_)
  subst hu2
  refine lv_istore_n (lv' := [(2, .int (nI (bb i))), (0, .ref mo), (1, .int (nI i))]) hx hb d_M_look_5 rfl hl (by decide) rfl (fun ls hl => ?_)
  refine lv_aload_n hx hb d_M_look_6 rfl (lv_at hl 1 rfl) ?_
  refine va_get (D := E.1) (ci := 8) (v := .ref mh) (C := "WideStackModel") (T := T_M) (N := 15) hx hb hts in_M hown hK hP 0 rfl rfl 12 (by decide) (hts _ t_759) (fun _ h9 => h9) rfl d_M_look_7 ?_
  refine lv_iload_n hx hb d_M_look_10 rfl (lv_at hl 2 rfl) ?_
  refine k_iald hx hb hK hP 2 rfl (i := i) (by omega) (by omega) d_M_look_11 ?_
  refine k_top ((hH.1 i (by omega)).trans (m1_pos hr0)) ?_
  refine lv_istore_n (lv' := [(3, .int (nI (hs i - 1))), (2, .int (nI (bb i))), (0, .ref mo), (1, .int (nI i))]) hx hb d_M_look_12 rfl hl (by decide) rfl (fun ls hl => ?_)
  refine lv_iload_n hx hb d_M_look_13 rfl (lv_at hl 1 rfl) ?_
  refine k_Sp (As := [.int (nI (bb i))]) (rest := []) ⟨hx, hb, hml, hown, hts⟩ (c_M_known l E (bb i) ho) (k_cwS 1 hts t_840 t_841 t_71 t_842 (by decide +kernel) ⟨Nat.le_of_ble_eq_true rfl, Nat.le_of_ble_eq_true rfl⟩) hK hG hA hP hD hS [] rfl (by decide) rfl hl.1 rfl (Nat.le_of_ble_eq_true rfl) d_M_look_14 ⟨Nat.zero_le _, Nat.zero_le _⟩ (fun r14 hu14 => ?_)
  subst hu14
  refine lv_if_ne (tgt := 22) hx hb d_M_look_17 (by decide) (fun h17 => ?_) (fun h17 => ?_)
  · refine lv_iload_n hx hb d_M_look_22 rfl (lv_at hl 0 rfl) ?_
    refine lv_iload_n hx hb d_M_look_23 rfl (lv_at hl 1 rfl) ?_
    refine k_Sp (As := [.int (nI (bb i))]) (rest := [.int (nI (hs i - 1))]) ⟨hx, hb, hml, hown, hts⟩ (c_M_takes l E (bb i) ho) (k_cwS 1 hts t_843 t_844 t_71 t_845 (by decide +kernel) ⟨Nat.le_of_ble_eq_true rfl, Nat.le_of_ble_eq_true rfl⟩) hK hG hA hP hD hS [] rfl (by decide) rfl hl.1 rfl (Nat.le_of_ble_eq_true rfl) d_M_look_24 ⟨Nat.zero_le _, Nat.zero_le _⟩ (fun r24 hu24 => ?_)
    subst hu24
    refine kn_lt (tgt := 46) hx hb (by omega) (by omega) d_M_look_27 (by decide) (fun h27 => ?_) (fun h27 => ?_)
    · refine lv_iconst (v := nI 2) hx hb d_M_look_46 (by decide) ?_
      exact hret _ ls _ _ _ fh d_M_look_47 (al_post (al_2 (kb_n0 h17) (by omega)) rfl hH) hP hS
    · refine lv_iload_n hx hb d_M_look_30 rfl (lv_at hl 0 rfl) ?_
      refine lv_iload_n hx hb d_M_look_31 rfl (lv_at hl 1 rfl) ?_
      refine k_Sp (As := [.int (nI (bb i))]) (rest := [.int (nI (hs i - 1))]) ⟨hx, hb, hml, hown, hts⟩ (c_M_takes l E (bb i) ho) (k_cwS 1 hts t_843 t_844 t_71 t_845 (by decide +kernel) ⟨Nat.le_of_ble_eq_true rfl, Nat.le_of_ble_eq_true rfl⟩) hK hG hA hP hD hS [] rfl (by decide) rfl hl.1 rfl (Nat.le_of_ble_eq_true rfl) d_M_look_32 ⟨Nat.zero_le _, Nat.zero_le _⟩ (fun r32 hu32 => ?_)
      subst hu32
      refine lv_isub hx hb d_M_look_35 ?_
      refine k_top (pk_sub (by omega)) ?_
      refine lv_iload_n hx hb d_M_look_36 rfl (lv_at hl 1 rfl) ?_
      refine k_Sp (As := [.int (nI (bb i))]) (rest := [.int (nI ((hs i - 1) - (m_takes (bb i))))]) ⟨hx, hb, hml, hown, hts⟩ (c_M_gives l E (bb i) ho) (k_cwS 1 hts t_846 t_847 t_71 t_848 (by decide +kernel) ⟨Nat.le_of_ble_eq_true rfl, Nat.le_of_ble_eq_true rfl⟩) hK hG hA hP hD hS [] rfl (by decide) rfl hl.1 rfl (Nat.le_of_ble_eq_true rfl) d_M_look_37 ⟨Nat.zero_le _, Nat.zero_le _⟩ (fun r37 hu37 => ?_)
      subst hu37
      refine lv_iadd hx hb d_M_look_40 ?_
      refine k_top (nI_add _ _) ?_
      refine lv_bipush (v := nI 16) hx hb d_M_look_41 (by decide) ?_
      refine kn_le (tgt := 48) hx hb (by omega) (by omega) d_M_look_43 (by decide) (fun h43 => ?_) (fun h43 => ?_)
      · refine lv_iload_n hx hb d_M_look_48 rfl (lv_at hl 0 rfl) ?_
        refine lv_iload_n hx hb d_M_look_49 rfl (lv_at hl 1 rfl) ?_
        refine k_Sp (As := [.int (nI (bb i))]) (rest := [.int (nI (hs i - 1))]) ⟨hx, hb, hml, hown, hts⟩ (c_M_takes l E (bb i) ho) (k_cwS 1 hts t_843 t_844 t_71 t_845 (by decide +kernel) ⟨Nat.le_of_ble_eq_true rfl, Nat.le_of_ble_eq_true rfl⟩) hK hG hA hP hD hS [] rfl (by decide) rfl hl.1 rfl (Nat.le_of_ble_eq_true rfl) d_M_look_50 ⟨Nat.zero_le _, Nat.zero_le _⟩ (fun r50 hu50 => ?_)
        subst hu50
        refine lv_isub hx hb d_M_look_53 ?_
        refine k_top (pk_sub (by omega)) ?_
        refine lv_iload_n hx hb d_M_look_54 rfl (lv_at hl 1 rfl) ?_
        refine k_Sp (As := [.int (nI (bb i))]) (rest := [.int (nI ((hs i - 1) - (m_takes (bb i))))]) ⟨hx, hb, hml, hown, hts⟩ (c_M_gives l E (bb i) ho) (k_cwS 1 hts t_846 t_847 t_71 t_848 (by decide +kernel) ⟨Nat.le_of_ble_eq_true rfl, Nat.le_of_ble_eq_true rfl⟩) hK hG hA hP hD hS [] rfl (by decide) rfl hl.1 rfl (Nat.le_of_ble_eq_true rfl) d_M_look_55 ⟨Nat.zero_le _, Nat.zero_le _⟩ (fun r55 hu55 => ?_)
        subst hu55
        refine lv_iadd hx hb d_M_look_58 ?_
        refine k_top (nI_add _ _) ?_
        refine lv_istore_n (lv' := [(3, .int (nI (((hs i - 1) - (m_takes (bb i))) + (m_gives (bb i))))), (2, .int (nI (bb i))), (0, .ref mo), (1, .int (nI i))]) hx hb d_M_look_59 rfl hl (by decide) rfl (fun ls hl => ?_)
        refine lv_iconst (v := -1) hx hb d_M_look_60 (by decide) ?_
        refine lv_istore (lv' := [(4, .int (-1)), (3, .int (nI (((hs i - 1) - (m_takes (bb i))) + (m_gives (bb i))))), (2, .int (nI (bb i))), (0, .ref mo), (1, .int (nI i))]) hx hb d_M_look_61 hl (by decide) rfl (fun ls hl => ?_)
        refine lv_iload_n hx hb d_M_look_63 rfl (lv_at hl 2 rfl) ?_
        refine lv_bipush (v := nI 86) hx hb d_M_look_64 (by decide) ?_
        refine kn_eq (tgt := 75) hx hb (by omega) (by omega) d_M_look_66 (by decide) (fun h66 => ?_) (fun h66 => ?_)
        · have hil := hin (by omega)
          have hnb : m_nb bb i = i := by rcases hio with q | q; omega; exact q
          have hj : bb i = 86 ∨ bb i = 87 := by omega
          have hnl0 : m_numl (bb i) = 0 := numl_0 (by omega)
          refine lv_aload_n hx hb d_M_look_75 rfl (lv_at hl 3 rfl) ?_
          refine lv_iload_n hx hb d_M_look_76 rfl (lv_at hl 4 rfl) ?_
          refine k_Vp (As := [.int (nI i)]) (rest := []) ⟨hx, hb, hml, hown, hts⟩ (c_M_before l E mo mb mm mw mh ml len en gas ctr siz hgt frm ret on ay nb bb okb i (by omega)) (k_cwV 1 hts t_805 t_807 t_26 t_71 t_808 (by decide +kernel) ⟨Nat.le_of_ble_eq_true rfl, Nat.le_of_ble_eq_true rfl⟩) hK hG hA hP hD hS [0, 1] rfl (by decide) 0 rfl rfl rfl hl.1 rfl (Nat.le_of_ble_eq_true rfl) d_M_look_77 ⟨Nat.zero_le _, Nat.zero_le _⟩ (fun r77 hu77 => ?_)
          have hu77 := hu77.trans (if_pos hnb)
          subst hu77
          by_cases hq0 : m_lat bb i = 0
          · rw [hq0]
            show W _ _ _ _ _ _ _ _ _ _ _ _ _ _ _ (F0 _ _ _ [.int (-1)])
            refine lv_istore (lv' := [(5, .int (-1)), (4, .int (-1)), (3, .int (nI (((hs i - 1) - (m_takes (bb i))) + (m_gives (bb i))))), (2, .int (nI (bb i))), (0, .ref mo), (1, .int (nI i))]) hx hb d_M_look_80 hl (by decide) rfl (fun ls hl => ?_)
            refine lv_iload hx hb d_M_look_82 (lv_at hl 0 rfl) ?_
            refine lv_if_lt (tgt := 99) hx hb d_M_look_84 (by decide) (fun h84 => ?_) (fun h84 => ?_)
            · refine lv_iconst (v := nI 3) hx hb d_M_look_99 (by decide) ?_
              exact hret _ ls _ _ _ fh d_M_look_100 (al_post ((al_j (kb_n0 h17) (by omega) hj).trans (aj_3 (Or.inl hq0))) rfl hH) hP hS
            · exact absurd (by decide) h84
          · refine k_top (m1_pos hq0) ?_
            refine lv_istore (lv' := [(5, .int (nI (m_lat bb i - 1))), (4, .int (-1)), (3, .int (nI (((hs i - 1) - (m_takes (bb i))) + (m_gives (bb i))))), (2, .int (nI (bb i))), (0, .ref mo), (1, .int (nI i))]) hx hb d_M_look_80 hl (by decide) rfl (fun ls hl => ?_)
            refine lv_iload hx hb d_M_look_82 (lv_at hl 0 rfl) ?_
            refine kn_iflt (tgt := 99) hx hb (by omega) d_M_look_84 (by decide) ?_
            refine lv_aload_n hx hb d_M_look_87 rfl (lv_at hl 4 rfl) ?_
            refine lv_iload hx hb d_M_look_88 (lv_at hl 0 rfl) ?_
            refine k_Vp (As := [.int (nI (m_lat bb i - 1))]) (rest := []) ⟨hx, hb, hml, hown, hts⟩ (c_M_at l E mo mb mm mw mh ml len en gas ctr siz hgt frm ret on ay nb bb okb (m_lat bb i - 1) (by omega)) (k_cwV 1 hts t_809 t_811 t_27 t_71 t_812 (by decide +kernel) ⟨Nat.le_of_ble_eq_true rfl, Nat.le_of_ble_eq_true rfl⟩) hK hG hA hP hD hS [0, 1] rfl (by decide) 0 rfl rfl rfl hl.1 rfl (Nat.le_of_ble_eq_true rfl) d_M_look_90 ⟨Nat.zero_le _, Nat.zero_le _⟩ (fun r90 hu90 => ?_)
            subst hu90
            refine k_Sp (As := [.int (nI (bb (m_lat bb i - 1)))]) (rest := []) ⟨hx, hb, hml, hown, hts⟩ (c_M_hasNumber l E (bb (m_lat bb i - 1)) (okb.2.2.1 _)) (k_cwS 1 hts t_816 t_817 t_71 t_818 (by decide +kernel) ⟨Nat.le_of_ble_eq_true rfl, Nat.le_of_ble_eq_true rfl⟩) hK hG hA hP hD hS [] rfl (by decide) rfl hl.1 rfl (Nat.le_of_ble_eq_true rfl) d_M_look_93 ⟨Nat.zero_le _, Nat.zero_le _⟩ (fun r93 hu93 => ?_)
            subst hu93
            refine lv_if_ne (tgt := 101) hx hb d_M_look_96 (by decide) (fun h96 => ?_) (fun h96 => ?_)
            · refine lv_aload_n hx hb d_M_look_101 rfl (lv_at hl 4 rfl) ?_
              refine lv_iload hx hb d_M_look_102 (lv_at hl 0 rfl) ?_
              have hnn := numl_1 (of_decide_eq_true (kb_n0 h96))
              refine k_Vp (As := [.int (nI (m_lat bb i - 1))]) (rest := []) ⟨hx, hb, hml, hown, hts⟩ (c_M_numberOf l E mo mb mm mw mh ml len en gas ctr siz hgt frm ret on ay nb bb okb (m_lat bb i - 1) (by omega)) (k_cwV 1 hts t_998 t_1000 t_59 t_71 t_1001 (by decide +kernel) ⟨Nat.le_of_ble_eq_true rfl, Nat.le_of_ble_eq_true rfl⟩) hK hG hA hP hD hS [0, 1] rfl (by decide) 0 rfl rfl rfl hl.1 rfl (Nat.le_of_ble_eq_true rfl) d_M_look_104 ⟨Nat.zero_le _, Nat.zero_le _⟩ (fun r1 hr1 => ?_)
              rw [Nat.sub_add_cancel (Nat.pos_of_ne_zero hq0)] at hr1
              generalize hTd : m_num bb (m_lat bb i) (m_numl (bb (m_lat bb i - 1))) = T at hr1
              subst hr1
              refine lv_istore (lv' := [(4, .int (nI (min T 65535))), (5, .int (nI (m_lat bb i - 1))), (3, .int (nI (((hs i - 1) - (m_takes (bb i))) + (m_gives (bb i))))), (2, .int (nI (bb i))), (0, .ref mo), (1, .int (nI i))]) hx hb d_M_look_107 hl (by decide) rfl (fun ls hl => ?_)
              refine lv_aload_n hx hb d_M_look_109 rfl (lv_at hl 4 rfl) ?_
              refine lv_iload hx hb d_M_look_110 (lv_at hl 0 rfl) ?_
              refine k_Vp (As := [.int (nI (min T 65535))]) (rest := []) ⟨hx, hb, hml, hown, hts⟩ (c_M_marked l E mo mb mm mw mh ml len en gas ctr siz hgt frm ret on ay nb bb okb (nI (min T 65535))) (k_cwV 1 hts t_868 t_802 t_803 t_71 t_804 (by decide +kernel) ⟨Nat.le_of_ble_eq_true rfl, Nat.le_of_ble_eq_true rfl⟩) hK hG hA hP hD hS [0, 1] rfl (by decide) 0 rfl rfl rfl hl.1 rfl (Nat.le_of_ble_eq_true rfl) d_M_look_112 ⟨Nat.zero_le _, Nat.zero_le _⟩ (fun r112 hu112 => ?_)
              have hu112 := hu112.trans (by rw [mk_min hlen])
              subst hu112
              refine lv_if_ne (tgt := 120) hx hb d_M_look_115 (by decide) (fun h115 => ?_) (fun h115 => ?_)
              · obtain ⟨t1, t2, t3⟩ := mk_parts (kb_n0 h115)
                rw [Nat.min_eq_left (by omega : T ≤ 65535)] at hl
                have hl : lv_has ls 6 [(4, .int (nI T)), (5, .int (nI (m_lat bb i - 1))), (3, .int (nI (((hs i - 1) - (m_takes (bb i))) + (m_gives (bb i))))), (2, .int (nI (bb i))), (0, .ref mo), (1, .int (nI i))] := hl
                refine lv_iload_n hx hb d_M_look_120 rfl (lv_at hl 3 rfl) ?_
                refine kn_ifeq (tgt := 131) hx hb (by omega) d_M_look_121 (by decide) (fun h121 => ?_) (fun h121 => ?_)
                · omega
                · refine lv_iload_n hx hb d_M_look_124 rfl (lv_at hl 3 rfl) ?_
                  refine lv_sipush (v := nI 243) hx hb d_M_look_125 (by decide) ?_
                  refine kn_ne (tgt := 135) hx hb (by omega) (by omega) d_M_look_128 (by decide) (fun h128 => ?_) (fun h128 => ?_)
                  · refine lv_iconst (v := nI 0) hx hb d_M_look_135 (by decide) ?_
                    refine lv_istore (lv' := [(5, .int (nI 0)), (4, .int (nI T)), (3, .int (nI (((hs i - 1) - (m_takes (bb i))) + (m_gives (bb i))))), (2, .int (nI (bb i))), (0, .ref mo), (1, .int (nI i))]) hx hb d_M_look_136 hl (by decide) rfl (fun ls hl => ?_)
                    refine lv_iload hx hb d_M_look_138 (lv_at hl 0 rfl) ?_
                    refine kn_ifne (tgt := 164) hx hb (by omega) d_M_look_140 (by decide) (fun h140 => ?_) (fun h140 => ?_)
                    · omega
                    · refine lv_iload_n hx hb d_M_look_143 rfl (lv_at hl 3 rfl) ?_
                      refine lv_bipush (v := nI 86) hx hb d_M_look_144 (by decide) ?_
                      refine kn_eq (tgt := 164) hx hb (by omega) (by omega) d_M_look_146 (by decide) (fun h146 => ?_) (fun h146 => ?_)
                      · refine lv_iload hx hb d_M_look_164 (lv_at hl 1 rfl) ?_
                        refine kn_iflt (tgt := 183) hx hb (by omega) d_M_look_166 (by decide) ?_
                        refine lv_aload_n hx hb d_M_look_169 rfl (lv_at hl 4 rfl) ?_
                        refine lv_iload hx hb d_M_look_170 (lv_at hl 1 rfl) ?_
                        refine lv_iload_n hx hb d_M_look_172 rfl (lv_at hl 2 rfl) ?_
                        refine k_Vi (As := [.int (nI T), .int (nI (((hs i - 1) - (m_takes (bb i))) + (m_gives (bb i))))]) (rest := []) ⟨hx, hb, hml, hown, hts⟩ (c_M_reach l E mo mb mm mw mh ml len en gas ctr siz hgt frm ret on ay fh hs hH T (hs i - 1 - m_takes (bb i) + m_gives (bb i)) (by omega) (by omega)) (k_cwV 2 hts t_1002 t_1004 t_60 t_71 t_1005 (by decide +kernel) ⟨Nat.le_of_ble_eq_true rfl, Nat.le_of_ble_eq_true rfl⟩) hK hG hA hP hD hS [0, 2] rfl (by decide) 0 rfl rfl (fun _ => rfl) rfl hl.1 rfl (Nat.le_of_ble_eq_true rfl) d_M_look_173 ⟨Nat.zero_le _, Nat.zero_le _⟩ (fun r u2 H locs huu2 hP hD hS => ?_)
                        have hP : va_P E.1 vwCl [(mo, .inr (8, [.int (nI len), .ref mb, .int (kb on), .int (nI en), .int (nI gas), .int (nI ctr), .int (nI siz), .int (nI hgt), .int (nI frm), .int (nI ret), .ref mm, .ref mw, .ref mh, .ref ml, .int (kb ay)])), (mb, .inl (E.2.1 0, 96, .inl (nF nb))), (mh, .inl (E.2.1 0, 144, .inl u2))] H := hP
                        have hD : va_D A [(mo, .inr (8, [.int (nI len), .ref mb, .int (kb on), .int (nI en), .int (nI gas), .int (nI ctr), .int (nI siz), .int (nI hgt), .int (nI frm), .int (nI ret), .ref mm, .ref mw, .ref mh, .ref ml, .int (kb ay)])), (mb, .inl (E.2.1 0, 96, .inl (nF nb))), (mh, .inl (E.2.1 0, 144, .inl u2))] := hD
                        obtain ⟨eu2, qu2⟩ := huu2
                        subst eu2
                        have hH2 := okA2_rch hH (by omega) qu2
                        refine lv_if_ne (tgt := 183) hx hb d_M_look_176 (by decide) (fun h176 => ?_) (fun h176 => ?_)
                        · refine lv_iconst (v := nI 0) hx hb d_M_look_183 (by decide) ?_
                          exact hret _ ls _ _ _ u2 d_M_look_184 (al_post ((al_j (kb_n0 h17) (by omega) hj).trans (aj_u hq0 hnn hTd (kb_n0 h115) (by omega))) (ar_0 h176) hH2) hP hS
                        · refine lv_iconst (v := nI 5) hx hb d_M_look_179 (by decide) ?_
                          refine lv_goto (tgt := 184) hx hb d_M_look_180 (by decide) ?_
                          exact hret _ ls _ _ _ u2 d_M_look_184 (al_post ((al_j (kb_n0 h17) (by omega) hj).trans (aj_u hq0 hnn hTd (kb_n0 h115) (by omega))) (ar_5 h176) hH2) hP hS
                      · refine lv_aload_n hx hb d_M_look_149 rfl (lv_at hl 4 rfl) ?_
                        refine lv_iload_n hx hb d_M_look_150 rfl (lv_at hl 5 rfl) ?_
                        refine lv_iload_n hx hb d_M_look_151 rfl (lv_at hl 3 rfl) ?_
                        refine k_Sp (As := [.int (nI i), .int (nI (bb i))]) (rest := [.ref mo]) ⟨hx, hb, hml, hown, hts⟩ (c_M_behind l E i (bb i) ho) (k_cwS 2 hts t_813 t_814 t_71 t_815 (by decide +kernel) ⟨Nat.le_of_ble_eq_true rfl, Nat.le_of_ble_eq_true rfl⟩) hK hG hA hP hD hS [] rfl (by decide) rfl hl.1 rfl (Nat.le_of_ble_eq_true rfl) d_M_look_152 ⟨Nat.zero_le _, Nat.zero_le _⟩ (fun r152 hu152 => ?_)
                        have hu152 := hu152.trans (by rw [hnl0, Nat.add_zero])
                        subst hu152
                        refine lv_iload_n hx hb d_M_look_155 rfl (lv_at hl 2 rfl) ?_
                        refine k_Vi (As := [.int (nI (i + 1)), .int (nI (((hs i - 1) - (m_takes (bb i))) + (m_gives (bb i))))]) (rest := []) ⟨hx, hb, hml, hown, hts⟩ (c_M_reach l E mo mb mm mw mh ml len en gas ctr siz hgt frm ret on ay fh hs hH (i + 1) (hs i - 1 - m_takes (bb i) + m_gives (bb i)) (by omega) (by omega)) (k_cwV 2 hts t_1002 t_1004 t_60 t_71 t_1005 (by decide +kernel) ⟨Nat.le_of_ble_eq_true rfl, Nat.le_of_ble_eq_true rfl⟩) hK hG hA hP hD hS [0, 2] rfl (by decide) 0 rfl rfl (fun _ => rfl) rfl hl.1 rfl (Nat.le_of_ble_eq_true rfl) d_M_look_156 ⟨Nat.zero_le _, Nat.zero_le _⟩ (fun r u1 H locs huu1 hP hD hS => ?_)
                        have hP : va_P E.1 vwCl [(mo, .inr (8, [.int (nI len), .ref mb, .int (kb on), .int (nI en), .int (nI gas), .int (nI ctr), .int (nI siz), .int (nI hgt), .int (nI frm), .int (nI ret), .ref mm, .ref mw, .ref mh, .ref ml, .int (kb ay)])), (mb, .inl (E.2.1 0, 96, .inl (nF nb))), (mh, .inl (E.2.1 0, 144, .inl u1))] H := hP
                        have hD : va_D A [(mo, .inr (8, [.int (nI len), .ref mb, .int (kb on), .int (nI en), .int (nI gas), .int (nI ctr), .int (nI siz), .int (nI hgt), .int (nI frm), .int (nI ret), .ref mm, .ref mw, .ref mh, .ref ml, .int (kb ay)])), (mb, .inl (E.2.1 0, 96, .inl (nF nb))), (mh, .inl (E.2.1 0, 144, .inl u1))] := hD
                        obtain ⟨eu1, qu1⟩ := huu1
                        subst eu1
                        have hH1 := okA2_rch hH (by omega) qu1
                        refine lv_if_ne (tgt := 164) hx hb d_M_look_159 (by decide) (fun h159 => ?_) (fun h159 => ?_)
                        · refine lv_iload hx hb d_M_look_164 (lv_at hl 1 rfl) ?_
                          refine kn_iflt (tgt := 183) hx hb (by omega) d_M_look_166 (by decide) ?_
                          refine lv_aload_n hx hb d_M_look_169 rfl (lv_at hl 4 rfl) ?_
                          refine lv_iload hx hb d_M_look_170 (lv_at hl 1 rfl) ?_
                          refine lv_iload_n hx hb d_M_look_172 rfl (lv_at hl 2 rfl) ?_
                          refine k_Vi (As := [.int (nI T), .int (nI (((hs i - 1) - (m_takes (bb i))) + (m_gives (bb i))))]) (rest := []) ⟨hx, hb, hml, hown, hts⟩ (c_M_reach l E mo mb mm mw mh ml len en gas ctr siz hgt frm ret on ay u1 (a_rch hs (i + 1) (hs i - 1 - m_takes (bb i) + m_gives (bb i))) hH1 T (hs i - 1 - m_takes (bb i) + m_gives (bb i)) (by omega) (by omega)) (k_cwV 2 hts t_1002 t_1004 t_60 t_71 t_1005 (by decide +kernel) ⟨Nat.le_of_ble_eq_true rfl, Nat.le_of_ble_eq_true rfl⟩) hK hG hA hP hD hS [0, 2] rfl (by decide) 0 rfl rfl (fun _ => rfl) rfl hl.1 rfl (Nat.le_of_ble_eq_true rfl) d_M_look_173 ⟨Nat.zero_le _, Nat.zero_le _⟩ (fun r u2 H locs huu2 hP hD hS => ?_)
                          have hP : va_P E.1 vwCl [(mo, .inr (8, [.int (nI len), .ref mb, .int (kb on), .int (nI en), .int (nI gas), .int (nI ctr), .int (nI siz), .int (nI hgt), .int (nI frm), .int (nI ret), .ref mm, .ref mw, .ref mh, .ref ml, .int (kb ay)])), (mb, .inl (E.2.1 0, 96, .inl (nF nb))), (mh, .inl (E.2.1 0, 144, .inl u2))] H := hP
                          have hD : va_D A [(mo, .inr (8, [.int (nI len), .ref mb, .int (kb on), .int (nI en), .int (nI gas), .int (nI ctr), .int (nI siz), .int (nI hgt), .int (nI frm), .int (nI ret), .ref mm, .ref mw, .ref mh, .ref ml, .int (kb ay)])), (mb, .inl (E.2.1 0, 96, .inl (nF nb))), (mh, .inl (E.2.1 0, 144, .inl u2))] := hD
                          obtain ⟨eu2, qu2⟩ := huu2
                          subst eu2
                          have hH2 := okA2_rch hH1 (by omega) qu2
                          refine lv_if_ne (tgt := 183) hx hb d_M_look_176 (by decide) (fun h176 => ?_) (fun h176 => ?_)
                          · refine lv_iconst (v := nI 0) hx hb d_M_look_183 (by decide) ?_
                            exact hret _ ls _ _ _ u2 d_M_look_184 (al_post ((al_j (kb_n0 h17) (by omega) hj).trans (aj_t hq0 hnn hTd (kb_n0 h115) (by omega) (of_decide_eq_true (kb_n0 h159)))) (ar_0 h176) hH2) hP hS
                          · refine lv_iconst (v := nI 5) hx hb d_M_look_179 (by decide) ?_
                            refine lv_goto (tgt := 184) hx hb d_M_look_180 (by decide) ?_
                            exact hret _ ls _ _ _ u2 d_M_look_184 (al_post ((al_j (kb_n0 h17) (by omega) hj).trans (aj_t hq0 hnn hTd (kb_n0 h115) (by omega) (of_decide_eq_true (kb_n0 h159)))) (ar_5 h176) hH2) hP hS
                        · refine lv_iconst (v := nI 5) hx hb d_M_look_162 (by decide) ?_
                          exact hret _ ls _ _ _ u1 d_M_look_163 (al_post ((al_j (kb_n0 h17) (by omega) hj).trans (aj_f hq0 hnn hTd (kb_n0 h115) (by omega) (of_decide_eq_false (kb_0.mp h159)))) rfl hH1) hP hS
                  · omega
              · refine lv_iconst (v := nI 4) hx hb d_M_look_118 (by decide) ?_
                exact hret _ ls _ _ _ fh d_M_look_119 (al_post ((al_j (kb_n0 h17) (by omega) hj).trans (aj_4 hq0 hnn hTd (kb_0.mp h115))) rfl hH) hP hS
            · refine lv_iconst (v := nI 3) hx hb d_M_look_99 (by decide) ?_
              exact hret _ ls _ _ _ fh d_M_look_100 (al_post ((al_j (kb_n0 h17) (by omega) hj).trans (aj_3 (Or.inr (numl_0 (of_decide_eq_false (kb_0.mp h96)))))) rfl hH) hP hS
        · refine lv_iload_n hx hb d_M_look_69 rfl (lv_at hl 2 rfl) ?_
          refine lv_bipush (v := nI 87) hx hb d_M_look_70 (by decide) ?_
          refine kn_ne (tgt := 120) hx hb (by omega) (by omega) d_M_look_72 (by decide) (fun h72 => ?_) (fun h72 => ?_)
          · have hj : ¬ (bb i = 86 ∨ bb i = 87) := by omega
            refine lv_iload_n hx hb d_M_look_120 rfl (lv_at hl 2 rfl) ?_
            refine kn_ifeq (tgt := 131) hx hb (by omega) d_M_look_121 (by decide) (fun h121 => ?_) (fun h121 => ?_)
            · refine lv_iconst (v := nI 1) hx hb d_M_look_131 (by decide) ?_
              refine lv_goto (tgt := 136) hx hb d_M_look_132 (by decide) ?_
              refine lv_istore (lv' := [(5, .int (nI 1)), (4, .int (-1)), (3, .int (nI (((hs i - 1) - (m_takes (bb i))) + (m_gives (bb i))))), (2, .int (nI (bb i))), (0, .ref mo), (1, .int (nI i))]) hx hb d_M_look_136 hl (by decide) rfl (fun ls hl => ?_)
              refine lv_iload hx hb d_M_look_138 (lv_at hl 0 rfl) ?_
              refine kn_ifne (tgt := 164) hx hb (by omega) d_M_look_140 (by decide) (fun h140 => ?_) (fun h140 => ?_)
              · refine lv_iload hx hb d_M_look_164 (lv_at hl 1 rfl) ?_
                refine lv_if_lt (tgt := 183) hx hb d_M_look_166 (by decide) (fun h166 => ?_) (fun h166 => ?_)
                · refine lv_iconst (v := nI 0) hx hb d_M_look_183 (by decide) ?_
                  exact hret _ ls _ _ _ fh d_M_look_184 (al_post (al_0 (kb_n0 h17) (by omega) hj (by omega)) rfl hH) hP hS
                · exact absurd (by decide) h166
              · omega
            · refine lv_iload_n hx hb d_M_look_124 rfl (lv_at hl 2 rfl) ?_
              refine lv_sipush (v := nI 243) hx hb d_M_look_125 (by decide) ?_
              refine kn_ne (tgt := 135) hx hb (by omega) (by omega) d_M_look_128 (by decide) (fun h128 => ?_) (fun h128 => ?_)
              · refine lv_iconst (v := nI 0) hx hb d_M_look_135 (by decide) ?_
                refine lv_istore (lv' := [(5, .int (nI 0)), (4, .int (-1)), (3, .int (nI (((hs i - 1) - (m_takes (bb i))) + (m_gives (bb i))))), (2, .int (nI (bb i))), (0, .ref mo), (1, .int (nI i))]) hx hb d_M_look_136 hl (by decide) rfl (fun ls hl => ?_)
                refine lv_iload hx hb d_M_look_138 (lv_at hl 0 rfl) ?_
                refine kn_ifne (tgt := 164) hx hb (by omega) d_M_look_140 (by decide) (fun h140 => ?_) (fun h140 => ?_)
                · omega
                · refine lv_iload_n hx hb d_M_look_143 rfl (lv_at hl 3 rfl) ?_
                  refine lv_bipush (v := nI 86) hx hb d_M_look_144 (by decide) ?_
                  refine kn_eq (tgt := 164) hx hb (by omega) (by omega) d_M_look_146 (by decide) (fun h146 => ?_) (fun h146 => ?_)
                  · omega
                  · refine lv_aload_n hx hb d_M_look_149 rfl (lv_at hl 4 rfl) ?_
                    refine lv_iload_n hx hb d_M_look_150 rfl (lv_at hl 5 rfl) ?_
                    refine lv_iload_n hx hb d_M_look_151 rfl (lv_at hl 3 rfl) ?_
                    refine k_Sp (As := [.int (nI i), .int (nI (bb i))]) (rest := [.ref mo]) ⟨hx, hb, hml, hown, hts⟩ (c_M_behind l E i (bb i) ho) (k_cwS 2 hts t_813 t_814 t_71 t_815 (by decide +kernel) ⟨Nat.le_of_ble_eq_true rfl, Nat.le_of_ble_eq_true rfl⟩) hK hG hA hP hD hS [] rfl (by decide) rfl hl.1 rfl (Nat.le_of_ble_eq_true rfl) d_M_look_152 ⟨Nat.zero_le _, Nat.zero_le _⟩ (fun r152 hu152 => ?_)
                    subst hu152
                    refine lv_iload_n hx hb d_M_look_155 rfl (lv_at hl 2 rfl) ?_
                    have hil := hin (by omega)
                    refine k_Vi (As := [.int (nI (i + 1 + m_numl (bb i))), .int (nI (((hs i - 1) - (m_takes (bb i))) + (m_gives (bb i))))]) (rest := []) ⟨hx, hb, hml, hown, hts⟩ (c_M_reach l E mo mb mm mw mh ml len en gas ctr siz hgt frm ret on ay fh hs hH (i + 1 + m_numl (bb i)) (hs i - 1 - m_takes (bb i) + m_gives (bb i)) (by omega) (by omega)) (k_cwV 2 hts t_1002 t_1004 t_60 t_71 t_1005 (by decide +kernel) ⟨Nat.le_of_ble_eq_true rfl, Nat.le_of_ble_eq_true rfl⟩) hK hG hA hP hD hS [0, 2] rfl (by decide) 0 rfl rfl (fun _ => rfl) rfl hl.1 rfl (Nat.le_of_ble_eq_true rfl) d_M_look_156 ⟨Nat.zero_le _, Nat.zero_le _⟩ (fun r u1 H locs huu1 hP hD hS => ?_)
                    have hP : va_P E.1 vwCl [(mo, .inr (8, [.int (nI len), .ref mb, .int (kb on), .int (nI en), .int (nI gas), .int (nI ctr), .int (nI siz), .int (nI hgt), .int (nI frm), .int (nI ret), .ref mm, .ref mw, .ref mh, .ref ml, .int (kb ay)])), (mb, .inl (E.2.1 0, 96, .inl (nF nb))), (mh, .inl (E.2.1 0, 144, .inl u1))] H := hP
                    have hD : va_D A [(mo, .inr (8, [.int (nI len), .ref mb, .int (kb on), .int (nI en), .int (nI gas), .int (nI ctr), .int (nI siz), .int (nI hgt), .int (nI frm), .int (nI ret), .ref mm, .ref mw, .ref mh, .ref ml, .int (kb ay)])), (mb, .inl (E.2.1 0, 96, .inl (nF nb))), (mh, .inl (E.2.1 0, 144, .inl u1))] := hD
                    obtain ⟨eu1, qu1⟩ := huu1
                    subst eu1
                    have hH1 := okA2_rch hH (by omega) qu1
                    refine lv_if_ne (tgt := 164) hx hb d_M_look_159 (by decide) (fun h159 => ?_) (fun h159 => ?_)
                    · refine lv_iload hx hb d_M_look_164 (lv_at hl 1 rfl) ?_
                      refine lv_if_lt (tgt := 183) hx hb d_M_look_166 (by decide) (fun h166 => ?_) (fun h166 => ?_)
                      · refine lv_iconst (v := nI 0) hx hb d_M_look_183 (by decide) ?_
                        exact hret _ ls _ _ _ u1 d_M_look_184 (al_post (al_r (kb_n0 h17) (by omega) hj (by omega) rfl rfl) (ar_0 h159) hH1) hP hS
                      · exact absurd (by decide) h166
                    · refine lv_iconst (v := nI 5) hx hb d_M_look_162 (by decide) ?_
                      exact hret _ ls _ _ _ u1 d_M_look_163 (al_post (al_r (kb_n0 h17) (by omega) hj (by omega) rfl rfl) (ar_5 h159) hH1) hP hS
              · refine lv_iconst (v := nI 1) hx hb d_M_look_131 (by decide) ?_
                refine lv_goto (tgt := 136) hx hb d_M_look_132 (by decide) ?_
                refine lv_istore (lv' := [(5, .int (nI 1)), (4, .int (-1)), (3, .int (nI (((hs i - 1) - (m_takes (bb i))) + (m_gives (bb i))))), (2, .int (nI (bb i))), (0, .ref mo), (1, .int (nI i))]) hx hb d_M_look_136 hl (by decide) rfl (fun ls hl => ?_)
                refine lv_iload hx hb d_M_look_138 (lv_at hl 0 rfl) ?_
                refine kn_ifne (tgt := 164) hx hb (by omega) d_M_look_140 (by decide) (fun h140 => ?_) (fun h140 => ?_)
                · refine lv_iload hx hb d_M_look_164 (lv_at hl 1 rfl) ?_
                  refine lv_if_lt (tgt := 183) hx hb d_M_look_166 (by decide) (fun h166 => ?_) (fun h166 => ?_)
                  · refine lv_iconst (v := nI 0) hx hb d_M_look_183 (by decide) ?_
                    exact hret _ ls _ _ _ fh d_M_look_184 (al_post (al_0 (kb_n0 h17) (by omega) hj (by omega)) rfl hH) hP hS
                  · exact absurd (by decide) h166
                · omega
          · have hil := hin (by omega)
            have hnb : m_nb bb i = i := by rcases hio with q | q; omega; exact q
            have hj : bb i = 86 ∨ bb i = 87 := by omega
            have hnl0 : m_numl (bb i) = 0 := numl_0 (by omega)
            refine lv_aload_n hx hb d_M_look_75 rfl (lv_at hl 3 rfl) ?_
            refine lv_iload_n hx hb d_M_look_76 rfl (lv_at hl 4 rfl) ?_
            refine k_Vp (As := [.int (nI i)]) (rest := []) ⟨hx, hb, hml, hown, hts⟩ (c_M_before l E mo mb mm mw mh ml len en gas ctr siz hgt frm ret on ay nb bb okb i (by omega)) (k_cwV 1 hts t_805 t_807 t_26 t_71 t_808 (by decide +kernel) ⟨Nat.le_of_ble_eq_true rfl, Nat.le_of_ble_eq_true rfl⟩) hK hG hA hP hD hS [0, 1] rfl (by decide) 0 rfl rfl rfl hl.1 rfl (Nat.le_of_ble_eq_true rfl) d_M_look_77 ⟨Nat.zero_le _, Nat.zero_le _⟩ (fun r77 hu77 => ?_)
            have hu77 := hu77.trans (if_pos hnb)
            subst hu77
            by_cases hq0 : m_lat bb i = 0
            · rw [hq0]
              show W _ _ _ _ _ _ _ _ _ _ _ _ _ _ _ (F0 _ _ _ [.int (-1)])
              refine lv_istore (lv' := [(5, .int (-1)), (4, .int (-1)), (3, .int (nI (((hs i - 1) - (m_takes (bb i))) + (m_gives (bb i))))), (2, .int (nI (bb i))), (0, .ref mo), (1, .int (nI i))]) hx hb d_M_look_80 hl (by decide) rfl (fun ls hl => ?_)
              refine lv_iload hx hb d_M_look_82 (lv_at hl 0 rfl) ?_
              refine lv_if_lt (tgt := 99) hx hb d_M_look_84 (by decide) (fun h84 => ?_) (fun h84 => ?_)
              · refine lv_iconst (v := nI 3) hx hb d_M_look_99 (by decide) ?_
                exact hret _ ls _ _ _ fh d_M_look_100 (al_post ((al_j (kb_n0 h17) (by omega) hj).trans (aj_3 (Or.inl hq0))) rfl hH) hP hS
              · exact absurd (by decide) h84
            · refine k_top (m1_pos hq0) ?_
              refine lv_istore (lv' := [(5, .int (nI (m_lat bb i - 1))), (4, .int (-1)), (3, .int (nI (((hs i - 1) - (m_takes (bb i))) + (m_gives (bb i))))), (2, .int (nI (bb i))), (0, .ref mo), (1, .int (nI i))]) hx hb d_M_look_80 hl (by decide) rfl (fun ls hl => ?_)
              refine lv_iload hx hb d_M_look_82 (lv_at hl 0 rfl) ?_
              refine kn_iflt (tgt := 99) hx hb (by omega) d_M_look_84 (by decide) ?_
              refine lv_aload_n hx hb d_M_look_87 rfl (lv_at hl 4 rfl) ?_
              refine lv_iload hx hb d_M_look_88 (lv_at hl 0 rfl) ?_
              refine k_Vp (As := [.int (nI (m_lat bb i - 1))]) (rest := []) ⟨hx, hb, hml, hown, hts⟩ (c_M_at l E mo mb mm mw mh ml len en gas ctr siz hgt frm ret on ay nb bb okb (m_lat bb i - 1) (by omega)) (k_cwV 1 hts t_809 t_811 t_27 t_71 t_812 (by decide +kernel) ⟨Nat.le_of_ble_eq_true rfl, Nat.le_of_ble_eq_true rfl⟩) hK hG hA hP hD hS [0, 1] rfl (by decide) 0 rfl rfl rfl hl.1 rfl (Nat.le_of_ble_eq_true rfl) d_M_look_90 ⟨Nat.zero_le _, Nat.zero_le _⟩ (fun r90 hu90 => ?_)
              subst hu90
              refine k_Sp (As := [.int (nI (bb (m_lat bb i - 1)))]) (rest := []) ⟨hx, hb, hml, hown, hts⟩ (c_M_hasNumber l E (bb (m_lat bb i - 1)) (okb.2.2.1 _)) (k_cwS 1 hts t_816 t_817 t_71 t_818 (by decide +kernel) ⟨Nat.le_of_ble_eq_true rfl, Nat.le_of_ble_eq_true rfl⟩) hK hG hA hP hD hS [] rfl (by decide) rfl hl.1 rfl (Nat.le_of_ble_eq_true rfl) d_M_look_93 ⟨Nat.zero_le _, Nat.zero_le _⟩ (fun r93 hu93 => ?_)
              subst hu93
              refine lv_if_ne (tgt := 101) hx hb d_M_look_96 (by decide) (fun h96 => ?_) (fun h96 => ?_)
              · refine lv_aload_n hx hb d_M_look_101 rfl (lv_at hl 4 rfl) ?_
                refine lv_iload hx hb d_M_look_102 (lv_at hl 0 rfl) ?_
                have hnn := numl_1 (of_decide_eq_true (kb_n0 h96))
                refine k_Vp (As := [.int (nI (m_lat bb i - 1))]) (rest := []) ⟨hx, hb, hml, hown, hts⟩ (c_M_numberOf l E mo mb mm mw mh ml len en gas ctr siz hgt frm ret on ay nb bb okb (m_lat bb i - 1) (by omega)) (k_cwV 1 hts t_998 t_1000 t_59 t_71 t_1001 (by decide +kernel) ⟨Nat.le_of_ble_eq_true rfl, Nat.le_of_ble_eq_true rfl⟩) hK hG hA hP hD hS [0, 1] rfl (by decide) 0 rfl rfl rfl hl.1 rfl (Nat.le_of_ble_eq_true rfl) d_M_look_104 ⟨Nat.zero_le _, Nat.zero_le _⟩ (fun r1 hr1 => ?_)
                rw [Nat.sub_add_cancel (Nat.pos_of_ne_zero hq0)] at hr1
                generalize hTd : m_num bb (m_lat bb i) (m_numl (bb (m_lat bb i - 1))) = T at hr1
                subst hr1
                refine lv_istore (lv' := [(4, .int (nI (min T 65535))), (5, .int (nI (m_lat bb i - 1))), (3, .int (nI (((hs i - 1) - (m_takes (bb i))) + (m_gives (bb i))))), (2, .int (nI (bb i))), (0, .ref mo), (1, .int (nI i))]) hx hb d_M_look_107 hl (by decide) rfl (fun ls hl => ?_)
                refine lv_aload_n hx hb d_M_look_109 rfl (lv_at hl 4 rfl) ?_
                refine lv_iload hx hb d_M_look_110 (lv_at hl 0 rfl) ?_
                refine k_Vp (As := [.int (nI (min T 65535))]) (rest := []) ⟨hx, hb, hml, hown, hts⟩ (c_M_marked l E mo mb mm mw mh ml len en gas ctr siz hgt frm ret on ay nb bb okb (nI (min T 65535))) (k_cwV 1 hts t_868 t_802 t_803 t_71 t_804 (by decide +kernel) ⟨Nat.le_of_ble_eq_true rfl, Nat.le_of_ble_eq_true rfl⟩) hK hG hA hP hD hS [0, 1] rfl (by decide) 0 rfl rfl rfl hl.1 rfl (Nat.le_of_ble_eq_true rfl) d_M_look_112 ⟨Nat.zero_le _, Nat.zero_le _⟩ (fun r112 hu112 => ?_)
                have hu112 := hu112.trans (by rw [mk_min hlen])
                subst hu112
                refine lv_if_ne (tgt := 120) hx hb d_M_look_115 (by decide) (fun h115 => ?_) (fun h115 => ?_)
                · obtain ⟨t1, t2, t3⟩ := mk_parts (kb_n0 h115)
                  rw [Nat.min_eq_left (by omega : T ≤ 65535)] at hl
                  have hl : lv_has ls 6 [(4, .int (nI T)), (5, .int (nI (m_lat bb i - 1))), (3, .int (nI (((hs i - 1) - (m_takes (bb i))) + (m_gives (bb i))))), (2, .int (nI (bb i))), (0, .ref mo), (1, .int (nI i))] := hl
                  refine lv_iload_n hx hb d_M_look_120 rfl (lv_at hl 3 rfl) ?_
                  refine kn_ifeq (tgt := 131) hx hb (by omega) d_M_look_121 (by decide) (fun h121 => ?_) (fun h121 => ?_)
                  · omega
                  · refine lv_iload_n hx hb d_M_look_124 rfl (lv_at hl 3 rfl) ?_
                    refine lv_sipush (v := nI 243) hx hb d_M_look_125 (by decide) ?_
                    refine kn_ne (tgt := 135) hx hb (by omega) (by omega) d_M_look_128 (by decide) (fun h128 => ?_) (fun h128 => ?_)
                    · refine lv_iconst (v := nI 0) hx hb d_M_look_135 (by decide) ?_
                      refine lv_istore (lv' := [(5, .int (nI 0)), (4, .int (nI T)), (3, .int (nI (((hs i - 1) - (m_takes (bb i))) + (m_gives (bb i))))), (2, .int (nI (bb i))), (0, .ref mo), (1, .int (nI i))]) hx hb d_M_look_136 hl (by decide) rfl (fun ls hl => ?_)
                      refine lv_iload hx hb d_M_look_138 (lv_at hl 0 rfl) ?_
                      refine kn_ifne (tgt := 164) hx hb (by omega) d_M_look_140 (by decide) (fun h140 => ?_) (fun h140 => ?_)
                      · omega
                      · refine lv_iload_n hx hb d_M_look_143 rfl (lv_at hl 3 rfl) ?_
                        refine lv_bipush (v := nI 86) hx hb d_M_look_144 (by decide) ?_
                        refine kn_eq (tgt := 164) hx hb (by omega) (by omega) d_M_look_146 (by decide) (fun h146 => ?_) (fun h146 => ?_)
                        · refine lv_iload hx hb d_M_look_164 (lv_at hl 1 rfl) ?_
                          refine kn_iflt (tgt := 183) hx hb (by omega) d_M_look_166 (by decide) ?_
                          refine lv_aload_n hx hb d_M_look_169 rfl (lv_at hl 4 rfl) ?_
                          refine lv_iload hx hb d_M_look_170 (lv_at hl 1 rfl) ?_
                          refine lv_iload_n hx hb d_M_look_172 rfl (lv_at hl 2 rfl) ?_
                          refine k_Vi (As := [.int (nI T), .int (nI (((hs i - 1) - (m_takes (bb i))) + (m_gives (bb i))))]) (rest := []) ⟨hx, hb, hml, hown, hts⟩ (c_M_reach l E mo mb mm mw mh ml len en gas ctr siz hgt frm ret on ay fh hs hH T (hs i - 1 - m_takes (bb i) + m_gives (bb i)) (by omega) (by omega)) (k_cwV 2 hts t_1002 t_1004 t_60 t_71 t_1005 (by decide +kernel) ⟨Nat.le_of_ble_eq_true rfl, Nat.le_of_ble_eq_true rfl⟩) hK hG hA hP hD hS [0, 2] rfl (by decide) 0 rfl rfl (fun _ => rfl) rfl hl.1 rfl (Nat.le_of_ble_eq_true rfl) d_M_look_173 ⟨Nat.zero_le _, Nat.zero_le _⟩ (fun r u2 H locs huu2 hP hD hS => ?_)
                          have hP : va_P E.1 vwCl [(mo, .inr (8, [.int (nI len), .ref mb, .int (kb on), .int (nI en), .int (nI gas), .int (nI ctr), .int (nI siz), .int (nI hgt), .int (nI frm), .int (nI ret), .ref mm, .ref mw, .ref mh, .ref ml, .int (kb ay)])), (mb, .inl (E.2.1 0, 96, .inl (nF nb))), (mh, .inl (E.2.1 0, 144, .inl u2))] H := hP
                          have hD : va_D A [(mo, .inr (8, [.int (nI len), .ref mb, .int (kb on), .int (nI en), .int (nI gas), .int (nI ctr), .int (nI siz), .int (nI hgt), .int (nI frm), .int (nI ret), .ref mm, .ref mw, .ref mh, .ref ml, .int (kb ay)])), (mb, .inl (E.2.1 0, 96, .inl (nF nb))), (mh, .inl (E.2.1 0, 144, .inl u2))] := hD
                          obtain ⟨eu2, qu2⟩ := huu2
                          subst eu2
                          have hH2 := okA2_rch hH (by omega) qu2
                          refine lv_if_ne (tgt := 183) hx hb d_M_look_176 (by decide) (fun h176 => ?_) (fun h176 => ?_)
                          · refine lv_iconst (v := nI 0) hx hb d_M_look_183 (by decide) ?_
                            exact hret _ ls _ _ _ u2 d_M_look_184 (al_post ((al_j (kb_n0 h17) (by omega) hj).trans (aj_u hq0 hnn hTd (kb_n0 h115) (by omega))) (ar_0 h176) hH2) hP hS
                          · refine lv_iconst (v := nI 5) hx hb d_M_look_179 (by decide) ?_
                            refine lv_goto (tgt := 184) hx hb d_M_look_180 (by decide) ?_
                            exact hret _ ls _ _ _ u2 d_M_look_184 (al_post ((al_j (kb_n0 h17) (by omega) hj).trans (aj_u hq0 hnn hTd (kb_n0 h115) (by omega))) (ar_5 h176) hH2) hP hS
                        · refine lv_aload_n hx hb d_M_look_149 rfl (lv_at hl 4 rfl) ?_
                          refine lv_iload_n hx hb d_M_look_150 rfl (lv_at hl 5 rfl) ?_
                          refine lv_iload_n hx hb d_M_look_151 rfl (lv_at hl 3 rfl) ?_
                          refine k_Sp (As := [.int (nI i), .int (nI (bb i))]) (rest := [.ref mo]) ⟨hx, hb, hml, hown, hts⟩ (c_M_behind l E i (bb i) ho) (k_cwS 2 hts t_813 t_814 t_71 t_815 (by decide +kernel) ⟨Nat.le_of_ble_eq_true rfl, Nat.le_of_ble_eq_true rfl⟩) hK hG hA hP hD hS [] rfl (by decide) rfl hl.1 rfl (Nat.le_of_ble_eq_true rfl) d_M_look_152 ⟨Nat.zero_le _, Nat.zero_le _⟩ (fun r152 hu152 => ?_)
                          have hu152 := hu152.trans (by rw [hnl0, Nat.add_zero])
                          subst hu152
                          refine lv_iload_n hx hb d_M_look_155 rfl (lv_at hl 2 rfl) ?_
                          refine k_Vi (As := [.int (nI (i + 1)), .int (nI (((hs i - 1) - (m_takes (bb i))) + (m_gives (bb i))))]) (rest := []) ⟨hx, hb, hml, hown, hts⟩ (c_M_reach l E mo mb mm mw mh ml len en gas ctr siz hgt frm ret on ay fh hs hH (i + 1) (hs i - 1 - m_takes (bb i) + m_gives (bb i)) (by omega) (by omega)) (k_cwV 2 hts t_1002 t_1004 t_60 t_71 t_1005 (by decide +kernel) ⟨Nat.le_of_ble_eq_true rfl, Nat.le_of_ble_eq_true rfl⟩) hK hG hA hP hD hS [0, 2] rfl (by decide) 0 rfl rfl (fun _ => rfl) rfl hl.1 rfl (Nat.le_of_ble_eq_true rfl) d_M_look_156 ⟨Nat.zero_le _, Nat.zero_le _⟩ (fun r u1 H locs huu1 hP hD hS => ?_)
                          have hP : va_P E.1 vwCl [(mo, .inr (8, [.int (nI len), .ref mb, .int (kb on), .int (nI en), .int (nI gas), .int (nI ctr), .int (nI siz), .int (nI hgt), .int (nI frm), .int (nI ret), .ref mm, .ref mw, .ref mh, .ref ml, .int (kb ay)])), (mb, .inl (E.2.1 0, 96, .inl (nF nb))), (mh, .inl (E.2.1 0, 144, .inl u1))] H := hP
                          have hD : va_D A [(mo, .inr (8, [.int (nI len), .ref mb, .int (kb on), .int (nI en), .int (nI gas), .int (nI ctr), .int (nI siz), .int (nI hgt), .int (nI frm), .int (nI ret), .ref mm, .ref mw, .ref mh, .ref ml, .int (kb ay)])), (mb, .inl (E.2.1 0, 96, .inl (nF nb))), (mh, .inl (E.2.1 0, 144, .inl u1))] := hD
                          obtain ⟨eu1, qu1⟩ := huu1
                          subst eu1
                          have hH1 := okA2_rch hH (by omega) qu1
                          refine lv_if_ne (tgt := 164) hx hb d_M_look_159 (by decide) (fun h159 => ?_) (fun h159 => ?_)
                          · refine lv_iload hx hb d_M_look_164 (lv_at hl 1 rfl) ?_
                            refine kn_iflt (tgt := 183) hx hb (by omega) d_M_look_166 (by decide) ?_
                            refine lv_aload_n hx hb d_M_look_169 rfl (lv_at hl 4 rfl) ?_
                            refine lv_iload hx hb d_M_look_170 (lv_at hl 1 rfl) ?_
                            refine lv_iload_n hx hb d_M_look_172 rfl (lv_at hl 2 rfl) ?_
                            refine k_Vi (As := [.int (nI T), .int (nI (((hs i - 1) - (m_takes (bb i))) + (m_gives (bb i))))]) (rest := []) ⟨hx, hb, hml, hown, hts⟩ (c_M_reach l E mo mb mm mw mh ml len en gas ctr siz hgt frm ret on ay u1 (a_rch hs (i + 1) (hs i - 1 - m_takes (bb i) + m_gives (bb i))) hH1 T (hs i - 1 - m_takes (bb i) + m_gives (bb i)) (by omega) (by omega)) (k_cwV 2 hts t_1002 t_1004 t_60 t_71 t_1005 (by decide +kernel) ⟨Nat.le_of_ble_eq_true rfl, Nat.le_of_ble_eq_true rfl⟩) hK hG hA hP hD hS [0, 2] rfl (by decide) 0 rfl rfl (fun _ => rfl) rfl hl.1 rfl (Nat.le_of_ble_eq_true rfl) d_M_look_173 ⟨Nat.zero_le _, Nat.zero_le _⟩ (fun r u2 H locs huu2 hP hD hS => ?_)
                            have hP : va_P E.1 vwCl [(mo, .inr (8, [.int (nI len), .ref mb, .int (kb on), .int (nI en), .int (nI gas), .int (nI ctr), .int (nI siz), .int (nI hgt), .int (nI frm), .int (nI ret), .ref mm, .ref mw, .ref mh, .ref ml, .int (kb ay)])), (mb, .inl (E.2.1 0, 96, .inl (nF nb))), (mh, .inl (E.2.1 0, 144, .inl u2))] H := hP
                            have hD : va_D A [(mo, .inr (8, [.int (nI len), .ref mb, .int (kb on), .int (nI en), .int (nI gas), .int (nI ctr), .int (nI siz), .int (nI hgt), .int (nI frm), .int (nI ret), .ref mm, .ref mw, .ref mh, .ref ml, .int (kb ay)])), (mb, .inl (E.2.1 0, 96, .inl (nF nb))), (mh, .inl (E.2.1 0, 144, .inl u2))] := hD
                            obtain ⟨eu2, qu2⟩ := huu2
                            subst eu2
                            have hH2 := okA2_rch hH1 (by omega) qu2
                            refine lv_if_ne (tgt := 183) hx hb d_M_look_176 (by decide) (fun h176 => ?_) (fun h176 => ?_)
                            · refine lv_iconst (v := nI 0) hx hb d_M_look_183 (by decide) ?_
                              exact hret _ ls _ _ _ u2 d_M_look_184 (al_post ((al_j (kb_n0 h17) (by omega) hj).trans (aj_t hq0 hnn hTd (kb_n0 h115) (by omega) (of_decide_eq_true (kb_n0 h159)))) (ar_0 h176) hH2) hP hS
                            · refine lv_iconst (v := nI 5) hx hb d_M_look_179 (by decide) ?_
                              refine lv_goto (tgt := 184) hx hb d_M_look_180 (by decide) ?_
                              exact hret _ ls _ _ _ u2 d_M_look_184 (al_post ((al_j (kb_n0 h17) (by omega) hj).trans (aj_t hq0 hnn hTd (kb_n0 h115) (by omega) (of_decide_eq_true (kb_n0 h159)))) (ar_5 h176) hH2) hP hS
                          · refine lv_iconst (v := nI 5) hx hb d_M_look_162 (by decide) ?_
                            exact hret _ ls _ _ _ u1 d_M_look_163 (al_post ((al_j (kb_n0 h17) (by omega) hj).trans (aj_f hq0 hnn hTd (kb_n0 h115) (by omega) (of_decide_eq_false (kb_0.mp h159)))) rfl hH1) hP hS
                    · omega
                · refine lv_iconst (v := nI 4) hx hb d_M_look_118 (by decide) ?_
                  exact hret _ ls _ _ _ fh d_M_look_119 (al_post ((al_j (kb_n0 h17) (by omega) hj).trans (aj_4 hq0 hnn hTd (kb_0.mp h115))) rfl hH) hP hS
              · refine lv_iconst (v := nI 3) hx hb d_M_look_99 (by decide) ?_
                exact hret _ ls _ _ _ fh d_M_look_100 (al_post ((al_j (kb_n0 h17) (by omega) hj).trans (aj_3 (Or.inr (numl_0 (of_decide_eq_false (kb_0.mp h96)))))) rfl hH) hP hS
      · refine lv_iconst (v := nI 2) hx hb d_M_look_46 (by decide) ?_
        exact hret _ ls _ _ _ fh d_M_look_47 (al_post (al_2 (kb_n0 h17) (by omega)) rfl hH) hP hS
  · refine lv_iconst (v := nI 1) hx hb d_M_look_20 (by decide) ?_
    exact hret _ ls _ _ _ fh d_M_look_21 (al_post (al_1 (kb_0.mp h17)) rfl hH) hP hS

abbrev y_M_analyse : MethodName := ⟨"WideStackModel", "analyse", "()I"⟩
theorem d_M_analyse_0 : decode prog_12_method_55_code 0 = .ok (.aload_n 0, 1) := by decide +kernel
theorem d_M_analyse_1 : decode prog_12_method_55_code 1 = .ok (.iconst 1, 1) := by decide +kernel
theorem d_M_analyse_2 : decode prog_12_method_55_code 2 = .ok (.putfield 34, 3) := by decide +kernel
theorem d_M_analyse_5 : decode prog_12_method_55_code 5 = .ok (.iconst 0, 1) := by decide +kernel
theorem d_M_analyse_6 : decode prog_12_method_55_code 6 = .ok (.istore_n 1, 1) := by decide +kernel
theorem d_M_analyse_7 : decode prog_12_method_55_code 7 = .ok (.iload_n 1, 1) := by decide +kernel
theorem d_M_analyse_8 : decode prog_12_method_55_code 8 = .ok (.sipush 144, 3) := by decide +kernel
theorem d_M_analyse_11 : decode prog_12_method_55_code 11 = .ok (.if_icmp .ge 31, 3) := by decide +kernel
theorem d_M_analyse_14 : decode prog_12_method_55_code 14 = .ok (.aload_n 0, 1) := by decide +kernel
theorem d_M_analyse_15 : decode prog_12_method_55_code 15 = .ok (.getfield 19, 3) := by decide +kernel
theorem d_M_analyse_18 : decode prog_12_method_55_code 18 = .ok (.iload_n 1, 1) := by decide +kernel
theorem d_M_analyse_19 : decode prog_12_method_55_code 19 = .ok (.iload_n 1, 1) := by decide +kernel
theorem d_M_analyse_20 : decode prog_12_method_55_code 20 = .ok (.ifCond .ne 7, 3) := by decide +kernel
theorem d_M_analyse_23 : decode prog_12_method_55_code 23 = .ok (.iconst 0, 1) := by decide +kernel
theorem d_M_analyse_24 : decode prog_12_method_55_code 24 = .ok (.goto 4, 3) := by decide +kernel
theorem d_M_analyse_27 : decode prog_12_method_55_code 27 = .ok (.iconst (-1), 1) := by decide +kernel
theorem d_M_analyse_28 : decode prog_12_method_55_code 28 = .ok (.iastore, 1) := by decide +kernel
theorem d_M_analyse_29 : decode prog_12_method_55_code 29 = .ok (.aload_n 0, 1) := by decide +kernel
theorem d_M_analyse_30 : decode prog_12_method_55_code 30 = .ok (.getfield 22, 3) := by decide +kernel
theorem d_M_analyse_33 : decode prog_12_method_55_code 33 = .ok (.iload_n 1, 1) := by decide +kernel
theorem d_M_analyse_34 : decode prog_12_method_55_code 34 = .ok (.iconst 0, 1) := by decide +kernel
theorem d_M_analyse_35 : decode prog_12_method_55_code 35 = .ok (.bastore, 1) := by decide +kernel
theorem d_M_analyse_36 : decode prog_12_method_55_code 36 = .ok (.iinc 1 1, 3) := by decide +kernel
theorem d_M_analyse_39 : decode prog_12_method_55_code 39 = .ok (.goto (-32), 3) := by decide +kernel
theorem d_M_analyse_42 : decode prog_12_method_55_code 42 = .ok (.iconst 0, 1) := by decide +kernel
theorem d_M_analyse_43 : decode prog_12_method_55_code 43 = .ok (.istore_n 1, 1) := by decide +kernel
theorem d_M_analyse_44 : decode prog_12_method_55_code 44 = .ok (.iload_n 1, 1) := by decide +kernel
theorem d_M_analyse_45 : decode prog_12_method_55_code 45 = .ok (.sipush 144, 3) := by decide +kernel
theorem d_M_analyse_48 : decode prog_12_method_55_code 48 = .ok (.if_icmp .ge 63, 3) := by decide +kernel
theorem d_M_analyse_51 : decode prog_12_method_55_code 51 = .ok (.aload_n 0, 1) := by decide +kernel
theorem d_M_analyse_52 : decode prog_12_method_55_code 52 = .ok (.getfield 22, 3) := by decide +kernel
theorem d_M_analyse_55 : decode prog_12_method_55_code 55 = .ok (.iload_n 1, 1) := by decide +kernel
theorem d_M_analyse_56 : decode prog_12_method_55_code 56 = .ok (.iconst 1, 1) := by decide +kernel
theorem d_M_analyse_57 : decode prog_12_method_55_code 57 = .ok (.bastore, 1) := by decide +kernel
theorem d_M_analyse_58 : decode prog_12_method_55_code 58 = .ok (.aload_n 0, 1) := by decide +kernel
theorem d_M_analyse_59 : decode prog_12_method_55_code 59 = .ok (.iload_n 1, 1) := by decide +kernel
theorem d_M_analyse_60 : decode prog_12_method_55_code 60 = .ok (.invokevirtual 191, 3) := by decide +kernel
theorem d_M_analyse_63 : decode prog_12_method_55_code 63 = .ok (.istore_n 2, 1) := by decide +kernel
theorem d_M_analyse_64 : decode prog_12_method_55_code 64 = .ok (.iload_n 2, 1) := by decide +kernel
theorem d_M_analyse_65 : decode prog_12_method_55_code 65 = .ok (.ifCond .le 10, 3) := by decide +kernel
theorem d_M_analyse_68 : decode prog_12_method_55_code 68 = .ok (.bipush 8, 2) := by decide +kernel
theorem d_M_analyse_70 : decode prog_12_method_55_code 70 = .ok (.iload_n 1, 1) := by decide +kernel
theorem d_M_analyse_71 : decode prog_12_method_55_code 71 = .ok (.imul, 1) := by decide +kernel
theorem d_M_analyse_72 : decode prog_12_method_55_code 72 = .ok (.iload_n 2, 1) := by decide +kernel
theorem d_M_analyse_73 : decode prog_12_method_55_code 73 = .ok (.iadd, 1) := by decide +kernel
theorem d_M_analyse_74 : decode prog_12_method_55_code 74 = .ok (.ireturn, 1) := by decide +kernel
theorem d_M_analyse_75 : decode prog_12_method_55_code 75 = .ok (.iconst 0, 1) := by decide +kernel
theorem d_M_analyse_76 : decode prog_12_method_55_code 76 = .ok (.istore_n 1, 1) := by decide +kernel
theorem d_M_analyse_77 : decode prog_12_method_55_code 77 = .ok (.iload_n 1, 1) := by decide +kernel
theorem d_M_analyse_78 : decode prog_12_method_55_code 78 = .ok (.sipush 144, 3) := by decide +kernel
theorem d_M_analyse_81 : decode prog_12_method_55_code 81 = .ok (.if_icmp .ge 27, 3) := by decide +kernel
theorem d_M_analyse_84 : decode prog_12_method_55_code 84 = .ok (.aload_n 0, 1) := by decide +kernel
theorem d_M_analyse_85 : decode prog_12_method_55_code 85 = .ok (.getfield 22, 3) := by decide +kernel
theorem d_M_analyse_88 : decode prog_12_method_55_code 88 = .ok (.iload_n 1, 1) := by decide +kernel
theorem d_M_analyse_89 : decode prog_12_method_55_code 89 = .ok (.baload, 1) := by decide +kernel
theorem d_M_analyse_90 : decode prog_12_method_55_code 90 = .ok (.ifCond .ne 12, 3) := by decide +kernel
theorem d_M_analyse_93 : decode prog_12_method_55_code 93 = .ok (.aload_n 0, 1) := by decide +kernel
theorem d_M_analyse_94 : decode prog_12_method_55_code 94 = .ok (.getfield 19, 3) := by decide +kernel
theorem d_M_analyse_97 : decode prog_12_method_55_code 97 = .ok (.iload_n 1, 1) := by decide +kernel
theorem d_M_analyse_98 : decode prog_12_method_55_code 98 = .ok (.iaload, 1) := by decide +kernel
theorem d_M_analyse_99 : decode prog_12_method_55_code 99 = .ok (.ifCond .ge 9, 3) := by decide +kernel
theorem d_M_analyse_102 : decode prog_12_method_55_code 102 = .ok (.iinc 1 1, 3) := by decide +kernel
theorem d_M_analyse_105 : decode prog_12_method_55_code 105 = .ok (.goto (-28), 3) := by decide +kernel
theorem d_M_analyse_108 : decode prog_12_method_55_code 108 = .ok (.goto (-64), 3) := by decide +kernel
theorem d_M_analyse_111 : decode prog_12_method_55_code 111 = .ok (.iconst 0, 1) := by decide +kernel
theorem d_M_analyse_112 : decode prog_12_method_55_code 112 = .ok (.ireturn, 1) := by decide +kernel
def rm_c_M_analyse : Room := { frames := 5, cells := 0, slots := 0, locals := 110 }
set_option maxHeartbeats 4000000 in
set_option maxRecDepth 100000 in
theorem c_M_analyse (l : Launch) (E : kE) (mo mb mm mw mh ml len en gas ctr siz hgt frm ret : Nat) (on ay : Bool) (nb bb : Nat → Nat) (okb : okB len bb nb) (fh fl : Nat → Int32) : Ki l y_M_analyse (kW y_M_analyse prog_12_method_55_code 3 (some .int)) rm_c_M_analyse E [.ref mo] [(mo, .inr (8, [.int (nI len), .ref mb, .int (kb on), .int (nI en), .int (nI gas), .int (nI ctr), .int (nI siz), .int (nI hgt), .int (nI frm), .int (nI ret), .ref mm, .ref mw, .ref mh, .ref ml, .int (kb ay)])), (mb, .inl (E.2.1 0, 96, .inl (nF nb))), (mh, .inl (E.2.1 0, 144, .inl fh)), (ml, .inl (E.2.1 1, 144, .inl fl))] (S := (Nat → Int32) × (Nat → Int32)) (fun r u => r = nI (a_judge len bb).1 ∧ okA2 (a_judge len bb).2 u.1) (fun u => [(mo, .inr (8, [.int (nI len), .ref mb, .int (kb on), .int (nI en), .int (nI gas), .int (nI ctr), .int (nI siz), .int (nI hgt), .int (nI frm), .int (nI ret), .ref mm, .ref mw, .ref mh, .ref ml, .int (kb true)])), (mb, .inl (E.2.1 0, 96, .inl (nF nb))), (mh, .inl (E.2.1 0, 144, .inl u.1)), (ml, .inl (E.2.1 1, 144, .inl u.2))]) := by
  refine Ki.ofI (cc := prog_12_method_55_code) (maxL := 3) (by decide) (Nat.le_of_ble_eq_true rfl) ?_
  intro p e s m args below meth c A ls Q hx hb hts hown hml hK hG hA hP hD hS hl hret
  have hl : lv_has ls 3 [(0, .ref mo)] := hl
  refine lv_aload_n hx hb d_M_analyse_0 rfl (lv_at hl 0 rfl) ?_
  refine lv_iconst (v := nI 1) hx hb d_M_analyse_1 (by decide) ?_
  refine k_top (y := kb true) (by decide) ?_
  refine va_put (D := E.1) (ci := 8) (v := .int (kb true)) (ty := .boolean) (C := "WideStackModel") (T := T_M) (N := 15) hx hb hts in_M ty_M tyok_M nm_M hown hK hP hD hS 0 rfl rfl 14 (by decide) (hts _ t_761) (fun _ h9 => h9) rfl (by decide +kernel) rfl rfl (Nat.le_of_ble_eq_true rfl) d_M_analyse_2 (fun H locs hP hD hS => ?_)
  have hP : va_P E.1 vwCl [(mo, .inr (8, [.int (nI len), .ref mb, .int (kb on), .int (nI en), .int (nI gas), .int (nI ctr), .int (nI siz), .int (nI hgt), .int (nI frm), .int (nI ret), .ref mm, .ref mw, .ref mh, .ref ml, .int (kb true)])), (mb, .inl (E.2.1 0, 96, .inl (nF nb))), (mh, .inl (E.2.1 0, 144, .inl fh)), (ml, .inl (E.2.1 1, 144, .inl fl))] H := hP
  have hD : va_D A [(mo, .inr (8, [.int (nI len), .ref mb, .int (kb on), .int (nI en), .int (nI gas), .int (nI ctr), .int (nI siz), .int (nI hgt), .int (nI frm), .int (nI ret), .ref mm, .ref mw, .ref mh, .ref ml, .int (kb true)])), (mb, .inl (E.2.1 0, 96, .inl (nF nb))), (mh, .inl (E.2.1 0, 144, .inl fh)), (ml, .inl (E.2.1 1, 144, .inl fl))] := hD
  refine lv_iconst (v := nI 0) hx hb d_M_analyse_5 (by decide) ?_
  refine lv_istore_n (lv' := [(1, .int (nI 0)), (0, .ref mo)]) hx hb d_M_analyse_6 rfl hl (by decide) rfl (fun ls hl => ?_)
  have key7 : ∀ (n0 : Nat) (i : Nat) (z : Nat → Int32) (y : Nat → Int32) (H : Heap) (locs : List Loc) (ls : Array Slot), i + n0 = 144 → (∀ j, j < i → z j = m1 (a_h0 j) ∧ y j = nI 0) → lv_has ls 3 [(1, .int (nI i)), (0, .ref mo)] → va_P E.1 vwCl [(mo, .inr (8, [.int (nI len), .ref mb, .int (kb on), .int (nI en), .int (nI gas), .int (nI ctr), .int (nI siz), .int (nI hgt), .int (nI frm), .int (nI ret), .ref mm, .ref mw, .ref mh, .ref ml, .int (kb true)])), (mb, .inl (E.2.1 0, 96, .inl (nF nb))), (mh, .inl (E.2.1 0, 144, .inl z)), (ml, .inl (E.2.1 1, 144, .inl y))] H → va_D A [(mo, .inr (8, [.int (nI len), .ref mb, .int (kb on), .int (nI en), .int (nI gas), .int (nI ctr), .int (nI siz), .int (nI hgt), .int (nI frm), .int (nI ret), .ref mm, .ref mw, .ref mh, .ref ml, .int (kb true)])), (mb, .inl (E.2.1 0, 96, .inl (nF nb))), (mh, .inl (E.2.1 0, 144, .inl z)), (ml, .inl (E.2.1 1, 144, .inl y))] → va_S A s.heap H locs → W p l e rm_c_M_analyse s m args below meth c H locs 0 0 Q (F0 m 7 ls []) := by
    intro n0
    induction n0 using Nat.strongRecOn with
    | ind n0 ih_n0 =>
      intro i z y H locs ls hn hZ hl hP hD hS
      refine lv_iload_n hx hb d_M_analyse_7 rfl (lv_at hl 0 rfl) ?_
      refine lv_sipush (v := nI 144) hx hb d_M_analyse_8 (by decide) ?_
      refine kn_ge (tgt := 42) hx hb (by omega) (by omega) d_M_analyse_11 (by decide) (fun h11 => ?_) (fun h11 => ?_)
      · refine lv_iconst (v := nI 0) hx hb d_M_analyse_42 (by decide) ?_
        refine lv_istore_n (lv' := [(1, .int (nI 0)), (0, .ref mo)]) hx hb d_M_analyse_43 rfl hl (by decide) rfl (fun ls hl => ?_)
        have key44 : ∀ (n : Nat) (i : Nat) (hs : Nat → Nat) (lk : Nat → Bool) (z : Nat → Int32) (y : Nat → Int32) (H : Heap) (locs : List Loc) (ls : Array Slot), a_cu lk 129 ≤ n → (anI len bb i n hs lk z y) → lv_has ls 3 [(1, .int (nI i)), (0, .ref mo)] → va_P E.1 vwCl [(mo, .inr (8, [.int (nI len), .ref mb, .int (kb on), .int (nI en), .int (nI gas), .int (nI ctr), .int (nI siz), .int (nI hgt), .int (nI frm), .int (nI ret), .ref mm, .ref mw, .ref mh, .ref ml, .int (kb true)])), (mb, .inl (E.2.1 0, 96, .inl (nF nb))), (mh, .inl (E.2.1 0, 144, .inl z)), (ml, .inl (E.2.1 1, 144, .inl y))] H → va_D A [(mo, .inr (8, [.int (nI len), .ref mb, .int (kb on), .int (nI en), .int (nI gas), .int (nI ctr), .int (nI siz), .int (nI hgt), .int (nI frm), .int (nI ret), .ref mm, .ref mw, .ref mh, .ref ml, .int (kb true)])), (mb, .inl (E.2.1 0, 96, .inl (nF nb))), (mh, .inl (E.2.1 0, 144, .inl z)), (ml, .inl (E.2.1 1, 144, .inl y))] → va_S A s.heap H locs → W p l e rm_c_M_analyse s m args below meth c H locs 0 0 Q (F0 m 44 ls []) := by
          intro n
          induction n using Nat.strongRecOn with
          | ind n ih =>
            intro i hs lk z y H locs ls hn hI hl hP hD hS
            have hib : i ≤ 144 := by rcases hI.2.2.2.1 with q | q; omega; have := a_least_in (hs := hs) (lk := lk) (by omega); omega
            refine lv_iload_n hx hb d_M_analyse_44 rfl (lv_at hl 0 rfl) ?_
            refine lv_sipush (v := nI 144) hx hb d_M_analyse_45 (by decide) ?_
            refine kn_ge (tgt := 111) hx hb (by omega) (by omega) d_M_analyse_48 (by decide) (fun h48 => ?_) (fun h48 => ?_)
            · refine lv_iconst (v := nI 0) hx hb d_M_analyse_111 (by decide) ?_
              exact hret _ ls _ _ _ (z, y) d_M_analyse_112 (an_end hI (by omega)) hP hS
            · refine lv_aload_n hx hb d_M_analyse_51 rfl (lv_at hl 1 rfl) ?_
              refine va_get (D := E.1) (ci := 8) (v := .ref ml) (C := "WideStackModel") (T := T_M) (N := 15) hx hb hts in_M hown hK hP 0 rfl rfl 13 (by decide) (hts _ t_760) (fun _ h9 => h9) rfl d_M_analyse_52 ?_
              refine lv_iload_n hx hb d_M_analyse_55 rfl (lv_at hl 0 rfl) ?_
              refine lv_iconst (v := nI 1) hx hb d_M_analyse_56 (by decide) ?_
              refine k_zast hx hb hK hP hD hS 3 rfl (i := i) (by omega) (by omega) (by decide) d_M_analyse_57 (fun H locs hP hD hS => ?_)
              have hP : va_P E.1 vwCl [(mo, .inr (8, [.int (nI len), .ref mb, .int (kb on), .int (nI en), .int (nI gas), .int (nI ctr), .int (nI siz), .int (nI hgt), .int (nI frm), .int (nI ret), .ref mm, .ref mw, .ref mh, .ref ml, .int (kb true)])), (mb, .inl (E.2.1 0, 96, .inl (nF nb))), (mh, .inl (E.2.1 0, 144, .inl z)), (ml, .inl (E.2.1 1, 144, .inl (upd y i (nI 1))))] H := hP
              have hD : va_D A [(mo, .inr (8, [.int (nI len), .ref mb, .int (kb on), .int (nI en), .int (nI gas), .int (nI ctr), .int (nI siz), .int (nI hgt), .int (nI frm), .int (nI ret), .ref mm, .ref mw, .ref mh, .ref ml, .int (kb true)])), (mb, .inl (E.2.1 0, 96, .inl (nF nb))), (mh, .inl (E.2.1 0, 144, .inl z)), (ml, .inl (E.2.1 1, 144, .inl (upd y i (nI 1))))] := hD
              refine lv_aload_n hx hb d_M_analyse_58 rfl (lv_at hl 1 rfl) ?_
              refine lv_iload_n hx hb d_M_analyse_59 rfl (lv_at hl 0 rfl) ?_
              obtain ⟨e1, e2, e3, e4⟩ := an_lt hI (by omega)
              have hcn := hn
              refine k_Vi (As := [.int (nI i)]) (rest := []) ⟨hx, hb, hml, hown, hts⟩ (c_M_look l E mo mb mm mw mh ml len en gas ctr siz hgt frm ret on true nb bb okb z hs hI.1 hI.2.2.1 i e2) (k_cwV 1 hts t_994 t_996 t_58 t_71 t_997 (by decide +kernel) ⟨Nat.le_of_ble_eq_true rfl, Nat.le_of_ble_eq_true rfl⟩) hK hG hA hP hD hS [0, 1, 2] rfl (by decide) 0 rfl rfl (fun _ => rfl) rfl hl.1 rfl (Nat.le_of_ble_eq_true rfl) d_M_analyse_60 ⟨Nat.zero_le _, Nat.zero_le _⟩ (fun r u H locs hu hP hD hS => ?_)
              have hP : va_P E.1 vwCl [(mo, .inr (8, [.int (nI len), .ref mb, .int (kb on), .int (nI en), .int (nI gas), .int (nI ctr), .int (nI siz), .int (nI hgt), .int (nI frm), .int (nI ret), .ref mm, .ref mw, .ref mh, .ref ml, .int (kb true)])), (mb, .inl (E.2.1 0, 96, .inl (nF nb))), (mh, .inl (E.2.1 0, 144, .inl u)), (ml, .inl (E.2.1 1, 144, .inl (upd y i (nI 1))))] H := hP
              have hD : va_D A [(mo, .inr (8, [.int (nI len), .ref mb, .int (kb on), .int (nI en), .int (nI gas), .int (nI ctr), .int (nI siz), .int (nI hgt), .int (nI frm), .int (nI ret), .ref mm, .ref mw, .ref mh, .ref ml, .int (kb true)])), (mb, .inl (E.2.1 0, 96, .inl (nF nb))), (mh, .inl (E.2.1 0, 144, .inl u)), (ml, .inl (E.2.1 1, 144, .inl (upd y i (nI 1))))] := hD
              have hle := a_look_le (len := len) (b := bb) (hs := hs) (i := i)
              refine k_top hu.1 ?_
              refine lv_istore_n (lv' := [(2, .int (nI ((a_look len bb hs i).1))), (1, .int (nI i)), (0, .ref mo)]) hx hb d_M_analyse_63 rfl hl (by decide) rfl (fun ls hl => ?_)
              refine lv_iload_n hx hb d_M_analyse_64 rfl (lv_at hl 0 rfl) ?_
              refine kn_ifle (tgt := 75) hx hb (by omega) d_M_analyse_65 (by decide) (fun h65 => ?_) (fun h65 => ?_)
              · refine lv_iconst (v := nI 0) hx hb d_M_analyse_75 (by decide) ?_
                refine lv_istore_n (lv' := [(1, .int (nI 0)), (2, .int (nI ((a_look len bb hs i).1))), (0, .ref mo)]) hx hb d_M_analyse_76 rfl hl (by decide) rfl (fun ls hl => ?_)
                have key77 : ∀ (n2 : Nat) (k : Nat) (H : Heap) (locs : List Loc) (ls : Array Slot), k + n2 = 144 → (∀ x, x < k → ¬ ((a_look len bb hs i).2 x ≠ 0 ∧ va_up lk i true x = false)) → lv_has ls 3 [(1, .int (nI k)), (0, .ref mo)] → va_P E.1 vwCl [(mo, .inr (8, [.int (nI len), .ref mb, .int (kb on), .int (nI en), .int (nI gas), .int (nI ctr), .int (nI siz), .int (nI hgt), .int (nI frm), .int (nI ret), .ref mm, .ref mw, .ref mh, .ref ml, .int (kb true)])), (mb, .inl (E.2.1 0, 96, .inl (nF nb))), (mh, .inl (E.2.1 0, 144, .inl u)), (ml, .inl (E.2.1 1, 144, .inl (upd y i (nI 1))))] H → va_D A [(mo, .inr (8, [.int (nI len), .ref mb, .int (kb on), .int (nI en), .int (nI gas), .int (nI ctr), .int (nI siz), .int (nI hgt), .int (nI frm), .int (nI ret), .ref mm, .ref mw, .ref mh, .ref ml, .int (kb true)])), (mb, .inl (E.2.1 0, 96, .inl (nF nb))), (mh, .inl (E.2.1 0, 144, .inl u)), (ml, .inl (E.2.1 1, 144, .inl (upd y i (nI 1))))] → va_S A s.heap H locs → W p l e rm_c_M_analyse s m args below meth c H locs 0 0 Q (F0 m 77 ls []) := by
                  intro n2
                  induction n2 using Nat.strongRecOn with
                  | ind n2 ih_n2 =>
                    intro k H locs ls hn hK2 hl hP hD hS
                    refine lv_iload_n hx hb d_M_analyse_77 rfl (lv_at hl 0 rfl) ?_
                    refine lv_sipush (v := nI 144) hx hb d_M_analyse_78 (by decide) ?_
                    refine kn_ge (tgt := 108) hx hb (by omega) (by omega) d_M_analyse_81 (by decide) (fun h81 => ?_) (fun h81 => ?_)
                    · have hN := an_next okb.1 okb.2.1 hI hcn (by omega) (by omega) hu.2 (p := k) (by first | exact Or.inl ⟨by omega, hK2⟩ | exact Or.inr ⟨by omega, ⟨okA2_1 hu.2 (by omega) h99, okL2_0 (okL2_up (i := i) hI.2.1) (k := k) (by omega) h90⟩, hK2⟩)
                      refine lv_goto (tgt := 44) hx hb d_M_analyse_108 (by decide) ?_
                      exact ih (n - 1) (by omega) k ((a_look len bb hs i).2) (va_up lk i true) u (upd y i (nI 1)) _ _ ls hN.1 hN.2.2 (lv_sub hl [0, 1] rfl) hP hD hS
                    · refine lv_aload_n hx hb d_M_analyse_84 rfl (lv_at hl 1 rfl) ?_
                      refine va_get (D := E.1) (ci := 8) (v := .ref ml) (C := "WideStackModel") (T := T_M) (N := 15) hx hb hts in_M hown hK hP 0 rfl rfl 13 (by decide) (hts _ t_760) (fun _ h9 => h9) rfl d_M_analyse_85 ?_
                      refine lv_iload_n hx hb d_M_analyse_88 rfl (lv_at hl 0 rfl) ?_
                      refine k_zald hx hb hK hP 3 rfl (i := k) (by omega) (by omega) d_M_analyse_89 ?_
                      refine lv_if_ne (tgt := 102) hx hb d_M_analyse_90 (by decide) (fun h90 => ?_) (fun h90 => ?_)
                      · refine lv_iinc (k := 0) (v := nI (k + 1)) (lv' := [(1, .int (nI (k + 1))), (0, .ref mo)]) hx hb d_M_analyse_102 hl rfl (k_inc _) (by decide) rfl (fun ls hl => ?_)
                        refine lv_goto (tgt := 77) hx hb d_M_analyse_105 (by decide) ?_
                        exact ih_n2 (n2 - 1) (by omega) (k + 1) _ _ ls (by omega) (ls_next hK2 (by first | exact fun q => q.1 (okA2_0 hu.2 (by omega) h99) | exact fun q => absurd (q.2.symm.trans (okL2_1 (okL2_up (i := i) hI.2.1) (k := k) (by omega) h90)) (by decide))) (lv_sub hl [0, 1] rfl) hP hD hS
                      · refine lv_aload_n hx hb d_M_analyse_93 rfl (lv_at hl 1 rfl) ?_
                        refine va_get (D := E.1) (ci := 8) (v := .ref mh) (C := "WideStackModel") (T := T_M) (N := 15) hx hb hts in_M hown hK hP 0 rfl rfl 12 (by decide) (hts _ t_759) (fun _ h9 => h9) rfl d_M_analyse_94 ?_
                        refine lv_iload_n hx hb d_M_analyse_97 rfl (lv_at hl 0 rfl) ?_
                        refine k_iald hx hb hK hP 2 rfl (i := k) (by omega) (by omega) d_M_analyse_98 ?_
                        refine lv_if_ge (tgt := 108) hx hb d_M_analyse_99 (by decide) (fun h99 => ?_) (fun h99 => ?_)
                        · have hN := an_next okb.1 okb.2.1 hI hcn (by omega) (by omega) hu.2 (p := k) (by first | exact Or.inl ⟨by omega, hK2⟩ | exact Or.inr ⟨by omega, ⟨okA2_1 hu.2 (by omega) h99, okL2_0 (okL2_up (i := i) hI.2.1) (k := k) (by omega) h90⟩, hK2⟩)
                          refine lv_goto (tgt := 44) hx hb d_M_analyse_108 (by decide) ?_
                          exact ih (n - 1) (by omega) k ((a_look len bb hs i).2) (va_up lk i true) u (upd y i (nI 1)) _ _ ls hN.1 hN.2.2 (lv_sub hl [0, 1] rfl) hP hD hS
                        · refine lv_iinc (k := 0) (v := nI (k + 1)) (lv' := [(1, .int (nI (k + 1))), (0, .ref mo)]) hx hb d_M_analyse_102 hl rfl (k_inc _) (by decide) rfl (fun ls hl => ?_)
                          refine lv_goto (tgt := 77) hx hb d_M_analyse_105 (by decide) ?_
                          exact ih_n2 (n2 - 1) (by omega) (k + 1) _ _ ls (by omega) (ls_next hK2 (by first | exact fun q => q.1 (okA2_0 hu.2 (by omega) h99) | exact fun q => absurd (q.2.symm.trans (okL2_1 (okL2_up (i := i) hI.2.1) (k := k) (by omega) h90)) (by decide))) (lv_sub hl [0, 1] rfl) hP hD hS
                exact key77 144 0 _ _ ls (by omega) (fun x hx => absurd hx (Nat.not_lt_zero x)) (lv_sub hl [0, 2] rfl) hP hD hS
              · refine lv_bipush (v := nI 8) hx hb d_M_analyse_68 (by decide) ?_
                refine lv_iload_n hx hb d_M_analyse_70 rfl (lv_at hl 1 rfl) ?_
                refine lv_imul hx hb d_M_analyse_71 ?_
                refine k_top (pk_mul _ _) ?_
                refine lv_iload_n hx hb d_M_analyse_72 rfl (lv_at hl 0 rfl) ?_
                refine lv_iadd hx hb d_M_analyse_73 ?_
                refine k_top (nI_add _ _) ?_
                exact hret _ ls _ _ _ (u, upd y i (nI 1)) d_M_analyse_74 (an_ret hI hn (by omega) (by omega) hu.2) hP hS
        exact key44 129 0 a_h0 (fun _ => false) z y _ _ ls (Nat.le_of_eq (a_cu_all 129)) ⟨⟨fun j hj => (hZ j (by omega)).1, h0_le⟩, fun j hj => (hZ j (by omega)).2, okH_0, Or.inr ⟨least_0.symm, by decide⟩, rfl⟩ (lv_sub hl [0, 1] rfl) hP hD hS
      · refine lv_aload_n hx hb d_M_analyse_14 rfl (lv_at hl 1 rfl) ?_
        refine va_get (D := E.1) (ci := 8) (v := .ref mh) (C := "WideStackModel") (T := T_M) (N := 15) hx hb hts in_M hown hK hP 0 rfl rfl 12 (by decide) (hts _ t_759) (fun _ h9 => h9) rfl d_M_analyse_15 ?_
        refine lv_iload_n hx hb d_M_analyse_18 rfl (lv_at hl 0 rfl) ?_
        refine lv_iload_n hx hb d_M_analyse_19 rfl (lv_at hl 0 rfl) ?_
        refine kn_ifne (tgt := 27) hx hb (by omega) d_M_analyse_20 (by decide) (fun h20 => ?_) (fun h20 => ?_)
        · refine lv_iconst (v := -1) hx hb d_M_analyse_27 (by decide) ?_
          refine k_iast hx hb hK hP hD hS 2 rfl (i := i) (by omega) (by omega) d_M_analyse_28 (fun H locs hP hD hS => ?_)
          have hP : va_P E.1 vwCl [(mo, .inr (8, [.int (nI len), .ref mb, .int (kb on), .int (nI en), .int (nI gas), .int (nI ctr), .int (nI siz), .int (nI hgt), .int (nI frm), .int (nI ret), .ref mm, .ref mw, .ref mh, .ref ml, .int (kb true)])), (mb, .inl (E.2.1 0, 96, .inl (nF nb))), (mh, .inl (E.2.1 0, 144, .inl (upd z i (-1)))), (ml, .inl (E.2.1 1, 144, .inl y))] H := hP
          have hD : va_D A [(mo, .inr (8, [.int (nI len), .ref mb, .int (kb on), .int (nI en), .int (nI gas), .int (nI ctr), .int (nI siz), .int (nI hgt), .int (nI frm), .int (nI ret), .ref mm, .ref mw, .ref mh, .ref ml, .int (kb true)])), (mb, .inl (E.2.1 0, 96, .inl (nF nb))), (mh, .inl (E.2.1 0, 144, .inl (upd z i (-1)))), (ml, .inl (E.2.1 1, 144, .inl y))] := hD
          refine lv_aload_n hx hb d_M_analyse_29 rfl (lv_at hl 1 rfl) ?_
          refine va_get (D := E.1) (ci := 8) (v := .ref ml) (C := "WideStackModel") (T := T_M) (N := 15) hx hb hts in_M hown hK hP 0 rfl rfl 13 (by decide) (hts _ t_760) (fun _ h9 => h9) rfl d_M_analyse_30 ?_
          refine lv_iload_n hx hb d_M_analyse_33 rfl (lv_at hl 0 rfl) ?_
          refine lv_iconst (v := nI 0) hx hb d_M_analyse_34 (by decide) ?_
          refine k_zast hx hb hK hP hD hS 3 rfl (i := i) (by omega) (by omega) (by decide) d_M_analyse_35 (fun H locs hP hD hS => ?_)
          have hP : va_P E.1 vwCl [(mo, .inr (8, [.int (nI len), .ref mb, .int (kb on), .int (nI en), .int (nI gas), .int (nI ctr), .int (nI siz), .int (nI hgt), .int (nI frm), .int (nI ret), .ref mm, .ref mw, .ref mh, .ref ml, .int (kb true)])), (mb, .inl (E.2.1 0, 96, .inl (nF nb))), (mh, .inl (E.2.1 0, 144, .inl (upd z i (-1)))), (ml, .inl (E.2.1 1, 144, .inl (upd y i (nI 0))))] H := hP
          have hD : va_D A [(mo, .inr (8, [.int (nI len), .ref mb, .int (kb on), .int (nI en), .int (nI gas), .int (nI ctr), .int (nI siz), .int (nI hgt), .int (nI frm), .int (nI ret), .ref mm, .ref mw, .ref mh, .ref ml, .int (kb true)])), (mb, .inl (E.2.1 0, 96, .inl (nF nb))), (mh, .inl (E.2.1 0, 144, .inl (upd z i (-1)))), (ml, .inl (E.2.1 1, 144, .inl (upd y i (nI 0))))] := hD
          refine lv_iinc (k := 0) (v := nI (i + 1)) (lv' := [(1, .int (nI (i + 1))), (0, .ref mo)]) hx hb d_M_analyse_36 hl rfl (k_inc _) (by decide) rfl (fun ls hl => ?_)
          refine lv_goto (tgt := 7) hx hb d_M_analyse_39 (by decide) ?_
          exact ih_n0 (n0 - 1) (by omega) (i + 1) (upd z i (-1)) (upd y i (nI 0)) _ _ ls (by omega) (fun j hj => an_init hZ (by unfold a_h0; first | (rw [if_pos h20]; rfl) | (rw [if_neg h20]; rfl)) j hj) (lv_sub hl [0, 1] rfl) hP hD hS
        · refine lv_iconst (v := nI 0) hx hb d_M_analyse_23 (by decide) ?_
          refine lv_goto (tgt := 28) hx hb d_M_analyse_24 (by decide) ?_
          refine k_iast hx hb hK hP hD hS 2 rfl (i := i) (by omega) (by omega) d_M_analyse_28 (fun H locs hP hD hS => ?_)
          have hP : va_P E.1 vwCl [(mo, .inr (8, [.int (nI len), .ref mb, .int (kb on), .int (nI en), .int (nI gas), .int (nI ctr), .int (nI siz), .int (nI hgt), .int (nI frm), .int (nI ret), .ref mm, .ref mw, .ref mh, .ref ml, .int (kb true)])), (mb, .inl (E.2.1 0, 96, .inl (nF nb))), (mh, .inl (E.2.1 0, 144, .inl (upd z i (nI 0)))), (ml, .inl (E.2.1 1, 144, .inl y))] H := hP
          have hD : va_D A [(mo, .inr (8, [.int (nI len), .ref mb, .int (kb on), .int (nI en), .int (nI gas), .int (nI ctr), .int (nI siz), .int (nI hgt), .int (nI frm), .int (nI ret), .ref mm, .ref mw, .ref mh, .ref ml, .int (kb true)])), (mb, .inl (E.2.1 0, 96, .inl (nF nb))), (mh, .inl (E.2.1 0, 144, .inl (upd z i (nI 0)))), (ml, .inl (E.2.1 1, 144, .inl y))] := hD
          refine lv_aload_n hx hb d_M_analyse_29 rfl (lv_at hl 1 rfl) ?_
          refine va_get (D := E.1) (ci := 8) (v := .ref ml) (C := "WideStackModel") (T := T_M) (N := 15) hx hb hts in_M hown hK hP 0 rfl rfl 13 (by decide) (hts _ t_760) (fun _ h9 => h9) rfl d_M_analyse_30 ?_
          refine lv_iload_n hx hb d_M_analyse_33 rfl (lv_at hl 0 rfl) ?_
          refine lv_iconst (v := nI 0) hx hb d_M_analyse_34 (by decide) ?_
          refine k_zast hx hb hK hP hD hS 3 rfl (i := i) (by omega) (by omega) (by decide) d_M_analyse_35 (fun H locs hP hD hS => ?_)
          have hP : va_P E.1 vwCl [(mo, .inr (8, [.int (nI len), .ref mb, .int (kb on), .int (nI en), .int (nI gas), .int (nI ctr), .int (nI siz), .int (nI hgt), .int (nI frm), .int (nI ret), .ref mm, .ref mw, .ref mh, .ref ml, .int (kb true)])), (mb, .inl (E.2.1 0, 96, .inl (nF nb))), (mh, .inl (E.2.1 0, 144, .inl (upd z i (nI 0)))), (ml, .inl (E.2.1 1, 144, .inl (upd y i (nI 0))))] H := hP
          have hD : va_D A [(mo, .inr (8, [.int (nI len), .ref mb, .int (kb on), .int (nI en), .int (nI gas), .int (nI ctr), .int (nI siz), .int (nI hgt), .int (nI frm), .int (nI ret), .ref mm, .ref mw, .ref mh, .ref ml, .int (kb true)])), (mb, .inl (E.2.1 0, 96, .inl (nF nb))), (mh, .inl (E.2.1 0, 144, .inl (upd z i (nI 0)))), (ml, .inl (E.2.1 1, 144, .inl (upd y i (nI 0))))] := hD
          refine lv_iinc (k := 0) (v := nI (i + 1)) (lv' := [(1, .int (nI (i + 1))), (0, .ref mo)]) hx hb d_M_analyse_36 hl rfl (k_inc _) (by decide) rfl (fun ls hl => ?_)
          refine lv_goto (tgt := 7) hx hb d_M_analyse_39 (by decide) ?_
          exact ih_n0 (n0 - 1) (by omega) (i + 1) (upd z i (nI 0)) (upd y i (nI 0)) _ _ ls (by omega) (fun j hj => an_init hZ (by unfold a_h0; first | (rw [if_pos h20]; rfl) | (rw [if_neg h20]; rfl)) j hj) (lv_sub hl [0, 1] rfl) hP hD hS
  exact key7 144 0 fh fl _ _ ls (by omega) (fun j hj => absurd hj (Nat.not_lt_zero j)) (lv_sub hl [0, 1] rfl) hP hD hS

