/-! the reference: faults, what is taken of a text -/
section MT3
variable {G : zG} {I : Nat → Nat → Int32} {J : Nat → Nat → Int64} {P : Nat → Nat → Option Nat} {S : List (Nat × Nat)} {L : Nat} {a b : Int32} {T : Nat → Int32} {K : Nat → Int64} {t : tk} {z : Nat}
def mB (I : Nat → Nat → Int32) (e : Nat × Nat) : Nat → Nat → Int32 := zu (zu I 145 12 (nI e.1)) 145 13 (nI e.2)
theorem mB_row {e : Nat × Nat} {a : Nat} (h : a ≠ 145) : mB I e a = I a := by unfold mB; rw [zu_row _ _ _ _ h, zu_row _ _ _ _ h]
theorem mB_ne {e : Nat × Nat} {k : Nat} (h : k ≠ 12) (h2 : k ≠ 13) : mB I e 145 k = I 145 k := by unfold mB; rw [zu_ne _ _ _ _ (by omega), zu_ne _ _ _ _ (by omega)]
theorem moC_f {e : Nat × Nat} (C : moC T K L z I J P S t) : moC T K L e.1 (mB I e) J P S t := by
  obtain ⟨M, ⟨h9, hL⟩, ⟨hT, hB, hK⟩, ⟨a1, a2, a3, a4, a5, a6⟩, hP, hE, h12⟩ := C
  refine ⟨M, ⟨(mB_ne (by decide) (by decide)).trans h9, hL⟩, ⟨fun k hk => by rw [mB_row (by decide)]; exact hT k hk, hB, hK⟩, ⟨(mB_ne (by decide) (by decide)).trans a1, (mB_ne (by decide) (by decide)).trans a2, (mB_ne (by decide) (by decide)).trans a3, fun h => ⟨(mB_ne (by decide) (by decide)).trans (a4 h).1, (a4 h).2⟩, fun h => (mB_ne (by decide) (by decide)).trans (a5 h), fun h => (mB_ne (by decide) (by decide)).trans (a6 h)⟩, hP, hE, ?_⟩
  simp [mB, zu]
/-- the text's place holds: a cell of the token is read -/
theorem moC_n (C : moC T K L z I J P S t) : I 145 14 = nI (tkd t) ∧ I 145 15 = nI (tst t) ∧ I 145 12 = nI z ∧ tkd t ≤ 4 ∧ ten t ≤ 900 ∧ tst t ≤ ten t ∧ S[145]? = some (12, 47) := by
  obtain ⟨M, ⟨h9, hL⟩, -, ⟨a1, a2, a3, a4, a5, a6⟩, hP, hE, h12⟩ := C
  exact ⟨a1, a2, h12, hP.2.2.2.2.2.2.2, by omega, hP.2.2.2.2.2.1, M.1⟩
theorem m_fail0 {k x : Nat} (C : moC T K L 0 I J P S t) : zEv G y_Mo_fail prog_14_method_44_code 3 1 0 0 [.ref 145, .int (nI k), .int (nI x)] (I, J, P, S) (fun w => w = (mB I (k, x), J, P, S)) := by
  obtain ⟨a1, a2, a3, -, -, -, M0⟩ := moC_n C
  refine zEv_of (lv := [some (.ref 145), some (.int (nI k)), some (.int (nI x))]) (by decide) rfl (Nat.le_of_ble_eq_true rfl) ?_
  refine z_aload_0 d_Mo_fail_0 ?_
  refine z_getIv d_Mo_fail_1 f_Mo_202 (by first | assumption | exact zS0_at (by assumption) (by omega) | exact zS0_at rfl (by omega)) (by first | assumption | ((try simp (disch := omega) only [zu_same, zu_ne, zcp_ne, zfl_ne]); first | assumption | rfl)) ?_
  refine z_if_le (tgt := 8) d_Mo_fail_4 (by decide) (fun h4 => ?_) (fun h4 => ?_)
  · first
    | (simp (disch := omega) only [← nI_0, nI_leI, nI_ltI, nI_eq, not_true_eq_false, not_false_eq_true] at h4; done)
    | (simp (disch := omega) only [← nI_0, nI_leI, nI_ltI, nI_eq, not_true_eq_false, not_false_eq_true] at h4; omega)
    | contradiction
    | exact absurd h4 (Int32.not_lt.mpr (by assumption))
    | exact absurd h4 (Int32.not_le.mpr (by assumption))
    | exact absurd h4 (by decide)
    | exact absurd (by decide) h4
    | ( try simp (disch := omega) only [← nI_0, nI_leI, nI_ltI, nI_eq, not_true_eq_false, not_false_eq_true] at h4
        (try have h4b := zbit_n0.mp h4); (try have h4b := zbit_p0.mp h4)
        refine z_aload_0 d_Mo_fail_8 ?_
        refine z_iload_1 d_Mo_fail_9 ?_
        refine z_putI d_Mo_fail_10 f_Mo_202 (by first | assumption | exact zS0_at (by assumption) (by omega) | exact zS0_at rfl (by omega)) ?_
        refine z_aload_0 d_Mo_fail_13 ?_
        refine z_iload_2 d_Mo_fail_14 ?_
        refine z_putI d_Mo_fail_15 f_Mo_205 (by first | assumption | exact zS0_at (by assumption) (by omega) | exact zS0_at rfl (by omega)) ?_
        refine z_retv d_Mo_fail_18 ?_
        exact rfl)
  · first
    | (simp (disch := omega) only [← nI_0, nI_leI, nI_ltI, nI_eq, not_true_eq_false, not_false_eq_true] at h4; done)
    | (simp (disch := omega) only [← nI_0, nI_leI, nI_ltI, nI_eq, not_true_eq_false, not_false_eq_true] at h4; omega)
    | contradiction
    | exact absurd h4 (Int32.not_lt.mpr (by assumption))
    | exact absurd h4 (Int32.not_le.mpr (by assumption))
    | exact absurd h4 (by decide)
    | exact absurd (by decide) h4
    | ( try simp (disch := omega) only [← nI_0, nI_leI, nI_ltI, nI_eq, not_true_eq_false, not_false_eq_true] at h4
        (try have h4b := zbit_n0.mp h4); (try have h4b := zbit_p0.mp h4)
        refine z_retv d_Mo_fail_7 ?_
        exact rfl)
theorem m_failz (C : moC T K L z I J P S t) (h0 : 0 < z) (h9 : z < 9) : zEv G y_Mo_fail prog_14_method_44_code 3 1 0 0 [.ref 145, .int a, .int b] (I, J, P, S) (fun w => w = (I, J, P, S)) := by
  obtain ⟨a1, a2, a3, -, -, -, M0⟩ := moC_n C
  refine zEv_of (lv := [some (.ref 145), some (.int a), some (.int b)]) (by decide) rfl (Nat.le_of_ble_eq_true rfl) ?_
  refine z_aload_0 d_Mo_fail_0 ?_
  refine z_getIv d_Mo_fail_1 f_Mo_202 (by first | assumption | exact zS0_at (by assumption) (by omega) | exact zS0_at rfl (by omega)) (by first | assumption | ((try simp (disch := omega) only [zu_same, zu_ne, zcp_ne, zfl_ne]); first | assumption | rfl)) ?_
  refine z_if_le (tgt := 8) d_Mo_fail_4 (by decide) (fun h4 => ?_) (fun h4 => ?_)
  · first
    | (simp (disch := omega) only [← nI_0, nI_leI, nI_ltI, nI_eq, not_true_eq_false, not_false_eq_true] at h4; done)
    | (simp (disch := omega) only [← nI_0, nI_leI, nI_ltI, nI_eq, not_true_eq_false, not_false_eq_true] at h4; omega)
    | contradiction
    | exact absurd h4 (Int32.not_lt.mpr (by assumption))
    | exact absurd h4 (Int32.not_le.mpr (by assumption))
    | exact absurd h4 (by decide)
    | exact absurd (by decide) h4
    | ( try simp (disch := omega) only [← nI_0, nI_leI, nI_ltI, nI_eq, not_true_eq_false, not_false_eq_true] at h4
        (try have h4b := zbit_n0.mp h4); (try have h4b := zbit_p0.mp h4)
        refine z_aload_0 d_Mo_fail_8 ?_
        refine z_iload_1 d_Mo_fail_9 ?_
        refine z_putI d_Mo_fail_10 f_Mo_202 (by first | assumption | exact zS0_at (by assumption) (by omega) | exact zS0_at rfl (by omega)) ?_
        refine z_aload_0 d_Mo_fail_13 ?_
        refine z_iload_2 d_Mo_fail_14 ?_
        refine z_putI d_Mo_fail_15 f_Mo_205 (by first | assumption | exact zS0_at (by assumption) (by omega) | exact zS0_at rfl (by omega)) ?_
        refine z_retv d_Mo_fail_18 ?_
        exact rfl)
  · first
    | (simp (disch := omega) only [← nI_0, nI_leI, nI_ltI, nI_eq, not_true_eq_false, not_false_eq_true] at h4; done)
    | (simp (disch := omega) only [← nI_0, nI_leI, nI_ltI, nI_eq, not_true_eq_false, not_false_eq_true] at h4; omega)
    | contradiction
    | exact absurd h4 (Int32.not_lt.mpr (by assumption))
    | exact absurd h4 (Int32.not_le.mpr (by assumption))
    | exact absurd h4 (by decide)
    | exact absurd (by decide) h4
    | ( try simp (disch := omega) only [← nI_0, nI_leI, nI_ltI, nI_eq, not_true_eq_false, not_false_eq_true] at h4
        (try have h4b := zbit_n0.mp h4); (try have h4b := zbit_p0.mp h4)
        refine z_retv d_Mo_fail_7 ?_
        exact rfl)
theorem m_amiss0 (C : moC T K L 0 I J P S t) : zEv G y_Mo_amiss prog_14_method_45_code 1 2 0 0 [.ref 145] (I, J, P, S) (fun w => w = (mB I (p_mis t), J, P, S)) := by
  obtain ⟨a1, a2, a3, h4, h5, h6, M0⟩ := moC_n C
  refine zEv_of (lv := [some (.ref 145)]) (by decide) rfl (Nat.le_of_ble_eq_true rfl) ?_
  refine z_aload_0 d_Mo_amiss_0 ?_
  refine z_aload_0 d_Mo_amiss_1 ?_
  refine z_getIv d_Mo_amiss_2 f_Mo_125 (by first | assumption | exact zS0_at (by assumption) (by omega) | exact zS0_at rfl (by omega)) (by first | assumption | ((try simp (disch := omega) only [zu_same, zu_ne, zcp_ne, zfl_ne]); first | assumption | rfl)) ?_
  refine z_iconst (a := nI 4) d_Mo_amiss_5 (by decide) ?_
  refine z_icmp_ne (tgt := 13) d_Mo_amiss_6 (by decide) (fun hb => ?_) (fun hb => ?_)
  · have hb : ¬ tkd t = 4 := fun h => hb (by rw [h])
    refine z_iconst (a := nI 2) d_Mo_amiss_13 (by decide) ?_
    refine z_aload_0 d_Mo_amiss_14 ?_
    refine z_getIv d_Mo_amiss_15 f_Mo_119 (by first | assumption | exact zS0_at (by assumption) (by omega) | exact zS0_at rfl (by omega)) (by first | assumption | ((try simp (disch := omega) only [zu_same, zu_ne, zcp_ne, zfl_ne]); first | assumption | rfl)) ?_
    refine z_Vv2 d_Mo_amiss_18 k_Mo_208 (by first | assumption | exact zS0_at (by assumption) (by omega) | exact zS0_at rfl (by omega)) (m_fail0 C) ⟨Nat.le_of_ble_eq_true rfl, Nat.le_of_ble_eq_true rfl, Nat.le_of_ble_eq_true rfl, Nat.le_of_ble_eq_true rfl⟩ (Nat.le_of_ble_eq_true rfl) ?_
    intro w hq
    obtain rfl := hq
    refine z_retv d_Mo_amiss_21 ?_
    exact (by unfold p_mis; rw [if_neg hb])
  · have hb : tkd t = 4 := (nI_eq (by omega) (by omega)).mp hb
    refine z_iconst (a := nI 1) d_Mo_amiss_9 (by decide) ?_
    refine z_goto (tgt := 14) d_Mo_amiss_10 (by decide) ?_
    refine z_aload_0 d_Mo_amiss_14 ?_
    refine z_getIv d_Mo_amiss_15 f_Mo_119 (by first | assumption | exact zS0_at (by assumption) (by omega) | exact zS0_at rfl (by omega)) (by first | assumption | ((try simp (disch := omega) only [zu_same, zu_ne, zcp_ne, zfl_ne]); first | assumption | rfl)) ?_
    refine z_Vv2 d_Mo_amiss_18 k_Mo_208 (by first | assumption | exact zS0_at (by assumption) (by omega) | exact zS0_at rfl (by omega)) (m_fail0 C) ⟨Nat.le_of_ble_eq_true rfl, Nat.le_of_ble_eq_true rfl, Nat.le_of_ble_eq_true rfl, Nat.le_of_ble_eq_true rfl⟩ (Nat.le_of_ble_eq_true rfl) ?_
    intro w hq
    obtain rfl := hq
    refine z_retv d_Mo_amiss_21 ?_
    exact (by unfold p_mis; rw [if_pos hb])
theorem m_amissz (C : moC T K L z I J P S t) (h0 : 0 < z) (h9 : z < 9) : zEv G y_Mo_amiss prog_14_method_45_code 1 2 0 0 [.ref 145] (I, J, P, S) (fun w => w = (I, J, P, S)) := by
  obtain ⟨a1, a2, a3, h4, h5, h6, M0⟩ := moC_n C
  refine zEv_of (lv := [some (.ref 145)]) (by decide) rfl (Nat.le_of_ble_eq_true rfl) ?_
  refine z_aload_0 d_Mo_amiss_0 ?_
  refine z_aload_0 d_Mo_amiss_1 ?_
  refine z_getIv d_Mo_amiss_2 f_Mo_125 (by first | assumption | exact zS0_at (by assumption) (by omega) | exact zS0_at rfl (by omega)) (by first | assumption | ((try simp (disch := omega) only [zu_same, zu_ne, zcp_ne, zfl_ne]); first | assumption | rfl)) ?_
  refine z_iconst (a := nI 4) d_Mo_amiss_5 (by decide) ?_
  refine z_icmp_ne (tgt := 13) d_Mo_amiss_6 (by decide) (fun h6 => ?_) (fun h6 => ?_)
  · first
    | (simp (disch := omega) only [← nI_0, nI_leI, nI_ltI, nI_eq, not_true_eq_false, not_false_eq_true] at h6; done)
    | (simp (disch := omega) only [← nI_0, nI_leI, nI_ltI, nI_eq, not_true_eq_false, not_false_eq_true] at h6; omega)
    | contradiction
    | exact absurd h6 (Int32.not_lt.mpr (by assumption))
    | exact absurd h6 (Int32.not_le.mpr (by assumption))
    | exact absurd h6 (by decide)
    | exact absurd (by decide) h6
    | ( try simp (disch := omega) only [← nI_0, nI_leI, nI_ltI, nI_eq, not_true_eq_false, not_false_eq_true] at h6
        (try have h6b := zbit_n0.mp h6); (try have h6b := zbit_p0.mp h6)
        refine z_iconst (a := nI 2) d_Mo_amiss_13 (by decide) ?_
        refine z_aload_0 d_Mo_amiss_14 ?_
        refine z_getIv d_Mo_amiss_15 f_Mo_119 (by first | assumption | exact zS0_at (by assumption) (by omega) | exact zS0_at rfl (by omega)) (by first | assumption | ((try simp (disch := omega) only [zu_same, zu_ne, zcp_ne, zfl_ne]); first | assumption | rfl)) ?_
        refine z_Vv2 d_Mo_amiss_18 k_Mo_208 (by first | assumption | exact zS0_at (by assumption) (by omega) | exact zS0_at rfl (by omega)) (m_failz C h0 h9) ⟨Nat.le_of_ble_eq_true rfl, Nat.le_of_ble_eq_true rfl, Nat.le_of_ble_eq_true rfl, Nat.le_of_ble_eq_true rfl⟩ (Nat.le_of_ble_eq_true rfl) ?_
        intro w hq
        obtain rfl := hq
        refine z_retv d_Mo_amiss_21 ?_
        exact rfl)
  · first
    | (simp (disch := omega) only [← nI_0, nI_leI, nI_ltI, nI_eq, not_true_eq_false, not_false_eq_true] at h6; done)
    | (simp (disch := omega) only [← nI_0, nI_leI, nI_ltI, nI_eq, not_true_eq_false, not_false_eq_true] at h6; omega)
    | contradiction
    | exact absurd h6 (Int32.not_lt.mpr (by assumption))
    | exact absurd h6 (Int32.not_le.mpr (by assumption))
    | exact absurd h6 (by decide)
    | exact absurd (by decide) h6
    | ( try simp (disch := omega) only [← nI_0, nI_leI, nI_ltI, nI_eq, not_true_eq_false, not_false_eq_true] at h6
        (try have h6b := zbit_n0.mp h6); (try have h6b := zbit_p0.mp h6)
        refine z_iconst (a := nI 1) d_Mo_amiss_9 (by decide) ?_
        refine z_goto (tgt := 14) d_Mo_amiss_10 (by decide) ?_
        refine z_aload_0 d_Mo_amiss_14 ?_
        refine z_getIv d_Mo_amiss_15 f_Mo_119 (by first | assumption | exact zS0_at (by assumption) (by omega) | exact zS0_at rfl (by omega)) (by first | assumption | ((try simp (disch := omega) only [zu_same, zu_ne, zcp_ne, zfl_ne]); first | assumption | rfl)) ?_
        refine z_Vv2 d_Mo_amiss_18 k_Mo_208 (by first | assumption | exact zS0_at (by assumption) (by omega) | exact zS0_at rfl (by omega)) (m_failz C h0 h9) ⟨Nat.le_of_ble_eq_true rfl, Nat.le_of_ble_eq_true rfl, Nat.le_of_ble_eq_true rfl, Nat.le_of_ble_eq_true rfl⟩ (Nat.le_of_ble_eq_true rfl) ?_
        intro w hq
        obtain rfl := hq
        refine z_retv d_Mo_amiss_21 ?_
        exact rfl)
theorem m_must1 (C : moC T K L 0 I J P S t) : zEv G y_Mo_must prog_14_method_46_code 2 3 0 0 [.ref 145, .int (nI 1)] (I, J, P, S) (fun w => moN T K L 0 I J P S (tA T L K t) w) := by
  obtain ⟨a1, a2, a3, h4, h5, h6, M0⟩ := moC_n C
  refine zEv_of (lv := [some (.ref 145), some (.int (nI 1))]) (by decide) rfl (Nat.le_of_ble_eq_true rfl) ?_
  refine z_aload_0 d_Mo_must_0 ?_
  refine z_getIv d_Mo_must_1 f_Mo_202 (by first | assumption | exact zS0_at (by assumption) (by omega) | exact zS0_at rfl (by omega)) (by first | assumption | ((try simp (disch := omega) only [zu_same, zu_ne, zcp_ne, zfl_ne]); first | assumption | rfl)) ?_
  refine z_if_le (tgt := 8) d_Mo_must_4 (by decide) (fun _ => ?_) (fun h => absurd (by decide) h)
  refine z_iload_1 d_Mo_must_8 ?_
  refine z_if_eq (tgt := 19) d_Mo_must_9 (by decide) (fun h => absurd h (by decide)) (fun _ => ?_)
  refine z_aload_0 d_Mo_must_12 ?_
  refine z_Vv0 d_Mo_must_13 k_Mo_212 (by first | assumption | exact zS0_at (by assumption) (by omega) | exact zS0_at rfl (by omega)) (m_adv C) ⟨Nat.le_of_ble_eq_true rfl, Nat.le_of_ble_eq_true rfl, Nat.le_of_ble_eq_true rfl, Nat.le_of_ble_eq_true rfl⟩ (Nat.le_of_ble_eq_true rfl) ?_
  intro w hq
  have hq2 := hq
  obtain ⟨I', J', rfl, -⟩ := hq2
  refine z_goto (tgt := 23) d_Mo_must_16 (by decide) ?_
  refine z_retv d_Mo_must_23 ?_
  exact hq
theorem m_must0 (C : moC T K L 0 I J P S t) : zEv G y_Mo_must prog_14_method_46_code 2 3 0 0 [.ref 145, .int (nI 0)] (I, J, P, S) (fun w => w = (mB I (p_mis t), J, P, S)) := by
  obtain ⟨a1, a2, a3, h4, h5, h6, M0⟩ := moC_n C
  refine zEv_of (lv := [some (.ref 145), some (.int (nI 0))]) (by decide) rfl (Nat.le_of_ble_eq_true rfl) ?_
  refine z_aload_0 d_Mo_must_0 ?_
  refine z_getIv d_Mo_must_1 f_Mo_202 (by first | assumption | exact zS0_at (by assumption) (by omega) | exact zS0_at rfl (by omega)) (by first | assumption | ((try simp (disch := omega) only [zu_same, zu_ne, zcp_ne, zfl_ne]); first | assumption | rfl)) ?_
  refine z_if_le (tgt := 8) d_Mo_must_4 (by decide) (fun _ => ?_) (fun h => absurd (by decide) h)
  refine z_iload_1 d_Mo_must_8 ?_
  refine z_if_eq (tgt := 19) d_Mo_must_9 (by decide) (fun _ => ?_) (fun h => absurd (by decide) h)
  refine z_aload_0 d_Mo_must_19 ?_
  refine z_Vv0 d_Mo_must_20 k_Mo_215 (by first | assumption | exact zS0_at (by assumption) (by omega) | exact zS0_at rfl (by omega)) (m_amiss0 C) ⟨Nat.le_of_ble_eq_true rfl, Nat.le_of_ble_eq_true rfl, Nat.le_of_ble_eq_true rfl, Nat.le_of_ble_eq_true rfl⟩ (Nat.le_of_ble_eq_true rfl) ?_
  intro w hq
  obtain rfl := hq
  refine z_retv d_Mo_must_23 ?_
  exact rfl
theorem m_mustz (C : moC T K L z I J P S t) (h0 : 0 < z) (h9 : z < 9) : zEv G y_Mo_must prog_14_method_46_code 2 3 0 0 [.ref 145, .int a] (I, J, P, S) (fun w => w = (I, J, P, S)) := by
  obtain ⟨a1, a2, a3, h4, h5, h6, M0⟩ := moC_n C
  refine zEv_of (lv := [some (.ref 145), some (.int a)]) (by decide) rfl (Nat.le_of_ble_eq_true rfl) ?_
  refine z_aload_0 d_Mo_must_0 ?_
  refine z_getIv d_Mo_must_1 f_Mo_202 (by first | assumption | exact zS0_at (by assumption) (by omega) | exact zS0_at rfl (by omega)) (by first | assumption | ((try simp (disch := omega) only [zu_same, zu_ne, zcp_ne, zfl_ne]); first | assumption | rfl)) ?_
  refine z_if_le (tgt := 8) d_Mo_must_4 (by decide) (fun h => absurd h (Int32.not_le.mpr (by rw [← nI_0]; exact nI_lt h0 (by omega)))) (fun _ => ?_)
  refine z_retv d_Mo_must_7 ?_
  exact rfl
theorem m_perh1 (C : moC T K L 0 I J P S t) : zEi G y_Mo_perhaps prog_14_method_48_code 2 (some .boolean) 3 [.ref 145, .int (nI 1)] (I, J, P, S) (fun r w => r = nI 1 ∧ moN T K L 0 I J P S (tA T L K t) w) := by
  obtain ⟨a1, a2, a3, h4, h5, h6, M0⟩ := moC_n C
  refine zEi_of (lv := [some (.ref 145), some (.int (nI 1))]) (by decide) rfl (Nat.le_of_ble_eq_true rfl) ?_
  refine z_aload_0 d_Mo_perhaps_0 ?_
  refine z_getIv d_Mo_perhaps_1 f_Mo_202 (by first | assumption | exact zS0_at (by assumption) (by omega) | exact zS0_at rfl (by omega)) (by first | assumption | ((try simp (disch := omega) only [zu_same, zu_ne, zcp_ne, zfl_ne]); first | assumption | rfl)) ?_
  refine z_if_gt (tgt := 11) d_Mo_perhaps_4 (by decide) (fun h => absurd h (by decide)) (fun _ => ?_)
  refine z_iload_1 d_Mo_perhaps_7 ?_
  refine z_if_ne (tgt := 13) d_Mo_perhaps_8 (by decide) (fun _ => ?_) (fun h => absurd h (by decide))
  refine z_aload_0 d_Mo_perhaps_13 ?_
  refine z_Vv0 d_Mo_perhaps_14 k_Mo_212 (by first | assumption | exact zS0_at (by assumption) (by omega) | exact zS0_at rfl (by omega)) (m_adv C) ⟨Nat.le_of_ble_eq_true rfl, Nat.le_of_ble_eq_true rfl, Nat.le_of_ble_eq_true rfl, Nat.le_of_ble_eq_true rfl⟩ (Nat.le_of_ble_eq_true rfl) ?_
  intro w hq
  have hq2 := hq
  obtain ⟨I', J', rfl, -⟩ := hq2
  refine z_iconst (a := nI 1) d_Mo_perhaps_17 (by decide) ?_
  refine z_retz d_Mo_perhaps_18 (by first | exact zb0 | exact zb1 | assumption) ?_
  exact ⟨rfl, hq⟩
theorem m_perh0 (C : moC T K L 0 I J P S t) : zEi G y_Mo_perhaps prog_14_method_48_code 2 (some .boolean) 3 [.ref 145, .int (nI 0)] (I, J, P, S) (fun r w => r = nI 0 ∧ w = (I, J, P, S)) := by
  obtain ⟨a1, a2, a3, h4, h5, h6, M0⟩ := moC_n C
  refine zEi_of (lv := [some (.ref 145), some (.int (nI 0))]) (by decide) rfl (Nat.le_of_ble_eq_true rfl) ?_
  refine z_aload_0 d_Mo_perhaps_0 ?_
  refine z_getIv d_Mo_perhaps_1 f_Mo_202 (by first | assumption | exact zS0_at (by assumption) (by omega) | exact zS0_at rfl (by omega)) (by first | assumption | ((try simp (disch := omega) only [zu_same, zu_ne, zcp_ne, zfl_ne]); first | assumption | rfl)) ?_
  refine z_if_gt (tgt := 11) d_Mo_perhaps_4 (by decide) (fun h => absurd h (by decide)) (fun _ => ?_)
  refine z_iload_1 d_Mo_perhaps_7 ?_
  refine z_if_ne (tgt := 13) d_Mo_perhaps_8 (by decide) (fun h => absurd (by decide) h) (fun _ => ?_)
  refine z_iconst (a := nI 0) d_Mo_perhaps_11 (by decide) ?_
  refine z_retz d_Mo_perhaps_12 (by first | exact zb0 | exact zb1 | assumption) ?_
  exact ⟨rfl, rfl⟩
theorem m_perhz (C : moC T K L z I J P S t) (h0 : 0 < z) (h9 : z < 9) : zEi G y_Mo_perhaps prog_14_method_48_code 2 (some .boolean) 3 [.ref 145, .int a] (I, J, P, S) (fun r w => r = nI 0 ∧ w = (I, J, P, S)) := by
  obtain ⟨a1, a2, a3, h4, h5, h6, M0⟩ := moC_n C
  refine zEi_of (lv := [some (.ref 145), some (.int a)]) (by decide) rfl (Nat.le_of_ble_eq_true rfl) ?_
  refine z_aload_0 d_Mo_perhaps_0 ?_
  refine z_getIv d_Mo_perhaps_1 f_Mo_202 (by first | assumption | exact zS0_at (by assumption) (by omega) | exact zS0_at rfl (by omega)) (by first | assumption | ((try simp (disch := omega) only [zu_same, zu_ne, zcp_ne, zfl_ne]); first | assumption | rfl)) ?_
  refine z_if_gt (tgt := 11) d_Mo_perhaps_4 (by decide) (fun _ => ?_) (fun h => absurd (by rw [← nI_0]; exact nI_lt h0 (by omega)) h)
  refine z_iconst (a := nI 0) d_Mo_perhaps_11 (by decide) ?_
  refine z_retz d_Mo_perhaps_12 (by first | exact zb0 | exact zb1 | assumption) ?_
  exact ⟨rfl, rfl⟩
theorem m_isSign {k : Nat} (C : moC T K L z I J P S t) (hk : 59 ≤ k ∧ k ≤ 62) : zEi G y_Mo_isSign prog_14_method_26_code 2 (some .boolean) 1 [.ref 145, .int (nI k)] (I, J, P, S) (fun r w => (tsg t = nI k ∧ r = nI 1 ∨ ¬ tsg t = nI k ∧ r = nI 0) ∧ w = (I, J, P, S)) := by
  obtain ⟨a1, a2, a3, h4, h5, h6, M0⟩ := moC_n C
  have g6 := C.2.2.2.1.2.2.2.2.2
  have p5 := C.2.2.2.2.1.2.2.2.2.1
  refine zEi_of (lv := [some (.ref 145), some (.int (nI k))]) (by decide) rfl (Nat.le_of_ble_eq_true rfl) ?_
  refine z_aload_0 d_Mo_isSign_0 ?_
  refine z_getIv d_Mo_isSign_1 f_Mo_125 (by first | assumption | exact zS0_at (by assumption) (by omega) | exact zS0_at rfl (by omega)) (by first | assumption | ((try simp (disch := omega) only [zu_same, zu_ne, zcp_ne, zfl_ne]); first | assumption | rfl)) ?_
  refine z_iconst (a := nI 3) d_Mo_isSign_4 (by decide) ?_
  refine z_icmp_ne (tgt := 20) d_Mo_isSign_5 (by decide) (fun hb => ?_) (fun hb => ?_)
  · have hb : ¬ tkd t = 3 := fun h => hb (by rw [h])
    refine z_iconst (a := nI 0) d_Mo_isSign_20 (by decide) ?_
    refine z_retz d_Mo_isSign_21 (by first | exact zb0 | exact zb1 | assumption) ?_
    refine ⟨Or.inr ⟨?_, rfl⟩, rfl⟩
    rw [p5 hb]
    intro h
    have := (nI_eq (by omega) (by omega)).mp h
    omega
  · have hb : tkd t = 3 := (nI_eq (by omega) (by omega)).mp hb
    have g := g6 hb
    refine z_aload_0 d_Mo_isSign_8 ?_
    refine z_getIv d_Mo_isSign_9 f_Mo_144 (by first | assumption | exact zS0_at (by assumption) (by omega) | exact zS0_at rfl (by omega)) (by first | assumption | ((try simp (disch := omega) only [zu_same, zu_ne, zcp_ne, zfl_ne]); first | assumption | rfl)) ?_
    refine z_iload_1 d_Mo_isSign_12 ?_
    refine z_icmp_ne (tgt := 20) d_Mo_isSign_13 (by decide) (fun hc => ?_) (fun hc => ?_)
    · refine z_iconst (a := nI 0) d_Mo_isSign_20 (by decide) ?_
      refine z_retz d_Mo_isSign_21 (by first | exact zb0 | exact zb1 | assumption) ?_
      exact ⟨Or.inr ⟨hc, rfl⟩, rfl⟩
    · refine z_iconst (a := nI 1) d_Mo_isSign_16 (by decide) ?_
      refine z_goto (tgt := 21) d_Mo_isSign_17 (by decide) ?_
      refine z_retz d_Mo_isSign_21 (by first | exact zb0 | exact zb1 | assumption) ?_
      exact ⟨Or.inl ⟨hc, rfl⟩, rfl⟩
theorem m_count0 {lo hi : Nat} (C : moC T K L 0 I J P S t) : zEi G y_Mo_count prog_14_method_47_code 4 (some .int) 3 [.ref 145, .int (nI lo), .int (nI hi)] (I, J, P, S) (fun r w => pQ (p_numb (tA T L K) (nI lo) (nI hi) t) (fun e => r = nI 0 ∧ w = (mB I e, J, P, S) ∧ 0 < e.1 ∧ e.1 < 9) (fun v => r = v.1 ∧ moN T K L 0 I J P S v.2 w)) := by
  obtain ⟨a1, a2, a3, h4, h5, h6, M0⟩ := moC_n C
  have g5 := C.2.2.2.1.2.2.2.2.1
  have hmis : 0 < (p_mis t).1 ∧ (p_mis t).1 < 9 := by unfold p_mis; dsimp only; split <;> decide
  have hm12 : mB I (p_mis t) 145 12 = nI (p_mis t).1 := by simp [mB, zu]
  have hm4 : mB I (4, tst t) 145 12 = nI 4 := by simp [mB, zu]
  refine zEi_of (lv := [some (.ref 145), some (.int (nI lo)), some (.int (nI hi)), none]) (by decide) rfl (Nat.le_of_ble_eq_true rfl) ?_
  refine z_aload_0 d_Mo_count_0 ?_
  refine z_getIv d_Mo_count_1 f_Mo_202 (by first | assumption | exact zS0_at (by assumption) (by omega) | exact zS0_at rfl (by omega)) (by first | assumption | ((try simp (disch := omega) only [zu_same, zu_ne, zcp_ne, zfl_ne]); first | assumption | rfl)) ?_
  refine z_if_ne (tgt := 19) d_Mo_count_4 (by decide) (fun h => absurd (by decide) h) (fun _ => ?_)
  refine z_aload_0 d_Mo_count_7 ?_
  refine z_getIv d_Mo_count_8 f_Mo_125 (by first | assumption | exact zS0_at (by assumption) (by omega) | exact zS0_at rfl (by omega)) (by first | assumption | ((try simp (disch := omega) only [zu_same, zu_ne, zcp_ne, zfl_ne]); first | assumption | rfl)) ?_
  refine z_iconst (a := nI 2) d_Mo_count_11 (by decide) ?_
  refine z_icmp_eq (tgt := 19) d_Mo_count_12 (by decide) (fun hb => ?_) (fun hb => ?_)
  · have hb : tkd t = 2 := (nI_eq (by omega) (by omega)).mp hb
    have g := g5 hb
    unfold p_numb
    rw [if_pos hb]
    refine z_aload_0 d_Mo_count_19 ?_
    refine z_getIv d_Mo_count_20 f_Mo_202 (by first | assumption | exact zS0_at (by assumption) (by omega) | exact zS0_at rfl (by omega)) (by first | assumption | ((try simp (disch := omega) only [zu_same, zu_ne, zcp_ne, zfl_ne]); first | assumption | rfl)) ?_
    refine z_if_ne (tgt := 50) d_Mo_count_23 (by decide) (fun h => absurd (by decide) h) (fun _ => ?_)
    refine z_aload_0 d_Mo_count_26 ?_
    refine z_getIv d_Mo_count_27 f_Mo_144 (by first | assumption | exact zS0_at (by assumption) (by omega) | exact zS0_at rfl (by omega)) (by first | assumption | ((try simp (disch := omega) only [zu_same, zu_ne, zcp_ne, zfl_ne]); first | assumption | rfl)) ?_
    refine z_i2l d_Mo_count_30 ?_
    refine z_iload_1 d_Mo_count_31 ?_
    refine z_i2l d_Mo_count_32 ?_
    refine z_iload_2 d_Mo_count_33 ?_
    refine z_i2l d_Mo_count_34 ?_
    refine z_Si3 d_Mo_count_35 k_Mo_105 (t_Mo_isIn) ⟨Nat.le_of_ble_eq_true rfl, Nat.le_of_ble_eq_true rfl, Nat.le_of_ble_eq_true rfl, Nat.le_of_ble_eq_true rfl⟩ (Nat.le_of_ble_eq_true rfl) ?_
    intro r w hq
    have hc : ((nI lo).toInt64 ≤ (tnu t).toInt64 ∧ (tnu t).toInt64 ≤ (nI hi).toInt64) ↔ ¬ (tnu t < nI lo ∨ nI hi < tnu t) := by
      rw [Int64.le_iff_toInt_le, Int64.le_iff_toInt_le, Int32.lt_iff_toInt_lt, Int32.lt_iff_toInt_lt, Int32.toInt_toInt64, Int32.toInt_toInt64, Int32.toInt_toInt64]
      omega
    rcases hq with ⟨⟨h, rfl⟩ | ⟨h, rfl⟩, rfl⟩
    · rw [if_neg (hc.mp h)]
      refine z_if_ne (tgt := 50) d_Mo_count_38 (by decide) (fun _ => ?_) (fun h => absurd h (by decide))
      refine z_aload_0 d_Mo_count_50 ?_
      refine z_getIv d_Mo_count_51 f_Mo_202 (by first | assumption | exact zS0_at (by assumption) (by omega) | exact zS0_at rfl (by omega)) (by first | assumption | ((try simp (disch := omega) only [zu_same, zu_ne, zcp_ne, zfl_ne]); first | assumption | rfl)) ?_
      refine z_if_le (tgt := 59) d_Mo_count_54 (by decide) (fun _ => ?_) (fun h => absurd (by decide) h)
      refine z_aload_0 d_Mo_count_59 ?_
      refine z_getIv d_Mo_count_60 f_Mo_144 (by first | assumption | exact zS0_at (by assumption) (by omega) | exact zS0_at rfl (by omega)) (by first | assumption | ((try simp (disch := omega) only [zu_same, zu_ne, zcp_ne, zfl_ne]); first | assumption | rfl)) ?_
      first | refine z_istore_3 d_Mo_count_63 rfl ?_ | (refine z_forget_2 ?_; refine z_istore_3 d_Mo_count_63 rfl ?_)
      refine z_aload_0 d_Mo_count_64 ?_
      refine z_Vv0 d_Mo_count_65 k_Mo_212 (by first | assumption | exact zS0_at (by assumption) (by omega) | exact zS0_at rfl (by omega)) (m_adv C) ⟨Nat.le_of_ble_eq_true rfl, Nat.le_of_ble_eq_true rfl, Nat.le_of_ble_eq_true rfl, Nat.le_of_ble_eq_true rfl⟩ (Nat.le_of_ble_eq_true rfl) ?_
      intro w hq
      have hq2 := hq
      obtain ⟨I', J', rfl, -⟩ := hq2
      refine z_iload_3 d_Mo_count_68 ?_
      refine z_reti d_Mo_count_69 ?_
      exact ⟨rfl, hq⟩
    · rw [if_pos (Classical.not_not.mp (fun q => h (hc.mpr q)))]
      refine z_if_ne (tgt := 50) d_Mo_count_38 (by decide) (fun h => absurd (by decide) h) (fun _ => ?_)
      refine z_aload_0 d_Mo_count_41 ?_
      refine z_iconst (a := nI 4) d_Mo_count_42 (by decide) ?_
      refine z_aload_0 d_Mo_count_43 ?_
      refine z_getIv d_Mo_count_44 f_Mo_119 (by first | assumption | exact zS0_at (by assumption) (by omega) | exact zS0_at rfl (by omega)) (by first | assumption | ((try simp (disch := omega) only [zu_same, zu_ne, zcp_ne, zfl_ne]); first | assumption | rfl)) ?_
      refine z_Vv2 d_Mo_count_47 k_Mo_208 (by first | assumption | exact zS0_at (by assumption) (by omega) | exact zS0_at rfl (by omega)) (m_fail0 C) ⟨Nat.le_of_ble_eq_true rfl, Nat.le_of_ble_eq_true rfl, Nat.le_of_ble_eq_true rfl, Nat.le_of_ble_eq_true rfl⟩ (Nat.le_of_ble_eq_true rfl) ?_
      intro w hq
      obtain rfl := hq
      refine z_aload_0 d_Mo_count_50 ?_
      refine z_getIv d_Mo_count_51 f_Mo_202 (by first | assumption | exact zS0_at (by assumption) (by omega) | exact zS0_at rfl (by omega)) (by first | assumption | ((try simp (disch := omega) only [zu_same, zu_ne, zcp_ne, zfl_ne]); first | assumption | rfl)) ?_
      refine z_if_le (tgt := 59) d_Mo_count_54 (by decide) (fun h => absurd h (by decide)) (fun _ => ?_)
      refine z_iconst (a := nI 0) d_Mo_count_57 (by decide) ?_
      refine z_reti d_Mo_count_58 ?_
      exact ⟨rfl, rfl, show 0 < 4 by decide, show 4 < 9 by decide⟩
  · have hb : ¬ tkd t = 2 := fun h => hb (by rw [h])
    unfold p_numb
    rw [if_neg hb]
    refine z_aload_0 d_Mo_count_15 ?_
    refine z_Vv0 d_Mo_count_16 k_Mo_215 (by first | assumption | exact zS0_at (by assumption) (by omega) | exact zS0_at rfl (by omega)) (m_amiss0 C) ⟨Nat.le_of_ble_eq_true rfl, Nat.le_of_ble_eq_true rfl, Nat.le_of_ble_eq_true rfl, Nat.le_of_ble_eq_true rfl⟩ (Nat.le_of_ble_eq_true rfl) ?_
    intro w hq
    obtain rfl := hq
    refine z_aload_0 d_Mo_count_19 ?_
    refine z_getIv d_Mo_count_20 f_Mo_202 (by first | assumption | exact zS0_at (by assumption) (by omega) | exact zS0_at rfl (by omega)) (by first | assumption | ((try simp (disch := omega) only [zu_same, zu_ne, zcp_ne, zfl_ne]); first | assumption | rfl)) ?_
    refine z_if_ne (tgt := 50) d_Mo_count_23 (by decide) (fun _ => ?_) (fun h => absurd h (by intro h; have := (nI_eq (by omega) (by omega)).mp (h.trans nI_0.symm); omega))
    refine z_aload_0 d_Mo_count_50 ?_
    refine z_getIv d_Mo_count_51 f_Mo_202 (by first | assumption | exact zS0_at (by assumption) (by omega) | exact zS0_at rfl (by omega)) (by first | assumption | ((try simp (disch := omega) only [zu_same, zu_ne, zcp_ne, zfl_ne]); first | assumption | rfl)) ?_
    refine z_if_le (tgt := 59) d_Mo_count_54 (by decide) (fun h => absurd h (Int32.not_le.mpr (by rw [← nI_0]; exact nI_lt hmis.1 (by omega)))) (fun _ => ?_)
    refine z_iconst (a := nI 0) d_Mo_count_57 (by decide) ?_
    refine z_reti d_Mo_count_58 ?_
    exact ⟨rfl, rfl, hmis⟩
theorem m_countz {c : Int32} (C : moC T K L z I J P S t) (h0 : 0 < z) (h9 : z < 9) : zEi G y_Mo_count prog_14_method_47_code 4 (some .int) 3 [.ref 145, .int a, .int b] (I, J, P, S) (fun r w => r = nI 0 ∧ w = (I, J, P, S)) := by
  obtain ⟨a1, a2, a3, h4, h5, h6, M0⟩ := moC_n C
  have hne : ¬ nI z = 0 := by intro h; have := (nI_eq (by omega) (by omega)).mp (h.trans nI_0.symm); omega
  refine zEi_of (lv := [some (.ref 145), some (.int a), some (.int b), none]) (by decide) rfl (Nat.le_of_ble_eq_true rfl) ?_
  refine z_aload_0 d_Mo_count_0 ?_
  refine z_getIv d_Mo_count_1 f_Mo_202 (by first | assumption | exact zS0_at (by assumption) (by omega) | exact zS0_at rfl (by omega)) (by first | assumption | ((try simp (disch := omega) only [zu_same, zu_ne, zcp_ne, zfl_ne]); first | assumption | rfl)) ?_
  refine z_if_ne (tgt := 19) d_Mo_count_4 (by decide) (fun _ => ?_) (fun h => absurd h hne)
  refine z_aload_0 d_Mo_count_19 ?_
  refine z_getIv d_Mo_count_20 f_Mo_202 (by first | assumption | exact zS0_at (by assumption) (by omega) | exact zS0_at rfl (by omega)) (by first | assumption | ((try simp (disch := omega) only [zu_same, zu_ne, zcp_ne, zfl_ne]); first | assumption | rfl)) ?_
  refine z_if_ne (tgt := 50) d_Mo_count_23 (by decide) (fun _ => ?_) (fun h => absurd h hne)
  refine z_aload_0 d_Mo_count_50 ?_
  refine z_getIv d_Mo_count_51 f_Mo_202 (by first | assumption | exact zS0_at (by assumption) (by omega) | exact zS0_at rfl (by omega)) (by first | assumption | ((try simp (disch := omega) only [zu_same, zu_ne, zcp_ne, zfl_ne]); first | assumption | rfl)) ?_
  refine z_if_le (tgt := 59) d_Mo_count_54 (by decide) (fun h => absurd h (Int32.not_le.mpr (by rw [← nI_0]; exact nI_lt h0 (by omega)))) (fun _ => ?_)
  refine z_iconst (a := nI 0) d_Mo_count_57 (by decide) ?_
  refine z_reti d_Mo_count_58 ?_
  exact ⟨rfl, rfl⟩
theorem t_Mo_namesFrom {so off : Nat} (hs : so = 0 ∧ off = 0 ∨ so = 1 ∧ off = 6 ∨ so = 3 ∧ off = 13) : zEi G y_Mo_namesFrom prog_14_method_55_code 1 (some .int) 1 [.int (nI so)] (I, J, P, S) (fun r w => r = nI off ∧ w = (I, J, P, S)) := by
  refine zEi_of (lv := [some (.int (nI so))]) (by decide) rfl (Nat.le_of_ble_eq_true rfl) ?_
  rcases hs with ⟨rfl, rfl⟩ | ⟨rfl, rfl⟩ | ⟨rfl, rfl⟩
  · refine z_iload_0 d_Mo_namesFrom_0 ?_
    refine z_if_ne (tgt := 8) d_Mo_namesFrom_1 (by decide) (fun h1 => ?_) (fun h1 => ?_)
    · first
      | (simp (disch := omega) only [← nI_0, nI_leI, nI_ltI, nI_eq, not_true_eq_false, not_false_eq_true] at h1; done)
      | (simp (disch := omega) only [← nI_0, nI_leI, nI_ltI, nI_eq, not_true_eq_false, not_false_eq_true] at h1; omega)
      | contradiction
      | exact absurd h1 (Int32.not_lt.mpr (by assumption))
      | exact absurd h1 (Int32.not_le.mpr (by assumption))
      | exact absurd h1 (by decide)
      | exact absurd (by decide) h1
      | ( try simp (disch := omega) only [← nI_0, nI_leI, nI_ltI, nI_eq, not_true_eq_false, not_false_eq_true] at h1
          (try have h1b := zbit_n0.mp h1); (try have h1b := zbit_p0.mp h1)
          refine z_iload_0 d_Mo_namesFrom_8 ?_
          refine z_iconst (a := nI 1) d_Mo_namesFrom_9 (by decide) ?_
          refine z_icmp_ne (tgt := 18) d_Mo_namesFrom_10 (by decide) (fun h10 => ?_) (fun h10 => ?_)
          · first
            | (simp (disch := omega) only [← nI_0, nI_leI, nI_ltI, nI_eq, not_true_eq_false, not_false_eq_true] at h10; done)
            | (simp (disch := omega) only [← nI_0, nI_leI, nI_ltI, nI_eq, not_true_eq_false, not_false_eq_true] at h10; omega)
            | contradiction
            | exact absurd h10 (Int32.not_lt.mpr (by assumption))
            | exact absurd h10 (Int32.not_le.mpr (by assumption))
            | exact absurd h10 (by decide)
            | exact absurd (by decide) h10
            | ( try simp (disch := omega) only [← nI_0, nI_leI, nI_ltI, nI_eq, not_true_eq_false, not_false_eq_true] at h10
                (try have h10b := zbit_n0.mp h10); (try have h10b := zbit_p0.mp h10)
                refine z_bipush (a := nI 13) d_Mo_namesFrom_18 (by decide) ?_
                refine z_reti d_Mo_namesFrom_20 ?_
                exact ⟨rfl, rfl⟩)
          · first
            | (simp (disch := omega) only [← nI_0, nI_leI, nI_ltI, nI_eq, not_true_eq_false, not_false_eq_true] at h10; done)
            | (simp (disch := omega) only [← nI_0, nI_leI, nI_ltI, nI_eq, not_true_eq_false, not_false_eq_true] at h10; omega)
            | contradiction
            | exact absurd h10 (Int32.not_lt.mpr (by assumption))
            | exact absurd h10 (Int32.not_le.mpr (by assumption))
            | exact absurd h10 (by decide)
            | exact absurd (by decide) h10
            | ( try simp (disch := omega) only [← nI_0, nI_leI, nI_ltI, nI_eq, not_true_eq_false, not_false_eq_true] at h10
                (try have h10b := zbit_n0.mp h10); (try have h10b := zbit_p0.mp h10)
                refine z_bipush (a := nI 6) d_Mo_namesFrom_13 (by decide) ?_
                refine z_goto (tgt := 20) d_Mo_namesFrom_15 (by decide) ?_
                refine z_reti d_Mo_namesFrom_20 ?_
                exact ⟨rfl, rfl⟩))
    · first
      | (simp (disch := omega) only [← nI_0, nI_leI, nI_ltI, nI_eq, not_true_eq_false, not_false_eq_true] at h1; done)
      | (simp (disch := omega) only [← nI_0, nI_leI, nI_ltI, nI_eq, not_true_eq_false, not_false_eq_true] at h1; omega)
      | contradiction
      | exact absurd h1 (Int32.not_lt.mpr (by assumption))
      | exact absurd h1 (Int32.not_le.mpr (by assumption))
      | exact absurd h1 (by decide)
      | exact absurd (by decide) h1
      | ( try simp (disch := omega) only [← nI_0, nI_leI, nI_ltI, nI_eq, not_true_eq_false, not_false_eq_true] at h1
          (try have h1b := zbit_n0.mp h1); (try have h1b := zbit_p0.mp h1)
          refine z_iconst (a := nI 0) d_Mo_namesFrom_4 (by decide) ?_
          refine z_goto (tgt := 20) d_Mo_namesFrom_5 (by decide) ?_
          refine z_reti d_Mo_namesFrom_20 ?_
          exact ⟨rfl, rfl⟩)
  · refine z_iload_0 d_Mo_namesFrom_0 ?_
    refine z_if_ne (tgt := 8) d_Mo_namesFrom_1 (by decide) (fun h1 => ?_) (fun h1 => ?_)
    · first
      | (simp (disch := omega) only [← nI_0, nI_leI, nI_ltI, nI_eq, not_true_eq_false, not_false_eq_true] at h1; done)
      | (simp (disch := omega) only [← nI_0, nI_leI, nI_ltI, nI_eq, not_true_eq_false, not_false_eq_true] at h1; omega)
      | contradiction
      | exact absurd h1 (Int32.not_lt.mpr (by assumption))
      | exact absurd h1 (Int32.not_le.mpr (by assumption))
      | exact absurd h1 (by decide)
      | exact absurd (by decide) h1
      | ( try simp (disch := omega) only [← nI_0, nI_leI, nI_ltI, nI_eq, not_true_eq_false, not_false_eq_true] at h1
          (try have h1b := zbit_n0.mp h1); (try have h1b := zbit_p0.mp h1)
          refine z_iload_0 d_Mo_namesFrom_8 ?_
          refine z_iconst (a := nI 1) d_Mo_namesFrom_9 (by decide) ?_
          refine z_icmp_ne (tgt := 18) d_Mo_namesFrom_10 (by decide) (fun h10 => ?_) (fun h10 => ?_)
          · first
            | (simp (disch := omega) only [← nI_0, nI_leI, nI_ltI, nI_eq, not_true_eq_false, not_false_eq_true] at h10; done)
            | (simp (disch := omega) only [← nI_0, nI_leI, nI_ltI, nI_eq, not_true_eq_false, not_false_eq_true] at h10; omega)
            | contradiction
            | exact absurd h10 (Int32.not_lt.mpr (by assumption))
            | exact absurd h10 (Int32.not_le.mpr (by assumption))
            | exact absurd h10 (by decide)
            | exact absurd (by decide) h10
            | ( try simp (disch := omega) only [← nI_0, nI_leI, nI_ltI, nI_eq, not_true_eq_false, not_false_eq_true] at h10
                (try have h10b := zbit_n0.mp h10); (try have h10b := zbit_p0.mp h10)
                refine z_bipush (a := nI 13) d_Mo_namesFrom_18 (by decide) ?_
                refine z_reti d_Mo_namesFrom_20 ?_
                exact ⟨rfl, rfl⟩)
          · first
            | (simp (disch := omega) only [← nI_0, nI_leI, nI_ltI, nI_eq, not_true_eq_false, not_false_eq_true] at h10; done)
            | (simp (disch := omega) only [← nI_0, nI_leI, nI_ltI, nI_eq, not_true_eq_false, not_false_eq_true] at h10; omega)
            | contradiction
            | exact absurd h10 (Int32.not_lt.mpr (by assumption))
            | exact absurd h10 (Int32.not_le.mpr (by assumption))
            | exact absurd h10 (by decide)
            | exact absurd (by decide) h10
            | ( try simp (disch := omega) only [← nI_0, nI_leI, nI_ltI, nI_eq, not_true_eq_false, not_false_eq_true] at h10
                (try have h10b := zbit_n0.mp h10); (try have h10b := zbit_p0.mp h10)
                refine z_bipush (a := nI 6) d_Mo_namesFrom_13 (by decide) ?_
                refine z_goto (tgt := 20) d_Mo_namesFrom_15 (by decide) ?_
                refine z_reti d_Mo_namesFrom_20 ?_
                exact ⟨rfl, rfl⟩))
    · first
      | (simp (disch := omega) only [← nI_0, nI_leI, nI_ltI, nI_eq, not_true_eq_false, not_false_eq_true] at h1; done)
      | (simp (disch := omega) only [← nI_0, nI_leI, nI_ltI, nI_eq, not_true_eq_false, not_false_eq_true] at h1; omega)
      | contradiction
      | exact absurd h1 (Int32.not_lt.mpr (by assumption))
      | exact absurd h1 (Int32.not_le.mpr (by assumption))
      | exact absurd h1 (by decide)
      | exact absurd (by decide) h1
      | ( try simp (disch := omega) only [← nI_0, nI_leI, nI_ltI, nI_eq, not_true_eq_false, not_false_eq_true] at h1
          (try have h1b := zbit_n0.mp h1); (try have h1b := zbit_p0.mp h1)
          refine z_iconst (a := nI 0) d_Mo_namesFrom_4 (by decide) ?_
          refine z_goto (tgt := 20) d_Mo_namesFrom_5 (by decide) ?_
          refine z_reti d_Mo_namesFrom_20 ?_
          exact ⟨rfl, rfl⟩)
  · refine z_iload_0 d_Mo_namesFrom_0 ?_
    refine z_if_ne (tgt := 8) d_Mo_namesFrom_1 (by decide) (fun h1 => ?_) (fun h1 => ?_)
    · first
      | (simp (disch := omega) only [← nI_0, nI_leI, nI_ltI, nI_eq, not_true_eq_false, not_false_eq_true] at h1; done)
      | (simp (disch := omega) only [← nI_0, nI_leI, nI_ltI, nI_eq, not_true_eq_false, not_false_eq_true] at h1; omega)
      | contradiction
      | exact absurd h1 (Int32.not_lt.mpr (by assumption))
      | exact absurd h1 (Int32.not_le.mpr (by assumption))
      | exact absurd h1 (by decide)
      | exact absurd (by decide) h1
      | ( try simp (disch := omega) only [← nI_0, nI_leI, nI_ltI, nI_eq, not_true_eq_false, not_false_eq_true] at h1
          (try have h1b := zbit_n0.mp h1); (try have h1b := zbit_p0.mp h1)
          refine z_iload_0 d_Mo_namesFrom_8 ?_
          refine z_iconst (a := nI 1) d_Mo_namesFrom_9 (by decide) ?_
          refine z_icmp_ne (tgt := 18) d_Mo_namesFrom_10 (by decide) (fun h10 => ?_) (fun h10 => ?_)
          · first
            | (simp (disch := omega) only [← nI_0, nI_leI, nI_ltI, nI_eq, not_true_eq_false, not_false_eq_true] at h10; done)
            | (simp (disch := omega) only [← nI_0, nI_leI, nI_ltI, nI_eq, not_true_eq_false, not_false_eq_true] at h10; omega)
            | contradiction
            | exact absurd h10 (Int32.not_lt.mpr (by assumption))
            | exact absurd h10 (Int32.not_le.mpr (by assumption))
            | exact absurd h10 (by decide)
            | exact absurd (by decide) h10
            | ( try simp (disch := omega) only [← nI_0, nI_leI, nI_ltI, nI_eq, not_true_eq_false, not_false_eq_true] at h10
                (try have h10b := zbit_n0.mp h10); (try have h10b := zbit_p0.mp h10)
                refine z_bipush (a := nI 13) d_Mo_namesFrom_18 (by decide) ?_
                refine z_reti d_Mo_namesFrom_20 ?_
                exact ⟨rfl, rfl⟩)
          · first
            | (simp (disch := omega) only [← nI_0, nI_leI, nI_ltI, nI_eq, not_true_eq_false, not_false_eq_true] at h10; done)
            | (simp (disch := omega) only [← nI_0, nI_leI, nI_ltI, nI_eq, not_true_eq_false, not_false_eq_true] at h10; omega)
            | contradiction
            | exact absurd h10 (Int32.not_lt.mpr (by assumption))
            | exact absurd h10 (Int32.not_le.mpr (by assumption))
            | exact absurd h10 (by decide)
            | exact absurd (by decide) h10
            | ( try simp (disch := omega) only [← nI_0, nI_leI, nI_ltI, nI_eq, not_true_eq_false, not_false_eq_true] at h10
                (try have h10b := zbit_n0.mp h10); (try have h10b := zbit_p0.mp h10)
                refine z_bipush (a := nI 6) d_Mo_namesFrom_13 (by decide) ?_
                refine z_goto (tgt := 20) d_Mo_namesFrom_15 (by decide) ?_
                refine z_reti d_Mo_namesFrom_20 ?_
                exact ⟨rfl, rfl⟩))
    · first
      | (simp (disch := omega) only [← nI_0, nI_leI, nI_ltI, nI_eq, not_true_eq_false, not_false_eq_true] at h1; done)
      | (simp (disch := omega) only [← nI_0, nI_leI, nI_ltI, nI_eq, not_true_eq_false, not_false_eq_true] at h1; omega)
      | contradiction
      | exact absurd h1 (Int32.not_lt.mpr (by assumption))
      | exact absurd h1 (Int32.not_le.mpr (by assumption))
      | exact absurd h1 (by decide)
      | exact absurd (by decide) h1
      | ( try simp (disch := omega) only [← nI_0, nI_leI, nI_ltI, nI_eq, not_true_eq_false, not_false_eq_true] at h1
          (try have h1b := zbit_n0.mp h1); (try have h1b := zbit_p0.mp h1)
          refine z_iconst (a := nI 0) d_Mo_namesFrom_4 (by decide) ?_
          refine z_goto (tgt := 20) d_Mo_namesFrom_5 (by decide) ?_
          refine z_reti d_Mo_namesFrom_20 ?_
          exact ⟨rfl, rfl⟩)
theorem t_Mo_named {c so off n : Nat} (M : modOk P S) (hc : c ≤ 4) (hs : so = 0 ∧ off = 0 ∨ so = 1 ∧ off = 6 ∨ so = 3 ∧ off = 13) (hn : I 150 (359 * c + so) = nI n) (hn2 : off + n ≤ 22) : zEi G y_Mo_named prog_14_method_56_code 4 (some .int) 2 [.ref 145, .int (nI c), .int (nI so)] (I, J, P, S) (fun r w => r = s_idx (fun k => J 152 (22 * c + off + k)) (J 145 19) n 0 ∧ w = (I, J, P, S)) := by
  obtain ⟨M0, ⟨M4, M4s⟩, ⟨M5, M5s⟩, ⟨M6, M6s⟩, ⟨M7, M7s⟩, ⟨M20, M20s⟩, ⟨M21, M21s⟩, ⟨M22, M22s⟩, ⟨M26, M26s⟩, ⟨M27, M27s⟩, ⟨M28, M28s⟩, ⟨M30, M30s⟩, ⟨M34, M34s⟩, ⟨M36, M36s⟩, ⟨M37, M37s⟩⟩ := id M
  refine zEi_of (lv := [some (.ref 145), some (.int (nI c)), some (.int (nI so)), none]) (by decide) rfl (Nat.le_of_ble_eq_true rfl) ?_
  have loop : ∀ m j, n - j < m → j ≤ n → (s_idx (fun k => J 152 (22 * c + off + k)) (J 145 19) (n - j) j = s_idx (fun k => J 152 (22 * c + off + k)) (J 145 19) n 0) → zA G y_Mo_named prog_14_method_56_code 4 (some .int) (zRm 2 0 0) (zM G 0 0 (fun r w' => ∃ x, r = some (.int x) ∧ (fun r w => r = s_idx (fun k => J 152 (22 * c + off + k)) (J 145 19) n 0 ∧ w = (I, J, P, S)) x w')) 2 [some (.ref 145), some (.int (nI c)), some (.int (nI so)), some (.int (nI j))] [] (I, J, P, S) 0 0 := by
    intro m
    induction m with
    | zero => intro j h; omega
    | succ m ih =>
      intro j hm hj hI
      refine z_iload_3 d_Mo_named_2 ?_
      refine z_aload_0 d_Mo_named_3 ?_
      refine z_getR d_Mo_named_4 f_Mo_35 (by first | assumption | exact zS0_at (by assumption) (by omega) | exact zS0_at rfl (by omega)) (by first | assumption | exact zS0_at (by assumption) (by omega) | exact zS0_at rfl (by omega)) ?_
      refine z_sipush (a := nI 359) d_Mo_named_7 (by decide) ?_
      refine z_iload_1 d_Mo_named_10 ?_
      first | refine z_imulN d_Mo_named_11 ?_ | refine z_imul d_Mo_named_11 ?_
      refine z_iload_2 d_Mo_named_12 ?_
      first | refine z_iaddN d_Mo_named_13 ?_ | refine z_iadd d_Mo_named_13 ?_
      first | refine z_ialdNv d_Mo_named_14 (by first | assumption | exact zS0_at (by assumption) (by omega) | exact zS0_at rfl (by omega)) (by omega) (by first | decide | omega) (by first | assumption | ((try simp (disch := omega) only [zu_same, zu_ne, zcp_ne, zfl_ne]); first | assumption | rfl)) ?_ | refine z_iald d_Mo_named_14 (by first | assumption | exact zS0_at (by assumption) (by omega) | exact zS0_at rfl (by omega)) (by first | assumption | exact zS0_at (by assumption) (by omega) | exact zS0_at rfl (by omega)) ?_
      refine z_icmp_ge (tgt := 50) d_Mo_named_15 (by decide) (fun hb => ?_) (fun hb => ?_)
      · have hb := (nI_leI (by omega) (by omega)).mp hb
        obtain rfl : j = n := by omega
        rw [Nat.sub_self, s_idx] at hI
        refine z_iconst (a := -1) d_Mo_named_50 (by decide) ?_
        refine z_reti d_Mo_named_51 ?_
        exact ⟨hI, rfl⟩
      · have hb : j < n := Nat.lt_of_not_le (fun q => hb (nI_le q (by omega)))
        rw [show n - j = (n - (j + 1)) + 1 by omega, s_idx] at hI
        refine z_aload_0 d_Mo_named_18 ?_
        refine z_getR d_Mo_named_19 f_Mo_41 (by first | assumption | exact zS0_at (by assumption) (by omega) | exact zS0_at rfl (by omega)) (by first | assumption | exact zS0_at (by assumption) (by omega) | exact zS0_at rfl (by omega)) ?_
        refine z_bipush (a := nI 22) d_Mo_named_22 (by decide) ?_
        refine z_iload_1 d_Mo_named_24 ?_
        first | refine z_imulN d_Mo_named_25 ?_ | refine z_imul d_Mo_named_25 ?_
        refine z_iload_2 d_Mo_named_26 ?_
        refine z_Si1 d_Mo_named_27 k_Mo_224 (t_Mo_namesFrom hs) ⟨Nat.le_of_ble_eq_true rfl, Nat.le_of_ble_eq_true rfl, Nat.le_of_ble_eq_true rfl, Nat.le_of_ble_eq_true rfl⟩ (Nat.le_of_ble_eq_true rfl) ?_
        intro r w hq
        obtain ⟨rfl, rfl⟩ := hq
        first | refine z_iaddN d_Mo_named_30 ?_ | refine z_iadd d_Mo_named_30 ?_
        refine z_iload_3 d_Mo_named_31 ?_
        first | refine z_iaddN d_Mo_named_32 ?_ | refine z_iadd d_Mo_named_32 ?_
        first | refine z_laldNv d_Mo_named_33 (by first | assumption | exact zS0_at (by assumption) (by omega) | exact zS0_at rfl (by omega)) (by omega) (by first | decide | omega) (by first | assumption | ((try simp (disch := omega) only [zu_same, zu_ne, zcp_ne, zfl_ne]); first | assumption | rfl)) ?_ | refine z_lald d_Mo_named_33 (by first | assumption | exact zS0_at (by assumption) (by omega) | exact zS0_at rfl (by omega)) (by first | assumption | exact zS0_at (by assumption) (by omega) | exact zS0_at rfl (by omega)) ?_
        refine z_aload_0 d_Mo_named_34 ?_
        refine z_getJv d_Mo_named_35 f_Mo_131 (by first | assumption | exact zS0_at (by assumption) (by omega) | exact zS0_at rfl (by omega)) (by first | assumption | ((try simp (disch := omega) only [zu_same, zu_ne, zcp_ne, zfl_ne]); first | assumption | rfl)) ?_
        refine z_lcmp d_Mo_named_38 ?_
        refine z_if_ne (tgt := 44) d_Mo_named_39 (by decide) (fun hd => ?_) (fun hd => ?_)
        · rw [lg_cmp_eq] at hd
          rw [if_neg hd] at hI
          first | refine z_iinc_3 d_Mo_named_44 rfl (zi_inc _) ?_ | refine z_iinc_3 d_Mo_named_44 rfl rfl ?_
          refine z_goto (tgt := 2) d_Mo_named_47 (by decide) ?_
          exact ih (j + 1) (by omega) (by omega) hI
        · rw [lg_cmp_eq] at hd
          rw [if_pos hd] at hI
          refine z_iload_3 d_Mo_named_42 ?_
          refine z_reti d_Mo_named_43 ?_
          exact ⟨hI, rfl⟩
  refine z_iconst (a := nI 0) d_Mo_named_0 (by decide) ?_
  first | refine z_istore_3 d_Mo_named_1 rfl ?_ | (refine z_forget_2 ?_; refine z_istore_3 d_Mo_named_1 rfl ?_)
  exact loop (n + 1) 0 (by omega) (by omega) rfl
theorem s_idx_g {N N' : Nat → Int64} {c : Int64} : ∀ m j, (∀ k, j ≤ k → k < j + m → N k = N' k) → s_idx N c m j = s_idx N' c m j := by
  intro m
  induction m with
  | zero => intro j _; rfl
  | succ m ih =>
    intro j h
    rw [s_idx, s_idx, h j (by omega) (by omega), ih (j + 1) (fun k h1 h2 => h k (by omega) (by omega))]
theorem p_known_g {N N' : Nat → Int64} {n : Nat} (h : ∀ k, k < n → N k = N' k) : p_known N n t = p_known N' n t := by
  unfold p_known
  rw [s_idx_g n 0 (fun k _ h2 => h k (by omega))]
theorem moC_wd (C : moC T K L z I J P S t) (h : p_isN t = true) : J 145 19 = twd t := by
  obtain ⟨M, ⟨h9, hL⟩, -, ⟨a1, a2, a3, a4, a5, a6⟩, ⟨p1, p2, p3, -⟩, hE, h12⟩ := C
  unfold p_isN at h
  simp only [Bool.and_eq_true, Bool.not_eq_true', decide_eq_false_iff_not, decide_eq_true_eq] at h
  have h8 : ten t - tst t ≤ 8 := by
    rcases Nat.lt_or_ge 8 (ten t - tst t) with g | g
    · exact absurd (p3 (fun q => by omega)).2 h.1.2
    · exact g
  rw [(a4 h.1.1).2, if_pos h8]
theorem m_told0 {c so off n : Nat} (C : moC T K L 0 I J P S t) (hc : c ≤ 4) (hs : so = 0 ∧ off = 0 ∨ so = 1 ∧ off = 6 ∨ so = 3 ∧ off = 13) (hn : I 150 (359 * c + so) = nI n) (hn2 : off + n ≤ 22) : zEi G y_Mo_told prog_14_method_58_code 4 (some .int) 6 [.ref 145, .int (nI c), .int (nI so)] (I, J, P, S) (fun r w => pQ (p_known (fun k => J 152 (22 * c + off + k)) n t) (fun e => r = nI 0 ∧ w = (mB I e, J, P, S) ∧ 0 < e.1 ∧ e.1 < 9) (fun v => r = v ∧ w = (I, J, P, S))) := by
  obtain ⟨a1, a2, a3, h4, h5, h6, M0⟩ := moC_n C
  have hmis : 0 < (p_mis t).1 ∧ (p_mis t).1 < 9 := by unfold p_mis; dsimp only; split <;> decide
  have hm12 : mB I (p_mis t) 145 12 = nI (p_mis t).1 := by simp [mB, zu]
  refine zEi_of (lv := [some (.ref 145), some (.int (nI c)), some (.int (nI so)), none]) (by decide) rfl (Nat.le_of_ble_eq_true rfl) ?_
  refine z_aload_0 d_Mo_told_0 ?_
  refine z_getIv d_Mo_told_1 f_Mo_202 (by first | assumption | exact zS0_at (by assumption) (by omega) | exact zS0_at rfl (by omega)) (by first | assumption | ((try simp (disch := omega) only [zu_same, zu_ne, zcp_ne, zfl_ne]); first | assumption | rfl)) ?_
  refine z_if_ne (tgt := 18) d_Mo_told_4 (by decide) (fun h => absurd (by decide) h) (fun _ => ?_)
  refine z_aload_0 d_Mo_told_7 ?_
  refine z_Vi0 d_Mo_told_8 k_Mo_227 (by first | assumption | exact zS0_at (by assumption) (by omega) | exact zS0_at rfl (by omega)) (m_isName C) ⟨Nat.le_of_ble_eq_true rfl, Nat.le_of_ble_eq_true rfl, Nat.le_of_ble_eq_true rfl, Nat.le_of_ble_eq_true rfl⟩ (Nat.le_of_ble_eq_true rfl) ?_
  intro r w hq
  rcases hq with ⟨⟨h, rfl⟩ | ⟨h, rfl⟩, rfl⟩
  · have hw := moC_wd C h
    unfold p_known
    rw [if_pos h]
    refine z_if_ne (tgt := 18) d_Mo_told_11 (by decide) (fun _ => ?_) (fun h => absurd h (by decide))
    refine z_aload_0 d_Mo_told_18 ?_
    refine z_getIv d_Mo_told_19 f_Mo_202 (by first | assumption | exact zS0_at (by assumption) (by omega) | exact zS0_at rfl (by omega)) (by first | assumption | ((try simp (disch := omega) only [zu_same, zu_ne, zcp_ne, zfl_ne]); first | assumption | rfl)) ?_
    refine z_if_le (tgt := 27) d_Mo_told_22 (by decide) (fun _ => ?_) (fun h => absurd (by decide) h)
    refine z_aload_0 d_Mo_told_27 ?_
    refine z_iload_1 d_Mo_told_28 ?_
    refine z_iload_2 d_Mo_told_29 ?_
    refine z_Vi2 d_Mo_told_30 k_Mo_230 (by first | assumption | exact zS0_at (by assumption) (by omega) | exact zS0_at rfl (by omega)) (t_Mo_named C.1 hc hs hn hn2) ⟨Nat.le_of_ble_eq_true rfl, Nat.le_of_ble_eq_true rfl, Nat.le_of_ble_eq_true rfl, Nat.le_of_ble_eq_true rfl⟩ (Nat.le_of_ble_eq_true rfl) ?_
    rw [hw]
    intro r w hq
    obtain ⟨rfl, rfl⟩ := hq
    first | refine z_istore_3 d_Mo_told_33 rfl ?_ | (refine z_forget_2 ?_; refine z_istore_3 d_Mo_told_33 rfl ?_)
    refine z_iload_3 d_Mo_told_34 ?_
    refine z_if_ge (tgt := 47) d_Mo_told_35 (by decide) (fun hb => ?_) (fun hb => ?_)
    · rw [if_neg (fun q => by rw [q] at hb; exact absurd hb (by decide))]
      have hx : ∃ k, k < n ∧ s_idx (fun k => J 152 (22 * c + off + k)) (twd t) n 0 = nI k := by
        rcases s_idx_c (fun k => J 152 (22 * c + off + k)) (twd t) n 0 with g | ⟨k, -, g1, g2, -⟩
        · rw [g] at hb; exact absurd hb (by decide)
        · exact ⟨k, by omega, g2⟩
      obtain ⟨k, hk, hx⟩ := hx
      rw [hx]
      refine z_iconst (a := nI 0) d_Mo_told_47 (by decide) ?_
      refine z_iload_3 d_Mo_told_48 ?_
      refine z_max d_Mo_told_49 k_Mo_233.2.1 ⟨Nat.le_of_ble_eq_true rfl, Nat.le_of_ble_eq_true rfl, Nat.le_of_ble_eq_true rfl, Nat.le_of_ble_eq_true rfl⟩ (Nat.le_of_ble_eq_true rfl) ?_
      rw [z_maxN (by omega) (by omega), Nat.max_eq_right (Nat.zero_le _)]
      refine z_reti d_Mo_told_52 ?_
      exact ⟨rfl, rfl⟩
    · have hx : s_idx (fun k => J 152 (22 * c + off + k)) (twd t) n 0 = -1 := by
        rcases s_idx_c (fun k => J 152 (22 * c + off + k)) (twd t) n 0 with g | ⟨k, -, g1, g2, -⟩
        · exact g
        · rw [g2] at hb; exact absurd (Int32.not_lt.mp (nI_pos (by omega))) hb
      rw [if_pos hx, hx]
      refine z_aload_0 d_Mo_told_38 ?_
      refine z_iconst (a := nI 3) d_Mo_told_39 (by decide) ?_
      refine z_aload_0 d_Mo_told_40 ?_
      refine z_getIv d_Mo_told_41 f_Mo_119 (by first | assumption | exact zS0_at (by assumption) (by omega) | exact zS0_at rfl (by omega)) (by first | assumption | ((try simp (disch := omega) only [zu_same, zu_ne, zcp_ne, zfl_ne]); first | assumption | rfl)) ?_
      refine z_Vv2 d_Mo_told_44 k_Mo_208 (by first | assumption | exact zS0_at (by assumption) (by omega) | exact zS0_at rfl (by omega)) (m_fail0 C) ⟨Nat.le_of_ble_eq_true rfl, Nat.le_of_ble_eq_true rfl, Nat.le_of_ble_eq_true rfl, Nat.le_of_ble_eq_true rfl⟩ (Nat.le_of_ble_eq_true rfl) ?_
      intro w hq
      obtain rfl := hq
      refine z_iconst (a := nI 0) d_Mo_told_47 (by decide) ?_
      refine z_iload_3 d_Mo_told_48 ?_
      refine z_max d_Mo_told_49 k_Mo_233.2.1 ⟨Nat.le_of_ble_eq_true rfl, Nat.le_of_ble_eq_true rfl, Nat.le_of_ble_eq_true rfl, Nat.le_of_ble_eq_true rfl⟩ (Nat.le_of_ble_eq_true rfl) ?_
      rw [show (if nI 0 < -1 then (-1 : Int32) else nI 0) = nI 0 by decide]
      refine z_reti d_Mo_told_52 ?_
      exact ⟨rfl, rfl, show 0 < 3 by decide, show 3 < 9 by decide⟩
  · unfold p_known
    rw [if_neg h]
    refine z_if_ne (tgt := 18) d_Mo_told_11 (by decide) (fun h => absurd (by decide) h) (fun _ => ?_)
    refine z_aload_0 d_Mo_told_14 ?_
    refine z_Vv0 d_Mo_told_15 k_Mo_215 (by first | assumption | exact zS0_at (by assumption) (by omega) | exact zS0_at rfl (by omega)) (m_amiss0 C) ⟨Nat.le_of_ble_eq_true rfl, Nat.le_of_ble_eq_true rfl, Nat.le_of_ble_eq_true rfl, Nat.le_of_ble_eq_true rfl⟩ (Nat.le_of_ble_eq_true rfl) ?_
    intro w hq
    obtain rfl := hq
    refine z_aload_0 d_Mo_told_18 ?_
    refine z_getIv d_Mo_told_19 f_Mo_202 (by first | assumption | exact zS0_at (by assumption) (by omega) | exact zS0_at rfl (by omega)) (by first | assumption | ((try simp (disch := omega) only [zu_same, zu_ne, zcp_ne, zfl_ne]); first | assumption | rfl)) ?_
    refine z_if_le (tgt := 27) d_Mo_told_22 (by decide) (fun h => absurd h (Int32.not_le.mpr (by rw [← nI_0]; exact nI_lt hmis.1 (by omega)))) (fun _ => ?_)
    refine z_iconst (a := nI 0) d_Mo_told_25 (by decide) ?_
    refine z_reti d_Mo_told_26 ?_
    exact ⟨rfl, rfl, hmis⟩
theorem m_toldz (C : moC T K L z I J P S t) (h0 : 0 < z) (h9 : z < 9) : zEi G y_Mo_told prog_14_method_58_code 4 (some .int) 6 [.ref 145, .int a, .int b] (I, J, P, S) (fun r w => r = nI 0 ∧ w = (I, J, P, S)) := by
  obtain ⟨a1, a2, a3, h4, h5, h6, M0⟩ := moC_n C
  have hne : ¬ nI z = 0 := by intro h; have := (nI_eq (by omega) (by omega)).mp (h.trans nI_0.symm); omega
  refine zEi_of (lv := [some (.ref 145), some (.int a), some (.int b), none]) (by decide) rfl (Nat.le_of_ble_eq_true rfl) ?_
  refine z_aload_0 d_Mo_told_0 ?_
  refine z_getIv d_Mo_told_1 f_Mo_202 (by first | assumption | exact zS0_at (by assumption) (by omega) | exact zS0_at rfl (by omega)) (by first | assumption | ((try simp (disch := omega) only [zu_same, zu_ne, zcp_ne, zfl_ne]); first | assumption | rfl)) ?_
  refine z_if_ne (tgt := 18) d_Mo_told_4 (by decide) (fun _ => ?_) (fun h => absurd h hne)
  refine z_aload_0 d_Mo_told_18 ?_
  refine z_getIv d_Mo_told_19 f_Mo_202 (by first | assumption | exact zS0_at (by assumption) (by omega) | exact zS0_at rfl (by omega)) (by first | assumption | ((try simp (disch := omega) only [zu_same, zu_ne, zcp_ne, zfl_ne]); first | assumption | rfl)) ?_
  refine z_if_le (tgt := 27) d_Mo_told_22 (by decide) (fun h => absurd h (Int32.not_le.mpr (by rw [← nI_0]; exact nI_lt h0 (by omega)))) (fun _ => ?_)
  refine z_iconst (a := nI 0) d_Mo_told_25 (by decide) ?_
  refine z_reti d_Mo_told_26 ?_
  exact ⟨rfl, rfl⟩
theorem m_readTold0 {c so off n : Nat} (C : moC T K L 0 I J P S t) (hc : c ≤ 4) (hs : so = 0 ∧ off = 0 ∨ so = 1 ∧ off = 6 ∨ so = 3 ∧ off = 13) (hn : I 150 (359 * c + so) = nI n) (hn2 : off + n ≤ 22) : zEi G y_Mo_readTold prog_14_method_59_code 4 (some .int) 7 [.ref 145, .int (nI c), .int (nI so)] (I, J, P, S) (fun r w => pQ (p_known (fun k => J 152 (22 * c + off + k)) n t) (fun e => r = nI 0 ∧ w = (mB I e, J, P, S) ∧ 0 < e.1 ∧ e.1 < 9) (fun v => r = v ∧ moN T K L 0 I J P S (tA T L K t) w)) := by
  obtain ⟨a1, a2, a3, h4, h5, h6, M0⟩ := moC_n C
  refine zEi_of (lv := [some (.ref 145), some (.int (nI c)), some (.int (nI so)), none]) (by decide) rfl (Nat.le_of_ble_eq_true rfl) ?_
  refine z_aload_0 d_Mo_readTold_0 ?_
  refine z_iload_1 d_Mo_readTold_1 ?_
  refine z_iload_2 d_Mo_readTold_2 ?_
  refine z_Vi2 d_Mo_readTold_3 k_Mo_236 (by first | assumption | exact zS0_at (by assumption) (by omega) | exact zS0_at rfl (by omega)) (m_told0 C hc hs hn hn2) ⟨Nat.le_of_ble_eq_true rfl, Nat.le_of_ble_eq_true rfl, Nat.le_of_ble_eq_true rfl, Nat.le_of_ble_eq_true rfl⟩ (Nat.le_of_ble_eq_true rfl) ?_
  intro r w hq
  rcases hx : p_known (fun k => J 152 (22 * c + off + k)) n t with e | v <;> rw [hx] at hq
  · obtain ⟨rfl, rfl, e1, e2⟩ := hq
    first | refine z_istore_3 d_Mo_readTold_6 rfl ?_ | (refine z_forget_2 ?_; refine z_istore_3 d_Mo_readTold_6 rfl ?_)
    refine z_aload_0 d_Mo_readTold_7 ?_
    refine z_iconst (a := nI 1) d_Mo_readTold_8 (by decide) ?_
    refine z_Vv1 d_Mo_readTold_9 k_Mo_239 (by first | assumption | exact zS0_at (by assumption) (by omega) | exact zS0_at rfl (by omega)) (m_mustz (moC_f C) e1 e2) ⟨Nat.le_of_ble_eq_true rfl, Nat.le_of_ble_eq_true rfl, Nat.le_of_ble_eq_true rfl, Nat.le_of_ble_eq_true rfl⟩ (Nat.le_of_ble_eq_true rfl) ?_
    intro w hq
    obtain rfl := hq
    refine z_iload_3 d_Mo_readTold_12 ?_
    refine z_reti d_Mo_readTold_13 ?_
    exact ⟨rfl, rfl, e1, e2⟩
  · obtain ⟨rfl, rfl⟩ := hq
    first | refine z_istore_3 d_Mo_readTold_6 rfl ?_ | (refine z_forget_2 ?_; refine z_istore_3 d_Mo_readTold_6 rfl ?_)
    refine z_aload_0 d_Mo_readTold_7 ?_
    refine z_iconst (a := nI 1) d_Mo_readTold_8 (by decide) ?_
    refine z_Vv1 d_Mo_readTold_9 k_Mo_239 (by first | assumption | exact zS0_at (by assumption) (by omega) | exact zS0_at rfl (by omega)) (m_must1 C) ⟨Nat.le_of_ble_eq_true rfl, Nat.le_of_ble_eq_true rfl, Nat.le_of_ble_eq_true rfl, Nat.le_of_ble_eq_true rfl⟩ (Nat.le_of_ble_eq_true rfl) ?_
    intro w hq
    have hq2 := hq
    obtain ⟨I', J', rfl, -⟩ := hq2
    refine z_iload_3 d_Mo_readTold_12 ?_
    refine z_reti d_Mo_readTold_13 ?_
    exact ⟨rfl, hq⟩
theorem m_readToldz (C : moC T K L z I J P S t) (h0 : 0 < z) (h9 : z < 9) : zEi G y_Mo_readTold prog_14_method_59_code 4 (some .int) 7 [.ref 145, .int a, .int b] (I, J, P, S) (fun r w => r = nI 0 ∧ w = (I, J, P, S)) := by
  obtain ⟨a1, a2, a3, h4, h5, h6, M0⟩ := moC_n C
  refine zEi_of (lv := [some (.ref 145), some (.int a), some (.int b), none]) (by decide) rfl (Nat.le_of_ble_eq_true rfl) ?_
  refine z_aload_0 d_Mo_readTold_0 ?_
  refine z_iload_1 d_Mo_readTold_1 ?_
  refine z_iload_2 d_Mo_readTold_2 ?_
  refine z_Vi2 d_Mo_readTold_3 k_Mo_236 (by first | assumption | exact zS0_at (by assumption) (by omega) | exact zS0_at rfl (by omega)) (m_toldz C h0 h9) ⟨Nat.le_of_ble_eq_true rfl, Nat.le_of_ble_eq_true rfl, Nat.le_of_ble_eq_true rfl, Nat.le_of_ble_eq_true rfl⟩ (Nat.le_of_ble_eq_true rfl) ?_
  intro r w hq
  obtain ⟨rfl, rfl⟩ := hq
  first | refine z_istore_3 d_Mo_readTold_6 rfl ?_ | (refine z_forget_2 ?_; refine z_istore_3 d_Mo_readTold_6 rfl ?_)
  refine z_aload_0 d_Mo_readTold_7 ?_
  refine z_iconst (a := nI 1) d_Mo_readTold_8 (by decide) ?_
  refine z_Vv1 d_Mo_readTold_9 k_Mo_239 (by first | assumption | exact zS0_at (by assumption) (by omega) | exact zS0_at rfl (by omega)) (m_mustz C h0 h9) ⟨Nat.le_of_ble_eq_true rfl, Nat.le_of_ble_eq_true rfl, Nat.le_of_ble_eq_true rfl, Nat.le_of_ble_eq_true rfl⟩ (Nat.le_of_ble_eq_true rfl) ?_
  intro w hq
  obtain rfl := hq
  refine z_iload_3 d_Mo_readTold_12 ?_
  refine z_reti d_Mo_readTold_13 ?_
  exact ⟨rfl, rfl⟩
end MT3
