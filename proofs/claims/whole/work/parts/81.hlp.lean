/-! what a call asks first, both sides -/
section HL0
variable {G : zG} {I I' : Nat → Nat → Int32} {J J' : Nat → Nat → Int64} {P : Nat → Nat → Option Nat} {S : List (Nat × Nat)} {f d nt np nl nn n fed mk st : Nat} {a b : Int32} {w : zW}
theorem clOk_M (Z : clOk f d P S) : modOk P S := by
  obtain ⟨⟨c0, c3, c1s⟩, ⟨c5, c2s, ctr⟩, ⟨c6, c11s, c11, c13s⟩, ⟨c7, c15s, c15⟩, ⟨c8, c16s, c16a, c16b, c17s⟩, ⟨c9, c10, cfd, F, Fd⟩, ⟨c11b, Ft⟩, ⟨c12, c69s, cmk⟩, ⟨c14, c121s, c121, c122s⟩, ⟨c15b, c123s, c123, c124s⟩, ⟨c16, c125s, c125, c126s⟩, ⟨c17, c127s, c127, c128s, ctb⟩, ⟨c18, c139s, c139, c140s⟩, ⟨c19, c141s, ⟨c141a, c142s⟩, ⟨c141b, c143s⟩, ⟨c141c, c144s⟩⟩, M⟩ := id Z
  exact M
theorem clOk_f (Z : clOk f d P S) : f = 18 ∨ f = 35 := by
  obtain ⟨⟨c0, c3, c1s⟩, ⟨c5, c2s, ctr⟩, ⟨c6, c11s, c11, c13s⟩, ⟨c7, c15s, c15⟩, ⟨c8, c16s, c16a, c16b, c17s⟩, ⟨c9, c10, cfd, F, Fd⟩, ⟨c11b, Ft⟩, ⟨c12, c69s, cmk⟩, ⟨c14, c121s, c121, c122s⟩, ⟨c15b, c123s, c123, c124s⟩, ⟨c16, c125s, c125, c126s⟩, ⟨c17, c127s, c127, c128s, ctb⟩, ⟨c18, c139s, c139, c140s⟩, ⟨c19, c141s, ⟨c141a, c142s⟩, ⟨c141b, c143s⟩, ⟨c141c, c144s⟩⟩, M⟩ := id Z
  omega
theorem t_Tf_noTrait (Z : clOk f d P S) (N : fenIn I f nt np nl nn) : zEi G y_Tf_noTrait prog_1_method_58_code 2 (some .boolean) 1 [.ref 0, .int a] (I, J, P, S) (fun r w => (¬ zin a nt ∧ r = nI 1 ∨ zin a nt ∧ r = nI 0) ∧ w = (I, J, P, S)) := by
  obtain ⟨⟨c0, c3, c1s⟩, ⟨c5, c2s, ctr⟩, ⟨c6, c11s, c11, c13s⟩, ⟨c7, c15s, c15⟩, ⟨c8, c16s, c16a, c16b, c17s⟩, ⟨c9, c10, cfd, F, Fd⟩, ⟨c11b, Ft⟩, ⟨c12, c69s, cmk⟩, ⟨c14, c121s, c121, c122s⟩, ⟨c15b, c123s, c123, c124s⟩, ⟨c16, c125s, c125, c126s⟩, ⟨c17, c127s, c127, c128s, ctb⟩, ⟨c18, c139s, c139, c140s⟩, ⟨c19, c141s, ⟨c141a, c142s⟩, ⟨c141b, c143s⟩, ⟨c141c, c144s⟩⟩, M⟩ := id Z
  obtain ⟨F0, ⟨F8, F8s⟩, ⟨F9, F9s⟩, ⟨F10, F10s⟩, ⟨F11, F11s⟩, ⟨F12, F12s⟩, ⟨F13, F13s⟩, ⟨F14, F14s⟩, ⟨F15, F15s⟩, ⟨F16, F16s⟩, ⟨F17, F17s⟩, ⟨F18, F18s⟩, ⟨F19, F19s⟩, ⟨Y3, Y3s⟩, ⟨Y4, Y4s⟩, ⟨Y5, Y5s⟩, ⟨Y6, Y6s⟩⟩ := id F
  obtain ⟨⟨n1, n1b⟩, ⟨n2, n2b⟩, ⟨n3, n3b⟩, ⟨n4, n4b⟩, nof, non⟩ := id N
  rcases zin_or a nt (by omega) with ⟨h, h2⟩ | ⟨j, hj, rfl⟩
  · refine zEi_of (lv := [some (.ref 0), some (.int a)]) (by decide) rfl (Nat.le_of_ble_eq_true rfl) ?_
    rcases h with h | h
    · refine z_iload_1 d_Tf_noTrait_0 ?_
      refine z_if_lt (tgt := 15) d_Tf_noTrait_1 (by decide) (fun h1 => ?_) (fun h1 => ?_)
      · first
        | (simp (disch := omega) only [← nI_0, nI_leI, nI_ltI, nI_eq, not_true_eq_false, not_false_eq_true] at h1; done)
        | (simp (disch := omega) only [← nI_0, nI_leI, nI_ltI, nI_eq, not_true_eq_false, not_false_eq_true] at h1; omega)
        | contradiction
        | exact absurd h1 (Int32.not_lt.mpr (by assumption))
        | exact absurd h1 (Int32.not_le.mpr (by assumption))
        | exact absurd h1 (by decide)
        | exact absurd (by decide) h1
        | ( try simp (disch := omega) only [← nI_0, nI_leI, nI_ltI, nI_eq, not_true_eq_false, not_false_eq_true] at h1
            (try have h1b := zbit_n0.mp h1); (try have h1b := zbit_p0.mp h1)
            refine z_iconst (a := nI 1) d_Tf_noTrait_15 (by decide) ?_
            refine z_goto (tgt := 20) d_Tf_noTrait_16 (by decide) ?_
            refine z_retz d_Tf_noTrait_20 (by first | exact zb0 | exact zb1 | assumption) ?_
            exact ⟨Or.inl ⟨h2, rfl⟩, rfl⟩)
      · first
        | (simp (disch := omega) only [← nI_0, nI_leI, nI_ltI, nI_eq, not_true_eq_false, not_false_eq_true] at h1; done)
        | (simp (disch := omega) only [← nI_0, nI_leI, nI_ltI, nI_eq, not_true_eq_false, not_false_eq_true] at h1; omega)
        | contradiction
        | exact absurd h1 (Int32.not_lt.mpr (by assumption))
        | exact absurd h1 (Int32.not_le.mpr (by assumption))
        | exact absurd h1 (by decide)
        | exact absurd (by decide) h1
        | ( try simp (disch := omega) only [← nI_0, nI_leI, nI_ltI, nI_eq, not_true_eq_false, not_false_eq_true] at h1
            (try have h1b := zbit_n0.mp h1); (try have h1b := zbit_p0.mp h1)
            refine z_iload_1 d_Tf_noTrait_4 ?_
            refine z_aload_0 d_Tf_noTrait_5 ?_
            refine z_getR d_Tf_noTrait_6 f_Tf_60 (by first | assumption | exact zS0_at (by assumption) (by omega) | exact zS0_at rfl (by omega)) (by first | assumption | exact zS0_at (by assumption) (by omega) | exact zS0_at rfl (by omega)) ?_
            refine z_getIv d_Tf_noTrait_9 f_Tf_199 (by first | assumption | exact zS0_at (by assumption) (by omega) | exact zS0_at rfl (by omega)) (by first | assumption | ((try simp (disch := omega) only [zu_same, zu_ne, zcp_ne, zfl_ne]); first | assumption | rfl)) ?_
            refine z_icmp_lt (tgt := 19) d_Tf_noTrait_12 (by decide) (fun h12 => ?_) (fun h12 => ?_)
            · first
              | (simp (disch := omega) only [← nI_0, nI_leI, nI_ltI, nI_eq, not_true_eq_false, not_false_eq_true] at h12; done)
              | (simp (disch := omega) only [← nI_0, nI_leI, nI_ltI, nI_eq, not_true_eq_false, not_false_eq_true] at h12; omega)
              | contradiction
              | exact absurd h12 (Int32.not_lt.mpr (by assumption))
              | exact absurd h12 (Int32.not_le.mpr (by assumption))
              | exact absurd h12 (by decide)
              | exact absurd (by decide) h12
              | ( try simp (disch := omega) only [← nI_0, nI_leI, nI_ltI, nI_eq, not_true_eq_false, not_false_eq_true] at h12
                  (try have h12b := zbit_n0.mp h12); (try have h12b := zbit_p0.mp h12)
                  refine z_iconst (a := nI 0) d_Tf_noTrait_19 (by decide) ?_
                  refine z_retz d_Tf_noTrait_20 (by first | exact zb0 | exact zb1 | assumption) ?_
                  exact ⟨Or.inl ⟨h2, rfl⟩, rfl⟩)
            · first
              | (simp (disch := omega) only [← nI_0, nI_leI, nI_ltI, nI_eq, not_true_eq_false, not_false_eq_true] at h12; done)
              | (simp (disch := omega) only [← nI_0, nI_leI, nI_ltI, nI_eq, not_true_eq_false, not_false_eq_true] at h12; omega)
              | contradiction
              | exact absurd h12 (Int32.not_lt.mpr (by assumption))
              | exact absurd h12 (Int32.not_le.mpr (by assumption))
              | exact absurd h12 (by decide)
              | exact absurd (by decide) h12
              | ( try simp (disch := omega) only [← nI_0, nI_leI, nI_ltI, nI_eq, not_true_eq_false, not_false_eq_true] at h12
                  (try have h12b := zbit_n0.mp h12); (try have h12b := zbit_p0.mp h12)
                  refine z_iconst (a := nI 1) d_Tf_noTrait_15 (by decide) ?_
                  refine z_goto (tgt := 20) d_Tf_noTrait_16 (by decide) ?_
                  refine z_retz d_Tf_noTrait_20 (by first | exact zb0 | exact zb1 | assumption) ?_
                  exact ⟨Or.inl ⟨h2, rfl⟩, rfl⟩))
    · refine z_iload_1 d_Tf_noTrait_0 ?_
      refine z_if_lt (tgt := 15) d_Tf_noTrait_1 (by decide) (fun h1 => ?_) (fun h1 => ?_)
      · first
        | (simp (disch := omega) only [← nI_0, nI_leI, nI_ltI, nI_eq, not_true_eq_false, not_false_eq_true] at h1; done)
        | (simp (disch := omega) only [← nI_0, nI_leI, nI_ltI, nI_eq, not_true_eq_false, not_false_eq_true] at h1; omega)
        | contradiction
        | exact absurd h1 (Int32.not_lt.mpr (by assumption))
        | exact absurd h1 (Int32.not_le.mpr (by assumption))
        | exact absurd h1 (by decide)
        | exact absurd (by decide) h1
        | ( try simp (disch := omega) only [← nI_0, nI_leI, nI_ltI, nI_eq, not_true_eq_false, not_false_eq_true] at h1
            (try have h1b := zbit_n0.mp h1); (try have h1b := zbit_p0.mp h1)
            refine z_iconst (a := nI 1) d_Tf_noTrait_15 (by decide) ?_
            refine z_goto (tgt := 20) d_Tf_noTrait_16 (by decide) ?_
            refine z_retz d_Tf_noTrait_20 (by first | exact zb0 | exact zb1 | assumption) ?_
            exact ⟨Or.inl ⟨h2, rfl⟩, rfl⟩)
      · first
        | (simp (disch := omega) only [← nI_0, nI_leI, nI_ltI, nI_eq, not_true_eq_false, not_false_eq_true] at h1; done)
        | (simp (disch := omega) only [← nI_0, nI_leI, nI_ltI, nI_eq, not_true_eq_false, not_false_eq_true] at h1; omega)
        | contradiction
        | exact absurd h1 (Int32.not_lt.mpr (by assumption))
        | exact absurd h1 (Int32.not_le.mpr (by assumption))
        | exact absurd h1 (by decide)
        | exact absurd (by decide) h1
        | ( try simp (disch := omega) only [← nI_0, nI_leI, nI_ltI, nI_eq, not_true_eq_false, not_false_eq_true] at h1
            (try have h1b := zbit_n0.mp h1); (try have h1b := zbit_p0.mp h1)
            refine z_iload_1 d_Tf_noTrait_4 ?_
            refine z_aload_0 d_Tf_noTrait_5 ?_
            refine z_getR d_Tf_noTrait_6 f_Tf_60 (by first | assumption | exact zS0_at (by assumption) (by omega) | exact zS0_at rfl (by omega)) (by first | assumption | exact zS0_at (by assumption) (by omega) | exact zS0_at rfl (by omega)) ?_
            refine z_getIv d_Tf_noTrait_9 f_Tf_199 (by first | assumption | exact zS0_at (by assumption) (by omega) | exact zS0_at rfl (by omega)) (by first | assumption | ((try simp (disch := omega) only [zu_same, zu_ne, zcp_ne, zfl_ne]); first | assumption | rfl)) ?_
            refine z_icmp_lt (tgt := 19) d_Tf_noTrait_12 (by decide) (fun h12 => ?_) (fun h12 => ?_)
            · first
              | (simp (disch := omega) only [← nI_0, nI_leI, nI_ltI, nI_eq, not_true_eq_false, not_false_eq_true] at h12; done)
              | (simp (disch := omega) only [← nI_0, nI_leI, nI_ltI, nI_eq, not_true_eq_false, not_false_eq_true] at h12; omega)
              | contradiction
              | exact absurd h12 (Int32.not_lt.mpr (by assumption))
              | exact absurd h12 (Int32.not_le.mpr (by assumption))
              | exact absurd h12 (by decide)
              | exact absurd (by decide) h12
              | ( try simp (disch := omega) only [← nI_0, nI_leI, nI_ltI, nI_eq, not_true_eq_false, not_false_eq_true] at h12
                  (try have h12b := zbit_n0.mp h12); (try have h12b := zbit_p0.mp h12)
                  refine z_iconst (a := nI 0) d_Tf_noTrait_19 (by decide) ?_
                  refine z_retz d_Tf_noTrait_20 (by first | exact zb0 | exact zb1 | assumption) ?_
                  exact ⟨Or.inl ⟨h2, rfl⟩, rfl⟩)
            · first
              | (simp (disch := omega) only [← nI_0, nI_leI, nI_ltI, nI_eq, not_true_eq_false, not_false_eq_true] at h12; done)
              | (simp (disch := omega) only [← nI_0, nI_leI, nI_ltI, nI_eq, not_true_eq_false, not_false_eq_true] at h12; omega)
              | contradiction
              | exact absurd h12 (Int32.not_lt.mpr (by assumption))
              | exact absurd h12 (Int32.not_le.mpr (by assumption))
              | exact absurd h12 (by decide)
              | exact absurd (by decide) h12
              | ( try simp (disch := omega) only [← nI_0, nI_leI, nI_ltI, nI_eq, not_true_eq_false, not_false_eq_true] at h12
                  (try have h12b := zbit_n0.mp h12); (try have h12b := zbit_p0.mp h12)
                  refine z_iconst (a := nI 1) d_Tf_noTrait_15 (by decide) ?_
                  refine z_goto (tgt := 20) d_Tf_noTrait_16 (by decide) ?_
                  refine z_retz d_Tf_noTrait_20 (by first | exact zb0 | exact zb1 | assumption) ?_
                  exact ⟨Or.inl ⟨h2, rfl⟩, rfl⟩))
  · refine zEi_of (lv := [some (.ref 0), some (.int (nI j))]) (by decide) rfl (Nat.le_of_ble_eq_true rfl) ?_
    refine z_iload_1 d_Tf_noTrait_0 ?_
    refine z_if_lt (tgt := 15) d_Tf_noTrait_1 (by decide) (fun h1 => ?_) (fun h1 => ?_)
    · first
      | (simp (disch := omega) only [← nI_0, nI_leI, nI_ltI, nI_eq, not_true_eq_false, not_false_eq_true] at h1; done)
      | (simp (disch := omega) only [← nI_0, nI_leI, nI_ltI, nI_eq, not_true_eq_false, not_false_eq_true] at h1; omega)
      | contradiction
      | exact absurd h1 (Int32.not_lt.mpr (by assumption))
      | exact absurd h1 (Int32.not_le.mpr (by assumption))
      | exact absurd h1 (by decide)
      | exact absurd (by decide) h1
      | ( try simp (disch := omega) only [← nI_0, nI_leI, nI_ltI, nI_eq, not_true_eq_false, not_false_eq_true] at h1
          (try have h1b := zbit_n0.mp h1); (try have h1b := zbit_p0.mp h1)
          refine z_iconst (a := nI 1) d_Tf_noTrait_15 (by decide) ?_
          refine z_goto (tgt := 20) d_Tf_noTrait_16 (by decide) ?_
          refine z_retz d_Tf_noTrait_20 (by first | exact zb0 | exact zb1 | assumption) ?_
          exact ⟨Or.inr ⟨⟨j, hj, rfl⟩, rfl⟩, rfl⟩)
    · first
      | (simp (disch := omega) only [← nI_0, nI_leI, nI_ltI, nI_eq, not_true_eq_false, not_false_eq_true] at h1; done)
      | (simp (disch := omega) only [← nI_0, nI_leI, nI_ltI, nI_eq, not_true_eq_false, not_false_eq_true] at h1; omega)
      | contradiction
      | exact absurd h1 (Int32.not_lt.mpr (by assumption))
      | exact absurd h1 (Int32.not_le.mpr (by assumption))
      | exact absurd h1 (by decide)
      | exact absurd (by decide) h1
      | ( try simp (disch := omega) only [← nI_0, nI_leI, nI_ltI, nI_eq, not_true_eq_false, not_false_eq_true] at h1
          (try have h1b := zbit_n0.mp h1); (try have h1b := zbit_p0.mp h1)
          refine z_iload_1 d_Tf_noTrait_4 ?_
          refine z_aload_0 d_Tf_noTrait_5 ?_
          refine z_getR d_Tf_noTrait_6 f_Tf_60 (by first | assumption | exact zS0_at (by assumption) (by omega) | exact zS0_at rfl (by omega)) (by first | assumption | exact zS0_at (by assumption) (by omega) | exact zS0_at rfl (by omega)) ?_
          refine z_getIv d_Tf_noTrait_9 f_Tf_199 (by first | assumption | exact zS0_at (by assumption) (by omega) | exact zS0_at rfl (by omega)) (by first | assumption | ((try simp (disch := omega) only [zu_same, zu_ne, zcp_ne, zfl_ne]); first | assumption | rfl)) ?_
          refine z_icmp_lt (tgt := 19) d_Tf_noTrait_12 (by decide) (fun h12 => ?_) (fun h12 => ?_)
          · first
            | (simp (disch := omega) only [← nI_0, nI_leI, nI_ltI, nI_eq, not_true_eq_false, not_false_eq_true] at h12; done)
            | (simp (disch := omega) only [← nI_0, nI_leI, nI_ltI, nI_eq, not_true_eq_false, not_false_eq_true] at h12; omega)
            | contradiction
            | exact absurd h12 (Int32.not_lt.mpr (by assumption))
            | exact absurd h12 (Int32.not_le.mpr (by assumption))
            | exact absurd h12 (by decide)
            | exact absurd (by decide) h12
            | ( try simp (disch := omega) only [← nI_0, nI_leI, nI_ltI, nI_eq, not_true_eq_false, not_false_eq_true] at h12
                (try have h12b := zbit_n0.mp h12); (try have h12b := zbit_p0.mp h12)
                refine z_iconst (a := nI 0) d_Tf_noTrait_19 (by decide) ?_
                refine z_retz d_Tf_noTrait_20 (by first | exact zb0 | exact zb1 | assumption) ?_
                exact ⟨Or.inr ⟨⟨j, hj, rfl⟩, rfl⟩, rfl⟩)
          · first
            | (simp (disch := omega) only [← nI_0, nI_leI, nI_ltI, nI_eq, not_true_eq_false, not_false_eq_true] at h12; done)
            | (simp (disch := omega) only [← nI_0, nI_leI, nI_ltI, nI_eq, not_true_eq_false, not_false_eq_true] at h12; omega)
            | contradiction
            | exact absurd h12 (Int32.not_lt.mpr (by assumption))
            | exact absurd h12 (Int32.not_le.mpr (by assumption))
            | exact absurd h12 (by decide)
            | exact absurd (by decide) h12
            | ( try simp (disch := omega) only [← nI_0, nI_leI, nI_ltI, nI_eq, not_true_eq_false, not_false_eq_true] at h12
                (try have h12b := zbit_n0.mp h12); (try have h12b := zbit_p0.mp h12)
                refine z_iconst (a := nI 1) d_Tf_noTrait_15 (by decide) ?_
                refine z_goto (tgt := 20) d_Tf_noTrait_16 (by decide) ?_
                refine z_retz d_Tf_noTrait_20 (by first | exact zb0 | exact zb1 | assumption) ?_
                exact ⟨Or.inr ⟨⟨j, hj, rfl⟩, rfl⟩, rfl⟩))
theorem t_Tf_noPerson (Z : clOk f d P S) (N : fenIn I f nt np nl nn) : zEi G y_Tf_noPerson prog_1_method_59_code 2 (some .boolean) 1 [.ref 0, .int a] (I, J, P, S) (fun r w => (¬ zin a np ∧ r = nI 1 ∨ zin a np ∧ r = nI 0) ∧ w = (I, J, P, S)) := by
  obtain ⟨⟨c0, c3, c1s⟩, ⟨c5, c2s, ctr⟩, ⟨c6, c11s, c11, c13s⟩, ⟨c7, c15s, c15⟩, ⟨c8, c16s, c16a, c16b, c17s⟩, ⟨c9, c10, cfd, F, Fd⟩, ⟨c11b, Ft⟩, ⟨c12, c69s, cmk⟩, ⟨c14, c121s, c121, c122s⟩, ⟨c15b, c123s, c123, c124s⟩, ⟨c16, c125s, c125, c126s⟩, ⟨c17, c127s, c127, c128s, ctb⟩, ⟨c18, c139s, c139, c140s⟩, ⟨c19, c141s, ⟨c141a, c142s⟩, ⟨c141b, c143s⟩, ⟨c141c, c144s⟩⟩, M⟩ := id Z
  obtain ⟨F0, ⟨F8, F8s⟩, ⟨F9, F9s⟩, ⟨F10, F10s⟩, ⟨F11, F11s⟩, ⟨F12, F12s⟩, ⟨F13, F13s⟩, ⟨F14, F14s⟩, ⟨F15, F15s⟩, ⟨F16, F16s⟩, ⟨F17, F17s⟩, ⟨F18, F18s⟩, ⟨F19, F19s⟩, ⟨Y3, Y3s⟩, ⟨Y4, Y4s⟩, ⟨Y5, Y5s⟩, ⟨Y6, Y6s⟩⟩ := id F
  obtain ⟨⟨n1, n1b⟩, ⟨n2, n2b⟩, ⟨n3, n3b⟩, ⟨n4, n4b⟩, nof, non⟩ := id N
  rcases zin_or a np (by omega) with ⟨h, h2⟩ | ⟨j, hj, rfl⟩
  · refine zEi_of (lv := [some (.ref 0), some (.int a)]) (by decide) rfl (Nat.le_of_ble_eq_true rfl) ?_
    rcases h with h | h
    · refine z_iload_1 d_Tf_noPerson_0 ?_
      refine z_if_lt (tgt := 15) d_Tf_noPerson_1 (by decide) (fun h1 => ?_) (fun h1 => ?_)
      · first
        | (simp (disch := omega) only [← nI_0, nI_leI, nI_ltI, nI_eq, not_true_eq_false, not_false_eq_true] at h1; done)
        | (simp (disch := omega) only [← nI_0, nI_leI, nI_ltI, nI_eq, not_true_eq_false, not_false_eq_true] at h1; omega)
        | contradiction
        | exact absurd h1 (Int32.not_lt.mpr (by assumption))
        | exact absurd h1 (Int32.not_le.mpr (by assumption))
        | exact absurd h1 (by decide)
        | exact absurd (by decide) h1
        | ( try simp (disch := omega) only [← nI_0, nI_leI, nI_ltI, nI_eq, not_true_eq_false, not_false_eq_true] at h1
            (try have h1b := zbit_n0.mp h1); (try have h1b := zbit_p0.mp h1)
            refine z_iconst (a := nI 1) d_Tf_noPerson_15 (by decide) ?_
            refine z_goto (tgt := 20) d_Tf_noPerson_16 (by decide) ?_
            refine z_retz d_Tf_noPerson_20 (by first | exact zb0 | exact zb1 | assumption) ?_
            exact ⟨Or.inl ⟨h2, rfl⟩, rfl⟩)
      · first
        | (simp (disch := omega) only [← nI_0, nI_leI, nI_ltI, nI_eq, not_true_eq_false, not_false_eq_true] at h1; done)
        | (simp (disch := omega) only [← nI_0, nI_leI, nI_ltI, nI_eq, not_true_eq_false, not_false_eq_true] at h1; omega)
        | contradiction
        | exact absurd h1 (Int32.not_lt.mpr (by assumption))
        | exact absurd h1 (Int32.not_le.mpr (by assumption))
        | exact absurd h1 (by decide)
        | exact absurd (by decide) h1
        | ( try simp (disch := omega) only [← nI_0, nI_leI, nI_ltI, nI_eq, not_true_eq_false, not_false_eq_true] at h1
            (try have h1b := zbit_n0.mp h1); (try have h1b := zbit_p0.mp h1)
            refine z_iload_1 d_Tf_noPerson_4 ?_
            refine z_aload_0 d_Tf_noPerson_5 ?_
            refine z_getR d_Tf_noPerson_6 f_Tf_60 (by first | assumption | exact zS0_at (by assumption) (by omega) | exact zS0_at rfl (by omega)) (by first | assumption | exact zS0_at (by assumption) (by omega) | exact zS0_at rfl (by omega)) ?_
            refine z_getIv d_Tf_noPerson_9 f_Tf_202 (by first | assumption | exact zS0_at (by assumption) (by omega) | exact zS0_at rfl (by omega)) (by first | assumption | ((try simp (disch := omega) only [zu_same, zu_ne, zcp_ne, zfl_ne]); first | assumption | rfl)) ?_
            refine z_icmp_lt (tgt := 19) d_Tf_noPerson_12 (by decide) (fun h12 => ?_) (fun h12 => ?_)
            · first
              | (simp (disch := omega) only [← nI_0, nI_leI, nI_ltI, nI_eq, not_true_eq_false, not_false_eq_true] at h12; done)
              | (simp (disch := omega) only [← nI_0, nI_leI, nI_ltI, nI_eq, not_true_eq_false, not_false_eq_true] at h12; omega)
              | contradiction
              | exact absurd h12 (Int32.not_lt.mpr (by assumption))
              | exact absurd h12 (Int32.not_le.mpr (by assumption))
              | exact absurd h12 (by decide)
              | exact absurd (by decide) h12
              | ( try simp (disch := omega) only [← nI_0, nI_leI, nI_ltI, nI_eq, not_true_eq_false, not_false_eq_true] at h12
                  (try have h12b := zbit_n0.mp h12); (try have h12b := zbit_p0.mp h12)
                  refine z_iconst (a := nI 0) d_Tf_noPerson_19 (by decide) ?_
                  refine z_retz d_Tf_noPerson_20 (by first | exact zb0 | exact zb1 | assumption) ?_
                  exact ⟨Or.inl ⟨h2, rfl⟩, rfl⟩)
            · first
              | (simp (disch := omega) only [← nI_0, nI_leI, nI_ltI, nI_eq, not_true_eq_false, not_false_eq_true] at h12; done)
              | (simp (disch := omega) only [← nI_0, nI_leI, nI_ltI, nI_eq, not_true_eq_false, not_false_eq_true] at h12; omega)
              | contradiction
              | exact absurd h12 (Int32.not_lt.mpr (by assumption))
              | exact absurd h12 (Int32.not_le.mpr (by assumption))
              | exact absurd h12 (by decide)
              | exact absurd (by decide) h12
              | ( try simp (disch := omega) only [← nI_0, nI_leI, nI_ltI, nI_eq, not_true_eq_false, not_false_eq_true] at h12
                  (try have h12b := zbit_n0.mp h12); (try have h12b := zbit_p0.mp h12)
                  refine z_iconst (a := nI 1) d_Tf_noPerson_15 (by decide) ?_
                  refine z_goto (tgt := 20) d_Tf_noPerson_16 (by decide) ?_
                  refine z_retz d_Tf_noPerson_20 (by first | exact zb0 | exact zb1 | assumption) ?_
                  exact ⟨Or.inl ⟨h2, rfl⟩, rfl⟩))
    · refine z_iload_1 d_Tf_noPerson_0 ?_
      refine z_if_lt (tgt := 15) d_Tf_noPerson_1 (by decide) (fun h1 => ?_) (fun h1 => ?_)
      · first
        | (simp (disch := omega) only [← nI_0, nI_leI, nI_ltI, nI_eq, not_true_eq_false, not_false_eq_true] at h1; done)
        | (simp (disch := omega) only [← nI_0, nI_leI, nI_ltI, nI_eq, not_true_eq_false, not_false_eq_true] at h1; omega)
        | contradiction
        | exact absurd h1 (Int32.not_lt.mpr (by assumption))
        | exact absurd h1 (Int32.not_le.mpr (by assumption))
        | exact absurd h1 (by decide)
        | exact absurd (by decide) h1
        | ( try simp (disch := omega) only [← nI_0, nI_leI, nI_ltI, nI_eq, not_true_eq_false, not_false_eq_true] at h1
            (try have h1b := zbit_n0.mp h1); (try have h1b := zbit_p0.mp h1)
            refine z_iconst (a := nI 1) d_Tf_noPerson_15 (by decide) ?_
            refine z_goto (tgt := 20) d_Tf_noPerson_16 (by decide) ?_
            refine z_retz d_Tf_noPerson_20 (by first | exact zb0 | exact zb1 | assumption) ?_
            exact ⟨Or.inl ⟨h2, rfl⟩, rfl⟩)
      · first
        | (simp (disch := omega) only [← nI_0, nI_leI, nI_ltI, nI_eq, not_true_eq_false, not_false_eq_true] at h1; done)
        | (simp (disch := omega) only [← nI_0, nI_leI, nI_ltI, nI_eq, not_true_eq_false, not_false_eq_true] at h1; omega)
        | contradiction
        | exact absurd h1 (Int32.not_lt.mpr (by assumption))
        | exact absurd h1 (Int32.not_le.mpr (by assumption))
        | exact absurd h1 (by decide)
        | exact absurd (by decide) h1
        | ( try simp (disch := omega) only [← nI_0, nI_leI, nI_ltI, nI_eq, not_true_eq_false, not_false_eq_true] at h1
            (try have h1b := zbit_n0.mp h1); (try have h1b := zbit_p0.mp h1)
            refine z_iload_1 d_Tf_noPerson_4 ?_
            refine z_aload_0 d_Tf_noPerson_5 ?_
            refine z_getR d_Tf_noPerson_6 f_Tf_60 (by first | assumption | exact zS0_at (by assumption) (by omega) | exact zS0_at rfl (by omega)) (by first | assumption | exact zS0_at (by assumption) (by omega) | exact zS0_at rfl (by omega)) ?_
            refine z_getIv d_Tf_noPerson_9 f_Tf_202 (by first | assumption | exact zS0_at (by assumption) (by omega) | exact zS0_at rfl (by omega)) (by first | assumption | ((try simp (disch := omega) only [zu_same, zu_ne, zcp_ne, zfl_ne]); first | assumption | rfl)) ?_
            refine z_icmp_lt (tgt := 19) d_Tf_noPerson_12 (by decide) (fun h12 => ?_) (fun h12 => ?_)
            · first
              | (simp (disch := omega) only [← nI_0, nI_leI, nI_ltI, nI_eq, not_true_eq_false, not_false_eq_true] at h12; done)
              | (simp (disch := omega) only [← nI_0, nI_leI, nI_ltI, nI_eq, not_true_eq_false, not_false_eq_true] at h12; omega)
              | contradiction
              | exact absurd h12 (Int32.not_lt.mpr (by assumption))
              | exact absurd h12 (Int32.not_le.mpr (by assumption))
              | exact absurd h12 (by decide)
              | exact absurd (by decide) h12
              | ( try simp (disch := omega) only [← nI_0, nI_leI, nI_ltI, nI_eq, not_true_eq_false, not_false_eq_true] at h12
                  (try have h12b := zbit_n0.mp h12); (try have h12b := zbit_p0.mp h12)
                  refine z_iconst (a := nI 0) d_Tf_noPerson_19 (by decide) ?_
                  refine z_retz d_Tf_noPerson_20 (by first | exact zb0 | exact zb1 | assumption) ?_
                  exact ⟨Or.inl ⟨h2, rfl⟩, rfl⟩)
            · first
              | (simp (disch := omega) only [← nI_0, nI_leI, nI_ltI, nI_eq, not_true_eq_false, not_false_eq_true] at h12; done)
              | (simp (disch := omega) only [← nI_0, nI_leI, nI_ltI, nI_eq, not_true_eq_false, not_false_eq_true] at h12; omega)
              | contradiction
              | exact absurd h12 (Int32.not_lt.mpr (by assumption))
              | exact absurd h12 (Int32.not_le.mpr (by assumption))
              | exact absurd h12 (by decide)
              | exact absurd (by decide) h12
              | ( try simp (disch := omega) only [← nI_0, nI_leI, nI_ltI, nI_eq, not_true_eq_false, not_false_eq_true] at h12
                  (try have h12b := zbit_n0.mp h12); (try have h12b := zbit_p0.mp h12)
                  refine z_iconst (a := nI 1) d_Tf_noPerson_15 (by decide) ?_
                  refine z_goto (tgt := 20) d_Tf_noPerson_16 (by decide) ?_
                  refine z_retz d_Tf_noPerson_20 (by first | exact zb0 | exact zb1 | assumption) ?_
                  exact ⟨Or.inl ⟨h2, rfl⟩, rfl⟩))
  · refine zEi_of (lv := [some (.ref 0), some (.int (nI j))]) (by decide) rfl (Nat.le_of_ble_eq_true rfl) ?_
    refine z_iload_1 d_Tf_noPerson_0 ?_
    refine z_if_lt (tgt := 15) d_Tf_noPerson_1 (by decide) (fun h1 => ?_) (fun h1 => ?_)
    · first
      | (simp (disch := omega) only [← nI_0, nI_leI, nI_ltI, nI_eq, not_true_eq_false, not_false_eq_true] at h1; done)
      | (simp (disch := omega) only [← nI_0, nI_leI, nI_ltI, nI_eq, not_true_eq_false, not_false_eq_true] at h1; omega)
      | contradiction
      | exact absurd h1 (Int32.not_lt.mpr (by assumption))
      | exact absurd h1 (Int32.not_le.mpr (by assumption))
      | exact absurd h1 (by decide)
      | exact absurd (by decide) h1
      | ( try simp (disch := omega) only [← nI_0, nI_leI, nI_ltI, nI_eq, not_true_eq_false, not_false_eq_true] at h1
          (try have h1b := zbit_n0.mp h1); (try have h1b := zbit_p0.mp h1)
          refine z_iconst (a := nI 1) d_Tf_noPerson_15 (by decide) ?_
          refine z_goto (tgt := 20) d_Tf_noPerson_16 (by decide) ?_
          refine z_retz d_Tf_noPerson_20 (by first | exact zb0 | exact zb1 | assumption) ?_
          exact ⟨Or.inr ⟨⟨j, hj, rfl⟩, rfl⟩, rfl⟩)
    · first
      | (simp (disch := omega) only [← nI_0, nI_leI, nI_ltI, nI_eq, not_true_eq_false, not_false_eq_true] at h1; done)
      | (simp (disch := omega) only [← nI_0, nI_leI, nI_ltI, nI_eq, not_true_eq_false, not_false_eq_true] at h1; omega)
      | contradiction
      | exact absurd h1 (Int32.not_lt.mpr (by assumption))
      | exact absurd h1 (Int32.not_le.mpr (by assumption))
      | exact absurd h1 (by decide)
      | exact absurd (by decide) h1
      | ( try simp (disch := omega) only [← nI_0, nI_leI, nI_ltI, nI_eq, not_true_eq_false, not_false_eq_true] at h1
          (try have h1b := zbit_n0.mp h1); (try have h1b := zbit_p0.mp h1)
          refine z_iload_1 d_Tf_noPerson_4 ?_
          refine z_aload_0 d_Tf_noPerson_5 ?_
          refine z_getR d_Tf_noPerson_6 f_Tf_60 (by first | assumption | exact zS0_at (by assumption) (by omega) | exact zS0_at rfl (by omega)) (by first | assumption | exact zS0_at (by assumption) (by omega) | exact zS0_at rfl (by omega)) ?_
          refine z_getIv d_Tf_noPerson_9 f_Tf_202 (by first | assumption | exact zS0_at (by assumption) (by omega) | exact zS0_at rfl (by omega)) (by first | assumption | ((try simp (disch := omega) only [zu_same, zu_ne, zcp_ne, zfl_ne]); first | assumption | rfl)) ?_
          refine z_icmp_lt (tgt := 19) d_Tf_noPerson_12 (by decide) (fun h12 => ?_) (fun h12 => ?_)
          · first
            | (simp (disch := omega) only [← nI_0, nI_leI, nI_ltI, nI_eq, not_true_eq_false, not_false_eq_true] at h12; done)
            | (simp (disch := omega) only [← nI_0, nI_leI, nI_ltI, nI_eq, not_true_eq_false, not_false_eq_true] at h12; omega)
            | contradiction
            | exact absurd h12 (Int32.not_lt.mpr (by assumption))
            | exact absurd h12 (Int32.not_le.mpr (by assumption))
            | exact absurd h12 (by decide)
            | exact absurd (by decide) h12
            | ( try simp (disch := omega) only [← nI_0, nI_leI, nI_ltI, nI_eq, not_true_eq_false, not_false_eq_true] at h12
                (try have h12b := zbit_n0.mp h12); (try have h12b := zbit_p0.mp h12)
                refine z_iconst (a := nI 0) d_Tf_noPerson_19 (by decide) ?_
                refine z_retz d_Tf_noPerson_20 (by first | exact zb0 | exact zb1 | assumption) ?_
                exact ⟨Or.inr ⟨⟨j, hj, rfl⟩, rfl⟩, rfl⟩)
          · first
            | (simp (disch := omega) only [← nI_0, nI_leI, nI_ltI, nI_eq, not_true_eq_false, not_false_eq_true] at h12; done)
            | (simp (disch := omega) only [← nI_0, nI_leI, nI_ltI, nI_eq, not_true_eq_false, not_false_eq_true] at h12; omega)
            | contradiction
            | exact absurd h12 (Int32.not_lt.mpr (by assumption))
            | exact absurd h12 (Int32.not_le.mpr (by assumption))
            | exact absurd h12 (by decide)
            | exact absurd (by decide) h12
            | ( try simp (disch := omega) only [← nI_0, nI_leI, nI_ltI, nI_eq, not_true_eq_false, not_false_eq_true] at h12
                (try have h12b := zbit_n0.mp h12); (try have h12b := zbit_p0.mp h12)
                refine z_iconst (a := nI 1) d_Tf_noPerson_15 (by decide) ?_
                refine z_goto (tgt := 20) d_Tf_noPerson_16 (by decide) ?_
                refine z_retz d_Tf_noPerson_20 (by first | exact zb0 | exact zb1 | assumption) ?_
                exact ⟨Or.inr ⟨⟨j, hj, rfl⟩, rfl⟩, rfl⟩))
theorem t_Tf_noTin (Z : clOk f d P S) (N : fenIn I f nt np nl nn) : zEi G y_Tf_noTin prog_1_method_60_code 2 (some .boolean) 1 [.ref 0, .int a] (I, J, P, S) (fun r w => (¬ zin a nn ∧ r = nI 1 ∨ zin a nn ∧ r = nI 0) ∧ w = (I, J, P, S)) := by
  obtain ⟨⟨c0, c3, c1s⟩, ⟨c5, c2s, ctr⟩, ⟨c6, c11s, c11, c13s⟩, ⟨c7, c15s, c15⟩, ⟨c8, c16s, c16a, c16b, c17s⟩, ⟨c9, c10, cfd, F, Fd⟩, ⟨c11b, Ft⟩, ⟨c12, c69s, cmk⟩, ⟨c14, c121s, c121, c122s⟩, ⟨c15b, c123s, c123, c124s⟩, ⟨c16, c125s, c125, c126s⟩, ⟨c17, c127s, c127, c128s, ctb⟩, ⟨c18, c139s, c139, c140s⟩, ⟨c19, c141s, ⟨c141a, c142s⟩, ⟨c141b, c143s⟩, ⟨c141c, c144s⟩⟩, M⟩ := id Z
  obtain ⟨F0, ⟨F8, F8s⟩, ⟨F9, F9s⟩, ⟨F10, F10s⟩, ⟨F11, F11s⟩, ⟨F12, F12s⟩, ⟨F13, F13s⟩, ⟨F14, F14s⟩, ⟨F15, F15s⟩, ⟨F16, F16s⟩, ⟨F17, F17s⟩, ⟨F18, F18s⟩, ⟨F19, F19s⟩, ⟨Y3, Y3s⟩, ⟨Y4, Y4s⟩, ⟨Y5, Y5s⟩, ⟨Y6, Y6s⟩⟩ := id F
  obtain ⟨⟨n1, n1b⟩, ⟨n2, n2b⟩, ⟨n3, n3b⟩, ⟨n4, n4b⟩, nof, non⟩ := id N
  rcases zin_or a nn (by omega) with ⟨h, h2⟩ | ⟨j, hj, rfl⟩
  · refine zEi_of (lv := [some (.ref 0), some (.int a)]) (by decide) rfl (Nat.le_of_ble_eq_true rfl) ?_
    rcases h with h | h
    · refine z_iload_1 d_Tf_noTin_0 ?_
      refine z_if_lt (tgt := 15) d_Tf_noTin_1 (by decide) (fun h1 => ?_) (fun h1 => ?_)
      · first
        | (simp (disch := omega) only [← nI_0, nI_leI, nI_ltI, nI_eq, not_true_eq_false, not_false_eq_true] at h1; done)
        | (simp (disch := omega) only [← nI_0, nI_leI, nI_ltI, nI_eq, not_true_eq_false, not_false_eq_true] at h1; omega)
        | contradiction
        | exact absurd h1 (Int32.not_lt.mpr (by assumption))
        | exact absurd h1 (Int32.not_le.mpr (by assumption))
        | exact absurd h1 (by decide)
        | exact absurd (by decide) h1
        | ( try simp (disch := omega) only [← nI_0, nI_leI, nI_ltI, nI_eq, not_true_eq_false, not_false_eq_true] at h1
            (try have h1b := zbit_n0.mp h1); (try have h1b := zbit_p0.mp h1)
            refine z_iconst (a := nI 1) d_Tf_noTin_15 (by decide) ?_
            refine z_goto (tgt := 20) d_Tf_noTin_16 (by decide) ?_
            refine z_retz d_Tf_noTin_20 (by first | exact zb0 | exact zb1 | assumption) ?_
            exact ⟨Or.inl ⟨h2, rfl⟩, rfl⟩)
      · first
        | (simp (disch := omega) only [← nI_0, nI_leI, nI_ltI, nI_eq, not_true_eq_false, not_false_eq_true] at h1; done)
        | (simp (disch := omega) only [← nI_0, nI_leI, nI_ltI, nI_eq, not_true_eq_false, not_false_eq_true] at h1; omega)
        | contradiction
        | exact absurd h1 (Int32.not_lt.mpr (by assumption))
        | exact absurd h1 (Int32.not_le.mpr (by assumption))
        | exact absurd h1 (by decide)
        | exact absurd (by decide) h1
        | ( try simp (disch := omega) only [← nI_0, nI_leI, nI_ltI, nI_eq, not_true_eq_false, not_false_eq_true] at h1
            (try have h1b := zbit_n0.mp h1); (try have h1b := zbit_p0.mp h1)
            refine z_iload_1 d_Tf_noTin_4 ?_
            refine z_aload_0 d_Tf_noTin_5 ?_
            refine z_getR d_Tf_noTin_6 f_Tf_60 (by first | assumption | exact zS0_at (by assumption) (by omega) | exact zS0_at rfl (by omega)) (by first | assumption | exact zS0_at (by assumption) (by omega) | exact zS0_at rfl (by omega)) ?_
            refine z_getIv d_Tf_noTin_9 f_Tf_171 (by first | assumption | exact zS0_at (by assumption) (by omega) | exact zS0_at rfl (by omega)) (by first | assumption | ((try simp (disch := omega) only [zu_same, zu_ne, zcp_ne, zfl_ne]); first | assumption | rfl)) ?_
            refine z_icmp_lt (tgt := 19) d_Tf_noTin_12 (by decide) (fun h12 => ?_) (fun h12 => ?_)
            · first
              | (simp (disch := omega) only [← nI_0, nI_leI, nI_ltI, nI_eq, not_true_eq_false, not_false_eq_true] at h12; done)
              | (simp (disch := omega) only [← nI_0, nI_leI, nI_ltI, nI_eq, not_true_eq_false, not_false_eq_true] at h12; omega)
              | contradiction
              | exact absurd h12 (Int32.not_lt.mpr (by assumption))
              | exact absurd h12 (Int32.not_le.mpr (by assumption))
              | exact absurd h12 (by decide)
              | exact absurd (by decide) h12
              | ( try simp (disch := omega) only [← nI_0, nI_leI, nI_ltI, nI_eq, not_true_eq_false, not_false_eq_true] at h12
                  (try have h12b := zbit_n0.mp h12); (try have h12b := zbit_p0.mp h12)
                  refine z_iconst (a := nI 0) d_Tf_noTin_19 (by decide) ?_
                  refine z_retz d_Tf_noTin_20 (by first | exact zb0 | exact zb1 | assumption) ?_
                  exact ⟨Or.inl ⟨h2, rfl⟩, rfl⟩)
            · first
              | (simp (disch := omega) only [← nI_0, nI_leI, nI_ltI, nI_eq, not_true_eq_false, not_false_eq_true] at h12; done)
              | (simp (disch := omega) only [← nI_0, nI_leI, nI_ltI, nI_eq, not_true_eq_false, not_false_eq_true] at h12; omega)
              | contradiction
              | exact absurd h12 (Int32.not_lt.mpr (by assumption))
              | exact absurd h12 (Int32.not_le.mpr (by assumption))
              | exact absurd h12 (by decide)
              | exact absurd (by decide) h12
              | ( try simp (disch := omega) only [← nI_0, nI_leI, nI_ltI, nI_eq, not_true_eq_false, not_false_eq_true] at h12
                  (try have h12b := zbit_n0.mp h12); (try have h12b := zbit_p0.mp h12)
                  refine z_iconst (a := nI 1) d_Tf_noTin_15 (by decide) ?_
                  refine z_goto (tgt := 20) d_Tf_noTin_16 (by decide) ?_
                  refine z_retz d_Tf_noTin_20 (by first | exact zb0 | exact zb1 | assumption) ?_
                  exact ⟨Or.inl ⟨h2, rfl⟩, rfl⟩))
    · refine z_iload_1 d_Tf_noTin_0 ?_
      refine z_if_lt (tgt := 15) d_Tf_noTin_1 (by decide) (fun h1 => ?_) (fun h1 => ?_)
      · first
        | (simp (disch := omega) only [← nI_0, nI_leI, nI_ltI, nI_eq, not_true_eq_false, not_false_eq_true] at h1; done)
        | (simp (disch := omega) only [← nI_0, nI_leI, nI_ltI, nI_eq, not_true_eq_false, not_false_eq_true] at h1; omega)
        | contradiction
        | exact absurd h1 (Int32.not_lt.mpr (by assumption))
        | exact absurd h1 (Int32.not_le.mpr (by assumption))
        | exact absurd h1 (by decide)
        | exact absurd (by decide) h1
        | ( try simp (disch := omega) only [← nI_0, nI_leI, nI_ltI, nI_eq, not_true_eq_false, not_false_eq_true] at h1
            (try have h1b := zbit_n0.mp h1); (try have h1b := zbit_p0.mp h1)
            refine z_iconst (a := nI 1) d_Tf_noTin_15 (by decide) ?_
            refine z_goto (tgt := 20) d_Tf_noTin_16 (by decide) ?_
            refine z_retz d_Tf_noTin_20 (by first | exact zb0 | exact zb1 | assumption) ?_
            exact ⟨Or.inl ⟨h2, rfl⟩, rfl⟩)
      · first
        | (simp (disch := omega) only [← nI_0, nI_leI, nI_ltI, nI_eq, not_true_eq_false, not_false_eq_true] at h1; done)
        | (simp (disch := omega) only [← nI_0, nI_leI, nI_ltI, nI_eq, not_true_eq_false, not_false_eq_true] at h1; omega)
        | contradiction
        | exact absurd h1 (Int32.not_lt.mpr (by assumption))
        | exact absurd h1 (Int32.not_le.mpr (by assumption))
        | exact absurd h1 (by decide)
        | exact absurd (by decide) h1
        | ( try simp (disch := omega) only [← nI_0, nI_leI, nI_ltI, nI_eq, not_true_eq_false, not_false_eq_true] at h1
            (try have h1b := zbit_n0.mp h1); (try have h1b := zbit_p0.mp h1)
            refine z_iload_1 d_Tf_noTin_4 ?_
            refine z_aload_0 d_Tf_noTin_5 ?_
            refine z_getR d_Tf_noTin_6 f_Tf_60 (by first | assumption | exact zS0_at (by assumption) (by omega) | exact zS0_at rfl (by omega)) (by first | assumption | exact zS0_at (by assumption) (by omega) | exact zS0_at rfl (by omega)) ?_
            refine z_getIv d_Tf_noTin_9 f_Tf_171 (by first | assumption | exact zS0_at (by assumption) (by omega) | exact zS0_at rfl (by omega)) (by first | assumption | ((try simp (disch := omega) only [zu_same, zu_ne, zcp_ne, zfl_ne]); first | assumption | rfl)) ?_
            refine z_icmp_lt (tgt := 19) d_Tf_noTin_12 (by decide) (fun h12 => ?_) (fun h12 => ?_)
            · first
              | (simp (disch := omega) only [← nI_0, nI_leI, nI_ltI, nI_eq, not_true_eq_false, not_false_eq_true] at h12; done)
              | (simp (disch := omega) only [← nI_0, nI_leI, nI_ltI, nI_eq, not_true_eq_false, not_false_eq_true] at h12; omega)
              | contradiction
              | exact absurd h12 (Int32.not_lt.mpr (by assumption))
              | exact absurd h12 (Int32.not_le.mpr (by assumption))
              | exact absurd h12 (by decide)
              | exact absurd (by decide) h12
              | ( try simp (disch := omega) only [← nI_0, nI_leI, nI_ltI, nI_eq, not_true_eq_false, not_false_eq_true] at h12
                  (try have h12b := zbit_n0.mp h12); (try have h12b := zbit_p0.mp h12)
                  refine z_iconst (a := nI 0) d_Tf_noTin_19 (by decide) ?_
                  refine z_retz d_Tf_noTin_20 (by first | exact zb0 | exact zb1 | assumption) ?_
                  exact ⟨Or.inl ⟨h2, rfl⟩, rfl⟩)
            · first
              | (simp (disch := omega) only [← nI_0, nI_leI, nI_ltI, nI_eq, not_true_eq_false, not_false_eq_true] at h12; done)
              | (simp (disch := omega) only [← nI_0, nI_leI, nI_ltI, nI_eq, not_true_eq_false, not_false_eq_true] at h12; omega)
              | contradiction
              | exact absurd h12 (Int32.not_lt.mpr (by assumption))
              | exact absurd h12 (Int32.not_le.mpr (by assumption))
              | exact absurd h12 (by decide)
              | exact absurd (by decide) h12
              | ( try simp (disch := omega) only [← nI_0, nI_leI, nI_ltI, nI_eq, not_true_eq_false, not_false_eq_true] at h12
                  (try have h12b := zbit_n0.mp h12); (try have h12b := zbit_p0.mp h12)
                  refine z_iconst (a := nI 1) d_Tf_noTin_15 (by decide) ?_
                  refine z_goto (tgt := 20) d_Tf_noTin_16 (by decide) ?_
                  refine z_retz d_Tf_noTin_20 (by first | exact zb0 | exact zb1 | assumption) ?_
                  exact ⟨Or.inl ⟨h2, rfl⟩, rfl⟩))
  · refine zEi_of (lv := [some (.ref 0), some (.int (nI j))]) (by decide) rfl (Nat.le_of_ble_eq_true rfl) ?_
    refine z_iload_1 d_Tf_noTin_0 ?_
    refine z_if_lt (tgt := 15) d_Tf_noTin_1 (by decide) (fun h1 => ?_) (fun h1 => ?_)
    · first
      | (simp (disch := omega) only [← nI_0, nI_leI, nI_ltI, nI_eq, not_true_eq_false, not_false_eq_true] at h1; done)
      | (simp (disch := omega) only [← nI_0, nI_leI, nI_ltI, nI_eq, not_true_eq_false, not_false_eq_true] at h1; omega)
      | contradiction
      | exact absurd h1 (Int32.not_lt.mpr (by assumption))
      | exact absurd h1 (Int32.not_le.mpr (by assumption))
      | exact absurd h1 (by decide)
      | exact absurd (by decide) h1
      | ( try simp (disch := omega) only [← nI_0, nI_leI, nI_ltI, nI_eq, not_true_eq_false, not_false_eq_true] at h1
          (try have h1b := zbit_n0.mp h1); (try have h1b := zbit_p0.mp h1)
          refine z_iconst (a := nI 1) d_Tf_noTin_15 (by decide) ?_
          refine z_goto (tgt := 20) d_Tf_noTin_16 (by decide) ?_
          refine z_retz d_Tf_noTin_20 (by first | exact zb0 | exact zb1 | assumption) ?_
          exact ⟨Or.inr ⟨⟨j, hj, rfl⟩, rfl⟩, rfl⟩)
    · first
      | (simp (disch := omega) only [← nI_0, nI_leI, nI_ltI, nI_eq, not_true_eq_false, not_false_eq_true] at h1; done)
      | (simp (disch := omega) only [← nI_0, nI_leI, nI_ltI, nI_eq, not_true_eq_false, not_false_eq_true] at h1; omega)
      | contradiction
      | exact absurd h1 (Int32.not_lt.mpr (by assumption))
      | exact absurd h1 (Int32.not_le.mpr (by assumption))
      | exact absurd h1 (by decide)
      | exact absurd (by decide) h1
      | ( try simp (disch := omega) only [← nI_0, nI_leI, nI_ltI, nI_eq, not_true_eq_false, not_false_eq_true] at h1
          (try have h1b := zbit_n0.mp h1); (try have h1b := zbit_p0.mp h1)
          refine z_iload_1 d_Tf_noTin_4 ?_
          refine z_aload_0 d_Tf_noTin_5 ?_
          refine z_getR d_Tf_noTin_6 f_Tf_60 (by first | assumption | exact zS0_at (by assumption) (by omega) | exact zS0_at rfl (by omega)) (by first | assumption | exact zS0_at (by assumption) (by omega) | exact zS0_at rfl (by omega)) ?_
          refine z_getIv d_Tf_noTin_9 f_Tf_171 (by first | assumption | exact zS0_at (by assumption) (by omega) | exact zS0_at rfl (by omega)) (by first | assumption | ((try simp (disch := omega) only [zu_same, zu_ne, zcp_ne, zfl_ne]); first | assumption | rfl)) ?_
          refine z_icmp_lt (tgt := 19) d_Tf_noTin_12 (by decide) (fun h12 => ?_) (fun h12 => ?_)
          · first
            | (simp (disch := omega) only [← nI_0, nI_leI, nI_ltI, nI_eq, not_true_eq_false, not_false_eq_true] at h12; done)
            | (simp (disch := omega) only [← nI_0, nI_leI, nI_ltI, nI_eq, not_true_eq_false, not_false_eq_true] at h12; omega)
            | contradiction
            | exact absurd h12 (Int32.not_lt.mpr (by assumption))
            | exact absurd h12 (Int32.not_le.mpr (by assumption))
            | exact absurd h12 (by decide)
            | exact absurd (by decide) h12
            | ( try simp (disch := omega) only [← nI_0, nI_leI, nI_ltI, nI_eq, not_true_eq_false, not_false_eq_true] at h12
                (try have h12b := zbit_n0.mp h12); (try have h12b := zbit_p0.mp h12)
                refine z_iconst (a := nI 0) d_Tf_noTin_19 (by decide) ?_
                refine z_retz d_Tf_noTin_20 (by first | exact zb0 | exact zb1 | assumption) ?_
                exact ⟨Or.inr ⟨⟨j, hj, rfl⟩, rfl⟩, rfl⟩)
          · first
            | (simp (disch := omega) only [← nI_0, nI_leI, nI_ltI, nI_eq, not_true_eq_false, not_false_eq_true] at h12; done)
            | (simp (disch := omega) only [← nI_0, nI_leI, nI_ltI, nI_eq, not_true_eq_false, not_false_eq_true] at h12; omega)
            | contradiction
            | exact absurd h12 (Int32.not_lt.mpr (by assumption))
            | exact absurd h12 (Int32.not_le.mpr (by assumption))
            | exact absurd h12 (by decide)
            | exact absurd (by decide) h12
            | ( try simp (disch := omega) only [← nI_0, nI_leI, nI_ltI, nI_eq, not_true_eq_false, not_false_eq_true] at h12
                (try have h12b := zbit_n0.mp h12); (try have h12b := zbit_p0.mp h12)
                refine z_iconst (a := nI 1) d_Tf_noTin_15 (by decide) ?_
                refine z_goto (tgt := 20) d_Tf_noTin_16 (by decide) ?_
                refine z_retz d_Tf_noTin_20 (by first | exact zb0 | exact zb1 | assumption) ?_
                exact ⟨Or.inr ⟨⟨j, hj, rfl⟩, rfl⟩, rfl⟩))
theorem t_Tf_noTray : zEi G y_Tf_noTray prog_1_method_57_code 1 (some .boolean) 1 [.int a] (I, J, P, S) (fun r w => (¬ zin a 4 ∧ r = nI 1 ∨ zin a 4 ∧ r = nI 0) ∧ w = (I, J, P, S)) := by
  rcases zin_or a 4 (by omega) with ⟨h, h2⟩ | ⟨j, hj, rfl⟩
  · exact zEi_mono (t_Tf_noTray_out h) (fun r w q => ⟨Or.inl ⟨h2, q.1⟩, q.2⟩)
  · exact zEi_mono (t_Tf_noTray_in hj) (fun r w q => ⟨Or.inr ⟨⟨j, hj, rfl⟩, q.1⟩, q.2⟩)
theorem t_Tf_tinStatus_o (Z : clOk f d P S) (N : fenIn I f nt np nl nn) (h : ¬ zin a nn) : zEi G y_Tf_tinStatus prog_1_method_63_code 2 (some .int) 2 [.ref 0, .int a] (I, J, P, S) (fun r w => r = nI 2 ∧ w = (I, J, P, S)) := by
  obtain ⟨⟨c0, c3, c1s⟩, ⟨c5, c2s, ctr⟩, ⟨c6, c11s, c11, c13s⟩, ⟨c7, c15s, c15⟩, ⟨c8, c16s, c16a, c16b, c17s⟩, ⟨c9, c10, cfd, F, Fd⟩, ⟨c11b, Ft⟩, ⟨c12, c69s, cmk⟩, ⟨c14, c121s, c121, c122s⟩, ⟨c15b, c123s, c123, c124s⟩, ⟨c16, c125s, c125, c126s⟩, ⟨c17, c127s, c127, c128s, ctb⟩, ⟨c18, c139s, c139, c140s⟩, ⟨c19, c141s, ⟨c141a, c142s⟩, ⟨c141b, c143s⟩, ⟨c141c, c144s⟩⟩, M⟩ := id Z
  obtain ⟨F0, ⟨F8, F8s⟩, ⟨F9, F9s⟩, ⟨F10, F10s⟩, ⟨F11, F11s⟩, ⟨F12, F12s⟩, ⟨F13, F13s⟩, ⟨F14, F14s⟩, ⟨F15, F15s⟩, ⟨F16, F16s⟩, ⟨F17, F17s⟩, ⟨F18, F18s⟩, ⟨F19, F19s⟩, ⟨Y3, Y3s⟩, ⟨Y4, Y4s⟩, ⟨Y5, Y5s⟩, ⟨Y6, Y6s⟩⟩ := id F
  refine zEi_of (lv := [some (.ref 0), some (.int a)]) (by decide) rfl (Nat.le_of_ble_eq_true rfl) ?_
  refine z_aload_0 d_Tf_tinStatus_0 ?_
  refine z_iload_1 d_Tf_tinStatus_1 ?_
  refine z_Vi1 d_Tf_tinStatus_2 k_Tf_249 (by first | assumption | exact zS0_at (by assumption) (by omega) | exact zS0_at rfl (by omega)) (t_Tf_noTin Z N) ⟨Nat.le_of_ble_eq_true rfl, Nat.le_of_ble_eq_true rfl, Nat.le_of_ble_eq_true rfl, Nat.le_of_ble_eq_true rfl⟩ (Nat.le_of_ble_eq_true rfl) ?_
  intro r w hq
  rcases hq with ⟨⟨hz2, rfl⟩ | ⟨hz2, rfl⟩, rfl⟩
  · first
    | contradiction
    | ( skip
        refine z_if_eq (tgt := 10) d_Tf_tinStatus_5 (by decide) (fun h => absurd h (by decide)) (fun _ => ?_)
        refine z_iconst (a := nI 2) d_Tf_tinStatus_8 (by decide) ?_
        refine z_reti d_Tf_tinStatus_9 ?_
        exact ⟨rfl, rfl⟩)
  · first
    | contradiction
    | ( skip
        refine z_if_eq (tgt := 10) d_Tf_tinStatus_5 (by decide) (fun _ => ?_) (fun h => absurd h (by decide))
        contradiction)
theorem t_Tf_tinStatus_g {t : Nat} (Z : clOk f d P S) (N : fenIn I f nt np nl nn) (ht : t < nn) (hg : I (f + 6) t = -1) : zEi G y_Tf_tinStatus prog_1_method_63_code 2 (some .int) 2 [.ref 0, .int (nI t)] (I, J, P, S) (fun r w => r = nI 9 ∧ w = (I, J, P, S)) := by
  obtain ⟨⟨c0, c3, c1s⟩, ⟨c5, c2s, ctr⟩, ⟨c6, c11s, c11, c13s⟩, ⟨c7, c15s, c15⟩, ⟨c8, c16s, c16a, c16b, c17s⟩, ⟨c9, c10, cfd, F, Fd⟩, ⟨c11b, Ft⟩, ⟨c12, c69s, cmk⟩, ⟨c14, c121s, c121, c122s⟩, ⟨c15b, c123s, c123, c124s⟩, ⟨c16, c125s, c125, c126s⟩, ⟨c17, c127s, c127, c128s, ctb⟩, ⟨c18, c139s, c139, c140s⟩, ⟨c19, c141s, ⟨c141a, c142s⟩, ⟨c141b, c143s⟩, ⟨c141c, c144s⟩⟩, M⟩ := id Z
  obtain ⟨F0, ⟨F8, F8s⟩, ⟨F9, F9s⟩, ⟨F10, F10s⟩, ⟨F11, F11s⟩, ⟨F12, F12s⟩, ⟨F13, F13s⟩, ⟨F14, F14s⟩, ⟨F15, F15s⟩, ⟨F16, F16s⟩, ⟨F17, F17s⟩, ⟨F18, F18s⟩, ⟨F19, F19s⟩, ⟨Y3, Y3s⟩, ⟨Y4, Y4s⟩, ⟨Y5, Y5s⟩, ⟨Y6, Y6s⟩⟩ := id F
  obtain ⟨⟨n1, n1b⟩, ⟨n2, n2b⟩, ⟨n3, n3b⟩, ⟨n4, n4b⟩, nof, non⟩ := id N
  have hz : zin (nI t) nn := ⟨t, ht, rfl⟩
  have hg2 : I (f + 6) t < 0 := by rw [hg]; decide
  refine zEi_of (lv := [some (.ref 0), some (.int (nI t))]) (by decide) rfl (Nat.le_of_ble_eq_true rfl) ?_
  refine z_aload_0 d_Tf_tinStatus_0 ?_
  refine z_iload_1 d_Tf_tinStatus_1 ?_
  refine z_Vi1 d_Tf_tinStatus_2 k_Tf_249 (by first | assumption | exact zS0_at (by assumption) (by omega) | exact zS0_at rfl (by omega)) (t_Tf_noTin Z N) ⟨Nat.le_of_ble_eq_true rfl, Nat.le_of_ble_eq_true rfl, Nat.le_of_ble_eq_true rfl, Nat.le_of_ble_eq_true rfl⟩ (Nat.le_of_ble_eq_true rfl) ?_
  intro r w hq
  rcases hq with ⟨⟨hz2, rfl⟩ | ⟨hz2, rfl⟩, rfl⟩
  · first
    | contradiction
    | ( skip
        refine z_if_eq (tgt := 10) d_Tf_tinStatus_5 (by decide) (fun h => absurd h (by decide)) (fun _ => ?_)
        refine z_iconst (a := nI 2) d_Tf_tinStatus_8 (by decide) ?_
        refine z_reti d_Tf_tinStatus_9 ?_
        exact ⟨rfl, rfl⟩)
  · first
    | contradiction
    | ( skip
        refine z_if_eq (tgt := 10) d_Tf_tinStatus_5 (by decide) (fun _ => ?_) (fun h => absurd h (by decide))
        refine z_aload_0 d_Tf_tinStatus_10 ?_
        refine z_getR d_Tf_tinStatus_11 f_Tf_60 (by first | assumption | exact zS0_at (by assumption) (by omega) | exact zS0_at rfl (by omega)) (by first | assumption | exact zS0_at (by assumption) (by omega) | exact zS0_at rfl (by omega)) ?_
        refine z_iload_1 d_Tf_tinStatus_14 ?_
        refine z_Vi1 d_Tf_tinStatus_15 k_Tf_255 (by first | assumption | exact zS0_at (by assumption) (by omega) | exact zS0_at rfl (by omega)) (t_Fen_isGone (by assumption) (by omega)) ⟨Nat.le_of_ble_eq_true rfl, Nat.le_of_ble_eq_true rfl, Nat.le_of_ble_eq_true rfl, Nat.le_of_ble_eq_true rfl⟩ (Nat.le_of_ble_eq_true rfl) ?_
        intro r w hq
        rcases hq with ⟨⟨hz15, rfl⟩ | ⟨hz15, rfl⟩, rfl⟩
        · first
          | contradiction
          | ( skip
              refine z_if_eq (tgt := 26) d_Tf_tinStatus_18 (by decide) (fun h => absurd h (by decide)) (fun _ => ?_)
              refine z_bipush (a := nI 9) d_Tf_tinStatus_21 (by decide) ?_
              refine z_goto (tgt := 27) d_Tf_tinStatus_23 (by decide) ?_
              refine z_reti d_Tf_tinStatus_27 ?_
              exact ⟨rfl, rfl⟩)
        · first
          | contradiction
          | ( skip
              refine z_if_eq (tgt := 26) d_Tf_tinStatus_18 (by decide) (fun _ => ?_) (fun h => absurd h (by decide))
              refine z_iconst (a := nI 0) d_Tf_tinStatus_26 (by decide) ?_
              refine z_reti d_Tf_tinStatus_27 ?_
              exact ⟨rfl, rfl⟩))
theorem t_Tf_tinStatus_p {t p : Nat} (Z : clOk f d P S) (N : fenIn I f nt np nl nn) (ht : t < nn) (hp : I (f + 6) t = nI p) (hp2 : p < np) : zEi G y_Tf_tinStatus prog_1_method_63_code 2 (some .int) 2 [.ref 0, .int (nI t)] (I, J, P, S) (fun r w => r = nI 0 ∧ w = (I, J, P, S)) := by
  obtain ⟨⟨c0, c3, c1s⟩, ⟨c5, c2s, ctr⟩, ⟨c6, c11s, c11, c13s⟩, ⟨c7, c15s, c15⟩, ⟨c8, c16s, c16a, c16b, c17s⟩, ⟨c9, c10, cfd, F, Fd⟩, ⟨c11b, Ft⟩, ⟨c12, c69s, cmk⟩, ⟨c14, c121s, c121, c122s⟩, ⟨c15b, c123s, c123, c124s⟩, ⟨c16, c125s, c125, c126s⟩, ⟨c17, c127s, c127, c128s, ctb⟩, ⟨c18, c139s, c139, c140s⟩, ⟨c19, c141s, ⟨c141a, c142s⟩, ⟨c141b, c143s⟩, ⟨c141c, c144s⟩⟩, M⟩ := id Z
  obtain ⟨F0, ⟨F8, F8s⟩, ⟨F9, F9s⟩, ⟨F10, F10s⟩, ⟨F11, F11s⟩, ⟨F12, F12s⟩, ⟨F13, F13s⟩, ⟨F14, F14s⟩, ⟨F15, F15s⟩, ⟨F16, F16s⟩, ⟨F17, F17s⟩, ⟨F18, F18s⟩, ⟨F19, F19s⟩, ⟨Y3, Y3s⟩, ⟨Y4, Y4s⟩, ⟨Y5, Y5s⟩, ⟨Y6, Y6s⟩⟩ := id F
  obtain ⟨⟨n1, n1b⟩, ⟨n2, n2b⟩, ⟨n3, n3b⟩, ⟨n4, n4b⟩, nof, non⟩ := id N
  have hz : zin (nI t) nn := ⟨t, ht, rfl⟩
  have hg2 : ¬ I (f + 6) t < 0 := by rw [hp]; exact nI_pos (by omega)
  refine zEi_of (lv := [some (.ref 0), some (.int (nI t))]) (by decide) rfl (Nat.le_of_ble_eq_true rfl) ?_
  refine z_aload_0 d_Tf_tinStatus_0 ?_
  refine z_iload_1 d_Tf_tinStatus_1 ?_
  refine z_Vi1 d_Tf_tinStatus_2 k_Tf_249 (by first | assumption | exact zS0_at (by assumption) (by omega) | exact zS0_at rfl (by omega)) (t_Tf_noTin Z N) ⟨Nat.le_of_ble_eq_true rfl, Nat.le_of_ble_eq_true rfl, Nat.le_of_ble_eq_true rfl, Nat.le_of_ble_eq_true rfl⟩ (Nat.le_of_ble_eq_true rfl) ?_
  intro r w hq
  rcases hq with ⟨⟨hz2, rfl⟩ | ⟨hz2, rfl⟩, rfl⟩
  · first
    | contradiction
    | ( skip
        refine z_if_eq (tgt := 10) d_Tf_tinStatus_5 (by decide) (fun h => absurd h (by decide)) (fun _ => ?_)
        refine z_iconst (a := nI 2) d_Tf_tinStatus_8 (by decide) ?_
        refine z_reti d_Tf_tinStatus_9 ?_
        exact ⟨rfl, rfl⟩)
  · first
    | contradiction
    | ( skip
        refine z_if_eq (tgt := 10) d_Tf_tinStatus_5 (by decide) (fun _ => ?_) (fun h => absurd h (by decide))
        refine z_aload_0 d_Tf_tinStatus_10 ?_
        refine z_getR d_Tf_tinStatus_11 f_Tf_60 (by first | assumption | exact zS0_at (by assumption) (by omega) | exact zS0_at rfl (by omega)) (by first | assumption | exact zS0_at (by assumption) (by omega) | exact zS0_at rfl (by omega)) ?_
        refine z_iload_1 d_Tf_tinStatus_14 ?_
        refine z_Vi1 d_Tf_tinStatus_15 k_Tf_255 (by first | assumption | exact zS0_at (by assumption) (by omega) | exact zS0_at rfl (by omega)) (t_Fen_isGone (by assumption) (by omega)) ⟨Nat.le_of_ble_eq_true rfl, Nat.le_of_ble_eq_true rfl, Nat.le_of_ble_eq_true rfl, Nat.le_of_ble_eq_true rfl⟩ (Nat.le_of_ble_eq_true rfl) ?_
        intro r w hq
        rcases hq with ⟨⟨hz15, rfl⟩ | ⟨hz15, rfl⟩, rfl⟩
        · first
          | contradiction
          | ( skip
              refine z_if_eq (tgt := 26) d_Tf_tinStatus_18 (by decide) (fun h => absurd h (by decide)) (fun _ => ?_)
              refine z_bipush (a := nI 9) d_Tf_tinStatus_21 (by decide) ?_
              refine z_goto (tgt := 27) d_Tf_tinStatus_23 (by decide) ?_
              refine z_reti d_Tf_tinStatus_27 ?_
              exact ⟨rfl, rfl⟩)
        · first
          | contradiction
          | ( skip
              refine z_if_eq (tgt := 26) d_Tf_tinStatus_18 (by decide) (fun _ => ?_) (fun h => absurd h (by decide))
              refine z_iconst (a := nI 0) d_Tf_tinStatus_26 (by decide) ?_
              refine z_reti d_Tf_tinStatus_27 ?_
              exact ⟨rfl, rfl⟩))
theorem t_Tf_wayStatus_o (Z : clOk f d P S) (N : fenIn I f nt np nl nn) (h : ¬ zin a nn ∨ ¬ zin b np) : zEi G y_Tf_wayStatus prog_1_method_64_code 3 (some .int) 3 [.ref 0, .int a, .int b] (I, J, P, S) (fun r w => r = nI 2 ∧ w = (I, J, P, S)) := by
  obtain ⟨⟨c0, c3, c1s⟩, ⟨c5, c2s, ctr⟩, ⟨c6, c11s, c11, c13s⟩, ⟨c7, c15s, c15⟩, ⟨c8, c16s, c16a, c16b, c17s⟩, ⟨c9, c10, cfd, F, Fd⟩, ⟨c11b, Ft⟩, ⟨c12, c69s, cmk⟩, ⟨c14, c121s, c121, c122s⟩, ⟨c15b, c123s, c123, c124s⟩, ⟨c16, c125s, c125, c126s⟩, ⟨c17, c127s, c127, c128s, ctb⟩, ⟨c18, c139s, c139, c140s⟩, ⟨c19, c141s, ⟨c141a, c142s⟩, ⟨c141b, c143s⟩, ⟨c141c, c144s⟩⟩, M⟩ := id Z
  obtain ⟨F0, ⟨F8, F8s⟩, ⟨F9, F9s⟩, ⟨F10, F10s⟩, ⟨F11, F11s⟩, ⟨F12, F12s⟩, ⟨F13, F13s⟩, ⟨F14, F14s⟩, ⟨F15, F15s⟩, ⟨F16, F16s⟩, ⟨F17, F17s⟩, ⟨F18, F18s⟩, ⟨F19, F19s⟩, ⟨Y3, Y3s⟩, ⟨Y4, Y4s⟩, ⟨Y5, Y5s⟩, ⟨Y6, Y6s⟩⟩ := id F
  refine zEi_of (lv := [some (.ref 0), some (.int a), some (.int b)]) (by decide) rfl (Nat.le_of_ble_eq_true rfl) ?_
  by_cases hb : zin b np
  · have ha : ¬ zin a nn := by rcases h with h | h; exact h; exact absurd hb h
    refine z_aload_0 d_Tf_wayStatus_0 ?_
    refine z_iload_2 d_Tf_wayStatus_1 ?_
    refine z_Vi1 d_Tf_wayStatus_2 k_Tf_234 (by first | assumption | exact zS0_at (by assumption) (by omega) | exact zS0_at rfl (by omega)) (t_Tf_noPerson Z N) ⟨Nat.le_of_ble_eq_true rfl, Nat.le_of_ble_eq_true rfl, Nat.le_of_ble_eq_true rfl, Nat.le_of_ble_eq_true rfl⟩ (Nat.le_of_ble_eq_true rfl) ?_
    intro r w hq
    rcases hq with ⟨⟨hz2, rfl⟩ | ⟨hz2, rfl⟩, rfl⟩
    · first
      | contradiction
      | ( skip
          refine z_if_eq (tgt := 12) d_Tf_wayStatus_5 (by decide) (fun h => absurd h (by decide)) (fun _ => ?_)
          refine z_iconst (a := nI 2) d_Tf_wayStatus_8 (by decide) ?_
          refine z_goto (tgt := 17) d_Tf_wayStatus_9 (by decide) ?_
          refine z_reti d_Tf_wayStatus_17 ?_
          exact ⟨rfl, rfl⟩)
    · first
      | contradiction
      | ( skip
          refine z_if_eq (tgt := 12) d_Tf_wayStatus_5 (by decide) (fun _ => ?_) (fun h => absurd h (by decide))
          refine z_aload_0 d_Tf_wayStatus_12 ?_
          refine z_iload_1 d_Tf_wayStatus_13 ?_
          refine z_Vi1 d_Tf_wayStatus_14 k_Tf_276 (by first | assumption | exact zS0_at (by assumption) (by omega) | exact zS0_at rfl (by omega)) (t_Tf_tinStatus_o Z N ha) ⟨Nat.le_of_ble_eq_true rfl, Nat.le_of_ble_eq_true rfl, Nat.le_of_ble_eq_true rfl, Nat.le_of_ble_eq_true rfl⟩ (Nat.le_of_ble_eq_true rfl) ?_
          intro r w hq
          obtain ⟨rfl, rfl⟩ := hq
          refine z_reti d_Tf_wayStatus_17 ?_
          exact ⟨rfl, rfl⟩)
  · refine z_aload_0 d_Tf_wayStatus_0 ?_
    refine z_iload_2 d_Tf_wayStatus_1 ?_
    refine z_Vi1 d_Tf_wayStatus_2 k_Tf_234 (by first | assumption | exact zS0_at (by assumption) (by omega) | exact zS0_at rfl (by omega)) (t_Tf_noPerson Z N) ⟨Nat.le_of_ble_eq_true rfl, Nat.le_of_ble_eq_true rfl, Nat.le_of_ble_eq_true rfl, Nat.le_of_ble_eq_true rfl⟩ (Nat.le_of_ble_eq_true rfl) ?_
    intro r w hq
    rcases hq with ⟨⟨hz2, rfl⟩ | ⟨hz2, rfl⟩, rfl⟩
    · first
      | contradiction
      | ( skip
          refine z_if_eq (tgt := 12) d_Tf_wayStatus_5 (by decide) (fun h => absurd h (by decide)) (fun _ => ?_)
          refine z_iconst (a := nI 2) d_Tf_wayStatus_8 (by decide) ?_
          refine z_goto (tgt := 17) d_Tf_wayStatus_9 (by decide) ?_
          refine z_reti d_Tf_wayStatus_17 ?_
          exact ⟨rfl, rfl⟩)
    · first
      | contradiction
      | ( skip
          refine z_if_eq (tgt := 12) d_Tf_wayStatus_5 (by decide) (fun _ => ?_) (fun h => absurd h (by decide))
          contradiction)
theorem t_Tf_wayStatus_g {t q : Nat} (Z : clOk f d P S) (N : fenIn I f nt np nl nn) (ht : t < nn) (hg : I (f + 6) t = -1) (hq : q < np) : zEi G y_Tf_wayStatus prog_1_method_64_code 3 (some .int) 3 [.ref 0, .int (nI t), .int (nI q)] (I, J, P, S) (fun r w => r = nI 9 ∧ w = (I, J, P, S)) := by
  obtain ⟨⟨c0, c3, c1s⟩, ⟨c5, c2s, ctr⟩, ⟨c6, c11s, c11, c13s⟩, ⟨c7, c15s, c15⟩, ⟨c8, c16s, c16a, c16b, c17s⟩, ⟨c9, c10, cfd, F, Fd⟩, ⟨c11b, Ft⟩, ⟨c12, c69s, cmk⟩, ⟨c14, c121s, c121, c122s⟩, ⟨c15b, c123s, c123, c124s⟩, ⟨c16, c125s, c125, c126s⟩, ⟨c17, c127s, c127, c128s, ctb⟩, ⟨c18, c139s, c139, c140s⟩, ⟨c19, c141s, ⟨c141a, c142s⟩, ⟨c141b, c143s⟩, ⟨c141c, c144s⟩⟩, M⟩ := id Z
  obtain ⟨F0, ⟨F8, F8s⟩, ⟨F9, F9s⟩, ⟨F10, F10s⟩, ⟨F11, F11s⟩, ⟨F12, F12s⟩, ⟨F13, F13s⟩, ⟨F14, F14s⟩, ⟨F15, F15s⟩, ⟨F16, F16s⟩, ⟨F17, F17s⟩, ⟨F18, F18s⟩, ⟨F19, F19s⟩, ⟨Y3, Y3s⟩, ⟨Y4, Y4s⟩, ⟨Y5, Y5s⟩, ⟨Y6, Y6s⟩⟩ := id F
  have hz : zin (nI q) np := ⟨q, hq, rfl⟩
  refine zEi_of (lv := [some (.ref 0), some (.int (nI t)), some (.int (nI q))]) (by decide) rfl (Nat.le_of_ble_eq_true rfl) ?_
  refine z_aload_0 d_Tf_wayStatus_0 ?_
  refine z_iload_2 d_Tf_wayStatus_1 ?_
  refine z_Vi1 d_Tf_wayStatus_2 k_Tf_234 (by first | assumption | exact zS0_at (by assumption) (by omega) | exact zS0_at rfl (by omega)) (t_Tf_noPerson Z N) ⟨Nat.le_of_ble_eq_true rfl, Nat.le_of_ble_eq_true rfl, Nat.le_of_ble_eq_true rfl, Nat.le_of_ble_eq_true rfl⟩ (Nat.le_of_ble_eq_true rfl) ?_
  intro r w hq
  rcases hq with ⟨⟨hz2, rfl⟩ | ⟨hz2, rfl⟩, rfl⟩
  · first
    | contradiction
    | ( skip
        refine z_if_eq (tgt := 12) d_Tf_wayStatus_5 (by decide) (fun h => absurd h (by decide)) (fun _ => ?_)
        refine z_iconst (a := nI 2) d_Tf_wayStatus_8 (by decide) ?_
        refine z_goto (tgt := 17) d_Tf_wayStatus_9 (by decide) ?_
        refine z_reti d_Tf_wayStatus_17 ?_
        exact ⟨rfl, rfl⟩)
  · first
    | contradiction
    | ( skip
        refine z_if_eq (tgt := 12) d_Tf_wayStatus_5 (by decide) (fun _ => ?_) (fun h => absurd h (by decide))
        refine z_aload_0 d_Tf_wayStatus_12 ?_
        refine z_iload_1 d_Tf_wayStatus_13 ?_
        refine z_Vi1 d_Tf_wayStatus_14 k_Tf_276 (by first | assumption | exact zS0_at (by assumption) (by omega) | exact zS0_at rfl (by omega)) (t_Tf_tinStatus_g Z N ht hg) ⟨Nat.le_of_ble_eq_true rfl, Nat.le_of_ble_eq_true rfl, Nat.le_of_ble_eq_true rfl, Nat.le_of_ble_eq_true rfl⟩ (Nat.le_of_ble_eq_true rfl) ?_
        intro r w hq
        obtain ⟨rfl, rfl⟩ := hq
        refine z_reti d_Tf_wayStatus_17 ?_
        exact ⟨rfl, rfl⟩)
theorem t_Tf_wayStatus_p {t p q : Nat} (Z : clOk f d P S) (N : fenIn I f nt np nl nn) (ht : t < nn) (hp : I (f + 6) t = nI p) (hp2 : p < np) (hq : q < np) : zEi G y_Tf_wayStatus prog_1_method_64_code 3 (some .int) 3 [.ref 0, .int (nI t), .int (nI q)] (I, J, P, S) (fun r w => r = nI 0 ∧ w = (I, J, P, S)) := by
  obtain ⟨⟨c0, c3, c1s⟩, ⟨c5, c2s, ctr⟩, ⟨c6, c11s, c11, c13s⟩, ⟨c7, c15s, c15⟩, ⟨c8, c16s, c16a, c16b, c17s⟩, ⟨c9, c10, cfd, F, Fd⟩, ⟨c11b, Ft⟩, ⟨c12, c69s, cmk⟩, ⟨c14, c121s, c121, c122s⟩, ⟨c15b, c123s, c123, c124s⟩, ⟨c16, c125s, c125, c126s⟩, ⟨c17, c127s, c127, c128s, ctb⟩, ⟨c18, c139s, c139, c140s⟩, ⟨c19, c141s, ⟨c141a, c142s⟩, ⟨c141b, c143s⟩, ⟨c141c, c144s⟩⟩, M⟩ := id Z
  obtain ⟨F0, ⟨F8, F8s⟩, ⟨F9, F9s⟩, ⟨F10, F10s⟩, ⟨F11, F11s⟩, ⟨F12, F12s⟩, ⟨F13, F13s⟩, ⟨F14, F14s⟩, ⟨F15, F15s⟩, ⟨F16, F16s⟩, ⟨F17, F17s⟩, ⟨F18, F18s⟩, ⟨F19, F19s⟩, ⟨Y3, Y3s⟩, ⟨Y4, Y4s⟩, ⟨Y5, Y5s⟩, ⟨Y6, Y6s⟩⟩ := id F
  have hz : zin (nI q) np := ⟨q, hq, rfl⟩
  refine zEi_of (lv := [some (.ref 0), some (.int (nI t)), some (.int (nI q))]) (by decide) rfl (Nat.le_of_ble_eq_true rfl) ?_
  refine z_aload_0 d_Tf_wayStatus_0 ?_
  refine z_iload_2 d_Tf_wayStatus_1 ?_
  refine z_Vi1 d_Tf_wayStatus_2 k_Tf_234 (by first | assumption | exact zS0_at (by assumption) (by omega) | exact zS0_at rfl (by omega)) (t_Tf_noPerson Z N) ⟨Nat.le_of_ble_eq_true rfl, Nat.le_of_ble_eq_true rfl, Nat.le_of_ble_eq_true rfl, Nat.le_of_ble_eq_true rfl⟩ (Nat.le_of_ble_eq_true rfl) ?_
  intro r w hq
  rcases hq with ⟨⟨hz2, rfl⟩ | ⟨hz2, rfl⟩, rfl⟩
  · first
    | contradiction
    | ( skip
        refine z_if_eq (tgt := 12) d_Tf_wayStatus_5 (by decide) (fun h => absurd h (by decide)) (fun _ => ?_)
        refine z_iconst (a := nI 2) d_Tf_wayStatus_8 (by decide) ?_
        refine z_goto (tgt := 17) d_Tf_wayStatus_9 (by decide) ?_
        refine z_reti d_Tf_wayStatus_17 ?_
        exact ⟨rfl, rfl⟩)
  · first
    | contradiction
    | ( skip
        refine z_if_eq (tgt := 12) d_Tf_wayStatus_5 (by decide) (fun _ => ?_) (fun h => absurd h (by decide))
        refine z_aload_0 d_Tf_wayStatus_12 ?_
        refine z_iload_1 d_Tf_wayStatus_13 ?_
        refine z_Vi1 d_Tf_wayStatus_14 k_Tf_276 (by first | assumption | exact zS0_at (by assumption) (by omega) | exact zS0_at rfl (by omega)) (t_Tf_tinStatus_p Z N ht hp hp2) ⟨Nat.le_of_ble_eq_true rfl, Nat.le_of_ble_eq_true rfl, Nat.le_of_ble_eq_true rfl, Nat.le_of_ble_eq_true rfl⟩ (Nat.le_of_ble_eq_true rfl) ?_
        intro r w hq
        obtain ⟨rfl, rfl⟩ := hq
        refine z_reti d_Tf_wayStatus_17 ?_
        exact ⟨rfl, rfl⟩)
/-! frames of a call that changes nothing but STATUS -/
def cqF (I I' : Nat → Nat → Int32) : Prop := (∀ a, a ≠ 0 → ¬ (122 ≤ a ∧ a ≤ 144) → I' a = I a) ∧ ∀ k, 1 ≤ k → I' 0 k = I 0 k
def mqF (I I' : Nat → Nat → Int32) : Prop := (∀ a, a ≠ 145 → ¬ (151 ≤ a ∧ a ≤ 158) → I' a = I a) ∧ ∀ k, (k = 8 ∨ k = 10 ∨ k = 11 ∨ k = 23 ∨ k = 38) → I' 145 k = I 145 k
def cqJ (J J' : Nat → Nat → Int64) : Prop := ∀ a, a ≠ 139 → J' a = J a
def mqJ (J J' : Nat → Nat → Int64) : Prop := ∀ a, a ≠ 158 → J' a = J a
def cW (I : Nat → Nat → Int32) (J : Nat → Nat → Int64) (P : Nat → Nat → Option Nat) (S : List (Nat × Nat)) (st : Nat) (w : zW) : Prop := ∃ I' J', w = (I', J', P, S) ∧ cqF I I' ∧ cqJ J J' ∧ I' 0 0 = nI st
def mW (I : Nat → Nat → Int32) (J : Nat → Nat → Int64) (P : Nat → Nat → Option Nat) (S : List (Nat × Nat)) (st : Nat) (w : zW) : Prop := ∃ I' J', w = (I', J', P, S) ∧ mqF I I' ∧ mqJ J J' ∧ I' 145 0 = nI st
theorem cqF_r : cqF I I := ⟨fun _ _ _ => rfl, fun _ _ => rfl⟩
theorem mqF_r : mqF I I := ⟨fun _ _ _ => rfl, fun _ _ => rfl⟩
theorem cqJ_r : cqJ J J := fun _ _ => rfl
theorem mqJ_r : mqJ J J := fun _ _ => rfl
theorem cqF_0 {I1 : Nat → Nat → Int32} {x : Int32} (h : cqF I I1) : cqF I (zu I1 0 0 x) := ⟨fun a g1 g2 => (zu_row _ _ _ _ g1).trans (h.1 a g1 g2), fun k hk => (zu_ne _ _ _ _ (by omega)).trans (h.2 k hk)⟩
theorem mqF_z {I1 : Nat → Nat → Int32} {k : Nat} {x : Int32} (h : mqF I I1) (hk : ¬ (k = 8 ∨ k = 10 ∨ k = 11 ∨ k = 23 ∨ k = 38)) : mqF I (zu I1 145 k x) := ⟨fun a g1 g2 => (zu_row _ _ _ _ g1).trans (h.1 a g1 g2), fun i hi => (zu_ne _ _ _ _ (by rintro ⟨-, rfl⟩; exact hk hi)).trans (h.2 i hi)⟩
theorem mqF_s {I1 : Nat → Nat → Int32} {a k : Nat} {x : Int32} (h : mqF I I1) (ha : 151 ≤ a ∧ a ≤ 158) : mqF I (zu I1 a k x) := ⟨fun b g1 g2 => (zu_row _ _ _ _ (by omega)).trans (h.1 b g1 g2), fun i hi => (zu_ne _ _ _ _ (by omega)).trans (h.2 i hi)⟩
theorem mqF_t {I1 I2 : Nat → Nat → Int32} (h1 : mqF I I1) (h2 : mqF I1 I2) : mqF I I2 := ⟨fun a g1 g2 => (h2.1 a g1 g2).trans (h1.1 a g1 g2), fun k hk => (h2.2 k hk).trans (h1.2 k hk)⟩
theorem cqF_t {I1 I2 : Nat → Nat → Int32} (h1 : cqF I I1) (h2 : cqF I1 I2) : cqF I I2 := ⟨fun a g1 g2 => (h2.1 a g1 g2).trans (h1.1 a g1 g2), fun k hk => (h2.2 k hk).trans (h1.2 k hk)⟩
theorem cW_0 : cW I J P S st (zu I 0 0 (nI st), J, P, S) := ⟨_, _, rfl, cqF_0 cqF_r, cqJ_r, zu_same _ _ _ _⟩
theorem modIn_c (N : modIn I nt np nl nn) (h : I' 150 = I 150) : modIn I' nt np nl nn := by
  unfold modIn
  rw [h]
  exact N
theorem modIn_z {k : Nat} {x : Int32} (N : modIn I nt np nl nn) : modIn (zu I 145 k x) nt np nl nn := modIn_c N (zu_row _ _ _ _ (by decide))
/-- the reference's beginning of a call -/
theorem mo_beg (N : modIn I nt np nl nn) : ∃ I1 : Nat → Nat → Int32, I1 = zu (zu I 145 1 (nI 0)) 145 0 (nI 0) ∧ modIn I1 nt np nl nn ∧ mqF I I1 ∧ I1 145 0 = nI 0 ∧ I1 150 = I 150 ∧ (∀ a, a ≠ 145 → I1 a = I a) ∧ (∀ k, 2 ≤ k → I1 145 k = I 145 k) := ⟨_, rfl, modIn_z (modIn_z N), mqF_z (mqF_z mqF_r (by decide)) (by decide), zu_same _ _ _ _, by rw [zu_row _ _ _ _ (by decide), zu_row _ _ _ _ (by decide)], fun a h => by rw [zu_row _ _ _ _ h, zu_row _ _ _ _ h], fun k hk => by rw [zu_ne _ _ _ _ (by omega), zu_ne _ _ _ _ (by omega)]⟩
theorem mo_beg1 (N : modIn I nt np nl nn) : ∃ I1 : Nat → Nat → Int32, I1 = zu I 145 1 (nI 0) ∧ modIn I1 nt np nl nn ∧ mqF I I1 ∧ I1 150 = I 150 ∧ (∀ a, a ≠ 145 → I1 a = I a) ∧ (∀ k, k ≠ 1 → I1 145 k = I 145 k) := ⟨_, rfl, modIn_z N, mqF_z mqF_r (by decide), by rw [zu_row _ _ _ _ (by decide)], fun a h => by rw [zu_row _ _ _ _ h], fun k hk => by rw [zu_ne _ _ _ _ (by omega)]⟩
theorem isInK {c : Int64} {m : Nat} (hm : m < 2 ^ 30) (hc : c.toInt = (m : Int) - 1) : (lN 0 ≤ a.toInt64 ∧ a.toInt64 ≤ c) ↔ zin a m := by
  rw [zin_int (by omega), Int64.le_iff_toInt_le, Int64.le_iff_toInt_le, lN_int (by decide), Int32.toInt_toInt64, hc]
  omega
theorem t_Mo_isInZ {c : Int64} {m : Nat} (hm : m < 2 ^ 30) (hc : c.toInt = (m : Int) - 1) : zEi G y_Mo_isIn prog_14_method_8_code 6 (some .boolean) 1 [.long a.toInt64, .long (lN 0), .long c] (I, J, P, S) (fun r w => (zin a m ∧ r = nI 1 ∨ ¬ zin a m ∧ r = nI 0) ∧ w = (I, J, P, S)) := by
  refine zEi_mono t_Mo_isIn ?_
  intro r w h
  rw [isInK hm hc] at h
  exact h
theorem t_Mo_isPersonAtI (M : modOk P S) (N : modIn I nt np nl nn) : zEi G y_Mo_isPersonAt prog_14_method_74_code 3 (some .boolean) 2 [.ref 145, .long a.toInt64] (I, J, P, S) (fun r w => (zin a np ∧ r = nI 1 ∨ ¬ zin a np ∧ r = nI 0) ∧ w = (I, J, P, S)) := by
  have b := N.2.1.2
  refine zEi_mono (t_Mo_isPersonAt M N) ?_
  intro r w h
  rw [zinL_i (by omega)] at h
  exact h
theorem t_Mo_whyNoTin_o (M : modOk P S) (N : modIn I nt np nl nn) (h : ¬ zin a nn) : zEi G y_Mo_whyNoTin prog_14_method_106_code 2 (some .int) 3 [.ref 145, .int a] (I, J, P, S) (fun r w => r = nI 2 ∧ w = (I, J, P, S)) := by
  obtain ⟨M0, ⟨M4, M4s⟩, ⟨M5, M5s⟩, ⟨M6, M6s⟩, ⟨M7, M7s⟩, ⟨M20, M20s⟩, ⟨M21, M21s⟩, ⟨M22, M22s⟩, ⟨M26, M26s⟩, ⟨M27, M27s⟩, ⟨M28, M28s⟩, ⟨M30, M30s⟩, ⟨M34, M34s⟩, ⟨M36, M36s⟩, ⟨M37, M37s⟩⟩ := id M
  obtain ⟨⟨m0, m0b⟩, ⟨m1, m1b⟩, ⟨m2, m2b⟩, ⟨m3, m3b⟩, mof, mon⟩ := id N
  refine zEi_of (lv := [some (.ref 145), some (.int a)]) (by decide) rfl (Nat.le_of_ble_eq_true rfl) ?_
  refine z_aload_0 d_Mo_whyNoTin_0 ?_
  refine z_iload_1 d_Mo_whyNoTin_1 ?_
  refine z_Vi1 d_Mo_whyNoTin_2 k_Mo_344 (by first | assumption | exact zS0_at (by assumption) (by omega) | exact zS0_at rfl (by omega)) (t_Mo_isTinAt M N) ⟨Nat.le_of_ble_eq_true rfl, Nat.le_of_ble_eq_true rfl, Nat.le_of_ble_eq_true rfl, Nat.le_of_ble_eq_true rfl⟩ (Nat.le_of_ble_eq_true rfl) ?_
  intro r w hq
  rcases hq with ⟨⟨hz2, rfl⟩ | ⟨hz2, rfl⟩, rfl⟩
  · first
    | contradiction
    | ( skip
        refine z_if_ne (tgt := 12) d_Mo_whyNoTin_5 (by decide) (fun _ => ?_) (fun h => absurd h (by decide))
        contradiction)
  · first
    | contradiction
    | ( skip
        refine z_if_ne (tgt := 12) d_Mo_whyNoTin_5 (by decide) (fun h => absurd h (by decide)) (fun _ => ?_)
        refine z_iconst (a := nI 2) d_Mo_whyNoTin_8 (by decide) ?_
        refine z_goto (tgt := 26) d_Mo_whyNoTin_9 (by decide) ?_
        refine z_reti d_Mo_whyNoTin_26 ?_
        exact ⟨rfl, rfl⟩)
theorem t_Mo_whyNoTin_g {t : Nat} (M : modOk P S) (N : modIn I nt np nl nn) (ht : t < nn) (hg : I 150 (42 + t) = -1) : zEi G y_Mo_whyNoTin prog_14_method_106_code 2 (some .int) 3 [.ref 145, .int (nI t)] (I, J, P, S) (fun r w => r = nI 9 ∧ w = (I, J, P, S)) := by
  obtain ⟨M0, ⟨M4, M4s⟩, ⟨M5, M5s⟩, ⟨M6, M6s⟩, ⟨M7, M7s⟩, ⟨M20, M20s⟩, ⟨M21, M21s⟩, ⟨M22, M22s⟩, ⟨M26, M26s⟩, ⟨M27, M27s⟩, ⟨M28, M28s⟩, ⟨M30, M30s⟩, ⟨M34, M34s⟩, ⟨M36, M36s⟩, ⟨M37, M37s⟩⟩ := id M
  obtain ⟨⟨m0, m0b⟩, ⟨m1, m1b⟩, ⟨m2, m2b⟩, ⟨m3, m3b⟩, mof, mon⟩ := id N
  have hz : zin (nI t) nn := ⟨t, ht, rfl⟩
  have hg2 : I 150 (42 + t) < 0 := by rw [hg]; decide
  refine zEi_of (lv := [some (.ref 145), some (.int (nI t))]) (by decide) rfl (Nat.le_of_ble_eq_true rfl) ?_
  refine z_aload_0 d_Mo_whyNoTin_0 ?_
  refine z_iload_1 d_Mo_whyNoTin_1 ?_
  refine z_Vi1 d_Mo_whyNoTin_2 k_Mo_344 (by first | assumption | exact zS0_at (by assumption) (by omega) | exact zS0_at rfl (by omega)) (t_Mo_isTinAt M N) ⟨Nat.le_of_ble_eq_true rfl, Nat.le_of_ble_eq_true rfl, Nat.le_of_ble_eq_true rfl, Nat.le_of_ble_eq_true rfl⟩ (Nat.le_of_ble_eq_true rfl) ?_
  intro r w hq
  rcases hq with ⟨⟨hz2, rfl⟩ | ⟨hz2, rfl⟩, rfl⟩
  · first
    | contradiction
    | ( skip
        refine z_if_ne (tgt := 12) d_Mo_whyNoTin_5 (by decide) (fun _ => ?_) (fun h => absurd h (by decide))
        refine z_aload_0 d_Mo_whyNoTin_12 ?_
        refine z_iload_1 d_Mo_whyNoTin_13 ?_
        refine z_Vi1 d_Mo_whyNoTin_14 k_Mo_310 (by first | assumption | exact zS0_at (by assumption) (by omega) | exact zS0_at rfl (by omega)) (t_Mo_isGone (by assumption) (by omega)) ⟨Nat.le_of_ble_eq_true rfl, Nat.le_of_ble_eq_true rfl, Nat.le_of_ble_eq_true rfl, Nat.le_of_ble_eq_true rfl⟩ (Nat.le_of_ble_eq_true rfl) ?_
        intro r w hq
        rcases hq with ⟨⟨hz14, rfl⟩ | ⟨hz14, rfl⟩, rfl⟩
        · first
          | contradiction
          | ( skip
              refine z_if_eq (tgt := 25) d_Mo_whyNoTin_17 (by decide) (fun h => absurd h (by decide)) (fun _ => ?_)
              refine z_bipush (a := nI 9) d_Mo_whyNoTin_20 (by decide) ?_
              refine z_goto (tgt := 26) d_Mo_whyNoTin_22 (by decide) ?_
              refine z_reti d_Mo_whyNoTin_26 ?_
              exact ⟨rfl, rfl⟩)
        · first
          | contradiction
          | ( skip
              refine z_if_eq (tgt := 25) d_Mo_whyNoTin_17 (by decide) (fun _ => ?_) (fun h => absurd h (by decide))
              refine z_iconst (a := nI 0) d_Mo_whyNoTin_25 (by decide) ?_
              refine z_reti d_Mo_whyNoTin_26 ?_
              exact ⟨rfl, rfl⟩))
  · first
    | contradiction
    | ( skip
        refine z_if_ne (tgt := 12) d_Mo_whyNoTin_5 (by decide) (fun h => absurd h (by decide)) (fun _ => ?_)
        refine z_iconst (a := nI 2) d_Mo_whyNoTin_8 (by decide) ?_
        refine z_goto (tgt := 26) d_Mo_whyNoTin_9 (by decide) ?_
        refine z_reti d_Mo_whyNoTin_26 ?_
        exact ⟨rfl, rfl⟩)
theorem t_Mo_whyNoTin_p {t p : Nat} (M : modOk P S) (N : modIn I nt np nl nn) (ht : t < nn) (hp : I 150 (42 + t) = nI p) (hp2 : p < np) : zEi G y_Mo_whyNoTin prog_14_method_106_code 2 (some .int) 3 [.ref 145, .int (nI t)] (I, J, P, S) (fun r w => r = nI 0 ∧ w = (I, J, P, S)) := by
  obtain ⟨M0, ⟨M4, M4s⟩, ⟨M5, M5s⟩, ⟨M6, M6s⟩, ⟨M7, M7s⟩, ⟨M20, M20s⟩, ⟨M21, M21s⟩, ⟨M22, M22s⟩, ⟨M26, M26s⟩, ⟨M27, M27s⟩, ⟨M28, M28s⟩, ⟨M30, M30s⟩, ⟨M34, M34s⟩, ⟨M36, M36s⟩, ⟨M37, M37s⟩⟩ := id M
  obtain ⟨⟨m0, m0b⟩, ⟨m1, m1b⟩, ⟨m2, m2b⟩, ⟨m3, m3b⟩, mof, mon⟩ := id N
  have hz : zin (nI t) nn := ⟨t, ht, rfl⟩
  have hg2 : ¬ I 150 (42 + t) < 0 := by rw [hp]; exact nI_pos (by omega)
  refine zEi_of (lv := [some (.ref 145), some (.int (nI t))]) (by decide) rfl (Nat.le_of_ble_eq_true rfl) ?_
  refine z_aload_0 d_Mo_whyNoTin_0 ?_
  refine z_iload_1 d_Mo_whyNoTin_1 ?_
  refine z_Vi1 d_Mo_whyNoTin_2 k_Mo_344 (by first | assumption | exact zS0_at (by assumption) (by omega) | exact zS0_at rfl (by omega)) (t_Mo_isTinAt M N) ⟨Nat.le_of_ble_eq_true rfl, Nat.le_of_ble_eq_true rfl, Nat.le_of_ble_eq_true rfl, Nat.le_of_ble_eq_true rfl⟩ (Nat.le_of_ble_eq_true rfl) ?_
  intro r w hq
  rcases hq with ⟨⟨hz2, rfl⟩ | ⟨hz2, rfl⟩, rfl⟩
  · first
    | contradiction
    | ( skip
        refine z_if_ne (tgt := 12) d_Mo_whyNoTin_5 (by decide) (fun _ => ?_) (fun h => absurd h (by decide))
        refine z_aload_0 d_Mo_whyNoTin_12 ?_
        refine z_iload_1 d_Mo_whyNoTin_13 ?_
        refine z_Vi1 d_Mo_whyNoTin_14 k_Mo_310 (by first | assumption | exact zS0_at (by assumption) (by omega) | exact zS0_at rfl (by omega)) (t_Mo_isGone (by assumption) (by omega)) ⟨Nat.le_of_ble_eq_true rfl, Nat.le_of_ble_eq_true rfl, Nat.le_of_ble_eq_true rfl, Nat.le_of_ble_eq_true rfl⟩ (Nat.le_of_ble_eq_true rfl) ?_
        intro r w hq
        rcases hq with ⟨⟨hz14, rfl⟩ | ⟨hz14, rfl⟩, rfl⟩
        · first
          | contradiction
          | ( skip
              refine z_if_eq (tgt := 25) d_Mo_whyNoTin_17 (by decide) (fun h => absurd h (by decide)) (fun _ => ?_)
              refine z_bipush (a := nI 9) d_Mo_whyNoTin_20 (by decide) ?_
              refine z_goto (tgt := 26) d_Mo_whyNoTin_22 (by decide) ?_
              refine z_reti d_Mo_whyNoTin_26 ?_
              exact ⟨rfl, rfl⟩)
        · first
          | contradiction
          | ( skip
              refine z_if_eq (tgt := 25) d_Mo_whyNoTin_17 (by decide) (fun _ => ?_) (fun h => absurd h (by decide))
              refine z_iconst (a := nI 0) d_Mo_whyNoTin_25 (by decide) ?_
              refine z_reti d_Mo_whyNoTin_26 ?_
              exact ⟨rfl, rfl⟩))
  · first
    | contradiction
    | ( skip
        refine z_if_ne (tgt := 12) d_Mo_whyNoTin_5 (by decide) (fun h => absurd h (by decide)) (fun _ => ?_)
        refine z_iconst (a := nI 2) d_Mo_whyNoTin_8 (by decide) ?_
        refine z_goto (tgt := 26) d_Mo_whyNoTin_9 (by decide) ?_
        refine z_reti d_Mo_whyNoTin_26 ?_
        exact ⟨rfl, rfl⟩)
theorem t_Mo_whyNoWay_o (M : modOk P S) (N : modIn I nt np nl nn) (h : ¬ zin a nn ∨ ¬ zin b np) : zEi G y_Mo_whyNoWay prog_14_method_103_code 3 (some .int) 3 [.ref 145, .int a, .int b] (I, J, P, S) (fun r w => r = nI 2 ∧ w = (I, J, P, S)) := by
  obtain ⟨M0, ⟨M4, M4s⟩, ⟨M5, M5s⟩, ⟨M6, M6s⟩, ⟨M7, M7s⟩, ⟨M20, M20s⟩, ⟨M21, M21s⟩, ⟨M22, M22s⟩, ⟨M26, M26s⟩, ⟨M27, M27s⟩, ⟨M28, M28s⟩, ⟨M30, M30s⟩, ⟨M34, M34s⟩, ⟨M36, M36s⟩, ⟨M37, M37s⟩⟩ := id M
  obtain ⟨⟨m0, m0b⟩, ⟨m1, m1b⟩, ⟨m2, m2b⟩, ⟨m3, m3b⟩, mof, mon⟩ := id N
  refine zEi_of (lv := [some (.ref 145), some (.int a), some (.int b)]) (by decide) rfl (Nat.le_of_ble_eq_true rfl) ?_
  rcases h with h | h
  · refine z_aload_0 d_Mo_whyNoWay_0 ?_
    refine z_iload_1 d_Mo_whyNoWay_1 ?_
    refine z_Vi1 d_Mo_whyNoWay_2 k_Mo_344 (by first | assumption | exact zS0_at (by assumption) (by omega) | exact zS0_at rfl (by omega)) (t_Mo_isTinAt M N) ⟨Nat.le_of_ble_eq_true rfl, Nat.le_of_ble_eq_true rfl, Nat.le_of_ble_eq_true rfl, Nat.le_of_ble_eq_true rfl⟩ (Nat.le_of_ble_eq_true rfl) ?_
    intro r w hq
    rcases hq with ⟨⟨hz2, rfl⟩ | ⟨hz2, rfl⟩, rfl⟩
    · first
      | contradiction
      | ( skip
          refine z_if_eq (tgt := 17) d_Mo_whyNoWay_5 (by decide) (fun h => absurd h (by decide)) (fun _ => ?_)
          contradiction)
    · first
      | contradiction
      | ( skip
          refine z_if_eq (tgt := 17) d_Mo_whyNoWay_5 (by decide) (fun _ => ?_) (fun h => absurd h (by decide))
          refine z_iconst (a := nI 2) d_Mo_whyNoWay_17 (by decide) ?_
          refine z_goto (tgt := 35) d_Mo_whyNoWay_18 (by decide) ?_
          refine z_reti d_Mo_whyNoWay_35 ?_
          exact ⟨rfl, rfl⟩)
  · refine z_aload_0 d_Mo_whyNoWay_0 ?_
    refine z_iload_1 d_Mo_whyNoWay_1 ?_
    refine z_Vi1 d_Mo_whyNoWay_2 k_Mo_344 (by first | assumption | exact zS0_at (by assumption) (by omega) | exact zS0_at rfl (by omega)) (t_Mo_isTinAt M N) ⟨Nat.le_of_ble_eq_true rfl, Nat.le_of_ble_eq_true rfl, Nat.le_of_ble_eq_true rfl, Nat.le_of_ble_eq_true rfl⟩ (Nat.le_of_ble_eq_true rfl) ?_
    intro r w hq
    rcases hq with ⟨⟨hz2, rfl⟩ | ⟨hz2, rfl⟩, rfl⟩
    · first
      | contradiction
      | ( skip
          refine z_if_eq (tgt := 17) d_Mo_whyNoWay_5 (by decide) (fun h => absurd h (by decide)) (fun _ => ?_)
          refine z_aload_0 d_Mo_whyNoWay_8 ?_
          refine z_iload_2 d_Mo_whyNoWay_9 ?_
          refine z_i2l d_Mo_whyNoWay_10 ?_
          refine z_Vi1 d_Mo_whyNoWay_11 k_Mo_336 (by first | assumption | exact zS0_at (by assumption) (by omega) | exact zS0_at rfl (by omega)) (t_Mo_isPersonAtI M N) ⟨Nat.le_of_ble_eq_true rfl, Nat.le_of_ble_eq_true rfl, Nat.le_of_ble_eq_true rfl, Nat.le_of_ble_eq_true rfl⟩ (Nat.le_of_ble_eq_true rfl) ?_
          intro r w hq
          rcases hq with ⟨⟨hz11, rfl⟩ | ⟨hz11, rfl⟩, rfl⟩
          · first
            | contradiction
            | ( skip
                refine z_if_ne (tgt := 21) d_Mo_whyNoWay_14 (by decide) (fun _ => ?_) (fun h => absurd h (by decide))
                contradiction)
          · first
            | contradiction
            | ( skip
                refine z_if_ne (tgt := 21) d_Mo_whyNoWay_14 (by decide) (fun h => absurd h (by decide)) (fun _ => ?_)
                refine z_iconst (a := nI 2) d_Mo_whyNoWay_17 (by decide) ?_
                refine z_goto (tgt := 35) d_Mo_whyNoWay_18 (by decide) ?_
                refine z_reti d_Mo_whyNoWay_35 ?_
                exact ⟨rfl, rfl⟩))
    · first
      | contradiction
      | ( skip
          refine z_if_eq (tgt := 17) d_Mo_whyNoWay_5 (by decide) (fun _ => ?_) (fun h => absurd h (by decide))
          refine z_iconst (a := nI 2) d_Mo_whyNoWay_17 (by decide) ?_
          refine z_goto (tgt := 35) d_Mo_whyNoWay_18 (by decide) ?_
          refine z_reti d_Mo_whyNoWay_35 ?_
          exact ⟨rfl, rfl⟩)
theorem t_Mo_whyNoWay_g {t q : Nat} (M : modOk P S) (N : modIn I nt np nl nn) (ht : t < nn) (hg : I 150 (42 + t) = -1) (hq : q < np) : zEi G y_Mo_whyNoWay prog_14_method_103_code 3 (some .int) 3 [.ref 145, .int (nI t), .int (nI q)] (I, J, P, S) (fun r w => r = nI 9 ∧ w = (I, J, P, S)) := by
  obtain ⟨M0, ⟨M4, M4s⟩, ⟨M5, M5s⟩, ⟨M6, M6s⟩, ⟨M7, M7s⟩, ⟨M20, M20s⟩, ⟨M21, M21s⟩, ⟨M22, M22s⟩, ⟨M26, M26s⟩, ⟨M27, M27s⟩, ⟨M28, M28s⟩, ⟨M30, M30s⟩, ⟨M34, M34s⟩, ⟨M36, M36s⟩, ⟨M37, M37s⟩⟩ := id M
  obtain ⟨⟨m0, m0b⟩, ⟨m1, m1b⟩, ⟨m2, m2b⟩, ⟨m3, m3b⟩, mof, mon⟩ := id N
  have hz : zin (nI t) nn := ⟨t, ht, rfl⟩
  have hz2 : zin (nI q) np := ⟨q, hq, rfl⟩
  have hg2 : I 150 (42 + t) < 0 := by rw [hg]; decide
  refine zEi_of (lv := [some (.ref 145), some (.int (nI t)), some (.int (nI q))]) (by decide) rfl (Nat.le_of_ble_eq_true rfl) ?_
  refine z_aload_0 d_Mo_whyNoWay_0 ?_
  refine z_iload_1 d_Mo_whyNoWay_1 ?_
  refine z_Vi1 d_Mo_whyNoWay_2 k_Mo_344 (by first | assumption | exact zS0_at (by assumption) (by omega) | exact zS0_at rfl (by omega)) (t_Mo_isTinAt M N) ⟨Nat.le_of_ble_eq_true rfl, Nat.le_of_ble_eq_true rfl, Nat.le_of_ble_eq_true rfl, Nat.le_of_ble_eq_true rfl⟩ (Nat.le_of_ble_eq_true rfl) ?_
  intro r w hq
  rcases hq with ⟨⟨hz2, rfl⟩ | ⟨hz2, rfl⟩, rfl⟩
  · first
    | contradiction
    | ( skip
        refine z_if_eq (tgt := 17) d_Mo_whyNoWay_5 (by decide) (fun h => absurd h (by decide)) (fun _ => ?_)
        refine z_aload_0 d_Mo_whyNoWay_8 ?_
        refine z_iload_2 d_Mo_whyNoWay_9 ?_
        refine z_i2l d_Mo_whyNoWay_10 ?_
        refine z_Vi1 d_Mo_whyNoWay_11 k_Mo_336 (by first | assumption | exact zS0_at (by assumption) (by omega) | exact zS0_at rfl (by omega)) (t_Mo_isPersonAtI M N) ⟨Nat.le_of_ble_eq_true rfl, Nat.le_of_ble_eq_true rfl, Nat.le_of_ble_eq_true rfl, Nat.le_of_ble_eq_true rfl⟩ (Nat.le_of_ble_eq_true rfl) ?_
        intro r w hq
        rcases hq with ⟨⟨hz11, rfl⟩ | ⟨hz11, rfl⟩, rfl⟩
        · first
          | contradiction
          | ( skip
              refine z_if_ne (tgt := 21) d_Mo_whyNoWay_14 (by decide) (fun _ => ?_) (fun h => absurd h (by decide))
              refine z_aload_0 d_Mo_whyNoWay_21 ?_
              refine z_iload_1 d_Mo_whyNoWay_22 ?_
              refine z_Vi1 d_Mo_whyNoWay_23 k_Mo_310 (by first | assumption | exact zS0_at (by assumption) (by omega) | exact zS0_at rfl (by omega)) (t_Mo_isGone (by assumption) (by omega)) ⟨Nat.le_of_ble_eq_true rfl, Nat.le_of_ble_eq_true rfl, Nat.le_of_ble_eq_true rfl, Nat.le_of_ble_eq_true rfl⟩ (Nat.le_of_ble_eq_true rfl) ?_
              intro r w hq
              rcases hq with ⟨⟨hz23, rfl⟩ | ⟨hz23, rfl⟩, rfl⟩
              · first
                | contradiction
                | ( skip
                    refine z_if_eq (tgt := 34) d_Mo_whyNoWay_26 (by decide) (fun h => absurd h (by decide)) (fun _ => ?_)
                    refine z_bipush (a := nI 9) d_Mo_whyNoWay_29 (by decide) ?_
                    refine z_goto (tgt := 35) d_Mo_whyNoWay_31 (by decide) ?_
                    refine z_reti d_Mo_whyNoWay_35 ?_
                    exact ⟨rfl, rfl⟩)
              · first
                | contradiction
                | ( skip
                    refine z_if_eq (tgt := 34) d_Mo_whyNoWay_26 (by decide) (fun _ => ?_) (fun h => absurd h (by decide))
                    refine z_iconst (a := nI 0) d_Mo_whyNoWay_34 (by decide) ?_
                    refine z_reti d_Mo_whyNoWay_35 ?_
                    exact ⟨rfl, rfl⟩))
        · first
          | contradiction
          | ( skip
              refine z_if_ne (tgt := 21) d_Mo_whyNoWay_14 (by decide) (fun h => absurd h (by decide)) (fun _ => ?_)
              refine z_iconst (a := nI 2) d_Mo_whyNoWay_17 (by decide) ?_
              refine z_goto (tgt := 35) d_Mo_whyNoWay_18 (by decide) ?_
              refine z_reti d_Mo_whyNoWay_35 ?_
              exact ⟨rfl, rfl⟩))
  · first
    | contradiction
    | ( skip
        refine z_if_eq (tgt := 17) d_Mo_whyNoWay_5 (by decide) (fun _ => ?_) (fun h => absurd h (by decide))
        refine z_iconst (a := nI 2) d_Mo_whyNoWay_17 (by decide) ?_
        refine z_goto (tgt := 35) d_Mo_whyNoWay_18 (by decide) ?_
        refine z_reti d_Mo_whyNoWay_35 ?_
        exact ⟨rfl, rfl⟩)
theorem t_Mo_whyNoWay_p {t p q : Nat} (M : modOk P S) (N : modIn I nt np nl nn) (ht : t < nn) (hp : I 150 (42 + t) = nI p) (hp2 : p < np) (hq : q < np) : zEi G y_Mo_whyNoWay prog_14_method_103_code 3 (some .int) 3 [.ref 145, .int (nI t), .int (nI q)] (I, J, P, S) (fun r w => r = nI 0 ∧ w = (I, J, P, S)) := by
  obtain ⟨M0, ⟨M4, M4s⟩, ⟨M5, M5s⟩, ⟨M6, M6s⟩, ⟨M7, M7s⟩, ⟨M20, M20s⟩, ⟨M21, M21s⟩, ⟨M22, M22s⟩, ⟨M26, M26s⟩, ⟨M27, M27s⟩, ⟨M28, M28s⟩, ⟨M30, M30s⟩, ⟨M34, M34s⟩, ⟨M36, M36s⟩, ⟨M37, M37s⟩⟩ := id M
  obtain ⟨⟨m0, m0b⟩, ⟨m1, m1b⟩, ⟨m2, m2b⟩, ⟨m3, m3b⟩, mof, mon⟩ := id N
  have hz : zin (nI t) nn := ⟨t, ht, rfl⟩
  have hz2 : zin (nI q) np := ⟨q, hq, rfl⟩
  have hg2 : ¬ I 150 (42 + t) < 0 := by rw [hp]; exact nI_pos (by omega)
  refine zEi_of (lv := [some (.ref 145), some (.int (nI t)), some (.int (nI q))]) (by decide) rfl (Nat.le_of_ble_eq_true rfl) ?_
  refine z_aload_0 d_Mo_whyNoWay_0 ?_
  refine z_iload_1 d_Mo_whyNoWay_1 ?_
  refine z_Vi1 d_Mo_whyNoWay_2 k_Mo_344 (by first | assumption | exact zS0_at (by assumption) (by omega) | exact zS0_at rfl (by omega)) (t_Mo_isTinAt M N) ⟨Nat.le_of_ble_eq_true rfl, Nat.le_of_ble_eq_true rfl, Nat.le_of_ble_eq_true rfl, Nat.le_of_ble_eq_true rfl⟩ (Nat.le_of_ble_eq_true rfl) ?_
  intro r w hq
  rcases hq with ⟨⟨hz2, rfl⟩ | ⟨hz2, rfl⟩, rfl⟩
  · first
    | contradiction
    | ( skip
        refine z_if_eq (tgt := 17) d_Mo_whyNoWay_5 (by decide) (fun h => absurd h (by decide)) (fun _ => ?_)
        refine z_aload_0 d_Mo_whyNoWay_8 ?_
        refine z_iload_2 d_Mo_whyNoWay_9 ?_
        refine z_i2l d_Mo_whyNoWay_10 ?_
        refine z_Vi1 d_Mo_whyNoWay_11 k_Mo_336 (by first | assumption | exact zS0_at (by assumption) (by omega) | exact zS0_at rfl (by omega)) (t_Mo_isPersonAtI M N) ⟨Nat.le_of_ble_eq_true rfl, Nat.le_of_ble_eq_true rfl, Nat.le_of_ble_eq_true rfl, Nat.le_of_ble_eq_true rfl⟩ (Nat.le_of_ble_eq_true rfl) ?_
        intro r w hq
        rcases hq with ⟨⟨hz11, rfl⟩ | ⟨hz11, rfl⟩, rfl⟩
        · first
          | contradiction
          | ( skip
              refine z_if_ne (tgt := 21) d_Mo_whyNoWay_14 (by decide) (fun _ => ?_) (fun h => absurd h (by decide))
              refine z_aload_0 d_Mo_whyNoWay_21 ?_
              refine z_iload_1 d_Mo_whyNoWay_22 ?_
              refine z_Vi1 d_Mo_whyNoWay_23 k_Mo_310 (by first | assumption | exact zS0_at (by assumption) (by omega) | exact zS0_at rfl (by omega)) (t_Mo_isGone (by assumption) (by omega)) ⟨Nat.le_of_ble_eq_true rfl, Nat.le_of_ble_eq_true rfl, Nat.le_of_ble_eq_true rfl, Nat.le_of_ble_eq_true rfl⟩ (Nat.le_of_ble_eq_true rfl) ?_
              intro r w hq
              rcases hq with ⟨⟨hz23, rfl⟩ | ⟨hz23, rfl⟩, rfl⟩
              · first
                | contradiction
                | ( skip
                    refine z_if_eq (tgt := 34) d_Mo_whyNoWay_26 (by decide) (fun h => absurd h (by decide)) (fun _ => ?_)
                    refine z_bipush (a := nI 9) d_Mo_whyNoWay_29 (by decide) ?_
                    refine z_goto (tgt := 35) d_Mo_whyNoWay_31 (by decide) ?_
                    refine z_reti d_Mo_whyNoWay_35 ?_
                    exact ⟨rfl, rfl⟩)
              · first
                | contradiction
                | ( skip
                    refine z_if_eq (tgt := 34) d_Mo_whyNoWay_26 (by decide) (fun _ => ?_) (fun h => absurd h (by decide))
                    refine z_iconst (a := nI 0) d_Mo_whyNoWay_34 (by decide) ?_
                    refine z_reti d_Mo_whyNoWay_35 ?_
                    exact ⟨rfl, rfl⟩))
        · first
          | contradiction
          | ( skip
              refine z_if_ne (tgt := 21) d_Mo_whyNoWay_14 (by decide) (fun h => absurd h (by decide)) (fun _ => ?_)
              refine z_iconst (a := nI 2) d_Mo_whyNoWay_17 (by decide) ?_
              refine z_goto (tgt := 35) d_Mo_whyNoWay_18 (by decide) ?_
              refine z_reti d_Mo_whyNoWay_35 ?_
              exact ⟨rfl, rfl⟩))
  · first
    | contradiction
    | ( skip
        refine z_if_eq (tgt := 17) d_Mo_whyNoWay_5 (by decide) (fun _ => ?_) (fun h => absurd h (by decide))
        refine z_iconst (a := nI 2) d_Mo_whyNoWay_17 (by decide) ?_
        refine z_goto (tgt := 35) d_Mo_whyNoWay_18 (by decide) ?_
        refine z_reti d_Mo_whyNoWay_35 ?_
        exact ⟨rfl, rfl⟩)
/-- class and reference, one behind the other: a call that changes nothing but STATUS -/
theorem L_q {y y' : MethodName} {cc cc' : ByteArray} {mL mL' dd dd' : Nat} {ret ret' : Option FieldType} {as as' : List Value} {x : Int32} (Z : clOk f d P S) (X : stR n f nt np nl nn fed mk I J) (hC : zEi G y cc mL ret dd as (I, J, P, S) (fun r w => r = x ∧ cW I J P S st w)) (hM : ∀ I' J', (∀ a, 145 ≤ a → I' a = I a) → (∀ a, 145 ≤ a → J' a = J a) → ∃ x', x' = x ∧ zEi G y' cc' mL' ret' dd' as' (I', J', P, S) (fun r w => r = x' ∧ mW I' J' P S st w)) : zEi G y cc mL ret dd as (I, J, P, S) (fun r w1 => w1.2.2.2 = S ∧ zEi G y' cc' mL' ret' dd' as' w1 (fun r' w2 => r' = r ∧ zInv (n + 1) w2)) := by
  have hf := clOk_f Z
  refine zEi_mono hC ?_
  rintro r w ⟨rfl, I1, J1, rfl, h1, h2, h3⟩
  obtain ⟨x', hx, hM⟩ := hM I1 J1 (fun a ha => h1.1 a (by omega) (by omega)) (fun a ha => h2 a (by omega))
  refine ⟨rfl, zEi_mono hM ?_⟩
  rintro r' w ⟨rfl, I2, J2, rfl, g1, g2, g3⟩
  refine ⟨hx, f, d, nt, np, nl, nn, fed, mk, I2, J2, P, S, rfl, Z, ?_⟩
  have e : ∀ a, a ≠ 0 → a ≠ 145 → ¬ (122 ≤ a ∧ a ≤ 144) → ¬ (151 ≤ a ∧ a ≤ 158) → I2 a = I a := fun a q1 q2 q3 q4 => (g1.1 a q2 q4).trans (h1.1 a q1 q3)
  have ej : ∀ a, a ≠ 139 → a ≠ 158 → J2 a = J a := fun a q1 q2 => (g2 a q2).trans (h2 a q1)
  have e0 : ∀ k, 1 ≤ k → I2 0 k = I 0 k := fun k hk => by rw [g1.1 0 (by omega) (by omega)]; exact h1.2 k hk
  refine stR_q X hf ⟨fun a ha => e a (by omega) (by omega) (by omega) (by omega), e0, ?_, fun k _ => by rw [e 150 (by omega) (by omega) (by omega) (by omega)], fun k hk => ?_⟩ (fun a q1 q2 => e a (by omega) (by omega) (by omega) (by omega)) (fun k _ => by rw [e 150 (by omega) (by omega) (by omega) (by omega)]) ⟨fun a ha => ej a (by omega) (by omega), fun k _ => by rw [ej _ (by omega) (by omega)], fun k _ => by rw [ej _ (by omega) (by omega)]⟩ ⟨?_, ?_, ?_⟩
  · rw [e 11 (by omega) (by omega) (by omega) (by omega)]; exact ⟨rfl, rfl⟩
  · rw [g1.2 k hk, h1.1 145 (by omega) (by omega)]
  · rw [g3, g1.1 0 (by omega) (by omega), h3]
  · rw [ej 145 (by omega) (by omega), ej 0 (by omega) (by omega)]; exact X.1.2.1
  · rw [ej 145 (by omega) (by omega), ej 0 (by omega) (by omega)]; exact X.1.2.2
end HL0
