/-! live, lived: both sides -/
section LV0
variable {G : zG} {I I' I1 I2 : Nat → Nat → Int32} {J J' J2 : Nat → Nat → Int64} {P : Nat → Nat → Option Nat} {S : List (Nat × Nat)} {f d nt np nl nn n fed mk st sz sd : Nat} {a b : Int32} {w : zW}
theorem t_Tf_lived_b (Z : clOk f d P S) (N : fenIn I f nt np nl nn) (hb : ¬ zin b 5) : zEi G y_Tf_lived prog_1_method_49_code 2 (some .int) 2 [.ref 0, .int b] (I, J, P, S) (fun r w => r = -1 ∧ cW I J P S 5 w) := by
  obtain ⟨⟨c0, c3, c1s⟩, ⟨c5, c2s, ctr⟩, ⟨c6, c11s, c11, c13s⟩, ⟨c7, c15s, c15⟩, ⟨c8, c16s, c16a, c16b, c17s⟩, ⟨c9, c10, cfd, F, Fd⟩, ⟨c11b, Ft⟩, ⟨c12, c69s, cmk⟩, ⟨c14, c121s, c121, c122s⟩, ⟨c15b, c123s, c123, c124s⟩, ⟨c16, c125s, c125, c126s⟩, ⟨c17, c127s, c127, c128s, ctb⟩, ⟨c18, c139s, c139, c140s⟩, ⟨c19, c141s, ⟨c141a, c142s⟩, ⟨c141b, c143s⟩, ⟨c141c, c144s⟩⟩, M⟩ := id Z
  obtain ⟨F0, ⟨F8, F8s⟩, ⟨F9, F9s⟩, ⟨F10, F10s⟩, ⟨F11, F11s⟩, ⟨F12, F12s⟩, ⟨F13, F13s⟩, ⟨F14, F14s⟩, ⟨F15, F15s⟩, ⟨F16, F16s⟩, ⟨F17, F17s⟩, ⟨F18, F18s⟩, ⟨F19, F19s⟩, ⟨Y3, Y3s⟩, ⟨Y4, Y4s⟩, ⟨Y5, Y5s⟩, ⟨Y6, Y6s⟩⟩ := id F
  obtain ⟨⟨n1, n1b⟩, ⟨n2, n2b⟩, ⟨n3, n3b⟩, ⟨n4, n4b⟩, nof, non⟩ := id N
  have hbo := zin_not (m := 4) (by decide) hb
  refine zEi_of (lv := [some (.ref 0), some (.int b)]) (by decide) rfl (Nat.le_of_ble_eq_true rfl) ?_
  rcases hbo with hbo | hbo
  · refine z_iload_1 d_Tf_lived_0 ?_
    refine z_if_lt (tgt := 9) d_Tf_lived_1 (by decide) (fun h1 => ?_) (fun h1 => ?_)
    · first
      | (simp (disch := omega) only [← nI_0, nI_leI, nI_ltI, nI_eq, not_true_eq_false, not_false_eq_true] at h1; done)
      | (simp (disch := omega) only [← nI_0, nI_leI, nI_ltI, nI_eq, not_true_eq_false, not_false_eq_true] at h1; omega)
      | contradiction
      | exact absurd h1 (Int32.not_lt.mpr (by assumption))
      | exact absurd h1 (Int32.not_le.mpr (by assumption))
      | exact absurd h1 (by decide)
      | exact absurd (by decide) h1
      | ( try simp (disch := omega) only [← nI_0, nI_leI, nI_ltI, nI_eq, not_true_eq_false, not_false_eq_true] at h1
          (try have h1b := zbit_n0.mp h1); (try have h1b := zbit_p0.mp h1)
          refine z_aload_0 d_Tf_lived_9 ?_
          refine z_iconst (a := nI 5) d_Tf_lived_10 (by decide) ?_
          refine z_Vi1 d_Tf_lived_11 k_Tf_138 (by first | assumption | exact zS0_at (by assumption) (by omega) | exact zS0_at rfl (by omega)) (t_Tf_fail (by assumption)) ⟨Nat.le_of_ble_eq_true rfl, Nat.le_of_ble_eq_true rfl, Nat.le_of_ble_eq_true rfl, Nat.le_of_ble_eq_true rfl⟩ (Nat.le_of_ble_eq_true rfl) ?_
          intro r w hq
          obtain ⟨rfl, rfl⟩ := hq
          refine z_reti d_Tf_lived_14 ?_
          exact ⟨by first | rfl | assumption, cW_0⟩)
    · first
      | (simp (disch := omega) only [← nI_0, nI_leI, nI_ltI, nI_eq, not_true_eq_false, not_false_eq_true] at h1; done)
      | (simp (disch := omega) only [← nI_0, nI_leI, nI_ltI, nI_eq, not_true_eq_false, not_false_eq_true] at h1; omega)
      | contradiction
      | exact absurd h1 (Int32.not_lt.mpr (by assumption))
      | exact absurd h1 (Int32.not_le.mpr (by assumption))
      | exact absurd h1 (by decide)
      | exact absurd (by decide) h1
      | ( try simp (disch := omega) only [← nI_0, nI_leI, nI_ltI, nI_eq, not_true_eq_false, not_false_eq_true] at h1
          (try have h1b := zbit_n0.mp h1); (try have h1b := zbit_p0.mp h1)
          refine z_iload_1 d_Tf_lived_4 ?_
          refine z_iconst (a := nI 4) d_Tf_lived_5 (by decide) ?_
          refine z_icmp_le (tgt := 15) d_Tf_lived_6 (by decide) (fun h6 => ?_) (fun h6 => ?_)
          · first
            | (simp (disch := omega) only [← nI_0, nI_leI, nI_ltI, nI_eq, not_true_eq_false, not_false_eq_true] at h6; done)
            | (simp (disch := omega) only [← nI_0, nI_leI, nI_ltI, nI_eq, not_true_eq_false, not_false_eq_true] at h6; omega)
            | contradiction
            | exact absurd h6 (Int32.not_lt.mpr (by assumption))
            | exact absurd h6 (Int32.not_le.mpr (by assumption))
            | exact absurd h6 (by decide)
            | exact absurd (by decide) h6
            | ( try simp (disch := omega) only [← nI_0, nI_leI, nI_ltI, nI_eq, not_true_eq_false, not_false_eq_true] at h6
                (try have h6b := zbit_n0.mp h6); (try have h6b := zbit_p0.mp h6)
                fail)
          · first
            | (simp (disch := omega) only [← nI_0, nI_leI, nI_ltI, nI_eq, not_true_eq_false, not_false_eq_true] at h6; done)
            | (simp (disch := omega) only [← nI_0, nI_leI, nI_ltI, nI_eq, not_true_eq_false, not_false_eq_true] at h6; omega)
            | contradiction
            | exact absurd h6 (Int32.not_lt.mpr (by assumption))
            | exact absurd h6 (Int32.not_le.mpr (by assumption))
            | exact absurd h6 (by decide)
            | exact absurd (by decide) h6
            | ( try simp (disch := omega) only [← nI_0, nI_leI, nI_ltI, nI_eq, not_true_eq_false, not_false_eq_true] at h6
                (try have h6b := zbit_n0.mp h6); (try have h6b := zbit_p0.mp h6)
                refine z_aload_0 d_Tf_lived_9 ?_
                refine z_iconst (a := nI 5) d_Tf_lived_10 (by decide) ?_
                refine z_Vi1 d_Tf_lived_11 k_Tf_138 (by first | assumption | exact zS0_at (by assumption) (by omega) | exact zS0_at rfl (by omega)) (t_Tf_fail (by assumption)) ⟨Nat.le_of_ble_eq_true rfl, Nat.le_of_ble_eq_true rfl, Nat.le_of_ble_eq_true rfl, Nat.le_of_ble_eq_true rfl⟩ (Nat.le_of_ble_eq_true rfl) ?_
                intro r w hq
                obtain ⟨rfl, rfl⟩ := hq
                refine z_reti d_Tf_lived_14 ?_
                exact ⟨by first | rfl | assumption, cW_0⟩))
  · refine z_iload_1 d_Tf_lived_0 ?_
    refine z_if_lt (tgt := 9) d_Tf_lived_1 (by decide) (fun h1 => ?_) (fun h1 => ?_)
    · first
      | (simp (disch := omega) only [← nI_0, nI_leI, nI_ltI, nI_eq, not_true_eq_false, not_false_eq_true] at h1; done)
      | (simp (disch := omega) only [← nI_0, nI_leI, nI_ltI, nI_eq, not_true_eq_false, not_false_eq_true] at h1; omega)
      | contradiction
      | exact absurd h1 (Int32.not_lt.mpr (by assumption))
      | exact absurd h1 (Int32.not_le.mpr (by assumption))
      | exact absurd h1 (by decide)
      | exact absurd (by decide) h1
      | ( try simp (disch := omega) only [← nI_0, nI_leI, nI_ltI, nI_eq, not_true_eq_false, not_false_eq_true] at h1
          (try have h1b := zbit_n0.mp h1); (try have h1b := zbit_p0.mp h1)
          refine z_aload_0 d_Tf_lived_9 ?_
          refine z_iconst (a := nI 5) d_Tf_lived_10 (by decide) ?_
          refine z_Vi1 d_Tf_lived_11 k_Tf_138 (by first | assumption | exact zS0_at (by assumption) (by omega) | exact zS0_at rfl (by omega)) (t_Tf_fail (by assumption)) ⟨Nat.le_of_ble_eq_true rfl, Nat.le_of_ble_eq_true rfl, Nat.le_of_ble_eq_true rfl, Nat.le_of_ble_eq_true rfl⟩ (Nat.le_of_ble_eq_true rfl) ?_
          intro r w hq
          obtain ⟨rfl, rfl⟩ := hq
          refine z_reti d_Tf_lived_14 ?_
          exact ⟨by first | rfl | assumption, cW_0⟩)
    · first
      | (simp (disch := omega) only [← nI_0, nI_leI, nI_ltI, nI_eq, not_true_eq_false, not_false_eq_true] at h1; done)
      | (simp (disch := omega) only [← nI_0, nI_leI, nI_ltI, nI_eq, not_true_eq_false, not_false_eq_true] at h1; omega)
      | contradiction
      | exact absurd h1 (Int32.not_lt.mpr (by assumption))
      | exact absurd h1 (Int32.not_le.mpr (by assumption))
      | exact absurd h1 (by decide)
      | exact absurd (by decide) h1
      | ( try simp (disch := omega) only [← nI_0, nI_leI, nI_ltI, nI_eq, not_true_eq_false, not_false_eq_true] at h1
          (try have h1b := zbit_n0.mp h1); (try have h1b := zbit_p0.mp h1)
          refine z_iload_1 d_Tf_lived_4 ?_
          refine z_iconst (a := nI 4) d_Tf_lived_5 (by decide) ?_
          refine z_icmp_le (tgt := 15) d_Tf_lived_6 (by decide) (fun h6 => ?_) (fun h6 => ?_)
          · first
            | (simp (disch := omega) only [← nI_0, nI_leI, nI_ltI, nI_eq, not_true_eq_false, not_false_eq_true] at h6; done)
            | (simp (disch := omega) only [← nI_0, nI_leI, nI_ltI, nI_eq, not_true_eq_false, not_false_eq_true] at h6; omega)
            | contradiction
            | exact absurd h6 (Int32.not_lt.mpr (by assumption))
            | exact absurd h6 (Int32.not_le.mpr (by assumption))
            | exact absurd h6 (by decide)
            | exact absurd (by decide) h6
            | ( try simp (disch := omega) only [← nI_0, nI_leI, nI_ltI, nI_eq, not_true_eq_false, not_false_eq_true] at h6
                (try have h6b := zbit_n0.mp h6); (try have h6b := zbit_p0.mp h6)
                fail)
          · first
            | (simp (disch := omega) only [← nI_0, nI_leI, nI_ltI, nI_eq, not_true_eq_false, not_false_eq_true] at h6; done)
            | (simp (disch := omega) only [← nI_0, nI_leI, nI_ltI, nI_eq, not_true_eq_false, not_false_eq_true] at h6; omega)
            | contradiction
            | exact absurd h6 (Int32.not_lt.mpr (by assumption))
            | exact absurd h6 (Int32.not_le.mpr (by assumption))
            | exact absurd h6 (by decide)
            | exact absurd (by decide) h6
            | ( try simp (disch := omega) only [← nI_0, nI_leI, nI_ltI, nI_eq, not_true_eq_false, not_false_eq_true] at h6
                (try have h6b := zbit_n0.mp h6); (try have h6b := zbit_p0.mp h6)
                refine z_aload_0 d_Tf_lived_9 ?_
                refine z_iconst (a := nI 5) d_Tf_lived_10 (by decide) ?_
                refine z_Vi1 d_Tf_lived_11 k_Tf_138 (by first | assumption | exact zS0_at (by assumption) (by omega) | exact zS0_at rfl (by omega)) (t_Tf_fail (by assumption)) ⟨Nat.le_of_ble_eq_true rfl, Nat.le_of_ble_eq_true rfl, Nat.le_of_ble_eq_true rfl, Nat.le_of_ble_eq_true rfl⟩ (Nat.le_of_ble_eq_true rfl) ?_
                intro r w hq
                obtain ⟨rfl, rfl⟩ := hq
                refine z_reti d_Tf_lived_14 ?_
                exact ⟨by first | rfl | assumption, cW_0⟩))
theorem t_Tf_lived_n {j : Nat} (Z : clOk f d P S) (N : fenIn I f nt np nl nn) (hj : j < 5) (h0 : I 121 0 = nI 0) : zEi G y_Tf_lived prog_1_method_49_code 2 (some .int) 2 [.ref 0, .int (nI j)] (I, J, P, S) (fun r w => r = -1 ∧ cW I J P S 8 w) := by
  obtain ⟨⟨c0, c3, c1s⟩, ⟨c5, c2s, ctr⟩, ⟨c6, c11s, c11, c13s⟩, ⟨c7, c15s, c15⟩, ⟨c8, c16s, c16a, c16b, c17s⟩, ⟨c9, c10, cfd, F, Fd⟩, ⟨c11b, Ft⟩, ⟨c12, c69s, cmk⟩, ⟨c14, c121s, c121, c122s⟩, ⟨c15b, c123s, c123, c124s⟩, ⟨c16, c125s, c125, c126s⟩, ⟨c17, c127s, c127, c128s, ctb⟩, ⟨c18, c139s, c139, c140s⟩, ⟨c19, c141s, ⟨c141a, c142s⟩, ⟨c141b, c143s⟩, ⟨c141c, c144s⟩⟩, M⟩ := id Z
  obtain ⟨F0, ⟨F8, F8s⟩, ⟨F9, F9s⟩, ⟨F10, F10s⟩, ⟨F11, F11s⟩, ⟨F12, F12s⟩, ⟨F13, F13s⟩, ⟨F14, F14s⟩, ⟨F15, F15s⟩, ⟨F16, F16s⟩, ⟨F17, F17s⟩, ⟨F18, F18s⟩, ⟨F19, F19s⟩, ⟨Y3, Y3s⟩, ⟨Y4, Y4s⟩, ⟨Y5, Y5s⟩, ⟨Y6, Y6s⟩⟩ := id F
  obtain ⟨⟨n1, n1b⟩, ⟨n2, n2b⟩, ⟨n3, n3b⟩, ⟨n4, n4b⟩, nof, non⟩ := id N
  refine zEi_of (lv := [some (.ref 0), some (.int (nI j))]) (by decide) rfl (Nat.le_of_ble_eq_true rfl) ?_
  refine z_iload_1 d_Tf_lived_0 ?_
  refine z_if_lt (tgt := 9) d_Tf_lived_1 (by decide) (fun h1 => ?_) (fun h1 => ?_)
  · first
    | (simp (disch := omega) only [← nI_0, nI_leI, nI_ltI, nI_eq, not_true_eq_false, not_false_eq_true] at h1; done)
    | (simp (disch := omega) only [← nI_0, nI_leI, nI_ltI, nI_eq, not_true_eq_false, not_false_eq_true] at h1; omega)
    | contradiction
    | exact absurd h1 (Int32.not_lt.mpr (by assumption))
    | exact absurd h1 (Int32.not_le.mpr (by assumption))
    | exact absurd h1 (by decide)
    | exact absurd (by decide) h1
    | ( try simp (disch := omega) only [← nI_0, nI_leI, nI_ltI, nI_eq, not_true_eq_false, not_false_eq_true] at h1
        (try have h1b := zbit_n0.mp h1); (try have h1b := zbit_p0.mp h1)
        refine z_aload_0 d_Tf_lived_9 ?_
        refine z_iconst (a := nI 5) d_Tf_lived_10 (by decide) ?_
        refine z_Vi1 d_Tf_lived_11 k_Tf_138 (by first | assumption | exact zS0_at (by assumption) (by omega) | exact zS0_at rfl (by omega)) (t_Tf_fail (by assumption)) ⟨Nat.le_of_ble_eq_true rfl, Nat.le_of_ble_eq_true rfl, Nat.le_of_ble_eq_true rfl, Nat.le_of_ble_eq_true rfl⟩ (Nat.le_of_ble_eq_true rfl) ?_
        intro r w hq
        obtain ⟨rfl, rfl⟩ := hq
        refine z_reti d_Tf_lived_14 ?_
        exact ⟨by first | rfl | assumption, cW_0⟩)
  · first
    | (simp (disch := omega) only [← nI_0, nI_leI, nI_ltI, nI_eq, not_true_eq_false, not_false_eq_true] at h1; done)
    | (simp (disch := omega) only [← nI_0, nI_leI, nI_ltI, nI_eq, not_true_eq_false, not_false_eq_true] at h1; omega)
    | contradiction
    | exact absurd h1 (Int32.not_lt.mpr (by assumption))
    | exact absurd h1 (Int32.not_le.mpr (by assumption))
    | exact absurd h1 (by decide)
    | exact absurd (by decide) h1
    | ( try simp (disch := omega) only [← nI_0, nI_leI, nI_ltI, nI_eq, not_true_eq_false, not_false_eq_true] at h1
        (try have h1b := zbit_n0.mp h1); (try have h1b := zbit_p0.mp h1)
        refine z_iload_1 d_Tf_lived_4 ?_
        refine z_iconst (a := nI 4) d_Tf_lived_5 (by decide) ?_
        refine z_icmp_le (tgt := 15) d_Tf_lived_6 (by decide) (fun h6 => ?_) (fun h6 => ?_)
        · first
          | (simp (disch := omega) only [← nI_0, nI_leI, nI_ltI, nI_eq, not_true_eq_false, not_false_eq_true] at h6; done)
          | (simp (disch := omega) only [← nI_0, nI_leI, nI_ltI, nI_eq, not_true_eq_false, not_false_eq_true] at h6; omega)
          | contradiction
          | exact absurd h6 (Int32.not_lt.mpr (by assumption))
          | exact absurd h6 (Int32.not_le.mpr (by assumption))
          | exact absurd h6 (by decide)
          | exact absurd (by decide) h6
          | ( try simp (disch := omega) only [← nI_0, nI_leI, nI_ltI, nI_eq, not_true_eq_false, not_false_eq_true] at h6
              (try have h6b := zbit_n0.mp h6); (try have h6b := zbit_p0.mp h6)
              refine z_aload_0 d_Tf_lived_15 ?_
              refine z_getR d_Tf_lived_16 f_Tf_80 (by first | assumption | exact zS0_at (by assumption) (by omega) | exact zS0_at rfl (by omega)) (by first | assumption | exact zS0_at (by assumption) (by omega) | exact zS0_at rfl (by omega)) ?_
              refine z_getIv d_Tf_lived_19 f_Tf_394 (by first | assumption | exact zS0_at (by assumption) (by omega) | exact zS0_at rfl (by omega)) (by first | assumption | ((try simp (disch := omega) only [zu_same, zu_ne, zcp_ne, zfl_ne]); first | assumption | rfl)) ?_
              refine z_if_ne (tgt := 32) d_Tf_lived_22 (by decide) (fun h22 => ?_) (fun h22 => ?_)
              · first
                | (simp (disch := omega) only [← nI_0, nI_leI, nI_ltI, nI_eq, not_true_eq_false, not_false_eq_true] at h22; done)
                | (simp (disch := omega) only [← nI_0, nI_leI, nI_ltI, nI_eq, not_true_eq_false, not_false_eq_true] at h22; omega)
                | contradiction
                | exact absurd h22 (Int32.not_lt.mpr (by assumption))
                | exact absurd h22 (Int32.not_le.mpr (by assumption))
                | exact absurd h22 (by decide)
                | exact absurd (by decide) h22
                | ( try simp (disch := omega) only [← nI_0, nI_leI, nI_ltI, nI_eq, not_true_eq_false, not_false_eq_true] at h22
                    (try have h22b := zbit_n0.mp h22); (try have h22b := zbit_p0.mp h22)
                    fail)
              · first
                | (simp (disch := omega) only [← nI_0, nI_leI, nI_ltI, nI_eq, not_true_eq_false, not_false_eq_true] at h22; done)
                | (simp (disch := omega) only [← nI_0, nI_leI, nI_ltI, nI_eq, not_true_eq_false, not_false_eq_true] at h22; omega)
                | contradiction
                | exact absurd h22 (Int32.not_lt.mpr (by assumption))
                | exact absurd h22 (Int32.not_le.mpr (by assumption))
                | exact absurd h22 (by decide)
                | exact absurd (by decide) h22
                | ( try simp (disch := omega) only [← nI_0, nI_leI, nI_ltI, nI_eq, not_true_eq_false, not_false_eq_true] at h22
                    (try have h22b := zbit_n0.mp h22); (try have h22b := zbit_p0.mp h22)
                    refine z_aload_0 d_Tf_lived_25 ?_
                    refine z_bipush (a := nI 8) d_Tf_lived_26 (by decide) ?_
                    refine z_Vi1 d_Tf_lived_28 k_Tf_138 (by first | assumption | exact zS0_at (by assumption) (by omega) | exact zS0_at rfl (by omega)) (t_Tf_fail (by assumption)) ⟨Nat.le_of_ble_eq_true rfl, Nat.le_of_ble_eq_true rfl, Nat.le_of_ble_eq_true rfl, Nat.le_of_ble_eq_true rfl⟩ (Nat.le_of_ble_eq_true rfl) ?_
                    intro r w hq
                    obtain ⟨rfl, rfl⟩ := hq
                    refine z_reti d_Tf_lived_31 ?_
                    exact ⟨by first | rfl | assumption, cW_0⟩))
        · first
          | (simp (disch := omega) only [← nI_0, nI_leI, nI_ltI, nI_eq, not_true_eq_false, not_false_eq_true] at h6; done)
          | (simp (disch := omega) only [← nI_0, nI_leI, nI_ltI, nI_eq, not_true_eq_false, not_false_eq_true] at h6; omega)
          | contradiction
          | exact absurd h6 (Int32.not_lt.mpr (by assumption))
          | exact absurd h6 (Int32.not_le.mpr (by assumption))
          | exact absurd h6 (by decide)
          | exact absurd (by decide) h6
          | ( try simp (disch := omega) only [← nI_0, nI_leI, nI_ltI, nI_eq, not_true_eq_false, not_false_eq_true] at h6
              (try have h6b := zbit_n0.mp h6); (try have h6b := zbit_p0.mp h6)
              refine z_aload_0 d_Tf_lived_9 ?_
              refine z_iconst (a := nI 5) d_Tf_lived_10 (by decide) ?_
              refine z_Vi1 d_Tf_lived_11 k_Tf_138 (by first | assumption | exact zS0_at (by assumption) (by omega) | exact zS0_at rfl (by omega)) (t_Tf_fail (by assumption)) ⟨Nat.le_of_ble_eq_true rfl, Nat.le_of_ble_eq_true rfl, Nat.le_of_ble_eq_true rfl, Nat.le_of_ble_eq_true rfl⟩ (Nat.le_of_ble_eq_true rfl) ?_
              intro r w hq
              obtain ⟨rfl, rfl⟩ := hq
              refine z_reti d_Tf_lived_14 ?_
              exact ⟨by first | rfl | assumption, cW_0⟩))
theorem t_Tf_lived_0 (Z : clOk f d P S) (N : fenIn I f nt np nl nn) (h0 : I 121 0 = nI 1) : zEi G y_Tf_lived prog_1_method_49_code 2 (some .int) 2 [.ref 0, .int (nI 0)] (I, J, P, S) (fun r w => r = I 121 2 ∧ cW I J P S 0 w) := by
  obtain ⟨⟨c0, c3, c1s⟩, ⟨c5, c2s, ctr⟩, ⟨c6, c11s, c11, c13s⟩, ⟨c7, c15s, c15⟩, ⟨c8, c16s, c16a, c16b, c17s⟩, ⟨c9, c10, cfd, F, Fd⟩, ⟨c11b, Ft⟩, ⟨c12, c69s, cmk⟩, ⟨c14, c121s, c121, c122s⟩, ⟨c15b, c123s, c123, c124s⟩, ⟨c16, c125s, c125, c126s⟩, ⟨c17, c127s, c127, c128s, ctb⟩, ⟨c18, c139s, c139, c140s⟩, ⟨c19, c141s, ⟨c141a, c142s⟩, ⟨c141b, c143s⟩, ⟨c141c, c144s⟩⟩, M⟩ := id Z
  obtain ⟨F0, ⟨F8, F8s⟩, ⟨F9, F9s⟩, ⟨F10, F10s⟩, ⟨F11, F11s⟩, ⟨F12, F12s⟩, ⟨F13, F13s⟩, ⟨F14, F14s⟩, ⟨F15, F15s⟩, ⟨F16, F16s⟩, ⟨F17, F17s⟩, ⟨F18, F18s⟩, ⟨F19, F19s⟩, ⟨Y3, Y3s⟩, ⟨Y4, Y4s⟩, ⟨Y5, Y5s⟩, ⟨Y6, Y6s⟩⟩ := id F
  obtain ⟨⟨n1, n1b⟩, ⟨n2, n2b⟩, ⟨n3, n3b⟩, ⟨n4, n4b⟩, nof, non⟩ := id N
  refine zEi_of (lv := [some (.ref 0), some (.int (nI 0))]) (by decide) rfl (Nat.le_of_ble_eq_true rfl) ?_
  refine z_iload_1 d_Tf_lived_0 ?_
  refine z_if_lt (tgt := 9) d_Tf_lived_1 (by decide) (fun h1 => ?_) (fun h1 => ?_)
  · first
    | (simp (disch := omega) only [← nI_0, nI_leI, nI_ltI, nI_eq, not_true_eq_false, not_false_eq_true] at h1; done)
    | (simp (disch := omega) only [← nI_0, nI_leI, nI_ltI, nI_eq, not_true_eq_false, not_false_eq_true] at h1; omega)
    | contradiction
    | exact absurd h1 (Int32.not_lt.mpr (by assumption))
    | exact absurd h1 (Int32.not_le.mpr (by assumption))
    | exact absurd h1 (by decide)
    | exact absurd (by decide) h1
    | ( try simp (disch := omega) only [← nI_0, nI_leI, nI_ltI, nI_eq, not_true_eq_false, not_false_eq_true] at h1
        (try have h1b := zbit_n0.mp h1); (try have h1b := zbit_p0.mp h1)
        refine z_aload_0 d_Tf_lived_9 ?_
        refine z_iconst (a := nI 5) d_Tf_lived_10 (by decide) ?_
        refine z_Vi1 d_Tf_lived_11 k_Tf_138 (by first | assumption | exact zS0_at (by assumption) (by omega) | exact zS0_at rfl (by omega)) (t_Tf_fail (by assumption)) ⟨Nat.le_of_ble_eq_true rfl, Nat.le_of_ble_eq_true rfl, Nat.le_of_ble_eq_true rfl, Nat.le_of_ble_eq_true rfl⟩ (Nat.le_of_ble_eq_true rfl) ?_
        intro r w hq
        obtain ⟨rfl, rfl⟩ := hq
        refine z_reti d_Tf_lived_14 ?_
        exact ⟨by first | rfl | assumption, cW_0⟩)
  · first
    | (simp (disch := omega) only [← nI_0, nI_leI, nI_ltI, nI_eq, not_true_eq_false, not_false_eq_true] at h1; done)
    | (simp (disch := omega) only [← nI_0, nI_leI, nI_ltI, nI_eq, not_true_eq_false, not_false_eq_true] at h1; omega)
    | contradiction
    | exact absurd h1 (Int32.not_lt.mpr (by assumption))
    | exact absurd h1 (Int32.not_le.mpr (by assumption))
    | exact absurd h1 (by decide)
    | exact absurd (by decide) h1
    | ( try simp (disch := omega) only [← nI_0, nI_leI, nI_ltI, nI_eq, not_true_eq_false, not_false_eq_true] at h1
        (try have h1b := zbit_n0.mp h1); (try have h1b := zbit_p0.mp h1)
        refine z_iload_1 d_Tf_lived_4 ?_
        refine z_iconst (a := nI 4) d_Tf_lived_5 (by decide) ?_
        refine z_icmp_le (tgt := 15) d_Tf_lived_6 (by decide) (fun h6 => ?_) (fun h6 => ?_)
        · first
          | (simp (disch := omega) only [← nI_0, nI_leI, nI_ltI, nI_eq, not_true_eq_false, not_false_eq_true] at h6; done)
          | (simp (disch := omega) only [← nI_0, nI_leI, nI_ltI, nI_eq, not_true_eq_false, not_false_eq_true] at h6; omega)
          | contradiction
          | exact absurd h6 (Int32.not_lt.mpr (by assumption))
          | exact absurd h6 (Int32.not_le.mpr (by assumption))
          | exact absurd h6 (by decide)
          | exact absurd (by decide) h6
          | ( try simp (disch := omega) only [← nI_0, nI_leI, nI_ltI, nI_eq, not_true_eq_false, not_false_eq_true] at h6
              (try have h6b := zbit_n0.mp h6); (try have h6b := zbit_p0.mp h6)
              refine z_aload_0 d_Tf_lived_15 ?_
              refine z_getR d_Tf_lived_16 f_Tf_80 (by first | assumption | exact zS0_at (by assumption) (by omega) | exact zS0_at rfl (by omega)) (by first | assumption | exact zS0_at (by assumption) (by omega) | exact zS0_at rfl (by omega)) ?_
              refine z_getIv d_Tf_lived_19 f_Tf_394 (by first | assumption | exact zS0_at (by assumption) (by omega) | exact zS0_at rfl (by omega)) (by first | assumption | ((try simp (disch := omega) only [zu_same, zu_ne, zcp_ne, zfl_ne]); first | assumption | rfl)) ?_
              refine z_if_ne (tgt := 32) d_Tf_lived_22 (by decide) (fun h22 => ?_) (fun h22 => ?_)
              · first
                | (simp (disch := omega) only [← nI_0, nI_leI, nI_ltI, nI_eq, not_true_eq_false, not_false_eq_true] at h22; done)
                | (simp (disch := omega) only [← nI_0, nI_leI, nI_ltI, nI_eq, not_true_eq_false, not_false_eq_true] at h22; omega)
                | contradiction
                | exact absurd h22 (Int32.not_lt.mpr (by assumption))
                | exact absurd h22 (Int32.not_le.mpr (by assumption))
                | exact absurd h22 (by decide)
                | exact absurd (by decide) h22
                | ( try simp (disch := omega) only [← nI_0, nI_leI, nI_ltI, nI_eq, not_true_eq_false, not_false_eq_true] at h22
                    (try have h22b := zbit_n0.mp h22); (try have h22b := zbit_p0.mp h22)
                    refine z_iload_1 d_Tf_lived_32 ?_
                    refine z_tableIn (off := 31) (tgt := 64) d_Tf_lived_33 (by decide) (by decide) (by decide) (by decide) ?_
                    refine z_aload_0 d_Tf_lived_64 ?_
                    refine z_aload_0 d_Tf_lived_65 ?_
                    refine z_getR d_Tf_lived_66 f_Tf_80 (by first | assumption | exact zS0_at (by assumption) (by omega) | exact zS0_at rfl (by omega)) (by first | assumption | exact zS0_at (by assumption) (by omega) | exact zS0_at rfl (by omega)) ?_
                    refine z_getIv d_Tf_lived_69 f_Tf_395 (by first | assumption | exact zS0_at (by assumption) (by omega) | exact zS0_at rfl (by omega)) (by first | assumption | ((try simp (disch := omega) only [zu_same, zu_ne, zcp_ne, zfl_ne]); first | assumption | rfl)) ?_
                    refine z_Vi1 d_Tf_lived_72 k_Tf_174 (by first | assumption | exact zS0_at (by assumption) (by omega) | exact zS0_at rfl (by omega)) (t_Tf_give (by assumption)) ⟨Nat.le_of_ble_eq_true rfl, Nat.le_of_ble_eq_true rfl, Nat.le_of_ble_eq_true rfl, Nat.le_of_ble_eq_true rfl⟩ (Nat.le_of_ble_eq_true rfl) ?_
                    intro r w hq
                    obtain ⟨rfl, rfl⟩ := hq
                    refine z_reti d_Tf_lived_75 ?_
                    exact ⟨by first | rfl | assumption, cW_0⟩)
              · first
                | (simp (disch := omega) only [← nI_0, nI_leI, nI_ltI, nI_eq, not_true_eq_false, not_false_eq_true] at h22; done)
                | (simp (disch := omega) only [← nI_0, nI_leI, nI_ltI, nI_eq, not_true_eq_false, not_false_eq_true] at h22; omega)
                | contradiction
                | exact absurd h22 (Int32.not_lt.mpr (by assumption))
                | exact absurd h22 (Int32.not_le.mpr (by assumption))
                | exact absurd h22 (by decide)
                | exact absurd (by decide) h22
                | ( try simp (disch := omega) only [← nI_0, nI_leI, nI_ltI, nI_eq, not_true_eq_false, not_false_eq_true] at h22
                    (try have h22b := zbit_n0.mp h22); (try have h22b := zbit_p0.mp h22)
                    refine z_aload_0 d_Tf_lived_25 ?_
                    refine z_bipush (a := nI 8) d_Tf_lived_26 (by decide) ?_
                    refine z_Vi1 d_Tf_lived_28 k_Tf_138 (by first | assumption | exact zS0_at (by assumption) (by omega) | exact zS0_at rfl (by omega)) (t_Tf_fail (by assumption)) ⟨Nat.le_of_ble_eq_true rfl, Nat.le_of_ble_eq_true rfl, Nat.le_of_ble_eq_true rfl, Nat.le_of_ble_eq_true rfl⟩ (Nat.le_of_ble_eq_true rfl) ?_
                    intro r w hq
                    obtain ⟨rfl, rfl⟩ := hq
                    refine z_reti d_Tf_lived_31 ?_
                    exact ⟨by first | rfl | assumption, cW_0⟩))
        · first
          | (simp (disch := omega) only [← nI_0, nI_leI, nI_ltI, nI_eq, not_true_eq_false, not_false_eq_true] at h6; done)
          | (simp (disch := omega) only [← nI_0, nI_leI, nI_ltI, nI_eq, not_true_eq_false, not_false_eq_true] at h6; omega)
          | contradiction
          | exact absurd h6 (Int32.not_lt.mpr (by assumption))
          | exact absurd h6 (Int32.not_le.mpr (by assumption))
          | exact absurd h6 (by decide)
          | exact absurd (by decide) h6
          | ( try simp (disch := omega) only [← nI_0, nI_leI, nI_ltI, nI_eq, not_true_eq_false, not_false_eq_true] at h6
              (try have h6b := zbit_n0.mp h6); (try have h6b := zbit_p0.mp h6)
              refine z_aload_0 d_Tf_lived_9 ?_
              refine z_iconst (a := nI 5) d_Tf_lived_10 (by decide) ?_
              refine z_Vi1 d_Tf_lived_11 k_Tf_138 (by first | assumption | exact zS0_at (by assumption) (by omega) | exact zS0_at rfl (by omega)) (t_Tf_fail (by assumption)) ⟨Nat.le_of_ble_eq_true rfl, Nat.le_of_ble_eq_true rfl, Nat.le_of_ble_eq_true rfl, Nat.le_of_ble_eq_true rfl⟩ (Nat.le_of_ble_eq_true rfl) ?_
              intro r w hq
              obtain ⟨rfl, rfl⟩ := hq
              refine z_reti d_Tf_lived_14 ?_
              exact ⟨by first | rfl | assumption, cW_0⟩))
theorem t_Tf_lived_1 (Z : clOk f d P S) (N : fenIn I f nt np nl nn) (h0 : I 121 0 = nI 1) : zEi G y_Tf_lived prog_1_method_49_code 2 (some .int) 2 [.ref 0, .int (nI 1)] (I, J, P, S) (fun r w => r = I 121 3 ∧ cW I J P S 0 w) := by
  obtain ⟨⟨c0, c3, c1s⟩, ⟨c5, c2s, ctr⟩, ⟨c6, c11s, c11, c13s⟩, ⟨c7, c15s, c15⟩, ⟨c8, c16s, c16a, c16b, c17s⟩, ⟨c9, c10, cfd, F, Fd⟩, ⟨c11b, Ft⟩, ⟨c12, c69s, cmk⟩, ⟨c14, c121s, c121, c122s⟩, ⟨c15b, c123s, c123, c124s⟩, ⟨c16, c125s, c125, c126s⟩, ⟨c17, c127s, c127, c128s, ctb⟩, ⟨c18, c139s, c139, c140s⟩, ⟨c19, c141s, ⟨c141a, c142s⟩, ⟨c141b, c143s⟩, ⟨c141c, c144s⟩⟩, M⟩ := id Z
  obtain ⟨F0, ⟨F8, F8s⟩, ⟨F9, F9s⟩, ⟨F10, F10s⟩, ⟨F11, F11s⟩, ⟨F12, F12s⟩, ⟨F13, F13s⟩, ⟨F14, F14s⟩, ⟨F15, F15s⟩, ⟨F16, F16s⟩, ⟨F17, F17s⟩, ⟨F18, F18s⟩, ⟨F19, F19s⟩, ⟨Y3, Y3s⟩, ⟨Y4, Y4s⟩, ⟨Y5, Y5s⟩, ⟨Y6, Y6s⟩⟩ := id F
  obtain ⟨⟨n1, n1b⟩, ⟨n2, n2b⟩, ⟨n3, n3b⟩, ⟨n4, n4b⟩, nof, non⟩ := id N
  refine zEi_of (lv := [some (.ref 0), some (.int (nI 1))]) (by decide) rfl (Nat.le_of_ble_eq_true rfl) ?_
  refine z_iload_1 d_Tf_lived_0 ?_
  refine z_if_lt (tgt := 9) d_Tf_lived_1 (by decide) (fun h1 => ?_) (fun h1 => ?_)
  · first
    | (simp (disch := omega) only [← nI_0, nI_leI, nI_ltI, nI_eq, not_true_eq_false, not_false_eq_true] at h1; done)
    | (simp (disch := omega) only [← nI_0, nI_leI, nI_ltI, nI_eq, not_true_eq_false, not_false_eq_true] at h1; omega)
    | contradiction
    | exact absurd h1 (Int32.not_lt.mpr (by assumption))
    | exact absurd h1 (Int32.not_le.mpr (by assumption))
    | exact absurd h1 (by decide)
    | exact absurd (by decide) h1
    | ( try simp (disch := omega) only [← nI_0, nI_leI, nI_ltI, nI_eq, not_true_eq_false, not_false_eq_true] at h1
        (try have h1b := zbit_n0.mp h1); (try have h1b := zbit_p0.mp h1)
        refine z_aload_0 d_Tf_lived_9 ?_
        refine z_iconst (a := nI 5) d_Tf_lived_10 (by decide) ?_
        refine z_Vi1 d_Tf_lived_11 k_Tf_138 (by first | assumption | exact zS0_at (by assumption) (by omega) | exact zS0_at rfl (by omega)) (t_Tf_fail (by assumption)) ⟨Nat.le_of_ble_eq_true rfl, Nat.le_of_ble_eq_true rfl, Nat.le_of_ble_eq_true rfl, Nat.le_of_ble_eq_true rfl⟩ (Nat.le_of_ble_eq_true rfl) ?_
        intro r w hq
        obtain ⟨rfl, rfl⟩ := hq
        refine z_reti d_Tf_lived_14 ?_
        exact ⟨by first | rfl | assumption, cW_0⟩)
  · first
    | (simp (disch := omega) only [← nI_0, nI_leI, nI_ltI, nI_eq, not_true_eq_false, not_false_eq_true] at h1; done)
    | (simp (disch := omega) only [← nI_0, nI_leI, nI_ltI, nI_eq, not_true_eq_false, not_false_eq_true] at h1; omega)
    | contradiction
    | exact absurd h1 (Int32.not_lt.mpr (by assumption))
    | exact absurd h1 (Int32.not_le.mpr (by assumption))
    | exact absurd h1 (by decide)
    | exact absurd (by decide) h1
    | ( try simp (disch := omega) only [← nI_0, nI_leI, nI_ltI, nI_eq, not_true_eq_false, not_false_eq_true] at h1
        (try have h1b := zbit_n0.mp h1); (try have h1b := zbit_p0.mp h1)
        refine z_iload_1 d_Tf_lived_4 ?_
        refine z_iconst (a := nI 4) d_Tf_lived_5 (by decide) ?_
        refine z_icmp_le (tgt := 15) d_Tf_lived_6 (by decide) (fun h6 => ?_) (fun h6 => ?_)
        · first
          | (simp (disch := omega) only [← nI_0, nI_leI, nI_ltI, nI_eq, not_true_eq_false, not_false_eq_true] at h6; done)
          | (simp (disch := omega) only [← nI_0, nI_leI, nI_ltI, nI_eq, not_true_eq_false, not_false_eq_true] at h6; omega)
          | contradiction
          | exact absurd h6 (Int32.not_lt.mpr (by assumption))
          | exact absurd h6 (Int32.not_le.mpr (by assumption))
          | exact absurd h6 (by decide)
          | exact absurd (by decide) h6
          | ( try simp (disch := omega) only [← nI_0, nI_leI, nI_ltI, nI_eq, not_true_eq_false, not_false_eq_true] at h6
              (try have h6b := zbit_n0.mp h6); (try have h6b := zbit_p0.mp h6)
              refine z_aload_0 d_Tf_lived_15 ?_
              refine z_getR d_Tf_lived_16 f_Tf_80 (by first | assumption | exact zS0_at (by assumption) (by omega) | exact zS0_at rfl (by omega)) (by first | assumption | exact zS0_at (by assumption) (by omega) | exact zS0_at rfl (by omega)) ?_
              refine z_getIv d_Tf_lived_19 f_Tf_394 (by first | assumption | exact zS0_at (by assumption) (by omega) | exact zS0_at rfl (by omega)) (by first | assumption | ((try simp (disch := omega) only [zu_same, zu_ne, zcp_ne, zfl_ne]); first | assumption | rfl)) ?_
              refine z_if_ne (tgt := 32) d_Tf_lived_22 (by decide) (fun h22 => ?_) (fun h22 => ?_)
              · first
                | (simp (disch := omega) only [← nI_0, nI_leI, nI_ltI, nI_eq, not_true_eq_false, not_false_eq_true] at h22; done)
                | (simp (disch := omega) only [← nI_0, nI_leI, nI_ltI, nI_eq, not_true_eq_false, not_false_eq_true] at h22; omega)
                | contradiction
                | exact absurd h22 (Int32.not_lt.mpr (by assumption))
                | exact absurd h22 (Int32.not_le.mpr (by assumption))
                | exact absurd h22 (by decide)
                | exact absurd (by decide) h22
                | ( try simp (disch := omega) only [← nI_0, nI_leI, nI_ltI, nI_eq, not_true_eq_false, not_false_eq_true] at h22
                    (try have h22b := zbit_n0.mp h22); (try have h22b := zbit_p0.mp h22)
                    refine z_iload_1 d_Tf_lived_32 ?_
                    refine z_tableIn (off := 43) (tgt := 76) d_Tf_lived_33 (by decide) (by decide) (by decide) (by decide) ?_
                    refine z_aload_0 d_Tf_lived_76 ?_
                    refine z_aload_0 d_Tf_lived_77 ?_
                    refine z_getR d_Tf_lived_78 f_Tf_80 (by first | assumption | exact zS0_at (by assumption) (by omega) | exact zS0_at rfl (by omega)) (by first | assumption | exact zS0_at (by assumption) (by omega) | exact zS0_at rfl (by omega)) ?_
                    refine z_getIv d_Tf_lived_81 f_Tf_398 (by first | assumption | exact zS0_at (by assumption) (by omega) | exact zS0_at rfl (by omega)) (by first | assumption | ((try simp (disch := omega) only [zu_same, zu_ne, zcp_ne, zfl_ne]); first | assumption | rfl)) ?_
                    refine z_Vi1 d_Tf_lived_84 k_Tf_174 (by first | assumption | exact zS0_at (by assumption) (by omega) | exact zS0_at rfl (by omega)) (t_Tf_give (by assumption)) ⟨Nat.le_of_ble_eq_true rfl, Nat.le_of_ble_eq_true rfl, Nat.le_of_ble_eq_true rfl, Nat.le_of_ble_eq_true rfl⟩ (Nat.le_of_ble_eq_true rfl) ?_
                    intro r w hq
                    obtain ⟨rfl, rfl⟩ := hq
                    refine z_reti d_Tf_lived_87 ?_
                    exact ⟨by first | rfl | assumption, cW_0⟩)
              · first
                | (simp (disch := omega) only [← nI_0, nI_leI, nI_ltI, nI_eq, not_true_eq_false, not_false_eq_true] at h22; done)
                | (simp (disch := omega) only [← nI_0, nI_leI, nI_ltI, nI_eq, not_true_eq_false, not_false_eq_true] at h22; omega)
                | contradiction
                | exact absurd h22 (Int32.not_lt.mpr (by assumption))
                | exact absurd h22 (Int32.not_le.mpr (by assumption))
                | exact absurd h22 (by decide)
                | exact absurd (by decide) h22
                | ( try simp (disch := omega) only [← nI_0, nI_leI, nI_ltI, nI_eq, not_true_eq_false, not_false_eq_true] at h22
                    (try have h22b := zbit_n0.mp h22); (try have h22b := zbit_p0.mp h22)
                    refine z_aload_0 d_Tf_lived_25 ?_
                    refine z_bipush (a := nI 8) d_Tf_lived_26 (by decide) ?_
                    refine z_Vi1 d_Tf_lived_28 k_Tf_138 (by first | assumption | exact zS0_at (by assumption) (by omega) | exact zS0_at rfl (by omega)) (t_Tf_fail (by assumption)) ⟨Nat.le_of_ble_eq_true rfl, Nat.le_of_ble_eq_true rfl, Nat.le_of_ble_eq_true rfl, Nat.le_of_ble_eq_true rfl⟩ (Nat.le_of_ble_eq_true rfl) ?_
                    intro r w hq
                    obtain ⟨rfl, rfl⟩ := hq
                    refine z_reti d_Tf_lived_31 ?_
                    exact ⟨by first | rfl | assumption, cW_0⟩))
        · first
          | (simp (disch := omega) only [← nI_0, nI_leI, nI_ltI, nI_eq, not_true_eq_false, not_false_eq_true] at h6; done)
          | (simp (disch := omega) only [← nI_0, nI_leI, nI_ltI, nI_eq, not_true_eq_false, not_false_eq_true] at h6; omega)
          | contradiction
          | exact absurd h6 (Int32.not_lt.mpr (by assumption))
          | exact absurd h6 (Int32.not_le.mpr (by assumption))
          | exact absurd h6 (by decide)
          | exact absurd (by decide) h6
          | ( try simp (disch := omega) only [← nI_0, nI_leI, nI_ltI, nI_eq, not_true_eq_false, not_false_eq_true] at h6
              (try have h6b := zbit_n0.mp h6); (try have h6b := zbit_p0.mp h6)
              refine z_aload_0 d_Tf_lived_9 ?_
              refine z_iconst (a := nI 5) d_Tf_lived_10 (by decide) ?_
              refine z_Vi1 d_Tf_lived_11 k_Tf_138 (by first | assumption | exact zS0_at (by assumption) (by omega) | exact zS0_at rfl (by omega)) (t_Tf_fail (by assumption)) ⟨Nat.le_of_ble_eq_true rfl, Nat.le_of_ble_eq_true rfl, Nat.le_of_ble_eq_true rfl, Nat.le_of_ble_eq_true rfl⟩ (Nat.le_of_ble_eq_true rfl) ?_
              intro r w hq
              obtain ⟨rfl, rfl⟩ := hq
              refine z_reti d_Tf_lived_14 ?_
              exact ⟨by first | rfl | assumption, cW_0⟩))
theorem t_Tf_lived_2 (Z : clOk f d P S) (N : fenIn I f nt np nl nn) (h0 : I 121 0 = nI 1) : zEi G y_Tf_lived prog_1_method_49_code 2 (some .int) 2 [.ref 0, .int (nI 2)] (I, J, P, S) (fun r w => r = I 121 4 ∧ cW I J P S 0 w) := by
  obtain ⟨⟨c0, c3, c1s⟩, ⟨c5, c2s, ctr⟩, ⟨c6, c11s, c11, c13s⟩, ⟨c7, c15s, c15⟩, ⟨c8, c16s, c16a, c16b, c17s⟩, ⟨c9, c10, cfd, F, Fd⟩, ⟨c11b, Ft⟩, ⟨c12, c69s, cmk⟩, ⟨c14, c121s, c121, c122s⟩, ⟨c15b, c123s, c123, c124s⟩, ⟨c16, c125s, c125, c126s⟩, ⟨c17, c127s, c127, c128s, ctb⟩, ⟨c18, c139s, c139, c140s⟩, ⟨c19, c141s, ⟨c141a, c142s⟩, ⟨c141b, c143s⟩, ⟨c141c, c144s⟩⟩, M⟩ := id Z
  obtain ⟨F0, ⟨F8, F8s⟩, ⟨F9, F9s⟩, ⟨F10, F10s⟩, ⟨F11, F11s⟩, ⟨F12, F12s⟩, ⟨F13, F13s⟩, ⟨F14, F14s⟩, ⟨F15, F15s⟩, ⟨F16, F16s⟩, ⟨F17, F17s⟩, ⟨F18, F18s⟩, ⟨F19, F19s⟩, ⟨Y3, Y3s⟩, ⟨Y4, Y4s⟩, ⟨Y5, Y5s⟩, ⟨Y6, Y6s⟩⟩ := id F
  obtain ⟨⟨n1, n1b⟩, ⟨n2, n2b⟩, ⟨n3, n3b⟩, ⟨n4, n4b⟩, nof, non⟩ := id N
  refine zEi_of (lv := [some (.ref 0), some (.int (nI 2))]) (by decide) rfl (Nat.le_of_ble_eq_true rfl) ?_
  refine z_iload_1 d_Tf_lived_0 ?_
  refine z_if_lt (tgt := 9) d_Tf_lived_1 (by decide) (fun h1 => ?_) (fun h1 => ?_)
  · first
    | (simp (disch := omega) only [← nI_0, nI_leI, nI_ltI, nI_eq, not_true_eq_false, not_false_eq_true] at h1; done)
    | (simp (disch := omega) only [← nI_0, nI_leI, nI_ltI, nI_eq, not_true_eq_false, not_false_eq_true] at h1; omega)
    | contradiction
    | exact absurd h1 (Int32.not_lt.mpr (by assumption))
    | exact absurd h1 (Int32.not_le.mpr (by assumption))
    | exact absurd h1 (by decide)
    | exact absurd (by decide) h1
    | ( try simp (disch := omega) only [← nI_0, nI_leI, nI_ltI, nI_eq, not_true_eq_false, not_false_eq_true] at h1
        (try have h1b := zbit_n0.mp h1); (try have h1b := zbit_p0.mp h1)
        refine z_aload_0 d_Tf_lived_9 ?_
        refine z_iconst (a := nI 5) d_Tf_lived_10 (by decide) ?_
        refine z_Vi1 d_Tf_lived_11 k_Tf_138 (by first | assumption | exact zS0_at (by assumption) (by omega) | exact zS0_at rfl (by omega)) (t_Tf_fail (by assumption)) ⟨Nat.le_of_ble_eq_true rfl, Nat.le_of_ble_eq_true rfl, Nat.le_of_ble_eq_true rfl, Nat.le_of_ble_eq_true rfl⟩ (Nat.le_of_ble_eq_true rfl) ?_
        intro r w hq
        obtain ⟨rfl, rfl⟩ := hq
        refine z_reti d_Tf_lived_14 ?_
        exact ⟨by first | rfl | assumption, cW_0⟩)
  · first
    | (simp (disch := omega) only [← nI_0, nI_leI, nI_ltI, nI_eq, not_true_eq_false, not_false_eq_true] at h1; done)
    | (simp (disch := omega) only [← nI_0, nI_leI, nI_ltI, nI_eq, not_true_eq_false, not_false_eq_true] at h1; omega)
    | contradiction
    | exact absurd h1 (Int32.not_lt.mpr (by assumption))
    | exact absurd h1 (Int32.not_le.mpr (by assumption))
    | exact absurd h1 (by decide)
    | exact absurd (by decide) h1
    | ( try simp (disch := omega) only [← nI_0, nI_leI, nI_ltI, nI_eq, not_true_eq_false, not_false_eq_true] at h1
        (try have h1b := zbit_n0.mp h1); (try have h1b := zbit_p0.mp h1)
        refine z_iload_1 d_Tf_lived_4 ?_
        refine z_iconst (a := nI 4) d_Tf_lived_5 (by decide) ?_
        refine z_icmp_le (tgt := 15) d_Tf_lived_6 (by decide) (fun h6 => ?_) (fun h6 => ?_)
        · first
          | (simp (disch := omega) only [← nI_0, nI_leI, nI_ltI, nI_eq, not_true_eq_false, not_false_eq_true] at h6; done)
          | (simp (disch := omega) only [← nI_0, nI_leI, nI_ltI, nI_eq, not_true_eq_false, not_false_eq_true] at h6; omega)
          | contradiction
          | exact absurd h6 (Int32.not_lt.mpr (by assumption))
          | exact absurd h6 (Int32.not_le.mpr (by assumption))
          | exact absurd h6 (by decide)
          | exact absurd (by decide) h6
          | ( try simp (disch := omega) only [← nI_0, nI_leI, nI_ltI, nI_eq, not_true_eq_false, not_false_eq_true] at h6
              (try have h6b := zbit_n0.mp h6); (try have h6b := zbit_p0.mp h6)
              refine z_aload_0 d_Tf_lived_15 ?_
              refine z_getR d_Tf_lived_16 f_Tf_80 (by first | assumption | exact zS0_at (by assumption) (by omega) | exact zS0_at rfl (by omega)) (by first | assumption | exact zS0_at (by assumption) (by omega) | exact zS0_at rfl (by omega)) ?_
              refine z_getIv d_Tf_lived_19 f_Tf_394 (by first | assumption | exact zS0_at (by assumption) (by omega) | exact zS0_at rfl (by omega)) (by first | assumption | ((try simp (disch := omega) only [zu_same, zu_ne, zcp_ne, zfl_ne]); first | assumption | rfl)) ?_
              refine z_if_ne (tgt := 32) d_Tf_lived_22 (by decide) (fun h22 => ?_) (fun h22 => ?_)
              · first
                | (simp (disch := omega) only [← nI_0, nI_leI, nI_ltI, nI_eq, not_true_eq_false, not_false_eq_true] at h22; done)
                | (simp (disch := omega) only [← nI_0, nI_leI, nI_ltI, nI_eq, not_true_eq_false, not_false_eq_true] at h22; omega)
                | contradiction
                | exact absurd h22 (Int32.not_lt.mpr (by assumption))
                | exact absurd h22 (Int32.not_le.mpr (by assumption))
                | exact absurd h22 (by decide)
                | exact absurd (by decide) h22
                | ( try simp (disch := omega) only [← nI_0, nI_leI, nI_ltI, nI_eq, not_true_eq_false, not_false_eq_true] at h22
                    (try have h22b := zbit_n0.mp h22); (try have h22b := zbit_p0.mp h22)
                    refine z_iload_1 d_Tf_lived_32 ?_
                    refine z_tableIn (off := 55) (tgt := 88) d_Tf_lived_33 (by decide) (by decide) (by decide) (by decide) ?_
                    refine z_aload_0 d_Tf_lived_88 ?_
                    refine z_aload_0 d_Tf_lived_89 ?_
                    refine z_getR d_Tf_lived_90 f_Tf_80 (by first | assumption | exact zS0_at (by assumption) (by omega) | exact zS0_at rfl (by omega)) (by first | assumption | exact zS0_at (by assumption) (by omega) | exact zS0_at rfl (by omega)) ?_
                    refine z_getIv d_Tf_lived_93 f_Tf_399 (by first | assumption | exact zS0_at (by assumption) (by omega) | exact zS0_at rfl (by omega)) (by first | assumption | ((try simp (disch := omega) only [zu_same, zu_ne, zcp_ne, zfl_ne]); first | assumption | rfl)) ?_
                    refine z_Vi1 d_Tf_lived_96 k_Tf_174 (by first | assumption | exact zS0_at (by assumption) (by omega) | exact zS0_at rfl (by omega)) (t_Tf_give (by assumption)) ⟨Nat.le_of_ble_eq_true rfl, Nat.le_of_ble_eq_true rfl, Nat.le_of_ble_eq_true rfl, Nat.le_of_ble_eq_true rfl⟩ (Nat.le_of_ble_eq_true rfl) ?_
                    intro r w hq
                    obtain ⟨rfl, rfl⟩ := hq
                    refine z_reti d_Tf_lived_99 ?_
                    exact ⟨by first | rfl | assumption, cW_0⟩)
              · first
                | (simp (disch := omega) only [← nI_0, nI_leI, nI_ltI, nI_eq, not_true_eq_false, not_false_eq_true] at h22; done)
                | (simp (disch := omega) only [← nI_0, nI_leI, nI_ltI, nI_eq, not_true_eq_false, not_false_eq_true] at h22; omega)
                | contradiction
                | exact absurd h22 (Int32.not_lt.mpr (by assumption))
                | exact absurd h22 (Int32.not_le.mpr (by assumption))
                | exact absurd h22 (by decide)
                | exact absurd (by decide) h22
                | ( try simp (disch := omega) only [← nI_0, nI_leI, nI_ltI, nI_eq, not_true_eq_false, not_false_eq_true] at h22
                    (try have h22b := zbit_n0.mp h22); (try have h22b := zbit_p0.mp h22)
                    refine z_aload_0 d_Tf_lived_25 ?_
                    refine z_bipush (a := nI 8) d_Tf_lived_26 (by decide) ?_
                    refine z_Vi1 d_Tf_lived_28 k_Tf_138 (by first | assumption | exact zS0_at (by assumption) (by omega) | exact zS0_at rfl (by omega)) (t_Tf_fail (by assumption)) ⟨Nat.le_of_ble_eq_true rfl, Nat.le_of_ble_eq_true rfl, Nat.le_of_ble_eq_true rfl, Nat.le_of_ble_eq_true rfl⟩ (Nat.le_of_ble_eq_true rfl) ?_
                    intro r w hq
                    obtain ⟨rfl, rfl⟩ := hq
                    refine z_reti d_Tf_lived_31 ?_
                    exact ⟨by first | rfl | assumption, cW_0⟩))
        · first
          | (simp (disch := omega) only [← nI_0, nI_leI, nI_ltI, nI_eq, not_true_eq_false, not_false_eq_true] at h6; done)
          | (simp (disch := omega) only [← nI_0, nI_leI, nI_ltI, nI_eq, not_true_eq_false, not_false_eq_true] at h6; omega)
          | contradiction
          | exact absurd h6 (Int32.not_lt.mpr (by assumption))
          | exact absurd h6 (Int32.not_le.mpr (by assumption))
          | exact absurd h6 (by decide)
          | exact absurd (by decide) h6
          | ( try simp (disch := omega) only [← nI_0, nI_leI, nI_ltI, nI_eq, not_true_eq_false, not_false_eq_true] at h6
              (try have h6b := zbit_n0.mp h6); (try have h6b := zbit_p0.mp h6)
              refine z_aload_0 d_Tf_lived_9 ?_
              refine z_iconst (a := nI 5) d_Tf_lived_10 (by decide) ?_
              refine z_Vi1 d_Tf_lived_11 k_Tf_138 (by first | assumption | exact zS0_at (by assumption) (by omega) | exact zS0_at rfl (by omega)) (t_Tf_fail (by assumption)) ⟨Nat.le_of_ble_eq_true rfl, Nat.le_of_ble_eq_true rfl, Nat.le_of_ble_eq_true rfl, Nat.le_of_ble_eq_true rfl⟩ (Nat.le_of_ble_eq_true rfl) ?_
              intro r w hq
              obtain ⟨rfl, rfl⟩ := hq
              refine z_reti d_Tf_lived_14 ?_
              exact ⟨by first | rfl | assumption, cW_0⟩))
theorem t_Tf_lived_3 (Z : clOk f d P S) (N : fenIn I f nt np nl nn) (h0 : I 121 0 = nI 1) : zEi G y_Tf_lived prog_1_method_49_code 2 (some .int) 2 [.ref 0, .int (nI 3)] (I, J, P, S) (fun r w => r = I 121 5 ∧ cW I J P S 0 w) := by
  obtain ⟨⟨c0, c3, c1s⟩, ⟨c5, c2s, ctr⟩, ⟨c6, c11s, c11, c13s⟩, ⟨c7, c15s, c15⟩, ⟨c8, c16s, c16a, c16b, c17s⟩, ⟨c9, c10, cfd, F, Fd⟩, ⟨c11b, Ft⟩, ⟨c12, c69s, cmk⟩, ⟨c14, c121s, c121, c122s⟩, ⟨c15b, c123s, c123, c124s⟩, ⟨c16, c125s, c125, c126s⟩, ⟨c17, c127s, c127, c128s, ctb⟩, ⟨c18, c139s, c139, c140s⟩, ⟨c19, c141s, ⟨c141a, c142s⟩, ⟨c141b, c143s⟩, ⟨c141c, c144s⟩⟩, M⟩ := id Z
  obtain ⟨F0, ⟨F8, F8s⟩, ⟨F9, F9s⟩, ⟨F10, F10s⟩, ⟨F11, F11s⟩, ⟨F12, F12s⟩, ⟨F13, F13s⟩, ⟨F14, F14s⟩, ⟨F15, F15s⟩, ⟨F16, F16s⟩, ⟨F17, F17s⟩, ⟨F18, F18s⟩, ⟨F19, F19s⟩, ⟨Y3, Y3s⟩, ⟨Y4, Y4s⟩, ⟨Y5, Y5s⟩, ⟨Y6, Y6s⟩⟩ := id F
  obtain ⟨⟨n1, n1b⟩, ⟨n2, n2b⟩, ⟨n3, n3b⟩, ⟨n4, n4b⟩, nof, non⟩ := id N
  refine zEi_of (lv := [some (.ref 0), some (.int (nI 3))]) (by decide) rfl (Nat.le_of_ble_eq_true rfl) ?_
  refine z_iload_1 d_Tf_lived_0 ?_
  refine z_if_lt (tgt := 9) d_Tf_lived_1 (by decide) (fun h1 => ?_) (fun h1 => ?_)
  · first
    | (simp (disch := omega) only [← nI_0, nI_leI, nI_ltI, nI_eq, not_true_eq_false, not_false_eq_true] at h1; done)
    | (simp (disch := omega) only [← nI_0, nI_leI, nI_ltI, nI_eq, not_true_eq_false, not_false_eq_true] at h1; omega)
    | contradiction
    | exact absurd h1 (Int32.not_lt.mpr (by assumption))
    | exact absurd h1 (Int32.not_le.mpr (by assumption))
    | exact absurd h1 (by decide)
    | exact absurd (by decide) h1
    | ( try simp (disch := omega) only [← nI_0, nI_leI, nI_ltI, nI_eq, not_true_eq_false, not_false_eq_true] at h1
        (try have h1b := zbit_n0.mp h1); (try have h1b := zbit_p0.mp h1)
        refine z_aload_0 d_Tf_lived_9 ?_
        refine z_iconst (a := nI 5) d_Tf_lived_10 (by decide) ?_
        refine z_Vi1 d_Tf_lived_11 k_Tf_138 (by first | assumption | exact zS0_at (by assumption) (by omega) | exact zS0_at rfl (by omega)) (t_Tf_fail (by assumption)) ⟨Nat.le_of_ble_eq_true rfl, Nat.le_of_ble_eq_true rfl, Nat.le_of_ble_eq_true rfl, Nat.le_of_ble_eq_true rfl⟩ (Nat.le_of_ble_eq_true rfl) ?_
        intro r w hq
        obtain ⟨rfl, rfl⟩ := hq
        refine z_reti d_Tf_lived_14 ?_
        exact ⟨by first | rfl | assumption, cW_0⟩)
  · first
    | (simp (disch := omega) only [← nI_0, nI_leI, nI_ltI, nI_eq, not_true_eq_false, not_false_eq_true] at h1; done)
    | (simp (disch := omega) only [← nI_0, nI_leI, nI_ltI, nI_eq, not_true_eq_false, not_false_eq_true] at h1; omega)
    | contradiction
    | exact absurd h1 (Int32.not_lt.mpr (by assumption))
    | exact absurd h1 (Int32.not_le.mpr (by assumption))
    | exact absurd h1 (by decide)
    | exact absurd (by decide) h1
    | ( try simp (disch := omega) only [← nI_0, nI_leI, nI_ltI, nI_eq, not_true_eq_false, not_false_eq_true] at h1
        (try have h1b := zbit_n0.mp h1); (try have h1b := zbit_p0.mp h1)
        refine z_iload_1 d_Tf_lived_4 ?_
        refine z_iconst (a := nI 4) d_Tf_lived_5 (by decide) ?_
        refine z_icmp_le (tgt := 15) d_Tf_lived_6 (by decide) (fun h6 => ?_) (fun h6 => ?_)
        · first
          | (simp (disch := omega) only [← nI_0, nI_leI, nI_ltI, nI_eq, not_true_eq_false, not_false_eq_true] at h6; done)
          | (simp (disch := omega) only [← nI_0, nI_leI, nI_ltI, nI_eq, not_true_eq_false, not_false_eq_true] at h6; omega)
          | contradiction
          | exact absurd h6 (Int32.not_lt.mpr (by assumption))
          | exact absurd h6 (Int32.not_le.mpr (by assumption))
          | exact absurd h6 (by decide)
          | exact absurd (by decide) h6
          | ( try simp (disch := omega) only [← nI_0, nI_leI, nI_ltI, nI_eq, not_true_eq_false, not_false_eq_true] at h6
              (try have h6b := zbit_n0.mp h6); (try have h6b := zbit_p0.mp h6)
              refine z_aload_0 d_Tf_lived_15 ?_
              refine z_getR d_Tf_lived_16 f_Tf_80 (by first | assumption | exact zS0_at (by assumption) (by omega) | exact zS0_at rfl (by omega)) (by first | assumption | exact zS0_at (by assumption) (by omega) | exact zS0_at rfl (by omega)) ?_
              refine z_getIv d_Tf_lived_19 f_Tf_394 (by first | assumption | exact zS0_at (by assumption) (by omega) | exact zS0_at rfl (by omega)) (by first | assumption | ((try simp (disch := omega) only [zu_same, zu_ne, zcp_ne, zfl_ne]); first | assumption | rfl)) ?_
              refine z_if_ne (tgt := 32) d_Tf_lived_22 (by decide) (fun h22 => ?_) (fun h22 => ?_)
              · first
                | (simp (disch := omega) only [← nI_0, nI_leI, nI_ltI, nI_eq, not_true_eq_false, not_false_eq_true] at h22; done)
                | (simp (disch := omega) only [← nI_0, nI_leI, nI_ltI, nI_eq, not_true_eq_false, not_false_eq_true] at h22; omega)
                | contradiction
                | exact absurd h22 (Int32.not_lt.mpr (by assumption))
                | exact absurd h22 (Int32.not_le.mpr (by assumption))
                | exact absurd h22 (by decide)
                | exact absurd (by decide) h22
                | ( try simp (disch := omega) only [← nI_0, nI_leI, nI_ltI, nI_eq, not_true_eq_false, not_false_eq_true] at h22
                    (try have h22b := zbit_n0.mp h22); (try have h22b := zbit_p0.mp h22)
                    refine z_iload_1 d_Tf_lived_32 ?_
                    refine z_tableIn (off := 67) (tgt := 100) d_Tf_lived_33 (by decide) (by decide) (by decide) (by decide) ?_
                    refine z_aload_0 d_Tf_lived_100 ?_
                    refine z_aload_0 d_Tf_lived_101 ?_
                    refine z_getR d_Tf_lived_102 f_Tf_80 (by first | assumption | exact zS0_at (by assumption) (by omega) | exact zS0_at rfl (by omega)) (by first | assumption | exact zS0_at (by assumption) (by omega) | exact zS0_at rfl (by omega)) ?_
                    refine z_getIv d_Tf_lived_105 f_Tf_400 (by first | assumption | exact zS0_at (by assumption) (by omega) | exact zS0_at rfl (by omega)) (by first | assumption | ((try simp (disch := omega) only [zu_same, zu_ne, zcp_ne, zfl_ne]); first | assumption | rfl)) ?_
                    refine z_Vi1 d_Tf_lived_108 k_Tf_174 (by first | assumption | exact zS0_at (by assumption) (by omega) | exact zS0_at rfl (by omega)) (t_Tf_give (by assumption)) ⟨Nat.le_of_ble_eq_true rfl, Nat.le_of_ble_eq_true rfl, Nat.le_of_ble_eq_true rfl, Nat.le_of_ble_eq_true rfl⟩ (Nat.le_of_ble_eq_true rfl) ?_
                    intro r w hq
                    obtain ⟨rfl, rfl⟩ := hq
                    refine z_reti d_Tf_lived_111 ?_
                    exact ⟨by first | rfl | assumption, cW_0⟩)
              · first
                | (simp (disch := omega) only [← nI_0, nI_leI, nI_ltI, nI_eq, not_true_eq_false, not_false_eq_true] at h22; done)
                | (simp (disch := omega) only [← nI_0, nI_leI, nI_ltI, nI_eq, not_true_eq_false, not_false_eq_true] at h22; omega)
                | contradiction
                | exact absurd h22 (Int32.not_lt.mpr (by assumption))
                | exact absurd h22 (Int32.not_le.mpr (by assumption))
                | exact absurd h22 (by decide)
                | exact absurd (by decide) h22
                | ( try simp (disch := omega) only [← nI_0, nI_leI, nI_ltI, nI_eq, not_true_eq_false, not_false_eq_true] at h22
                    (try have h22b := zbit_n0.mp h22); (try have h22b := zbit_p0.mp h22)
                    refine z_aload_0 d_Tf_lived_25 ?_
                    refine z_bipush (a := nI 8) d_Tf_lived_26 (by decide) ?_
                    refine z_Vi1 d_Tf_lived_28 k_Tf_138 (by first | assumption | exact zS0_at (by assumption) (by omega) | exact zS0_at rfl (by omega)) (t_Tf_fail (by assumption)) ⟨Nat.le_of_ble_eq_true rfl, Nat.le_of_ble_eq_true rfl, Nat.le_of_ble_eq_true rfl, Nat.le_of_ble_eq_true rfl⟩ (Nat.le_of_ble_eq_true rfl) ?_
                    intro r w hq
                    obtain ⟨rfl, rfl⟩ := hq
                    refine z_reti d_Tf_lived_31 ?_
                    exact ⟨by first | rfl | assumption, cW_0⟩))
        · first
          | (simp (disch := omega) only [← nI_0, nI_leI, nI_ltI, nI_eq, not_true_eq_false, not_false_eq_true] at h6; done)
          | (simp (disch := omega) only [← nI_0, nI_leI, nI_ltI, nI_eq, not_true_eq_false, not_false_eq_true] at h6; omega)
          | contradiction
          | exact absurd h6 (Int32.not_lt.mpr (by assumption))
          | exact absurd h6 (Int32.not_le.mpr (by assumption))
          | exact absurd h6 (by decide)
          | exact absurd (by decide) h6
          | ( try simp (disch := omega) only [← nI_0, nI_leI, nI_ltI, nI_eq, not_true_eq_false, not_false_eq_true] at h6
              (try have h6b := zbit_n0.mp h6); (try have h6b := zbit_p0.mp h6)
              refine z_aload_0 d_Tf_lived_9 ?_
              refine z_iconst (a := nI 5) d_Tf_lived_10 (by decide) ?_
              refine z_Vi1 d_Tf_lived_11 k_Tf_138 (by first | assumption | exact zS0_at (by assumption) (by omega) | exact zS0_at rfl (by omega)) (t_Tf_fail (by assumption)) ⟨Nat.le_of_ble_eq_true rfl, Nat.le_of_ble_eq_true rfl, Nat.le_of_ble_eq_true rfl, Nat.le_of_ble_eq_true rfl⟩ (Nat.le_of_ble_eq_true rfl) ?_
              intro r w hq
              obtain ⟨rfl, rfl⟩ := hq
              refine z_reti d_Tf_lived_14 ?_
              exact ⟨by first | rfl | assumption, cW_0⟩))
theorem t_Tf_lived_4 (Z : clOk f d P S) (N : fenIn I f nt np nl nn) (h0 : I 121 0 = nI 1) : zEi G y_Tf_lived prog_1_method_49_code 2 (some .int) 2 [.ref 0, .int (nI 4)] (I, J, P, S) (fun r w => r = I 121 6 ∧ cW I J P S 0 w) := by
  obtain ⟨⟨c0, c3, c1s⟩, ⟨c5, c2s, ctr⟩, ⟨c6, c11s, c11, c13s⟩, ⟨c7, c15s, c15⟩, ⟨c8, c16s, c16a, c16b, c17s⟩, ⟨c9, c10, cfd, F, Fd⟩, ⟨c11b, Ft⟩, ⟨c12, c69s, cmk⟩, ⟨c14, c121s, c121, c122s⟩, ⟨c15b, c123s, c123, c124s⟩, ⟨c16, c125s, c125, c126s⟩, ⟨c17, c127s, c127, c128s, ctb⟩, ⟨c18, c139s, c139, c140s⟩, ⟨c19, c141s, ⟨c141a, c142s⟩, ⟨c141b, c143s⟩, ⟨c141c, c144s⟩⟩, M⟩ := id Z
  obtain ⟨F0, ⟨F8, F8s⟩, ⟨F9, F9s⟩, ⟨F10, F10s⟩, ⟨F11, F11s⟩, ⟨F12, F12s⟩, ⟨F13, F13s⟩, ⟨F14, F14s⟩, ⟨F15, F15s⟩, ⟨F16, F16s⟩, ⟨F17, F17s⟩, ⟨F18, F18s⟩, ⟨F19, F19s⟩, ⟨Y3, Y3s⟩, ⟨Y4, Y4s⟩, ⟨Y5, Y5s⟩, ⟨Y6, Y6s⟩⟩ := id F
  obtain ⟨⟨n1, n1b⟩, ⟨n2, n2b⟩, ⟨n3, n3b⟩, ⟨n4, n4b⟩, nof, non⟩ := id N
  refine zEi_of (lv := [some (.ref 0), some (.int (nI 4))]) (by decide) rfl (Nat.le_of_ble_eq_true rfl) ?_
  refine z_iload_1 d_Tf_lived_0 ?_
  refine z_if_lt (tgt := 9) d_Tf_lived_1 (by decide) (fun h1 => ?_) (fun h1 => ?_)
  · first
    | (simp (disch := omega) only [← nI_0, nI_leI, nI_ltI, nI_eq, not_true_eq_false, not_false_eq_true] at h1; done)
    | (simp (disch := omega) only [← nI_0, nI_leI, nI_ltI, nI_eq, not_true_eq_false, not_false_eq_true] at h1; omega)
    | contradiction
    | exact absurd h1 (Int32.not_lt.mpr (by assumption))
    | exact absurd h1 (Int32.not_le.mpr (by assumption))
    | exact absurd h1 (by decide)
    | exact absurd (by decide) h1
    | ( try simp (disch := omega) only [← nI_0, nI_leI, nI_ltI, nI_eq, not_true_eq_false, not_false_eq_true] at h1
        (try have h1b := zbit_n0.mp h1); (try have h1b := zbit_p0.mp h1)
        refine z_aload_0 d_Tf_lived_9 ?_
        refine z_iconst (a := nI 5) d_Tf_lived_10 (by decide) ?_
        refine z_Vi1 d_Tf_lived_11 k_Tf_138 (by first | assumption | exact zS0_at (by assumption) (by omega) | exact zS0_at rfl (by omega)) (t_Tf_fail (by assumption)) ⟨Nat.le_of_ble_eq_true rfl, Nat.le_of_ble_eq_true rfl, Nat.le_of_ble_eq_true rfl, Nat.le_of_ble_eq_true rfl⟩ (Nat.le_of_ble_eq_true rfl) ?_
        intro r w hq
        obtain ⟨rfl, rfl⟩ := hq
        refine z_reti d_Tf_lived_14 ?_
        exact ⟨by first | rfl | assumption, cW_0⟩)
  · first
    | (simp (disch := omega) only [← nI_0, nI_leI, nI_ltI, nI_eq, not_true_eq_false, not_false_eq_true] at h1; done)
    | (simp (disch := omega) only [← nI_0, nI_leI, nI_ltI, nI_eq, not_true_eq_false, not_false_eq_true] at h1; omega)
    | contradiction
    | exact absurd h1 (Int32.not_lt.mpr (by assumption))
    | exact absurd h1 (Int32.not_le.mpr (by assumption))
    | exact absurd h1 (by decide)
    | exact absurd (by decide) h1
    | ( try simp (disch := omega) only [← nI_0, nI_leI, nI_ltI, nI_eq, not_true_eq_false, not_false_eq_true] at h1
        (try have h1b := zbit_n0.mp h1); (try have h1b := zbit_p0.mp h1)
        refine z_iload_1 d_Tf_lived_4 ?_
        refine z_iconst (a := nI 4) d_Tf_lived_5 (by decide) ?_
        refine z_icmp_le (tgt := 15) d_Tf_lived_6 (by decide) (fun h6 => ?_) (fun h6 => ?_)
        · first
          | (simp (disch := omega) only [← nI_0, nI_leI, nI_ltI, nI_eq, not_true_eq_false, not_false_eq_true] at h6; done)
          | (simp (disch := omega) only [← nI_0, nI_leI, nI_ltI, nI_eq, not_true_eq_false, not_false_eq_true] at h6; omega)
          | contradiction
          | exact absurd h6 (Int32.not_lt.mpr (by assumption))
          | exact absurd h6 (Int32.not_le.mpr (by assumption))
          | exact absurd h6 (by decide)
          | exact absurd (by decide) h6
          | ( try simp (disch := omega) only [← nI_0, nI_leI, nI_ltI, nI_eq, not_true_eq_false, not_false_eq_true] at h6
              (try have h6b := zbit_n0.mp h6); (try have h6b := zbit_p0.mp h6)
              refine z_aload_0 d_Tf_lived_15 ?_
              refine z_getR d_Tf_lived_16 f_Tf_80 (by first | assumption | exact zS0_at (by assumption) (by omega) | exact zS0_at rfl (by omega)) (by first | assumption | exact zS0_at (by assumption) (by omega) | exact zS0_at rfl (by omega)) ?_
              refine z_getIv d_Tf_lived_19 f_Tf_394 (by first | assumption | exact zS0_at (by assumption) (by omega) | exact zS0_at rfl (by omega)) (by first | assumption | ((try simp (disch := omega) only [zu_same, zu_ne, zcp_ne, zfl_ne]); first | assumption | rfl)) ?_
              refine z_if_ne (tgt := 32) d_Tf_lived_22 (by decide) (fun h22 => ?_) (fun h22 => ?_)
              · first
                | (simp (disch := omega) only [← nI_0, nI_leI, nI_ltI, nI_eq, not_true_eq_false, not_false_eq_true] at h22; done)
                | (simp (disch := omega) only [← nI_0, nI_leI, nI_ltI, nI_eq, not_true_eq_false, not_false_eq_true] at h22; omega)
                | contradiction
                | exact absurd h22 (Int32.not_lt.mpr (by assumption))
                | exact absurd h22 (Int32.not_le.mpr (by assumption))
                | exact absurd h22 (by decide)
                | exact absurd (by decide) h22
                | ( try simp (disch := omega) only [← nI_0, nI_leI, nI_ltI, nI_eq, not_true_eq_false, not_false_eq_true] at h22
                    (try have h22b := zbit_n0.mp h22); (try have h22b := zbit_p0.mp h22)
                    refine z_iload_1 d_Tf_lived_32 ?_
                    refine z_tableOut (tgt := 112) d_Tf_lived_33 (by decide) (by decide) ?_
                    refine z_aload_0 d_Tf_lived_112 ?_
                    refine z_aload_0 d_Tf_lived_113 ?_
                    refine z_getR d_Tf_lived_114 f_Tf_80 (by first | assumption | exact zS0_at (by assumption) (by omega) | exact zS0_at rfl (by omega)) (by first | assumption | exact zS0_at (by assumption) (by omega) | exact zS0_at rfl (by omega)) ?_
                    refine z_getIv d_Tf_lived_117 f_Tf_403 (by first | assumption | exact zS0_at (by assumption) (by omega) | exact zS0_at rfl (by omega)) (by first | assumption | ((try simp (disch := omega) only [zu_same, zu_ne, zcp_ne, zfl_ne]); first | assumption | rfl)) ?_
                    refine z_Vi1 d_Tf_lived_120 k_Tf_174 (by first | assumption | exact zS0_at (by assumption) (by omega) | exact zS0_at rfl (by omega)) (t_Tf_give (by assumption)) ⟨Nat.le_of_ble_eq_true rfl, Nat.le_of_ble_eq_true rfl, Nat.le_of_ble_eq_true rfl, Nat.le_of_ble_eq_true rfl⟩ (Nat.le_of_ble_eq_true rfl) ?_
                    intro r w hq
                    obtain ⟨rfl, rfl⟩ := hq
                    refine z_reti d_Tf_lived_123 ?_
                    exact ⟨by first | rfl | assumption, cW_0⟩)
              · first
                | (simp (disch := omega) only [← nI_0, nI_leI, nI_ltI, nI_eq, not_true_eq_false, not_false_eq_true] at h22; done)
                | (simp (disch := omega) only [← nI_0, nI_leI, nI_ltI, nI_eq, not_true_eq_false, not_false_eq_true] at h22; omega)
                | contradiction
                | exact absurd h22 (Int32.not_lt.mpr (by assumption))
                | exact absurd h22 (Int32.not_le.mpr (by assumption))
                | exact absurd h22 (by decide)
                | exact absurd (by decide) h22
                | ( try simp (disch := omega) only [← nI_0, nI_leI, nI_ltI, nI_eq, not_true_eq_false, not_false_eq_true] at h22
                    (try have h22b := zbit_n0.mp h22); (try have h22b := zbit_p0.mp h22)
                    refine z_aload_0 d_Tf_lived_25 ?_
                    refine z_bipush (a := nI 8) d_Tf_lived_26 (by decide) ?_
                    refine z_Vi1 d_Tf_lived_28 k_Tf_138 (by first | assumption | exact zS0_at (by assumption) (by omega) | exact zS0_at rfl (by omega)) (t_Tf_fail (by assumption)) ⟨Nat.le_of_ble_eq_true rfl, Nat.le_of_ble_eq_true rfl, Nat.le_of_ble_eq_true rfl, Nat.le_of_ble_eq_true rfl⟩ (Nat.le_of_ble_eq_true rfl) ?_
                    intro r w hq
                    obtain ⟨rfl, rfl⟩ := hq
                    refine z_reti d_Tf_lived_31 ?_
                    exact ⟨by first | rfl | assumption, cW_0⟩))
        · first
          | (simp (disch := omega) only [← nI_0, nI_leI, nI_ltI, nI_eq, not_true_eq_false, not_false_eq_true] at h6; done)
          | (simp (disch := omega) only [← nI_0, nI_leI, nI_ltI, nI_eq, not_true_eq_false, not_false_eq_true] at h6; omega)
          | contradiction
          | exact absurd h6 (Int32.not_lt.mpr (by assumption))
          | exact absurd h6 (Int32.not_le.mpr (by assumption))
          | exact absurd h6 (by decide)
          | exact absurd (by decide) h6
          | ( try simp (disch := omega) only [← nI_0, nI_leI, nI_ltI, nI_eq, not_true_eq_false, not_false_eq_true] at h6
              (try have h6b := zbit_n0.mp h6); (try have h6b := zbit_p0.mp h6)
              refine z_aload_0 d_Tf_lived_9 ?_
              refine z_iconst (a := nI 5) d_Tf_lived_10 (by decide) ?_
              refine z_Vi1 d_Tf_lived_11 k_Tf_138 (by first | assumption | exact zS0_at (by assumption) (by omega) | exact zS0_at rfl (by omega)) (t_Tf_fail (by assumption)) ⟨Nat.le_of_ble_eq_true rfl, Nat.le_of_ble_eq_true rfl, Nat.le_of_ble_eq_true rfl, Nat.le_of_ble_eq_true rfl⟩ (Nat.le_of_ble_eq_true rfl) ?_
              intro r w hq
              obtain ⟨rfl, rfl⟩ := hq
              refine z_reti d_Tf_lived_14 ?_
              exact ⟨by first | rfl | assumption, cW_0⟩))
theorem t_Mo_lived_b (M : modOk P S) (N : modIn I nt np nl nn) (hb : ¬ zin b 5) : zEi G y_Mo_lived prog_14_method_150_code 2 (some .int) 2 [.ref 145, .int b] (I, J, P, S) (fun r w => r = -1 ∧ mW I J P S 5 w) := by
  obtain ⟨M0, ⟨M4, M4s⟩, ⟨M5, M5s⟩, ⟨M6, M6s⟩, ⟨M7, M7s⟩, ⟨M20, M20s⟩, ⟨M21, M21s⟩, ⟨M22, M22s⟩, ⟨M26, M26s⟩, ⟨M27, M27s⟩, ⟨M28, M28s⟩, ⟨M30, M30s⟩, ⟨M34, M34s⟩, ⟨M36, M36s⟩, ⟨M37, M37s⟩⟩ := id M
  obtain ⟨I1, hI1, N1, h1, h0, e150, er, ek⟩ := mo_beg N
  obtain ⟨⟨m0, m0b⟩, ⟨m1, m1b⟩, ⟨m2, m2b⟩, ⟨m3, m3b⟩, mof, mon⟩ := id N1
  have hD : mD I I1 := ⟨h1, h0, e150, er⟩
  refine zEi_of (lv := [some (.ref 145), some (.int b)]) (by decide) rfl (Nat.le_of_ble_eq_true rfl) ?_
  refine z_aload_0 d_Mo_lived_0 ?_
  refine z_iconst (a := nI 0) d_Mo_lived_1 (by decide) ?_
  refine z_putI d_Mo_lived_2 f_Mo_70 (by first | assumption | exact zS0_at (by assumption) (by omega) | exact zS0_at rfl (by omega)) ?_
  refine z_aload_0 d_Mo_lived_5 ?_
  refine z_iconst (a := nI 0) d_Mo_lived_6 (by decide) ?_
  refine z_putI d_Mo_lived_7 f_Mo_73 (by first | assumption | exact zS0_at (by assumption) (by omega) | exact zS0_at rfl (by omega)) ?_
  rw [← hI1]
  refine z_iload_1 d_Mo_lived_10 ?_
  refine z_i2l d_Mo_lived_11 ?_
  refine z_lconst (f := lN 0) d_Mo_lived_12 rfl ?_
  refine z_ldc2 d_Mo_lived_13 c_Mo_339 ?_
  refine z_Si3 d_Mo_lived_16 k_Mo_105 (t_Mo_isInZ (m := 5) (by decide) (by decide)) ⟨Nat.le_of_ble_eq_true rfl, Nat.le_of_ble_eq_true rfl, Nat.le_of_ble_eq_true rfl, Nat.le_of_ble_eq_true rfl⟩ (Nat.le_of_ble_eq_true rfl) ?_
  intro r w hq
  rcases hq with ⟨⟨hz16, rfl⟩ | ⟨hz16, rfl⟩, rfl⟩
  · first
    | contradiction
    | ( skip
        refine z_if_ne (tgt := 28) d_Mo_lived_19 (by decide) (fun _ => ?_) (fun h => absurd h (by decide))
        contradiction)
  · first
    | contradiction
    | ( skip
        refine z_if_ne (tgt := 28) d_Mo_lived_19 (by decide) (fun h => absurd h (by decide)) (fun _ => ?_)
        refine z_aload_0 d_Mo_lived_22 ?_
        refine z_iconst (a := nI 5) d_Mo_lived_23 (by decide) ?_
        refine z_Vi1 d_Mo_lived_24 k_Mo_327 (by first | assumption | exact zS0_at (by assumption) (by omega) | exact zS0_at rfl (by omega)) (t_Mo_refuse (by assumption)) ⟨Nat.le_of_ble_eq_true rfl, Nat.le_of_ble_eq_true rfl, Nat.le_of_ble_eq_true rfl, Nat.le_of_ble_eq_true rfl⟩ (Nat.le_of_ble_eq_true rfl) ?_
        intro r w hq
        obtain ⟨rfl, rfl⟩ := hq
        refine z_reti d_Mo_lived_27 ?_
        exact ⟨by first | rfl | assumption | (rw [e150]), _, _, rfl, (by repeat (first | exact h1 | refine mqF_z ?_ (by decide))), mqJ_r, (by first | exact zu_same _ _ _ _ | exact h0)⟩)
theorem t_Mo_lived_n {j : Nat} (M : modOk P S) (N : modIn I nt np nl nn) (hj : j < 5) (h38 : I 145 38 = nI 0) : zEi G y_Mo_lived prog_14_method_150_code 2 (some .int) 2 [.ref 145, .int (nI j)] (I, J, P, S) (fun r w => r = -1 ∧ mW I J P S 8 w) := by
  obtain ⟨M0, ⟨M4, M4s⟩, ⟨M5, M5s⟩, ⟨M6, M6s⟩, ⟨M7, M7s⟩, ⟨M20, M20s⟩, ⟨M21, M21s⟩, ⟨M22, M22s⟩, ⟨M26, M26s⟩, ⟨M27, M27s⟩, ⟨M28, M28s⟩, ⟨M30, M30s⟩, ⟨M34, M34s⟩, ⟨M36, M36s⟩, ⟨M37, M37s⟩⟩ := id M
  obtain ⟨I1, hI1, N1, h1, h0, e150, er, ek⟩ := mo_beg N
  obtain ⟨⟨m0, m0b⟩, ⟨m1, m1b⟩, ⟨m2, m2b⟩, ⟨m3, m3b⟩, mof, mon⟩ := id N1
  have hD : mD I I1 := ⟨h1, h0, e150, er⟩
  refine zEi_of (lv := [some (.ref 145), some (.int (nI j))]) (by decide) rfl (Nat.le_of_ble_eq_true rfl) ?_
  refine z_aload_0 d_Mo_lived_0 ?_
  refine z_iconst (a := nI 0) d_Mo_lived_1 (by decide) ?_
  refine z_putI d_Mo_lived_2 f_Mo_70 (by first | assumption | exact zS0_at (by assumption) (by omega) | exact zS0_at rfl (by omega)) ?_
  refine z_aload_0 d_Mo_lived_5 ?_
  refine z_iconst (a := nI 0) d_Mo_lived_6 (by decide) ?_
  refine z_putI d_Mo_lived_7 f_Mo_73 (by first | assumption | exact zS0_at (by assumption) (by omega) | exact zS0_at rfl (by omega)) ?_
  rw [← hI1]
  have hz : zin (nI j) 5 := ⟨j, hj, rfl⟩
  have h38 : I1 145 38 = nI 0 := by rw [ek 38 (by omega)]; exact h38
  refine z_iload_1 d_Mo_lived_10 ?_
  refine z_i2l d_Mo_lived_11 ?_
  refine z_lconst (f := lN 0) d_Mo_lived_12 rfl ?_
  refine z_ldc2 d_Mo_lived_13 c_Mo_339 ?_
  refine z_Si3 d_Mo_lived_16 k_Mo_105 (t_Mo_isInZ (m := 5) (by decide) (by decide)) ⟨Nat.le_of_ble_eq_true rfl, Nat.le_of_ble_eq_true rfl, Nat.le_of_ble_eq_true rfl, Nat.le_of_ble_eq_true rfl⟩ (Nat.le_of_ble_eq_true rfl) ?_
  intro r w hq
  rcases hq with ⟨⟨hz16, rfl⟩ | ⟨hz16, rfl⟩, rfl⟩
  · first
    | contradiction
    | ( skip
        refine z_if_ne (tgt := 28) d_Mo_lived_19 (by decide) (fun _ => ?_) (fun h => absurd h (by decide))
        refine z_aload_0 d_Mo_lived_28 ?_
        refine z_getIv d_Mo_lived_29 f_Mo_514 (by first | assumption | exact zS0_at (by assumption) (by omega) | exact zS0_at rfl (by omega)) (by first | assumption | ((try simp (disch := omega) only [zu_same, zu_ne, zcp_ne, zfl_ne]); first | assumption | rfl)) ?_
        refine z_if_eq (tgt := 44) d_Mo_lived_32 (by decide) (fun h32 => ?_) (fun h32 => ?_)
        · first
          | (simp (disch := omega) only [← nI_0, nI_leI, nI_ltI, nI_eq, not_true_eq_false, not_false_eq_true] at h32; done)
          | (simp (disch := omega) only [← nI_0, nI_leI, nI_ltI, nI_eq, not_true_eq_false, not_false_eq_true] at h32; omega)
          | contradiction
          | exact absurd h32 (Int32.not_lt.mpr (by assumption))
          | exact absurd h32 (Int32.not_le.mpr (by assumption))
          | exact absurd h32 (by decide)
          | exact absurd (by decide) h32
          | ( try simp (disch := omega) only [← nI_0, nI_leI, nI_ltI, nI_eq, not_true_eq_false, not_false_eq_true] at h32
              (try have h32b := zbit_n0.mp h32); (try have h32b := zbit_p0.mp h32)
              refine z_aload_0 d_Mo_lived_44 ?_
              refine z_bipush (a := nI 8) d_Mo_lived_45 (by decide) ?_
              refine z_Vi1 d_Mo_lived_47 k_Mo_327 (by first | assumption | exact zS0_at (by assumption) (by omega) | exact zS0_at rfl (by omega)) (t_Mo_refuse (by assumption)) ⟨Nat.le_of_ble_eq_true rfl, Nat.le_of_ble_eq_true rfl, Nat.le_of_ble_eq_true rfl, Nat.le_of_ble_eq_true rfl⟩ (Nat.le_of_ble_eq_true rfl) ?_
              intro r w hq
              obtain ⟨rfl, rfl⟩ := hq
              refine z_reti d_Mo_lived_50 ?_
              exact ⟨by first | rfl | assumption | (rw [e150]), _, _, rfl, (by repeat (first | exact h1 | refine mqF_z ?_ (by decide))), mqJ_r, (by first | exact zu_same _ _ _ _ | exact h0)⟩)
        · first
          | (simp (disch := omega) only [← nI_0, nI_leI, nI_ltI, nI_eq, not_true_eq_false, not_false_eq_true] at h32; done)
          | (simp (disch := omega) only [← nI_0, nI_leI, nI_ltI, nI_eq, not_true_eq_false, not_false_eq_true] at h32; omega)
          | contradiction
          | exact absurd h32 (Int32.not_lt.mpr (by assumption))
          | exact absurd h32 (Int32.not_le.mpr (by assumption))
          | exact absurd h32 (by decide)
          | exact absurd (by decide) h32
          | ( try simp (disch := omega) only [← nI_0, nI_leI, nI_ltI, nI_eq, not_true_eq_false, not_false_eq_true] at h32
              (try have h32b := zbit_n0.mp h32); (try have h32b := zbit_p0.mp h32)
              fail))
  · first
    | contradiction
    | ( skip
        refine z_if_ne (tgt := 28) d_Mo_lived_19 (by decide) (fun h => absurd h (by decide)) (fun _ => ?_)
        refine z_aload_0 d_Mo_lived_22 ?_
        refine z_iconst (a := nI 5) d_Mo_lived_23 (by decide) ?_
        refine z_Vi1 d_Mo_lived_24 k_Mo_327 (by first | assumption | exact zS0_at (by assumption) (by omega) | exact zS0_at rfl (by omega)) (t_Mo_refuse (by assumption)) ⟨Nat.le_of_ble_eq_true rfl, Nat.le_of_ble_eq_true rfl, Nat.le_of_ble_eq_true rfl, Nat.le_of_ble_eq_true rfl⟩ (Nat.le_of_ble_eq_true rfl) ?_
        intro r w hq
        obtain ⟨rfl, rfl⟩ := hq
        refine z_reti d_Mo_lived_27 ?_
        exact ⟨by first | rfl | assumption | (rw [e150]), _, _, rfl, (by repeat (first | exact h1 | refine mqF_z ?_ (by decide))), mqJ_r, (by first | exact zu_same _ _ _ _ | exact h0)⟩)
theorem t_Mo_lived {j : Nat} (M : modOk P S) (N : modIn I nt np nl nn) (hj : j < 5) (h38 : I 145 38 = nI 1) : zEi G y_Mo_lived prog_14_method_150_code 2 (some .int) 2 [.ref 145, .int (nI j)] (I, J, P, S) (fun r w => r = I 159 j ∧ mW I J P S 0 w) := by
  obtain ⟨M0, ⟨M4, M4s⟩, ⟨M5, M5s⟩, ⟨M6, M6s⟩, ⟨M7, M7s⟩, ⟨M20, M20s⟩, ⟨M21, M21s⟩, ⟨M22, M22s⟩, ⟨M26, M26s⟩, ⟨M27, M27s⟩, ⟨M28, M28s⟩, ⟨M30, M30s⟩, ⟨M34, M34s⟩, ⟨M36, M36s⟩, ⟨M37, M37s⟩⟩ := id M
  obtain ⟨I1, hI1, N1, h1, h0, e150, er, ek⟩ := mo_beg N
  obtain ⟨⟨m0, m0b⟩, ⟨m1, m1b⟩, ⟨m2, m2b⟩, ⟨m3, m3b⟩, mof, mon⟩ := id N1
  have hD : mD I I1 := ⟨h1, h0, e150, er⟩
  refine zEi_of (lv := [some (.ref 145), some (.int (nI j))]) (by decide) rfl (Nat.le_of_ble_eq_true rfl) ?_
  refine z_aload_0 d_Mo_lived_0 ?_
  refine z_iconst (a := nI 0) d_Mo_lived_1 (by decide) ?_
  refine z_putI d_Mo_lived_2 f_Mo_70 (by first | assumption | exact zS0_at (by assumption) (by omega) | exact zS0_at rfl (by omega)) ?_
  refine z_aload_0 d_Mo_lived_5 ?_
  refine z_iconst (a := nI 0) d_Mo_lived_6 (by decide) ?_
  refine z_putI d_Mo_lived_7 f_Mo_73 (by first | assumption | exact zS0_at (by assumption) (by omega) | exact zS0_at rfl (by omega)) ?_
  rw [← hI1]
  have hz : zin (nI j) 5 := ⟨j, hj, rfl⟩
  have h38 : I1 145 38 = nI 1 := by rw [ek 38 (by omega)]; exact h38
  have h159 : I1 159 j = I 159 j := by rw [er 159 (by decide)]
  refine z_iload_1 d_Mo_lived_10 ?_
  refine z_i2l d_Mo_lived_11 ?_
  refine z_lconst (f := lN 0) d_Mo_lived_12 rfl ?_
  refine z_ldc2 d_Mo_lived_13 c_Mo_339 ?_
  refine z_Si3 d_Mo_lived_16 k_Mo_105 (t_Mo_isInZ (m := 5) (by decide) (by decide)) ⟨Nat.le_of_ble_eq_true rfl, Nat.le_of_ble_eq_true rfl, Nat.le_of_ble_eq_true rfl, Nat.le_of_ble_eq_true rfl⟩ (Nat.le_of_ble_eq_true rfl) ?_
  intro r w hq
  rcases hq with ⟨⟨hz16, rfl⟩ | ⟨hz16, rfl⟩, rfl⟩
  · first
    | contradiction
    | ( skip
        refine z_if_ne (tgt := 28) d_Mo_lived_19 (by decide) (fun _ => ?_) (fun h => absurd h (by decide))
        refine z_aload_0 d_Mo_lived_28 ?_
        refine z_getIv d_Mo_lived_29 f_Mo_514 (by first | assumption | exact zS0_at (by assumption) (by omega) | exact zS0_at rfl (by omega)) (by first | assumption | ((try simp (disch := omega) only [zu_same, zu_ne, zcp_ne, zfl_ne]); first | assumption | rfl)) ?_
        refine z_if_eq (tgt := 44) d_Mo_lived_32 (by decide) (fun h32 => ?_) (fun h32 => ?_)
        · first
          | (simp (disch := omega) only [← nI_0, nI_leI, nI_ltI, nI_eq, not_true_eq_false, not_false_eq_true] at h32; done)
          | (simp (disch := omega) only [← nI_0, nI_leI, nI_ltI, nI_eq, not_true_eq_false, not_false_eq_true] at h32; omega)
          | contradiction
          | exact absurd h32 (Int32.not_lt.mpr (by assumption))
          | exact absurd h32 (Int32.not_le.mpr (by assumption))
          | exact absurd h32 (by decide)
          | exact absurd (by decide) h32
          | ( try simp (disch := omega) only [← nI_0, nI_leI, nI_ltI, nI_eq, not_true_eq_false, not_false_eq_true] at h32
              (try have h32b := zbit_n0.mp h32); (try have h32b := zbit_p0.mp h32)
              fail)
        · first
          | (simp (disch := omega) only [← nI_0, nI_leI, nI_ltI, nI_eq, not_true_eq_false, not_false_eq_true] at h32; done)
          | (simp (disch := omega) only [← nI_0, nI_leI, nI_ltI, nI_eq, not_true_eq_false, not_false_eq_true] at h32; omega)
          | contradiction
          | exact absurd h32 (Int32.not_lt.mpr (by assumption))
          | exact absurd h32 (Int32.not_le.mpr (by assumption))
          | exact absurd h32 (by decide)
          | exact absurd (by decide) h32
          | ( try simp (disch := omega) only [← nI_0, nI_leI, nI_ltI, nI_eq, not_true_eq_false, not_false_eq_true] at h32
              (try have h32b := zbit_n0.mp h32); (try have h32b := zbit_p0.mp h32)
              refine z_aload_0 d_Mo_lived_35 ?_
              refine z_getR d_Mo_lived_36 f_Mo_63 (by first | assumption | exact zS0_at (by assumption) (by omega) | exact zS0_at rfl (by omega)) (by first | assumption | exact zS0_at (by assumption) (by omega) | exact zS0_at rfl (by omega)) ?_
              refine z_iload_1 d_Mo_lived_39 ?_
              first | refine z_ialdNv d_Mo_lived_40 (by first | assumption | exact zS0_at (by assumption) (by omega) | exact zS0_at rfl (by omega)) (by omega) (by first | decide | omega) (by first | assumption | ((try simp (disch := omega) only [zu_same, zu_ne, zcp_ne, zfl_ne]); first | assumption | rfl)) ?_ | refine z_iald d_Mo_lived_40 (by first | assumption | exact zS0_at (by assumption) (by omega) | exact zS0_at rfl (by omega)) (by first | assumption | exact zS0_at (by assumption) (by omega) | exact zS0_at rfl (by omega)) ?_
              refine z_goto (tgt := 50) d_Mo_lived_41 (by decide) ?_
              refine z_reti d_Mo_lived_50 ?_
              exact ⟨by first | rfl | assumption | (rw [e150]), _, _, rfl, (by repeat (first | exact h1 | refine mqF_z ?_ (by decide))), mqJ_r, (by first | exact zu_same _ _ _ _ | exact h0)⟩))
  · first
    | contradiction
    | ( skip
        refine z_if_ne (tgt := 28) d_Mo_lived_19 (by decide) (fun h => absurd h (by decide)) (fun _ => ?_)
        refine z_aload_0 d_Mo_lived_22 ?_
        refine z_iconst (a := nI 5) d_Mo_lived_23 (by decide) ?_
        refine z_Vi1 d_Mo_lived_24 k_Mo_327 (by first | assumption | exact zS0_at (by assumption) (by omega) | exact zS0_at rfl (by omega)) (t_Mo_refuse (by assumption)) ⟨Nat.le_of_ble_eq_true rfl, Nat.le_of_ble_eq_true rfl, Nat.le_of_ble_eq_true rfl, Nat.le_of_ble_eq_true rfl⟩ (Nat.le_of_ble_eq_true rfl) ?_
        intro r w hq
        obtain ⟨rfl, rfl⟩ := hq
        refine z_reti d_Mo_lived_27 ?_
        exact ⟨by first | rfl | assumption | (rw [e150]), _, _, rfl, (by repeat (first | exact h1 | refine mqF_z ?_ (by decide))), mqJ_r, (by first | exact zu_same _ _ _ _ | exact h0)⟩)
theorem L_lived (h : zInv n w) : zEi G y_Tf_lived prog_1_method_49_code 2 (some .int) 2 [.ref 0, .int b] w (fun r w1 => w1.2.2.2 = w.2.2.2 ∧ zEi G y_Mo_lived prog_14_method_150_code 2 (some .int) 2 [.ref 145, .int b] w1 (fun r' w2 => r' = r ∧ zInv (n + 1) w2)) := by
  obtain ⟨f, d, nt, np, nl, nn, fed, mk, I, J, P, S, rfl, Z, X⟩ := h
  have M := clOk_M Z
  have hf := clOk_f Z
  have N := stR_fen X
  have N0 := stR_mod X
  have fm := stR_fm X
  obtain ⟨⟨⟨a1, r1, b1⟩, ⟨a2, r2, b2⟩, ⟨a3, r3, b3⟩, ⟨a4, r4, b4⟩⟩, ⟨⟨o, ob, ao, ro⟩, r5⟩, fw, fp, ft, fz⟩ := id fm
  have x18 := X.2.2.2.2.2.2.2
  rcases zin_or b 5 (by omega) with ⟨-, h⟩ | ⟨j, hj, rfl⟩
  · exact L_q Z X (t_Tf_lived_b Z N h) (fun I' J' e _ => ⟨_, rfl, t_Mo_lived_b M (modIn_c N0 (e 150 (by decide))) h⟩)
  rcases x18 with ⟨q1, q2⟩ | ⟨q1, q2, q3, q4, q5, q6, q7⟩
  · exact L_q Z X (t_Tf_lived_n Z N hj q1) (fun I' J' e _ => ⟨_, rfl, t_Mo_lived_n M (modIn_c N0 (e 150 (by decide))) hj (by rw [e 145 (by decide)]; exact q2)⟩)
  have hM : ∀ (I' : Nat → Nat → Int32) (J' : Nat → Nat → Int64), (∀ a, 145 ≤ a → I' a = I a) → zEi G y_Mo_lived prog_14_method_150_code 2 (some .int) 2 [.ref 145, .int (nI j)] (I', J', P, S) (fun r w => r = I' 159 j ∧ mW I' J' P S 0 w) := fun I' J' e => t_Mo_lived M (modIn_c N0 (e 150 (by decide))) hj (by rw [e 145 (by decide)]; exact q2)
  rcases (show j = 0 ∨ j = 1 ∨ j = 2 ∨ j = 3 ∨ j = 4 by omega) with rfl | rfl | rfl | rfl | rfl
  · exact L_q Z X (t_Tf_lived_0 Z N q1) (fun I' J' e _ => ⟨_, by rw [e 159 (by decide)]; exact q3, hM I' J' e⟩)
  · exact L_q Z X (t_Tf_lived_1 Z N q1) (fun I' J' e _ => ⟨_, by rw [e 159 (by decide)]; exact q4, hM I' J' e⟩)
  · exact L_q Z X (t_Tf_lived_2 Z N q1) (fun I' J' e _ => ⟨_, by rw [e 159 (by decide)]; exact q5, hM I' J' e⟩)
  · exact L_q Z X (t_Tf_lived_3 Z N q1) (fun I' J' e _ => ⟨_, by rw [e 159 (by decide)]; exact q6, hM I' J' e⟩)
  · exact L_q Z X (t_Tf_lived_4 Z N q1) (fun I' J' e _ => ⟨_, by rw [e 159 (by decide)]; exact q7, hM I' J' e⟩)
/-- behind a run of both -/
theorem stR_lv {Ic : Nat → Nat → Int32} (Z : stR n f nt np nl nn fed mk I J) (hf : f = 18 ∨ f = 35) (k1 : ∀ a, (a = 1 ∨ (3 ≤ a ∧ a ≤ 11) ∨ (f + 12 ≤ a ∧ a ≤ f + 16) ∨ (70 ≤ a ∧ a ≤ 120) ∨ a = 146 ∨ a = 147 ∨ a = 149) → I' a = I a) (k2 : ∀ k, 1 ≤ k → I' 0 k = I 0 k) (k5 : ∀ k, 87 ≤ k → I' 150 k = I 150 k) (k6 : ∀ k, (k = 8 ∨ k = 10 ∨ k = 11 ∨ k = 23) → I' 145 k = I 145 k) (hs : I' 145 0 = I' 0 0) (hm : fmR (29700 * (n + 1)) (sf f I') (I' 150) nt np nl nn) (hL : lvR I') : stR (n + 1) f nt np nl nn fed mk I' J := by
  obtain ⟨⟨-, z0, z1⟩, z2, ⟨⟨z3, z4, z5⟩, z6, z7⟩, ⟨z8, z9⟩, z10, ⟨z11, ⟨z12, z13, z14⟩, z15⟩, ⟨⟨z16, z17, z18⟩, z19⟩, -⟩ := Z
  have b := z11.1
  refine ⟨⟨hs, z0, z1⟩, fun t ht => ?_, ⟨⟨(k2 4 (by omega)).trans z3, (k6 8 (by omega)).trans z4, z5⟩, fun k hk => ?_, ?_⟩, ⟨?_, ?_⟩, z10, ⟨fmR_0.mpr hm, ⟨z12, z13, z14⟩, ?_⟩, ⟨⟨(k2 13 (by omega)).trans z16, (k6 23 (by omega)).trans z17, z18⟩, fun m hm => ?_⟩, hL⟩
  · exact trR_c (z2 t ht) (k1 _ (by omega)) (by rw [k1 147 (by omega)]) (by rw [k1 146 (by omega)]) rfl (fun _ _ => rfl)
  · rw [k1 149 (by omega), k1 1 (by omega)]; exact z6 k hk
  · rw [k1 1 (by omega)]; exact z7
  · rw [k6 10 (by omega), k1 11 (by omega)]; exact z8
  · rw [k6 11 (by omega), k1 11 (by omega)]; exact z9
  · exact yrR_c z15 (Nat.le_refl _) (fun a g1 g2 => k1 a (by omega)) (fun k g1 _ => k5 _ (by omega))
  · obtain ⟨nt', np', nl', nn', q⟩ := z19 m hm
    exact ⟨nt', np', nl', nn', fnR_g (fnR_c q (fun a g1 g2 => k1 a (by omega)) (fun k hk => k5 _ (by omega)) (fun a g1 g2 => rfl) (fun k hk => rfl)) (by omega)⟩
theorem t_Tf_live_b (Z : clOk f d P S) (N : fenIn I f nt np nl nn) (hb : ¬ zin b 10000) : zEi G y_Tf_live prog_1_method_48_code 2 (some .int) 8 [.ref 0, .int b] (I, J, P, S) (fun r w => r = -1 ∧ cW I J P S 5 w) := by
  obtain ⟨⟨c0, c3, c1s⟩, ⟨c5, c2s, ctr⟩, ⟨c6, c11s, c11, c13s⟩, ⟨c7, c15s, c15⟩, ⟨c8, c16s, c16a, c16b, c17s⟩, ⟨c9, c10, cfd, F, Fd⟩, ⟨c11b, Ft⟩, ⟨c12, c69s, cmk⟩, ⟨c14, c121s, c121, c122s⟩, ⟨c15b, c123s, c123, c124s⟩, ⟨c16, c125s, c125, c126s⟩, ⟨c17, c127s, c127, c128s, ctb⟩, ⟨c18, c139s, c139, c140s⟩, ⟨c19, c141s, ⟨c141a, c142s⟩, ⟨c141b, c143s⟩, ⟨c141c, c144s⟩⟩, M⟩ := id Z
  obtain ⟨F0, ⟨F8, F8s⟩, ⟨F9, F9s⟩, ⟨F10, F10s⟩, ⟨F11, F11s⟩, ⟨F12, F12s⟩, ⟨F13, F13s⟩, ⟨F14, F14s⟩, ⟨F15, F15s⟩, ⟨F16, F16s⟩, ⟨F17, F17s⟩, ⟨F18, F18s⟩, ⟨F19, F19s⟩, ⟨Y3, Y3s⟩, ⟨Y4, Y4s⟩, ⟨Y5, Y5s⟩, ⟨Y6, Y6s⟩⟩ := id F
  obtain ⟨⟨n1, n1b⟩, ⟨n2, n2b⟩, ⟨n3, n3b⟩, ⟨n4, n4b⟩, nof, non⟩ := id N
  have hbo := zin_not (m := 9999) (by decide) hb
  refine zEi_of (lv := [some (.ref 0), some (.int b)]) (by decide) rfl (Nat.le_of_ble_eq_true rfl) ?_
  rcases hbo with hbo | hbo
  · refine z_iload_1 d_Tf_live_0 ?_
    refine z_if_lt (tgt := 11) d_Tf_live_1 (by decide) (fun h1 => ?_) (fun h1 => ?_)
    · first
      | (simp (disch := omega) only [← nI_0, nI_leI, nI_ltI, nI_eq, not_true_eq_false, not_false_eq_true] at h1; done)
      | (simp (disch := omega) only [← nI_0, nI_leI, nI_ltI, nI_eq, not_true_eq_false, not_false_eq_true] at h1; omega)
      | contradiction
      | exact absurd h1 (Int32.not_lt.mpr (by assumption))
      | exact absurd h1 (Int32.not_le.mpr (by assumption))
      | exact absurd h1 (by decide)
      | exact absurd (by decide) h1
      | ( try simp (disch := omega) only [← nI_0, nI_leI, nI_ltI, nI_eq, not_true_eq_false, not_false_eq_true] at h1
          (try have h1b := zbit_n0.mp h1); (try have h1b := zbit_p0.mp h1)
          refine z_aload_0 d_Tf_live_11 ?_
          refine z_iconst (a := nI 5) d_Tf_live_12 (by decide) ?_
          refine z_Vi1 d_Tf_live_13 k_Tf_138 (by first | assumption | exact zS0_at (by assumption) (by omega) | exact zS0_at rfl (by omega)) (t_Tf_fail (by assumption)) ⟨Nat.le_of_ble_eq_true rfl, Nat.le_of_ble_eq_true rfl, Nat.le_of_ble_eq_true rfl, Nat.le_of_ble_eq_true rfl⟩ (Nat.le_of_ble_eq_true rfl) ?_
          intro r w hq
          obtain ⟨rfl, rfl⟩ := hq
          refine z_reti d_Tf_live_16 ?_
          exact ⟨by first | rfl | assumption, cW_0⟩)
    · first
      | (simp (disch := omega) only [← nI_0, nI_leI, nI_ltI, nI_eq, not_true_eq_false, not_false_eq_true] at h1; done)
      | (simp (disch := omega) only [← nI_0, nI_leI, nI_ltI, nI_eq, not_true_eq_false, not_false_eq_true] at h1; omega)
      | contradiction
      | exact absurd h1 (Int32.not_lt.mpr (by assumption))
      | exact absurd h1 (Int32.not_le.mpr (by assumption))
      | exact absurd h1 (by decide)
      | exact absurd (by decide) h1
      | ( try simp (disch := omega) only [← nI_0, nI_leI, nI_ltI, nI_eq, not_true_eq_false, not_false_eq_true] at h1
          (try have h1b := zbit_n0.mp h1); (try have h1b := zbit_p0.mp h1)
          refine z_iload_1 d_Tf_live_4 ?_
          refine z_sipush (a := nI 9999) d_Tf_live_5 (by decide) ?_
          refine z_icmp_le (tgt := 17) d_Tf_live_8 (by decide) (fun h8 => ?_) (fun h8 => ?_)
          · first
            | (simp (disch := omega) only [← nI_0, nI_leI, nI_ltI, nI_eq, not_true_eq_false, not_false_eq_true] at h8; done)
            | (simp (disch := omega) only [← nI_0, nI_leI, nI_ltI, nI_eq, not_true_eq_false, not_false_eq_true] at h8; omega)
            | contradiction
            | exact absurd h8 (Int32.not_lt.mpr (by assumption))
            | exact absurd h8 (Int32.not_le.mpr (by assumption))
            | exact absurd h8 (by decide)
            | exact absurd (by decide) h8
            | ( try simp (disch := omega) only [← nI_0, nI_leI, nI_ltI, nI_eq, not_true_eq_false, not_false_eq_true] at h8
                (try have h8b := zbit_n0.mp h8); (try have h8b := zbit_p0.mp h8)
                fail)
          · first
            | (simp (disch := omega) only [← nI_0, nI_leI, nI_ltI, nI_eq, not_true_eq_false, not_false_eq_true] at h8; done)
            | (simp (disch := omega) only [← nI_0, nI_leI, nI_ltI, nI_eq, not_true_eq_false, not_false_eq_true] at h8; omega)
            | contradiction
            | exact absurd h8 (Int32.not_lt.mpr (by assumption))
            | exact absurd h8 (Int32.not_le.mpr (by assumption))
            | exact absurd h8 (by decide)
            | exact absurd (by decide) h8
            | ( try simp (disch := omega) only [← nI_0, nI_leI, nI_ltI, nI_eq, not_true_eq_false, not_false_eq_true] at h8
                (try have h8b := zbit_n0.mp h8); (try have h8b := zbit_p0.mp h8)
                refine z_aload_0 d_Tf_live_11 ?_
                refine z_iconst (a := nI 5) d_Tf_live_12 (by decide) ?_
                refine z_Vi1 d_Tf_live_13 k_Tf_138 (by first | assumption | exact zS0_at (by assumption) (by omega) | exact zS0_at rfl (by omega)) (t_Tf_fail (by assumption)) ⟨Nat.le_of_ble_eq_true rfl, Nat.le_of_ble_eq_true rfl, Nat.le_of_ble_eq_true rfl, Nat.le_of_ble_eq_true rfl⟩ (Nat.le_of_ble_eq_true rfl) ?_
                intro r w hq
                obtain ⟨rfl, rfl⟩ := hq
                refine z_reti d_Tf_live_16 ?_
                exact ⟨by first | rfl | assumption, cW_0⟩))
  · refine z_iload_1 d_Tf_live_0 ?_
    refine z_if_lt (tgt := 11) d_Tf_live_1 (by decide) (fun h1 => ?_) (fun h1 => ?_)
    · first
      | (simp (disch := omega) only [← nI_0, nI_leI, nI_ltI, nI_eq, not_true_eq_false, not_false_eq_true] at h1; done)
      | (simp (disch := omega) only [← nI_0, nI_leI, nI_ltI, nI_eq, not_true_eq_false, not_false_eq_true] at h1; omega)
      | contradiction
      | exact absurd h1 (Int32.not_lt.mpr (by assumption))
      | exact absurd h1 (Int32.not_le.mpr (by assumption))
      | exact absurd h1 (by decide)
      | exact absurd (by decide) h1
      | ( try simp (disch := omega) only [← nI_0, nI_leI, nI_ltI, nI_eq, not_true_eq_false, not_false_eq_true] at h1
          (try have h1b := zbit_n0.mp h1); (try have h1b := zbit_p0.mp h1)
          refine z_aload_0 d_Tf_live_11 ?_
          refine z_iconst (a := nI 5) d_Tf_live_12 (by decide) ?_
          refine z_Vi1 d_Tf_live_13 k_Tf_138 (by first | assumption | exact zS0_at (by assumption) (by omega) | exact zS0_at rfl (by omega)) (t_Tf_fail (by assumption)) ⟨Nat.le_of_ble_eq_true rfl, Nat.le_of_ble_eq_true rfl, Nat.le_of_ble_eq_true rfl, Nat.le_of_ble_eq_true rfl⟩ (Nat.le_of_ble_eq_true rfl) ?_
          intro r w hq
          obtain ⟨rfl, rfl⟩ := hq
          refine z_reti d_Tf_live_16 ?_
          exact ⟨by first | rfl | assumption, cW_0⟩)
    · first
      | (simp (disch := omega) only [← nI_0, nI_leI, nI_ltI, nI_eq, not_true_eq_false, not_false_eq_true] at h1; done)
      | (simp (disch := omega) only [← nI_0, nI_leI, nI_ltI, nI_eq, not_true_eq_false, not_false_eq_true] at h1; omega)
      | contradiction
      | exact absurd h1 (Int32.not_lt.mpr (by assumption))
      | exact absurd h1 (Int32.not_le.mpr (by assumption))
      | exact absurd h1 (by decide)
      | exact absurd (by decide) h1
      | ( try simp (disch := omega) only [← nI_0, nI_leI, nI_ltI, nI_eq, not_true_eq_false, not_false_eq_true] at h1
          (try have h1b := zbit_n0.mp h1); (try have h1b := zbit_p0.mp h1)
          refine z_iload_1 d_Tf_live_4 ?_
          refine z_sipush (a := nI 9999) d_Tf_live_5 (by decide) ?_
          refine z_icmp_le (tgt := 17) d_Tf_live_8 (by decide) (fun h8 => ?_) (fun h8 => ?_)
          · first
            | (simp (disch := omega) only [← nI_0, nI_leI, nI_ltI, nI_eq, not_true_eq_false, not_false_eq_true] at h8; done)
            | (simp (disch := omega) only [← nI_0, nI_leI, nI_ltI, nI_eq, not_true_eq_false, not_false_eq_true] at h8; omega)
            | contradiction
            | exact absurd h8 (Int32.not_lt.mpr (by assumption))
            | exact absurd h8 (Int32.not_le.mpr (by assumption))
            | exact absurd h8 (by decide)
            | exact absurd (by decide) h8
            | ( try simp (disch := omega) only [← nI_0, nI_leI, nI_ltI, nI_eq, not_true_eq_false, not_false_eq_true] at h8
                (try have h8b := zbit_n0.mp h8); (try have h8b := zbit_p0.mp h8)
                fail)
          · first
            | (simp (disch := omega) only [← nI_0, nI_leI, nI_ltI, nI_eq, not_true_eq_false, not_false_eq_true] at h8; done)
            | (simp (disch := omega) only [← nI_0, nI_leI, nI_ltI, nI_eq, not_true_eq_false, not_false_eq_true] at h8; omega)
            | contradiction
            | exact absurd h8 (Int32.not_lt.mpr (by assumption))
            | exact absurd h8 (Int32.not_le.mpr (by assumption))
            | exact absurd h8 (by decide)
            | exact absurd (by decide) h8
            | ( try simp (disch := omega) only [← nI_0, nI_leI, nI_ltI, nI_eq, not_true_eq_false, not_false_eq_true] at h8
                (try have h8b := zbit_n0.mp h8); (try have h8b := zbit_p0.mp h8)
                refine z_aload_0 d_Tf_live_11 ?_
                refine z_iconst (a := nI 5) d_Tf_live_12 (by decide) ?_
                refine z_Vi1 d_Tf_live_13 k_Tf_138 (by first | assumption | exact zS0_at (by assumption) (by omega) | exact zS0_at rfl (by omega)) (t_Tf_fail (by assumption)) ⟨Nat.le_of_ble_eq_true rfl, Nat.le_of_ble_eq_true rfl, Nat.le_of_ble_eq_true rfl, Nat.le_of_ble_eq_true rfl⟩ (Nat.le_of_ble_eq_true rfl) ?_
                intro r w hq
                obtain ⟨rfl, rfl⟩ := hq
                refine z_reti d_Tf_live_16 ?_
                exact ⟨by first | rfl | assumption, cW_0⟩))
theorem t_Tf_live_n (Z : clOk f d P S) (N : fenIn I f nt np nl nn) (hs : sd < 10000) (h0 : I (f + 12) 0 = nI 0) : zEi G y_Tf_live prog_1_method_48_code 2 (some .int) 8 [.ref 0, .int (nI sd)] (I, J, P, S) (fun r w => r = -1 ∧ cW I J P S 8 w) := by
  obtain ⟨⟨c0, c3, c1s⟩, ⟨c5, c2s, ctr⟩, ⟨c6, c11s, c11, c13s⟩, ⟨c7, c15s, c15⟩, ⟨c8, c16s, c16a, c16b, c17s⟩, ⟨c9, c10, cfd, F, Fd⟩, ⟨c11b, Ft⟩, ⟨c12, c69s, cmk⟩, ⟨c14, c121s, c121, c122s⟩, ⟨c15b, c123s, c123, c124s⟩, ⟨c16, c125s, c125, c126s⟩, ⟨c17, c127s, c127, c128s, ctb⟩, ⟨c18, c139s, c139, c140s⟩, ⟨c19, c141s, ⟨c141a, c142s⟩, ⟨c141b, c143s⟩, ⟨c141c, c144s⟩⟩, M⟩ := id Z
  obtain ⟨F0, ⟨F8, F8s⟩, ⟨F9, F9s⟩, ⟨F10, F10s⟩, ⟨F11, F11s⟩, ⟨F12, F12s⟩, ⟨F13, F13s⟩, ⟨F14, F14s⟩, ⟨F15, F15s⟩, ⟨F16, F16s⟩, ⟨F17, F17s⟩, ⟨F18, F18s⟩, ⟨F19, F19s⟩, ⟨Y3, Y3s⟩, ⟨Y4, Y4s⟩, ⟨Y5, Y5s⟩, ⟨Y6, Y6s⟩⟩ := id F
  obtain ⟨⟨n1, n1b⟩, ⟨n2, n2b⟩, ⟨n3, n3b⟩, ⟨n4, n4b⟩, nof, non⟩ := id N
  refine zEi_of (lv := [some (.ref 0), some (.int (nI sd))]) (by decide) rfl (Nat.le_of_ble_eq_true rfl) ?_
  refine z_iload_1 d_Tf_live_0 ?_
  refine z_if_lt (tgt := 11) d_Tf_live_1 (by decide) (fun h1 => ?_) (fun h1 => ?_)
  · first
    | (simp (disch := omega) only [← nI_0, nI_leI, nI_ltI, nI_eq, not_true_eq_false, not_false_eq_true] at h1; done)
    | (simp (disch := omega) only [← nI_0, nI_leI, nI_ltI, nI_eq, not_true_eq_false, not_false_eq_true] at h1; omega)
    | contradiction
    | exact absurd h1 (Int32.not_lt.mpr (by assumption))
    | exact absurd h1 (Int32.not_le.mpr (by assumption))
    | exact absurd h1 (by decide)
    | exact absurd (by decide) h1
    | ( try simp (disch := omega) only [← nI_0, nI_leI, nI_ltI, nI_eq, not_true_eq_false, not_false_eq_true] at h1
        (try have h1b := zbit_n0.mp h1); (try have h1b := zbit_p0.mp h1)
        refine z_aload_0 d_Tf_live_11 ?_
        refine z_iconst (a := nI 5) d_Tf_live_12 (by decide) ?_
        refine z_Vi1 d_Tf_live_13 k_Tf_138 (by first | assumption | exact zS0_at (by assumption) (by omega) | exact zS0_at rfl (by omega)) (t_Tf_fail (by assumption)) ⟨Nat.le_of_ble_eq_true rfl, Nat.le_of_ble_eq_true rfl, Nat.le_of_ble_eq_true rfl, Nat.le_of_ble_eq_true rfl⟩ (Nat.le_of_ble_eq_true rfl) ?_
        intro r w hq
        obtain ⟨rfl, rfl⟩ := hq
        refine z_reti d_Tf_live_16 ?_
        exact ⟨by first | rfl | assumption, cW_0⟩)
  · first
    | (simp (disch := omega) only [← nI_0, nI_leI, nI_ltI, nI_eq, not_true_eq_false, not_false_eq_true] at h1; done)
    | (simp (disch := omega) only [← nI_0, nI_leI, nI_ltI, nI_eq, not_true_eq_false, not_false_eq_true] at h1; omega)
    | contradiction
    | exact absurd h1 (Int32.not_lt.mpr (by assumption))
    | exact absurd h1 (Int32.not_le.mpr (by assumption))
    | exact absurd h1 (by decide)
    | exact absurd (by decide) h1
    | ( try simp (disch := omega) only [← nI_0, nI_leI, nI_ltI, nI_eq, not_true_eq_false, not_false_eq_true] at h1
        (try have h1b := zbit_n0.mp h1); (try have h1b := zbit_p0.mp h1)
        refine z_iload_1 d_Tf_live_4 ?_
        refine z_sipush (a := nI 9999) d_Tf_live_5 (by decide) ?_
        refine z_icmp_le (tgt := 17) d_Tf_live_8 (by decide) (fun h8 => ?_) (fun h8 => ?_)
        · first
          | (simp (disch := omega) only [← nI_0, nI_leI, nI_ltI, nI_eq, not_true_eq_false, not_false_eq_true] at h8; done)
          | (simp (disch := omega) only [← nI_0, nI_leI, nI_ltI, nI_eq, not_true_eq_false, not_false_eq_true] at h8; omega)
          | contradiction
          | exact absurd h8 (Int32.not_lt.mpr (by assumption))
          | exact absurd h8 (Int32.not_le.mpr (by assumption))
          | exact absurd h8 (by decide)
          | exact absurd (by decide) h8
          | ( try simp (disch := omega) only [← nI_0, nI_leI, nI_ltI, nI_eq, not_true_eq_false, not_false_eq_true] at h8
              (try have h8b := zbit_n0.mp h8); (try have h8b := zbit_p0.mp h8)
              refine z_aload_0 d_Tf_live_17 ?_
              refine z_getR d_Tf_live_18 f_Tf_60 (by first | assumption | exact zS0_at (by assumption) (by omega) | exact zS0_at rfl (by omega)) (by first | assumption | exact zS0_at (by assumption) (by omega) | exact zS0_at rfl (by omega)) ?_
              refine z_getR d_Tf_live_21 f_Tf_177 (by first | assumption | exact zS0_at (by assumption) (by omega) | exact zS0_at rfl (by omega)) (by first | assumption | exact zS0_at (by assumption) (by omega) | exact zS0_at rfl (by omega)) ?_
              refine z_getIv d_Tf_live_24 f_Tf_388 (by first | assumption | exact zS0_at (by assumption) (by omega) | exact zS0_at rfl (by omega)) (by first | assumption | ((try simp (disch := omega) only [zu_same, zu_ne, zcp_ne, zfl_ne]); first | assumption | rfl)) ?_
              refine z_if_ne (tgt := 37) d_Tf_live_27 (by decide) (fun h27 => ?_) (fun h27 => ?_)
              · first
                | (simp (disch := omega) only [← nI_0, nI_leI, nI_ltI, nI_eq, not_true_eq_false, not_false_eq_true] at h27; done)
                | (simp (disch := omega) only [← nI_0, nI_leI, nI_ltI, nI_eq, not_true_eq_false, not_false_eq_true] at h27; omega)
                | contradiction
                | exact absurd h27 (Int32.not_lt.mpr (by assumption))
                | exact absurd h27 (Int32.not_le.mpr (by assumption))
                | exact absurd h27 (by decide)
                | exact absurd (by decide) h27
                | ( try simp (disch := omega) only [← nI_0, nI_leI, nI_ltI, nI_eq, not_true_eq_false, not_false_eq_true] at h27
                    (try have h27b := zbit_n0.mp h27); (try have h27b := zbit_p0.mp h27)
                    fail)
              · first
                | (simp (disch := omega) only [← nI_0, nI_leI, nI_ltI, nI_eq, not_true_eq_false, not_false_eq_true] at h27; done)
                | (simp (disch := omega) only [← nI_0, nI_leI, nI_ltI, nI_eq, not_true_eq_false, not_false_eq_true] at h27; omega)
                | contradiction
                | exact absurd h27 (Int32.not_lt.mpr (by assumption))
                | exact absurd h27 (Int32.not_le.mpr (by assumption))
                | exact absurd h27 (by decide)
                | exact absurd (by decide) h27
                | ( try simp (disch := omega) only [← nI_0, nI_leI, nI_ltI, nI_eq, not_true_eq_false, not_false_eq_true] at h27
                    (try have h27b := zbit_n0.mp h27); (try have h27b := zbit_p0.mp h27)
                    refine z_aload_0 d_Tf_live_30 ?_
                    refine z_bipush (a := nI 8) d_Tf_live_31 (by decide) ?_
                    refine z_Vi1 d_Tf_live_33 k_Tf_138 (by first | assumption | exact zS0_at (by assumption) (by omega) | exact zS0_at rfl (by omega)) (t_Tf_fail (by assumption)) ⟨Nat.le_of_ble_eq_true rfl, Nat.le_of_ble_eq_true rfl, Nat.le_of_ble_eq_true rfl, Nat.le_of_ble_eq_true rfl⟩ (Nat.le_of_ble_eq_true rfl) ?_
                    intro r w hq
                    obtain ⟨rfl, rfl⟩ := hq
                    refine z_reti d_Tf_live_36 ?_
                    exact ⟨by first | rfl | assumption, cW_0⟩))
        · first
          | (simp (disch := omega) only [← nI_0, nI_leI, nI_ltI, nI_eq, not_true_eq_false, not_false_eq_true] at h8; done)
          | (simp (disch := omega) only [← nI_0, nI_leI, nI_ltI, nI_eq, not_true_eq_false, not_false_eq_true] at h8; omega)
          | contradiction
          | exact absurd h8 (Int32.not_lt.mpr (by assumption))
          | exact absurd h8 (Int32.not_le.mpr (by assumption))
          | exact absurd h8 (by decide)
          | exact absurd (by decide) h8
          | ( try simp (disch := omega) only [← nI_0, nI_leI, nI_ltI, nI_eq, not_true_eq_false, not_false_eq_true] at h8
              (try have h8b := zbit_n0.mp h8); (try have h8b := zbit_p0.mp h8)
              refine z_aload_0 d_Tf_live_11 ?_
              refine z_iconst (a := nI 5) d_Tf_live_12 (by decide) ?_
              refine z_Vi1 d_Tf_live_13 k_Tf_138 (by first | assumption | exact zS0_at (by assumption) (by omega) | exact zS0_at rfl (by omega)) (t_Tf_fail (by assumption)) ⟨Nat.le_of_ble_eq_true rfl, Nat.le_of_ble_eq_true rfl, Nat.le_of_ble_eq_true rfl, Nat.le_of_ble_eq_true rfl⟩ (Nat.le_of_ble_eq_true rfl) ?_
              intro r w hq
              obtain ⟨rfl, rfl⟩ := hq
              refine z_reti d_Tf_live_16 ?_
              exact ⟨by first | rfl | assumption, cW_0⟩))
theorem t_Mo_live_b (M : modOk P S) (N : modIn I nt np nl nn) (hb : ¬ zin b 10000) : zEi G y_Mo_live prog_14_method_149_code 2 (some .int) 142 [.ref 145, .int b] (I, J, P, S) (fun r w => r = -1 ∧ mW I J P S 5 w) := by
  obtain ⟨M0, ⟨M4, M4s⟩, ⟨M5, M5s⟩, ⟨M6, M6s⟩, ⟨M7, M7s⟩, ⟨M20, M20s⟩, ⟨M21, M21s⟩, ⟨M22, M22s⟩, ⟨M26, M26s⟩, ⟨M27, M27s⟩, ⟨M28, M28s⟩, ⟨M30, M30s⟩, ⟨M34, M34s⟩, ⟨M36, M36s⟩, ⟨M37, M37s⟩⟩ := id M
  obtain ⟨I1, hI1, N1, h1, h0, e150, er, ek⟩ := mo_beg N
  obtain ⟨⟨m0, m0b⟩, ⟨m1, m1b⟩, ⟨m2, m2b⟩, ⟨m3, m3b⟩, mof, mon⟩ := id N1
  have hD : mD I I1 := ⟨h1, h0, e150, er⟩
  refine zEi_of (lv := [some (.ref 145), some (.int b)]) (by decide) rfl (Nat.le_of_ble_eq_true rfl) ?_
  refine z_aload_0 d_Mo_live_0 ?_
  refine z_iconst (a := nI 0) d_Mo_live_1 (by decide) ?_
  refine z_putI d_Mo_live_2 f_Mo_70 (by first | assumption | exact zS0_at (by assumption) (by omega) | exact zS0_at rfl (by omega)) ?_
  refine z_aload_0 d_Mo_live_5 ?_
  refine z_iconst (a := nI 0) d_Mo_live_6 (by decide) ?_
  refine z_putI d_Mo_live_7 f_Mo_73 (by first | assumption | exact zS0_at (by assumption) (by omega) | exact zS0_at rfl (by omega)) ?_
  rw [← hI1]
  refine z_iload_1 d_Mo_live_10 ?_
  refine z_i2l d_Mo_live_11 ?_
  refine z_lconst (f := lN 0) d_Mo_live_12 rfl ?_
  refine z_ldc2 d_Mo_live_13 c_Mo_509 ?_
  refine z_Si3 d_Mo_live_16 k_Mo_105 (t_Mo_isInZ (m := 10000) (by decide) (by decide)) ⟨Nat.le_of_ble_eq_true rfl, Nat.le_of_ble_eq_true rfl, Nat.le_of_ble_eq_true rfl, Nat.le_of_ble_eq_true rfl⟩ (Nat.le_of_ble_eq_true rfl) ?_
  intro r w hq
  rcases hq with ⟨⟨hz16, rfl⟩ | ⟨hz16, rfl⟩, rfl⟩
  · first
    | contradiction
    | ( skip
        refine z_if_ne (tgt := 28) d_Mo_live_19 (by decide) (fun _ => ?_) (fun h => absurd h (by decide))
        contradiction)
  · first
    | contradiction
    | ( skip
        refine z_if_ne (tgt := 28) d_Mo_live_19 (by decide) (fun h => absurd h (by decide)) (fun _ => ?_)
        refine z_aload_0 d_Mo_live_22 ?_
        refine z_iconst (a := nI 5) d_Mo_live_23 (by decide) ?_
        refine z_Vi1 d_Mo_live_24 k_Mo_327 (by first | assumption | exact zS0_at (by assumption) (by omega) | exact zS0_at rfl (by omega)) (t_Mo_refuse (by assumption)) ⟨Nat.le_of_ble_eq_true rfl, Nat.le_of_ble_eq_true rfl, Nat.le_of_ble_eq_true rfl, Nat.le_of_ble_eq_true rfl⟩ (Nat.le_of_ble_eq_true rfl) ?_
        intro r w hq
        obtain ⟨rfl, rfl⟩ := hq
        refine z_reti d_Mo_live_27 ?_
        exact ⟨by first | rfl | assumption | (rw [e150]), _, _, rfl, (by repeat (first | exact h1 | refine mqF_z ?_ (by decide))), mqJ_r, (by first | exact zu_same _ _ _ _ | exact h0)⟩)
theorem t_Mo_live_n (M : modOk P S) (N : modIn I nt np nl nn) (hs : sd < 10000) (h87 : I 150 87 = nI 0) : zEi G y_Mo_live prog_14_method_149_code 2 (some .int) 142 [.ref 145, .int (nI sd)] (I, J, P, S) (fun r w => r = -1 ∧ mW I J P S 8 w) := by
  obtain ⟨M0, ⟨M4, M4s⟩, ⟨M5, M5s⟩, ⟨M6, M6s⟩, ⟨M7, M7s⟩, ⟨M20, M20s⟩, ⟨M21, M21s⟩, ⟨M22, M22s⟩, ⟨M26, M26s⟩, ⟨M27, M27s⟩, ⟨M28, M28s⟩, ⟨M30, M30s⟩, ⟨M34, M34s⟩, ⟨M36, M36s⟩, ⟨M37, M37s⟩⟩ := id M
  obtain ⟨I1, hI1, N1, h1, h0, e150, er, ek⟩ := mo_beg N
  obtain ⟨⟨m0, m0b⟩, ⟨m1, m1b⟩, ⟨m2, m2b⟩, ⟨m3, m3b⟩, mof, mon⟩ := id N1
  have hD : mD I I1 := ⟨h1, h0, e150, er⟩
  refine zEi_of (lv := [some (.ref 145), some (.int (nI sd))]) (by decide) rfl (Nat.le_of_ble_eq_true rfl) ?_
  refine z_aload_0 d_Mo_live_0 ?_
  refine z_iconst (a := nI 0) d_Mo_live_1 (by decide) ?_
  refine z_putI d_Mo_live_2 f_Mo_70 (by first | assumption | exact zS0_at (by assumption) (by omega) | exact zS0_at rfl (by omega)) ?_
  refine z_aload_0 d_Mo_live_5 ?_
  refine z_iconst (a := nI 0) d_Mo_live_6 (by decide) ?_
  refine z_putI d_Mo_live_7 f_Mo_73 (by first | assumption | exact zS0_at (by assumption) (by omega) | exact zS0_at rfl (by omega)) ?_
  rw [← hI1]
  have hz : zin (nI sd) 10000 := ⟨sd, hs, rfl⟩
  have h87 : I1 150 87 = nI 0 := by rw [e150]; exact h87
  refine z_iload_1 d_Mo_live_10 ?_
  refine z_i2l d_Mo_live_11 ?_
  refine z_lconst (f := lN 0) d_Mo_live_12 rfl ?_
  refine z_ldc2 d_Mo_live_13 c_Mo_509 ?_
  refine z_Si3 d_Mo_live_16 k_Mo_105 (t_Mo_isInZ (m := 10000) (by decide) (by decide)) ⟨Nat.le_of_ble_eq_true rfl, Nat.le_of_ble_eq_true rfl, Nat.le_of_ble_eq_true rfl, Nat.le_of_ble_eq_true rfl⟩ (Nat.le_of_ble_eq_true rfl) ?_
  intro r w hq
  rcases hq with ⟨⟨hz16, rfl⟩ | ⟨hz16, rfl⟩, rfl⟩
  · first
    | contradiction
    | ( skip
        refine z_if_ne (tgt := 28) d_Mo_live_19 (by decide) (fun _ => ?_) (fun h => absurd h (by decide))
        refine z_aload_0 d_Mo_live_28 ?_
        refine z_getR d_Mo_live_29 f_Mo_35 (by first | assumption | exact zS0_at (by assumption) (by omega) | exact zS0_at rfl (by omega)) (by first | assumption | exact zS0_at (by assumption) (by omega) | exact zS0_at rfl (by omega)) ?_
        refine z_bipush (a := nI 87) d_Mo_live_32 (by decide) ?_
        first | refine z_ialdNv d_Mo_live_34 (by first | assumption | exact zS0_at (by assumption) (by omega) | exact zS0_at rfl (by omega)) (by omega) (by first | decide | omega) (by first | assumption | ((try simp (disch := omega) only [zu_same, zu_ne, zcp_ne, zfl_ne]); first | assumption | rfl)) ?_ | refine z_iald d_Mo_live_34 (by first | assumption | exact zS0_at (by assumption) (by omega) | exact zS0_at rfl (by omega)) (by first | assumption | exact zS0_at (by assumption) (by omega) | exact zS0_at rfl (by omega)) ?_
        refine z_if_ne (tgt := 45) d_Mo_live_35 (by decide) (fun h35 => ?_) (fun h35 => ?_)
        · first
          | (simp (disch := omega) only [← nI_0, nI_leI, nI_ltI, nI_eq, not_true_eq_false, not_false_eq_true] at h35; done)
          | (simp (disch := omega) only [← nI_0, nI_leI, nI_ltI, nI_eq, not_true_eq_false, not_false_eq_true] at h35; omega)
          | contradiction
          | exact absurd h35 (Int32.not_lt.mpr (by assumption))
          | exact absurd h35 (Int32.not_le.mpr (by assumption))
          | exact absurd h35 (by decide)
          | exact absurd (by decide) h35
          | ( try simp (disch := omega) only [← nI_0, nI_leI, nI_ltI, nI_eq, not_true_eq_false, not_false_eq_true] at h35
              (try have h35b := zbit_n0.mp h35); (try have h35b := zbit_p0.mp h35)
              fail)
        · first
          | (simp (disch := omega) only [← nI_0, nI_leI, nI_ltI, nI_eq, not_true_eq_false, not_false_eq_true] at h35; done)
          | (simp (disch := omega) only [← nI_0, nI_leI, nI_ltI, nI_eq, not_true_eq_false, not_false_eq_true] at h35; omega)
          | contradiction
          | exact absurd h35 (Int32.not_lt.mpr (by assumption))
          | exact absurd h35 (Int32.not_le.mpr (by assumption))
          | exact absurd h35 (by decide)
          | exact absurd (by decide) h35
          | ( try simp (disch := omega) only [← nI_0, nI_leI, nI_ltI, nI_eq, not_true_eq_false, not_false_eq_true] at h35
              (try have h35b := zbit_n0.mp h35); (try have h35b := zbit_p0.mp h35)
              refine z_aload_0 d_Mo_live_38 ?_
              refine z_bipush (a := nI 8) d_Mo_live_39 (by decide) ?_
              refine z_Vi1 d_Mo_live_41 k_Mo_327 (by first | assumption | exact zS0_at (by assumption) (by omega) | exact zS0_at rfl (by omega)) (t_Mo_refuse (by assumption)) ⟨Nat.le_of_ble_eq_true rfl, Nat.le_of_ble_eq_true rfl, Nat.le_of_ble_eq_true rfl, Nat.le_of_ble_eq_true rfl⟩ (Nat.le_of_ble_eq_true rfl) ?_
              intro r w hq
              obtain ⟨rfl, rfl⟩ := hq
              refine z_reti d_Mo_live_44 ?_
              exact ⟨by first | rfl | assumption | (rw [e150]), _, _, rfl, (by repeat (first | exact h1 | refine mqF_z ?_ (by decide))), mqJ_r, (by first | exact zu_same _ _ _ _ | exact h0)⟩))
  · first
    | contradiction
    | ( skip
        refine z_if_ne (tgt := 28) d_Mo_live_19 (by decide) (fun h => absurd h (by decide)) (fun _ => ?_)
        refine z_aload_0 d_Mo_live_22 ?_
        refine z_iconst (a := nI 5) d_Mo_live_23 (by decide) ?_
        refine z_Vi1 d_Mo_live_24 k_Mo_327 (by first | assumption | exact zS0_at (by assumption) (by omega) | exact zS0_at rfl (by omega)) (t_Mo_refuse (by assumption)) ⟨Nat.le_of_ble_eq_true rfl, Nat.le_of_ble_eq_true rfl, Nat.le_of_ble_eq_true rfl, Nat.le_of_ble_eq_true rfl⟩ (Nat.le_of_ble_eq_true rfl) ?_
        intro r w hq
        obtain ⟨rfl, rfl⟩ := hq
        refine z_reti d_Mo_live_27 ?_
        exact ⟨by first | rfl | assumption | (rw [e150]), _, _, rfl, (by repeat (first | exact h1 | refine mqF_z ?_ (by decide))), mqJ_r, (by first | exact zu_same _ _ _ _ | exact h0)⟩)
theorem t_Tf_live (Z : clOk f d P S) (hs : sd < 10000) (h0 : I (f + 12) 0 = nI 1) (V : lifeV f 121 nt np nl nn sz (c_start I 121 (nI sd))) : zEi G y_Tf_live prog_1_method_48_code 2 (some .int) 8 [.ref 0, .int (nI sd)] (I, J, P, S) (fun r w => r = c_its f 121 1000000 (c_start I 121 (nI sd)) 121 1 ∧ w = (zu (c_stop I (c_its f 121 1000000 (c_start I 121 (nI sd))) f 121 np) 0 0 (nI 0), J, P, S)) := by
  obtain ⟨⟨c0, c3, c1s⟩, ⟨c5, c2s, ctr⟩, ⟨c6, c11s, c11, c13s⟩, ⟨c7, c15s, c15⟩, ⟨c8, c16s, c16a, c16b, c17s⟩, ⟨c9, c10, cfd, F, Fd⟩, ⟨c11b, Ft⟩, ⟨c12, c69s, cmk⟩, ⟨c14, c121s, c121, c122s⟩, ⟨c15b, c123s, c123, c124s⟩, ⟨c16, c125s, c125, c126s⟩, ⟨c17, c127s, c127, c128s, ctb⟩, ⟨c18, c139s, c139, c140s⟩, ⟨c19, c141s, ⟨c141a, c142s⟩, ⟨c141b, c143s⟩, ⟨c141c, c144s⟩⟩, M⟩ := id Z
  have F0 := F.1
  obtain ⟨-, -, -, -, -, -, -, -, -, -, -, -, ⟨F19, F19s⟩, -⟩ := id F
  refine zEi_of (lv := [some (.ref 0), some (.int (nI sd))]) (by decide) rfl (Nat.le_of_ble_eq_true rfl) ?_
  refine z_iload_1 d_Tf_live_0 ?_
  refine z_if_lt (tgt := 11) d_Tf_live_1 (by decide) (fun h => absurd h (nI_pos (by omega))) (fun _ => ?_)
  refine z_iload_1 d_Tf_live_4 ?_
  refine z_sipush (a := nI 9999) d_Tf_live_5 (by decide) ?_
  refine z_icmp_le (tgt := 17) d_Tf_live_8 (by decide) (fun _ => ?_) (fun h => absurd (nI_le (by omega) (by omega)) h)
  refine z_aload_0 d_Tf_live_17 ?_
  refine z_getR d_Tf_live_18 f_Tf_60 (by first | assumption | exact zS0_at (by assumption) (by omega) | exact zS0_at rfl (by omega)) (by first | assumption | exact zS0_at (by assumption) (by omega) | exact zS0_at rfl (by omega)) ?_
  refine z_getR d_Tf_live_21 f_Tf_177 (by first | assumption | exact zS0_at (by assumption) (by omega) | exact zS0_at rfl (by omega)) (by first | assumption | exact zS0_at (by assumption) (by omega) | exact zS0_at rfl (by omega)) ?_
  refine z_getIv d_Tf_live_24 f_Tf_388 (by first | assumption | exact zS0_at (by assumption) (by omega) | exact zS0_at rfl (by omega)) (by first | assumption | ((try simp (disch := omega) only [zu_same, zu_ne, zcp_ne, zfl_ne]); first | assumption | rfl)) ?_
  refine z_if_ne (tgt := 37) d_Tf_live_27 (by decide) (fun _ => ?_) (fun h => absurd h (by decide))
  refine z_aload_0 d_Tf_live_37 ?_
  refine z_getR d_Tf_live_38 f_Tf_80 (by first | assumption | exact zS0_at (by assumption) (by omega) | exact zS0_at rfl (by omega)) (by first | assumption | exact zS0_at (by assumption) (by omega) | exact zS0_at rfl (by omega)) ?_
  refine z_aload_0 d_Tf_live_41 ?_
  refine z_getR d_Tf_live_42 f_Tf_60 (by first | assumption | exact zS0_at (by assumption) (by omega) | exact zS0_at rfl (by omega)) (by first | assumption | exact zS0_at (by assumption) (by omega) | exact zS0_at rfl (by omega)) ?_
  refine z_iload_1 d_Tf_live_45 ?_
  refine z_Vv2 d_Tf_live_46 k_Tf_389 (by first | assumption | exact zS0_at (by assumption) (by omega) | exact zS0_at rfl (by omega)) (t_Life_run c121s c121 c122s F (by omega) V) ⟨Nat.le_of_ble_eq_true rfl, Nat.le_of_ble_eq_true rfl, Nat.le_of_ble_eq_true rfl, Nat.le_of_ble_eq_true rfl⟩ (Nat.le_of_ble_eq_true rfl) ?_
  intro w hq
  obtain ⟨rfl, -⟩ := hq
  generalize hC : c_its f 121 1000000 (c_start I 121 (nI sd)) = C
  have h1 : c_stop I C f 121 np 121 1 = C 121 1 := by
    unfold c_stop
    rw [zu_ne _ _ _ _ (by omega), zu_ne _ _ _ _ (by omega), zu_ne _ _ _ _ (by omega)]
  refine z_aload_0 d_Tf_live_49 ?_
  refine z_aload_0 d_Tf_live_50 ?_
  refine z_getR d_Tf_live_51 f_Tf_80 (by first | assumption | exact zS0_at (by assumption) (by omega) | exact zS0_at rfl (by omega)) (by first | assumption | exact zS0_at (by assumption) (by omega) | exact zS0_at rfl (by omega)) ?_
  refine z_getIv d_Tf_live_54 f_Tf_393 (by first | assumption | exact zS0_at (by assumption) (by omega) | exact zS0_at rfl (by omega)) (by first | assumption | ((try simp (disch := omega) only [zu_same, zu_ne, zcp_ne, zfl_ne]); first | assumption | rfl)) ?_
  refine z_Vi1 d_Tf_live_57 k_Tf_174 (by first | assumption | exact zS0_at (by assumption) (by omega) | exact zS0_at rfl (by omega)) (t_Tf_give c0) ⟨Nat.le_of_ble_eq_true rfl, Nat.le_of_ble_eq_true rfl, Nat.le_of_ble_eq_true rfl, Nat.le_of_ble_eq_true rfl⟩ (Nat.le_of_ble_eq_true rfl) ?_
  intro r w hq
  obtain ⟨rfl, rfl⟩ := hq
  refine z_reti d_Tf_live_60 ?_
  exact ⟨rfl, rfl⟩
theorem t_Mo_live {g l m ns : Nat} {C0 : Nat → Nat → Int32} (M : modOk P S) (hl : f + 16 < l) (h : fmR g (sf f C0) (I 150) nt np nl nn) (hy : yb (n3 nt np nn) (sf (f + 12) C0) (fun c k => I 150 (89 + 9 * c + k)) m 0 ns 0 sz) (hns : I 150 88 = nI ns) (hns3 : ns ≤ 30) (hsz : C0 (f + 12) 2 = nI sz) (hz : sz ≤ 60) (hs : sd < 10000) (h87 : I 150 87 = nI 1) : zEi G y_Mo_live prog_14_method_149_code 2 (some .int) 142 [.ref 145, .int (nI sd)] (I, J, P, S) (fun r w => ∃ I1 I' I2, mD I I1 ∧ runZ f l nt np nl nn g C0 sd I1 I' ∧ r = I' 145 41 ∧ w = (I2, J, P, S) ∧ (∀ a, a ≠ 145 → a ≠ 159 → I2 a = I' a) ∧ (∀ k, k ≠ 38 → I2 145 k = I' 145 k) ∧ I2 145 38 = nI 1 ∧ I2 159 0 = I' 145 42 ∧ I2 159 1 = I' 150 5 - I' 145 43 ∧ I2 159 2 = I' 145 44 ∧ I2 159 3 = s_sum (fun _ => true) (fun p => I' 150 (26 + p)) np - I' 145 45 ∧ I2 159 4 = I' 145 46) := by
  obtain ⟨M0, ⟨M4, M4s⟩, ⟨M5, M5s⟩, ⟨M6, M6s⟩, ⟨M7, M7s⟩, ⟨M20, M20s⟩, ⟨M21, M21s⟩, ⟨M22, M22s⟩, ⟨M26, M26s⟩, ⟨M27, M27s⟩, ⟨M28, M28s⟩, ⟨M30, M30s⟩, ⟨M34, M34s⟩, ⟨M36, M36s⟩, ⟨M37, M37s⟩⟩ := id M
  obtain ⟨I1, hI1, N1, h1, h0, e150, er, ek⟩ := mo_beg (fmR_mod h)
  have hzi : zin (nI sd) 10000 := ⟨sd, hs, rfl⟩
  have h87' : I1 150 87 = nI 1 := by rw [e150]; exact h87
  refine zEi_of (lv := [some (.ref 145), some (.int (nI sd))]) (by decide) rfl (Nat.le_of_ble_eq_true rfl) ?_
  refine z_aload_0 d_Mo_live_0 ?_
  refine z_iconst (a := nI 0) d_Mo_live_1 (by decide) ?_
  refine z_putI d_Mo_live_2 f_Mo_70 (by first | assumption | exact zS0_at (by assumption) (by omega) | exact zS0_at rfl (by omega)) ?_
  refine z_aload_0 d_Mo_live_5 ?_
  refine z_iconst (a := nI 0) d_Mo_live_6 (by decide) ?_
  refine z_putI d_Mo_live_7 f_Mo_73 (by first | assumption | exact zS0_at (by assumption) (by omega) | exact zS0_at rfl (by omega)) ?_
  rw [← hI1]
  refine z_iload_1 d_Mo_live_10 ?_
  refine z_i2l d_Mo_live_11 ?_
  refine z_lconst (f := lN 0) d_Mo_live_12 rfl ?_
  refine z_ldc2 d_Mo_live_13 c_Mo_509 ?_
  refine z_Si3 d_Mo_live_16 k_Mo_105 (t_Mo_isInZ (m := 10000) (by decide) (by decide)) ⟨Nat.le_of_ble_eq_true rfl, Nat.le_of_ble_eq_true rfl, Nat.le_of_ble_eq_true rfl, Nat.le_of_ble_eq_true rfl⟩ (Nat.le_of_ble_eq_true rfl) ?_
  intro r w hq
  rcases hq with ⟨⟨hz1, rfl⟩ | ⟨hz1, rfl⟩, rfl⟩
  rotate_left
  · exact absurd hzi hz1
  refine z_if_ne (tgt := 28) d_Mo_live_19 (by decide) (fun _ => ?_) (fun h => absurd h (by decide))
  refine z_aload_0 d_Mo_live_28 ?_
  refine z_getR d_Mo_live_29 f_Mo_35 (by first | assumption | exact zS0_at (by assumption) (by omega) | exact zS0_at rfl (by omega)) (by first | assumption | exact zS0_at (by assumption) (by omega) | exact zS0_at rfl (by omega)) ?_
  refine z_bipush (a := nI 87) d_Mo_live_32 (by decide) ?_
  first | refine z_ialdNv d_Mo_live_34 (by first | assumption | exact zS0_at (by assumption) (by omega) | exact zS0_at rfl (by omega)) (by omega) (by first | decide | omega) (by first | assumption | ((try simp (disch := omega) only [zu_same, zu_ne, zcp_ne, zfl_ne]); first | assumption | rfl)) ?_ | refine z_iald d_Mo_live_34 (by first | assumption | exact zS0_at (by assumption) (by omega) | exact zS0_at rfl (by omega)) (by first | assumption | exact zS0_at (by assumption) (by omega) | exact zS0_at rfl (by omega)) ?_
  refine z_if_ne (tgt := 45) d_Mo_live_35 (by decide) (fun _ => ?_) (fun h => absurd h (by decide))
  refine z_aload_0 d_Mo_live_45 ?_
  refine z_iload_1 d_Mo_live_46 ?_
  refine z_Vv1 d_Mo_live_47 k_Mo_511 (by first | assumption | exact zS0_at (by assumption) (by omega) | exact zS0_at rfl (by omega)) (m_runs (l := l) (g := g) (C0 := C0) (ns := ns) (m := m) M hl (by rw [e150]; exact h) (by rw [e150]; exact hy) (by rw [e150]; exact hns) hns3 hsz hz (by omega)) ⟨Nat.le_of_ble_eq_true rfl, Nat.le_of_ble_eq_true rfl, Nat.le_of_ble_eq_true rfl, Nat.le_of_ble_eq_true rfl⟩ (Nat.le_of_ble_eq_true rfl) ?_
  intro w hq
  obtain ⟨I', rfl, hR⟩ := hq
  have hR' := hR
  obtain ⟨C', s', -, -, hF, -⟩ := hR'
  have N2 := fmR_mod hF
  have o42 : I' 145 42 = I' 145 42 := rfl
  refine z_aload_0 d_Mo_live_50 ?_
  refine z_getR d_Mo_live_51 f_Mo_63 (by first | assumption | exact zS0_at (by assumption) (by omega) | exact zS0_at rfl (by omega)) (by first | assumption | exact zS0_at (by assumption) (by omega) | exact zS0_at rfl (by omega)) ?_
  refine z_iconst (a := nI 0) d_Mo_live_54 (by decide) ?_
  refine z_aload_0 d_Mo_live_55 ?_
  refine z_getIv d_Mo_live_56 f_Mo_485 (by first | assumption | exact zS0_at (by assumption) (by omega) | exact zS0_at rfl (by omega)) (by first | assumption | ((try simp (disch := omega) only [zu_same, zu_ne, zcp_ne, zfl_ne]); first | assumption | rfl)) ?_
  first | refine z_iastN d_Mo_live_59 (by first | assumption | exact zS0_at (by assumption) (by omega) | exact zS0_at rfl (by omega)) (by omega) (by first | decide | omega) ?_ | refine z_iast d_Mo_live_59 (by first | assumption | exact zS0_at (by assumption) (by omega) | exact zS0_at rfl (by omega)) (by first | assumption | exact zS0_at (by assumption) (by omega) | exact zS0_at rfl (by omega)) ?_
  refine z_aload_0 d_Mo_live_60 ?_
  refine z_getR d_Mo_live_61 f_Mo_63 (by first | assumption | exact zS0_at (by assumption) (by omega) | exact zS0_at rfl (by omega)) (by first | assumption | exact zS0_at (by assumption) (by omega) | exact zS0_at rfl (by omega)) ?_
  refine z_iconst (a := nI 1) d_Mo_live_64 (by decide) ?_
  refine z_aload_0 d_Mo_live_65 ?_
  refine z_getR d_Mo_live_66 f_Mo_35 (by first | assumption | exact zS0_at (by assumption) (by omega) | exact zS0_at rfl (by omega)) (by first | assumption | exact zS0_at (by assumption) (by omega) | exact zS0_at rfl (by omega)) ?_
  refine z_iconst (a := nI 5) d_Mo_live_69 (by decide) ?_
  first | refine z_ialdNv d_Mo_live_70 (by first | assumption | exact zS0_at (by assumption) (by omega) | exact zS0_at rfl (by omega)) (by omega) (by first | decide | omega) (by first | assumption | ((try simp (disch := omega) only [zu_same, zu_ne, zcp_ne, zfl_ne]); first | assumption | rfl)) ?_ | refine z_iald d_Mo_live_70 (by first | assumption | exact zS0_at (by assumption) (by omega) | exact zS0_at rfl (by omega)) (by first | assumption | exact zS0_at (by assumption) (by omega) | exact zS0_at rfl (by omega)) ?_
  refine z_aload_0 d_Mo_live_71 ?_
  refine z_getIv d_Mo_live_72 f_Mo_500 (by first | assumption | exact zS0_at (by assumption) (by omega) | exact zS0_at rfl (by omega)) (by first | assumption | ((try simp (disch := omega) only [zu_same, zu_ne, zcp_ne, zfl_ne]); first | assumption | rfl)) ?_
  refine z_isub d_Mo_live_75 ?_
  first | refine z_iastN d_Mo_live_76 (by first | assumption | exact zS0_at (by assumption) (by omega) | exact zS0_at rfl (by omega)) (by omega) (by first | decide | omega) ?_ | refine z_iast d_Mo_live_76 (by first | assumption | exact zS0_at (by assumption) (by omega) | exact zS0_at rfl (by omega)) (by first | assumption | exact zS0_at (by assumption) (by omega) | exact zS0_at rfl (by omega)) ?_
  refine z_aload_0 d_Mo_live_77 ?_
  refine z_getR d_Mo_live_78 f_Mo_63 (by first | assumption | exact zS0_at (by assumption) (by omega) | exact zS0_at rfl (by omega)) (by first | assumption | exact zS0_at (by assumption) (by omega) | exact zS0_at rfl (by omega)) ?_
  refine z_iconst (a := nI 2) d_Mo_live_81 (by decide) ?_
  refine z_aload_0 d_Mo_live_82 ?_
  refine z_getIv d_Mo_live_83 f_Mo_467 (by first | assumption | exact zS0_at (by assumption) (by omega) | exact zS0_at rfl (by omega)) (by first | assumption | ((try simp (disch := omega) only [zu_same, zu_ne, zcp_ne, zfl_ne]); first | assumption | rfl)) ?_
  first | refine z_iastN d_Mo_live_86 (by first | assumption | exact zS0_at (by assumption) (by omega) | exact zS0_at rfl (by omega)) (by omega) (by first | decide | omega) ?_ | refine z_iast d_Mo_live_86 (by first | assumption | exact zS0_at (by assumption) (by omega) | exact zS0_at rfl (by omega)) (by first | assumption | exact zS0_at (by assumption) (by omega) | exact zS0_at rfl (by omega)) ?_
  refine z_aload_0 d_Mo_live_87 ?_
  refine z_getR d_Mo_live_88 f_Mo_63 (by first | assumption | exact zS0_at (by assumption) (by omega) | exact zS0_at rfl (by omega)) (by first | assumption | exact zS0_at (by assumption) (by omega) | exact zS0_at rfl (by omega)) ?_
  refine z_iconst (a := nI 3) d_Mo_live_91 (by decide) ?_
  refine z_aload_0 d_Mo_live_92 ?_
  refine z_Vi0 d_Mo_live_93 k_Mo_503 (by first | assumption | exact zS0_at (by assumption) (by omega) | exact zS0_at rfl (by omega)) (t_Mo_allGot M (modIn_c N2 (by rw [zu_row _ _ _ _ (by decide), zu_row _ _ _ _ (by decide), zu_row _ _ _ _ (by decide)]))) ⟨Nat.le_of_ble_eq_true rfl, Nat.le_of_ble_eq_true rfl, Nat.le_of_ble_eq_true rfl, Nat.le_of_ble_eq_true rfl⟩ (Nat.le_of_ble_eq_true rfl) ?_
  intro r w hq
  obtain ⟨rfl, rfl⟩ := hq
  rw [show zu (zu (zu I' 159 0 (I' 145 42)) 159 1 (I' 150 5 - I' 145 43)) 159 2 (I' 145 44) 150 = I' 150 by rw [zu_row _ _ _ _ (by decide), zu_row _ _ _ _ (by decide), zu_row _ _ _ _ (by decide)]]
  refine z_aload_0 d_Mo_live_96 ?_
  refine z_getIv d_Mo_live_97 f_Mo_506 (by first | assumption | exact zS0_at (by assumption) (by omega) | exact zS0_at rfl (by omega)) (by first | assumption | ((try simp (disch := omega) only [zu_same, zu_ne, zcp_ne, zfl_ne]); first | assumption | rfl)) ?_
  refine z_isub d_Mo_live_100 ?_
  first | refine z_iastN d_Mo_live_101 (by first | assumption | exact zS0_at (by assumption) (by omega) | exact zS0_at rfl (by omega)) (by omega) (by first | decide | omega) ?_ | refine z_iast d_Mo_live_101 (by first | assumption | exact zS0_at (by assumption) (by omega) | exact zS0_at rfl (by omega)) (by first | assumption | exact zS0_at (by assumption) (by omega) | exact zS0_at rfl (by omega)) ?_
  refine z_aload_0 d_Mo_live_102 ?_
  refine z_getR d_Mo_live_103 f_Mo_63 (by first | assumption | exact zS0_at (by assumption) (by omega) | exact zS0_at rfl (by omega)) (by first | assumption | exact zS0_at (by assumption) (by omega) | exact zS0_at rfl (by omega)) ?_
  refine z_iconst (a := nI 4) d_Mo_live_106 (by decide) ?_
  refine z_aload_0 d_Mo_live_107 ?_
  refine z_getIv d_Mo_live_108 f_Mo_482 (by first | assumption | exact zS0_at (by assumption) (by omega) | exact zS0_at rfl (by omega)) (by first | assumption | ((try simp (disch := omega) only [zu_same, zu_ne, zcp_ne, zfl_ne]); first | assumption | rfl)) ?_
  first | refine z_iastN d_Mo_live_111 (by first | assumption | exact zS0_at (by assumption) (by omega) | exact zS0_at rfl (by omega)) (by omega) (by first | decide | omega) ?_ | refine z_iast d_Mo_live_111 (by first | assumption | exact zS0_at (by assumption) (by omega) | exact zS0_at rfl (by omega)) (by first | assumption | exact zS0_at (by assumption) (by omega) | exact zS0_at rfl (by omega)) ?_
  refine z_aload_0 d_Mo_live_112 ?_
  refine z_iconst (a := nI 1) d_Mo_live_113 (by decide) ?_
  refine z_putZ d_Mo_live_114 f_Mo_514 (by first | assumption | exact zS0_at (by assumption) (by omega) | exact zS0_at rfl (by omega)) (by first | exact zb0 | exact zb1 | assumption) ?_
  refine z_aload_0 d_Mo_live_117 ?_
  refine z_getIv d_Mo_live_118 f_Mo_476 (by first | assumption | exact zS0_at (by assumption) (by omega) | exact zS0_at rfl (by omega)) (by first | assumption | ((try simp (disch := omega) only [zu_same, zu_ne, zcp_ne, zfl_ne]); first | assumption | rfl)) ?_
  refine z_reti d_Mo_live_121 ?_
  refine ⟨I1, I', _, ⟨h1, h0, e150, er⟩, hR, rfl, rfl, fun a g1 g2 => ?_, fun k hk => ?_, zu_same _ _ _ _, ?_, ?_, ?_, ?_, ?_⟩
  · rw [zu_row _ _ _ _ g1, zu_row _ _ _ _ g2, zu_row _ _ _ _ g2, zu_row _ _ _ _ g2, zu_row _ _ _ _ g2, zu_row _ _ _ _ g2]
  · rw [zu_ne _ _ _ _ (by omega), zu_ne _ _ _ _ (by omega), zu_ne _ _ _ _ (by omega), zu_ne _ _ _ _ (by omega), zu_ne _ _ _ _ (by omega), zu_ne _ _ _ _ (by omega)]
  · simp (disch := omega) only [zu_ne, zu_same]
  · simp (disch := omega) only [zu_ne, zu_same]
  · simp (disch := omega) only [zu_ne, zu_same]
  · simp (disch := omega) only [zu_ne, zu_same]
  · simp (disch := omega) only [zu_ne, zu_same]
theorem L_live (h : zInv n w) : zEi G y_Tf_live prog_1_method_48_code 2 (some .int) 8 [.ref 0, .int b] w (fun r w1 => w1.2.2.2 = w.2.2.2 ∧ zEi G y_Mo_live prog_14_method_149_code 2 (some .int) 142 [.ref 145, .int b] w1 (fun r' w2 => r' = r ∧ zInv (n + 1) w2)) := by
  obtain ⟨f, d, nt, np, nl, nn, fed, mk, I, J, P, S, rfl, Z, X⟩ := h
  have M := clOk_M Z
  have hf := clOk_f Z
  have N := stR_fen X
  have N0 := stR_mod X
  have fm := stR_fm X
  obtain ⟨⟨⟨a1, r1, b1⟩, ⟨a2, r2, b2⟩, ⟨a3, r3, b3⟩, ⟨a4, r4, b4⟩⟩, ⟨⟨o, ob, ao, ro⟩, r5⟩, fw, fp, ft, fz⟩ := id fm
  obtain ⟨⟨x1, x2, x3⟩, x4, ⟨⟨x5, x6, x7⟩, x8, x9⟩, ⟨x10, x11⟩, x12, x13, ⟨⟨x14, x15, x16⟩, x17⟩, x18⟩ := id X
  rcases zin_or b 10000 (by omega) with ⟨-, h⟩ | ⟨sd, hsd, rfl⟩
  · exact L_q Z X (t_Tf_live_b Z N h) (fun I' J' e _ => ⟨_, rfl, t_Mo_live_b M (modIn_c N0 (e 150 (by decide))) h⟩)
  rcases x13.2.2 with ⟨q1, q2, q3⟩ | ⟨m, ns, sz, q1, q2, ⟨q3, q4, q5⟩, ⟨q6, q7⟩, q8⟩
  · exact L_q Z X (t_Tf_live_n Z N hsd q1) (fun I' J' e _ => ⟨_, rfl, t_Mo_live_n M (modIn_c N0 (e 150 (by decide))) hsd (by rw [e 150 (by decide)]; exact q2)⟩)
  have V := lifeV_start (l := 121) (sd := sd) (by omega) fm q8 q6 q7 (by omega)
  refine zEi_mono (t_Tf_live Z hsd q1 V) ?_
  rintro r w ⟨rfl, rfl⟩
  generalize hC : c_its f 121 1000000 (c_start I 121 (nI sd)) = C
  have hst : ∀ a, a ≠ 0 → a ≠ 121 → zu (c_stop I C f 121 np) 0 0 (nI 0) a = C a := fun a g0 g1 => by
    unfold c_stop
    rw [zu_row _ _ _ _ g0, zu_row _ _ _ _ g1, zu_row _ _ _ _ g1, zu_row _ _ _ _ g1]
  have hq8 : yb (n3 nt np nn) (sf (f + 12) I) (fun c k => I 150 (89 + 9 * c + k)) m 0 ns 0 sz := yb_c _ _ _ _ _ (fun _ _ _ _ _ _ => rfl) (fun c k _ _ _ => by show I 150 (89 + 9 * c + k) = I 150 (359 * 0 + 89 + 9 * c + k); rw [show 359 * 0 + 89 + 9 * c + k = 89 + 9 * c + k by omega]) q8
  have eC : ∀ a, ¬ (f ≤ a ∧ a ≤ f + 8) → a ≠ 121 → a ≠ 122 → C a = I a := fun a g1 g2 g3 => by
    rw [← hC, (its_cK (g := 0) (by omega) 1000000 _ V).1 a g1 g2 g3]
    exact start_row g2
  have w150 : zu (c_stop I C f 121 np) 0 0 (nI 0) 150 = I 150 := by rw [hst 150 (by omega) (by omega), eC 150 (by omega) (by omega) (by omega)]
  refine ⟨rfl, zEi_mono (t_Mo_live (f := f) (l := 121) (g := 29700 * n) (C0 := I) (sz := sz) (m := m) (ns := ns) M (by omega) (by rw [w150]; exact fm) (by rw [w150]; exact hq8) (by rw [w150]; exact q4) q5 q6 q7 hsd (by rw [w150]; exact q2)) ?_⟩
  rintro r w ⟨I1, I', I2, hD, ⟨C', s', hC', hs', hF, hK, hR, t1, t2, t3, t4, t5, t6, t7⟩, rfl, rfl, u1, u2, u3, u4, u5, u6, u7, u8⟩
  obtain rfl : C' = C := hC'.trans hC
  obtain ⟨d1, d2, d3, d4⟩ := hD
  rw [w150] at d3
  have er : ∀ a, a ≠ 0 → a ≠ 121 → a ≠ 145 → a ≠ 150 → a ≠ 159 → I2 a = C' a := fun a g0 g1 g2 g3 g4 => by rw [u1 a g2 g4, hR.1 a g2 g3, d4 a g2, hst a g0 g1]
  have e150 : ∀ k, 87 ≤ k → I2 150 k = I 150 k := fun k hk => by rw [u1 150 (by omega) (by omega), hR.2.1 k hk, d3]
  have r150 : I2 150 = I' 150 := u1 150 (by omega) (by omega)
  have e121 : I2 121 = zu (c_stop I C' f 121 np) 0 0 (nI 0) 121 := by rw [u1 121 (by omega) (by omega), hR.1 121 (by omega) (by omega), d4 121 (by omega)]
  have e0 : I2 0 = zu (c_stop I C' f 121 np) 0 0 (nI 0) 0 := by rw [u1 0 (by omega) (by omega), hR.1 0 (by omega) (by omega), d4 0 (by omega)]
  have c121 : ∀ k, k ≠ 3 → k ≠ 4 → k ≠ 5 → I2 121 k = C' 121 k := fun k g1 g2 g3 => by
    rw [e121, zu_row _ _ _ _ (by omega)]
    unfold c_stop
    rw [zu_ne _ _ _ _ (by omega), zu_ne _ _ _ _ (by omega), zu_ne _ _ _ _ (by omega)]
  refine ⟨t1.trans t2.symm, f, d, nt, np, nl, nn, fed, mk, I2, J, P, S, rfl, Z, stR_lv (Ic := I) X hf (fun a ha => ?_) (fun k hk => ?_) e150 (fun k hk => ?_) ?_ ?_ ?_⟩
  · rw [er a (by omega) (by omega) (by omega) (by omega) (by omega), eC a (by omega) (by omega) (by omega)]
  · rw [e0, zu_ne _ _ _ _ (by omega)]
    unfold c_stop
    rw [zu_row _ _ _ _ (by omega), zu_row _ _ _ _ (by omega), zu_row _ _ _ _ (by omega), eC 0 (by omega) (by omega) (by omega)]
  · rw [u2 k (by omega), hR.2.2 k (by omega), d1.2 k (by omega), hst 145 (by omega) (by omega), eC 145 (by omega) (by omega) (by omega)]
  · rw [u2 0 (by omega), hR.2.2 0 (by omega), d2, e0, zu_same]
  · rw [r150]
    exact fmR_A (fmR_g hF (by omega)) (fun r hr => er (f + r) (by omega) (by omega) (by omega) (by omega) (by omega))
  · right
    have p2 := hF.1.2.1
    refine ⟨?_, u3, ?_, ?_, ?_, ?_, ?_⟩
    · rw [c121 0 (by omega) (by omega) (by omega), hC', its_l0 (by omega)]
      exact start_l.1
    · rw [u4, t3, c121 2 (by omega) (by omega) (by omega)]
    · rw [u5, t6, d3, e121, zu_row _ _ _ _ (by omega)]
      unfold c_stop
      rw [zu_ne _ _ _ _ (by omega), zu_ne _ _ _ _ (by omega), zu_same, hF.2.1.2]
      have h5 : I 150 5 = I f 5 := r5
      rw [h5]; rfl
    · rw [u6, t5, e121, zu_row _ _ _ _ (by omega)]
      unfold c_stop
      rw [zu_ne _ _ _ _ (by omega), zu_same, pc_set]
      rfl
    · rw [u7, t7, d3, e121, zu_row _ _ _ _ (by omega)]
      unfold c_stop
      rw [zu_same]
      have g1 : s_sum (fun _ => true) (fun p => I' 150 (26 + p)) np = s_sum (fun _ => true) (C' (f + 4)) np := s_sum_congr np (fun p hp => ⟨rfl, fun _ => by obtain ⟨-, -, v, -, v1, v2⟩ := hF.2.2.2.1 p hp; exact v2.trans v1.symm⟩)
      have g2 : s_sum (fun _ => true) (fun p => I 150 (26 + p)) np = s_sum (fun _ => true) (I (f + 4)) np := s_sum_congr np (fun p hp => ⟨rfl, fun _ => by obtain ⟨-, -, v, -, v1, v2⟩ := fp p hp; exact v2.trans v1.symm⟩)
      rw [g1, g2]
    · rw [u8, t4, c121 6 (by omega) (by omega) (by omega)]
end LV0
