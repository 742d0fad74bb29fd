/-! trays and the tape, both sides: pour, feed -/
section TY4
variable {G : zG} {I I' I2 : Nat → Nat → Int32} {J J' J2 : Nat → Nat → Int64} {P : Nat → Nat → Option Nat} {S : List (Nat × Nat)} {f d nt np nl nn n fed fed' mk st t u l l' k k' p q m : Nat} {a b c e bi bj bm : Int32} {x : Int64} {w : zW}
theorem zcp_d {α : Type} {f : Nat → Nat → α} {q s d n : Nat} : zu (zcp f q q (s + 1) (d + 1) n) q d (f q s) = zcp f q q s d (n + 1) := by
  funext x y
  by_cases h : x = q
  · subst h
    by_cases h1 : y = d
    · subst h1
      rw [zu_same, zcp_in (Nat.le_refl _) (by omega), Nat.sub_self, Nat.add_zero]
    · rw [zu_ne _ _ _ _ (by omega)]
      by_cases h2 : d ≤ y ∧ y < d + (n + 1)
      · rw [zcp_in (by omega) (by omega), zcp_in h2.1 h2.2, show s + 1 + (y - (d + 1)) = s + (y - d) by omega]
      · rw [zcp_out (by omega), zcp_out h2]
  · rw [zu_row _ _ _ _ h, zcp_ne h, zcp_ne h]
theorem t_Tf_pour_o (Z : clOk f d P S) (h : ¬ zin a 4 ∨ ¬ zin c 4) : zEi G y_Tf_pour prog_1_method_8_code 8 (some .boolean) 2 [.ref 0, .int a, .int bi, .int c, .int bj, .int bm] (I, J, P, S) (fun r w => r = nI 0 ∧ cW I J P S 1 w) := by
  obtain ⟨⟨c0, c3, c1s⟩, ⟨c5, c2s, ctr⟩, ⟨c6, c11s, c11, c13s⟩, ⟨c7, c15s, c15⟩, ⟨c8, c16s, c16a, c16b, c17s⟩, ⟨c9, c10, cfd, F, Fd⟩, ⟨c11b, Ft⟩, ⟨c12, c69s, cmk⟩, ⟨c14, c121s, c121, c122s⟩, ⟨c15b, c123s, c123, c124s⟩, ⟨c16, c125s, c125, c126s⟩, ⟨c17, c127s, c127, c128s, ctb⟩, ⟨c18, c139s, c139, c140s⟩, ⟨c19, c141s, ⟨c141a, c142s⟩, ⟨c141b, c143s⟩, ⟨c141c, c144s⟩⟩, M⟩ := id Z
  refine zEi_of (lv := [some (.ref 0), some (.int a), some (.int bi), some (.int c), some (.int bj), some (.int bm), none, none]) (by decide) rfl (Nat.le_of_ble_eq_true rfl) ?_
  rcases h with h | h
  · refine z_iload_1 d_Tf_pour_0 ?_
    refine z_Si1 d_Tf_pour_1 k_Tf_115 (t_Tf_noTray) ⟨Nat.le_of_ble_eq_true rfl, Nat.le_of_ble_eq_true rfl, Nat.le_of_ble_eq_true rfl, Nat.le_of_ble_eq_true rfl⟩ (Nat.le_of_ble_eq_true rfl) ?_
    intro r w hq
    rcases hq with ⟨⟨hz1, rfl⟩ | ⟨hz1, rfl⟩, rfl⟩
    · first
      | contradiction
      | ( skip
          refine z_if_ne (tgt := 14) d_Tf_pour_4 (by decide) (fun _ => ?_) (fun h => absurd h (by decide))
          refine z_aload_0 d_Tf_pour_14 ?_
          refine z_iconst (a := nI 1) d_Tf_pour_15 (by decide) ?_
          refine z_Vi1 d_Tf_pour_16 k_Tf_119 (by first | assumption | exact zS0_at (by assumption) (by omega) | exact zS0_at rfl (by omega)) (t_Tf_refuse (by assumption)) ⟨Nat.le_of_ble_eq_true rfl, Nat.le_of_ble_eq_true rfl, Nat.le_of_ble_eq_true rfl, Nat.le_of_ble_eq_true rfl⟩ (Nat.le_of_ble_eq_true rfl) ?_
          intro r w hq
          obtain ⟨rfl, rfl⟩ := hq
          refine z_retz d_Tf_pour_19 (by first | exact zb0 | exact zb1 | assumption) ?_
          exact ⟨rfl, cW_0⟩)
    · first
      | contradiction
      | ( skip
          refine z_if_ne (tgt := 14) d_Tf_pour_4 (by decide) (fun h => absurd h (by decide)) (fun _ => ?_)
          refine z_iload_3 d_Tf_pour_7 ?_
          refine z_Si1 d_Tf_pour_8 k_Tf_115 (t_Tf_noTray) ⟨Nat.le_of_ble_eq_true rfl, Nat.le_of_ble_eq_true rfl, Nat.le_of_ble_eq_true rfl, Nat.le_of_ble_eq_true rfl⟩ (Nat.le_of_ble_eq_true rfl) ?_
          intro r w hq
          rcases hq with ⟨⟨hz8, rfl⟩ | ⟨hz8, rfl⟩, rfl⟩
          · first
            | contradiction
            | ( skip
                refine z_if_eq (tgt := 20) d_Tf_pour_11 (by decide) (fun h => absurd h (by decide)) (fun _ => ?_)
                refine z_aload_0 d_Tf_pour_14 ?_
                refine z_iconst (a := nI 1) d_Tf_pour_15 (by decide) ?_
                refine z_Vi1 d_Tf_pour_16 k_Tf_119 (by first | assumption | exact zS0_at (by assumption) (by omega) | exact zS0_at rfl (by omega)) (t_Tf_refuse (by assumption)) ⟨Nat.le_of_ble_eq_true rfl, Nat.le_of_ble_eq_true rfl, Nat.le_of_ble_eq_true rfl, Nat.le_of_ble_eq_true rfl⟩ (Nat.le_of_ble_eq_true rfl) ?_
                intro r w hq
                obtain ⟨rfl, rfl⟩ := hq
                refine z_retz d_Tf_pour_19 (by first | exact zb0 | exact zb1 | assumption) ?_
                exact ⟨rfl, cW_0⟩)
          · first
            | contradiction
            | ( skip
                refine z_if_eq (tgt := 20) d_Tf_pour_11 (by decide) (fun _ => ?_) (fun h => absurd h (by decide))
                contradiction))
  · refine z_iload_1 d_Tf_pour_0 ?_
    refine z_Si1 d_Tf_pour_1 k_Tf_115 (t_Tf_noTray) ⟨Nat.le_of_ble_eq_true rfl, Nat.le_of_ble_eq_true rfl, Nat.le_of_ble_eq_true rfl, Nat.le_of_ble_eq_true rfl⟩ (Nat.le_of_ble_eq_true rfl) ?_
    intro r w hq
    rcases hq with ⟨⟨hz1, rfl⟩ | ⟨hz1, rfl⟩, rfl⟩
    · first
      | contradiction
      | ( skip
          refine z_if_ne (tgt := 14) d_Tf_pour_4 (by decide) (fun _ => ?_) (fun h => absurd h (by decide))
          refine z_aload_0 d_Tf_pour_14 ?_
          refine z_iconst (a := nI 1) d_Tf_pour_15 (by decide) ?_
          refine z_Vi1 d_Tf_pour_16 k_Tf_119 (by first | assumption | exact zS0_at (by assumption) (by omega) | exact zS0_at rfl (by omega)) (t_Tf_refuse (by assumption)) ⟨Nat.le_of_ble_eq_true rfl, Nat.le_of_ble_eq_true rfl, Nat.le_of_ble_eq_true rfl, Nat.le_of_ble_eq_true rfl⟩ (Nat.le_of_ble_eq_true rfl) ?_
          intro r w hq
          obtain ⟨rfl, rfl⟩ := hq
          refine z_retz d_Tf_pour_19 (by first | exact zb0 | exact zb1 | assumption) ?_
          exact ⟨rfl, cW_0⟩)
    · first
      | contradiction
      | ( skip
          refine z_if_ne (tgt := 14) d_Tf_pour_4 (by decide) (fun h => absurd h (by decide)) (fun _ => ?_)
          refine z_iload_3 d_Tf_pour_7 ?_
          refine z_Si1 d_Tf_pour_8 k_Tf_115 (t_Tf_noTray) ⟨Nat.le_of_ble_eq_true rfl, Nat.le_of_ble_eq_true rfl, Nat.le_of_ble_eq_true rfl, Nat.le_of_ble_eq_true rfl⟩ (Nat.le_of_ble_eq_true rfl) ?_
          intro r w hq
          rcases hq with ⟨⟨hz8, rfl⟩ | ⟨hz8, rfl⟩, rfl⟩
          · first
            | contradiction
            | ( skip
                refine z_if_eq (tgt := 20) d_Tf_pour_11 (by decide) (fun h => absurd h (by decide)) (fun _ => ?_)
                refine z_aload_0 d_Tf_pour_14 ?_
                refine z_iconst (a := nI 1) d_Tf_pour_15 (by decide) ?_
                refine z_Vi1 d_Tf_pour_16 k_Tf_119 (by first | assumption | exact zS0_at (by assumption) (by omega) | exact zS0_at rfl (by omega)) (t_Tf_refuse (by assumption)) ⟨Nat.le_of_ble_eq_true rfl, Nat.le_of_ble_eq_true rfl, Nat.le_of_ble_eq_true rfl, Nat.le_of_ble_eq_true rfl⟩ (Nat.le_of_ble_eq_true rfl) ?_
                intro r w hq
                obtain ⟨rfl, rfl⟩ := hq
                refine z_retz d_Tf_pour_19 (by first | exact zb0 | exact zb1 | assumption) ?_
                exact ⟨rfl, cW_0⟩)
          · first
            | contradiction
            | ( skip
                refine z_if_eq (tgt := 20) d_Tf_pour_11 (by decide) (fun _ => ?_) (fun h => absurd h (by decide))
                contradiction))
theorem t_Mo_pour_o (M : modOk P S) (N : modIn I nt np nl nn) (h : ¬ zin a 4 ∨ ¬ zin c 4) : zEi G y_Mo_pour prog_14_method_16_code 9 (some .boolean) 2 [.ref 145, .int a, .int bi, .int c, .int bj, .int bm] (I, J, P, S) (fun r w => r = nI 0 ∧ mW I J P S 1 w) := by
  obtain ⟨M0, ⟨M4, M4s⟩, ⟨M5, M5s⟩, ⟨M6, M6s⟩, ⟨M7, M7s⟩, ⟨M20, M20s⟩, ⟨M21, M21s⟩, ⟨M22, M22s⟩, ⟨M26, M26s⟩, ⟨M27, M27s⟩, ⟨M28, M28s⟩, ⟨M30, M30s⟩, ⟨M34, M34s⟩, ⟨M36, M36s⟩, ⟨M37, M37s⟩⟩ := id M
  obtain ⟨I1, hI1, N1, h1, h0, e150, er, ek⟩ := mo_beg N
  have h : (a < 0 ∨ nI 4 ≤ a) ∨ (c < 0 ∨ nI 4 ≤ c) := by
    rcases h with h | h
    · rcases zin_or a 4 (by decide) with ⟨q, -⟩ | q
      · exact Or.inl q
      · exact absurd q h
    · rcases zin_or c 4 (by decide) with ⟨q, -⟩ | q
      · exact Or.inr q
      · exact absurd q h
  refine zEi_of (lv := [some (.ref 145), some (.int a), some (.int bi), some (.int c), some (.int bj), some (.int bm), none, none, none]) (by decide) rfl (Nat.le_of_ble_eq_true rfl) ?_
  refine z_aload_0 d_Mo_pour_0 ?_
  refine z_iconst (a := nI 0) d_Mo_pour_1 (by decide) ?_
  refine z_putI d_Mo_pour_2 f_Mo_70 (by first | assumption | exact zS0_at (by assumption) (by omega) | exact zS0_at rfl (by omega)) ?_
  refine z_aload_0 d_Mo_pour_5 ?_
  refine z_iconst (a := nI 0) d_Mo_pour_6 (by decide) ?_
  refine z_putI d_Mo_pour_7 f_Mo_73 (by first | assumption | exact zS0_at (by assumption) (by omega) | exact zS0_at rfl (by omega)) ?_
  rw [← hI1]
  rcases h with (h | h) | h | h
  · refine z_iload_1 d_Mo_pour_10 ?_
    refine z_if_lt (tgt := 28) d_Mo_pour_11 (by decide) (fun h11 => ?_) (fun h11 => ?_)
    · first
      | (simp (disch := omega) only [← nI_0, nI_leI, nI_ltI, nI_eq, not_true_eq_false, not_false_eq_true] at h11; done)
      | (simp (disch := omega) only [← nI_0, nI_leI, nI_ltI, nI_eq, not_true_eq_false, not_false_eq_true] at h11; omega)
      | contradiction
      | exact absurd h11 (Int32.not_lt.mpr (by assumption))
      | exact absurd h11 (Int32.not_le.mpr (by assumption))
      | exact absurd h11 (by decide)
      | exact absurd (by decide) h11
      | ( try simp (disch := omega) only [← nI_0, nI_leI, nI_ltI, nI_eq, not_true_eq_false, not_false_eq_true] at h11
          (try have h11b := zbit_n0.mp h11); (try have h11b := zbit_p0.mp h11)
          refine z_aload_0 d_Mo_pour_28 ?_
          refine z_iconst (a := nI 1) d_Mo_pour_29 (by decide) ?_
          refine z_Vi1 d_Mo_pour_30 k_Mo_85 (by first | assumption | exact zS0_at (by assumption) (by omega) | exact zS0_at rfl (by omega)) (t_Mo_no (by assumption)) ⟨Nat.le_of_ble_eq_true rfl, Nat.le_of_ble_eq_true rfl, Nat.le_of_ble_eq_true rfl, Nat.le_of_ble_eq_true rfl⟩ (Nat.le_of_ble_eq_true rfl) ?_
          intro r w hq
          obtain ⟨rfl, rfl⟩ := hq
          refine z_retz d_Mo_pour_33 (by first | exact zb0 | exact zb1 | assumption) ?_
          exact ⟨rfl, _, _, rfl, mqF_z h1 (by decide), mqJ_r, zu_same _ _ _ _⟩)
    · first
      | (simp (disch := omega) only [← nI_0, nI_leI, nI_ltI, nI_eq, not_true_eq_false, not_false_eq_true] at h11; done)
      | (simp (disch := omega) only [← nI_0, nI_leI, nI_ltI, nI_eq, not_true_eq_false, not_false_eq_true] at h11; omega)
      | contradiction
      | exact absurd h11 (Int32.not_lt.mpr (by assumption))
      | exact absurd h11 (Int32.not_le.mpr (by assumption))
      | exact absurd h11 (by decide)
      | exact absurd (by decide) h11
      | ( try simp (disch := omega) only [← nI_0, nI_leI, nI_ltI, nI_eq, not_true_eq_false, not_false_eq_true] at h11
          (try have h11b := zbit_n0.mp h11); (try have h11b := zbit_p0.mp h11)
          refine z_iload_1 d_Mo_pour_14 ?_
          refine z_iconst (a := nI 4) d_Mo_pour_15 (by decide) ?_
          refine z_icmp_ge (tgt := 28) d_Mo_pour_16 (by decide) (fun h16 => ?_) (fun h16 => ?_)
          · first
            | (simp (disch := omega) only [← nI_0, nI_leI, nI_ltI, nI_eq, not_true_eq_false, not_false_eq_true] at h16; done)
            | (simp (disch := omega) only [← nI_0, nI_leI, nI_ltI, nI_eq, not_true_eq_false, not_false_eq_true] at h16; omega)
            | contradiction
            | exact absurd h16 (Int32.not_lt.mpr (by assumption))
            | exact absurd h16 (Int32.not_le.mpr (by assumption))
            | exact absurd h16 (by decide)
            | exact absurd (by decide) h16
            | ( try simp (disch := omega) only [← nI_0, nI_leI, nI_ltI, nI_eq, not_true_eq_false, not_false_eq_true] at h16
                (try have h16b := zbit_n0.mp h16); (try have h16b := zbit_p0.mp h16)
                refine z_aload_0 d_Mo_pour_28 ?_
                refine z_iconst (a := nI 1) d_Mo_pour_29 (by decide) ?_
                refine z_Vi1 d_Mo_pour_30 k_Mo_85 (by first | assumption | exact zS0_at (by assumption) (by omega) | exact zS0_at rfl (by omega)) (t_Mo_no (by assumption)) ⟨Nat.le_of_ble_eq_true rfl, Nat.le_of_ble_eq_true rfl, Nat.le_of_ble_eq_true rfl, Nat.le_of_ble_eq_true rfl⟩ (Nat.le_of_ble_eq_true rfl) ?_
                intro r w hq
                obtain ⟨rfl, rfl⟩ := hq
                refine z_retz d_Mo_pour_33 (by first | exact zb0 | exact zb1 | assumption) ?_
                exact ⟨rfl, _, _, rfl, mqF_z h1 (by decide), mqJ_r, zu_same _ _ _ _⟩)
          · first
            | (simp (disch := omega) only [← nI_0, nI_leI, nI_ltI, nI_eq, not_true_eq_false, not_false_eq_true] at h16; done)
            | (simp (disch := omega) only [← nI_0, nI_leI, nI_ltI, nI_eq, not_true_eq_false, not_false_eq_true] at h16; omega)
            | contradiction
            | exact absurd h16 (Int32.not_lt.mpr (by assumption))
            | exact absurd h16 (Int32.not_le.mpr (by assumption))
            | exact absurd h16 (by decide)
            | exact absurd (by decide) h16
            | ( try simp (disch := omega) only [← nI_0, nI_leI, nI_ltI, nI_eq, not_true_eq_false, not_false_eq_true] at h16
                (try have h16b := zbit_n0.mp h16); (try have h16b := zbit_p0.mp h16)
                refine z_iload_3 d_Mo_pour_19 ?_
                refine z_if_lt (tgt := 28) d_Mo_pour_20 (by decide) (fun h20 => ?_) (fun h20 => ?_)
                · first
                  | (simp (disch := omega) only [← nI_0, nI_leI, nI_ltI, nI_eq, not_true_eq_false, not_false_eq_true] at h20; done)
                  | (simp (disch := omega) only [← nI_0, nI_leI, nI_ltI, nI_eq, not_true_eq_false, not_false_eq_true] at h20; omega)
                  | contradiction
                  | exact absurd h20 (Int32.not_lt.mpr (by assumption))
                  | exact absurd h20 (Int32.not_le.mpr (by assumption))
                  | exact absurd h20 (by decide)
                  | exact absurd (by decide) h20
                  | ( try simp (disch := omega) only [← nI_0, nI_leI, nI_ltI, nI_eq, not_true_eq_false, not_false_eq_true] at h20
                      (try have h20b := zbit_n0.mp h20); (try have h20b := zbit_p0.mp h20)
                      refine z_aload_0 d_Mo_pour_28 ?_
                      refine z_iconst (a := nI 1) d_Mo_pour_29 (by decide) ?_
                      refine z_Vi1 d_Mo_pour_30 k_Mo_85 (by first | assumption | exact zS0_at (by assumption) (by omega) | exact zS0_at rfl (by omega)) (t_Mo_no (by assumption)) ⟨Nat.le_of_ble_eq_true rfl, Nat.le_of_ble_eq_true rfl, Nat.le_of_ble_eq_true rfl, Nat.le_of_ble_eq_true rfl⟩ (Nat.le_of_ble_eq_true rfl) ?_
                      intro r w hq
                      obtain ⟨rfl, rfl⟩ := hq
                      refine z_retz d_Mo_pour_33 (by first | exact zb0 | exact zb1 | assumption) ?_
                      exact ⟨rfl, _, _, rfl, mqF_z h1 (by decide), mqJ_r, zu_same _ _ _ _⟩)
                · first
                  | (simp (disch := omega) only [← nI_0, nI_leI, nI_ltI, nI_eq, not_true_eq_false, not_false_eq_true] at h20; done)
                  | (simp (disch := omega) only [← nI_0, nI_leI, nI_ltI, nI_eq, not_true_eq_false, not_false_eq_true] at h20; omega)
                  | contradiction
                  | exact absurd h20 (Int32.not_lt.mpr (by assumption))
                  | exact absurd h20 (Int32.not_le.mpr (by assumption))
                  | exact absurd h20 (by decide)
                  | exact absurd (by decide) h20
                  | ( try simp (disch := omega) only [← nI_0, nI_leI, nI_ltI, nI_eq, not_true_eq_false, not_false_eq_true] at h20
                      (try have h20b := zbit_n0.mp h20); (try have h20b := zbit_p0.mp h20)
                      refine z_iload_3 d_Mo_pour_23 ?_
                      refine z_iconst (a := nI 4) d_Mo_pour_24 (by decide) ?_
                      refine z_icmp_lt (tgt := 34) d_Mo_pour_25 (by decide) (fun h25 => ?_) (fun h25 => ?_)
                      · first
                        | (simp (disch := omega) only [← nI_0, nI_leI, nI_ltI, nI_eq, not_true_eq_false, not_false_eq_true] at h25; done)
                        | (simp (disch := omega) only [← nI_0, nI_leI, nI_ltI, nI_eq, not_true_eq_false, not_false_eq_true] at h25; omega)
                        | contradiction
                        | exact absurd h25 (Int32.not_lt.mpr (by assumption))
                        | exact absurd h25 (Int32.not_le.mpr (by assumption))
                        | exact absurd h25 (by decide)
                        | exact absurd (by decide) h25
                        | ( try simp (disch := omega) only [← nI_0, nI_leI, nI_ltI, nI_eq, not_true_eq_false, not_false_eq_true] at h25
                            (try have h25b := zbit_n0.mp h25); (try have h25b := zbit_p0.mp h25)
                            fail)
                      · first
                        | (simp (disch := omega) only [← nI_0, nI_leI, nI_ltI, nI_eq, not_true_eq_false, not_false_eq_true] at h25; done)
                        | (simp (disch := omega) only [← nI_0, nI_leI, nI_ltI, nI_eq, not_true_eq_false, not_false_eq_true] at h25; omega)
                        | contradiction
                        | exact absurd h25 (Int32.not_lt.mpr (by assumption))
                        | exact absurd h25 (Int32.not_le.mpr (by assumption))
                        | exact absurd h25 (by decide)
                        | exact absurd (by decide) h25
                        | ( try simp (disch := omega) only [← nI_0, nI_leI, nI_ltI, nI_eq, not_true_eq_false, not_false_eq_true] at h25
                            (try have h25b := zbit_n0.mp h25); (try have h25b := zbit_p0.mp h25)
                            refine z_aload_0 d_Mo_pour_28 ?_
                            refine z_iconst (a := nI 1) d_Mo_pour_29 (by decide) ?_
                            refine z_Vi1 d_Mo_pour_30 k_Mo_85 (by first | assumption | exact zS0_at (by assumption) (by omega) | exact zS0_at rfl (by omega)) (t_Mo_no (by assumption)) ⟨Nat.le_of_ble_eq_true rfl, Nat.le_of_ble_eq_true rfl, Nat.le_of_ble_eq_true rfl, Nat.le_of_ble_eq_true rfl⟩ (Nat.le_of_ble_eq_true rfl) ?_
                            intro r w hq
                            obtain ⟨rfl, rfl⟩ := hq
                            refine z_retz d_Mo_pour_33 (by first | exact zb0 | exact zb1 | assumption) ?_
                            exact ⟨rfl, _, _, rfl, mqF_z h1 (by decide), mqJ_r, zu_same _ _ _ _⟩))))
  · refine z_iload_1 d_Mo_pour_10 ?_
    refine z_if_lt (tgt := 28) d_Mo_pour_11 (by decide) (fun h11 => ?_) (fun h11 => ?_)
    · first
      | (simp (disch := omega) only [← nI_0, nI_leI, nI_ltI, nI_eq, not_true_eq_false, not_false_eq_true] at h11; done)
      | (simp (disch := omega) only [← nI_0, nI_leI, nI_ltI, nI_eq, not_true_eq_false, not_false_eq_true] at h11; omega)
      | contradiction
      | exact absurd h11 (Int32.not_lt.mpr (by assumption))
      | exact absurd h11 (Int32.not_le.mpr (by assumption))
      | exact absurd h11 (by decide)
      | exact absurd (by decide) h11
      | ( try simp (disch := omega) only [← nI_0, nI_leI, nI_ltI, nI_eq, not_true_eq_false, not_false_eq_true] at h11
          (try have h11b := zbit_n0.mp h11); (try have h11b := zbit_p0.mp h11)
          refine z_aload_0 d_Mo_pour_28 ?_
          refine z_iconst (a := nI 1) d_Mo_pour_29 (by decide) ?_
          refine z_Vi1 d_Mo_pour_30 k_Mo_85 (by first | assumption | exact zS0_at (by assumption) (by omega) | exact zS0_at rfl (by omega)) (t_Mo_no (by assumption)) ⟨Nat.le_of_ble_eq_true rfl, Nat.le_of_ble_eq_true rfl, Nat.le_of_ble_eq_true rfl, Nat.le_of_ble_eq_true rfl⟩ (Nat.le_of_ble_eq_true rfl) ?_
          intro r w hq
          obtain ⟨rfl, rfl⟩ := hq
          refine z_retz d_Mo_pour_33 (by first | exact zb0 | exact zb1 | assumption) ?_
          exact ⟨rfl, _, _, rfl, mqF_z h1 (by decide), mqJ_r, zu_same _ _ _ _⟩)
    · first
      | (simp (disch := omega) only [← nI_0, nI_leI, nI_ltI, nI_eq, not_true_eq_false, not_false_eq_true] at h11; done)
      | (simp (disch := omega) only [← nI_0, nI_leI, nI_ltI, nI_eq, not_true_eq_false, not_false_eq_true] at h11; omega)
      | contradiction
      | exact absurd h11 (Int32.not_lt.mpr (by assumption))
      | exact absurd h11 (Int32.not_le.mpr (by assumption))
      | exact absurd h11 (by decide)
      | exact absurd (by decide) h11
      | ( try simp (disch := omega) only [← nI_0, nI_leI, nI_ltI, nI_eq, not_true_eq_false, not_false_eq_true] at h11
          (try have h11b := zbit_n0.mp h11); (try have h11b := zbit_p0.mp h11)
          refine z_iload_1 d_Mo_pour_14 ?_
          refine z_iconst (a := nI 4) d_Mo_pour_15 (by decide) ?_
          refine z_icmp_ge (tgt := 28) d_Mo_pour_16 (by decide) (fun h16 => ?_) (fun h16 => ?_)
          · first
            | (simp (disch := omega) only [← nI_0, nI_leI, nI_ltI, nI_eq, not_true_eq_false, not_false_eq_true] at h16; done)
            | (simp (disch := omega) only [← nI_0, nI_leI, nI_ltI, nI_eq, not_true_eq_false, not_false_eq_true] at h16; omega)
            | contradiction
            | exact absurd h16 (Int32.not_lt.mpr (by assumption))
            | exact absurd h16 (Int32.not_le.mpr (by assumption))
            | exact absurd h16 (by decide)
            | exact absurd (by decide) h16
            | ( try simp (disch := omega) only [← nI_0, nI_leI, nI_ltI, nI_eq, not_true_eq_false, not_false_eq_true] at h16
                (try have h16b := zbit_n0.mp h16); (try have h16b := zbit_p0.mp h16)
                refine z_aload_0 d_Mo_pour_28 ?_
                refine z_iconst (a := nI 1) d_Mo_pour_29 (by decide) ?_
                refine z_Vi1 d_Mo_pour_30 k_Mo_85 (by first | assumption | exact zS0_at (by assumption) (by omega) | exact zS0_at rfl (by omega)) (t_Mo_no (by assumption)) ⟨Nat.le_of_ble_eq_true rfl, Nat.le_of_ble_eq_true rfl, Nat.le_of_ble_eq_true rfl, Nat.le_of_ble_eq_true rfl⟩ (Nat.le_of_ble_eq_true rfl) ?_
                intro r w hq
                obtain ⟨rfl, rfl⟩ := hq
                refine z_retz d_Mo_pour_33 (by first | exact zb0 | exact zb1 | assumption) ?_
                exact ⟨rfl, _, _, rfl, mqF_z h1 (by decide), mqJ_r, zu_same _ _ _ _⟩)
          · first
            | (simp (disch := omega) only [← nI_0, nI_leI, nI_ltI, nI_eq, not_true_eq_false, not_false_eq_true] at h16; done)
            | (simp (disch := omega) only [← nI_0, nI_leI, nI_ltI, nI_eq, not_true_eq_false, not_false_eq_true] at h16; omega)
            | contradiction
            | exact absurd h16 (Int32.not_lt.mpr (by assumption))
            | exact absurd h16 (Int32.not_le.mpr (by assumption))
            | exact absurd h16 (by decide)
            | exact absurd (by decide) h16
            | ( try simp (disch := omega) only [← nI_0, nI_leI, nI_ltI, nI_eq, not_true_eq_false, not_false_eq_true] at h16
                (try have h16b := zbit_n0.mp h16); (try have h16b := zbit_p0.mp h16)
                refine z_iload_3 d_Mo_pour_19 ?_
                refine z_if_lt (tgt := 28) d_Mo_pour_20 (by decide) (fun h20 => ?_) (fun h20 => ?_)
                · first
                  | (simp (disch := omega) only [← nI_0, nI_leI, nI_ltI, nI_eq, not_true_eq_false, not_false_eq_true] at h20; done)
                  | (simp (disch := omega) only [← nI_0, nI_leI, nI_ltI, nI_eq, not_true_eq_false, not_false_eq_true] at h20; omega)
                  | contradiction
                  | exact absurd h20 (Int32.not_lt.mpr (by assumption))
                  | exact absurd h20 (Int32.not_le.mpr (by assumption))
                  | exact absurd h20 (by decide)
                  | exact absurd (by decide) h20
                  | ( try simp (disch := omega) only [← nI_0, nI_leI, nI_ltI, nI_eq, not_true_eq_false, not_false_eq_true] at h20
                      (try have h20b := zbit_n0.mp h20); (try have h20b := zbit_p0.mp h20)
                      refine z_aload_0 d_Mo_pour_28 ?_
                      refine z_iconst (a := nI 1) d_Mo_pour_29 (by decide) ?_
                      refine z_Vi1 d_Mo_pour_30 k_Mo_85 (by first | assumption | exact zS0_at (by assumption) (by omega) | exact zS0_at rfl (by omega)) (t_Mo_no (by assumption)) ⟨Nat.le_of_ble_eq_true rfl, Nat.le_of_ble_eq_true rfl, Nat.le_of_ble_eq_true rfl, Nat.le_of_ble_eq_true rfl⟩ (Nat.le_of_ble_eq_true rfl) ?_
                      intro r w hq
                      obtain ⟨rfl, rfl⟩ := hq
                      refine z_retz d_Mo_pour_33 (by first | exact zb0 | exact zb1 | assumption) ?_
                      exact ⟨rfl, _, _, rfl, mqF_z h1 (by decide), mqJ_r, zu_same _ _ _ _⟩)
                · first
                  | (simp (disch := omega) only [← nI_0, nI_leI, nI_ltI, nI_eq, not_true_eq_false, not_false_eq_true] at h20; done)
                  | (simp (disch := omega) only [← nI_0, nI_leI, nI_ltI, nI_eq, not_true_eq_false, not_false_eq_true] at h20; omega)
                  | contradiction
                  | exact absurd h20 (Int32.not_lt.mpr (by assumption))
                  | exact absurd h20 (Int32.not_le.mpr (by assumption))
                  | exact absurd h20 (by decide)
                  | exact absurd (by decide) h20
                  | ( try simp (disch := omega) only [← nI_0, nI_leI, nI_ltI, nI_eq, not_true_eq_false, not_false_eq_true] at h20
                      (try have h20b := zbit_n0.mp h20); (try have h20b := zbit_p0.mp h20)
                      refine z_iload_3 d_Mo_pour_23 ?_
                      refine z_iconst (a := nI 4) d_Mo_pour_24 (by decide) ?_
                      refine z_icmp_lt (tgt := 34) d_Mo_pour_25 (by decide) (fun h25 => ?_) (fun h25 => ?_)
                      · first
                        | (simp (disch := omega) only [← nI_0, nI_leI, nI_ltI, nI_eq, not_true_eq_false, not_false_eq_true] at h25; done)
                        | (simp (disch := omega) only [← nI_0, nI_leI, nI_ltI, nI_eq, not_true_eq_false, not_false_eq_true] at h25; omega)
                        | contradiction
                        | exact absurd h25 (Int32.not_lt.mpr (by assumption))
                        | exact absurd h25 (Int32.not_le.mpr (by assumption))
                        | exact absurd h25 (by decide)
                        | exact absurd (by decide) h25
                        | ( try simp (disch := omega) only [← nI_0, nI_leI, nI_ltI, nI_eq, not_true_eq_false, not_false_eq_true] at h25
                            (try have h25b := zbit_n0.mp h25); (try have h25b := zbit_p0.mp h25)
                            fail)
                      · first
                        | (simp (disch := omega) only [← nI_0, nI_leI, nI_ltI, nI_eq, not_true_eq_false, not_false_eq_true] at h25; done)
                        | (simp (disch := omega) only [← nI_0, nI_leI, nI_ltI, nI_eq, not_true_eq_false, not_false_eq_true] at h25; omega)
                        | contradiction
                        | exact absurd h25 (Int32.not_lt.mpr (by assumption))
                        | exact absurd h25 (Int32.not_le.mpr (by assumption))
                        | exact absurd h25 (by decide)
                        | exact absurd (by decide) h25
                        | ( try simp (disch := omega) only [← nI_0, nI_leI, nI_ltI, nI_eq, not_true_eq_false, not_false_eq_true] at h25
                            (try have h25b := zbit_n0.mp h25); (try have h25b := zbit_p0.mp h25)
                            refine z_aload_0 d_Mo_pour_28 ?_
                            refine z_iconst (a := nI 1) d_Mo_pour_29 (by decide) ?_
                            refine z_Vi1 d_Mo_pour_30 k_Mo_85 (by first | assumption | exact zS0_at (by assumption) (by omega) | exact zS0_at rfl (by omega)) (t_Mo_no (by assumption)) ⟨Nat.le_of_ble_eq_true rfl, Nat.le_of_ble_eq_true rfl, Nat.le_of_ble_eq_true rfl, Nat.le_of_ble_eq_true rfl⟩ (Nat.le_of_ble_eq_true rfl) ?_
                            intro r w hq
                            obtain ⟨rfl, rfl⟩ := hq
                            refine z_retz d_Mo_pour_33 (by first | exact zb0 | exact zb1 | assumption) ?_
                            exact ⟨rfl, _, _, rfl, mqF_z h1 (by decide), mqJ_r, zu_same _ _ _ _⟩))))
  · refine z_iload_1 d_Mo_pour_10 ?_
    refine z_if_lt (tgt := 28) d_Mo_pour_11 (by decide) (fun h11 => ?_) (fun h11 => ?_)
    · first
      | (simp (disch := omega) only [← nI_0, nI_leI, nI_ltI, nI_eq, not_true_eq_false, not_false_eq_true] at h11; done)
      | (simp (disch := omega) only [← nI_0, nI_leI, nI_ltI, nI_eq, not_true_eq_false, not_false_eq_true] at h11; omega)
      | contradiction
      | exact absurd h11 (Int32.not_lt.mpr (by assumption))
      | exact absurd h11 (Int32.not_le.mpr (by assumption))
      | exact absurd h11 (by decide)
      | exact absurd (by decide) h11
      | ( try simp (disch := omega) only [← nI_0, nI_leI, nI_ltI, nI_eq, not_true_eq_false, not_false_eq_true] at h11
          (try have h11b := zbit_n0.mp h11); (try have h11b := zbit_p0.mp h11)
          refine z_aload_0 d_Mo_pour_28 ?_
          refine z_iconst (a := nI 1) d_Mo_pour_29 (by decide) ?_
          refine z_Vi1 d_Mo_pour_30 k_Mo_85 (by first | assumption | exact zS0_at (by assumption) (by omega) | exact zS0_at rfl (by omega)) (t_Mo_no (by assumption)) ⟨Nat.le_of_ble_eq_true rfl, Nat.le_of_ble_eq_true rfl, Nat.le_of_ble_eq_true rfl, Nat.le_of_ble_eq_true rfl⟩ (Nat.le_of_ble_eq_true rfl) ?_
          intro r w hq
          obtain ⟨rfl, rfl⟩ := hq
          refine z_retz d_Mo_pour_33 (by first | exact zb0 | exact zb1 | assumption) ?_
          exact ⟨rfl, _, _, rfl, mqF_z h1 (by decide), mqJ_r, zu_same _ _ _ _⟩)
    · first
      | (simp (disch := omega) only [← nI_0, nI_leI, nI_ltI, nI_eq, not_true_eq_false, not_false_eq_true] at h11; done)
      | (simp (disch := omega) only [← nI_0, nI_leI, nI_ltI, nI_eq, not_true_eq_false, not_false_eq_true] at h11; omega)
      | contradiction
      | exact absurd h11 (Int32.not_lt.mpr (by assumption))
      | exact absurd h11 (Int32.not_le.mpr (by assumption))
      | exact absurd h11 (by decide)
      | exact absurd (by decide) h11
      | ( try simp (disch := omega) only [← nI_0, nI_leI, nI_ltI, nI_eq, not_true_eq_false, not_false_eq_true] at h11
          (try have h11b := zbit_n0.mp h11); (try have h11b := zbit_p0.mp h11)
          refine z_iload_1 d_Mo_pour_14 ?_
          refine z_iconst (a := nI 4) d_Mo_pour_15 (by decide) ?_
          refine z_icmp_ge (tgt := 28) d_Mo_pour_16 (by decide) (fun h16 => ?_) (fun h16 => ?_)
          · first
            | (simp (disch := omega) only [← nI_0, nI_leI, nI_ltI, nI_eq, not_true_eq_false, not_false_eq_true] at h16; done)
            | (simp (disch := omega) only [← nI_0, nI_leI, nI_ltI, nI_eq, not_true_eq_false, not_false_eq_true] at h16; omega)
            | contradiction
            | exact absurd h16 (Int32.not_lt.mpr (by assumption))
            | exact absurd h16 (Int32.not_le.mpr (by assumption))
            | exact absurd h16 (by decide)
            | exact absurd (by decide) h16
            | ( try simp (disch := omega) only [← nI_0, nI_leI, nI_ltI, nI_eq, not_true_eq_false, not_false_eq_true] at h16
                (try have h16b := zbit_n0.mp h16); (try have h16b := zbit_p0.mp h16)
                refine z_aload_0 d_Mo_pour_28 ?_
                refine z_iconst (a := nI 1) d_Mo_pour_29 (by decide) ?_
                refine z_Vi1 d_Mo_pour_30 k_Mo_85 (by first | assumption | exact zS0_at (by assumption) (by omega) | exact zS0_at rfl (by omega)) (t_Mo_no (by assumption)) ⟨Nat.le_of_ble_eq_true rfl, Nat.le_of_ble_eq_true rfl, Nat.le_of_ble_eq_true rfl, Nat.le_of_ble_eq_true rfl⟩ (Nat.le_of_ble_eq_true rfl) ?_
                intro r w hq
                obtain ⟨rfl, rfl⟩ := hq
                refine z_retz d_Mo_pour_33 (by first | exact zb0 | exact zb1 | assumption) ?_
                exact ⟨rfl, _, _, rfl, mqF_z h1 (by decide), mqJ_r, zu_same _ _ _ _⟩)
          · first
            | (simp (disch := omega) only [← nI_0, nI_leI, nI_ltI, nI_eq, not_true_eq_false, not_false_eq_true] at h16; done)
            | (simp (disch := omega) only [← nI_0, nI_leI, nI_ltI, nI_eq, not_true_eq_false, not_false_eq_true] at h16; omega)
            | contradiction
            | exact absurd h16 (Int32.not_lt.mpr (by assumption))
            | exact absurd h16 (Int32.not_le.mpr (by assumption))
            | exact absurd h16 (by decide)
            | exact absurd (by decide) h16
            | ( try simp (disch := omega) only [← nI_0, nI_leI, nI_ltI, nI_eq, not_true_eq_false, not_false_eq_true] at h16
                (try have h16b := zbit_n0.mp h16); (try have h16b := zbit_p0.mp h16)
                refine z_iload_3 d_Mo_pour_19 ?_
                refine z_if_lt (tgt := 28) d_Mo_pour_20 (by decide) (fun h20 => ?_) (fun h20 => ?_)
                · first
                  | (simp (disch := omega) only [← nI_0, nI_leI, nI_ltI, nI_eq, not_true_eq_false, not_false_eq_true] at h20; done)
                  | (simp (disch := omega) only [← nI_0, nI_leI, nI_ltI, nI_eq, not_true_eq_false, not_false_eq_true] at h20; omega)
                  | contradiction
                  | exact absurd h20 (Int32.not_lt.mpr (by assumption))
                  | exact absurd h20 (Int32.not_le.mpr (by assumption))
                  | exact absurd h20 (by decide)
                  | exact absurd (by decide) h20
                  | ( try simp (disch := omega) only [← nI_0, nI_leI, nI_ltI, nI_eq, not_true_eq_false, not_false_eq_true] at h20
                      (try have h20b := zbit_n0.mp h20); (try have h20b := zbit_p0.mp h20)
                      refine z_aload_0 d_Mo_pour_28 ?_
                      refine z_iconst (a := nI 1) d_Mo_pour_29 (by decide) ?_
                      refine z_Vi1 d_Mo_pour_30 k_Mo_85 (by first | assumption | exact zS0_at (by assumption) (by omega) | exact zS0_at rfl (by omega)) (t_Mo_no (by assumption)) ⟨Nat.le_of_ble_eq_true rfl, Nat.le_of_ble_eq_true rfl, Nat.le_of_ble_eq_true rfl, Nat.le_of_ble_eq_true rfl⟩ (Nat.le_of_ble_eq_true rfl) ?_
                      intro r w hq
                      obtain ⟨rfl, rfl⟩ := hq
                      refine z_retz d_Mo_pour_33 (by first | exact zb0 | exact zb1 | assumption) ?_
                      exact ⟨rfl, _, _, rfl, mqF_z h1 (by decide), mqJ_r, zu_same _ _ _ _⟩)
                · first
                  | (simp (disch := omega) only [← nI_0, nI_leI, nI_ltI, nI_eq, not_true_eq_false, not_false_eq_true] at h20; done)
                  | (simp (disch := omega) only [← nI_0, nI_leI, nI_ltI, nI_eq, not_true_eq_false, not_false_eq_true] at h20; omega)
                  | contradiction
                  | exact absurd h20 (Int32.not_lt.mpr (by assumption))
                  | exact absurd h20 (Int32.not_le.mpr (by assumption))
                  | exact absurd h20 (by decide)
                  | exact absurd (by decide) h20
                  | ( try simp (disch := omega) only [← nI_0, nI_leI, nI_ltI, nI_eq, not_true_eq_false, not_false_eq_true] at h20
                      (try have h20b := zbit_n0.mp h20); (try have h20b := zbit_p0.mp h20)
                      refine z_iload_3 d_Mo_pour_23 ?_
                      refine z_iconst (a := nI 4) d_Mo_pour_24 (by decide) ?_
                      refine z_icmp_lt (tgt := 34) d_Mo_pour_25 (by decide) (fun h25 => ?_) (fun h25 => ?_)
                      · first
                        | (simp (disch := omega) only [← nI_0, nI_leI, nI_ltI, nI_eq, not_true_eq_false, not_false_eq_true] at h25; done)
                        | (simp (disch := omega) only [← nI_0, nI_leI, nI_ltI, nI_eq, not_true_eq_false, not_false_eq_true] at h25; omega)
                        | contradiction
                        | exact absurd h25 (Int32.not_lt.mpr (by assumption))
                        | exact absurd h25 (Int32.not_le.mpr (by assumption))
                        | exact absurd h25 (by decide)
                        | exact absurd (by decide) h25
                        | ( try simp (disch := omega) only [← nI_0, nI_leI, nI_ltI, nI_eq, not_true_eq_false, not_false_eq_true] at h25
                            (try have h25b := zbit_n0.mp h25); (try have h25b := zbit_p0.mp h25)
                            fail)
                      · first
                        | (simp (disch := omega) only [← nI_0, nI_leI, nI_ltI, nI_eq, not_true_eq_false, not_false_eq_true] at h25; done)
                        | (simp (disch := omega) only [← nI_0, nI_leI, nI_ltI, nI_eq, not_true_eq_false, not_false_eq_true] at h25; omega)
                        | contradiction
                        | exact absurd h25 (Int32.not_lt.mpr (by assumption))
                        | exact absurd h25 (Int32.not_le.mpr (by assumption))
                        | exact absurd h25 (by decide)
                        | exact absurd (by decide) h25
                        | ( try simp (disch := omega) only [← nI_0, nI_leI, nI_ltI, nI_eq, not_true_eq_false, not_false_eq_true] at h25
                            (try have h25b := zbit_n0.mp h25); (try have h25b := zbit_p0.mp h25)
                            refine z_aload_0 d_Mo_pour_28 ?_
                            refine z_iconst (a := nI 1) d_Mo_pour_29 (by decide) ?_
                            refine z_Vi1 d_Mo_pour_30 k_Mo_85 (by first | assumption | exact zS0_at (by assumption) (by omega) | exact zS0_at rfl (by omega)) (t_Mo_no (by assumption)) ⟨Nat.le_of_ble_eq_true rfl, Nat.le_of_ble_eq_true rfl, Nat.le_of_ble_eq_true rfl, Nat.le_of_ble_eq_true rfl⟩ (Nat.le_of_ble_eq_true rfl) ?_
                            intro r w hq
                            obtain ⟨rfl, rfl⟩ := hq
                            refine z_retz d_Mo_pour_33 (by first | exact zb0 | exact zb1 | assumption) ?_
                            exact ⟨rfl, _, _, rfl, mqF_z h1 (by decide), mqJ_r, zu_same _ _ _ _⟩))))
  · refine z_iload_1 d_Mo_pour_10 ?_
    refine z_if_lt (tgt := 28) d_Mo_pour_11 (by decide) (fun h11 => ?_) (fun h11 => ?_)
    · first
      | (simp (disch := omega) only [← nI_0, nI_leI, nI_ltI, nI_eq, not_true_eq_false, not_false_eq_true] at h11; done)
      | (simp (disch := omega) only [← nI_0, nI_leI, nI_ltI, nI_eq, not_true_eq_false, not_false_eq_true] at h11; omega)
      | contradiction
      | exact absurd h11 (Int32.not_lt.mpr (by assumption))
      | exact absurd h11 (Int32.not_le.mpr (by assumption))
      | exact absurd h11 (by decide)
      | exact absurd (by decide) h11
      | ( try simp (disch := omega) only [← nI_0, nI_leI, nI_ltI, nI_eq, not_true_eq_false, not_false_eq_true] at h11
          (try have h11b := zbit_n0.mp h11); (try have h11b := zbit_p0.mp h11)
          refine z_aload_0 d_Mo_pour_28 ?_
          refine z_iconst (a := nI 1) d_Mo_pour_29 (by decide) ?_
          refine z_Vi1 d_Mo_pour_30 k_Mo_85 (by first | assumption | exact zS0_at (by assumption) (by omega) | exact zS0_at rfl (by omega)) (t_Mo_no (by assumption)) ⟨Nat.le_of_ble_eq_true rfl, Nat.le_of_ble_eq_true rfl, Nat.le_of_ble_eq_true rfl, Nat.le_of_ble_eq_true rfl⟩ (Nat.le_of_ble_eq_true rfl) ?_
          intro r w hq
          obtain ⟨rfl, rfl⟩ := hq
          refine z_retz d_Mo_pour_33 (by first | exact zb0 | exact zb1 | assumption) ?_
          exact ⟨rfl, _, _, rfl, mqF_z h1 (by decide), mqJ_r, zu_same _ _ _ _⟩)
    · first
      | (simp (disch := omega) only [← nI_0, nI_leI, nI_ltI, nI_eq, not_true_eq_false, not_false_eq_true] at h11; done)
      | (simp (disch := omega) only [← nI_0, nI_leI, nI_ltI, nI_eq, not_true_eq_false, not_false_eq_true] at h11; omega)
      | contradiction
      | exact absurd h11 (Int32.not_lt.mpr (by assumption))
      | exact absurd h11 (Int32.not_le.mpr (by assumption))
      | exact absurd h11 (by decide)
      | exact absurd (by decide) h11
      | ( try simp (disch := omega) only [← nI_0, nI_leI, nI_ltI, nI_eq, not_true_eq_false, not_false_eq_true] at h11
          (try have h11b := zbit_n0.mp h11); (try have h11b := zbit_p0.mp h11)
          refine z_iload_1 d_Mo_pour_14 ?_
          refine z_iconst (a := nI 4) d_Mo_pour_15 (by decide) ?_
          refine z_icmp_ge (tgt := 28) d_Mo_pour_16 (by decide) (fun h16 => ?_) (fun h16 => ?_)
          · first
            | (simp (disch := omega) only [← nI_0, nI_leI, nI_ltI, nI_eq, not_true_eq_false, not_false_eq_true] at h16; done)
            | (simp (disch := omega) only [← nI_0, nI_leI, nI_ltI, nI_eq, not_true_eq_false, not_false_eq_true] at h16; omega)
            | contradiction
            | exact absurd h16 (Int32.not_lt.mpr (by assumption))
            | exact absurd h16 (Int32.not_le.mpr (by assumption))
            | exact absurd h16 (by decide)
            | exact absurd (by decide) h16
            | ( try simp (disch := omega) only [← nI_0, nI_leI, nI_ltI, nI_eq, not_true_eq_false, not_false_eq_true] at h16
                (try have h16b := zbit_n0.mp h16); (try have h16b := zbit_p0.mp h16)
                refine z_aload_0 d_Mo_pour_28 ?_
                refine z_iconst (a := nI 1) d_Mo_pour_29 (by decide) ?_
                refine z_Vi1 d_Mo_pour_30 k_Mo_85 (by first | assumption | exact zS0_at (by assumption) (by omega) | exact zS0_at rfl (by omega)) (t_Mo_no (by assumption)) ⟨Nat.le_of_ble_eq_true rfl, Nat.le_of_ble_eq_true rfl, Nat.le_of_ble_eq_true rfl, Nat.le_of_ble_eq_true rfl⟩ (Nat.le_of_ble_eq_true rfl) ?_
                intro r w hq
                obtain ⟨rfl, rfl⟩ := hq
                refine z_retz d_Mo_pour_33 (by first | exact zb0 | exact zb1 | assumption) ?_
                exact ⟨rfl, _, _, rfl, mqF_z h1 (by decide), mqJ_r, zu_same _ _ _ _⟩)
          · first
            | (simp (disch := omega) only [← nI_0, nI_leI, nI_ltI, nI_eq, not_true_eq_false, not_false_eq_true] at h16; done)
            | (simp (disch := omega) only [← nI_0, nI_leI, nI_ltI, nI_eq, not_true_eq_false, not_false_eq_true] at h16; omega)
            | contradiction
            | exact absurd h16 (Int32.not_lt.mpr (by assumption))
            | exact absurd h16 (Int32.not_le.mpr (by assumption))
            | exact absurd h16 (by decide)
            | exact absurd (by decide) h16
            | ( try simp (disch := omega) only [← nI_0, nI_leI, nI_ltI, nI_eq, not_true_eq_false, not_false_eq_true] at h16
                (try have h16b := zbit_n0.mp h16); (try have h16b := zbit_p0.mp h16)
                refine z_iload_3 d_Mo_pour_19 ?_
                refine z_if_lt (tgt := 28) d_Mo_pour_20 (by decide) (fun h20 => ?_) (fun h20 => ?_)
                · first
                  | (simp (disch := omega) only [← nI_0, nI_leI, nI_ltI, nI_eq, not_true_eq_false, not_false_eq_true] at h20; done)
                  | (simp (disch := omega) only [← nI_0, nI_leI, nI_ltI, nI_eq, not_true_eq_false, not_false_eq_true] at h20; omega)
                  | contradiction
                  | exact absurd h20 (Int32.not_lt.mpr (by assumption))
                  | exact absurd h20 (Int32.not_le.mpr (by assumption))
                  | exact absurd h20 (by decide)
                  | exact absurd (by decide) h20
                  | ( try simp (disch := omega) only [← nI_0, nI_leI, nI_ltI, nI_eq, not_true_eq_false, not_false_eq_true] at h20
                      (try have h20b := zbit_n0.mp h20); (try have h20b := zbit_p0.mp h20)
                      refine z_aload_0 d_Mo_pour_28 ?_
                      refine z_iconst (a := nI 1) d_Mo_pour_29 (by decide) ?_
                      refine z_Vi1 d_Mo_pour_30 k_Mo_85 (by first | assumption | exact zS0_at (by assumption) (by omega) | exact zS0_at rfl (by omega)) (t_Mo_no (by assumption)) ⟨Nat.le_of_ble_eq_true rfl, Nat.le_of_ble_eq_true rfl, Nat.le_of_ble_eq_true rfl, Nat.le_of_ble_eq_true rfl⟩ (Nat.le_of_ble_eq_true rfl) ?_
                      intro r w hq
                      obtain ⟨rfl, rfl⟩ := hq
                      refine z_retz d_Mo_pour_33 (by first | exact zb0 | exact zb1 | assumption) ?_
                      exact ⟨rfl, _, _, rfl, mqF_z h1 (by decide), mqJ_r, zu_same _ _ _ _⟩)
                · first
                  | (simp (disch := omega) only [← nI_0, nI_leI, nI_ltI, nI_eq, not_true_eq_false, not_false_eq_true] at h20; done)
                  | (simp (disch := omega) only [← nI_0, nI_leI, nI_ltI, nI_eq, not_true_eq_false, not_false_eq_true] at h20; omega)
                  | contradiction
                  | exact absurd h20 (Int32.not_lt.mpr (by assumption))
                  | exact absurd h20 (Int32.not_le.mpr (by assumption))
                  | exact absurd h20 (by decide)
                  | exact absurd (by decide) h20
                  | ( try simp (disch := omega) only [← nI_0, nI_leI, nI_ltI, nI_eq, not_true_eq_false, not_false_eq_true] at h20
                      (try have h20b := zbit_n0.mp h20); (try have h20b := zbit_p0.mp h20)
                      refine z_iload_3 d_Mo_pour_23 ?_
                      refine z_iconst (a := nI 4) d_Mo_pour_24 (by decide) ?_
                      refine z_icmp_lt (tgt := 34) d_Mo_pour_25 (by decide) (fun h25 => ?_) (fun h25 => ?_)
                      · first
                        | (simp (disch := omega) only [← nI_0, nI_leI, nI_ltI, nI_eq, not_true_eq_false, not_false_eq_true] at h25; done)
                        | (simp (disch := omega) only [← nI_0, nI_leI, nI_ltI, nI_eq, not_true_eq_false, not_false_eq_true] at h25; omega)
                        | contradiction
                        | exact absurd h25 (Int32.not_lt.mpr (by assumption))
                        | exact absurd h25 (Int32.not_le.mpr (by assumption))
                        | exact absurd h25 (by decide)
                        | exact absurd (by decide) h25
                        | ( try simp (disch := omega) only [← nI_0, nI_leI, nI_ltI, nI_eq, not_true_eq_false, not_false_eq_true] at h25
                            (try have h25b := zbit_n0.mp h25); (try have h25b := zbit_p0.mp h25)
                            fail)
                      · first
                        | (simp (disch := omega) only [← nI_0, nI_leI, nI_ltI, nI_eq, not_true_eq_false, not_false_eq_true] at h25; done)
                        | (simp (disch := omega) only [← nI_0, nI_leI, nI_ltI, nI_eq, not_true_eq_false, not_false_eq_true] at h25; omega)
                        | contradiction
                        | exact absurd h25 (Int32.not_lt.mpr (by assumption))
                        | exact absurd h25 (Int32.not_le.mpr (by assumption))
                        | exact absurd h25 (by decide)
                        | exact absurd (by decide) h25
                        | ( try simp (disch := omega) only [← nI_0, nI_leI, nI_ltI, nI_eq, not_true_eq_false, not_false_eq_true] at h25
                            (try have h25b := zbit_n0.mp h25); (try have h25b := zbit_p0.mp h25)
                            refine z_aload_0 d_Mo_pour_28 ?_
                            refine z_iconst (a := nI 1) d_Mo_pour_29 (by decide) ?_
                            refine z_Vi1 d_Mo_pour_30 k_Mo_85 (by first | assumption | exact zS0_at (by assumption) (by omega) | exact zS0_at rfl (by omega)) (t_Mo_no (by assumption)) ⟨Nat.le_of_ble_eq_true rfl, Nat.le_of_ble_eq_true rfl, Nat.le_of_ble_eq_true rfl, Nat.le_of_ble_eq_true rfl⟩ (Nat.le_of_ble_eq_true rfl) ?_
                            intro r w hq
                            obtain ⟨rfl, rfl⟩ := hq
                            refine z_retz d_Mo_pour_33 (by first | exact zb0 | exact zb1 | assumption) ?_
                            exact ⟨rfl, _, _, rfl, mqF_z h1 (by decide), mqJ_r, zu_same _ _ _ _⟩))))
theorem t_Tf_pour_m (Z : clOk f d P S) (ht : t < 4) (hu : u < 4) (h : I (3 + 2 * t) 0 = nI 0 ∨ I (3 + 2 * u) 0 = nI 0) : zEi G y_Tf_pour prog_1_method_8_code 8 (some .boolean) 2 [.ref 0, .int (nI t), .int bi, .int (nI u), .int bj, .int bm] (I, J, P, S) (fun r w => r = nI 0 ∧ cW I J P S 3 w) := by
  obtain ⟨⟨c0, c3, c1s⟩, ⟨c5, c2s, ctr⟩, ⟨c6, c11s, c11, c13s⟩, ⟨c7, c15s, c15⟩, ⟨c8, c16s, c16a, c16b, c17s⟩, ⟨c9, c10, cfd, F, Fd⟩, ⟨c11b, Ft⟩, ⟨c12, c69s, cmk⟩, ⟨c14, c121s, c121, c122s⟩, ⟨c15b, c123s, c123, c124s⟩, ⟨c16, c125s, c125, c126s⟩, ⟨c17, c127s, c127, c128s, ctb⟩, ⟨c18, c139s, c139, c140s⟩, ⟨c19, c141s, ⟨c141a, c142s⟩, ⟨c141b, c143s⟩, ⟨c141c, c144s⟩⟩, M⟩ := id Z
  have hz : zin (nI t) 4 := ⟨t, ht, rfl⟩
  have hzu : zin (nI u) 4 := ⟨u, hu, rfl⟩
  obtain ⟨c2, T⟩ := ctr t ht
  obtain ⟨T0, T1, T2⟩ := id T
  obtain ⟨c2u, U⟩ := ctr u hu
  obtain ⟨U0, U1, U2⟩ := id U
  refine zEi_of (lv := [some (.ref 0), some (.int (nI t)), some (.int bi), some (.int (nI u)), some (.int bj), some (.int bm), none, none]) (by decide) rfl (Nat.le_of_ble_eq_true rfl) ?_
  rcases h with h | h
  · refine z_iload_1 d_Tf_pour_0 ?_
    refine z_Si1 d_Tf_pour_1 k_Tf_115 (t_Tf_noTray) ⟨Nat.le_of_ble_eq_true rfl, Nat.le_of_ble_eq_true rfl, Nat.le_of_ble_eq_true rfl, Nat.le_of_ble_eq_true rfl⟩ (Nat.le_of_ble_eq_true rfl) ?_
    intro r w hq
    rcases hq with ⟨⟨hz1, rfl⟩ | ⟨hz1, rfl⟩, rfl⟩
    · first
      | contradiction
      | ( skip
          refine z_if_ne (tgt := 14) d_Tf_pour_4 (by decide) (fun _ => ?_) (fun h => absurd h (by decide))
          refine z_aload_0 d_Tf_pour_14 ?_
          refine z_iconst (a := nI 1) d_Tf_pour_15 (by decide) ?_
          refine z_Vi1 d_Tf_pour_16 k_Tf_119 (by first | assumption | exact zS0_at (by assumption) (by omega) | exact zS0_at rfl (by omega)) (t_Tf_refuse (by assumption)) ⟨Nat.le_of_ble_eq_true rfl, Nat.le_of_ble_eq_true rfl, Nat.le_of_ble_eq_true rfl, Nat.le_of_ble_eq_true rfl⟩ (Nat.le_of_ble_eq_true rfl) ?_
          intro r w hq
          obtain ⟨rfl, rfl⟩ := hq
          refine z_retz d_Tf_pour_19 (by first | exact zb0 | exact zb1 | assumption) ?_
          exact ⟨rfl, cW_0⟩)
    · first
      | contradiction
      | ( skip
          refine z_if_ne (tgt := 14) d_Tf_pour_4 (by decide) (fun h => absurd h (by decide)) (fun _ => ?_)
          refine z_iload_3 d_Tf_pour_7 ?_
          refine z_Si1 d_Tf_pour_8 k_Tf_115 (t_Tf_noTray) ⟨Nat.le_of_ble_eq_true rfl, Nat.le_of_ble_eq_true rfl, Nat.le_of_ble_eq_true rfl, Nat.le_of_ble_eq_true rfl⟩ (Nat.le_of_ble_eq_true rfl) ?_
          intro r w hq
          rcases hq with ⟨⟨hz8, rfl⟩ | ⟨hz8, rfl⟩, rfl⟩
          · first
            | contradiction
            | ( skip
                refine z_if_eq (tgt := 20) d_Tf_pour_11 (by decide) (fun h => absurd h (by decide)) (fun _ => ?_)
                refine z_aload_0 d_Tf_pour_14 ?_
                refine z_iconst (a := nI 1) d_Tf_pour_15 (by decide) ?_
                refine z_Vi1 d_Tf_pour_16 k_Tf_119 (by first | assumption | exact zS0_at (by assumption) (by omega) | exact zS0_at rfl (by omega)) (t_Tf_refuse (by assumption)) ⟨Nat.le_of_ble_eq_true rfl, Nat.le_of_ble_eq_true rfl, Nat.le_of_ble_eq_true rfl, Nat.le_of_ble_eq_true rfl⟩ (Nat.le_of_ble_eq_true rfl) ?_
                intro r w hq
                obtain ⟨rfl, rfl⟩ := hq
                refine z_retz d_Tf_pour_19 (by first | exact zb0 | exact zb1 | assumption) ?_
                exact ⟨rfl, cW_0⟩)
          · first
            | contradiction
            | ( skip
                refine z_if_eq (tgt := 20) d_Tf_pour_11 (by decide) (fun _ => ?_) (fun h => absurd h (by decide))
                refine z_aload_0 d_Tf_pour_20 ?_
                refine z_getR d_Tf_pour_21 f_Tf_29 (by first | assumption | exact zS0_at (by assumption) (by omega) | exact zS0_at rfl (by omega)) (by first | assumption | exact zS0_at (by assumption) (by omega) | exact zS0_at rfl (by omega)) ?_
                refine z_iload_1 d_Tf_pour_24 ?_
                first | refine z_ald4N d_Tf_pour_25 (by first | assumption | exact zS0_at (by assumption) (by omega) | exact zS0_at rfl (by omega)) (by omega) (by first | decide | omega) (by first | assumption | exact zS0_at (by assumption) (by omega) | exact zS0_at rfl (by omega)) ?_ | refine z_ald5N d_Tf_pour_25 (by first | assumption | exact zS0_at (by assumption) (by omega) | exact zS0_at rfl (by omega)) (by omega) (by first | decide | omega) (by first | assumption | exact zS0_at (by assumption) (by omega) | exact zS0_at rfl (by omega)) ?_ | refine z_ald6N d_Tf_pour_25 (by first | assumption | exact zS0_at (by assumption) (by omega) | exact zS0_at rfl (by omega)) (by omega) (by first | decide | omega) (by first | assumption | exact zS0_at (by assumption) (by omega) | exact zS0_at rfl (by omega)) ?_
                first | refine z_astore_6 d_Tf_pour_26 rfl ?_ | (refine z_forget_5 ?_; refine z_astore_6 d_Tf_pour_26 rfl ?_)
                refine z_aload_0 d_Tf_pour_28 ?_
                refine z_getR d_Tf_pour_29 f_Tf_29 (by first | assumption | exact zS0_at (by assumption) (by omega) | exact zS0_at rfl (by omega)) (by first | assumption | exact zS0_at (by assumption) (by omega) | exact zS0_at rfl (by omega)) ?_
                refine z_iload_3 d_Tf_pour_32 ?_
                first | refine z_ald4N d_Tf_pour_33 (by first | assumption | exact zS0_at (by assumption) (by omega) | exact zS0_at rfl (by omega)) (by omega) (by first | decide | omega) (by first | assumption | exact zS0_at (by assumption) (by omega) | exact zS0_at rfl (by omega)) ?_ | refine z_ald5N d_Tf_pour_33 (by first | assumption | exact zS0_at (by assumption) (by omega) | exact zS0_at rfl (by omega)) (by omega) (by first | decide | omega) (by first | assumption | exact zS0_at (by assumption) (by omega) | exact zS0_at rfl (by omega)) ?_ | refine z_ald6N d_Tf_pour_33 (by first | assumption | exact zS0_at (by assumption) (by omega) | exact zS0_at rfl (by omega)) (by omega) (by first | decide | omega) (by first | assumption | exact zS0_at (by assumption) (by omega) | exact zS0_at rfl (by omega)) ?_
                first | refine z_astore_7 d_Tf_pour_34 rfl ?_ | (refine z_forget_6 ?_; refine z_astore_7 d_Tf_pour_34 rfl ?_)
                refine z_aload_6 d_Tf_pour_36 ?_
                refine z_getIv d_Tf_pour_38 f_Tf_146 (by first | assumption | exact zS0_at (by assumption) (by omega) | exact zS0_at rfl (by omega)) (by first | assumption | ((try simp (disch := omega) only [zu_same, zu_ne, zcp_ne, zfl_ne]); first | assumption | rfl)) ?_
                refine z_if_eq (tgt := 52) d_Tf_pour_41 (by decide) (fun h41 => ?_) (fun h41 => ?_)
                · first
                  | (simp (disch := omega) only [← nI_0, nI_leI, nI_ltI, nI_eq, not_true_eq_false, not_false_eq_true] at h41; done)
                  | (simp (disch := omega) only [← nI_0, nI_leI, nI_ltI, nI_eq, not_true_eq_false, not_false_eq_true] at h41; omega)
                  | contradiction
                  | exact absurd h41 (Int32.not_lt.mpr (by assumption))
                  | exact absurd h41 (Int32.not_le.mpr (by assumption))
                  | exact absurd h41 (by decide)
                  | exact absurd (by decide) h41
                  | ( try simp (disch := omega) only [← nI_0, nI_leI, nI_ltI, nI_eq, not_true_eq_false, not_false_eq_true] at h41
                      (try have h41b := zbit_n0.mp h41); (try have h41b := zbit_p0.mp h41)
                      refine z_aload_0 d_Tf_pour_52 ?_
                      refine z_iconst (a := nI 3) d_Tf_pour_53 (by decide) ?_
                      refine z_Vi1 d_Tf_pour_54 k_Tf_119 (by first | assumption | exact zS0_at (by assumption) (by omega) | exact zS0_at rfl (by omega)) (t_Tf_refuse (by assumption)) ⟨Nat.le_of_ble_eq_true rfl, Nat.le_of_ble_eq_true rfl, Nat.le_of_ble_eq_true rfl, Nat.le_of_ble_eq_true rfl⟩ (Nat.le_of_ble_eq_true rfl) ?_
                      intro r w hq
                      obtain ⟨rfl, rfl⟩ := hq
                      refine z_retz d_Tf_pour_57 (by first | exact zb0 | exact zb1 | assumption) ?_
                      exact ⟨rfl, cW_0⟩)
                · first
                  | (simp (disch := omega) only [← nI_0, nI_leI, nI_ltI, nI_eq, not_true_eq_false, not_false_eq_true] at h41; done)
                  | (simp (disch := omega) only [← nI_0, nI_leI, nI_ltI, nI_eq, not_true_eq_false, not_false_eq_true] at h41; omega)
                  | contradiction
                  | exact absurd h41 (Int32.not_lt.mpr (by assumption))
                  | exact absurd h41 (Int32.not_le.mpr (by assumption))
                  | exact absurd h41 (by decide)
                  | exact absurd (by decide) h41
                  | ( try simp (disch := omega) only [← nI_0, nI_leI, nI_ltI, nI_eq, not_true_eq_false, not_false_eq_true] at h41
                      (try have h41b := zbit_n0.mp h41); (try have h41b := zbit_p0.mp h41)
                      refine z_aload_7 d_Tf_pour_44 ?_
                      refine z_getIv d_Tf_pour_46 f_Tf_146 (by first | assumption | exact zS0_at (by assumption) (by omega) | exact zS0_at rfl (by omega)) (by first | assumption | ((try simp (disch := omega) only [zu_same, zu_ne, zcp_ne, zfl_ne]); first | assumption | rfl)) ?_
                      refine z_if_ne (tgt := 58) d_Tf_pour_49 (by decide) (fun h49 => ?_) (fun h49 => ?_)
                      · first
                        | (simp (disch := omega) only [← nI_0, nI_leI, nI_ltI, nI_eq, not_true_eq_false, not_false_eq_true] at h49; done)
                        | (simp (disch := omega) only [← nI_0, nI_leI, nI_ltI, nI_eq, not_true_eq_false, not_false_eq_true] at h49; omega)
                        | contradiction
                        | exact absurd h49 (Int32.not_lt.mpr (by assumption))
                        | exact absurd h49 (Int32.not_le.mpr (by assumption))
                        | exact absurd h49 (by decide)
                        | exact absurd (by decide) h49
                        | ( try simp (disch := omega) only [← nI_0, nI_leI, nI_ltI, nI_eq, not_true_eq_false, not_false_eq_true] at h49
                            (try have h49b := zbit_n0.mp h49); (try have h49b := zbit_p0.mp h49)
                            fail)
                      · first
                        | (simp (disch := omega) only [← nI_0, nI_leI, nI_ltI, nI_eq, not_true_eq_false, not_false_eq_true] at h49; done)
                        | (simp (disch := omega) only [← nI_0, nI_leI, nI_ltI, nI_eq, not_true_eq_false, not_false_eq_true] at h49; omega)
                        | contradiction
                        | exact absurd h49 (Int32.not_lt.mpr (by assumption))
                        | exact absurd h49 (Int32.not_le.mpr (by assumption))
                        | exact absurd h49 (by decide)
                        | exact absurd (by decide) h49
                        | ( try simp (disch := omega) only [← nI_0, nI_leI, nI_ltI, nI_eq, not_true_eq_false, not_false_eq_true] at h49
                            (try have h49b := zbit_n0.mp h49); (try have h49b := zbit_p0.mp h49)
                            refine z_aload_0 d_Tf_pour_52 ?_
                            refine z_iconst (a := nI 3) d_Tf_pour_53 (by decide) ?_
                            refine z_Vi1 d_Tf_pour_54 k_Tf_119 (by first | assumption | exact zS0_at (by assumption) (by omega) | exact zS0_at rfl (by omega)) (t_Tf_refuse (by assumption)) ⟨Nat.le_of_ble_eq_true rfl, Nat.le_of_ble_eq_true rfl, Nat.le_of_ble_eq_true rfl, Nat.le_of_ble_eq_true rfl⟩ (Nat.le_of_ble_eq_true rfl) ?_
                            intro r w hq
                            obtain ⟨rfl, rfl⟩ := hq
                            refine z_retz d_Tf_pour_57 (by first | exact zb0 | exact zb1 | assumption) ?_
                            exact ⟨rfl, cW_0⟩))))
  · refine z_iload_1 d_Tf_pour_0 ?_
    refine z_Si1 d_Tf_pour_1 k_Tf_115 (t_Tf_noTray) ⟨Nat.le_of_ble_eq_true rfl, Nat.le_of_ble_eq_true rfl, Nat.le_of_ble_eq_true rfl, Nat.le_of_ble_eq_true rfl⟩ (Nat.le_of_ble_eq_true rfl) ?_
    intro r w hq
    rcases hq with ⟨⟨hz1, rfl⟩ | ⟨hz1, rfl⟩, rfl⟩
    · first
      | contradiction
      | ( skip
          refine z_if_ne (tgt := 14) d_Tf_pour_4 (by decide) (fun _ => ?_) (fun h => absurd h (by decide))
          refine z_aload_0 d_Tf_pour_14 ?_
          refine z_iconst (a := nI 1) d_Tf_pour_15 (by decide) ?_
          refine z_Vi1 d_Tf_pour_16 k_Tf_119 (by first | assumption | exact zS0_at (by assumption) (by omega) | exact zS0_at rfl (by omega)) (t_Tf_refuse (by assumption)) ⟨Nat.le_of_ble_eq_true rfl, Nat.le_of_ble_eq_true rfl, Nat.le_of_ble_eq_true rfl, Nat.le_of_ble_eq_true rfl⟩ (Nat.le_of_ble_eq_true rfl) ?_
          intro r w hq
          obtain ⟨rfl, rfl⟩ := hq
          refine z_retz d_Tf_pour_19 (by first | exact zb0 | exact zb1 | assumption) ?_
          exact ⟨rfl, cW_0⟩)
    · first
      | contradiction
      | ( skip
          refine z_if_ne (tgt := 14) d_Tf_pour_4 (by decide) (fun h => absurd h (by decide)) (fun _ => ?_)
          refine z_iload_3 d_Tf_pour_7 ?_
          refine z_Si1 d_Tf_pour_8 k_Tf_115 (t_Tf_noTray) ⟨Nat.le_of_ble_eq_true rfl, Nat.le_of_ble_eq_true rfl, Nat.le_of_ble_eq_true rfl, Nat.le_of_ble_eq_true rfl⟩ (Nat.le_of_ble_eq_true rfl) ?_
          intro r w hq
          rcases hq with ⟨⟨hz8, rfl⟩ | ⟨hz8, rfl⟩, rfl⟩
          · first
            | contradiction
            | ( skip
                refine z_if_eq (tgt := 20) d_Tf_pour_11 (by decide) (fun h => absurd h (by decide)) (fun _ => ?_)
                refine z_aload_0 d_Tf_pour_14 ?_
                refine z_iconst (a := nI 1) d_Tf_pour_15 (by decide) ?_
                refine z_Vi1 d_Tf_pour_16 k_Tf_119 (by first | assumption | exact zS0_at (by assumption) (by omega) | exact zS0_at rfl (by omega)) (t_Tf_refuse (by assumption)) ⟨Nat.le_of_ble_eq_true rfl, Nat.le_of_ble_eq_true rfl, Nat.le_of_ble_eq_true rfl, Nat.le_of_ble_eq_true rfl⟩ (Nat.le_of_ble_eq_true rfl) ?_
                intro r w hq
                obtain ⟨rfl, rfl⟩ := hq
                refine z_retz d_Tf_pour_19 (by first | exact zb0 | exact zb1 | assumption) ?_
                exact ⟨rfl, cW_0⟩)
          · first
            | contradiction
            | ( skip
                refine z_if_eq (tgt := 20) d_Tf_pour_11 (by decide) (fun _ => ?_) (fun h => absurd h (by decide))
                refine z_aload_0 d_Tf_pour_20 ?_
                refine z_getR d_Tf_pour_21 f_Tf_29 (by first | assumption | exact zS0_at (by assumption) (by omega) | exact zS0_at rfl (by omega)) (by first | assumption | exact zS0_at (by assumption) (by omega) | exact zS0_at rfl (by omega)) ?_
                refine z_iload_1 d_Tf_pour_24 ?_
                first | refine z_ald4N d_Tf_pour_25 (by first | assumption | exact zS0_at (by assumption) (by omega) | exact zS0_at rfl (by omega)) (by omega) (by first | decide | omega) (by first | assumption | exact zS0_at (by assumption) (by omega) | exact zS0_at rfl (by omega)) ?_ | refine z_ald5N d_Tf_pour_25 (by first | assumption | exact zS0_at (by assumption) (by omega) | exact zS0_at rfl (by omega)) (by omega) (by first | decide | omega) (by first | assumption | exact zS0_at (by assumption) (by omega) | exact zS0_at rfl (by omega)) ?_ | refine z_ald6N d_Tf_pour_25 (by first | assumption | exact zS0_at (by assumption) (by omega) | exact zS0_at rfl (by omega)) (by omega) (by first | decide | omega) (by first | assumption | exact zS0_at (by assumption) (by omega) | exact zS0_at rfl (by omega)) ?_
                first | refine z_astore_6 d_Tf_pour_26 rfl ?_ | (refine z_forget_5 ?_; refine z_astore_6 d_Tf_pour_26 rfl ?_)
                refine z_aload_0 d_Tf_pour_28 ?_
                refine z_getR d_Tf_pour_29 f_Tf_29 (by first | assumption | exact zS0_at (by assumption) (by omega) | exact zS0_at rfl (by omega)) (by first | assumption | exact zS0_at (by assumption) (by omega) | exact zS0_at rfl (by omega)) ?_
                refine z_iload_3 d_Tf_pour_32 ?_
                first | refine z_ald4N d_Tf_pour_33 (by first | assumption | exact zS0_at (by assumption) (by omega) | exact zS0_at rfl (by omega)) (by omega) (by first | decide | omega) (by first | assumption | exact zS0_at (by assumption) (by omega) | exact zS0_at rfl (by omega)) ?_ | refine z_ald5N d_Tf_pour_33 (by first | assumption | exact zS0_at (by assumption) (by omega) | exact zS0_at rfl (by omega)) (by omega) (by first | decide | omega) (by first | assumption | exact zS0_at (by assumption) (by omega) | exact zS0_at rfl (by omega)) ?_ | refine z_ald6N d_Tf_pour_33 (by first | assumption | exact zS0_at (by assumption) (by omega) | exact zS0_at rfl (by omega)) (by omega) (by first | decide | omega) (by first | assumption | exact zS0_at (by assumption) (by omega) | exact zS0_at rfl (by omega)) ?_
                first | refine z_astore_7 d_Tf_pour_34 rfl ?_ | (refine z_forget_6 ?_; refine z_astore_7 d_Tf_pour_34 rfl ?_)
                refine z_aload_6 d_Tf_pour_36 ?_
                refine z_getIv d_Tf_pour_38 f_Tf_146 (by first | assumption | exact zS0_at (by assumption) (by omega) | exact zS0_at rfl (by omega)) (by first | assumption | ((try simp (disch := omega) only [zu_same, zu_ne, zcp_ne, zfl_ne]); first | assumption | rfl)) ?_
                refine z_if_eq (tgt := 52) d_Tf_pour_41 (by decide) (fun h41 => ?_) (fun h41 => ?_)
                · first
                  | (simp (disch := omega) only [← nI_0, nI_leI, nI_ltI, nI_eq, not_true_eq_false, not_false_eq_true] at h41; done)
                  | (simp (disch := omega) only [← nI_0, nI_leI, nI_ltI, nI_eq, not_true_eq_false, not_false_eq_true] at h41; omega)
                  | contradiction
                  | exact absurd h41 (Int32.not_lt.mpr (by assumption))
                  | exact absurd h41 (Int32.not_le.mpr (by assumption))
                  | exact absurd h41 (by decide)
                  | exact absurd (by decide) h41
                  | ( try simp (disch := omega) only [← nI_0, nI_leI, nI_ltI, nI_eq, not_true_eq_false, not_false_eq_true] at h41
                      (try have h41b := zbit_n0.mp h41); (try have h41b := zbit_p0.mp h41)
                      refine z_aload_0 d_Tf_pour_52 ?_
                      refine z_iconst (a := nI 3) d_Tf_pour_53 (by decide) ?_
                      refine z_Vi1 d_Tf_pour_54 k_Tf_119 (by first | assumption | exact zS0_at (by assumption) (by omega) | exact zS0_at rfl (by omega)) (t_Tf_refuse (by assumption)) ⟨Nat.le_of_ble_eq_true rfl, Nat.le_of_ble_eq_true rfl, Nat.le_of_ble_eq_true rfl, Nat.le_of_ble_eq_true rfl⟩ (Nat.le_of_ble_eq_true rfl) ?_
                      intro r w hq
                      obtain ⟨rfl, rfl⟩ := hq
                      refine z_retz d_Tf_pour_57 (by first | exact zb0 | exact zb1 | assumption) ?_
                      exact ⟨rfl, cW_0⟩)
                · first
                  | (simp (disch := omega) only [← nI_0, nI_leI, nI_ltI, nI_eq, not_true_eq_false, not_false_eq_true] at h41; done)
                  | (simp (disch := omega) only [← nI_0, nI_leI, nI_ltI, nI_eq, not_true_eq_false, not_false_eq_true] at h41; omega)
                  | contradiction
                  | exact absurd h41 (Int32.not_lt.mpr (by assumption))
                  | exact absurd h41 (Int32.not_le.mpr (by assumption))
                  | exact absurd h41 (by decide)
                  | exact absurd (by decide) h41
                  | ( try simp (disch := omega) only [← nI_0, nI_leI, nI_ltI, nI_eq, not_true_eq_false, not_false_eq_true] at h41
                      (try have h41b := zbit_n0.mp h41); (try have h41b := zbit_p0.mp h41)
                      refine z_aload_7 d_Tf_pour_44 ?_
                      refine z_getIv d_Tf_pour_46 f_Tf_146 (by first | assumption | exact zS0_at (by assumption) (by omega) | exact zS0_at rfl (by omega)) (by first | assumption | ((try simp (disch := omega) only [zu_same, zu_ne, zcp_ne, zfl_ne]); first | assumption | rfl)) ?_
                      refine z_if_ne (tgt := 58) d_Tf_pour_49 (by decide) (fun h49 => ?_) (fun h49 => ?_)
                      · first
                        | (simp (disch := omega) only [← nI_0, nI_leI, nI_ltI, nI_eq, not_true_eq_false, not_false_eq_true] at h49; done)
                        | (simp (disch := omega) only [← nI_0, nI_leI, nI_ltI, nI_eq, not_true_eq_false, not_false_eq_true] at h49; omega)
                        | contradiction
                        | exact absurd h49 (Int32.not_lt.mpr (by assumption))
                        | exact absurd h49 (Int32.not_le.mpr (by assumption))
                        | exact absurd h49 (by decide)
                        | exact absurd (by decide) h49
                        | ( try simp (disch := omega) only [← nI_0, nI_leI, nI_ltI, nI_eq, not_true_eq_false, not_false_eq_true] at h49
                            (try have h49b := zbit_n0.mp h49); (try have h49b := zbit_p0.mp h49)
                            fail)
                      · first
                        | (simp (disch := omega) only [← nI_0, nI_leI, nI_ltI, nI_eq, not_true_eq_false, not_false_eq_true] at h49; done)
                        | (simp (disch := omega) only [← nI_0, nI_leI, nI_ltI, nI_eq, not_true_eq_false, not_false_eq_true] at h49; omega)
                        | contradiction
                        | exact absurd h49 (Int32.not_lt.mpr (by assumption))
                        | exact absurd h49 (Int32.not_le.mpr (by assumption))
                        | exact absurd h49 (by decide)
                        | exact absurd (by decide) h49
                        | ( try simp (disch := omega) only [← nI_0, nI_leI, nI_ltI, nI_eq, not_true_eq_false, not_false_eq_true] at h49
                            (try have h49b := zbit_n0.mp h49); (try have h49b := zbit_p0.mp h49)
                            refine z_aload_0 d_Tf_pour_52 ?_
                            refine z_iconst (a := nI 3) d_Tf_pour_53 (by decide) ?_
                            refine z_Vi1 d_Tf_pour_54 k_Tf_119 (by first | assumption | exact zS0_at (by assumption) (by omega) | exact zS0_at rfl (by omega)) (t_Tf_refuse (by assumption)) ⟨Nat.le_of_ble_eq_true rfl, Nat.le_of_ble_eq_true rfl, Nat.le_of_ble_eq_true rfl, Nat.le_of_ble_eq_true rfl⟩ (Nat.le_of_ble_eq_true rfl) ?_
                            intro r w hq
                            obtain ⟨rfl, rfl⟩ := hq
                            refine z_retz d_Tf_pour_57 (by first | exact zb0 | exact zb1 | assumption) ?_
                            exact ⟨rfl, cW_0⟩))))
theorem t_Mo_pour_m (M : modOk P S) (N : modIn I nt np nl nn) (ht : t < 4) (hu : u < 4) (h : I 147 t = -1 ∨ I 147 u = -1) : zEi G y_Mo_pour prog_14_method_16_code 9 (some .boolean) 2 [.ref 145, .int (nI t), .int bi, .int (nI u), .int bj, .int bm] (I, J, P, S) (fun r w => r = nI 0 ∧ mW I J P S 3 w) := by
  obtain ⟨M0, ⟨M4, M4s⟩, ⟨M5, M5s⟩, ⟨M6, M6s⟩, ⟨M7, M7s⟩, ⟨M20, M20s⟩, ⟨M21, M21s⟩, ⟨M22, M22s⟩, ⟨M26, M26s⟩, ⟨M27, M27s⟩, ⟨M28, M28s⟩, ⟨M30, M30s⟩, ⟨M34, M34s⟩, ⟨M36, M36s⟩, ⟨M37, M37s⟩⟩ := id M
  obtain ⟨I1, hI1, N1, h1, h0, e150, er, ek⟩ := mo_beg N
  refine zEi_of (lv := [some (.ref 145), some (.int (nI t)), some (.int bi), some (.int (nI u)), some (.int bj), some (.int bm), none, none, none]) (by decide) rfl (Nat.le_of_ble_eq_true rfl) ?_
  refine z_aload_0 d_Mo_pour_0 ?_
  refine z_iconst (a := nI 0) d_Mo_pour_1 (by decide) ?_
  refine z_putI d_Mo_pour_2 f_Mo_70 (by first | assumption | exact zS0_at (by assumption) (by omega) | exact zS0_at rfl (by omega)) ?_
  refine z_aload_0 d_Mo_pour_5 ?_
  refine z_iconst (a := nI 0) d_Mo_pour_6 (by decide) ?_
  refine z_putI d_Mo_pour_7 f_Mo_73 (by first | assumption | exact zS0_at (by assumption) (by omega) | exact zS0_at rfl (by omega)) ?_
  rw [← hI1]
  rcases h with h | h
  · have g : I1 147 t = -1 := by rw [er 147 (by decide)]; exact h
    refine z_iload_1 d_Mo_pour_10 ?_
    refine z_if_lt (tgt := 28) d_Mo_pour_11 (by decide) (fun h11 => ?_) (fun h11 => ?_)
    · first
      | (simp (disch := omega) only [← nI_0, nI_leI, nI_ltI, nI_eq, not_true_eq_false, not_false_eq_true] at h11; done)
      | (simp (disch := omega) only [← nI_0, nI_leI, nI_ltI, nI_eq, not_true_eq_false, not_false_eq_true] at h11; omega)
      | contradiction
      | exact absurd h11 (Int32.not_lt.mpr (by assumption))
      | exact absurd h11 (Int32.not_le.mpr (by assumption))
      | exact absurd h11 (by decide)
      | exact absurd (by decide) h11
      | ( try simp (disch := omega) only [← nI_0, nI_leI, nI_ltI, nI_eq, not_true_eq_false, not_false_eq_true] at h11
          (try have h11b := zbit_n0.mp h11); (try have h11b := zbit_p0.mp h11)
          refine z_aload_0 d_Mo_pour_28 ?_
          refine z_iconst (a := nI 1) d_Mo_pour_29 (by decide) ?_
          refine z_Vi1 d_Mo_pour_30 k_Mo_85 (by first | assumption | exact zS0_at (by assumption) (by omega) | exact zS0_at rfl (by omega)) (t_Mo_no (by assumption)) ⟨Nat.le_of_ble_eq_true rfl, Nat.le_of_ble_eq_true rfl, Nat.le_of_ble_eq_true rfl, Nat.le_of_ble_eq_true rfl⟩ (Nat.le_of_ble_eq_true rfl) ?_
          intro r w hq
          obtain ⟨rfl, rfl⟩ := hq
          refine z_retz d_Mo_pour_33 (by first | exact zb0 | exact zb1 | assumption) ?_
          exact ⟨rfl, _, _, rfl, mqF_z h1 (by decide), mqJ_r, zu_same _ _ _ _⟩)
    · first
      | (simp (disch := omega) only [← nI_0, nI_leI, nI_ltI, nI_eq, not_true_eq_false, not_false_eq_true] at h11; done)
      | (simp (disch := omega) only [← nI_0, nI_leI, nI_ltI, nI_eq, not_true_eq_false, not_false_eq_true] at h11; omega)
      | contradiction
      | exact absurd h11 (Int32.not_lt.mpr (by assumption))
      | exact absurd h11 (Int32.not_le.mpr (by assumption))
      | exact absurd h11 (by decide)
      | exact absurd (by decide) h11
      | ( try simp (disch := omega) only [← nI_0, nI_leI, nI_ltI, nI_eq, not_true_eq_false, not_false_eq_true] at h11
          (try have h11b := zbit_n0.mp h11); (try have h11b := zbit_p0.mp h11)
          refine z_iload_1 d_Mo_pour_14 ?_
          refine z_iconst (a := nI 4) d_Mo_pour_15 (by decide) ?_
          refine z_icmp_ge (tgt := 28) d_Mo_pour_16 (by decide) (fun h16 => ?_) (fun h16 => ?_)
          · first
            | (simp (disch := omega) only [← nI_0, nI_leI, nI_ltI, nI_eq, not_true_eq_false, not_false_eq_true] at h16; done)
            | (simp (disch := omega) only [← nI_0, nI_leI, nI_ltI, nI_eq, not_true_eq_false, not_false_eq_true] at h16; omega)
            | contradiction
            | exact absurd h16 (Int32.not_lt.mpr (by assumption))
            | exact absurd h16 (Int32.not_le.mpr (by assumption))
            | exact absurd h16 (by decide)
            | exact absurd (by decide) h16
            | ( try simp (disch := omega) only [← nI_0, nI_leI, nI_ltI, nI_eq, not_true_eq_false, not_false_eq_true] at h16
                (try have h16b := zbit_n0.mp h16); (try have h16b := zbit_p0.mp h16)
                refine z_aload_0 d_Mo_pour_28 ?_
                refine z_iconst (a := nI 1) d_Mo_pour_29 (by decide) ?_
                refine z_Vi1 d_Mo_pour_30 k_Mo_85 (by first | assumption | exact zS0_at (by assumption) (by omega) | exact zS0_at rfl (by omega)) (t_Mo_no (by assumption)) ⟨Nat.le_of_ble_eq_true rfl, Nat.le_of_ble_eq_true rfl, Nat.le_of_ble_eq_true rfl, Nat.le_of_ble_eq_true rfl⟩ (Nat.le_of_ble_eq_true rfl) ?_
                intro r w hq
                obtain ⟨rfl, rfl⟩ := hq
                refine z_retz d_Mo_pour_33 (by first | exact zb0 | exact zb1 | assumption) ?_
                exact ⟨rfl, _, _, rfl, mqF_z h1 (by decide), mqJ_r, zu_same _ _ _ _⟩)
          · first
            | (simp (disch := omega) only [← nI_0, nI_leI, nI_ltI, nI_eq, not_true_eq_false, not_false_eq_true] at h16; done)
            | (simp (disch := omega) only [← nI_0, nI_leI, nI_ltI, nI_eq, not_true_eq_false, not_false_eq_true] at h16; omega)
            | contradiction
            | exact absurd h16 (Int32.not_lt.mpr (by assumption))
            | exact absurd h16 (Int32.not_le.mpr (by assumption))
            | exact absurd h16 (by decide)
            | exact absurd (by decide) h16
            | ( try simp (disch := omega) only [← nI_0, nI_leI, nI_ltI, nI_eq, not_true_eq_false, not_false_eq_true] at h16
                (try have h16b := zbit_n0.mp h16); (try have h16b := zbit_p0.mp h16)
                refine z_iload_3 d_Mo_pour_19 ?_
                refine z_if_lt (tgt := 28) d_Mo_pour_20 (by decide) (fun h20 => ?_) (fun h20 => ?_)
                · first
                  | (simp (disch := omega) only [← nI_0, nI_leI, nI_ltI, nI_eq, not_true_eq_false, not_false_eq_true] at h20; done)
                  | (simp (disch := omega) only [← nI_0, nI_leI, nI_ltI, nI_eq, not_true_eq_false, not_false_eq_true] at h20; omega)
                  | contradiction
                  | exact absurd h20 (Int32.not_lt.mpr (by assumption))
                  | exact absurd h20 (Int32.not_le.mpr (by assumption))
                  | exact absurd h20 (by decide)
                  | exact absurd (by decide) h20
                  | ( try simp (disch := omega) only [← nI_0, nI_leI, nI_ltI, nI_eq, not_true_eq_false, not_false_eq_true] at h20
                      (try have h20b := zbit_n0.mp h20); (try have h20b := zbit_p0.mp h20)
                      refine z_aload_0 d_Mo_pour_28 ?_
                      refine z_iconst (a := nI 1) d_Mo_pour_29 (by decide) ?_
                      refine z_Vi1 d_Mo_pour_30 k_Mo_85 (by first | assumption | exact zS0_at (by assumption) (by omega) | exact zS0_at rfl (by omega)) (t_Mo_no (by assumption)) ⟨Nat.le_of_ble_eq_true rfl, Nat.le_of_ble_eq_true rfl, Nat.le_of_ble_eq_true rfl, Nat.le_of_ble_eq_true rfl⟩ (Nat.le_of_ble_eq_true rfl) ?_
                      intro r w hq
                      obtain ⟨rfl, rfl⟩ := hq
                      refine z_retz d_Mo_pour_33 (by first | exact zb0 | exact zb1 | assumption) ?_
                      exact ⟨rfl, _, _, rfl, mqF_z h1 (by decide), mqJ_r, zu_same _ _ _ _⟩)
                · first
                  | (simp (disch := omega) only [← nI_0, nI_leI, nI_ltI, nI_eq, not_true_eq_false, not_false_eq_true] at h20; done)
                  | (simp (disch := omega) only [← nI_0, nI_leI, nI_ltI, nI_eq, not_true_eq_false, not_false_eq_true] at h20; omega)
                  | contradiction
                  | exact absurd h20 (Int32.not_lt.mpr (by assumption))
                  | exact absurd h20 (Int32.not_le.mpr (by assumption))
                  | exact absurd h20 (by decide)
                  | exact absurd (by decide) h20
                  | ( try simp (disch := omega) only [← nI_0, nI_leI, nI_ltI, nI_eq, not_true_eq_false, not_false_eq_true] at h20
                      (try have h20b := zbit_n0.mp h20); (try have h20b := zbit_p0.mp h20)
                      refine z_iload_3 d_Mo_pour_23 ?_
                      refine z_iconst (a := nI 4) d_Mo_pour_24 (by decide) ?_
                      refine z_icmp_lt (tgt := 34) d_Mo_pour_25 (by decide) (fun h25 => ?_) (fun h25 => ?_)
                      · first
                        | (simp (disch := omega) only [← nI_0, nI_leI, nI_ltI, nI_eq, not_true_eq_false, not_false_eq_true] at h25; done)
                        | (simp (disch := omega) only [← nI_0, nI_leI, nI_ltI, nI_eq, not_true_eq_false, not_false_eq_true] at h25; omega)
                        | contradiction
                        | exact absurd h25 (Int32.not_lt.mpr (by assumption))
                        | exact absurd h25 (Int32.not_le.mpr (by assumption))
                        | exact absurd h25 (by decide)
                        | exact absurd (by decide) h25
                        | ( try simp (disch := omega) only [← nI_0, nI_leI, nI_ltI, nI_eq, not_true_eq_false, not_false_eq_true] at h25
                            (try have h25b := zbit_n0.mp h25); (try have h25b := zbit_p0.mp h25)
                            refine z_aload_0 d_Mo_pour_34 ?_
                            refine z_getR d_Mo_pour_35 f_Mo_17 (by first | assumption | exact zS0_at (by assumption) (by omega) | exact zS0_at rfl (by omega)) (by first | assumption | exact zS0_at (by assumption) (by omega) | exact zS0_at rfl (by omega)) ?_
                            refine z_iload_1 d_Mo_pour_38 ?_
                            first | refine z_ialdNv d_Mo_pour_39 (by first | assumption | exact zS0_at (by assumption) (by omega) | exact zS0_at rfl (by omega)) (by omega) (by first | decide | omega) (by first | assumption | ((try simp (disch := omega) only [zu_same, zu_ne, zcp_ne, zfl_ne]); first | assumption | rfl)) ?_ | refine z_iald d_Mo_pour_39 (by first | assumption | exact zS0_at (by assumption) (by omega) | exact zS0_at rfl (by omega)) (by first | assumption | exact zS0_at (by assumption) (by omega) | exact zS0_at rfl (by omega)) ?_
                            refine z_if_lt (tgt := 52) d_Mo_pour_40 (by decide) (fun h40 => ?_) (fun h40 => ?_)
                            · first
                              | (simp (disch := omega) only [← nI_0, nI_leI, nI_ltI, nI_eq, not_true_eq_false, not_false_eq_true] at h40; done)
                              | (simp (disch := omega) only [← nI_0, nI_leI, nI_ltI, nI_eq, not_true_eq_false, not_false_eq_true] at h40; omega)
                              | contradiction
                              | exact absurd h40 (Int32.not_lt.mpr (by assumption))
                              | exact absurd h40 (Int32.not_le.mpr (by assumption))
                              | exact absurd h40 (by decide)
                              | exact absurd (by decide) h40
                              | ( try simp (disch := omega) only [← nI_0, nI_leI, nI_ltI, nI_eq, not_true_eq_false, not_false_eq_true] at h40
                                  (try have h40b := zbit_n0.mp h40); (try have h40b := zbit_p0.mp h40)
                                  refine z_aload_0 d_Mo_pour_52 ?_
                                  refine z_iconst (a := nI 3) d_Mo_pour_53 (by decide) ?_
                                  refine z_Vi1 d_Mo_pour_54 k_Mo_85 (by first | assumption | exact zS0_at (by assumption) (by omega) | exact zS0_at rfl (by omega)) (t_Mo_no (by assumption)) ⟨Nat.le_of_ble_eq_true rfl, Nat.le_of_ble_eq_true rfl, Nat.le_of_ble_eq_true rfl, Nat.le_of_ble_eq_true rfl⟩ (Nat.le_of_ble_eq_true rfl) ?_
                                  intro r w hq
                                  obtain ⟨rfl, rfl⟩ := hq
                                  refine z_retz d_Mo_pour_57 (by first | exact zb0 | exact zb1 | assumption) ?_
                                  exact ⟨rfl, _, _, rfl, mqF_z h1 (by decide), mqJ_r, zu_same _ _ _ _⟩)
                            · first
                              | (simp (disch := omega) only [← nI_0, nI_leI, nI_ltI, nI_eq, not_true_eq_false, not_false_eq_true] at h40; done)
                              | (simp (disch := omega) only [← nI_0, nI_leI, nI_ltI, nI_eq, not_true_eq_false, not_false_eq_true] at h40; omega)
                              | contradiction
                              | exact absurd h40 (Int32.not_lt.mpr (by assumption))
                              | exact absurd h40 (Int32.not_le.mpr (by assumption))
                              | exact absurd h40 (by decide)
                              | exact absurd (by decide) h40
                              | ( try simp (disch := omega) only [← nI_0, nI_leI, nI_ltI, nI_eq, not_true_eq_false, not_false_eq_true] at h40
                                  (try have h40b := zbit_n0.mp h40); (try have h40b := zbit_p0.mp h40)
                                  refine z_aload_0 d_Mo_pour_43 ?_
                                  refine z_getR d_Mo_pour_44 f_Mo_17 (by first | assumption | exact zS0_at (by assumption) (by omega) | exact zS0_at rfl (by omega)) (by first | assumption | exact zS0_at (by assumption) (by omega) | exact zS0_at rfl (by omega)) ?_
                                  refine z_iload_3 d_Mo_pour_47 ?_
                                  first | refine z_ialdNv d_Mo_pour_48 (by first | assumption | exact zS0_at (by assumption) (by omega) | exact zS0_at rfl (by omega)) (by omega) (by first | decide | omega) (by first | assumption | ((try simp (disch := omega) only [zu_same, zu_ne, zcp_ne, zfl_ne]); first | assumption | rfl)) ?_ | refine z_iald d_Mo_pour_48 (by first | assumption | exact zS0_at (by assumption) (by omega) | exact zS0_at rfl (by omega)) (by first | assumption | exact zS0_at (by assumption) (by omega) | exact zS0_at rfl (by omega)) ?_
                                  refine z_if_ge (tgt := 58) d_Mo_pour_49 (by decide) (fun h49 => ?_) (fun h49 => ?_)
                                  · first
                                    | (simp (disch := omega) only [← nI_0, nI_leI, nI_ltI, nI_eq, not_true_eq_false, not_false_eq_true] at h49; done)
                                    | (simp (disch := omega) only [← nI_0, nI_leI, nI_ltI, nI_eq, not_true_eq_false, not_false_eq_true] at h49; omega)
                                    | contradiction
                                    | exact absurd h49 (Int32.not_lt.mpr (by assumption))
                                    | exact absurd h49 (Int32.not_le.mpr (by assumption))
                                    | exact absurd h49 (by decide)
                                    | exact absurd (by decide) h49
                                    | ( try simp (disch := omega) only [← nI_0, nI_leI, nI_ltI, nI_eq, not_true_eq_false, not_false_eq_true] at h49
                                        (try have h49b := zbit_n0.mp h49); (try have h49b := zbit_p0.mp h49)
                                        fail)
                                  · first
                                    | (simp (disch := omega) only [← nI_0, nI_leI, nI_ltI, nI_eq, not_true_eq_false, not_false_eq_true] at h49; done)
                                    | (simp (disch := omega) only [← nI_0, nI_leI, nI_ltI, nI_eq, not_true_eq_false, not_false_eq_true] at h49; omega)
                                    | contradiction
                                    | exact absurd h49 (Int32.not_lt.mpr (by assumption))
                                    | exact absurd h49 (Int32.not_le.mpr (by assumption))
                                    | exact absurd h49 (by decide)
                                    | exact absurd (by decide) h49
                                    | ( try simp (disch := omega) only [← nI_0, nI_leI, nI_ltI, nI_eq, not_true_eq_false, not_false_eq_true] at h49
                                        (try have h49b := zbit_n0.mp h49); (try have h49b := zbit_p0.mp h49)
                                        refine z_aload_0 d_Mo_pour_52 ?_
                                        refine z_iconst (a := nI 3) d_Mo_pour_53 (by decide) ?_
                                        refine z_Vi1 d_Mo_pour_54 k_Mo_85 (by first | assumption | exact zS0_at (by assumption) (by omega) | exact zS0_at rfl (by omega)) (t_Mo_no (by assumption)) ⟨Nat.le_of_ble_eq_true rfl, Nat.le_of_ble_eq_true rfl, Nat.le_of_ble_eq_true rfl, Nat.le_of_ble_eq_true rfl⟩ (Nat.le_of_ble_eq_true rfl) ?_
                                        intro r w hq
                                        obtain ⟨rfl, rfl⟩ := hq
                                        refine z_retz d_Mo_pour_57 (by first | exact zb0 | exact zb1 | assumption) ?_
                                        exact ⟨rfl, _, _, rfl, mqF_z h1 (by decide), mqJ_r, zu_same _ _ _ _⟩)))
                      · first
                        | (simp (disch := omega) only [← nI_0, nI_leI, nI_ltI, nI_eq, not_true_eq_false, not_false_eq_true] at h25; done)
                        | (simp (disch := omega) only [← nI_0, nI_leI, nI_ltI, nI_eq, not_true_eq_false, not_false_eq_true] at h25; omega)
                        | contradiction
                        | exact absurd h25 (Int32.not_lt.mpr (by assumption))
                        | exact absurd h25 (Int32.not_le.mpr (by assumption))
                        | exact absurd h25 (by decide)
                        | exact absurd (by decide) h25
                        | ( try simp (disch := omega) only [← nI_0, nI_leI, nI_ltI, nI_eq, not_true_eq_false, not_false_eq_true] at h25
                            (try have h25b := zbit_n0.mp h25); (try have h25b := zbit_p0.mp h25)
                            refine z_aload_0 d_Mo_pour_28 ?_
                            refine z_iconst (a := nI 1) d_Mo_pour_29 (by decide) ?_
                            refine z_Vi1 d_Mo_pour_30 k_Mo_85 (by first | assumption | exact zS0_at (by assumption) (by omega) | exact zS0_at rfl (by omega)) (t_Mo_no (by assumption)) ⟨Nat.le_of_ble_eq_true rfl, Nat.le_of_ble_eq_true rfl, Nat.le_of_ble_eq_true rfl, Nat.le_of_ble_eq_true rfl⟩ (Nat.le_of_ble_eq_true rfl) ?_
                            intro r w hq
                            obtain ⟨rfl, rfl⟩ := hq
                            refine z_retz d_Mo_pour_33 (by first | exact zb0 | exact zb1 | assumption) ?_
                            exact ⟨rfl, _, _, rfl, mqF_z h1 (by decide), mqJ_r, zu_same _ _ _ _⟩))))
  · have g : I1 147 u = -1 := by rw [er 147 (by decide)]; exact h
    refine z_iload_1 d_Mo_pour_10 ?_
    refine z_if_lt (tgt := 28) d_Mo_pour_11 (by decide) (fun h11 => ?_) (fun h11 => ?_)
    · first
      | (simp (disch := omega) only [← nI_0, nI_leI, nI_ltI, nI_eq, not_true_eq_false, not_false_eq_true] at h11; done)
      | (simp (disch := omega) only [← nI_0, nI_leI, nI_ltI, nI_eq, not_true_eq_false, not_false_eq_true] at h11; omega)
      | contradiction
      | exact absurd h11 (Int32.not_lt.mpr (by assumption))
      | exact absurd h11 (Int32.not_le.mpr (by assumption))
      | exact absurd h11 (by decide)
      | exact absurd (by decide) h11
      | ( try simp (disch := omega) only [← nI_0, nI_leI, nI_ltI, nI_eq, not_true_eq_false, not_false_eq_true] at h11
          (try have h11b := zbit_n0.mp h11); (try have h11b := zbit_p0.mp h11)
          refine z_aload_0 d_Mo_pour_28 ?_
          refine z_iconst (a := nI 1) d_Mo_pour_29 (by decide) ?_
          refine z_Vi1 d_Mo_pour_30 k_Mo_85 (by first | assumption | exact zS0_at (by assumption) (by omega) | exact zS0_at rfl (by omega)) (t_Mo_no (by assumption)) ⟨Nat.le_of_ble_eq_true rfl, Nat.le_of_ble_eq_true rfl, Nat.le_of_ble_eq_true rfl, Nat.le_of_ble_eq_true rfl⟩ (Nat.le_of_ble_eq_true rfl) ?_
          intro r w hq
          obtain ⟨rfl, rfl⟩ := hq
          refine z_retz d_Mo_pour_33 (by first | exact zb0 | exact zb1 | assumption) ?_
          exact ⟨rfl, _, _, rfl, mqF_z h1 (by decide), mqJ_r, zu_same _ _ _ _⟩)
    · first
      | (simp (disch := omega) only [← nI_0, nI_leI, nI_ltI, nI_eq, not_true_eq_false, not_false_eq_true] at h11; done)
      | (simp (disch := omega) only [← nI_0, nI_leI, nI_ltI, nI_eq, not_true_eq_false, not_false_eq_true] at h11; omega)
      | contradiction
      | exact absurd h11 (Int32.not_lt.mpr (by assumption))
      | exact absurd h11 (Int32.not_le.mpr (by assumption))
      | exact absurd h11 (by decide)
      | exact absurd (by decide) h11
      | ( try simp (disch := omega) only [← nI_0, nI_leI, nI_ltI, nI_eq, not_true_eq_false, not_false_eq_true] at h11
          (try have h11b := zbit_n0.mp h11); (try have h11b := zbit_p0.mp h11)
          refine z_iload_1 d_Mo_pour_14 ?_
          refine z_iconst (a := nI 4) d_Mo_pour_15 (by decide) ?_
          refine z_icmp_ge (tgt := 28) d_Mo_pour_16 (by decide) (fun h16 => ?_) (fun h16 => ?_)
          · first
            | (simp (disch := omega) only [← nI_0, nI_leI, nI_ltI, nI_eq, not_true_eq_false, not_false_eq_true] at h16; done)
            | (simp (disch := omega) only [← nI_0, nI_leI, nI_ltI, nI_eq, not_true_eq_false, not_false_eq_true] at h16; omega)
            | contradiction
            | exact absurd h16 (Int32.not_lt.mpr (by assumption))
            | exact absurd h16 (Int32.not_le.mpr (by assumption))
            | exact absurd h16 (by decide)
            | exact absurd (by decide) h16
            | ( try simp (disch := omega) only [← nI_0, nI_leI, nI_ltI, nI_eq, not_true_eq_false, not_false_eq_true] at h16
                (try have h16b := zbit_n0.mp h16); (try have h16b := zbit_p0.mp h16)
                refine z_aload_0 d_Mo_pour_28 ?_
                refine z_iconst (a := nI 1) d_Mo_pour_29 (by decide) ?_
                refine z_Vi1 d_Mo_pour_30 k_Mo_85 (by first | assumption | exact zS0_at (by assumption) (by omega) | exact zS0_at rfl (by omega)) (t_Mo_no (by assumption)) ⟨Nat.le_of_ble_eq_true rfl, Nat.le_of_ble_eq_true rfl, Nat.le_of_ble_eq_true rfl, Nat.le_of_ble_eq_true rfl⟩ (Nat.le_of_ble_eq_true rfl) ?_
                intro r w hq
                obtain ⟨rfl, rfl⟩ := hq
                refine z_retz d_Mo_pour_33 (by first | exact zb0 | exact zb1 | assumption) ?_
                exact ⟨rfl, _, _, rfl, mqF_z h1 (by decide), mqJ_r, zu_same _ _ _ _⟩)
          · first
            | (simp (disch := omega) only [← nI_0, nI_leI, nI_ltI, nI_eq, not_true_eq_false, not_false_eq_true] at h16; done)
            | (simp (disch := omega) only [← nI_0, nI_leI, nI_ltI, nI_eq, not_true_eq_false, not_false_eq_true] at h16; omega)
            | contradiction
            | exact absurd h16 (Int32.not_lt.mpr (by assumption))
            | exact absurd h16 (Int32.not_le.mpr (by assumption))
            | exact absurd h16 (by decide)
            | exact absurd (by decide) h16
            | ( try simp (disch := omega) only [← nI_0, nI_leI, nI_ltI, nI_eq, not_true_eq_false, not_false_eq_true] at h16
                (try have h16b := zbit_n0.mp h16); (try have h16b := zbit_p0.mp h16)
                refine z_iload_3 d_Mo_pour_19 ?_
                refine z_if_lt (tgt := 28) d_Mo_pour_20 (by decide) (fun h20 => ?_) (fun h20 => ?_)
                · first
                  | (simp (disch := omega) only [← nI_0, nI_leI, nI_ltI, nI_eq, not_true_eq_false, not_false_eq_true] at h20; done)
                  | (simp (disch := omega) only [← nI_0, nI_leI, nI_ltI, nI_eq, not_true_eq_false, not_false_eq_true] at h20; omega)
                  | contradiction
                  | exact absurd h20 (Int32.not_lt.mpr (by assumption))
                  | exact absurd h20 (Int32.not_le.mpr (by assumption))
                  | exact absurd h20 (by decide)
                  | exact absurd (by decide) h20
                  | ( try simp (disch := omega) only [← nI_0, nI_leI, nI_ltI, nI_eq, not_true_eq_false, not_false_eq_true] at h20
                      (try have h20b := zbit_n0.mp h20); (try have h20b := zbit_p0.mp h20)
                      refine z_aload_0 d_Mo_pour_28 ?_
                      refine z_iconst (a := nI 1) d_Mo_pour_29 (by decide) ?_
                      refine z_Vi1 d_Mo_pour_30 k_Mo_85 (by first | assumption | exact zS0_at (by assumption) (by omega) | exact zS0_at rfl (by omega)) (t_Mo_no (by assumption)) ⟨Nat.le_of_ble_eq_true rfl, Nat.le_of_ble_eq_true rfl, Nat.le_of_ble_eq_true rfl, Nat.le_of_ble_eq_true rfl⟩ (Nat.le_of_ble_eq_true rfl) ?_
                      intro r w hq
                      obtain ⟨rfl, rfl⟩ := hq
                      refine z_retz d_Mo_pour_33 (by first | exact zb0 | exact zb1 | assumption) ?_
                      exact ⟨rfl, _, _, rfl, mqF_z h1 (by decide), mqJ_r, zu_same _ _ _ _⟩)
                · first
                  | (simp (disch := omega) only [← nI_0, nI_leI, nI_ltI, nI_eq, not_true_eq_false, not_false_eq_true] at h20; done)
                  | (simp (disch := omega) only [← nI_0, nI_leI, nI_ltI, nI_eq, not_true_eq_false, not_false_eq_true] at h20; omega)
                  | contradiction
                  | exact absurd h20 (Int32.not_lt.mpr (by assumption))
                  | exact absurd h20 (Int32.not_le.mpr (by assumption))
                  | exact absurd h20 (by decide)
                  | exact absurd (by decide) h20
                  | ( try simp (disch := omega) only [← nI_0, nI_leI, nI_ltI, nI_eq, not_true_eq_false, not_false_eq_true] at h20
                      (try have h20b := zbit_n0.mp h20); (try have h20b := zbit_p0.mp h20)
                      refine z_iload_3 d_Mo_pour_23 ?_
                      refine z_iconst (a := nI 4) d_Mo_pour_24 (by decide) ?_
                      refine z_icmp_lt (tgt := 34) d_Mo_pour_25 (by decide) (fun h25 => ?_) (fun h25 => ?_)
                      · first
                        | (simp (disch := omega) only [← nI_0, nI_leI, nI_ltI, nI_eq, not_true_eq_false, not_false_eq_true] at h25; done)
                        | (simp (disch := omega) only [← nI_0, nI_leI, nI_ltI, nI_eq, not_true_eq_false, not_false_eq_true] at h25; omega)
                        | contradiction
                        | exact absurd h25 (Int32.not_lt.mpr (by assumption))
                        | exact absurd h25 (Int32.not_le.mpr (by assumption))
                        | exact absurd h25 (by decide)
                        | exact absurd (by decide) h25
                        | ( try simp (disch := omega) only [← nI_0, nI_leI, nI_ltI, nI_eq, not_true_eq_false, not_false_eq_true] at h25
                            (try have h25b := zbit_n0.mp h25); (try have h25b := zbit_p0.mp h25)
                            refine z_aload_0 d_Mo_pour_34 ?_
                            refine z_getR d_Mo_pour_35 f_Mo_17 (by first | assumption | exact zS0_at (by assumption) (by omega) | exact zS0_at rfl (by omega)) (by first | assumption | exact zS0_at (by assumption) (by omega) | exact zS0_at rfl (by omega)) ?_
                            refine z_iload_1 d_Mo_pour_38 ?_
                            first | refine z_ialdNv d_Mo_pour_39 (by first | assumption | exact zS0_at (by assumption) (by omega) | exact zS0_at rfl (by omega)) (by omega) (by first | decide | omega) (by first | assumption | ((try simp (disch := omega) only [zu_same, zu_ne, zcp_ne, zfl_ne]); first | assumption | rfl)) ?_ | refine z_iald d_Mo_pour_39 (by first | assumption | exact zS0_at (by assumption) (by omega) | exact zS0_at rfl (by omega)) (by first | assumption | exact zS0_at (by assumption) (by omega) | exact zS0_at rfl (by omega)) ?_
                            refine z_if_lt (tgt := 52) d_Mo_pour_40 (by decide) (fun h40 => ?_) (fun h40 => ?_)
                            · first
                              | (simp (disch := omega) only [← nI_0, nI_leI, nI_ltI, nI_eq, not_true_eq_false, not_false_eq_true] at h40; done)
                              | (simp (disch := omega) only [← nI_0, nI_leI, nI_ltI, nI_eq, not_true_eq_false, not_false_eq_true] at h40; omega)
                              | contradiction
                              | exact absurd h40 (Int32.not_lt.mpr (by assumption))
                              | exact absurd h40 (Int32.not_le.mpr (by assumption))
                              | exact absurd h40 (by decide)
                              | exact absurd (by decide) h40
                              | ( try simp (disch := omega) only [← nI_0, nI_leI, nI_ltI, nI_eq, not_true_eq_false, not_false_eq_true] at h40
                                  (try have h40b := zbit_n0.mp h40); (try have h40b := zbit_p0.mp h40)
                                  refine z_aload_0 d_Mo_pour_52 ?_
                                  refine z_iconst (a := nI 3) d_Mo_pour_53 (by decide) ?_
                                  refine z_Vi1 d_Mo_pour_54 k_Mo_85 (by first | assumption | exact zS0_at (by assumption) (by omega) | exact zS0_at rfl (by omega)) (t_Mo_no (by assumption)) ⟨Nat.le_of_ble_eq_true rfl, Nat.le_of_ble_eq_true rfl, Nat.le_of_ble_eq_true rfl, Nat.le_of_ble_eq_true rfl⟩ (Nat.le_of_ble_eq_true rfl) ?_
                                  intro r w hq
                                  obtain ⟨rfl, rfl⟩ := hq
                                  refine z_retz d_Mo_pour_57 (by first | exact zb0 | exact zb1 | assumption) ?_
                                  exact ⟨rfl, _, _, rfl, mqF_z h1 (by decide), mqJ_r, zu_same _ _ _ _⟩)
                            · first
                              | (simp (disch := omega) only [← nI_0, nI_leI, nI_ltI, nI_eq, not_true_eq_false, not_false_eq_true] at h40; done)
                              | (simp (disch := omega) only [← nI_0, nI_leI, nI_ltI, nI_eq, not_true_eq_false, not_false_eq_true] at h40; omega)
                              | contradiction
                              | exact absurd h40 (Int32.not_lt.mpr (by assumption))
                              | exact absurd h40 (Int32.not_le.mpr (by assumption))
                              | exact absurd h40 (by decide)
                              | exact absurd (by decide) h40
                              | ( try simp (disch := omega) only [← nI_0, nI_leI, nI_ltI, nI_eq, not_true_eq_false, not_false_eq_true] at h40
                                  (try have h40b := zbit_n0.mp h40); (try have h40b := zbit_p0.mp h40)
                                  refine z_aload_0 d_Mo_pour_43 ?_
                                  refine z_getR d_Mo_pour_44 f_Mo_17 (by first | assumption | exact zS0_at (by assumption) (by omega) | exact zS0_at rfl (by omega)) (by first | assumption | exact zS0_at (by assumption) (by omega) | exact zS0_at rfl (by omega)) ?_
                                  refine z_iload_3 d_Mo_pour_47 ?_
                                  first | refine z_ialdNv d_Mo_pour_48 (by first | assumption | exact zS0_at (by assumption) (by omega) | exact zS0_at rfl (by omega)) (by omega) (by first | decide | omega) (by first | assumption | ((try simp (disch := omega) only [zu_same, zu_ne, zcp_ne, zfl_ne]); first | assumption | rfl)) ?_ | refine z_iald d_Mo_pour_48 (by first | assumption | exact zS0_at (by assumption) (by omega) | exact zS0_at rfl (by omega)) (by first | assumption | exact zS0_at (by assumption) (by omega) | exact zS0_at rfl (by omega)) ?_
                                  refine z_if_ge (tgt := 58) d_Mo_pour_49 (by decide) (fun h49 => ?_) (fun h49 => ?_)
                                  · first
                                    | (simp (disch := omega) only [← nI_0, nI_leI, nI_ltI, nI_eq, not_true_eq_false, not_false_eq_true] at h49; done)
                                    | (simp (disch := omega) only [← nI_0, nI_leI, nI_ltI, nI_eq, not_true_eq_false, not_false_eq_true] at h49; omega)
                                    | contradiction
                                    | exact absurd h49 (Int32.not_lt.mpr (by assumption))
                                    | exact absurd h49 (Int32.not_le.mpr (by assumption))
                                    | exact absurd h49 (by decide)
                                    | exact absurd (by decide) h49
                                    | ( try simp (disch := omega) only [← nI_0, nI_leI, nI_ltI, nI_eq, not_true_eq_false, not_false_eq_true] at h49
                                        (try have h49b := zbit_n0.mp h49); (try have h49b := zbit_p0.mp h49)
                                        fail)
                                  · first
                                    | (simp (disch := omega) only [← nI_0, nI_leI, nI_ltI, nI_eq, not_true_eq_false, not_false_eq_true] at h49; done)
                                    | (simp (disch := omega) only [← nI_0, nI_leI, nI_ltI, nI_eq, not_true_eq_false, not_false_eq_true] at h49; omega)
                                    | contradiction
                                    | exact absurd h49 (Int32.not_lt.mpr (by assumption))
                                    | exact absurd h49 (Int32.not_le.mpr (by assumption))
                                    | exact absurd h49 (by decide)
                                    | exact absurd (by decide) h49
                                    | ( try simp (disch := omega) only [← nI_0, nI_leI, nI_ltI, nI_eq, not_true_eq_false, not_false_eq_true] at h49
                                        (try have h49b := zbit_n0.mp h49); (try have h49b := zbit_p0.mp h49)
                                        refine z_aload_0 d_Mo_pour_52 ?_
                                        refine z_iconst (a := nI 3) d_Mo_pour_53 (by decide) ?_
                                        refine z_Vi1 d_Mo_pour_54 k_Mo_85 (by first | assumption | exact zS0_at (by assumption) (by omega) | exact zS0_at rfl (by omega)) (t_Mo_no (by assumption)) ⟨Nat.le_of_ble_eq_true rfl, Nat.le_of_ble_eq_true rfl, Nat.le_of_ble_eq_true rfl, Nat.le_of_ble_eq_true rfl⟩ (Nat.le_of_ble_eq_true rfl) ?_
                                        intro r w hq
                                        obtain ⟨rfl, rfl⟩ := hq
                                        refine z_retz d_Mo_pour_57 (by first | exact zb0 | exact zb1 | assumption) ?_
                                        exact ⟨rfl, _, _, rfl, mqF_z h1 (by decide), mqJ_r, zu_same _ _ _ _⟩)))
                      · first
                        | (simp (disch := omega) only [← nI_0, nI_leI, nI_ltI, nI_eq, not_true_eq_false, not_false_eq_true] at h25; done)
                        | (simp (disch := omega) only [← nI_0, nI_leI, nI_ltI, nI_eq, not_true_eq_false, not_false_eq_true] at h25; omega)
                        | contradiction
                        | exact absurd h25 (Int32.not_lt.mpr (by assumption))
                        | exact absurd h25 (Int32.not_le.mpr (by assumption))
                        | exact absurd h25 (by decide)
                        | exact absurd (by decide) h25
                        | ( try simp (disch := omega) only [← nI_0, nI_leI, nI_ltI, nI_eq, not_true_eq_false, not_false_eq_true] at h25
                            (try have h25b := zbit_n0.mp h25); (try have h25b := zbit_p0.mp h25)
                            refine z_aload_0 d_Mo_pour_28 ?_
                            refine z_iconst (a := nI 1) d_Mo_pour_29 (by decide) ?_
                            refine z_Vi1 d_Mo_pour_30 k_Mo_85 (by first | assumption | exact zS0_at (by assumption) (by omega) | exact zS0_at rfl (by omega)) (t_Mo_no (by assumption)) ⟨Nat.le_of_ble_eq_true rfl, Nat.le_of_ble_eq_true rfl, Nat.le_of_ble_eq_true rfl, Nat.le_of_ble_eq_true rfl⟩ (Nat.le_of_ble_eq_true rfl) ?_
                            intro r w hq
                            obtain ⟨rfl, rfl⟩ := hq
                            refine z_retz d_Mo_pour_33 (by first | exact zb0 | exact zb1 | assumption) ?_
                            exact ⟨rfl, _, _, rfl, mqF_z h1 (by decide), mqJ_r, zu_same _ _ _ _⟩))))
theorem t_Tf_pour_s (Z : clOk f d P S) (ht : t < 4) (hu : u < 4) (a0 : I (3 + 2 * t) 0 = nI 1) (a1 : I (3 + 2 * t) 1 = nI k) (a2 : I (3 + 2 * t) 2 = nI l) (b0 : I (3 + 2 * u) 0 = nI 1) (b1 : I (3 + 2 * u) 1 = nI k') (b2 : I (3 + 2 * u) 2 = nI l') (hk : k ≤ 3) (hk' : k' ≤ 3) (hl : l ≤ 60) (hl' : l' ≤ 60) (hs : k ≠ k') : zEi G y_Tf_pour prog_1_method_8_code 8 (some .boolean) 2 [.ref 0, .int (nI t), .int bi, .int (nI u), .int bj, .int bm] (I, J, P, S) (fun r w => r = nI 0 ∧ cW I J P S 11 w) := by
  obtain ⟨⟨c0, c3, c1s⟩, ⟨c5, c2s, ctr⟩, ⟨c6, c11s, c11, c13s⟩, ⟨c7, c15s, c15⟩, ⟨c8, c16s, c16a, c16b, c17s⟩, ⟨c9, c10, cfd, F, Fd⟩, ⟨c11b, Ft⟩, ⟨c12, c69s, cmk⟩, ⟨c14, c121s, c121, c122s⟩, ⟨c15b, c123s, c123, c124s⟩, ⟨c16, c125s, c125, c126s⟩, ⟨c17, c127s, c127, c128s, ctb⟩, ⟨c18, c139s, c139, c140s⟩, ⟨c19, c141s, ⟨c141a, c142s⟩, ⟨c141b, c143s⟩, ⟨c141c, c144s⟩⟩, M⟩ := id Z
  have hz : zin (nI t) 4 := ⟨t, ht, rfl⟩
  have hzu : zin (nI u) 4 := ⟨u, hu, rfl⟩
  obtain ⟨c2, T⟩ := ctr t ht
  obtain ⟨T0, T1, T2⟩ := id T
  obtain ⟨c2u, U⟩ := ctr u hu
  obtain ⟨U0, U1, U2⟩ := id U
  refine zEi_of (lv := [some (.ref 0), some (.int (nI t)), some (.int bi), some (.int (nI u)), some (.int bj), some (.int bm), none, none]) (by decide) rfl (Nat.le_of_ble_eq_true rfl) ?_
  refine z_iload_1 d_Tf_pour_0 ?_
  refine z_Si1 d_Tf_pour_1 k_Tf_115 (t_Tf_noTray) ⟨Nat.le_of_ble_eq_true rfl, Nat.le_of_ble_eq_true rfl, Nat.le_of_ble_eq_true rfl, Nat.le_of_ble_eq_true rfl⟩ (Nat.le_of_ble_eq_true rfl) ?_
  intro r w hq
  rcases hq with ⟨⟨hz1, rfl⟩ | ⟨hz1, rfl⟩, rfl⟩
  · first
    | contradiction
    | ( skip
        refine z_if_ne (tgt := 14) d_Tf_pour_4 (by decide) (fun _ => ?_) (fun h => absurd h (by decide))
        refine z_aload_0 d_Tf_pour_14 ?_
        refine z_iconst (a := nI 1) d_Tf_pour_15 (by decide) ?_
        refine z_Vi1 d_Tf_pour_16 k_Tf_119 (by first | assumption | exact zS0_at (by assumption) (by omega) | exact zS0_at rfl (by omega)) (t_Tf_refuse (by assumption)) ⟨Nat.le_of_ble_eq_true rfl, Nat.le_of_ble_eq_true rfl, Nat.le_of_ble_eq_true rfl, Nat.le_of_ble_eq_true rfl⟩ (Nat.le_of_ble_eq_true rfl) ?_
        intro r w hq
        obtain ⟨rfl, rfl⟩ := hq
        refine z_retz d_Tf_pour_19 (by first | exact zb0 | exact zb1 | assumption) ?_
        exact ⟨rfl, cW_0⟩)
  · first
    | contradiction
    | ( skip
        refine z_if_ne (tgt := 14) d_Tf_pour_4 (by decide) (fun h => absurd h (by decide)) (fun _ => ?_)
        refine z_iload_3 d_Tf_pour_7 ?_
        refine z_Si1 d_Tf_pour_8 k_Tf_115 (t_Tf_noTray) ⟨Nat.le_of_ble_eq_true rfl, Nat.le_of_ble_eq_true rfl, Nat.le_of_ble_eq_true rfl, Nat.le_of_ble_eq_true rfl⟩ (Nat.le_of_ble_eq_true rfl) ?_
        intro r w hq
        rcases hq with ⟨⟨hz8, rfl⟩ | ⟨hz8, rfl⟩, rfl⟩
        · first
          | contradiction
          | ( skip
              refine z_if_eq (tgt := 20) d_Tf_pour_11 (by decide) (fun h => absurd h (by decide)) (fun _ => ?_)
              refine z_aload_0 d_Tf_pour_14 ?_
              refine z_iconst (a := nI 1) d_Tf_pour_15 (by decide) ?_
              refine z_Vi1 d_Tf_pour_16 k_Tf_119 (by first | assumption | exact zS0_at (by assumption) (by omega) | exact zS0_at rfl (by omega)) (t_Tf_refuse (by assumption)) ⟨Nat.le_of_ble_eq_true rfl, Nat.le_of_ble_eq_true rfl, Nat.le_of_ble_eq_true rfl, Nat.le_of_ble_eq_true rfl⟩ (Nat.le_of_ble_eq_true rfl) ?_
              intro r w hq
              obtain ⟨rfl, rfl⟩ := hq
              refine z_retz d_Tf_pour_19 (by first | exact zb0 | exact zb1 | assumption) ?_
              exact ⟨rfl, cW_0⟩)
        · first
          | contradiction
          | ( skip
              refine z_if_eq (tgt := 20) d_Tf_pour_11 (by decide) (fun _ => ?_) (fun h => absurd h (by decide))
              refine z_aload_0 d_Tf_pour_20 ?_
              refine z_getR d_Tf_pour_21 f_Tf_29 (by first | assumption | exact zS0_at (by assumption) (by omega) | exact zS0_at rfl (by omega)) (by first | assumption | exact zS0_at (by assumption) (by omega) | exact zS0_at rfl (by omega)) ?_
              refine z_iload_1 d_Tf_pour_24 ?_
              first | refine z_ald4N d_Tf_pour_25 (by first | assumption | exact zS0_at (by assumption) (by omega) | exact zS0_at rfl (by omega)) (by omega) (by first | decide | omega) (by first | assumption | exact zS0_at (by assumption) (by omega) | exact zS0_at rfl (by omega)) ?_ | refine z_ald5N d_Tf_pour_25 (by first | assumption | exact zS0_at (by assumption) (by omega) | exact zS0_at rfl (by omega)) (by omega) (by first | decide | omega) (by first | assumption | exact zS0_at (by assumption) (by omega) | exact zS0_at rfl (by omega)) ?_ | refine z_ald6N d_Tf_pour_25 (by first | assumption | exact zS0_at (by assumption) (by omega) | exact zS0_at rfl (by omega)) (by omega) (by first | decide | omega) (by first | assumption | exact zS0_at (by assumption) (by omega) | exact zS0_at rfl (by omega)) ?_
              first | refine z_astore_6 d_Tf_pour_26 rfl ?_ | (refine z_forget_5 ?_; refine z_astore_6 d_Tf_pour_26 rfl ?_)
              refine z_aload_0 d_Tf_pour_28 ?_
              refine z_getR d_Tf_pour_29 f_Tf_29 (by first | assumption | exact zS0_at (by assumption) (by omega) | exact zS0_at rfl (by omega)) (by first | assumption | exact zS0_at (by assumption) (by omega) | exact zS0_at rfl (by omega)) ?_
              refine z_iload_3 d_Tf_pour_32 ?_
              first | refine z_ald4N d_Tf_pour_33 (by first | assumption | exact zS0_at (by assumption) (by omega) | exact zS0_at rfl (by omega)) (by omega) (by first | decide | omega) (by first | assumption | exact zS0_at (by assumption) (by omega) | exact zS0_at rfl (by omega)) ?_ | refine z_ald5N d_Tf_pour_33 (by first | assumption | exact zS0_at (by assumption) (by omega) | exact zS0_at rfl (by omega)) (by omega) (by first | decide | omega) (by first | assumption | exact zS0_at (by assumption) (by omega) | exact zS0_at rfl (by omega)) ?_ | refine z_ald6N d_Tf_pour_33 (by first | assumption | exact zS0_at (by assumption) (by omega) | exact zS0_at rfl (by omega)) (by omega) (by first | decide | omega) (by first | assumption | exact zS0_at (by assumption) (by omega) | exact zS0_at rfl (by omega)) ?_
              first | refine z_astore_7 d_Tf_pour_34 rfl ?_ | (refine z_forget_6 ?_; refine z_astore_7 d_Tf_pour_34 rfl ?_)
              refine z_aload_6 d_Tf_pour_36 ?_
              refine z_getIv d_Tf_pour_38 f_Tf_146 (by first | assumption | exact zS0_at (by assumption) (by omega) | exact zS0_at rfl (by omega)) (by first | assumption | ((try simp (disch := omega) only [zu_same, zu_ne, zcp_ne, zfl_ne]); first | assumption | rfl)) ?_
              refine z_if_eq (tgt := 52) d_Tf_pour_41 (by decide) (fun h41 => ?_) (fun h41 => ?_)
              · first
                | (simp (disch := omega) only [← nI_0, nI_leI, nI_ltI, nI_eq, not_true_eq_false, not_false_eq_true] at h41; done)
                | (simp (disch := omega) only [← nI_0, nI_leI, nI_ltI, nI_eq, not_true_eq_false, not_false_eq_true] at h41; omega)
                | contradiction
                | exact absurd h41 (Int32.not_lt.mpr (by assumption))
                | exact absurd h41 (Int32.not_le.mpr (by assumption))
                | exact absurd h41 (by decide)
                | exact absurd (by decide) h41
                | ( try simp (disch := omega) only [← nI_0, nI_leI, nI_ltI, nI_eq, not_true_eq_false, not_false_eq_true] at h41
                    (try have h41b := zbit_n0.mp h41); (try have h41b := zbit_p0.mp h41)
                    refine z_aload_0 d_Tf_pour_52 ?_
                    refine z_iconst (a := nI 3) d_Tf_pour_53 (by decide) ?_
                    refine z_Vi1 d_Tf_pour_54 k_Tf_119 (by first | assumption | exact zS0_at (by assumption) (by omega) | exact zS0_at rfl (by omega)) (t_Tf_refuse (by assumption)) ⟨Nat.le_of_ble_eq_true rfl, Nat.le_of_ble_eq_true rfl, Nat.le_of_ble_eq_true rfl, Nat.le_of_ble_eq_true rfl⟩ (Nat.le_of_ble_eq_true rfl) ?_
                    intro r w hq
                    obtain ⟨rfl, rfl⟩ := hq
                    refine z_retz d_Tf_pour_57 (by first | exact zb0 | exact zb1 | assumption) ?_
                    exact ⟨rfl, cW_0⟩)
              · first
                | (simp (disch := omega) only [← nI_0, nI_leI, nI_ltI, nI_eq, not_true_eq_false, not_false_eq_true] at h41; done)
                | (simp (disch := omega) only [← nI_0, nI_leI, nI_ltI, nI_eq, not_true_eq_false, not_false_eq_true] at h41; omega)
                | contradiction
                | exact absurd h41 (Int32.not_lt.mpr (by assumption))
                | exact absurd h41 (Int32.not_le.mpr (by assumption))
                | exact absurd h41 (by decide)
                | exact absurd (by decide) h41
                | ( try simp (disch := omega) only [← nI_0, nI_leI, nI_ltI, nI_eq, not_true_eq_false, not_false_eq_true] at h41
                    (try have h41b := zbit_n0.mp h41); (try have h41b := zbit_p0.mp h41)
                    refine z_aload_7 d_Tf_pour_44 ?_
                    refine z_getIv d_Tf_pour_46 f_Tf_146 (by first | assumption | exact zS0_at (by assumption) (by omega) | exact zS0_at rfl (by omega)) (by first | assumption | ((try simp (disch := omega) only [zu_same, zu_ne, zcp_ne, zfl_ne]); first | assumption | rfl)) ?_
                    refine z_if_ne (tgt := 58) d_Tf_pour_49 (by decide) (fun h49 => ?_) (fun h49 => ?_)
                    · first
                      | (simp (disch := omega) only [← nI_0, nI_leI, nI_ltI, nI_eq, not_true_eq_false, not_false_eq_true] at h49; done)
                      | (simp (disch := omega) only [← nI_0, nI_leI, nI_ltI, nI_eq, not_true_eq_false, not_false_eq_true] at h49; omega)
                      | contradiction
                      | exact absurd h49 (Int32.not_lt.mpr (by assumption))
                      | exact absurd h49 (Int32.not_le.mpr (by assumption))
                      | exact absurd h49 (by decide)
                      | exact absurd (by decide) h49
                      | ( try simp (disch := omega) only [← nI_0, nI_leI, nI_ltI, nI_eq, not_true_eq_false, not_false_eq_true] at h49
                          (try have h49b := zbit_n0.mp h49); (try have h49b := zbit_p0.mp h49)
                          refine z_aload_6 d_Tf_pour_58 ?_
                          refine z_getIv d_Tf_pour_60 f_Tf_150 (by first | assumption | exact zS0_at (by assumption) (by omega) | exact zS0_at rfl (by omega)) (by first | assumption | ((try simp (disch := omega) only [zu_same, zu_ne, zcp_ne, zfl_ne]); first | assumption | rfl)) ?_
                          refine z_aload_7 d_Tf_pour_63 ?_
                          refine z_getIv d_Tf_pour_65 f_Tf_150 (by first | assumption | exact zS0_at (by assumption) (by omega) | exact zS0_at rfl (by omega)) (by first | assumption | ((try simp (disch := omega) only [zu_same, zu_ne, zcp_ne, zfl_ne]); first | assumption | rfl)) ?_
                          refine z_icmp_eq (tgt := 78) d_Tf_pour_68 (by decide) (fun h68 => ?_) (fun h68 => ?_)
                          · first
                            | (simp (disch := omega) only [← nI_0, nI_leI, nI_ltI, nI_eq, not_true_eq_false, not_false_eq_true] at h68; done)
                            | (simp (disch := omega) only [← nI_0, nI_leI, nI_ltI, nI_eq, not_true_eq_false, not_false_eq_true] at h68; omega)
                            | contradiction
                            | exact absurd h68 (Int32.not_lt.mpr (by assumption))
                            | exact absurd h68 (Int32.not_le.mpr (by assumption))
                            | exact absurd h68 (by decide)
                            | exact absurd (by decide) h68
                            | ( try simp (disch := omega) only [← nI_0, nI_leI, nI_ltI, nI_eq, not_true_eq_false, not_false_eq_true] at h68
                                (try have h68b := zbit_n0.mp h68); (try have h68b := zbit_p0.mp h68)
                                fail)
                          · first
                            | (simp (disch := omega) only [← nI_0, nI_leI, nI_ltI, nI_eq, not_true_eq_false, not_false_eq_true] at h68; done)
                            | (simp (disch := omega) only [← nI_0, nI_leI, nI_ltI, nI_eq, not_true_eq_false, not_false_eq_true] at h68; omega)
                            | contradiction
                            | exact absurd h68 (Int32.not_lt.mpr (by assumption))
                            | exact absurd h68 (Int32.not_le.mpr (by assumption))
                            | exact absurd h68 (by decide)
                            | exact absurd (by decide) h68
                            | ( try simp (disch := omega) only [← nI_0, nI_leI, nI_ltI, nI_eq, not_true_eq_false, not_false_eq_true] at h68
                                (try have h68b := zbit_n0.mp h68); (try have h68b := zbit_p0.mp h68)
                                refine z_aload_0 d_Tf_pour_71 ?_
                                refine z_bipush (a := nI 11) d_Tf_pour_72 (by decide) ?_
                                refine z_Vi1 d_Tf_pour_74 k_Tf_119 (by first | assumption | exact zS0_at (by assumption) (by omega) | exact zS0_at rfl (by omega)) (t_Tf_refuse (by assumption)) ⟨Nat.le_of_ble_eq_true rfl, Nat.le_of_ble_eq_true rfl, Nat.le_of_ble_eq_true rfl, Nat.le_of_ble_eq_true rfl⟩ (Nat.le_of_ble_eq_true rfl) ?_
                                intro r w hq
                                obtain ⟨rfl, rfl⟩ := hq
                                refine z_retz d_Tf_pour_77 (by first | exact zb0 | exact zb1 | assumption) ?_
                                exact ⟨rfl, cW_0⟩))
                    · first
                      | (simp (disch := omega) only [← nI_0, nI_leI, nI_ltI, nI_eq, not_true_eq_false, not_false_eq_true] at h49; done)
                      | (simp (disch := omega) only [← nI_0, nI_leI, nI_ltI, nI_eq, not_true_eq_false, not_false_eq_true] at h49; omega)
                      | contradiction
                      | exact absurd h49 (Int32.not_lt.mpr (by assumption))
                      | exact absurd h49 (Int32.not_le.mpr (by assumption))
                      | exact absurd h49 (by decide)
                      | exact absurd (by decide) h49
                      | ( try simp (disch := omega) only [← nI_0, nI_leI, nI_ltI, nI_eq, not_true_eq_false, not_false_eq_true] at h49
                          (try have h49b := zbit_n0.mp h49); (try have h49b := zbit_p0.mp h49)
                          refine z_aload_0 d_Tf_pour_52 ?_
                          refine z_iconst (a := nI 3) d_Tf_pour_53 (by decide) ?_
                          refine z_Vi1 d_Tf_pour_54 k_Tf_119 (by first | assumption | exact zS0_at (by assumption) (by omega) | exact zS0_at rfl (by omega)) (t_Tf_refuse (by assumption)) ⟨Nat.le_of_ble_eq_true rfl, Nat.le_of_ble_eq_true rfl, Nat.le_of_ble_eq_true rfl, Nat.le_of_ble_eq_true rfl⟩ (Nat.le_of_ble_eq_true rfl) ?_
                          intro r w hq
                          obtain ⟨rfl, rfl⟩ := hq
                          refine z_retz d_Tf_pour_57 (by first | exact zb0 | exact zb1 | assumption) ?_
                          exact ⟨rfl, cW_0⟩))))
theorem t_Mo_pour_s (M : modOk P S) (N : modIn I nt np nl nn) (ht : t < 4) (hu : u < 4) (a1 : I 146 t = nI k) (a2 : I 147 t = nI l) (b1 : I 146 u = nI k') (b2 : I 147 u = nI l') (hk : k ≤ 3) (hk' : k' ≤ 3) (hl : l ≤ 60) (hl' : l' ≤ 60) (hs : k ≠ k') : zEi G y_Mo_pour prog_14_method_16_code 9 (some .boolean) 2 [.ref 145, .int (nI t), .int bi, .int (nI u), .int bj, .int bm] (I, J, P, S) (fun r w => r = nI 0 ∧ mW I J P S 11 w) := by
  obtain ⟨M0, ⟨M4, M4s⟩, ⟨M5, M5s⟩, ⟨M6, M6s⟩, ⟨M7, M7s⟩, ⟨M20, M20s⟩, ⟨M21, M21s⟩, ⟨M22, M22s⟩, ⟨M26, M26s⟩, ⟨M27, M27s⟩, ⟨M28, M28s⟩, ⟨M30, M30s⟩, ⟨M34, M34s⟩, ⟨M36, M36s⟩, ⟨M37, M37s⟩⟩ := id M
  obtain ⟨I1, hI1, N1, h1, h0, e150, er, ek⟩ := mo_beg N
  have a1' : I1 146 t = nI k := by rw [er 146 (by decide)]; exact a1
  have a2' : I1 147 t = nI l := by rw [er 147 (by decide)]; exact a2
  have b1' : I1 146 u = nI k' := by rw [er 146 (by decide)]; exact b1
  have b2' : I1 147 u = nI l' := by rw [er 147 (by decide)]; exact b2
  refine zEi_of (lv := [some (.ref 145), some (.int (nI t)), some (.int bi), some (.int (nI u)), some (.int bj), some (.int bm), none, none, none]) (by decide) rfl (Nat.le_of_ble_eq_true rfl) ?_
  refine z_aload_0 d_Mo_pour_0 ?_
  refine z_iconst (a := nI 0) d_Mo_pour_1 (by decide) ?_
  refine z_putI d_Mo_pour_2 f_Mo_70 (by first | assumption | exact zS0_at (by assumption) (by omega) | exact zS0_at rfl (by omega)) ?_
  refine z_aload_0 d_Mo_pour_5 ?_
  refine z_iconst (a := nI 0) d_Mo_pour_6 (by decide) ?_
  refine z_putI d_Mo_pour_7 f_Mo_73 (by first | assumption | exact zS0_at (by assumption) (by omega) | exact zS0_at rfl (by omega)) ?_
  rw [← hI1]
  refine z_iload_1 d_Mo_pour_10 ?_
  refine z_if_lt (tgt := 28) d_Mo_pour_11 (by decide) (fun h11 => ?_) (fun h11 => ?_)
  · first
    | (simp (disch := omega) only [← nI_0, nI_leI, nI_ltI, nI_eq, not_true_eq_false, not_false_eq_true] at h11; done)
    | (simp (disch := omega) only [← nI_0, nI_leI, nI_ltI, nI_eq, not_true_eq_false, not_false_eq_true] at h11; omega)
    | contradiction
    | exact absurd h11 (Int32.not_lt.mpr (by assumption))
    | exact absurd h11 (Int32.not_le.mpr (by assumption))
    | exact absurd h11 (by decide)
    | exact absurd (by decide) h11
    | ( try simp (disch := omega) only [← nI_0, nI_leI, nI_ltI, nI_eq, not_true_eq_false, not_false_eq_true] at h11
        (try have h11b := zbit_n0.mp h11); (try have h11b := zbit_p0.mp h11)
        refine z_aload_0 d_Mo_pour_28 ?_
        refine z_iconst (a := nI 1) d_Mo_pour_29 (by decide) ?_
        refine z_Vi1 d_Mo_pour_30 k_Mo_85 (by first | assumption | exact zS0_at (by assumption) (by omega) | exact zS0_at rfl (by omega)) (t_Mo_no (by assumption)) ⟨Nat.le_of_ble_eq_true rfl, Nat.le_of_ble_eq_true rfl, Nat.le_of_ble_eq_true rfl, Nat.le_of_ble_eq_true rfl⟩ (Nat.le_of_ble_eq_true rfl) ?_
        intro r w hq
        obtain ⟨rfl, rfl⟩ := hq
        refine z_retz d_Mo_pour_33 (by first | exact zb0 | exact zb1 | assumption) ?_
        exact ⟨rfl, _, _, rfl, mqF_z h1 (by decide), mqJ_r, zu_same _ _ _ _⟩)
  · first
    | (simp (disch := omega) only [← nI_0, nI_leI, nI_ltI, nI_eq, not_true_eq_false, not_false_eq_true] at h11; done)
    | (simp (disch := omega) only [← nI_0, nI_leI, nI_ltI, nI_eq, not_true_eq_false, not_false_eq_true] at h11; omega)
    | contradiction
    | exact absurd h11 (Int32.not_lt.mpr (by assumption))
    | exact absurd h11 (Int32.not_le.mpr (by assumption))
    | exact absurd h11 (by decide)
    | exact absurd (by decide) h11
    | ( try simp (disch := omega) only [← nI_0, nI_leI, nI_ltI, nI_eq, not_true_eq_false, not_false_eq_true] at h11
        (try have h11b := zbit_n0.mp h11); (try have h11b := zbit_p0.mp h11)
        refine z_iload_1 d_Mo_pour_14 ?_
        refine z_iconst (a := nI 4) d_Mo_pour_15 (by decide) ?_
        refine z_icmp_ge (tgt := 28) d_Mo_pour_16 (by decide) (fun h16 => ?_) (fun h16 => ?_)
        · first
          | (simp (disch := omega) only [← nI_0, nI_leI, nI_ltI, nI_eq, not_true_eq_false, not_false_eq_true] at h16; done)
          | (simp (disch := omega) only [← nI_0, nI_leI, nI_ltI, nI_eq, not_true_eq_false, not_false_eq_true] at h16; omega)
          | contradiction
          | exact absurd h16 (Int32.not_lt.mpr (by assumption))
          | exact absurd h16 (Int32.not_le.mpr (by assumption))
          | exact absurd h16 (by decide)
          | exact absurd (by decide) h16
          | ( try simp (disch := omega) only [← nI_0, nI_leI, nI_ltI, nI_eq, not_true_eq_false, not_false_eq_true] at h16
              (try have h16b := zbit_n0.mp h16); (try have h16b := zbit_p0.mp h16)
              refine z_aload_0 d_Mo_pour_28 ?_
              refine z_iconst (a := nI 1) d_Mo_pour_29 (by decide) ?_
              refine z_Vi1 d_Mo_pour_30 k_Mo_85 (by first | assumption | exact zS0_at (by assumption) (by omega) | exact zS0_at rfl (by omega)) (t_Mo_no (by assumption)) ⟨Nat.le_of_ble_eq_true rfl, Nat.le_of_ble_eq_true rfl, Nat.le_of_ble_eq_true rfl, Nat.le_of_ble_eq_true rfl⟩ (Nat.le_of_ble_eq_true rfl) ?_
              intro r w hq
              obtain ⟨rfl, rfl⟩ := hq
              refine z_retz d_Mo_pour_33 (by first | exact zb0 | exact zb1 | assumption) ?_
              exact ⟨rfl, _, _, rfl, mqF_z h1 (by decide), mqJ_r, zu_same _ _ _ _⟩)
        · first
          | (simp (disch := omega) only [← nI_0, nI_leI, nI_ltI, nI_eq, not_true_eq_false, not_false_eq_true] at h16; done)
          | (simp (disch := omega) only [← nI_0, nI_leI, nI_ltI, nI_eq, not_true_eq_false, not_false_eq_true] at h16; omega)
          | contradiction
          | exact absurd h16 (Int32.not_lt.mpr (by assumption))
          | exact absurd h16 (Int32.not_le.mpr (by assumption))
          | exact absurd h16 (by decide)
          | exact absurd (by decide) h16
          | ( try simp (disch := omega) only [← nI_0, nI_leI, nI_ltI, nI_eq, not_true_eq_false, not_false_eq_true] at h16
              (try have h16b := zbit_n0.mp h16); (try have h16b := zbit_p0.mp h16)
              refine z_iload_3 d_Mo_pour_19 ?_
              refine z_if_lt (tgt := 28) d_Mo_pour_20 (by decide) (fun h20 => ?_) (fun h20 => ?_)
              · first
                | (simp (disch := omega) only [← nI_0, nI_leI, nI_ltI, nI_eq, not_true_eq_false, not_false_eq_true] at h20; done)
                | (simp (disch := omega) only [← nI_0, nI_leI, nI_ltI, nI_eq, not_true_eq_false, not_false_eq_true] at h20; omega)
                | contradiction
                | exact absurd h20 (Int32.not_lt.mpr (by assumption))
                | exact absurd h20 (Int32.not_le.mpr (by assumption))
                | exact absurd h20 (by decide)
                | exact absurd (by decide) h20
                | ( try simp (disch := omega) only [← nI_0, nI_leI, nI_ltI, nI_eq, not_true_eq_false, not_false_eq_true] at h20
                    (try have h20b := zbit_n0.mp h20); (try have h20b := zbit_p0.mp h20)
                    refine z_aload_0 d_Mo_pour_28 ?_
                    refine z_iconst (a := nI 1) d_Mo_pour_29 (by decide) ?_
                    refine z_Vi1 d_Mo_pour_30 k_Mo_85 (by first | assumption | exact zS0_at (by assumption) (by omega) | exact zS0_at rfl (by omega)) (t_Mo_no (by assumption)) ⟨Nat.le_of_ble_eq_true rfl, Nat.le_of_ble_eq_true rfl, Nat.le_of_ble_eq_true rfl, Nat.le_of_ble_eq_true rfl⟩ (Nat.le_of_ble_eq_true rfl) ?_
                    intro r w hq
                    obtain ⟨rfl, rfl⟩ := hq
                    refine z_retz d_Mo_pour_33 (by first | exact zb0 | exact zb1 | assumption) ?_
                    exact ⟨rfl, _, _, rfl, mqF_z h1 (by decide), mqJ_r, zu_same _ _ _ _⟩)
              · first
                | (simp (disch := omega) only [← nI_0, nI_leI, nI_ltI, nI_eq, not_true_eq_false, not_false_eq_true] at h20; done)
                | (simp (disch := omega) only [← nI_0, nI_leI, nI_ltI, nI_eq, not_true_eq_false, not_false_eq_true] at h20; omega)
                | contradiction
                | exact absurd h20 (Int32.not_lt.mpr (by assumption))
                | exact absurd h20 (Int32.not_le.mpr (by assumption))
                | exact absurd h20 (by decide)
                | exact absurd (by decide) h20
                | ( try simp (disch := omega) only [← nI_0, nI_leI, nI_ltI, nI_eq, not_true_eq_false, not_false_eq_true] at h20
                    (try have h20b := zbit_n0.mp h20); (try have h20b := zbit_p0.mp h20)
                    refine z_iload_3 d_Mo_pour_23 ?_
                    refine z_iconst (a := nI 4) d_Mo_pour_24 (by decide) ?_
                    refine z_icmp_lt (tgt := 34) d_Mo_pour_25 (by decide) (fun h25 => ?_) (fun h25 => ?_)
                    · first
                      | (simp (disch := omega) only [← nI_0, nI_leI, nI_ltI, nI_eq, not_true_eq_false, not_false_eq_true] at h25; done)
                      | (simp (disch := omega) only [← nI_0, nI_leI, nI_ltI, nI_eq, not_true_eq_false, not_false_eq_true] at h25; omega)
                      | contradiction
                      | exact absurd h25 (Int32.not_lt.mpr (by assumption))
                      | exact absurd h25 (Int32.not_le.mpr (by assumption))
                      | exact absurd h25 (by decide)
                      | exact absurd (by decide) h25
                      | ( try simp (disch := omega) only [← nI_0, nI_leI, nI_ltI, nI_eq, not_true_eq_false, not_false_eq_true] at h25
                          (try have h25b := zbit_n0.mp h25); (try have h25b := zbit_p0.mp h25)
                          refine z_aload_0 d_Mo_pour_34 ?_
                          refine z_getR d_Mo_pour_35 f_Mo_17 (by first | assumption | exact zS0_at (by assumption) (by omega) | exact zS0_at rfl (by omega)) (by first | assumption | exact zS0_at (by assumption) (by omega) | exact zS0_at rfl (by omega)) ?_
                          refine z_iload_1 d_Mo_pour_38 ?_
                          first | refine z_ialdNv d_Mo_pour_39 (by first | assumption | exact zS0_at (by assumption) (by omega) | exact zS0_at rfl (by omega)) (by omega) (by first | decide | omega) (by first | assumption | ((try simp (disch := omega) only [zu_same, zu_ne, zcp_ne, zfl_ne]); first | assumption | rfl)) ?_ | refine z_iald d_Mo_pour_39 (by first | assumption | exact zS0_at (by assumption) (by omega) | exact zS0_at rfl (by omega)) (by first | assumption | exact zS0_at (by assumption) (by omega) | exact zS0_at rfl (by omega)) ?_
                          refine z_if_lt (tgt := 52) d_Mo_pour_40 (by decide) (fun h40 => ?_) (fun h40 => ?_)
                          · first
                            | (simp (disch := omega) only [← nI_0, nI_leI, nI_ltI, nI_eq, not_true_eq_false, not_false_eq_true] at h40; done)
                            | (simp (disch := omega) only [← nI_0, nI_leI, nI_ltI, nI_eq, not_true_eq_false, not_false_eq_true] at h40; omega)
                            | contradiction
                            | exact absurd h40 (Int32.not_lt.mpr (by assumption))
                            | exact absurd h40 (Int32.not_le.mpr (by assumption))
                            | exact absurd h40 (by decide)
                            | exact absurd (by decide) h40
                            | ( try simp (disch := omega) only [← nI_0, nI_leI, nI_ltI, nI_eq, not_true_eq_false, not_false_eq_true] at h40
                                (try have h40b := zbit_n0.mp h40); (try have h40b := zbit_p0.mp h40)
                                refine z_aload_0 d_Mo_pour_52 ?_
                                refine z_iconst (a := nI 3) d_Mo_pour_53 (by decide) ?_
                                refine z_Vi1 d_Mo_pour_54 k_Mo_85 (by first | assumption | exact zS0_at (by assumption) (by omega) | exact zS0_at rfl (by omega)) (t_Mo_no (by assumption)) ⟨Nat.le_of_ble_eq_true rfl, Nat.le_of_ble_eq_true rfl, Nat.le_of_ble_eq_true rfl, Nat.le_of_ble_eq_true rfl⟩ (Nat.le_of_ble_eq_true rfl) ?_
                                intro r w hq
                                obtain ⟨rfl, rfl⟩ := hq
                                refine z_retz d_Mo_pour_57 (by first | exact zb0 | exact zb1 | assumption) ?_
                                exact ⟨rfl, _, _, rfl, mqF_z h1 (by decide), mqJ_r, zu_same _ _ _ _⟩)
                          · first
                            | (simp (disch := omega) only [← nI_0, nI_leI, nI_ltI, nI_eq, not_true_eq_false, not_false_eq_true] at h40; done)
                            | (simp (disch := omega) only [← nI_0, nI_leI, nI_ltI, nI_eq, not_true_eq_false, not_false_eq_true] at h40; omega)
                            | contradiction
                            | exact absurd h40 (Int32.not_lt.mpr (by assumption))
                            | exact absurd h40 (Int32.not_le.mpr (by assumption))
                            | exact absurd h40 (by decide)
                            | exact absurd (by decide) h40
                            | ( try simp (disch := omega) only [← nI_0, nI_leI, nI_ltI, nI_eq, not_true_eq_false, not_false_eq_true] at h40
                                (try have h40b := zbit_n0.mp h40); (try have h40b := zbit_p0.mp h40)
                                refine z_aload_0 d_Mo_pour_43 ?_
                                refine z_getR d_Mo_pour_44 f_Mo_17 (by first | assumption | exact zS0_at (by assumption) (by omega) | exact zS0_at rfl (by omega)) (by first | assumption | exact zS0_at (by assumption) (by omega) | exact zS0_at rfl (by omega)) ?_
                                refine z_iload_3 d_Mo_pour_47 ?_
                                first | refine z_ialdNv d_Mo_pour_48 (by first | assumption | exact zS0_at (by assumption) (by omega) | exact zS0_at rfl (by omega)) (by omega) (by first | decide | omega) (by first | assumption | ((try simp (disch := omega) only [zu_same, zu_ne, zcp_ne, zfl_ne]); first | assumption | rfl)) ?_ | refine z_iald d_Mo_pour_48 (by first | assumption | exact zS0_at (by assumption) (by omega) | exact zS0_at rfl (by omega)) (by first | assumption | exact zS0_at (by assumption) (by omega) | exact zS0_at rfl (by omega)) ?_
                                refine z_if_ge (tgt := 58) d_Mo_pour_49 (by decide) (fun h49 => ?_) (fun h49 => ?_)
                                · first
                                  | (simp (disch := omega) only [← nI_0, nI_leI, nI_ltI, nI_eq, not_true_eq_false, not_false_eq_true] at h49; done)
                                  | (simp (disch := omega) only [← nI_0, nI_leI, nI_ltI, nI_eq, not_true_eq_false, not_false_eq_true] at h49; omega)
                                  | contradiction
                                  | exact absurd h49 (Int32.not_lt.mpr (by assumption))
                                  | exact absurd h49 (Int32.not_le.mpr (by assumption))
                                  | exact absurd h49 (by decide)
                                  | exact absurd (by decide) h49
                                  | ( try simp (disch := omega) only [← nI_0, nI_leI, nI_ltI, nI_eq, not_true_eq_false, not_false_eq_true] at h49
                                      (try have h49b := zbit_n0.mp h49); (try have h49b := zbit_p0.mp h49)
                                      refine z_aload_0 d_Mo_pour_58 ?_
                                      refine z_getR d_Mo_pour_59 f_Mo_13 (by first | assumption | exact zS0_at (by assumption) (by omega) | exact zS0_at rfl (by omega)) (by first | assumption | exact zS0_at (by assumption) (by omega) | exact zS0_at rfl (by omega)) ?_
                                      refine z_iload_1 d_Mo_pour_62 ?_
                                      first | refine z_ialdNv d_Mo_pour_63 (by first | assumption | exact zS0_at (by assumption) (by omega) | exact zS0_at rfl (by omega)) (by omega) (by first | decide | omega) (by first | assumption | ((try simp (disch := omega) only [zu_same, zu_ne, zcp_ne, zfl_ne]); first | assumption | rfl)) ?_ | refine z_iald d_Mo_pour_63 (by first | assumption | exact zS0_at (by assumption) (by omega) | exact zS0_at rfl (by omega)) (by first | assumption | exact zS0_at (by assumption) (by omega) | exact zS0_at rfl (by omega)) ?_
                                      refine z_aload_0 d_Mo_pour_64 ?_
                                      refine z_getR d_Mo_pour_65 f_Mo_13 (by first | assumption | exact zS0_at (by assumption) (by omega) | exact zS0_at rfl (by omega)) (by first | assumption | exact zS0_at (by assumption) (by omega) | exact zS0_at rfl (by omega)) ?_
                                      refine z_iload_3 d_Mo_pour_68 ?_
                                      first | refine z_ialdNv d_Mo_pour_69 (by first | assumption | exact zS0_at (by assumption) (by omega) | exact zS0_at rfl (by omega)) (by omega) (by first | decide | omega) (by first | assumption | ((try simp (disch := omega) only [zu_same, zu_ne, zcp_ne, zfl_ne]); first | assumption | rfl)) ?_ | refine z_iald d_Mo_pour_69 (by first | assumption | exact zS0_at (by assumption) (by omega) | exact zS0_at rfl (by omega)) (by first | assumption | exact zS0_at (by assumption) (by omega) | exact zS0_at rfl (by omega)) ?_
                                      refine z_icmp_eq (tgt := 80) d_Mo_pour_70 (by decide) (fun h70 => ?_) (fun h70 => ?_)
                                      · first
                                        | (simp (disch := omega) only [← nI_0, nI_leI, nI_ltI, nI_eq, not_true_eq_false, not_false_eq_true] at h70; done)
                                        | (simp (disch := omega) only [← nI_0, nI_leI, nI_ltI, nI_eq, not_true_eq_false, not_false_eq_true] at h70; omega)
                                        | contradiction
                                        | exact absurd h70 (Int32.not_lt.mpr (by assumption))
                                        | exact absurd h70 (Int32.not_le.mpr (by assumption))
                                        | exact absurd h70 (by decide)
                                        | exact absurd (by decide) h70
                                        | ( try simp (disch := omega) only [← nI_0, nI_leI, nI_ltI, nI_eq, not_true_eq_false, not_false_eq_true] at h70
                                            (try have h70b := zbit_n0.mp h70); (try have h70b := zbit_p0.mp h70)
                                            fail)
                                      · first
                                        | (simp (disch := omega) only [← nI_0, nI_leI, nI_ltI, nI_eq, not_true_eq_false, not_false_eq_true] at h70; done)
                                        | (simp (disch := omega) only [← nI_0, nI_leI, nI_ltI, nI_eq, not_true_eq_false, not_false_eq_true] at h70; omega)
                                        | contradiction
                                        | exact absurd h70 (Int32.not_lt.mpr (by assumption))
                                        | exact absurd h70 (Int32.not_le.mpr (by assumption))
                                        | exact absurd h70 (by decide)
                                        | exact absurd (by decide) h70
                                        | ( try simp (disch := omega) only [← nI_0, nI_leI, nI_ltI, nI_eq, not_true_eq_false, not_false_eq_true] at h70
                                            (try have h70b := zbit_n0.mp h70); (try have h70b := zbit_p0.mp h70)
                                            refine z_aload_0 d_Mo_pour_73 ?_
                                            refine z_bipush (a := nI 11) d_Mo_pour_74 (by decide) ?_
                                            refine z_Vi1 d_Mo_pour_76 k_Mo_85 (by first | assumption | exact zS0_at (by assumption) (by omega) | exact zS0_at rfl (by omega)) (t_Mo_no (by assumption)) ⟨Nat.le_of_ble_eq_true rfl, Nat.le_of_ble_eq_true rfl, Nat.le_of_ble_eq_true rfl, Nat.le_of_ble_eq_true rfl⟩ (Nat.le_of_ble_eq_true rfl) ?_
                                            intro r w hq
                                            obtain ⟨rfl, rfl⟩ := hq
                                            refine z_retz d_Mo_pour_79 (by first | exact zb0 | exact zb1 | assumption) ?_
                                            exact ⟨rfl, _, _, rfl, mqF_z h1 (by decide), mqJ_r, zu_same _ _ _ _⟩))
                                · first
                                  | (simp (disch := omega) only [← nI_0, nI_leI, nI_ltI, nI_eq, not_true_eq_false, not_false_eq_true] at h49; done)
                                  | (simp (disch := omega) only [← nI_0, nI_leI, nI_ltI, nI_eq, not_true_eq_false, not_false_eq_true] at h49; omega)
                                  | contradiction
                                  | exact absurd h49 (Int32.not_lt.mpr (by assumption))
                                  | exact absurd h49 (Int32.not_le.mpr (by assumption))
                                  | exact absurd h49 (by decide)
                                  | exact absurd (by decide) h49
                                  | ( try simp (disch := omega) only [← nI_0, nI_leI, nI_ltI, nI_eq, not_true_eq_false, not_false_eq_true] at h49
                                      (try have h49b := zbit_n0.mp h49); (try have h49b := zbit_p0.mp h49)
                                      refine z_aload_0 d_Mo_pour_52 ?_
                                      refine z_iconst (a := nI 3) d_Mo_pour_53 (by decide) ?_
                                      refine z_Vi1 d_Mo_pour_54 k_Mo_85 (by first | assumption | exact zS0_at (by assumption) (by omega) | exact zS0_at rfl (by omega)) (t_Mo_no (by assumption)) ⟨Nat.le_of_ble_eq_true rfl, Nat.le_of_ble_eq_true rfl, Nat.le_of_ble_eq_true rfl, Nat.le_of_ble_eq_true rfl⟩ (Nat.le_of_ble_eq_true rfl) ?_
                                      intro r w hq
                                      obtain ⟨rfl, rfl⟩ := hq
                                      refine z_retz d_Mo_pour_57 (by first | exact zb0 | exact zb1 | assumption) ?_
                                      exact ⟨rfl, _, _, rfl, mqF_z h1 (by decide), mqJ_r, zu_same _ _ _ _⟩)))
                    · first
                      | (simp (disch := omega) only [← nI_0, nI_leI, nI_ltI, nI_eq, not_true_eq_false, not_false_eq_true] at h25; done)
                      | (simp (disch := omega) only [← nI_0, nI_leI, nI_ltI, nI_eq, not_true_eq_false, not_false_eq_true] at h25; omega)
                      | contradiction
                      | exact absurd h25 (Int32.not_lt.mpr (by assumption))
                      | exact absurd h25 (Int32.not_le.mpr (by assumption))
                      | exact absurd h25 (by decide)
                      | exact absurd (by decide) h25
                      | ( try simp (disch := omega) only [← nI_0, nI_leI, nI_ltI, nI_eq, not_true_eq_false, not_false_eq_true] at h25
                          (try have h25b := zbit_n0.mp h25); (try have h25b := zbit_p0.mp h25)
                          refine z_aload_0 d_Mo_pour_28 ?_
                          refine z_iconst (a := nI 1) d_Mo_pour_29 (by decide) ?_
                          refine z_Vi1 d_Mo_pour_30 k_Mo_85 (by first | assumption | exact zS0_at (by assumption) (by omega) | exact zS0_at rfl (by omega)) (t_Mo_no (by assumption)) ⟨Nat.le_of_ble_eq_true rfl, Nat.le_of_ble_eq_true rfl, Nat.le_of_ble_eq_true rfl, Nat.le_of_ble_eq_true rfl⟩ (Nat.le_of_ble_eq_true rfl) ?_
                          intro r w hq
                          obtain ⟨rfl, rfl⟩ := hq
                          refine z_retz d_Mo_pour_33 (by first | exact zb0 | exact zb1 | assumption) ?_
                          exact ⟨rfl, _, _, rfl, mqF_z h1 (by decide), mqJ_r, zu_same _ _ _ _⟩))))
theorem t_Tf_pour_n (Z : clOk f d P S) (ht : t < 4) (hu : u < 4) (a0 : I (3 + 2 * t) 0 = nI 1) (a1 : I (3 + 2 * t) 1 = nI k) (a2 : I (3 + 2 * t) 2 = nI l) (b0 : I (3 + 2 * u) 0 = nI 1) (b1 : I (3 + 2 * u) 1 = nI k) (b2 : I (3 + 2 * u) 2 = nI l') (hk : k ≤ 3) (hl : l ≤ 60) (hl' : l' ≤ 60) (hn : bm < 0) : zEi G y_Tf_pour prog_1_method_8_code 8 (some .boolean) 2 [.ref 0, .int (nI t), .int bi, .int (nI u), .int bj, .int bm] (I, J, P, S) (fun r w => r = nI 0 ∧ cW I J P S 6 w) := by
  obtain ⟨⟨c0, c3, c1s⟩, ⟨c5, c2s, ctr⟩, ⟨c6, c11s, c11, c13s⟩, ⟨c7, c15s, c15⟩, ⟨c8, c16s, c16a, c16b, c17s⟩, ⟨c9, c10, cfd, F, Fd⟩, ⟨c11b, Ft⟩, ⟨c12, c69s, cmk⟩, ⟨c14, c121s, c121, c122s⟩, ⟨c15b, c123s, c123, c124s⟩, ⟨c16, c125s, c125, c126s⟩, ⟨c17, c127s, c127, c128s, ctb⟩, ⟨c18, c139s, c139, c140s⟩, ⟨c19, c141s, ⟨c141a, c142s⟩, ⟨c141b, c143s⟩, ⟨c141c, c144s⟩⟩, M⟩ := id Z
  have hz : zin (nI t) 4 := ⟨t, ht, rfl⟩
  have hzu : zin (nI u) 4 := ⟨u, hu, rfl⟩
  obtain ⟨c2, T⟩ := ctr t ht
  obtain ⟨T0, T1, T2⟩ := id T
  obtain ⟨c2u, U⟩ := ctr u hu
  obtain ⟨U0, U1, U2⟩ := id U
  refine zEi_of (lv := [some (.ref 0), some (.int (nI t)), some (.int bi), some (.int (nI u)), some (.int bj), some (.int bm), none, none]) (by decide) rfl (Nat.le_of_ble_eq_true rfl) ?_
  refine z_iload_1 d_Tf_pour_0 ?_
  refine z_Si1 d_Tf_pour_1 k_Tf_115 (t_Tf_noTray) ⟨Nat.le_of_ble_eq_true rfl, Nat.le_of_ble_eq_true rfl, Nat.le_of_ble_eq_true rfl, Nat.le_of_ble_eq_true rfl⟩ (Nat.le_of_ble_eq_true rfl) ?_
  intro r w hq
  rcases hq with ⟨⟨hz1, rfl⟩ | ⟨hz1, rfl⟩, rfl⟩
  · first
    | contradiction
    | ( skip
        refine z_if_ne (tgt := 14) d_Tf_pour_4 (by decide) (fun _ => ?_) (fun h => absurd h (by decide))
        refine z_aload_0 d_Tf_pour_14 ?_
        refine z_iconst (a := nI 1) d_Tf_pour_15 (by decide) ?_
        refine z_Vi1 d_Tf_pour_16 k_Tf_119 (by first | assumption | exact zS0_at (by assumption) (by omega) | exact zS0_at rfl (by omega)) (t_Tf_refuse (by assumption)) ⟨Nat.le_of_ble_eq_true rfl, Nat.le_of_ble_eq_true rfl, Nat.le_of_ble_eq_true rfl, Nat.le_of_ble_eq_true rfl⟩ (Nat.le_of_ble_eq_true rfl) ?_
        intro r w hq
        obtain ⟨rfl, rfl⟩ := hq
        refine z_retz d_Tf_pour_19 (by first | exact zb0 | exact zb1 | assumption) ?_
        exact ⟨rfl, cW_0⟩)
  · first
    | contradiction
    | ( skip
        refine z_if_ne (tgt := 14) d_Tf_pour_4 (by decide) (fun h => absurd h (by decide)) (fun _ => ?_)
        refine z_iload_3 d_Tf_pour_7 ?_
        refine z_Si1 d_Tf_pour_8 k_Tf_115 (t_Tf_noTray) ⟨Nat.le_of_ble_eq_true rfl, Nat.le_of_ble_eq_true rfl, Nat.le_of_ble_eq_true rfl, Nat.le_of_ble_eq_true rfl⟩ (Nat.le_of_ble_eq_true rfl) ?_
        intro r w hq
        rcases hq with ⟨⟨hz8, rfl⟩ | ⟨hz8, rfl⟩, rfl⟩
        · first
          | contradiction
          | ( skip
              refine z_if_eq (tgt := 20) d_Tf_pour_11 (by decide) (fun h => absurd h (by decide)) (fun _ => ?_)
              refine z_aload_0 d_Tf_pour_14 ?_
              refine z_iconst (a := nI 1) d_Tf_pour_15 (by decide) ?_
              refine z_Vi1 d_Tf_pour_16 k_Tf_119 (by first | assumption | exact zS0_at (by assumption) (by omega) | exact zS0_at rfl (by omega)) (t_Tf_refuse (by assumption)) ⟨Nat.le_of_ble_eq_true rfl, Nat.le_of_ble_eq_true rfl, Nat.le_of_ble_eq_true rfl, Nat.le_of_ble_eq_true rfl⟩ (Nat.le_of_ble_eq_true rfl) ?_
              intro r w hq
              obtain ⟨rfl, rfl⟩ := hq
              refine z_retz d_Tf_pour_19 (by first | exact zb0 | exact zb1 | assumption) ?_
              exact ⟨rfl, cW_0⟩)
        · first
          | contradiction
          | ( skip
              refine z_if_eq (tgt := 20) d_Tf_pour_11 (by decide) (fun _ => ?_) (fun h => absurd h (by decide))
              refine z_aload_0 d_Tf_pour_20 ?_
              refine z_getR d_Tf_pour_21 f_Tf_29 (by first | assumption | exact zS0_at (by assumption) (by omega) | exact zS0_at rfl (by omega)) (by first | assumption | exact zS0_at (by assumption) (by omega) | exact zS0_at rfl (by omega)) ?_
              refine z_iload_1 d_Tf_pour_24 ?_
              first | refine z_ald4N d_Tf_pour_25 (by first | assumption | exact zS0_at (by assumption) (by omega) | exact zS0_at rfl (by omega)) (by omega) (by first | decide | omega) (by first | assumption | exact zS0_at (by assumption) (by omega) | exact zS0_at rfl (by omega)) ?_ | refine z_ald5N d_Tf_pour_25 (by first | assumption | exact zS0_at (by assumption) (by omega) | exact zS0_at rfl (by omega)) (by omega) (by first | decide | omega) (by first | assumption | exact zS0_at (by assumption) (by omega) | exact zS0_at rfl (by omega)) ?_ | refine z_ald6N d_Tf_pour_25 (by first | assumption | exact zS0_at (by assumption) (by omega) | exact zS0_at rfl (by omega)) (by omega) (by first | decide | omega) (by first | assumption | exact zS0_at (by assumption) (by omega) | exact zS0_at rfl (by omega)) ?_
              first | refine z_astore_6 d_Tf_pour_26 rfl ?_ | (refine z_forget_5 ?_; refine z_astore_6 d_Tf_pour_26 rfl ?_)
              refine z_aload_0 d_Tf_pour_28 ?_
              refine z_getR d_Tf_pour_29 f_Tf_29 (by first | assumption | exact zS0_at (by assumption) (by omega) | exact zS0_at rfl (by omega)) (by first | assumption | exact zS0_at (by assumption) (by omega) | exact zS0_at rfl (by omega)) ?_
              refine z_iload_3 d_Tf_pour_32 ?_
              first | refine z_ald4N d_Tf_pour_33 (by first | assumption | exact zS0_at (by assumption) (by omega) | exact zS0_at rfl (by omega)) (by omega) (by first | decide | omega) (by first | assumption | exact zS0_at (by assumption) (by omega) | exact zS0_at rfl (by omega)) ?_ | refine z_ald5N d_Tf_pour_33 (by first | assumption | exact zS0_at (by assumption) (by omega) | exact zS0_at rfl (by omega)) (by omega) (by first | decide | omega) (by first | assumption | exact zS0_at (by assumption) (by omega) | exact zS0_at rfl (by omega)) ?_ | refine z_ald6N d_Tf_pour_33 (by first | assumption | exact zS0_at (by assumption) (by omega) | exact zS0_at rfl (by omega)) (by omega) (by first | decide | omega) (by first | assumption | exact zS0_at (by assumption) (by omega) | exact zS0_at rfl (by omega)) ?_
              first | refine z_astore_7 d_Tf_pour_34 rfl ?_ | (refine z_forget_6 ?_; refine z_astore_7 d_Tf_pour_34 rfl ?_)
              refine z_aload_6 d_Tf_pour_36 ?_
              refine z_getIv d_Tf_pour_38 f_Tf_146 (by first | assumption | exact zS0_at (by assumption) (by omega) | exact zS0_at rfl (by omega)) (by first | assumption | ((try simp (disch := omega) only [zu_same, zu_ne, zcp_ne, zfl_ne]); first | assumption | rfl)) ?_
              refine z_if_eq (tgt := 52) d_Tf_pour_41 (by decide) (fun h41 => ?_) (fun h41 => ?_)
              · first
                | (simp (disch := omega) only [← nI_0, nI_leI, nI_ltI, nI_eq, not_true_eq_false, not_false_eq_true] at h41; done)
                | (simp (disch := omega) only [← nI_0, nI_leI, nI_ltI, nI_eq, not_true_eq_false, not_false_eq_true] at h41; omega)
                | contradiction
                | exact absurd h41 (Int32.not_lt.mpr (by assumption))
                | exact absurd h41 (Int32.not_le.mpr (by assumption))
                | exact absurd h41 (by decide)
                | exact absurd (by decide) h41
                | ( try simp (disch := omega) only [← nI_0, nI_leI, nI_ltI, nI_eq, not_true_eq_false, not_false_eq_true] at h41
                    (try have h41b := zbit_n0.mp h41); (try have h41b := zbit_p0.mp h41)
                    refine z_aload_0 d_Tf_pour_52 ?_
                    refine z_iconst (a := nI 3) d_Tf_pour_53 (by decide) ?_
                    refine z_Vi1 d_Tf_pour_54 k_Tf_119 (by first | assumption | exact zS0_at (by assumption) (by omega) | exact zS0_at rfl (by omega)) (t_Tf_refuse (by assumption)) ⟨Nat.le_of_ble_eq_true rfl, Nat.le_of_ble_eq_true rfl, Nat.le_of_ble_eq_true rfl, Nat.le_of_ble_eq_true rfl⟩ (Nat.le_of_ble_eq_true rfl) ?_
                    intro r w hq
                    obtain ⟨rfl, rfl⟩ := hq
                    refine z_retz d_Tf_pour_57 (by first | exact zb0 | exact zb1 | assumption) ?_
                    exact ⟨rfl, cW_0⟩)
              · first
                | (simp (disch := omega) only [← nI_0, nI_leI, nI_ltI, nI_eq, not_true_eq_false, not_false_eq_true] at h41; done)
                | (simp (disch := omega) only [← nI_0, nI_leI, nI_ltI, nI_eq, not_true_eq_false, not_false_eq_true] at h41; omega)
                | contradiction
                | exact absurd h41 (Int32.not_lt.mpr (by assumption))
                | exact absurd h41 (Int32.not_le.mpr (by assumption))
                | exact absurd h41 (by decide)
                | exact absurd (by decide) h41
                | ( try simp (disch := omega) only [← nI_0, nI_leI, nI_ltI, nI_eq, not_true_eq_false, not_false_eq_true] at h41
                    (try have h41b := zbit_n0.mp h41); (try have h41b := zbit_p0.mp h41)
                    refine z_aload_7 d_Tf_pour_44 ?_
                    refine z_getIv d_Tf_pour_46 f_Tf_146 (by first | assumption | exact zS0_at (by assumption) (by omega) | exact zS0_at rfl (by omega)) (by first | assumption | ((try simp (disch := omega) only [zu_same, zu_ne, zcp_ne, zfl_ne]); first | assumption | rfl)) ?_
                    refine z_if_ne (tgt := 58) d_Tf_pour_49 (by decide) (fun h49 => ?_) (fun h49 => ?_)
                    · first
                      | (simp (disch := omega) only [← nI_0, nI_leI, nI_ltI, nI_eq, not_true_eq_false, not_false_eq_true] at h49; done)
                      | (simp (disch := omega) only [← nI_0, nI_leI, nI_ltI, nI_eq, not_true_eq_false, not_false_eq_true] at h49; omega)
                      | contradiction
                      | exact absurd h49 (Int32.not_lt.mpr (by assumption))
                      | exact absurd h49 (Int32.not_le.mpr (by assumption))
                      | exact absurd h49 (by decide)
                      | exact absurd (by decide) h49
                      | ( try simp (disch := omega) only [← nI_0, nI_leI, nI_ltI, nI_eq, not_true_eq_false, not_false_eq_true] at h49
                          (try have h49b := zbit_n0.mp h49); (try have h49b := zbit_p0.mp h49)
                          refine z_aload_6 d_Tf_pour_58 ?_
                          refine z_getIv d_Tf_pour_60 f_Tf_150 (by first | assumption | exact zS0_at (by assumption) (by omega) | exact zS0_at rfl (by omega)) (by first | assumption | ((try simp (disch := omega) only [zu_same, zu_ne, zcp_ne, zfl_ne]); first | assumption | rfl)) ?_
                          refine z_aload_7 d_Tf_pour_63 ?_
                          refine z_getIv d_Tf_pour_65 f_Tf_150 (by first | assumption | exact zS0_at (by assumption) (by omega) | exact zS0_at rfl (by omega)) (by first | assumption | ((try simp (disch := omega) only [zu_same, zu_ne, zcp_ne, zfl_ne]); first | assumption | rfl)) ?_
                          refine z_icmp_eq (tgt := 78) d_Tf_pour_68 (by decide) (fun h68 => ?_) (fun h68 => ?_)
                          · first
                            | (simp (disch := omega) only [← nI_0, nI_leI, nI_ltI, nI_eq, not_true_eq_false, not_false_eq_true] at h68; done)
                            | (simp (disch := omega) only [← nI_0, nI_leI, nI_ltI, nI_eq, not_true_eq_false, not_false_eq_true] at h68; omega)
                            | contradiction
                            | exact absurd h68 (Int32.not_lt.mpr (by assumption))
                            | exact absurd h68 (Int32.not_le.mpr (by assumption))
                            | exact absurd h68 (by decide)
                            | exact absurd (by decide) h68
                            | ( try simp (disch := omega) only [← nI_0, nI_leI, nI_ltI, nI_eq, not_true_eq_false, not_false_eq_true] at h68
                                (try have h68b := zbit_n0.mp h68); (try have h68b := zbit_p0.mp h68)
                                refine z_iload_5 d_Tf_pour_78 ?_
                                refine z_if_ge (tgt := 90) d_Tf_pour_80 (by decide) (fun h80 => ?_) (fun h80 => ?_)
                                · first
                                  | (simp (disch := omega) only [← nI_0, nI_leI, nI_ltI, nI_eq, not_true_eq_false, not_false_eq_true] at h80; done)
                                  | (simp (disch := omega) only [← nI_0, nI_leI, nI_ltI, nI_eq, not_true_eq_false, not_false_eq_true] at h80; omega)
                                  | contradiction
                                  | exact absurd h80 (Int32.not_lt.mpr (by assumption))
                                  | exact absurd h80 (Int32.not_le.mpr (by assumption))
                                  | exact absurd h80 (by decide)
                                  | exact absurd (by decide) h80
                                  | ( try simp (disch := omega) only [← nI_0, nI_leI, nI_ltI, nI_eq, not_true_eq_false, not_false_eq_true] at h80
                                      (try have h80b := zbit_n0.mp h80); (try have h80b := zbit_p0.mp h80)
                                      fail)
                                · first
                                  | (simp (disch := omega) only [← nI_0, nI_leI, nI_ltI, nI_eq, not_true_eq_false, not_false_eq_true] at h80; done)
                                  | (simp (disch := omega) only [← nI_0, nI_leI, nI_ltI, nI_eq, not_true_eq_false, not_false_eq_true] at h80; omega)
                                  | contradiction
                                  | exact absurd h80 (Int32.not_lt.mpr (by assumption))
                                  | exact absurd h80 (Int32.not_le.mpr (by assumption))
                                  | exact absurd h80 (by decide)
                                  | exact absurd (by decide) h80
                                  | ( try simp (disch := omega) only [← nI_0, nI_leI, nI_ltI, nI_eq, not_true_eq_false, not_false_eq_true] at h80
                                      (try have h80b := zbit_n0.mp h80); (try have h80b := zbit_p0.mp h80)
                                      refine z_aload_0 d_Tf_pour_83 ?_
                                      refine z_bipush (a := nI 6) d_Tf_pour_84 (by decide) ?_
                                      refine z_Vi1 d_Tf_pour_86 k_Tf_119 (by first | assumption | exact zS0_at (by assumption) (by omega) | exact zS0_at rfl (by omega)) (t_Tf_refuse (by assumption)) ⟨Nat.le_of_ble_eq_true rfl, Nat.le_of_ble_eq_true rfl, Nat.le_of_ble_eq_true rfl, Nat.le_of_ble_eq_true rfl⟩ (Nat.le_of_ble_eq_true rfl) ?_
                                      intro r w hq
                                      obtain ⟨rfl, rfl⟩ := hq
                                      refine z_retz d_Tf_pour_89 (by first | exact zb0 | exact zb1 | assumption) ?_
                                      exact ⟨rfl, cW_0⟩))
                          · first
                            | (simp (disch := omega) only [← nI_0, nI_leI, nI_ltI, nI_eq, not_true_eq_false, not_false_eq_true] at h68; done)
                            | (simp (disch := omega) only [← nI_0, nI_leI, nI_ltI, nI_eq, not_true_eq_false, not_false_eq_true] at h68; omega)
                            | contradiction
                            | exact absurd h68 (Int32.not_lt.mpr (by assumption))
                            | exact absurd h68 (Int32.not_le.mpr (by assumption))
                            | exact absurd h68 (by decide)
                            | exact absurd (by decide) h68
                            | ( try simp (disch := omega) only [← nI_0, nI_leI, nI_ltI, nI_eq, not_true_eq_false, not_false_eq_true] at h68
                                (try have h68b := zbit_n0.mp h68); (try have h68b := zbit_p0.mp h68)
                                refine z_aload_0 d_Tf_pour_71 ?_
                                refine z_bipush (a := nI 11) d_Tf_pour_72 (by decide) ?_
                                refine z_Vi1 d_Tf_pour_74 k_Tf_119 (by first | assumption | exact zS0_at (by assumption) (by omega) | exact zS0_at rfl (by omega)) (t_Tf_refuse (by assumption)) ⟨Nat.le_of_ble_eq_true rfl, Nat.le_of_ble_eq_true rfl, Nat.le_of_ble_eq_true rfl, Nat.le_of_ble_eq_true rfl⟩ (Nat.le_of_ble_eq_true rfl) ?_
                                intro r w hq
                                obtain ⟨rfl, rfl⟩ := hq
                                refine z_retz d_Tf_pour_77 (by first | exact zb0 | exact zb1 | assumption) ?_
                                exact ⟨rfl, cW_0⟩))
                    · first
                      | (simp (disch := omega) only [← nI_0, nI_leI, nI_ltI, nI_eq, not_true_eq_false, not_false_eq_true] at h49; done)
                      | (simp (disch := omega) only [← nI_0, nI_leI, nI_ltI, nI_eq, not_true_eq_false, not_false_eq_true] at h49; omega)
                      | contradiction
                      | exact absurd h49 (Int32.not_lt.mpr (by assumption))
                      | exact absurd h49 (Int32.not_le.mpr (by assumption))
                      | exact absurd h49 (by decide)
                      | exact absurd (by decide) h49
                      | ( try simp (disch := omega) only [← nI_0, nI_leI, nI_ltI, nI_eq, not_true_eq_false, not_false_eq_true] at h49
                          (try have h49b := zbit_n0.mp h49); (try have h49b := zbit_p0.mp h49)
                          refine z_aload_0 d_Tf_pour_52 ?_
                          refine z_iconst (a := nI 3) d_Tf_pour_53 (by decide) ?_
                          refine z_Vi1 d_Tf_pour_54 k_Tf_119 (by first | assumption | exact zS0_at (by assumption) (by omega) | exact zS0_at rfl (by omega)) (t_Tf_refuse (by assumption)) ⟨Nat.le_of_ble_eq_true rfl, Nat.le_of_ble_eq_true rfl, Nat.le_of_ble_eq_true rfl, Nat.le_of_ble_eq_true rfl⟩ (Nat.le_of_ble_eq_true rfl) ?_
                          intro r w hq
                          obtain ⟨rfl, rfl⟩ := hq
                          refine z_retz d_Tf_pour_57 (by first | exact zb0 | exact zb1 | assumption) ?_
                          exact ⟨rfl, cW_0⟩))))
theorem t_Mo_pour_n (M : modOk P S) (N : modIn I nt np nl nn) (ht : t < 4) (hu : u < 4) (a1 : I 146 t = nI k) (a2 : I 147 t = nI l) (b1 : I 146 u = nI k) (b2 : I 147 u = nI l') (hk : k ≤ 3) (hl : l ≤ 60) (hl' : l' ≤ 60) (hn : bm < 0) : zEi G y_Mo_pour prog_14_method_16_code 9 (some .boolean) 2 [.ref 145, .int (nI t), .int bi, .int (nI u), .int bj, .int bm] (I, J, P, S) (fun r w => r = nI 0 ∧ mW I J P S 6 w) := by
  obtain ⟨M0, ⟨M4, M4s⟩, ⟨M5, M5s⟩, ⟨M6, M6s⟩, ⟨M7, M7s⟩, ⟨M20, M20s⟩, ⟨M21, M21s⟩, ⟨M22, M22s⟩, ⟨M26, M26s⟩, ⟨M27, M27s⟩, ⟨M28, M28s⟩, ⟨M30, M30s⟩, ⟨M34, M34s⟩, ⟨M36, M36s⟩, ⟨M37, M37s⟩⟩ := id M
  obtain ⟨I1, hI1, N1, h1, h0, e150, er, ek⟩ := mo_beg N
  have a1' : I1 146 t = nI k := by rw [er 146 (by decide)]; exact a1
  have a2' : I1 147 t = nI l := by rw [er 147 (by decide)]; exact a2
  have b1' : I1 146 u = nI k := by rw [er 146 (by decide)]; exact b1
  have b2' : I1 147 u = nI l' := by rw [er 147 (by decide)]; exact b2
  refine zEi_of (lv := [some (.ref 145), some (.int (nI t)), some (.int bi), some (.int (nI u)), some (.int bj), some (.int bm), none, none, none]) (by decide) rfl (Nat.le_of_ble_eq_true rfl) ?_
  refine z_aload_0 d_Mo_pour_0 ?_
  refine z_iconst (a := nI 0) d_Mo_pour_1 (by decide) ?_
  refine z_putI d_Mo_pour_2 f_Mo_70 (by first | assumption | exact zS0_at (by assumption) (by omega) | exact zS0_at rfl (by omega)) ?_
  refine z_aload_0 d_Mo_pour_5 ?_
  refine z_iconst (a := nI 0) d_Mo_pour_6 (by decide) ?_
  refine z_putI d_Mo_pour_7 f_Mo_73 (by first | assumption | exact zS0_at (by assumption) (by omega) | exact zS0_at rfl (by omega)) ?_
  rw [← hI1]
  refine z_iload_1 d_Mo_pour_10 ?_
  refine z_if_lt (tgt := 28) d_Mo_pour_11 (by decide) (fun h11 => ?_) (fun h11 => ?_)
  · first
    | (simp (disch := omega) only [← nI_0, nI_leI, nI_ltI, nI_eq, not_true_eq_false, not_false_eq_true] at h11; done)
    | (simp (disch := omega) only [← nI_0, nI_leI, nI_ltI, nI_eq, not_true_eq_false, not_false_eq_true] at h11; omega)
    | contradiction
    | exact absurd h11 (Int32.not_lt.mpr (by assumption))
    | exact absurd h11 (Int32.not_le.mpr (by assumption))
    | exact absurd h11 (by decide)
    | exact absurd (by decide) h11
    | ( try simp (disch := omega) only [← nI_0, nI_leI, nI_ltI, nI_eq, not_true_eq_false, not_false_eq_true] at h11
        (try have h11b := zbit_n0.mp h11); (try have h11b := zbit_p0.mp h11)
        refine z_aload_0 d_Mo_pour_28 ?_
        refine z_iconst (a := nI 1) d_Mo_pour_29 (by decide) ?_
        refine z_Vi1 d_Mo_pour_30 k_Mo_85 (by first | assumption | exact zS0_at (by assumption) (by omega) | exact zS0_at rfl (by omega)) (t_Mo_no (by assumption)) ⟨Nat.le_of_ble_eq_true rfl, Nat.le_of_ble_eq_true rfl, Nat.le_of_ble_eq_true rfl, Nat.le_of_ble_eq_true rfl⟩ (Nat.le_of_ble_eq_true rfl) ?_
        intro r w hq
        obtain ⟨rfl, rfl⟩ := hq
        refine z_retz d_Mo_pour_33 (by first | exact zb0 | exact zb1 | assumption) ?_
        exact ⟨rfl, _, _, rfl, mqF_z h1 (by decide), mqJ_r, zu_same _ _ _ _⟩)
  · first
    | (simp (disch := omega) only [← nI_0, nI_leI, nI_ltI, nI_eq, not_true_eq_false, not_false_eq_true] at h11; done)
    | (simp (disch := omega) only [← nI_0, nI_leI, nI_ltI, nI_eq, not_true_eq_false, not_false_eq_true] at h11; omega)
    | contradiction
    | exact absurd h11 (Int32.not_lt.mpr (by assumption))
    | exact absurd h11 (Int32.not_le.mpr (by assumption))
    | exact absurd h11 (by decide)
    | exact absurd (by decide) h11
    | ( try simp (disch := omega) only [← nI_0, nI_leI, nI_ltI, nI_eq, not_true_eq_false, not_false_eq_true] at h11
        (try have h11b := zbit_n0.mp h11); (try have h11b := zbit_p0.mp h11)
        refine z_iload_1 d_Mo_pour_14 ?_
        refine z_iconst (a := nI 4) d_Mo_pour_15 (by decide) ?_
        refine z_icmp_ge (tgt := 28) d_Mo_pour_16 (by decide) (fun h16 => ?_) (fun h16 => ?_)
        · first
          | (simp (disch := omega) only [← nI_0, nI_leI, nI_ltI, nI_eq, not_true_eq_false, not_false_eq_true] at h16; done)
          | (simp (disch := omega) only [← nI_0, nI_leI, nI_ltI, nI_eq, not_true_eq_false, not_false_eq_true] at h16; omega)
          | contradiction
          | exact absurd h16 (Int32.not_lt.mpr (by assumption))
          | exact absurd h16 (Int32.not_le.mpr (by assumption))
          | exact absurd h16 (by decide)
          | exact absurd (by decide) h16
          | ( try simp (disch := omega) only [← nI_0, nI_leI, nI_ltI, nI_eq, not_true_eq_false, not_false_eq_true] at h16
              (try have h16b := zbit_n0.mp h16); (try have h16b := zbit_p0.mp h16)
              refine z_aload_0 d_Mo_pour_28 ?_
              refine z_iconst (a := nI 1) d_Mo_pour_29 (by decide) ?_
              refine z_Vi1 d_Mo_pour_30 k_Mo_85 (by first | assumption | exact zS0_at (by assumption) (by omega) | exact zS0_at rfl (by omega)) (t_Mo_no (by assumption)) ⟨Nat.le_of_ble_eq_true rfl, Nat.le_of_ble_eq_true rfl, Nat.le_of_ble_eq_true rfl, Nat.le_of_ble_eq_true rfl⟩ (Nat.le_of_ble_eq_true rfl) ?_
              intro r w hq
              obtain ⟨rfl, rfl⟩ := hq
              refine z_retz d_Mo_pour_33 (by first | exact zb0 | exact zb1 | assumption) ?_
              exact ⟨rfl, _, _, rfl, mqF_z h1 (by decide), mqJ_r, zu_same _ _ _ _⟩)
        · first
          | (simp (disch := omega) only [← nI_0, nI_leI, nI_ltI, nI_eq, not_true_eq_false, not_false_eq_true] at h16; done)
          | (simp (disch := omega) only [← nI_0, nI_leI, nI_ltI, nI_eq, not_true_eq_false, not_false_eq_true] at h16; omega)
          | contradiction
          | exact absurd h16 (Int32.not_lt.mpr (by assumption))
          | exact absurd h16 (Int32.not_le.mpr (by assumption))
          | exact absurd h16 (by decide)
          | exact absurd (by decide) h16
          | ( try simp (disch := omega) only [← nI_0, nI_leI, nI_ltI, nI_eq, not_true_eq_false, not_false_eq_true] at h16
              (try have h16b := zbit_n0.mp h16); (try have h16b := zbit_p0.mp h16)
              refine z_iload_3 d_Mo_pour_19 ?_
              refine z_if_lt (tgt := 28) d_Mo_pour_20 (by decide) (fun h20 => ?_) (fun h20 => ?_)
              · first
                | (simp (disch := omega) only [← nI_0, nI_leI, nI_ltI, nI_eq, not_true_eq_false, not_false_eq_true] at h20; done)
                | (simp (disch := omega) only [← nI_0, nI_leI, nI_ltI, nI_eq, not_true_eq_false, not_false_eq_true] at h20; omega)
                | contradiction
                | exact absurd h20 (Int32.not_lt.mpr (by assumption))
                | exact absurd h20 (Int32.not_le.mpr (by assumption))
                | exact absurd h20 (by decide)
                | exact absurd (by decide) h20
                | ( try simp (disch := omega) only [← nI_0, nI_leI, nI_ltI, nI_eq, not_true_eq_false, not_false_eq_true] at h20
                    (try have h20b := zbit_n0.mp h20); (try have h20b := zbit_p0.mp h20)
                    refine z_aload_0 d_Mo_pour_28 ?_
                    refine z_iconst (a := nI 1) d_Mo_pour_29 (by decide) ?_
                    refine z_Vi1 d_Mo_pour_30 k_Mo_85 (by first | assumption | exact zS0_at (by assumption) (by omega) | exact zS0_at rfl (by omega)) (t_Mo_no (by assumption)) ⟨Nat.le_of_ble_eq_true rfl, Nat.le_of_ble_eq_true rfl, Nat.le_of_ble_eq_true rfl, Nat.le_of_ble_eq_true rfl⟩ (Nat.le_of_ble_eq_true rfl) ?_
                    intro r w hq
                    obtain ⟨rfl, rfl⟩ := hq
                    refine z_retz d_Mo_pour_33 (by first | exact zb0 | exact zb1 | assumption) ?_
                    exact ⟨rfl, _, _, rfl, mqF_z h1 (by decide), mqJ_r, zu_same _ _ _ _⟩)
              · first
                | (simp (disch := omega) only [← nI_0, nI_leI, nI_ltI, nI_eq, not_true_eq_false, not_false_eq_true] at h20; done)
                | (simp (disch := omega) only [← nI_0, nI_leI, nI_ltI, nI_eq, not_true_eq_false, not_false_eq_true] at h20; omega)
                | contradiction
                | exact absurd h20 (Int32.not_lt.mpr (by assumption))
                | exact absurd h20 (Int32.not_le.mpr (by assumption))
                | exact absurd h20 (by decide)
                | exact absurd (by decide) h20
                | ( try simp (disch := omega) only [← nI_0, nI_leI, nI_ltI, nI_eq, not_true_eq_false, not_false_eq_true] at h20
                    (try have h20b := zbit_n0.mp h20); (try have h20b := zbit_p0.mp h20)
                    refine z_iload_3 d_Mo_pour_23 ?_
                    refine z_iconst (a := nI 4) d_Mo_pour_24 (by decide) ?_
                    refine z_icmp_lt (tgt := 34) d_Mo_pour_25 (by decide) (fun h25 => ?_) (fun h25 => ?_)
                    · first
                      | (simp (disch := omega) only [← nI_0, nI_leI, nI_ltI, nI_eq, not_true_eq_false, not_false_eq_true] at h25; done)
                      | (simp (disch := omega) only [← nI_0, nI_leI, nI_ltI, nI_eq, not_true_eq_false, not_false_eq_true] at h25; omega)
                      | contradiction
                      | exact absurd h25 (Int32.not_lt.mpr (by assumption))
                      | exact absurd h25 (Int32.not_le.mpr (by assumption))
                      | exact absurd h25 (by decide)
                      | exact absurd (by decide) h25
                      | ( try simp (disch := omega) only [← nI_0, nI_leI, nI_ltI, nI_eq, not_true_eq_false, not_false_eq_true] at h25
                          (try have h25b := zbit_n0.mp h25); (try have h25b := zbit_p0.mp h25)
                          refine z_aload_0 d_Mo_pour_34 ?_
                          refine z_getR d_Mo_pour_35 f_Mo_17 (by first | assumption | exact zS0_at (by assumption) (by omega) | exact zS0_at rfl (by omega)) (by first | assumption | exact zS0_at (by assumption) (by omega) | exact zS0_at rfl (by omega)) ?_
                          refine z_iload_1 d_Mo_pour_38 ?_
                          first | refine z_ialdNv d_Mo_pour_39 (by first | assumption | exact zS0_at (by assumption) (by omega) | exact zS0_at rfl (by omega)) (by omega) (by first | decide | omega) (by first | assumption | ((try simp (disch := omega) only [zu_same, zu_ne, zcp_ne, zfl_ne]); first | assumption | rfl)) ?_ | refine z_iald d_Mo_pour_39 (by first | assumption | exact zS0_at (by assumption) (by omega) | exact zS0_at rfl (by omega)) (by first | assumption | exact zS0_at (by assumption) (by omega) | exact zS0_at rfl (by omega)) ?_
                          refine z_if_lt (tgt := 52) d_Mo_pour_40 (by decide) (fun h40 => ?_) (fun h40 => ?_)
                          · first
                            | (simp (disch := omega) only [← nI_0, nI_leI, nI_ltI, nI_eq, not_true_eq_false, not_false_eq_true] at h40; done)
                            | (simp (disch := omega) only [← nI_0, nI_leI, nI_ltI, nI_eq, not_true_eq_false, not_false_eq_true] at h40; omega)
                            | contradiction
                            | exact absurd h40 (Int32.not_lt.mpr (by assumption))
                            | exact absurd h40 (Int32.not_le.mpr (by assumption))
                            | exact absurd h40 (by decide)
                            | exact absurd (by decide) h40
                            | ( try simp (disch := omega) only [← nI_0, nI_leI, nI_ltI, nI_eq, not_true_eq_false, not_false_eq_true] at h40
                                (try have h40b := zbit_n0.mp h40); (try have h40b := zbit_p0.mp h40)
                                refine z_aload_0 d_Mo_pour_52 ?_
                                refine z_iconst (a := nI 3) d_Mo_pour_53 (by decide) ?_
                                refine z_Vi1 d_Mo_pour_54 k_Mo_85 (by first | assumption | exact zS0_at (by assumption) (by omega) | exact zS0_at rfl (by omega)) (t_Mo_no (by assumption)) ⟨Nat.le_of_ble_eq_true rfl, Nat.le_of_ble_eq_true rfl, Nat.le_of_ble_eq_true rfl, Nat.le_of_ble_eq_true rfl⟩ (Nat.le_of_ble_eq_true rfl) ?_
                                intro r w hq
                                obtain ⟨rfl, rfl⟩ := hq
                                refine z_retz d_Mo_pour_57 (by first | exact zb0 | exact zb1 | assumption) ?_
                                exact ⟨rfl, _, _, rfl, mqF_z h1 (by decide), mqJ_r, zu_same _ _ _ _⟩)
                          · first
                            | (simp (disch := omega) only [← nI_0, nI_leI, nI_ltI, nI_eq, not_true_eq_false, not_false_eq_true] at h40; done)
                            | (simp (disch := omega) only [← nI_0, nI_leI, nI_ltI, nI_eq, not_true_eq_false, not_false_eq_true] at h40; omega)
                            | contradiction
                            | exact absurd h40 (Int32.not_lt.mpr (by assumption))
                            | exact absurd h40 (Int32.not_le.mpr (by assumption))
                            | exact absurd h40 (by decide)
                            | exact absurd (by decide) h40
                            | ( try simp (disch := omega) only [← nI_0, nI_leI, nI_ltI, nI_eq, not_true_eq_false, not_false_eq_true] at h40
                                (try have h40b := zbit_n0.mp h40); (try have h40b := zbit_p0.mp h40)
                                refine z_aload_0 d_Mo_pour_43 ?_
                                refine z_getR d_Mo_pour_44 f_Mo_17 (by first | assumption | exact zS0_at (by assumption) (by omega) | exact zS0_at rfl (by omega)) (by first | assumption | exact zS0_at (by assumption) (by omega) | exact zS0_at rfl (by omega)) ?_
                                refine z_iload_3 d_Mo_pour_47 ?_
                                first | refine z_ialdNv d_Mo_pour_48 (by first | assumption | exact zS0_at (by assumption) (by omega) | exact zS0_at rfl (by omega)) (by omega) (by first | decide | omega) (by first | assumption | ((try simp (disch := omega) only [zu_same, zu_ne, zcp_ne, zfl_ne]); first | assumption | rfl)) ?_ | refine z_iald d_Mo_pour_48 (by first | assumption | exact zS0_at (by assumption) (by omega) | exact zS0_at rfl (by omega)) (by first | assumption | exact zS0_at (by assumption) (by omega) | exact zS0_at rfl (by omega)) ?_
                                refine z_if_ge (tgt := 58) d_Mo_pour_49 (by decide) (fun h49 => ?_) (fun h49 => ?_)
                                · first
                                  | (simp (disch := omega) only [← nI_0, nI_leI, nI_ltI, nI_eq, not_true_eq_false, not_false_eq_true] at h49; done)
                                  | (simp (disch := omega) only [← nI_0, nI_leI, nI_ltI, nI_eq, not_true_eq_false, not_false_eq_true] at h49; omega)
                                  | contradiction
                                  | exact absurd h49 (Int32.not_lt.mpr (by assumption))
                                  | exact absurd h49 (Int32.not_le.mpr (by assumption))
                                  | exact absurd h49 (by decide)
                                  | exact absurd (by decide) h49
                                  | ( try simp (disch := omega) only [← nI_0, nI_leI, nI_ltI, nI_eq, not_true_eq_false, not_false_eq_true] at h49
                                      (try have h49b := zbit_n0.mp h49); (try have h49b := zbit_p0.mp h49)
                                      refine z_aload_0 d_Mo_pour_58 ?_
                                      refine z_getR d_Mo_pour_59 f_Mo_13 (by first | assumption | exact zS0_at (by assumption) (by omega) | exact zS0_at rfl (by omega)) (by first | assumption | exact zS0_at (by assumption) (by omega) | exact zS0_at rfl (by omega)) ?_
                                      refine z_iload_1 d_Mo_pour_62 ?_
                                      first | refine z_ialdNv d_Mo_pour_63 (by first | assumption | exact zS0_at (by assumption) (by omega) | exact zS0_at rfl (by omega)) (by omega) (by first | decide | omega) (by first | assumption | ((try simp (disch := omega) only [zu_same, zu_ne, zcp_ne, zfl_ne]); first | assumption | rfl)) ?_ | refine z_iald d_Mo_pour_63 (by first | assumption | exact zS0_at (by assumption) (by omega) | exact zS0_at rfl (by omega)) (by first | assumption | exact zS0_at (by assumption) (by omega) | exact zS0_at rfl (by omega)) ?_
                                      refine z_aload_0 d_Mo_pour_64 ?_
                                      refine z_getR d_Mo_pour_65 f_Mo_13 (by first | assumption | exact zS0_at (by assumption) (by omega) | exact zS0_at rfl (by omega)) (by first | assumption | exact zS0_at (by assumption) (by omega) | exact zS0_at rfl (by omega)) ?_
                                      refine z_iload_3 d_Mo_pour_68 ?_
                                      first | refine z_ialdNv d_Mo_pour_69 (by first | assumption | exact zS0_at (by assumption) (by omega) | exact zS0_at rfl (by omega)) (by omega) (by first | decide | omega) (by first | assumption | ((try simp (disch := omega) only [zu_same, zu_ne, zcp_ne, zfl_ne]); first | assumption | rfl)) ?_ | refine z_iald d_Mo_pour_69 (by first | assumption | exact zS0_at (by assumption) (by omega) | exact zS0_at rfl (by omega)) (by first | assumption | exact zS0_at (by assumption) (by omega) | exact zS0_at rfl (by omega)) ?_
                                      refine z_icmp_eq (tgt := 80) d_Mo_pour_70 (by decide) (fun h70 => ?_) (fun h70 => ?_)
                                      · first
                                        | (simp (disch := omega) only [← nI_0, nI_leI, nI_ltI, nI_eq, not_true_eq_false, not_false_eq_true] at h70; done)
                                        | (simp (disch := omega) only [← nI_0, nI_leI, nI_ltI, nI_eq, not_true_eq_false, not_false_eq_true] at h70; omega)
                                        | contradiction
                                        | exact absurd h70 (Int32.not_lt.mpr (by assumption))
                                        | exact absurd h70 (Int32.not_le.mpr (by assumption))
                                        | exact absurd h70 (by decide)
                                        | exact absurd (by decide) h70
                                        | ( try simp (disch := omega) only [← nI_0, nI_leI, nI_ltI, nI_eq, not_true_eq_false, not_false_eq_true] at h70
                                            (try have h70b := zbit_n0.mp h70); (try have h70b := zbit_p0.mp h70)
                                            refine z_iload_5 d_Mo_pour_80 ?_
                                            refine z_if_ge (tgt := 92) d_Mo_pour_82 (by decide) (fun h82 => ?_) (fun h82 => ?_)
                                            · first
                                              | (simp (disch := omega) only [← nI_0, nI_leI, nI_ltI, nI_eq, not_true_eq_false, not_false_eq_true] at h82; done)
                                              | (simp (disch := omega) only [← nI_0, nI_leI, nI_ltI, nI_eq, not_true_eq_false, not_false_eq_true] at h82; omega)
                                              | contradiction
                                              | exact absurd h82 (Int32.not_lt.mpr (by assumption))
                                              | exact absurd h82 (Int32.not_le.mpr (by assumption))
                                              | exact absurd h82 (by decide)
                                              | exact absurd (by decide) h82
                                              | ( try simp (disch := omega) only [← nI_0, nI_leI, nI_ltI, nI_eq, not_true_eq_false, not_false_eq_true] at h82
                                                  (try have h82b := zbit_n0.mp h82); (try have h82b := zbit_p0.mp h82)
                                                  fail)
                                            · first
                                              | (simp (disch := omega) only [← nI_0, nI_leI, nI_ltI, nI_eq, not_true_eq_false, not_false_eq_true] at h82; done)
                                              | (simp (disch := omega) only [← nI_0, nI_leI, nI_ltI, nI_eq, not_true_eq_false, not_false_eq_true] at h82; omega)
                                              | contradiction
                                              | exact absurd h82 (Int32.not_lt.mpr (by assumption))
                                              | exact absurd h82 (Int32.not_le.mpr (by assumption))
                                              | exact absurd h82 (by decide)
                                              | exact absurd (by decide) h82
                                              | ( try simp (disch := omega) only [← nI_0, nI_leI, nI_ltI, nI_eq, not_true_eq_false, not_false_eq_true] at h82
                                                  (try have h82b := zbit_n0.mp h82); (try have h82b := zbit_p0.mp h82)
                                                  refine z_aload_0 d_Mo_pour_85 ?_
                                                  refine z_bipush (a := nI 6) d_Mo_pour_86 (by decide) ?_
                                                  refine z_Vi1 d_Mo_pour_88 k_Mo_85 (by first | assumption | exact zS0_at (by assumption) (by omega) | exact zS0_at rfl (by omega)) (t_Mo_no (by assumption)) ⟨Nat.le_of_ble_eq_true rfl, Nat.le_of_ble_eq_true rfl, Nat.le_of_ble_eq_true rfl, Nat.le_of_ble_eq_true rfl⟩ (Nat.le_of_ble_eq_true rfl) ?_
                                                  intro r w hq
                                                  obtain ⟨rfl, rfl⟩ := hq
                                                  refine z_retz d_Mo_pour_91 (by first | exact zb0 | exact zb1 | assumption) ?_
                                                  exact ⟨rfl, _, _, rfl, mqF_z h1 (by decide), mqJ_r, zu_same _ _ _ _⟩))
                                      · first
                                        | (simp (disch := omega) only [← nI_0, nI_leI, nI_ltI, nI_eq, not_true_eq_false, not_false_eq_true] at h70; done)
                                        | (simp (disch := omega) only [← nI_0, nI_leI, nI_ltI, nI_eq, not_true_eq_false, not_false_eq_true] at h70; omega)
                                        | contradiction
                                        | exact absurd h70 (Int32.not_lt.mpr (by assumption))
                                        | exact absurd h70 (Int32.not_le.mpr (by assumption))
                                        | exact absurd h70 (by decide)
                                        | exact absurd (by decide) h70
                                        | ( try simp (disch := omega) only [← nI_0, nI_leI, nI_ltI, nI_eq, not_true_eq_false, not_false_eq_true] at h70
                                            (try have h70b := zbit_n0.mp h70); (try have h70b := zbit_p0.mp h70)
                                            refine z_aload_0 d_Mo_pour_73 ?_
                                            refine z_bipush (a := nI 11) d_Mo_pour_74 (by decide) ?_
                                            refine z_Vi1 d_Mo_pour_76 k_Mo_85 (by first | assumption | exact zS0_at (by assumption) (by omega) | exact zS0_at rfl (by omega)) (t_Mo_no (by assumption)) ⟨Nat.le_of_ble_eq_true rfl, Nat.le_of_ble_eq_true rfl, Nat.le_of_ble_eq_true rfl, Nat.le_of_ble_eq_true rfl⟩ (Nat.le_of_ble_eq_true rfl) ?_
                                            intro r w hq
                                            obtain ⟨rfl, rfl⟩ := hq
                                            refine z_retz d_Mo_pour_79 (by first | exact zb0 | exact zb1 | assumption) ?_
                                            exact ⟨rfl, _, _, rfl, mqF_z h1 (by decide), mqJ_r, zu_same _ _ _ _⟩))
                                · first
                                  | (simp (disch := omega) only [← nI_0, nI_leI, nI_ltI, nI_eq, not_true_eq_false, not_false_eq_true] at h49; done)
                                  | (simp (disch := omega) only [← nI_0, nI_leI, nI_ltI, nI_eq, not_true_eq_false, not_false_eq_true] at h49; omega)
                                  | contradiction
                                  | exact absurd h49 (Int32.not_lt.mpr (by assumption))
                                  | exact absurd h49 (Int32.not_le.mpr (by assumption))
                                  | exact absurd h49 (by decide)
                                  | exact absurd (by decide) h49
                                  | ( try simp (disch := omega) only [← nI_0, nI_leI, nI_ltI, nI_eq, not_true_eq_false, not_false_eq_true] at h49
                                      (try have h49b := zbit_n0.mp h49); (try have h49b := zbit_p0.mp h49)
                                      refine z_aload_0 d_Mo_pour_52 ?_
                                      refine z_iconst (a := nI 3) d_Mo_pour_53 (by decide) ?_
                                      refine z_Vi1 d_Mo_pour_54 k_Mo_85 (by first | assumption | exact zS0_at (by assumption) (by omega) | exact zS0_at rfl (by omega)) (t_Mo_no (by assumption)) ⟨Nat.le_of_ble_eq_true rfl, Nat.le_of_ble_eq_true rfl, Nat.le_of_ble_eq_true rfl, Nat.le_of_ble_eq_true rfl⟩ (Nat.le_of_ble_eq_true rfl) ?_
                                      intro r w hq
                                      obtain ⟨rfl, rfl⟩ := hq
                                      refine z_retz d_Mo_pour_57 (by first | exact zb0 | exact zb1 | assumption) ?_
                                      exact ⟨rfl, _, _, rfl, mqF_z h1 (by decide), mqJ_r, zu_same _ _ _ _⟩)))
                    · first
                      | (simp (disch := omega) only [← nI_0, nI_leI, nI_ltI, nI_eq, not_true_eq_false, not_false_eq_true] at h25; done)
                      | (simp (disch := omega) only [← nI_0, nI_leI, nI_ltI, nI_eq, not_true_eq_false, not_false_eq_true] at h25; omega)
                      | contradiction
                      | exact absurd h25 (Int32.not_lt.mpr (by assumption))
                      | exact absurd h25 (Int32.not_le.mpr (by assumption))
                      | exact absurd h25 (by decide)
                      | exact absurd (by decide) h25
                      | ( try simp (disch := omega) only [← nI_0, nI_leI, nI_ltI, nI_eq, not_true_eq_false, not_false_eq_true] at h25
                          (try have h25b := zbit_n0.mp h25); (try have h25b := zbit_p0.mp h25)
                          refine z_aload_0 d_Mo_pour_28 ?_
                          refine z_iconst (a := nI 1) d_Mo_pour_29 (by decide) ?_
                          refine z_Vi1 d_Mo_pour_30 k_Mo_85 (by first | assumption | exact zS0_at (by assumption) (by omega) | exact zS0_at rfl (by omega)) (t_Mo_no (by assumption)) ⟨Nat.le_of_ble_eq_true rfl, Nat.le_of_ble_eq_true rfl, Nat.le_of_ble_eq_true rfl, Nat.le_of_ble_eq_true rfl⟩ (Nat.le_of_ble_eq_true rfl) ?_
                          intro r w hq
                          obtain ⟨rfl, rfl⟩ := hq
                          refine z_retz d_Mo_pour_33 (by first | exact zb0 | exact zb1 | assumption) ?_
                          exact ⟨rfl, _, _, rfl, mqF_z h1 (by decide), mqJ_r, zu_same _ _ _ _⟩))))
theorem t_Tf_pour_x (Z : clOk f d P S) (ht : t < 4) (hu : u < 4) (a0 : I (3 + 2 * t) 0 = nI 1) (a1 : I (3 + 2 * t) 1 = nI k) (a2 : I (3 + 2 * t) 2 = nI l) (b0 : I (3 + 2 * u) 0 = nI 1) (b1 : I (3 + 2 * u) 1 = nI k) (b2 : I (3 + 2 * u) 2 = nI l') (hk : k ≤ 3) (hl : l ≤ 60) (hl' : l' ≤ 60) (hn : ¬ bm < 0) (h : ¬ (hrun bi bm l ∧ hrun bj bm l')) : zEi G y_Tf_pour prog_1_method_8_code 8 (some .boolean) 2 [.ref 0, .int (nI t), .int bi, .int (nI u), .int bj, .int bm] (I, J, P, S) (fun r w => r = nI 0 ∧ cW I J P S 4 w) := by
  obtain ⟨⟨c0, c3, c1s⟩, ⟨c5, c2s, ctr⟩, ⟨c6, c11s, c11, c13s⟩, ⟨c7, c15s, c15⟩, ⟨c8, c16s, c16a, c16b, c17s⟩, ⟨c9, c10, cfd, F, Fd⟩, ⟨c11b, Ft⟩, ⟨c12, c69s, cmk⟩, ⟨c14, c121s, c121, c122s⟩, ⟨c15b, c123s, c123, c124s⟩, ⟨c16, c125s, c125, c126s⟩, ⟨c17, c127s, c127, c128s, ctb⟩, ⟨c18, c139s, c139, c140s⟩, ⟨c19, c141s, ⟨c141a, c142s⟩, ⟨c141b, c143s⟩, ⟨c141c, c144s⟩⟩, M⟩ := id Z
  have hz : zin (nI t) 4 := ⟨t, ht, rfl⟩
  have hzu : zin (nI u) 4 := ⟨u, hu, rfl⟩
  obtain ⟨c2, T⟩ := ctr t ht
  obtain ⟨T0, T1, T2⟩ := id T
  obtain ⟨c2u, U⟩ := ctr u hu
  obtain ⟨U0, U1, U2⟩ := id U
  refine zEi_of (lv := [some (.ref 0), some (.int (nI t)), some (.int bi), some (.int (nI u)), some (.int bj), some (.int bm), none, none]) (by decide) rfl (Nat.le_of_ble_eq_true rfl) ?_
  have hn' : 0 ≤ bm := Int32.not_lt.mp hn
  have rest : zA G y_Tf_pour prog_1_method_8_code 8 (some .boolean) (zRm 2 0 0) (zM G 0 0 (fun r w' => ∃ x, r = some (.int x) ∧ (fun r w => r = nI 0 ∧ cW I J P S 4 w) x w')) 90 [some (.ref 0), some (.int (nI t)), some (.int bi), some (.int (nI u)), some (.int bj), some (.int bm), some (.ref (3 + 2 * t)), some (.ref (3 + 2 * u))] [] (I, J, P, S) 0 0 := by
    refine z_aload_6 d_Tf_pour_90 ?_
    refine z_iload_2 d_Tf_pour_92 ?_
    refine z_iload_5 d_Tf_pour_93 ?_
    refine z_Vi2 d_Tf_pour_95 k_Tf_153 (by first | assumption | exact zS0_at (by assumption) (by omega) | exact zS0_at rfl (by omega)) (t_Tray_hasRunG T a2 hl) ⟨Nat.le_of_ble_eq_true rfl, Nat.le_of_ble_eq_true rfl, Nat.le_of_ble_eq_true rfl, Nat.le_of_ble_eq_true rfl⟩ (Nat.le_of_ble_eq_true rfl) ?_
    intro r w hq
    rcases hq with ⟨⟨hz1, rfl⟩ | ⟨hz1, rfl⟩, rfl⟩
    · refine z_if_eq (tgt := 113) d_Tf_pour_98 (by decide) (fun h => absurd h (by decide)) (fun _ => ?_)
      refine z_aload_7 d_Tf_pour_101 ?_
      refine z_iload_4 d_Tf_pour_103 ?_
      refine z_iload_5 d_Tf_pour_105 ?_
      refine z_Vi2 d_Tf_pour_107 k_Tf_153 (by first | assumption | exact zS0_at (by assumption) (by omega) | exact zS0_at rfl (by omega)) (t_Tray_hasRunG U b2 hl') ⟨Nat.le_of_ble_eq_true rfl, Nat.le_of_ble_eq_true rfl, Nat.le_of_ble_eq_true rfl, Nat.le_of_ble_eq_true rfl⟩ (Nat.le_of_ble_eq_true rfl) ?_
      intro r w hq
      rcases hq with ⟨⟨hz2, rfl⟩ | ⟨hz2, rfl⟩, rfl⟩
      · exact absurd ⟨hz1, hz2⟩ h
      · refine z_if_ne (tgt := 119) d_Tf_pour_110 (by decide) (fun h => absurd (by decide) h) (fun _ => ?_)
        refine z_aload_0 d_Tf_pour_113 ?_
        refine z_iconst (a := nI 4) d_Tf_pour_114 (by decide) ?_
        refine z_Vi1 d_Tf_pour_115 k_Tf_119 (by first | assumption | exact zS0_at (by assumption) (by omega) | exact zS0_at rfl (by omega)) (t_Tf_refuse (by assumption)) ⟨Nat.le_of_ble_eq_true rfl, Nat.le_of_ble_eq_true rfl, Nat.le_of_ble_eq_true rfl, Nat.le_of_ble_eq_true rfl⟩ (Nat.le_of_ble_eq_true rfl) ?_
        intro r w hq
        obtain ⟨rfl, rfl⟩ := hq
        refine z_retz d_Tf_pour_118 (by first | exact zb0 | exact zb1 | assumption) ?_
        exact ⟨rfl, cW_0⟩
    · refine z_if_eq (tgt := 113) d_Tf_pour_98 (by decide) (fun _ => ?_) (fun h => absurd (by decide) h)
      refine z_aload_0 d_Tf_pour_113 ?_
      refine z_iconst (a := nI 4) d_Tf_pour_114 (by decide) ?_
      refine z_Vi1 d_Tf_pour_115 k_Tf_119 (by first | assumption | exact zS0_at (by assumption) (by omega) | exact zS0_at rfl (by omega)) (t_Tf_refuse (by assumption)) ⟨Nat.le_of_ble_eq_true rfl, Nat.le_of_ble_eq_true rfl, Nat.le_of_ble_eq_true rfl, Nat.le_of_ble_eq_true rfl⟩ (Nat.le_of_ble_eq_true rfl) ?_
      intro r w hq
      obtain ⟨rfl, rfl⟩ := hq
      refine z_retz d_Tf_pour_118 (by first | exact zb0 | exact zb1 | assumption) ?_
      exact ⟨rfl, cW_0⟩
  refine z_iload_1 d_Tf_pour_0 ?_
  refine z_Si1 d_Tf_pour_1 k_Tf_115 (t_Tf_noTray) ⟨Nat.le_of_ble_eq_true rfl, Nat.le_of_ble_eq_true rfl, Nat.le_of_ble_eq_true rfl, Nat.le_of_ble_eq_true rfl⟩ (Nat.le_of_ble_eq_true rfl) ?_
  intro r w hq
  rcases hq with ⟨⟨hz1, rfl⟩ | ⟨hz1, rfl⟩, rfl⟩
  · first
    | contradiction
    | ( skip
        refine z_if_ne (tgt := 14) d_Tf_pour_4 (by decide) (fun _ => ?_) (fun h => absurd h (by decide))
        refine z_aload_0 d_Tf_pour_14 ?_
        refine z_iconst (a := nI 1) d_Tf_pour_15 (by decide) ?_
        refine z_Vi1 d_Tf_pour_16 k_Tf_119 (by first | assumption | exact zS0_at (by assumption) (by omega) | exact zS0_at rfl (by omega)) (t_Tf_refuse (by assumption)) ⟨Nat.le_of_ble_eq_true rfl, Nat.le_of_ble_eq_true rfl, Nat.le_of_ble_eq_true rfl, Nat.le_of_ble_eq_true rfl⟩ (Nat.le_of_ble_eq_true rfl) ?_
        intro r w hq
        obtain ⟨rfl, rfl⟩ := hq
        refine z_retz d_Tf_pour_19 (by first | exact zb0 | exact zb1 | assumption) ?_
        exact ⟨rfl, cW_0⟩)
  · first
    | contradiction
    | ( skip
        refine z_if_ne (tgt := 14) d_Tf_pour_4 (by decide) (fun h => absurd h (by decide)) (fun _ => ?_)
        refine z_iload_3 d_Tf_pour_7 ?_
        refine z_Si1 d_Tf_pour_8 k_Tf_115 (t_Tf_noTray) ⟨Nat.le_of_ble_eq_true rfl, Nat.le_of_ble_eq_true rfl, Nat.le_of_ble_eq_true rfl, Nat.le_of_ble_eq_true rfl⟩ (Nat.le_of_ble_eq_true rfl) ?_
        intro r w hq
        rcases hq with ⟨⟨hz8, rfl⟩ | ⟨hz8, rfl⟩, rfl⟩
        · first
          | contradiction
          | ( skip
              refine z_if_eq (tgt := 20) d_Tf_pour_11 (by decide) (fun h => absurd h (by decide)) (fun _ => ?_)
              refine z_aload_0 d_Tf_pour_14 ?_
              refine z_iconst (a := nI 1) d_Tf_pour_15 (by decide) ?_
              refine z_Vi1 d_Tf_pour_16 k_Tf_119 (by first | assumption | exact zS0_at (by assumption) (by omega) | exact zS0_at rfl (by omega)) (t_Tf_refuse (by assumption)) ⟨Nat.le_of_ble_eq_true rfl, Nat.le_of_ble_eq_true rfl, Nat.le_of_ble_eq_true rfl, Nat.le_of_ble_eq_true rfl⟩ (Nat.le_of_ble_eq_true rfl) ?_
              intro r w hq
              obtain ⟨rfl, rfl⟩ := hq
              refine z_retz d_Tf_pour_19 (by first | exact zb0 | exact zb1 | assumption) ?_
              exact ⟨rfl, cW_0⟩)
        · first
          | contradiction
          | ( skip
              refine z_if_eq (tgt := 20) d_Tf_pour_11 (by decide) (fun _ => ?_) (fun h => absurd h (by decide))
              refine z_aload_0 d_Tf_pour_20 ?_
              refine z_getR d_Tf_pour_21 f_Tf_29 (by first | assumption | exact zS0_at (by assumption) (by omega) | exact zS0_at rfl (by omega)) (by first | assumption | exact zS0_at (by assumption) (by omega) | exact zS0_at rfl (by omega)) ?_
              refine z_iload_1 d_Tf_pour_24 ?_
              first | refine z_ald4N d_Tf_pour_25 (by first | assumption | exact zS0_at (by assumption) (by omega) | exact zS0_at rfl (by omega)) (by omega) (by first | decide | omega) (by first | assumption | exact zS0_at (by assumption) (by omega) | exact zS0_at rfl (by omega)) ?_ | refine z_ald5N d_Tf_pour_25 (by first | assumption | exact zS0_at (by assumption) (by omega) | exact zS0_at rfl (by omega)) (by omega) (by first | decide | omega) (by first | assumption | exact zS0_at (by assumption) (by omega) | exact zS0_at rfl (by omega)) ?_ | refine z_ald6N d_Tf_pour_25 (by first | assumption | exact zS0_at (by assumption) (by omega) | exact zS0_at rfl (by omega)) (by omega) (by first | decide | omega) (by first | assumption | exact zS0_at (by assumption) (by omega) | exact zS0_at rfl (by omega)) ?_
              first | refine z_astore_6 d_Tf_pour_26 rfl ?_ | (refine z_forget_5 ?_; refine z_astore_6 d_Tf_pour_26 rfl ?_)
              refine z_aload_0 d_Tf_pour_28 ?_
              refine z_getR d_Tf_pour_29 f_Tf_29 (by first | assumption | exact zS0_at (by assumption) (by omega) | exact zS0_at rfl (by omega)) (by first | assumption | exact zS0_at (by assumption) (by omega) | exact zS0_at rfl (by omega)) ?_
              refine z_iload_3 d_Tf_pour_32 ?_
              first | refine z_ald4N d_Tf_pour_33 (by first | assumption | exact zS0_at (by assumption) (by omega) | exact zS0_at rfl (by omega)) (by omega) (by first | decide | omega) (by first | assumption | exact zS0_at (by assumption) (by omega) | exact zS0_at rfl (by omega)) ?_ | refine z_ald5N d_Tf_pour_33 (by first | assumption | exact zS0_at (by assumption) (by omega) | exact zS0_at rfl (by omega)) (by omega) (by first | decide | omega) (by first | assumption | exact zS0_at (by assumption) (by omega) | exact zS0_at rfl (by omega)) ?_ | refine z_ald6N d_Tf_pour_33 (by first | assumption | exact zS0_at (by assumption) (by omega) | exact zS0_at rfl (by omega)) (by omega) (by first | decide | omega) (by first | assumption | exact zS0_at (by assumption) (by omega) | exact zS0_at rfl (by omega)) ?_
              first | refine z_astore_7 d_Tf_pour_34 rfl ?_ | (refine z_forget_6 ?_; refine z_astore_7 d_Tf_pour_34 rfl ?_)
              refine z_aload_6 d_Tf_pour_36 ?_
              refine z_getIv d_Tf_pour_38 f_Tf_146 (by first | assumption | exact zS0_at (by assumption) (by omega) | exact zS0_at rfl (by omega)) (by first | assumption | ((try simp (disch := omega) only [zu_same, zu_ne, zcp_ne, zfl_ne]); first | assumption | rfl)) ?_
              refine z_if_eq (tgt := 52) d_Tf_pour_41 (by decide) (fun h41 => ?_) (fun h41 => ?_)
              · first
                | (simp (disch := omega) only [← nI_0, nI_leI, nI_ltI, nI_eq, not_true_eq_false, not_false_eq_true] at h41; done)
                | (simp (disch := omega) only [← nI_0, nI_leI, nI_ltI, nI_eq, not_true_eq_false, not_false_eq_true] at h41; omega)
                | contradiction
                | exact absurd h41 (Int32.not_lt.mpr (by assumption))
                | exact absurd h41 (Int32.not_le.mpr (by assumption))
                | exact absurd h41 (by decide)
                | exact absurd (by decide) h41
                | ( try simp (disch := omega) only [← nI_0, nI_leI, nI_ltI, nI_eq, not_true_eq_false, not_false_eq_true] at h41
                    (try have h41b := zbit_n0.mp h41); (try have h41b := zbit_p0.mp h41)
                    refine z_aload_0 d_Tf_pour_52 ?_
                    refine z_iconst (a := nI 3) d_Tf_pour_53 (by decide) ?_
                    refine z_Vi1 d_Tf_pour_54 k_Tf_119 (by first | assumption | exact zS0_at (by assumption) (by omega) | exact zS0_at rfl (by omega)) (t_Tf_refuse (by assumption)) ⟨Nat.le_of_ble_eq_true rfl, Nat.le_of_ble_eq_true rfl, Nat.le_of_ble_eq_true rfl, Nat.le_of_ble_eq_true rfl⟩ (Nat.le_of_ble_eq_true rfl) ?_
                    intro r w hq
                    obtain ⟨rfl, rfl⟩ := hq
                    refine z_retz d_Tf_pour_57 (by first | exact zb0 | exact zb1 | assumption) ?_
                    exact ⟨rfl, cW_0⟩)
              · first
                | (simp (disch := omega) only [← nI_0, nI_leI, nI_ltI, nI_eq, not_true_eq_false, not_false_eq_true] at h41; done)
                | (simp (disch := omega) only [← nI_0, nI_leI, nI_ltI, nI_eq, not_true_eq_false, not_false_eq_true] at h41; omega)
                | contradiction
                | exact absurd h41 (Int32.not_lt.mpr (by assumption))
                | exact absurd h41 (Int32.not_le.mpr (by assumption))
                | exact absurd h41 (by decide)
                | exact absurd (by decide) h41
                | ( try simp (disch := omega) only [← nI_0, nI_leI, nI_ltI, nI_eq, not_true_eq_false, not_false_eq_true] at h41
                    (try have h41b := zbit_n0.mp h41); (try have h41b := zbit_p0.mp h41)
                    refine z_aload_7 d_Tf_pour_44 ?_
                    refine z_getIv d_Tf_pour_46 f_Tf_146 (by first | assumption | exact zS0_at (by assumption) (by omega) | exact zS0_at rfl (by omega)) (by first | assumption | ((try simp (disch := omega) only [zu_same, zu_ne, zcp_ne, zfl_ne]); first | assumption | rfl)) ?_
                    refine z_if_ne (tgt := 58) d_Tf_pour_49 (by decide) (fun h49 => ?_) (fun h49 => ?_)
                    · first
                      | (simp (disch := omega) only [← nI_0, nI_leI, nI_ltI, nI_eq, not_true_eq_false, not_false_eq_true] at h49; done)
                      | (simp (disch := omega) only [← nI_0, nI_leI, nI_ltI, nI_eq, not_true_eq_false, not_false_eq_true] at h49; omega)
                      | contradiction
                      | exact absurd h49 (Int32.not_lt.mpr (by assumption))
                      | exact absurd h49 (Int32.not_le.mpr (by assumption))
                      | exact absurd h49 (by decide)
                      | exact absurd (by decide) h49
                      | ( try simp (disch := omega) only [← nI_0, nI_leI, nI_ltI, nI_eq, not_true_eq_false, not_false_eq_true] at h49
                          (try have h49b := zbit_n0.mp h49); (try have h49b := zbit_p0.mp h49)
                          refine z_aload_6 d_Tf_pour_58 ?_
                          refine z_getIv d_Tf_pour_60 f_Tf_150 (by first | assumption | exact zS0_at (by assumption) (by omega) | exact zS0_at rfl (by omega)) (by first | assumption | ((try simp (disch := omega) only [zu_same, zu_ne, zcp_ne, zfl_ne]); first | assumption | rfl)) ?_
                          refine z_aload_7 d_Tf_pour_63 ?_
                          refine z_getIv d_Tf_pour_65 f_Tf_150 (by first | assumption | exact zS0_at (by assumption) (by omega) | exact zS0_at rfl (by omega)) (by first | assumption | ((try simp (disch := omega) only [zu_same, zu_ne, zcp_ne, zfl_ne]); first | assumption | rfl)) ?_
                          refine z_icmp_eq (tgt := 78) d_Tf_pour_68 (by decide) (fun h68 => ?_) (fun h68 => ?_)
                          · first
                            | (simp (disch := omega) only [← nI_0, nI_leI, nI_ltI, nI_eq, not_true_eq_false, not_false_eq_true] at h68; done)
                            | (simp (disch := omega) only [← nI_0, nI_leI, nI_ltI, nI_eq, not_true_eq_false, not_false_eq_true] at h68; omega)
                            | contradiction
                            | exact absurd h68 (Int32.not_lt.mpr (by assumption))
                            | exact absurd h68 (Int32.not_le.mpr (by assumption))
                            | exact absurd h68 (by decide)
                            | exact absurd (by decide) h68
                            | ( try simp (disch := omega) only [← nI_0, nI_leI, nI_ltI, nI_eq, not_true_eq_false, not_false_eq_true] at h68
                                (try have h68b := zbit_n0.mp h68); (try have h68b := zbit_p0.mp h68)
                                refine z_iload_5 d_Tf_pour_78 ?_
                                refine z_if_ge (tgt := 90) d_Tf_pour_80 (by decide) (fun h80 => ?_) (fun h80 => ?_)
                                · first
                                  | (simp (disch := omega) only [← nI_0, nI_leI, nI_ltI, nI_eq, not_true_eq_false, not_false_eq_true] at h80; done)
                                  | (simp (disch := omega) only [← nI_0, nI_leI, nI_ltI, nI_eq, not_true_eq_false, not_false_eq_true] at h80; omega)
                                  | contradiction
                                  | exact absurd h80 (Int32.not_lt.mpr (by assumption))
                                  | exact absurd h80 (Int32.not_le.mpr (by assumption))
                                  | exact absurd h80 (by decide)
                                  | exact absurd (by decide) h80
                                  | ( try simp (disch := omega) only [← nI_0, nI_leI, nI_ltI, nI_eq, not_true_eq_false, not_false_eq_true] at h80
                                      (try have h80b := zbit_n0.mp h80); (try have h80b := zbit_p0.mp h80)
                                      exact rest)
                                · first
                                  | (simp (disch := omega) only [← nI_0, nI_leI, nI_ltI, nI_eq, not_true_eq_false, not_false_eq_true] at h80; done)
                                  | (simp (disch := omega) only [← nI_0, nI_leI, nI_ltI, nI_eq, not_true_eq_false, not_false_eq_true] at h80; omega)
                                  | contradiction
                                  | exact absurd h80 (Int32.not_lt.mpr (by assumption))
                                  | exact absurd h80 (Int32.not_le.mpr (by assumption))
                                  | exact absurd h80 (by decide)
                                  | exact absurd (by decide) h80
                                  | ( try simp (disch := omega) only [← nI_0, nI_leI, nI_ltI, nI_eq, not_true_eq_false, not_false_eq_true] at h80
                                      (try have h80b := zbit_n0.mp h80); (try have h80b := zbit_p0.mp h80)
                                      refine z_aload_0 d_Tf_pour_83 ?_
                                      refine z_bipush (a := nI 6) d_Tf_pour_84 (by decide) ?_
                                      refine z_Vi1 d_Tf_pour_86 k_Tf_119 (by first | assumption | exact zS0_at (by assumption) (by omega) | exact zS0_at rfl (by omega)) (t_Tf_refuse (by assumption)) ⟨Nat.le_of_ble_eq_true rfl, Nat.le_of_ble_eq_true rfl, Nat.le_of_ble_eq_true rfl, Nat.le_of_ble_eq_true rfl⟩ (Nat.le_of_ble_eq_true rfl) ?_
                                      intro r w hq
                                      obtain ⟨rfl, rfl⟩ := hq
                                      refine z_retz d_Tf_pour_89 (by first | exact zb0 | exact zb1 | assumption) ?_
                                      exact ⟨rfl, cW_0⟩))
                          · first
                            | (simp (disch := omega) only [← nI_0, nI_leI, nI_ltI, nI_eq, not_true_eq_false, not_false_eq_true] at h68; done)
                            | (simp (disch := omega) only [← nI_0, nI_leI, nI_ltI, nI_eq, not_true_eq_false, not_false_eq_true] at h68; omega)
                            | contradiction
                            | exact absurd h68 (Int32.not_lt.mpr (by assumption))
                            | exact absurd h68 (Int32.not_le.mpr (by assumption))
                            | exact absurd h68 (by decide)
                            | exact absurd (by decide) h68
                            | ( try simp (disch := omega) only [← nI_0, nI_leI, nI_ltI, nI_eq, not_true_eq_false, not_false_eq_true] at h68
                                (try have h68b := zbit_n0.mp h68); (try have h68b := zbit_p0.mp h68)
                                refine z_aload_0 d_Tf_pour_71 ?_
                                refine z_bipush (a := nI 11) d_Tf_pour_72 (by decide) ?_
                                refine z_Vi1 d_Tf_pour_74 k_Tf_119 (by first | assumption | exact zS0_at (by assumption) (by omega) | exact zS0_at rfl (by omega)) (t_Tf_refuse (by assumption)) ⟨Nat.le_of_ble_eq_true rfl, Nat.le_of_ble_eq_true rfl, Nat.le_of_ble_eq_true rfl, Nat.le_of_ble_eq_true rfl⟩ (Nat.le_of_ble_eq_true rfl) ?_
                                intro r w hq
                                obtain ⟨rfl, rfl⟩ := hq
                                refine z_retz d_Tf_pour_77 (by first | exact zb0 | exact zb1 | assumption) ?_
                                exact ⟨rfl, cW_0⟩))
                    · first
                      | (simp (disch := omega) only [← nI_0, nI_leI, nI_ltI, nI_eq, not_true_eq_false, not_false_eq_true] at h49; done)
                      | (simp (disch := omega) only [← nI_0, nI_leI, nI_ltI, nI_eq, not_true_eq_false, not_false_eq_true] at h49; omega)
                      | contradiction
                      | exact absurd h49 (Int32.not_lt.mpr (by assumption))
                      | exact absurd h49 (Int32.not_le.mpr (by assumption))
                      | exact absurd h49 (by decide)
                      | exact absurd (by decide) h49
                      | ( try simp (disch := omega) only [← nI_0, nI_leI, nI_ltI, nI_eq, not_true_eq_false, not_false_eq_true] at h49
                          (try have h49b := zbit_n0.mp h49); (try have h49b := zbit_p0.mp h49)
                          refine z_aload_0 d_Tf_pour_52 ?_
                          refine z_iconst (a := nI 3) d_Tf_pour_53 (by decide) ?_
                          refine z_Vi1 d_Tf_pour_54 k_Tf_119 (by first | assumption | exact zS0_at (by assumption) (by omega) | exact zS0_at rfl (by omega)) (t_Tf_refuse (by assumption)) ⟨Nat.le_of_ble_eq_true rfl, Nat.le_of_ble_eq_true rfl, Nat.le_of_ble_eq_true rfl, Nat.le_of_ble_eq_true rfl⟩ (Nat.le_of_ble_eq_true rfl) ?_
                          intro r w hq
                          obtain ⟨rfl, rfl⟩ := hq
                          refine z_retz d_Tf_pour_57 (by first | exact zb0 | exact zb1 | assumption) ?_
                          exact ⟨rfl, cW_0⟩))))
theorem t_Mo_pour_x (M : modOk P S) (N : modIn I nt np nl nn) (ht : t < 4) (hu : u < 4) (a1 : I 146 t = nI k) (a2 : I 147 t = nI l) (b1 : I 146 u = nI k) (b2 : I 147 u = nI l') (hk : k ≤ 3) (hl : l ≤ 60) (hl' : l' ≤ 60) (hn : ¬ bm < 0) (h : ¬ (hrun bi bm l ∧ hrun bj bm l')) : zEi G y_Mo_pour prog_14_method_16_code 9 (some .boolean) 2 [.ref 145, .int (nI t), .int bi, .int (nI u), .int bj, .int bm] (I, J, P, S) (fun r w => r = nI 0 ∧ mW I J P S 4 w) := by
  obtain ⟨M0, ⟨M4, M4s⟩, ⟨M5, M5s⟩, ⟨M6, M6s⟩, ⟨M7, M7s⟩, ⟨M20, M20s⟩, ⟨M21, M21s⟩, ⟨M22, M22s⟩, ⟨M26, M26s⟩, ⟨M27, M27s⟩, ⟨M28, M28s⟩, ⟨M30, M30s⟩, ⟨M34, M34s⟩, ⟨M36, M36s⟩, ⟨M37, M37s⟩⟩ := id M
  have hn' : 0 ≤ bm := Int32.not_lt.mp hn
  obtain ⟨I1, hI1, N1, h1, h0, e150, er, ek⟩ := mo_beg N
  have a1' : I1 146 t = nI k := by rw [er 146 (by decide)]; exact a1
  have a2' : I1 147 t = nI l := by rw [er 147 (by decide)]; exact a2
  have b1' : I1 146 u = nI k := by rw [er 146 (by decide)]; exact b1
  have b2' : I1 147 u = nI l' := by rw [er 147 (by decide)]; exact b2
  refine zEi_of (lv := [some (.ref 145), some (.int (nI t)), some (.int bi), some (.int (nI u)), some (.int bj), some (.int bm), none, none, none]) (by decide) rfl (Nat.le_of_ble_eq_true rfl) ?_
  refine z_aload_0 d_Mo_pour_0 ?_
  refine z_iconst (a := nI 0) d_Mo_pour_1 (by decide) ?_
  refine z_putI d_Mo_pour_2 f_Mo_70 (by first | assumption | exact zS0_at (by assumption) (by omega) | exact zS0_at rfl (by omega)) ?_
  refine z_aload_0 d_Mo_pour_5 ?_
  refine z_iconst (a := nI 0) d_Mo_pour_6 (by decide) ?_
  refine z_putI d_Mo_pour_7 f_Mo_73 (by first | assumption | exact zS0_at (by assumption) (by omega) | exact zS0_at rfl (by omega)) ?_
  rw [← hI1]
  refine z_iload_1 d_Mo_pour_10 ?_
  refine z_if_lt (tgt := 28) d_Mo_pour_11 (by decide) (fun h => absurd h (nI_pos (by omega))) (fun _ => ?_)
  refine z_iload_1 d_Mo_pour_14 ?_
  refine z_iconst (a := nI 4) d_Mo_pour_15 (by decide) ?_
  refine z_icmp_ge (tgt := 28) d_Mo_pour_16 (by decide) (fun h => absurd h (nI_ge (by omega) (by decide))) (fun _ => ?_)
  refine z_iload_3 d_Mo_pour_19 ?_
  refine z_if_lt (tgt := 28) d_Mo_pour_20 (by decide) (fun h => absurd h (nI_pos (by omega))) (fun _ => ?_)
  refine z_iload_3 d_Mo_pour_23 ?_
  refine z_iconst (a := nI 4) d_Mo_pour_24 (by decide) ?_
  refine z_icmp_lt (tgt := 34) d_Mo_pour_25 (by decide) (fun _ => ?_) (fun h => absurd (nI_lt (by omega) (by decide)) h)
  refine z_aload_0 d_Mo_pour_34 ?_
  refine z_getR d_Mo_pour_35 f_Mo_17 (by first | assumption | exact zS0_at (by assumption) (by omega) | exact zS0_at rfl (by omega)) (by first | assumption | exact zS0_at (by assumption) (by omega) | exact zS0_at rfl (by omega)) ?_
  refine z_iload_1 d_Mo_pour_38 ?_
  first | refine z_ialdNv d_Mo_pour_39 (by first | assumption | exact zS0_at (by assumption) (by omega) | exact zS0_at rfl (by omega)) (by omega) (by first | decide | omega) (by first | assumption | ((try simp (disch := omega) only [zu_same, zu_ne, zcp_ne, zfl_ne]); first | assumption | rfl)) ?_ | refine z_iald d_Mo_pour_39 (by first | assumption | exact zS0_at (by assumption) (by omega) | exact zS0_at rfl (by omega)) (by first | assumption | exact zS0_at (by assumption) (by omega) | exact zS0_at rfl (by omega)) ?_
  refine z_if_lt (tgt := 52) d_Mo_pour_40 (by decide) (fun h => absurd h (nI_pos (by omega))) (fun _ => ?_)
  refine z_aload_0 d_Mo_pour_43 ?_
  refine z_getR d_Mo_pour_44 f_Mo_17 (by first | assumption | exact zS0_at (by assumption) (by omega) | exact zS0_at rfl (by omega)) (by first | assumption | exact zS0_at (by assumption) (by omega) | exact zS0_at rfl (by omega)) ?_
  refine z_iload_3 d_Mo_pour_47 ?_
  first | refine z_ialdNv d_Mo_pour_48 (by first | assumption | exact zS0_at (by assumption) (by omega) | exact zS0_at rfl (by omega)) (by omega) (by first | decide | omega) (by first | assumption | ((try simp (disch := omega) only [zu_same, zu_ne, zcp_ne, zfl_ne]); first | assumption | rfl)) ?_ | refine z_iald d_Mo_pour_48 (by first | assumption | exact zS0_at (by assumption) (by omega) | exact zS0_at rfl (by omega)) (by first | assumption | exact zS0_at (by assumption) (by omega) | exact zS0_at rfl (by omega)) ?_
  refine z_if_ge (tgt := 58) d_Mo_pour_49 (by decide) (fun _ => ?_) (fun h => absurd (nI_pos' (by omega)) h)
  refine z_aload_0 d_Mo_pour_58 ?_
  refine z_getR d_Mo_pour_59 f_Mo_13 (by first | assumption | exact zS0_at (by assumption) (by omega) | exact zS0_at rfl (by omega)) (by first | assumption | exact zS0_at (by assumption) (by omega) | exact zS0_at rfl (by omega)) ?_
  refine z_iload_1 d_Mo_pour_62 ?_
  first | refine z_ialdNv d_Mo_pour_63 (by first | assumption | exact zS0_at (by assumption) (by omega) | exact zS0_at rfl (by omega)) (by omega) (by first | decide | omega) (by first | assumption | ((try simp (disch := omega) only [zu_same, zu_ne, zcp_ne, zfl_ne]); first | assumption | rfl)) ?_ | refine z_iald d_Mo_pour_63 (by first | assumption | exact zS0_at (by assumption) (by omega) | exact zS0_at rfl (by omega)) (by first | assumption | exact zS0_at (by assumption) (by omega) | exact zS0_at rfl (by omega)) ?_
  refine z_aload_0 d_Mo_pour_64 ?_
  refine z_getR d_Mo_pour_65 f_Mo_13 (by first | assumption | exact zS0_at (by assumption) (by omega) | exact zS0_at rfl (by omega)) (by first | assumption | exact zS0_at (by assumption) (by omega) | exact zS0_at rfl (by omega)) ?_
  refine z_iload_3 d_Mo_pour_68 ?_
  first | refine z_ialdNv d_Mo_pour_69 (by first | assumption | exact zS0_at (by assumption) (by omega) | exact zS0_at rfl (by omega)) (by omega) (by first | decide | omega) (by first | assumption | ((try simp (disch := omega) only [zu_same, zu_ne, zcp_ne, zfl_ne]); first | assumption | rfl)) ?_ | refine z_iald d_Mo_pour_69 (by first | assumption | exact zS0_at (by assumption) (by omega) | exact zS0_at rfl (by omega)) (by first | assumption | exact zS0_at (by assumption) (by omega) | exact zS0_at rfl (by omega)) ?_
  refine z_icmp_eq (tgt := 80) d_Mo_pour_70 (by decide) (fun _ => ?_) (fun h => absurd rfl h)
  refine z_iload_5 d_Mo_pour_80 ?_
  refine z_if_ge (tgt := 92) d_Mo_pour_82 (by decide) (fun _ => ?_) (fun h => absurd hn' h)
  refine z_iload_2 d_Mo_pour_92 ?_
  refine z_if_lt (tgt := 136) d_Mo_pour_93 (by decide) (fun g1 => ?_) (fun g1 => ?_)
  · refine z_aload_0 d_Mo_pour_136 ?_
    refine z_iconst (a := nI 4) d_Mo_pour_137 (by decide) ?_
    refine z_Vi1 d_Mo_pour_138 k_Mo_85 (by first | assumption | exact zS0_at (by assumption) (by omega) | exact zS0_at rfl (by omega)) (t_Mo_no (by assumption)) ⟨Nat.le_of_ble_eq_true rfl, Nat.le_of_ble_eq_true rfl, Nat.le_of_ble_eq_true rfl, Nat.le_of_ble_eq_true rfl⟩ (Nat.le_of_ble_eq_true rfl) ?_
    intro r w hq
    obtain ⟨rfl, rfl⟩ := hq
    refine z_retz d_Mo_pour_141 (by first | exact zb0 | exact zb1 | assumption) ?_
    exact ⟨rfl, _, _, rfl, mqF_z h1 (by decide), mqJ_r, zu_same _ _ _ _⟩
  refine z_iload_4 d_Mo_pour_96 ?_
  refine z_if_lt (tgt := 136) d_Mo_pour_98 (by decide) (fun g2 => ?_) (fun g2 => ?_)
  · refine z_aload_0 d_Mo_pour_136 ?_
    refine z_iconst (a := nI 4) d_Mo_pour_137 (by decide) ?_
    refine z_Vi1 d_Mo_pour_138 k_Mo_85 (by first | assumption | exact zS0_at (by assumption) (by omega) | exact zS0_at rfl (by omega)) (t_Mo_no (by assumption)) ⟨Nat.le_of_ble_eq_true rfl, Nat.le_of_ble_eq_true rfl, Nat.le_of_ble_eq_true rfl, Nat.le_of_ble_eq_true rfl⟩ (Nat.le_of_ble_eq_true rfl) ?_
    intro r w hq
    obtain ⟨rfl, rfl⟩ := hq
    refine z_retz d_Mo_pour_141 (by first | exact zb0 | exact zb1 | assumption) ?_
    exact ⟨rfl, _, _, rfl, mqF_z h1 (by decide), mqJ_r, zu_same _ _ _ _⟩
  refine z_iload_2 d_Mo_pour_101 ?_
  refine z_i2l d_Mo_pour_102 ?_
  refine z_iload_5 d_Mo_pour_103 ?_
  refine z_i2l d_Mo_pour_105 ?_
  refine z_ladd d_Mo_pour_106 ?_
  refine z_aload_0 d_Mo_pour_107 ?_
  refine z_getR d_Mo_pour_108 f_Mo_17 (by first | assumption | exact zS0_at (by assumption) (by omega) | exact zS0_at rfl (by omega)) (by first | assumption | exact zS0_at (by assumption) (by omega) | exact zS0_at rfl (by omega)) ?_
  refine z_iload_1 d_Mo_pour_111 ?_
  first | refine z_ialdNv d_Mo_pour_112 (by first | assumption | exact zS0_at (by assumption) (by omega) | exact zS0_at rfl (by omega)) (by omega) (by first | decide | omega) (by first | assumption | ((try simp (disch := omega) only [zu_same, zu_ne, zcp_ne, zfl_ne]); first | assumption | rfl)) ?_ | refine z_iald d_Mo_pour_112 (by first | assumption | exact zS0_at (by assumption) (by omega) | exact zS0_at rfl (by omega)) (by first | assumption | exact zS0_at (by assumption) (by omega) | exact zS0_at rfl (by omega)) ?_
  refine z_i2l d_Mo_pour_113 ?_
  refine z_lcmp d_Mo_pour_114 ?_
  refine z_if_gt (tgt := 136) d_Mo_pour_115 (by decide) (fun g3 => ?_) (fun g3 => ?_)
  · refine z_aload_0 d_Mo_pour_136 ?_
    refine z_iconst (a := nI 4) d_Mo_pour_137 (by decide) ?_
    refine z_Vi1 d_Mo_pour_138 k_Mo_85 (by first | assumption | exact zS0_at (by assumption) (by omega) | exact zS0_at rfl (by omega)) (t_Mo_no (by assumption)) ⟨Nat.le_of_ble_eq_true rfl, Nat.le_of_ble_eq_true rfl, Nat.le_of_ble_eq_true rfl, Nat.le_of_ble_eq_true rfl⟩ (Nat.le_of_ble_eq_true rfl) ?_
    intro r w hq
    obtain ⟨rfl, rfl⟩ := hq
    refine z_retz d_Mo_pour_141 (by first | exact zb0 | exact zb1 | assumption) ?_
    exact ⟨rfl, _, _, rfl, mqF_z h1 (by decide), mqJ_r, zu_same _ _ _ _⟩
  refine z_iload_4 d_Mo_pour_118 ?_
  refine z_i2l d_Mo_pour_120 ?_
  refine z_iload_5 d_Mo_pour_121 ?_
  refine z_i2l d_Mo_pour_123 ?_
  refine z_ladd d_Mo_pour_124 ?_
  refine z_aload_0 d_Mo_pour_125 ?_
  refine z_getR d_Mo_pour_126 f_Mo_17 (by first | assumption | exact zS0_at (by assumption) (by omega) | exact zS0_at rfl (by omega)) (by first | assumption | exact zS0_at (by assumption) (by omega) | exact zS0_at rfl (by omega)) ?_
  refine z_iload_3 d_Mo_pour_129 ?_
  first | refine z_ialdNv d_Mo_pour_130 (by first | assumption | exact zS0_at (by assumption) (by omega) | exact zS0_at rfl (by omega)) (by omega) (by first | decide | omega) (by first | assumption | ((try simp (disch := omega) only [zu_same, zu_ne, zcp_ne, zfl_ne]); first | assumption | rfl)) ?_ | refine z_iald d_Mo_pour_130 (by first | assumption | exact zS0_at (by assumption) (by omega) | exact zS0_at rfl (by omega)) (by first | assumption | exact zS0_at (by assumption) (by omega) | exact zS0_at rfl (by omega)) ?_
  refine z_i2l d_Mo_pour_131 ?_
  refine z_lcmp d_Mo_pour_132 ?_
  refine z_if_le (tgt := 142) d_Mo_pour_133 (by decide) (fun g4 => ?_) (fun g4 => ?_)
  · rw [nI_l (by omega)] at g3 g4
    exact absurd ⟨⟨g1, (lg_cmp_le _ _).mp (Int32.not_lt.mp g3)⟩, ⟨g2, (lg_cmp_le _ _).mp g4⟩⟩ h
  · refine z_aload_0 d_Mo_pour_136 ?_
    refine z_iconst (a := nI 4) d_Mo_pour_137 (by decide) ?_
    refine z_Vi1 d_Mo_pour_138 k_Mo_85 (by first | assumption | exact zS0_at (by assumption) (by omega) | exact zS0_at rfl (by omega)) (t_Mo_no (by assumption)) ⟨Nat.le_of_ble_eq_true rfl, Nat.le_of_ble_eq_true rfl, Nat.le_of_ble_eq_true rfl, Nat.le_of_ble_eq_true rfl⟩ (Nat.le_of_ble_eq_true rfl) ?_
    intro r w hq
    obtain ⟨rfl, rfl⟩ := hq
    refine z_retz d_Mo_pour_141 (by first | exact zb0 | exact zb1 | assumption) ?_
    exact ⟨rfl, _, _, rfl, mqF_z h1 (by decide), mqJ_r, zu_same _ _ _ _⟩
theorem t_Tf_pour (Z : clOk f d P S) (ht : t < 4) (hu : u < 4) (a0 : I (3 + 2 * t) 0 = nI 1) (a1 : I (3 + 2 * t) 1 = nI k) (a2 : I (3 + 2 * t) 2 = nI l) (b0 : I (3 + 2 * u) 0 = nI 1) (b1 : I (3 + 2 * u) 1 = nI k) (b2 : I (3 + 2 * u) 2 = nI l') (hk : k ≤ 3) (hl : l ≤ 60) (hl' : l' ≤ 60) (hp : p + m ≤ l) (hq : q + m ≤ l') : zEi G y_Tf_pour prog_1_method_8_code 8 (some .boolean) 2 [.ref 0, .int (nI t), .int (nI p), .int (nI u), .int (nI q), .int (nI m)] (I, J, P, S) (fun r w => r = nI 1 ∧ w = (zu I 0 0 (nI 0), zcp J (3 + 2 * t + 1) (3 + 2 * u + 1) p q m, P, S)) := by
  obtain ⟨⟨c0, c3, c1s⟩, ⟨c5, c2s, ctr⟩, ⟨c6, c11s, c11, c13s⟩, ⟨c7, c15s, c15⟩, ⟨c8, c16s, c16a, c16b, c17s⟩, ⟨c9, c10, cfd, F, Fd⟩, ⟨c11b, Ft⟩, ⟨c12, c69s, cmk⟩, ⟨c14, c121s, c121, c122s⟩, ⟨c15b, c123s, c123, c124s⟩, ⟨c16, c125s, c125, c126s⟩, ⟨c17, c127s, c127, c128s, ctb⟩, ⟨c18, c139s, c139, c140s⟩, ⟨c19, c141s, ⟨c141a, c142s⟩, ⟨c141b, c143s⟩, ⟨c141c, c144s⟩⟩, M⟩ := id Z
  have hz : zin (nI t) 4 := ⟨t, ht, rfl⟩
  have hzu : zin (nI u) 4 := ⟨u, hu, rfl⟩
  obtain ⟨c2, T⟩ := ctr t ht
  obtain ⟨T0, T1, T2⟩ := id T
  obtain ⟨c2u, U⟩ := ctr u hu
  obtain ⟨U0, U1, U2⟩ := id U
  have hr1 : hrun (nI p) (nI m) l := (hrun_int hl).mpr (by rw [nI_int (by omega), nI_int (by omega)]; omega)
  have hr2 : hrun (nI q) (nI m) l' := (hrun_int hl').mpr (by rw [nI_int (by omega), nI_int (by omega)]; omega)
  refine zEi_of (lv := [some (.ref 0), some (.int (nI t)), some (.int (nI p)), some (.int (nI u)), some (.int (nI q)), some (.int (nI m)), none, none]) (by decide) rfl (Nat.le_of_ble_eq_true rfl) ?_
  have rest : zA G y_Tf_pour prog_1_method_8_code 8 (some .boolean) (zRm 2 0 0) (zM G 0 0 (fun r w' => ∃ x, r = some (.int x) ∧ (fun r w => r = nI 1 ∧ w = (zu I 0 0 (nI 0), zcp J (3 + 2 * t + 1) (3 + 2 * u + 1) p q m, P, S)) x w')) 90 [some (.ref 0), some (.int (nI t)), some (.int (nI p)), some (.int (nI u)), some (.int (nI q)), some (.int (nI m)), some (.ref (3 + 2 * t)), some (.ref (3 + 2 * u))] [] (I, J, P, S) 0 0 := by
    refine z_aload_6 d_Tf_pour_90 ?_
    refine z_iload_2 d_Tf_pour_92 ?_
    refine z_iload_5 d_Tf_pour_93 ?_
    refine z_Vi2 d_Tf_pour_95 k_Tf_153 (by first | assumption | exact zS0_at (by assumption) (by omega) | exact zS0_at rfl (by omega)) (t_Tray_hasRunG T a2 hl) ⟨Nat.le_of_ble_eq_true rfl, Nat.le_of_ble_eq_true rfl, Nat.le_of_ble_eq_true rfl, Nat.le_of_ble_eq_true rfl⟩ (Nat.le_of_ble_eq_true rfl) ?_
    intro r w hq
    rcases hq with ⟨⟨hz1, rfl⟩ | ⟨hz1, rfl⟩, rfl⟩
    rotate_left
    · exact absurd hr1 hz1
    refine z_if_eq (tgt := 113) d_Tf_pour_98 (by decide) (fun h => absurd h (by decide)) (fun _ => ?_)
    refine z_aload_7 d_Tf_pour_101 ?_
    refine z_iload_4 d_Tf_pour_103 ?_
    refine z_iload_5 d_Tf_pour_105 ?_
    refine z_Vi2 d_Tf_pour_107 k_Tf_153 (by first | assumption | exact zS0_at (by assumption) (by omega) | exact zS0_at rfl (by omega)) (t_Tray_hasRunG U b2 hl') ⟨Nat.le_of_ble_eq_true rfl, Nat.le_of_ble_eq_true rfl, Nat.le_of_ble_eq_true rfl, Nat.le_of_ble_eq_true rfl⟩ (Nat.le_of_ble_eq_true rfl) ?_
    intro r w hq
    rcases hq with ⟨⟨hz2, rfl⟩ | ⟨hz2, rfl⟩, rfl⟩
    rotate_left
    · exact absurd hr2 hz2
    refine z_if_ne (tgt := 119) d_Tf_pour_110 (by decide) (fun _ => ?_) (fun h => absurd h (by decide))
    refine z_aload_6 d_Tf_pour_119 ?_
    refine z_getR d_Tf_pour_121 f_Tf_142 (by first | assumption | exact zS0_at (by assumption) (by omega) | exact zS0_at rfl (by omega)) (by first | assumption | exact zS0_at (by assumption) (by omega) | exact zS0_at rfl (by omega)) ?_
    refine z_iload_2 d_Tf_pour_124 ?_
    refine z_aload_7 d_Tf_pour_125 ?_
    refine z_getR d_Tf_pour_127 f_Tf_142 (by first | assumption | exact zS0_at (by assumption) (by omega) | exact zS0_at rfl (by omega)) (by first | assumption | exact zS0_at (by assumption) (by omega) | exact zS0_at rfl (by omega)) ?_
    refine z_iload_4 d_Tf_pour_130 ?_
    refine z_iload_5 d_Tf_pour_132 ?_
    refine z_cpJ d_Tf_pour_134 k_Tf_157 T2 U2 (by omega) (by omega) (by decide) ⟨Nat.le_of_ble_eq_true rfl, Nat.le_of_ble_eq_true rfl⟩ (Nat.le_of_ble_eq_true rfl) ?_
    refine z_aload_0 d_Tf_pour_137 ?_
    refine z_Vi0 d_Tf_pour_138 k_Tf_126 (by first | assumption | exact zS0_at (by assumption) (by omega) | exact zS0_at rfl (by omega)) (t_Tf_agree (by assumption)) ⟨Nat.le_of_ble_eq_true rfl, Nat.le_of_ble_eq_true rfl, Nat.le_of_ble_eq_true rfl, Nat.le_of_ble_eq_true rfl⟩ (Nat.le_of_ble_eq_true rfl) ?_
    intro r w hq
    obtain ⟨rfl, rfl⟩ := hq
    refine z_retz d_Tf_pour_141 (by first | exact zb0 | exact zb1 | assumption) ?_
    exact ⟨rfl, rfl⟩
  refine z_iload_1 d_Tf_pour_0 ?_
  refine z_Si1 d_Tf_pour_1 k_Tf_115 (t_Tf_noTray) ⟨Nat.le_of_ble_eq_true rfl, Nat.le_of_ble_eq_true rfl, Nat.le_of_ble_eq_true rfl, Nat.le_of_ble_eq_true rfl⟩ (Nat.le_of_ble_eq_true rfl) ?_
  intro r w hq
  rcases hq with ⟨⟨hz1, rfl⟩ | ⟨hz1, rfl⟩, rfl⟩
  · first
    | contradiction
    | ( skip
        refine z_if_ne (tgt := 14) d_Tf_pour_4 (by decide) (fun _ => ?_) (fun h => absurd h (by decide))
        refine z_aload_0 d_Tf_pour_14 ?_
        refine z_iconst (a := nI 1) d_Tf_pour_15 (by decide) ?_
        refine z_Vi1 d_Tf_pour_16 k_Tf_119 (by first | assumption | exact zS0_at (by assumption) (by omega) | exact zS0_at rfl (by omega)) (t_Tf_refuse (by assumption)) ⟨Nat.le_of_ble_eq_true rfl, Nat.le_of_ble_eq_true rfl, Nat.le_of_ble_eq_true rfl, Nat.le_of_ble_eq_true rfl⟩ (Nat.le_of_ble_eq_true rfl) ?_
        intro r w hq
        obtain ⟨rfl, rfl⟩ := hq
        refine z_retz d_Tf_pour_19 (by first | exact zb0 | exact zb1 | assumption) ?_
        exact ⟨rfl, rfl⟩)
  · first
    | contradiction
    | ( skip
        refine z_if_ne (tgt := 14) d_Tf_pour_4 (by decide) (fun h => absurd h (by decide)) (fun _ => ?_)
        refine z_iload_3 d_Tf_pour_7 ?_
        refine z_Si1 d_Tf_pour_8 k_Tf_115 (t_Tf_noTray) ⟨Nat.le_of_ble_eq_true rfl, Nat.le_of_ble_eq_true rfl, Nat.le_of_ble_eq_true rfl, Nat.le_of_ble_eq_true rfl⟩ (Nat.le_of_ble_eq_true rfl) ?_
        intro r w hq
        rcases hq with ⟨⟨hz8, rfl⟩ | ⟨hz8, rfl⟩, rfl⟩
        · first
          | contradiction
          | ( skip
              refine z_if_eq (tgt := 20) d_Tf_pour_11 (by decide) (fun h => absurd h (by decide)) (fun _ => ?_)
              refine z_aload_0 d_Tf_pour_14 ?_
              refine z_iconst (a := nI 1) d_Tf_pour_15 (by decide) ?_
              refine z_Vi1 d_Tf_pour_16 k_Tf_119 (by first | assumption | exact zS0_at (by assumption) (by omega) | exact zS0_at rfl (by omega)) (t_Tf_refuse (by assumption)) ⟨Nat.le_of_ble_eq_true rfl, Nat.le_of_ble_eq_true rfl, Nat.le_of_ble_eq_true rfl, Nat.le_of_ble_eq_true rfl⟩ (Nat.le_of_ble_eq_true rfl) ?_
              intro r w hq
              obtain ⟨rfl, rfl⟩ := hq
              refine z_retz d_Tf_pour_19 (by first | exact zb0 | exact zb1 | assumption) ?_
              exact ⟨rfl, rfl⟩)
        · first
          | contradiction
          | ( skip
              refine z_if_eq (tgt := 20) d_Tf_pour_11 (by decide) (fun _ => ?_) (fun h => absurd h (by decide))
              refine z_aload_0 d_Tf_pour_20 ?_
              refine z_getR d_Tf_pour_21 f_Tf_29 (by first | assumption | exact zS0_at (by assumption) (by omega) | exact zS0_at rfl (by omega)) (by first | assumption | exact zS0_at (by assumption) (by omega) | exact zS0_at rfl (by omega)) ?_
              refine z_iload_1 d_Tf_pour_24 ?_
              first | refine z_ald4N d_Tf_pour_25 (by first | assumption | exact zS0_at (by assumption) (by omega) | exact zS0_at rfl (by omega)) (by omega) (by first | decide | omega) (by first | assumption | exact zS0_at (by assumption) (by omega) | exact zS0_at rfl (by omega)) ?_ | refine z_ald5N d_Tf_pour_25 (by first | assumption | exact zS0_at (by assumption) (by omega) | exact zS0_at rfl (by omega)) (by omega) (by first | decide | omega) (by first | assumption | exact zS0_at (by assumption) (by omega) | exact zS0_at rfl (by omega)) ?_ | refine z_ald6N d_Tf_pour_25 (by first | assumption | exact zS0_at (by assumption) (by omega) | exact zS0_at rfl (by omega)) (by omega) (by first | decide | omega) (by first | assumption | exact zS0_at (by assumption) (by omega) | exact zS0_at rfl (by omega)) ?_
              first | refine z_astore_6 d_Tf_pour_26 rfl ?_ | (refine z_forget_5 ?_; refine z_astore_6 d_Tf_pour_26 rfl ?_)
              refine z_aload_0 d_Tf_pour_28 ?_
              refine z_getR d_Tf_pour_29 f_Tf_29 (by first | assumption | exact zS0_at (by assumption) (by omega) | exact zS0_at rfl (by omega)) (by first | assumption | exact zS0_at (by assumption) (by omega) | exact zS0_at rfl (by omega)) ?_
              refine z_iload_3 d_Tf_pour_32 ?_
              first | refine z_ald4N d_Tf_pour_33 (by first | assumption | exact zS0_at (by assumption) (by omega) | exact zS0_at rfl (by omega)) (by omega) (by first | decide | omega) (by first | assumption | exact zS0_at (by assumption) (by omega) | exact zS0_at rfl (by omega)) ?_ | refine z_ald5N d_Tf_pour_33 (by first | assumption | exact zS0_at (by assumption) (by omega) | exact zS0_at rfl (by omega)) (by omega) (by first | decide | omega) (by first | assumption | exact zS0_at (by assumption) (by omega) | exact zS0_at rfl (by omega)) ?_ | refine z_ald6N d_Tf_pour_33 (by first | assumption | exact zS0_at (by assumption) (by omega) | exact zS0_at rfl (by omega)) (by omega) (by first | decide | omega) (by first | assumption | exact zS0_at (by assumption) (by omega) | exact zS0_at rfl (by omega)) ?_
              first | refine z_astore_7 d_Tf_pour_34 rfl ?_ | (refine z_forget_6 ?_; refine z_astore_7 d_Tf_pour_34 rfl ?_)
              refine z_aload_6 d_Tf_pour_36 ?_
              refine z_getIv d_Tf_pour_38 f_Tf_146 (by first | assumption | exact zS0_at (by assumption) (by omega) | exact zS0_at rfl (by omega)) (by first | assumption | ((try simp (disch := omega) only [zu_same, zu_ne, zcp_ne, zfl_ne]); first | assumption | rfl)) ?_
              refine z_if_eq (tgt := 52) d_Tf_pour_41 (by decide) (fun h41 => ?_) (fun h41 => ?_)
              · first
                | (simp (disch := omega) only [← nI_0, nI_leI, nI_ltI, nI_eq, not_true_eq_false, not_false_eq_true] at h41; done)
                | (simp (disch := omega) only [← nI_0, nI_leI, nI_ltI, nI_eq, not_true_eq_false, not_false_eq_true] at h41; omega)
                | contradiction
                | exact absurd h41 (Int32.not_lt.mpr (by assumption))
                | exact absurd h41 (Int32.not_le.mpr (by assumption))
                | exact absurd h41 (by decide)
                | exact absurd (by decide) h41
                | ( try simp (disch := omega) only [← nI_0, nI_leI, nI_ltI, nI_eq, not_true_eq_false, not_false_eq_true] at h41
                    (try have h41b := zbit_n0.mp h41); (try have h41b := zbit_p0.mp h41)
                    refine z_aload_0 d_Tf_pour_52 ?_
                    refine z_iconst (a := nI 3) d_Tf_pour_53 (by decide) ?_
                    refine z_Vi1 d_Tf_pour_54 k_Tf_119 (by first | assumption | exact zS0_at (by assumption) (by omega) | exact zS0_at rfl (by omega)) (t_Tf_refuse (by assumption)) ⟨Nat.le_of_ble_eq_true rfl, Nat.le_of_ble_eq_true rfl, Nat.le_of_ble_eq_true rfl, Nat.le_of_ble_eq_true rfl⟩ (Nat.le_of_ble_eq_true rfl) ?_
                    intro r w hq
                    obtain ⟨rfl, rfl⟩ := hq
                    refine z_retz d_Tf_pour_57 (by first | exact zb0 | exact zb1 | assumption) ?_
                    exact ⟨rfl, rfl⟩)
              · first
                | (simp (disch := omega) only [← nI_0, nI_leI, nI_ltI, nI_eq, not_true_eq_false, not_false_eq_true] at h41; done)
                | (simp (disch := omega) only [← nI_0, nI_leI, nI_ltI, nI_eq, not_true_eq_false, not_false_eq_true] at h41; omega)
                | contradiction
                | exact absurd h41 (Int32.not_lt.mpr (by assumption))
                | exact absurd h41 (Int32.not_le.mpr (by assumption))
                | exact absurd h41 (by decide)
                | exact absurd (by decide) h41
                | ( try simp (disch := omega) only [← nI_0, nI_leI, nI_ltI, nI_eq, not_true_eq_false, not_false_eq_true] at h41
                    (try have h41b := zbit_n0.mp h41); (try have h41b := zbit_p0.mp h41)
                    refine z_aload_7 d_Tf_pour_44 ?_
                    refine z_getIv d_Tf_pour_46 f_Tf_146 (by first | assumption | exact zS0_at (by assumption) (by omega) | exact zS0_at rfl (by omega)) (by first | assumption | ((try simp (disch := omega) only [zu_same, zu_ne, zcp_ne, zfl_ne]); first | assumption | rfl)) ?_
                    refine z_if_ne (tgt := 58) d_Tf_pour_49 (by decide) (fun h49 => ?_) (fun h49 => ?_)
                    · first
                      | (simp (disch := omega) only [← nI_0, nI_leI, nI_ltI, nI_eq, not_true_eq_false, not_false_eq_true] at h49; done)
                      | (simp (disch := omega) only [← nI_0, nI_leI, nI_ltI, nI_eq, not_true_eq_false, not_false_eq_true] at h49; omega)
                      | contradiction
                      | exact absurd h49 (Int32.not_lt.mpr (by assumption))
                      | exact absurd h49 (Int32.not_le.mpr (by assumption))
                      | exact absurd h49 (by decide)
                      | exact absurd (by decide) h49
                      | ( try simp (disch := omega) only [← nI_0, nI_leI, nI_ltI, nI_eq, not_true_eq_false, not_false_eq_true] at h49
                          (try have h49b := zbit_n0.mp h49); (try have h49b := zbit_p0.mp h49)
                          refine z_aload_6 d_Tf_pour_58 ?_
                          refine z_getIv d_Tf_pour_60 f_Tf_150 (by first | assumption | exact zS0_at (by assumption) (by omega) | exact zS0_at rfl (by omega)) (by first | assumption | ((try simp (disch := omega) only [zu_same, zu_ne, zcp_ne, zfl_ne]); first | assumption | rfl)) ?_
                          refine z_aload_7 d_Tf_pour_63 ?_
                          refine z_getIv d_Tf_pour_65 f_Tf_150 (by first | assumption | exact zS0_at (by assumption) (by omega) | exact zS0_at rfl (by omega)) (by first | assumption | ((try simp (disch := omega) only [zu_same, zu_ne, zcp_ne, zfl_ne]); first | assumption | rfl)) ?_
                          refine z_icmp_eq (tgt := 78) d_Tf_pour_68 (by decide) (fun h68 => ?_) (fun h68 => ?_)
                          · first
                            | (simp (disch := omega) only [← nI_0, nI_leI, nI_ltI, nI_eq, not_true_eq_false, not_false_eq_true] at h68; done)
                            | (simp (disch := omega) only [← nI_0, nI_leI, nI_ltI, nI_eq, not_true_eq_false, not_false_eq_true] at h68; omega)
                            | contradiction
                            | exact absurd h68 (Int32.not_lt.mpr (by assumption))
                            | exact absurd h68 (Int32.not_le.mpr (by assumption))
                            | exact absurd h68 (by decide)
                            | exact absurd (by decide) h68
                            | ( try simp (disch := omega) only [← nI_0, nI_leI, nI_ltI, nI_eq, not_true_eq_false, not_false_eq_true] at h68
                                (try have h68b := zbit_n0.mp h68); (try have h68b := zbit_p0.mp h68)
                                refine z_iload_5 d_Tf_pour_78 ?_
                                refine z_if_ge (tgt := 90) d_Tf_pour_80 (by decide) (fun h80 => ?_) (fun h80 => ?_)
                                · first
                                  | (simp (disch := omega) only [← nI_0, nI_leI, nI_ltI, nI_eq, not_true_eq_false, not_false_eq_true] at h80; done)
                                  | (simp (disch := omega) only [← nI_0, nI_leI, nI_ltI, nI_eq, not_true_eq_false, not_false_eq_true] at h80; omega)
                                  | contradiction
                                  | exact absurd h80 (Int32.not_lt.mpr (by assumption))
                                  | exact absurd h80 (Int32.not_le.mpr (by assumption))
                                  | exact absurd h80 (by decide)
                                  | exact absurd (by decide) h80
                                  | ( try simp (disch := omega) only [← nI_0, nI_leI, nI_ltI, nI_eq, not_true_eq_false, not_false_eq_true] at h80
                                      (try have h80b := zbit_n0.mp h80); (try have h80b := zbit_p0.mp h80)
                                      exact rest)
                                · first
                                  | (simp (disch := omega) only [← nI_0, nI_leI, nI_ltI, nI_eq, not_true_eq_false, not_false_eq_true] at h80; done)
                                  | (simp (disch := omega) only [← nI_0, nI_leI, nI_ltI, nI_eq, not_true_eq_false, not_false_eq_true] at h80; omega)
                                  | contradiction
                                  | exact absurd h80 (Int32.not_lt.mpr (by assumption))
                                  | exact absurd h80 (Int32.not_le.mpr (by assumption))
                                  | exact absurd h80 (by decide)
                                  | exact absurd (by decide) h80
                                  | ( try simp (disch := omega) only [← nI_0, nI_leI, nI_ltI, nI_eq, not_true_eq_false, not_false_eq_true] at h80
                                      (try have h80b := zbit_n0.mp h80); (try have h80b := zbit_p0.mp h80)
                                      refine z_aload_0 d_Tf_pour_83 ?_
                                      refine z_bipush (a := nI 6) d_Tf_pour_84 (by decide) ?_
                                      refine z_Vi1 d_Tf_pour_86 k_Tf_119 (by first | assumption | exact zS0_at (by assumption) (by omega) | exact zS0_at rfl (by omega)) (t_Tf_refuse (by assumption)) ⟨Nat.le_of_ble_eq_true rfl, Nat.le_of_ble_eq_true rfl, Nat.le_of_ble_eq_true rfl, Nat.le_of_ble_eq_true rfl⟩ (Nat.le_of_ble_eq_true rfl) ?_
                                      intro r w hq
                                      obtain ⟨rfl, rfl⟩ := hq
                                      refine z_retz d_Tf_pour_89 (by first | exact zb0 | exact zb1 | assumption) ?_
                                      exact ⟨rfl, rfl⟩))
                          · first
                            | (simp (disch := omega) only [← nI_0, nI_leI, nI_ltI, nI_eq, not_true_eq_false, not_false_eq_true] at h68; done)
                            | (simp (disch := omega) only [← nI_0, nI_leI, nI_ltI, nI_eq, not_true_eq_false, not_false_eq_true] at h68; omega)
                            | contradiction
                            | exact absurd h68 (Int32.not_lt.mpr (by assumption))
                            | exact absurd h68 (Int32.not_le.mpr (by assumption))
                            | exact absurd h68 (by decide)
                            | exact absurd (by decide) h68
                            | ( try simp (disch := omega) only [← nI_0, nI_leI, nI_ltI, nI_eq, not_true_eq_false, not_false_eq_true] at h68
                                (try have h68b := zbit_n0.mp h68); (try have h68b := zbit_p0.mp h68)
                                refine z_aload_0 d_Tf_pour_71 ?_
                                refine z_bipush (a := nI 11) d_Tf_pour_72 (by decide) ?_
                                refine z_Vi1 d_Tf_pour_74 k_Tf_119 (by first | assumption | exact zS0_at (by assumption) (by omega) | exact zS0_at rfl (by omega)) (t_Tf_refuse (by assumption)) ⟨Nat.le_of_ble_eq_true rfl, Nat.le_of_ble_eq_true rfl, Nat.le_of_ble_eq_true rfl, Nat.le_of_ble_eq_true rfl⟩ (Nat.le_of_ble_eq_true rfl) ?_
                                intro r w hq
                                obtain ⟨rfl, rfl⟩ := hq
                                refine z_retz d_Tf_pour_77 (by first | exact zb0 | exact zb1 | assumption) ?_
                                exact ⟨rfl, rfl⟩))
                    · first
                      | (simp (disch := omega) only [← nI_0, nI_leI, nI_ltI, nI_eq, not_true_eq_false, not_false_eq_true] at h49; done)
                      | (simp (disch := omega) only [← nI_0, nI_leI, nI_ltI, nI_eq, not_true_eq_false, not_false_eq_true] at h49; omega)
                      | contradiction
                      | exact absurd h49 (Int32.not_lt.mpr (by assumption))
                      | exact absurd h49 (Int32.not_le.mpr (by assumption))
                      | exact absurd h49 (by decide)
                      | exact absurd (by decide) h49
                      | ( try simp (disch := omega) only [← nI_0, nI_leI, nI_ltI, nI_eq, not_true_eq_false, not_false_eq_true] at h49
                          (try have h49b := zbit_n0.mp h49); (try have h49b := zbit_p0.mp h49)
                          refine z_aload_0 d_Tf_pour_52 ?_
                          refine z_iconst (a := nI 3) d_Tf_pour_53 (by decide) ?_
                          refine z_Vi1 d_Tf_pour_54 k_Tf_119 (by first | assumption | exact zS0_at (by assumption) (by omega) | exact zS0_at rfl (by omega)) (t_Tf_refuse (by assumption)) ⟨Nat.le_of_ble_eq_true rfl, Nat.le_of_ble_eq_true rfl, Nat.le_of_ble_eq_true rfl, Nat.le_of_ble_eq_true rfl⟩ (Nat.le_of_ble_eq_true rfl) ?_
                          intro r w hq
                          obtain ⟨rfl, rfl⟩ := hq
                          refine z_retz d_Tf_pour_57 (by first | exact zb0 | exact zb1 | assumption) ?_
                          exact ⟨rfl, rfl⟩))))
theorem t_Mo_pour (M : modOk P S) (N : modIn I nt np nl nn) (ht : t < 4) (hu : u < 4) (a1 : I 146 t = nI k) (a2 : I 147 t = nI l) (b1 : I 146 u = nI k) (b2 : I 147 u = nI l') (hk : k ≤ 3) (hl : l ≤ 60) (hl' : l' ≤ 60) (hp : p + m ≤ l) (hq : q + m ≤ l') : zEi G y_Mo_pour prog_14_method_16_code 9 (some .boolean) 2 [.ref 145, .int (nI t), .int (nI p), .int (nI u), .int (nI q), .int (nI m)] (I, J, P, S) (fun r w => r = nI 1 ∧ ∃ I1, mD I I1 ∧ w = (I1, zcp J 148 148 (60 * t + p) (60 * u + q) m, P, S)) := by
  obtain ⟨M0, ⟨M4, M4s⟩, ⟨M5, M5s⟩, ⟨M6, M6s⟩, ⟨M7, M7s⟩, ⟨M20, M20s⟩, ⟨M21, M21s⟩, ⟨M22, M22s⟩, ⟨M26, M26s⟩, ⟨M27, M27s⟩, ⟨M28, M28s⟩, ⟨M30, M30s⟩, ⟨M34, M34s⟩, ⟨M36, M36s⟩, ⟨M37, M37s⟩⟩ := id M
  obtain ⟨I1, hI1, N1, h1, h0, e150, er, ek⟩ := mo_beg N
  have a1' : I1 146 t = nI k := by rw [er 146 (by decide)]; exact a1
  have a2' : I1 147 t = nI l := by rw [er 147 (by decide)]; exact a2
  have b1' : I1 146 u = nI k := by rw [er 146 (by decide)]; exact b1
  have b2' : I1 147 u = nI l' := by rw [er 147 (by decide)]; exact b2
  have hD : mD I I1 := ⟨h1, h0, e150, er⟩
  have g1 : lg_cmp ((nI p).toInt64 + (nI m).toInt64) (nI l).toInt64 ≤ 0 := by
    rw [nI_l (by omega), nI_l (by omega), nI_l (by omega), lN_add]
    exact (lg_cmp_le _ _).mpr ((lN_le (by omega) (by omega)).mpr hp)
  have g2 : lg_cmp ((nI q).toInt64 + (nI m).toInt64) (nI l').toInt64 ≤ 0 := by
    rw [nI_l (by omega), nI_l (by omega), nI_l (by omega), lN_add]
    exact (lg_cmp_le _ _).mpr ((lN_le (by omega) (by omega)).mpr hq)
  refine zEi_of (lv := [some (.ref 145), some (.int (nI t)), some (.int (nI p)), some (.int (nI u)), some (.int (nI q)), some (.int (nI m)), none, none, none]) (by decide) rfl (Nat.le_of_ble_eq_true rfl) ?_
  have asc : ¬ p < q → ∀ z j, m - j < z → j ≤ m → zA G y_Mo_pour prog_14_method_16_code 9 (some .boolean) (zRm 2 0 0) (zM G 0 0 (fun r w' => ∃ x, r = some (.int x) ∧ (fun r w => r = nI 1 ∧ ∃ I1, mD I I1 ∧ w = (I1, zcp J 148 148 (60 * t + p) (60 * u + q) m, P, S)) x w')) 158 [some (.ref 145), some (.int (nI t)), some (.int (nI p)), some (.int (nI u)), some (.int (nI q)), some (.int (nI m)), some (.int (nI 0)), some (.int (nI j)), none] [] (I1, zcp J 148 148 (60 * t + p) (60 * u + q) j, P, S) 0 0 := by
    intro hpq z
    induction z with
    | zero => intro j h; omega
    | succ z ih =>
      intro j hz hj
      refine z_iload_7 d_Mo_pour_158 ?_
      refine z_iload_5 d_Mo_pour_160 ?_
      refine z_icmp_ge (tgt := 219) d_Mo_pour_162 (by decide) (fun hb => ?_) (fun hb => ?_)
      · have hb := (nI_leI (by omega) (by omega)).mp hb
        obtain rfl : j = m := by omega
        refine z_iconst (a := nI 1) d_Mo_pour_219 (by decide) ?_
        refine z_retz d_Mo_pour_220 (by first | exact zb0 | exact zb1 | assumption) ?_
        exact ⟨rfl, I1, hD, rfl⟩
      · have hb : j < m := Nat.lt_of_not_le (fun q => hb (nI_le q (by omega)))
        have hv : zcp J 148 148 (60 * t + p) (60 * u + q) j 148 (60 * t + p + j) = J 148 (60 * t + p + j) := zcp_out (by omega)
        refine z_iload_6 d_Mo_pour_165 ?_
        refine z_if_eq (tgt := 180) d_Mo_pour_167 (by decide) (fun _ => ?_) (fun h => absurd (by decide) h)
        refine z_iload_7 d_Mo_pour_180 ?_
        first | refine z_istore_8 d_Mo_pour_182 rfl ?_ | (refine z_forget_7 ?_; refine z_istore_8 d_Mo_pour_182 rfl ?_)
        refine z_aload_0 d_Mo_pour_184 ?_
        refine z_getR d_Mo_pour_185 f_Mo_20 (by first | assumption | exact zS0_at (by assumption) (by omega) | exact zS0_at rfl (by omega)) (by first | assumption | exact zS0_at (by assumption) (by omega) | exact zS0_at rfl (by omega)) ?_
        refine z_bipush (a := nI 60) d_Mo_pour_188 (by decide) ?_
        refine z_iload_3 d_Mo_pour_190 ?_
        first | refine z_imulN d_Mo_pour_191 ?_ | refine z_imul d_Mo_pour_191 ?_
        refine z_iload_4 d_Mo_pour_192 ?_
        first | refine z_iaddN d_Mo_pour_194 ?_ | refine z_iadd d_Mo_pour_194 ?_
        refine z_iload_8 d_Mo_pour_195 ?_
        first | refine z_iaddN d_Mo_pour_197 ?_ | refine z_iadd d_Mo_pour_197 ?_
        refine z_aload_0 d_Mo_pour_198 ?_
        refine z_getR d_Mo_pour_199 f_Mo_20 (by first | assumption | exact zS0_at (by assumption) (by omega) | exact zS0_at rfl (by omega)) (by first | assumption | exact zS0_at (by assumption) (by omega) | exact zS0_at rfl (by omega)) ?_
        refine z_bipush (a := nI 60) d_Mo_pour_202 (by decide) ?_
        refine z_iload_1 d_Mo_pour_204 ?_
        first | refine z_imulN d_Mo_pour_205 ?_ | refine z_imul d_Mo_pour_205 ?_
        refine z_iload_2 d_Mo_pour_206 ?_
        first | refine z_iaddN d_Mo_pour_207 ?_ | refine z_iadd d_Mo_pour_207 ?_
        refine z_iload_8 d_Mo_pour_208 ?_
        first | refine z_iaddN d_Mo_pour_210 ?_ | refine z_iadd d_Mo_pour_210 ?_
        first | refine z_laldNv d_Mo_pour_211 (by first | assumption | exact zS0_at (by assumption) (by omega) | exact zS0_at rfl (by omega)) (by omega) (by first | decide | omega) (by first | assumption | ((try simp (disch := omega) only [zu_same, zu_ne, zcp_ne, zfl_ne]); first | assumption | rfl)) ?_ | refine z_lald d_Mo_pour_211 (by first | assumption | exact zS0_at (by assumption) (by omega) | exact zS0_at rfl (by omega)) (by first | assumption | exact zS0_at (by assumption) (by omega) | exact zS0_at rfl (by omega)) ?_
        refine z_lastN d_Mo_pour_212 (by assumption) (by omega) (by decide) ?_
        rw [zcp_s]
        first | refine z_iinc_7 d_Mo_pour_213 rfl (zi_inc _) ?_ | refine z_iinc_7 d_Mo_pour_213 rfl rfl ?_
        refine z_goto (tgt := 158) d_Mo_pour_216 (by decide) ?_
        refine z_forget_8 ?_
        exact ih (j + 1) (by omega) (by omega)
  have desc : p < q → ∀ z j, m - j < z → j ≤ m → zA G y_Mo_pour prog_14_method_16_code 9 (some .boolean) (zRm 2 0 0) (zM G 0 0 (fun r w' => ∃ x, r = some (.int x) ∧ (fun r w => r = nI 1 ∧ ∃ I1, mD I I1 ∧ w = (I1, zcp J 148 148 (60 * t + p) (60 * u + q) m, P, S)) x w')) 158 [some (.ref 145), some (.int (nI t)), some (.int (nI p)), some (.int (nI u)), some (.int (nI q)), some (.int (nI m)), some (.int (nI 1)), some (.int (nI j)), none] [] (I1, zcp J 148 148 (60 * t + p + (m - j)) (60 * u + q + (m - j)) j, P, S) 0 0 := by
    intro hpq z
    induction z with
    | zero => intro j h; omega
    | succ z ih =>
      intro j hz hj
      refine z_iload_7 d_Mo_pour_158 ?_
      refine z_iload_5 d_Mo_pour_160 ?_
      refine z_icmp_ge (tgt := 219) d_Mo_pour_162 (by decide) (fun hb => ?_) (fun hb => ?_)
      · have hb := (nI_leI (by omega) (by omega)).mp hb
        obtain rfl : j = m := by omega
        rw [Nat.sub_self, Nat.add_zero, Nat.add_zero]
        refine z_iconst (a := nI 1) d_Mo_pour_219 (by decide) ?_
        refine z_retz d_Mo_pour_220 (by first | exact zb0 | exact zb1 | assumption) ?_
        exact ⟨rfl, I1, hD, rfl⟩
      · have hb : j < m := Nat.lt_of_not_le (fun q => hb (nI_le q (by omega)))
        have hv : zcp J 148 148 (60 * t + p + (m - j)) (60 * u + q + (m - j)) j 148 (60 * t + p + (m - 1 - j)) = J 148 (60 * t + p + (m - 1 - j)) := zcp_out (by omega)
        refine z_iload_6 d_Mo_pour_165 ?_
        refine z_if_eq (tgt := 180) d_Mo_pour_167 (by decide) (fun h => absurd h (by decide)) (fun _ => ?_)
        refine z_iload_5 d_Mo_pour_170 ?_
        refine z_iconst (a := nI 1) d_Mo_pour_172 (by decide) ?_
        first | refine z_isubN d_Mo_pour_173 (by omega) ?_ | refine z_isub d_Mo_pour_173 ?_
        refine z_iload_7 d_Mo_pour_174 ?_
        first | refine z_isubN d_Mo_pour_176 (by omega) ?_ | refine z_isub d_Mo_pour_176 ?_
        refine z_goto (tgt := 182) d_Mo_pour_177 (by decide) ?_
        first | refine z_istore_8 d_Mo_pour_182 rfl ?_ | (refine z_forget_7 ?_; refine z_istore_8 d_Mo_pour_182 rfl ?_)
        refine z_aload_0 d_Mo_pour_184 ?_
        refine z_getR d_Mo_pour_185 f_Mo_20 (by first | assumption | exact zS0_at (by assumption) (by omega) | exact zS0_at rfl (by omega)) (by first | assumption | exact zS0_at (by assumption) (by omega) | exact zS0_at rfl (by omega)) ?_
        refine z_bipush (a := nI 60) d_Mo_pour_188 (by decide) ?_
        refine z_iload_3 d_Mo_pour_190 ?_
        first | refine z_imulN d_Mo_pour_191 ?_ | refine z_imul d_Mo_pour_191 ?_
        refine z_iload_4 d_Mo_pour_192 ?_
        first | refine z_iaddN d_Mo_pour_194 ?_ | refine z_iadd d_Mo_pour_194 ?_
        refine z_iload_8 d_Mo_pour_195 ?_
        first | refine z_iaddN d_Mo_pour_197 ?_ | refine z_iadd d_Mo_pour_197 ?_
        refine z_aload_0 d_Mo_pour_198 ?_
        refine z_getR d_Mo_pour_199 f_Mo_20 (by first | assumption | exact zS0_at (by assumption) (by omega) | exact zS0_at rfl (by omega)) (by first | assumption | exact zS0_at (by assumption) (by omega) | exact zS0_at rfl (by omega)) ?_
        refine z_bipush (a := nI 60) d_Mo_pour_202 (by decide) ?_
        refine z_iload_1 d_Mo_pour_204 ?_
        first | refine z_imulN d_Mo_pour_205 ?_ | refine z_imul d_Mo_pour_205 ?_
        refine z_iload_2 d_Mo_pour_206 ?_
        first | refine z_iaddN d_Mo_pour_207 ?_ | refine z_iadd d_Mo_pour_207 ?_
        refine z_iload_8 d_Mo_pour_208 ?_
        first | refine z_iaddN d_Mo_pour_210 ?_ | refine z_iadd d_Mo_pour_210 ?_
        first | refine z_laldNv d_Mo_pour_211 (by first | assumption | exact zS0_at (by assumption) (by omega) | exact zS0_at rfl (by omega)) (by omega) (by first | decide | omega) (by first | assumption | ((try simp (disch := omega) only [zu_same, zu_ne, zcp_ne, zfl_ne]); first | assumption | rfl)) ?_ | refine z_lald d_Mo_pour_211 (by first | assumption | exact zS0_at (by assumption) (by omega) | exact zS0_at rfl (by omega)) (by first | assumption | exact zS0_at (by assumption) (by omega) | exact zS0_at rfl (by omega)) ?_
        refine z_lastN d_Mo_pour_212 (by assumption) (by omega) (by decide) ?_
        have e1 := zcp_d (f := J) (q := 148) (s := 60 * t + p + (m - 1 - j)) (d := 60 * u + q + (m - 1 - j)) (n := j)
        rw [show 60 * t + p + (m - 1 - j) + 1 = 60 * t + p + (m - j) by omega, show 60 * u + q + (m - 1 - j) + 1 = 60 * u + q + (m - j) by omega] at e1
        rw [e1, show m - 1 - j = m - (j + 1) by omega]
        first | refine z_iinc_7 d_Mo_pour_213 rfl (zi_inc _) ?_ | refine z_iinc_7 d_Mo_pour_213 rfl rfl ?_
        refine z_goto (tgt := 158) d_Mo_pour_216 (by decide) ?_
        refine z_forget_8 ?_
        exact ih (j + 1) (by omega) (by omega)
  have rest : zA G y_Mo_pour prog_14_method_16_code 9 (some .boolean) (zRm 2 0 0) (zM G 0 0 (fun r w' => ∃ x, r = some (.int x) ∧ (fun r w => r = nI 1 ∧ ∃ I1, mD I I1 ∧ w = (I1, zcp J 148 148 (60 * t + p) (60 * u + q) m, P, S)) x w')) 142 [some (.ref 145), some (.int (nI t)), some (.int (nI p)), some (.int (nI u)), some (.int (nI q)), some (.int (nI m)), none, none, none] [] (I1, J, P, S) 0 0 := by
    refine z_iload_2 d_Mo_pour_142 ?_
    refine z_iload_4 d_Mo_pour_143 ?_
    refine z_icmp_ge (tgt := 152) d_Mo_pour_145 (by decide) (fun hc => ?_) (fun hc => ?_)
    · have hc := (nI_leI (by omega) (by omega)).mp hc
      have q0 := asc (by omega) (m + 1) 0 (by omega) (by omega)
      rw [zcp_0] at q0
      refine z_iconst (a := nI 0) d_Mo_pour_152 (by decide) ?_
      first | refine z_istore_6 d_Mo_pour_153 rfl ?_ | (refine z_forget_5 ?_; refine z_istore_6 d_Mo_pour_153 rfl ?_)
      refine z_iconst (a := nI 0) d_Mo_pour_155 (by decide) ?_
      first | refine z_istore_7 d_Mo_pour_156 rfl ?_ | (refine z_forget_6 ?_; refine z_istore_7 d_Mo_pour_156 rfl ?_)
      exact q0
    · have hc : p < q := Nat.lt_of_not_le (fun q => hc (nI_le q (by omega)))
      have q0 := desc hc (m + 1) 0 (by omega) (by omega)
      rw [zcp_0] at q0
      refine z_iconst (a := nI 1) d_Mo_pour_148 (by decide) ?_
      refine z_goto (tgt := 153) d_Mo_pour_149 (by decide) ?_
      first | refine z_istore_6 d_Mo_pour_153 rfl ?_ | (refine z_forget_5 ?_; refine z_istore_6 d_Mo_pour_153 rfl ?_)
      refine z_iconst (a := nI 0) d_Mo_pour_155 (by decide) ?_
      first | refine z_istore_7 d_Mo_pour_156 rfl ?_ | (refine z_forget_6 ?_; refine z_istore_7 d_Mo_pour_156 rfl ?_)
      exact q0
  refine z_aload_0 d_Mo_pour_0 ?_
  refine z_iconst (a := nI 0) d_Mo_pour_1 (by decide) ?_
  refine z_putI d_Mo_pour_2 f_Mo_70 (by first | assumption | exact zS0_at (by assumption) (by omega) | exact zS0_at rfl (by omega)) ?_
  refine z_aload_0 d_Mo_pour_5 ?_
  refine z_iconst (a := nI 0) d_Mo_pour_6 (by decide) ?_
  refine z_putI d_Mo_pour_7 f_Mo_73 (by first | assumption | exact zS0_at (by assumption) (by omega) | exact zS0_at rfl (by omega)) ?_
  rw [← hI1]
  refine z_iload_1 d_Mo_pour_10 ?_
  refine z_if_lt (tgt := 28) d_Mo_pour_11 (by decide) (fun h => absurd h (nI_pos (by omega))) (fun _ => ?_)
  refine z_iload_1 d_Mo_pour_14 ?_
  refine z_iconst (a := nI 4) d_Mo_pour_15 (by decide) ?_
  refine z_icmp_ge (tgt := 28) d_Mo_pour_16 (by decide) (fun h => absurd h (nI_ge (by omega) (by decide))) (fun _ => ?_)
  refine z_iload_3 d_Mo_pour_19 ?_
  refine z_if_lt (tgt := 28) d_Mo_pour_20 (by decide) (fun h => absurd h (nI_pos (by omega))) (fun _ => ?_)
  refine z_iload_3 d_Mo_pour_23 ?_
  refine z_iconst (a := nI 4) d_Mo_pour_24 (by decide) ?_
  refine z_icmp_lt (tgt := 34) d_Mo_pour_25 (by decide) (fun _ => ?_) (fun h => absurd (nI_lt (by omega) (by decide)) h)
  refine z_aload_0 d_Mo_pour_34 ?_
  refine z_getR d_Mo_pour_35 f_Mo_17 (by first | assumption | exact zS0_at (by assumption) (by omega) | exact zS0_at rfl (by omega)) (by first | assumption | exact zS0_at (by assumption) (by omega) | exact zS0_at rfl (by omega)) ?_
  refine z_iload_1 d_Mo_pour_38 ?_
  first | refine z_ialdNv d_Mo_pour_39 (by first | assumption | exact zS0_at (by assumption) (by omega) | exact zS0_at rfl (by omega)) (by omega) (by first | decide | omega) (by first | assumption | ((try simp (disch := omega) only [zu_same, zu_ne, zcp_ne, zfl_ne]); first | assumption | rfl)) ?_ | refine z_iald d_Mo_pour_39 (by first | assumption | exact zS0_at (by assumption) (by omega) | exact zS0_at rfl (by omega)) (by first | assumption | exact zS0_at (by assumption) (by omega) | exact zS0_at rfl (by omega)) ?_
  refine z_if_lt (tgt := 52) d_Mo_pour_40 (by decide) (fun h => absurd h (nI_pos (by omega))) (fun _ => ?_)
  refine z_aload_0 d_Mo_pour_43 ?_
  refine z_getR d_Mo_pour_44 f_Mo_17 (by first | assumption | exact zS0_at (by assumption) (by omega) | exact zS0_at rfl (by omega)) (by first | assumption | exact zS0_at (by assumption) (by omega) | exact zS0_at rfl (by omega)) ?_
  refine z_iload_3 d_Mo_pour_47 ?_
  first | refine z_ialdNv d_Mo_pour_48 (by first | assumption | exact zS0_at (by assumption) (by omega) | exact zS0_at rfl (by omega)) (by omega) (by first | decide | omega) (by first | assumption | ((try simp (disch := omega) only [zu_same, zu_ne, zcp_ne, zfl_ne]); first | assumption | rfl)) ?_ | refine z_iald d_Mo_pour_48 (by first | assumption | exact zS0_at (by assumption) (by omega) | exact zS0_at rfl (by omega)) (by first | assumption | exact zS0_at (by assumption) (by omega) | exact zS0_at rfl (by omega)) ?_
  refine z_if_ge (tgt := 58) d_Mo_pour_49 (by decide) (fun _ => ?_) (fun h => absurd (nI_pos' (by omega)) h)
  refine z_aload_0 d_Mo_pour_58 ?_
  refine z_getR d_Mo_pour_59 f_Mo_13 (by first | assumption | exact zS0_at (by assumption) (by omega) | exact zS0_at rfl (by omega)) (by first | assumption | exact zS0_at (by assumption) (by omega) | exact zS0_at rfl (by omega)) ?_
  refine z_iload_1 d_Mo_pour_62 ?_
  first | refine z_ialdNv d_Mo_pour_63 (by first | assumption | exact zS0_at (by assumption) (by omega) | exact zS0_at rfl (by omega)) (by omega) (by first | decide | omega) (by first | assumption | ((try simp (disch := omega) only [zu_same, zu_ne, zcp_ne, zfl_ne]); first | assumption | rfl)) ?_ | refine z_iald d_Mo_pour_63 (by first | assumption | exact zS0_at (by assumption) (by omega) | exact zS0_at rfl (by omega)) (by first | assumption | exact zS0_at (by assumption) (by omega) | exact zS0_at rfl (by omega)) ?_
  refine z_aload_0 d_Mo_pour_64 ?_
  refine z_getR d_Mo_pour_65 f_Mo_13 (by first | assumption | exact zS0_at (by assumption) (by omega) | exact zS0_at rfl (by omega)) (by first | assumption | exact zS0_at (by assumption) (by omega) | exact zS0_at rfl (by omega)) ?_
  refine z_iload_3 d_Mo_pour_68 ?_
  first | refine z_ialdNv d_Mo_pour_69 (by first | assumption | exact zS0_at (by assumption) (by omega) | exact zS0_at rfl (by omega)) (by omega) (by first | decide | omega) (by first | assumption | ((try simp (disch := omega) only [zu_same, zu_ne, zcp_ne, zfl_ne]); first | assumption | rfl)) ?_ | refine z_iald d_Mo_pour_69 (by first | assumption | exact zS0_at (by assumption) (by omega) | exact zS0_at rfl (by omega)) (by first | assumption | exact zS0_at (by assumption) (by omega) | exact zS0_at rfl (by omega)) ?_
  refine z_icmp_eq (tgt := 80) d_Mo_pour_70 (by decide) (fun _ => ?_) (fun h => absurd rfl h)
  refine z_iload_5 d_Mo_pour_80 ?_
  refine z_if_ge (tgt := 92) d_Mo_pour_82 (by decide) (fun _ => ?_) (fun h => absurd (nI_pos' (by omega)) h)
  refine z_iload_2 d_Mo_pour_92 ?_
  refine z_if_lt (tgt := 136) d_Mo_pour_93 (by decide) (fun h => absurd h (nI_pos (by omega))) (fun _ => ?_)
  refine z_iload_4 d_Mo_pour_96 ?_
  refine z_if_lt (tgt := 136) d_Mo_pour_98 (by decide) (fun h => absurd h (nI_pos (by omega))) (fun _ => ?_)
  refine z_iload_2 d_Mo_pour_101 ?_
  refine z_i2l d_Mo_pour_102 ?_
  refine z_iload_5 d_Mo_pour_103 ?_
  refine z_i2l d_Mo_pour_105 ?_
  refine z_ladd d_Mo_pour_106 ?_
  refine z_aload_0 d_Mo_pour_107 ?_
  refine z_getR d_Mo_pour_108 f_Mo_17 (by first | assumption | exact zS0_at (by assumption) (by omega) | exact zS0_at rfl (by omega)) (by first | assumption | exact zS0_at (by assumption) (by omega) | exact zS0_at rfl (by omega)) ?_
  refine z_iload_1 d_Mo_pour_111 ?_
  first | refine z_ialdNv d_Mo_pour_112 (by first | assumption | exact zS0_at (by assumption) (by omega) | exact zS0_at rfl (by omega)) (by omega) (by first | decide | omega) (by first | assumption | ((try simp (disch := omega) only [zu_same, zu_ne, zcp_ne, zfl_ne]); first | assumption | rfl)) ?_ | refine z_iald d_Mo_pour_112 (by first | assumption | exact zS0_at (by assumption) (by omega) | exact zS0_at rfl (by omega)) (by first | assumption | exact zS0_at (by assumption) (by omega) | exact zS0_at rfl (by omega)) ?_
  refine z_i2l d_Mo_pour_113 ?_
  refine z_lcmp d_Mo_pour_114 ?_
  refine z_if_gt (tgt := 136) d_Mo_pour_115 (by decide) (fun h => absurd h (Int32.not_lt.mpr g1)) (fun _ => ?_)
  refine z_iload_4 d_Mo_pour_118 ?_
  refine z_i2l d_Mo_pour_120 ?_
  refine z_iload_5 d_Mo_pour_121 ?_
  refine z_i2l d_Mo_pour_123 ?_
  refine z_ladd d_Mo_pour_124 ?_
  refine z_aload_0 d_Mo_pour_125 ?_
  refine z_getR d_Mo_pour_126 f_Mo_17 (by first | assumption | exact zS0_at (by assumption) (by omega) | exact zS0_at rfl (by omega)) (by first | assumption | exact zS0_at (by assumption) (by omega) | exact zS0_at rfl (by omega)) ?_
  refine z_iload_3 d_Mo_pour_129 ?_
  first | refine z_ialdNv d_Mo_pour_130 (by first | assumption | exact zS0_at (by assumption) (by omega) | exact zS0_at rfl (by omega)) (by omega) (by first | decide | omega) (by first | assumption | ((try simp (disch := omega) only [zu_same, zu_ne, zcp_ne, zfl_ne]); first | assumption | rfl)) ?_ | refine z_iald d_Mo_pour_130 (by first | assumption | exact zS0_at (by assumption) (by omega) | exact zS0_at rfl (by omega)) (by first | assumption | exact zS0_at (by assumption) (by omega) | exact zS0_at rfl (by omega)) ?_
  refine z_i2l d_Mo_pour_131 ?_
  refine z_lcmp d_Mo_pour_132 ?_
  refine z_if_le (tgt := 142) d_Mo_pour_133 (by decide) (fun _ => ?_) (fun h => absurd g2 h)
  exact rest
theorem L_pour (h : zInv n w) : zEi G y_Tf_pour prog_1_method_8_code 8 (some .boolean) 2 [.ref 0, .int a, .int bi, .int c, .int bj, .int bm] w (fun r w1 => w1.2.2.2 = w.2.2.2 ∧ zEi G y_Mo_pour prog_14_method_16_code 9 (some .boolean) 2 [.ref 145, .int a, .int bi, .int c, .int bj, .int bm] w1 (fun r' w2 => r' = r ∧ zInv (n + 1) w2)) := by
  obtain ⟨f, d, nt, np, nl, nn, fed, mk, I, J, P, S, rfl, Z, X⟩ := h
  have M := clOk_M Z
  have hf := clOk_f Z
  have N := stR_fen X
  have N0 := stR_mod X
  have fm := stR_fm X
  obtain ⟨⟨⟨a1, r1, b1⟩, ⟨a2, r2, b2⟩, ⟨a3, r3, b3⟩, ⟨a4, r4, b4⟩⟩, ⟨⟨o, ob, ao, ro⟩, r5⟩, fw, fp, ft, fz⟩ := id fm
  by_cases h : zin a 4 ∧ zin c 4
  rotate_left
  · have h' : ¬ zin a 4 ∨ ¬ zin c 4 := by
      by_cases ha : zin a 4
      · exact Or.inr (fun q => h ⟨ha, q⟩)
      · exact Or.inl ha
    exact L_q Z X (t_Tf_pour_o Z h') (fun I' J' e _ => ⟨_, rfl, t_Mo_pour_o M (modIn_c N0 (e 150 (by decide))) h'⟩)
  obtain ⟨⟨t, ht, rfl⟩, u, hu, rfl⟩ := h
  have mis : ∀ (h1 : I (3 + 2 * t) 0 = nI 0 ∨ I (3 + 2 * u) 0 = nI 0) (h2 : I 147 t = -1 ∨ I 147 u = -1), zEi G y_Tf_pour prog_1_method_8_code 8 (some .boolean) 2 [.ref 0, .int (nI t), .int bi, .int (nI u), .int bj, .int bm] (I, J, P, S) (fun r w1 => w1.2.2.2 = S ∧ zEi G y_Mo_pour prog_14_method_16_code 9 (some .boolean) 2 [.ref 145, .int (nI t), .int bi, .int (nI u), .int bj, .int bm] w1 (fun r' w2 => r' = r ∧ zInv (n + 1) w2)) := fun h1 h2 => L_q Z X (t_Tf_pour_m Z ht hu h1) (fun I' J' e _ => ⟨_, rfl, t_Mo_pour_m M (modIn_c N0 (e 150 (by decide))) ht hu (by rw [e 147 (by decide)]; exact h2)⟩)
  rcases X.2.1 t ht with ⟨h1, h2⟩ | ⟨k, l, hk3, hl6, q1, ⟨q2, q3⟩, ⟨q4, q5⟩, q6⟩
  · exact mis (Or.inl h1) (Or.inl h2)
  rcases X.2.1 u hu with ⟨h1, h2⟩ | ⟨k', l', hk3', hl6', s1, ⟨s2, s3⟩, ⟨s4, s5⟩, s6⟩
  · exact mis (Or.inr h1) (Or.inr h2)
  by_cases hs : k = k'
  rotate_left
  · exact L_q Z X (t_Tf_pour_s Z ht hu q1 q2 q4 s1 s2 s4 hk3 hk3' hl6 hl6' hs) (fun I' J' e _ => ⟨_, rfl, t_Mo_pour_s M (modIn_c N0 (e 150 (by decide))) ht hu (by rw [e 146 (by decide)]; exact q3) (by rw [e 147 (by decide)]; exact q5) (by rw [e 146 (by decide)]; exact s3) (by rw [e 147 (by decide)]; exact s5) hk3 hk3' hl6 hl6' hs⟩)
  subst hs
  by_cases hn : bm < 0
  · exact L_q Z X (t_Tf_pour_n Z ht hu q1 q2 q4 s1 s2 s4 hk3 hl6 hl6' hn) (fun I' J' e _ => ⟨_, rfl, t_Mo_pour_n M (modIn_c N0 (e 150 (by decide))) ht hu (by rw [e 146 (by decide)]; exact q3) (by rw [e 147 (by decide)]; exact q5) (by rw [e 146 (by decide)]; exact s3) (by rw [e 147 (by decide)]; exact s5) hk3 hl6 hl6' hn⟩)
  by_cases hr : hrun bi bm l ∧ hrun bj bm l'
  rotate_left
  · exact L_q Z X (t_Tf_pour_x Z ht hu q1 q2 q4 s1 s2 s4 hk3 hl6 hl6' hn hr) (fun I' J' e _ => ⟨_, rfl, t_Mo_pour_x M (modIn_c N0 (e 150 (by decide))) ht hu (by rw [e 146 (by decide)]; exact q3) (by rw [e 147 (by decide)]; exact q5) (by rw [e 146 (by decide)]; exact s3) (by rw [e 147 (by decide)]; exact s5) hk3 hl6 hl6' hn hr⟩)
  obtain ⟨p, m, hp, rfl, rfl⟩ := hrun_N hl6 hn hr.1
  obtain ⟨q, m', hq, rfl, hmm⟩ := hrun_N hl6' hn hr.2
  obtain rfl : m = m' := (nI_eq (by omega) (by omega)).mp hmm
  refine zEi_mono (t_Tf_pour Z ht hu q1 q2 q4 s1 s2 s4 hk3 hl6 hl6' hp hq) ?_
  rintro r w ⟨rfl, rfl⟩
  refine ⟨rfl, zEi_mono (t_Mo_pour M (modIn_c N0 (zu_row _ _ _ _ (by decide))) ht hu (by rw [zu_row _ _ _ _ (by decide)]; exact q3) (by rw [zu_row _ _ _ _ (by decide)]; exact q5) (by rw [zu_row _ _ _ _ (by decide)]; exact s3) (by rw [zu_row _ _ _ _ (by decide)]; exact s5) hk3 hl6 hl6' hp hq) ?_⟩
  rintro r w ⟨rfl, I1, hD, rfl⟩
  have er : ∀ a, a ≠ 145 → a ≠ 0 → I1 a = I a := fun a g1 g2 => by rw [hD.2.2.2 a g1, zu_row _ _ _ _ g2]
  refine ⟨rfl, L_tr (t := u) (Ic := I) Z X hu (fun _ _ => rfl) hD (fun _ _ _ => rfl) (fun v hv => by rw [er 146 (by decide) (by decide), er 147 (by decide) (by decide)]; exact ⟨rfl, rfl⟩) (fun a g1 g2 => by rw [zcp_ne g2, zcp_ne (by omega)]) (fun v p' hv h4 hp' => by rw [zcp_out (by omega), zcp_ne (by omega)]) (Or.inr ⟨k, l', hk3, hl6', ?_, ⟨?_, ?_⟩, ⟨?_, ?_⟩, fun p' hp' => ?_⟩)⟩
  · rw [er _ (by omega) (by omega)]; exact s1
  · rw [er _ (by omega) (by omega)]; exact s2
  · rw [er _ (by omega) (by omega)]; exact s3
  · rw [er _ (by omega) (by omega)]; exact s4
  · rw [er _ (by omega) (by omega)]; exact s5
  · rw [show 4 + 2 * u = 3 + 2 * u + 1 by omega, zcp_ne (x := 3 + 2 * u + 1) (by omega)]
    by_cases e : q ≤ p' ∧ p' < q + m
    · rw [zcp_in (by omega) (by omega), zcp_in e.1 e.2, zcp_ne (by omega), show 60 * t + p + (60 * u + p' - (60 * u + q)) = 60 * t + (p + (p' - q)) by omega, q6 _ (by omega), show 4 + 2 * t = 3 + 2 * t + 1 by omega]
    · rw [zcp_out (by omega), zcp_ne (by omega), zcp_out e, s6 p' hp', show 4 + 2 * u = 3 + 2 * u + 1 by omega]
end TY4
