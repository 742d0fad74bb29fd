/-! small deeds, both sides, on -/
section OD1
variable {G : zG} {I I' : Nat → Nat → Int32} {J J' : Nat → Nat → Int64} {P : Nat → Nat → Option Nat} {S : List (Nat × Nat)} {f d nt np nl nn n fed mk st : Nat} {a b : Int32} {w : zW}
theorem t_Tf_lane_o (Z : clOk f d P S) (N : fenIn I f nt np nl nn) (h : ¬ zin a np ∨ ¬ zin b np) : zEi G y_Tf_lane prog_1_method_24_code 3 (some .int) 3 [.ref 0, .int a, .int b] (I, J, P, S) (fun r w => r = -1 ∧ cW I J P S 2 w) := by
  obtain ⟨⟨c0, c3, c1s⟩, ⟨c5, c2s, ctr⟩, ⟨c6, c11s, c11, c13s⟩, ⟨c7, c15s, c15⟩, ⟨c8, c16s, c16a, c16b, c17s⟩, ⟨c9, c10, cfd, F, Fd⟩, ⟨c11b, Ft⟩, ⟨c12, c69s, cmk⟩, ⟨c14, c121s, c121, c122s⟩, ⟨c15b, c123s, c123, c124s⟩, ⟨c16, c125s, c125, c126s⟩, ⟨c17, c127s, c127, c128s, ctb⟩, ⟨c18, c139s, c139, c140s⟩, ⟨c19, c141s, ⟨c141a, c142s⟩, ⟨c141b, c143s⟩, ⟨c141c, c144s⟩⟩, M⟩ := id Z
  obtain ⟨F0, ⟨F8, F8s⟩, ⟨F9, F9s⟩, ⟨F10, F10s⟩, ⟨F11, F11s⟩, ⟨F12, F12s⟩, ⟨F13, F13s⟩, ⟨F14, F14s⟩, ⟨F15, F15s⟩, ⟨F16, F16s⟩, ⟨F17, F17s⟩, ⟨F18, F18s⟩, ⟨F19, F19s⟩, ⟨Y3, Y3s⟩, ⟨Y4, Y4s⟩, ⟨Y5, Y5s⟩, ⟨Y6, Y6s⟩⟩ := id F
  obtain ⟨⟨n1, n1b⟩, ⟨n2, n2b⟩, ⟨n3, n3b⟩, ⟨n4, n4b⟩, nof, non⟩ := id N
  refine zEi_of (lv := [some (.ref 0), some (.int a), some (.int b)]) (by decide) rfl (Nat.le_of_ble_eq_true rfl) ?_
  rcases h with h | h
  · refine z_aload_0 d_Tf_lane_0 ?_
    refine z_iload_1 d_Tf_lane_1 ?_
    refine z_Vi1 d_Tf_lane_2 k_Tf_234 (by first | assumption | exact zS0_at (by assumption) (by omega) | exact zS0_at rfl (by omega)) (t_Tf_noPerson Z N) ⟨Nat.le_of_ble_eq_true rfl, Nat.le_of_ble_eq_true rfl, Nat.le_of_ble_eq_true rfl, Nat.le_of_ble_eq_true rfl⟩ (Nat.le_of_ble_eq_true rfl) ?_
    intro r w hq
    rcases hq with ⟨⟨hz2, rfl⟩ | ⟨hz2, rfl⟩, rfl⟩
    · first
      | contradiction
      | ( skip
          refine z_if_ne (tgt := 16) d_Tf_lane_5 (by decide) (fun _ => ?_) (fun h => absurd h (by decide))
          refine z_aload_0 d_Tf_lane_16 ?_
          refine z_iconst (a := nI 2) d_Tf_lane_17 (by decide) ?_
          refine z_Vi1 d_Tf_lane_18 k_Tf_138 (by first | assumption | exact zS0_at (by assumption) (by omega) | exact zS0_at rfl (by omega)) (t_Tf_fail (by assumption)) ⟨Nat.le_of_ble_eq_true rfl, Nat.le_of_ble_eq_true rfl, Nat.le_of_ble_eq_true rfl, Nat.le_of_ble_eq_true rfl⟩ (Nat.le_of_ble_eq_true rfl) ?_
          intro r w hq
          obtain ⟨rfl, rfl⟩ := hq
          refine z_reti d_Tf_lane_21 ?_
          exact ⟨by first | rfl | assumption, cW_0⟩)
    · first
      | contradiction
      | ( skip
          refine z_if_ne (tgt := 16) d_Tf_lane_5 (by decide) (fun h => absurd h (by decide)) (fun _ => ?_)
          refine z_aload_0 d_Tf_lane_8 ?_
          refine z_iload_2 d_Tf_lane_9 ?_
          refine z_Vi1 d_Tf_lane_10 k_Tf_234 (by first | assumption | exact zS0_at (by assumption) (by omega) | exact zS0_at rfl (by omega)) (t_Tf_noPerson Z N) ⟨Nat.le_of_ble_eq_true rfl, Nat.le_of_ble_eq_true rfl, Nat.le_of_ble_eq_true rfl, Nat.le_of_ble_eq_true rfl⟩ (Nat.le_of_ble_eq_true rfl) ?_
          intro r w hq
          rcases hq with ⟨⟨hz10, rfl⟩ | ⟨hz10, rfl⟩, rfl⟩
          · first
            | contradiction
            | ( skip
                refine z_if_eq (tgt := 22) d_Tf_lane_13 (by decide) (fun h => absurd h (by decide)) (fun _ => ?_)
                refine z_aload_0 d_Tf_lane_16 ?_
                refine z_iconst (a := nI 2) d_Tf_lane_17 (by decide) ?_
                refine z_Vi1 d_Tf_lane_18 k_Tf_138 (by first | assumption | exact zS0_at (by assumption) (by omega) | exact zS0_at rfl (by omega)) (t_Tf_fail (by assumption)) ⟨Nat.le_of_ble_eq_true rfl, Nat.le_of_ble_eq_true rfl, Nat.le_of_ble_eq_true rfl, Nat.le_of_ble_eq_true rfl⟩ (Nat.le_of_ble_eq_true rfl) ?_
                intro r w hq
                obtain ⟨rfl, rfl⟩ := hq
                refine z_reti d_Tf_lane_21 ?_
                exact ⟨by first | rfl | assumption, cW_0⟩)
          · first
            | contradiction
            | ( skip
                refine z_if_eq (tgt := 22) d_Tf_lane_13 (by decide) (fun _ => ?_) (fun h => absurd h (by decide))
                contradiction))
  · refine z_aload_0 d_Tf_lane_0 ?_
    refine z_iload_1 d_Tf_lane_1 ?_
    refine z_Vi1 d_Tf_lane_2 k_Tf_234 (by first | assumption | exact zS0_at (by assumption) (by omega) | exact zS0_at rfl (by omega)) (t_Tf_noPerson Z N) ⟨Nat.le_of_ble_eq_true rfl, Nat.le_of_ble_eq_true rfl, Nat.le_of_ble_eq_true rfl, Nat.le_of_ble_eq_true rfl⟩ (Nat.le_of_ble_eq_true rfl) ?_
    intro r w hq
    rcases hq with ⟨⟨hz2, rfl⟩ | ⟨hz2, rfl⟩, rfl⟩
    · first
      | contradiction
      | ( skip
          refine z_if_ne (tgt := 16) d_Tf_lane_5 (by decide) (fun _ => ?_) (fun h => absurd h (by decide))
          refine z_aload_0 d_Tf_lane_16 ?_
          refine z_iconst (a := nI 2) d_Tf_lane_17 (by decide) ?_
          refine z_Vi1 d_Tf_lane_18 k_Tf_138 (by first | assumption | exact zS0_at (by assumption) (by omega) | exact zS0_at rfl (by omega)) (t_Tf_fail (by assumption)) ⟨Nat.le_of_ble_eq_true rfl, Nat.le_of_ble_eq_true rfl, Nat.le_of_ble_eq_true rfl, Nat.le_of_ble_eq_true rfl⟩ (Nat.le_of_ble_eq_true rfl) ?_
          intro r w hq
          obtain ⟨rfl, rfl⟩ := hq
          refine z_reti d_Tf_lane_21 ?_
          exact ⟨by first | rfl | assumption, cW_0⟩)
    · first
      | contradiction
      | ( skip
          refine z_if_ne (tgt := 16) d_Tf_lane_5 (by decide) (fun h => absurd h (by decide)) (fun _ => ?_)
          refine z_aload_0 d_Tf_lane_8 ?_
          refine z_iload_2 d_Tf_lane_9 ?_
          refine z_Vi1 d_Tf_lane_10 k_Tf_234 (by first | assumption | exact zS0_at (by assumption) (by omega) | exact zS0_at rfl (by omega)) (t_Tf_noPerson Z N) ⟨Nat.le_of_ble_eq_true rfl, Nat.le_of_ble_eq_true rfl, Nat.le_of_ble_eq_true rfl, Nat.le_of_ble_eq_true rfl⟩ (Nat.le_of_ble_eq_true rfl) ?_
          intro r w hq
          rcases hq with ⟨⟨hz10, rfl⟩ | ⟨hz10, rfl⟩, rfl⟩
          · first
            | contradiction
            | ( skip
                refine z_if_eq (tgt := 22) d_Tf_lane_13 (by decide) (fun h => absurd h (by decide)) (fun _ => ?_)
                refine z_aload_0 d_Tf_lane_16 ?_
                refine z_iconst (a := nI 2) d_Tf_lane_17 (by decide) ?_
                refine z_Vi1 d_Tf_lane_18 k_Tf_138 (by first | assumption | exact zS0_at (by assumption) (by omega) | exact zS0_at rfl (by omega)) (t_Tf_fail (by assumption)) ⟨Nat.le_of_ble_eq_true rfl, Nat.le_of_ble_eq_true rfl, Nat.le_of_ble_eq_true rfl, Nat.le_of_ble_eq_true rfl⟩ (Nat.le_of_ble_eq_true rfl) ?_
                intro r w hq
                obtain ⟨rfl, rfl⟩ := hq
                refine z_reti d_Tf_lane_21 ?_
                exact ⟨by first | rfl | assumption, cW_0⟩)
          · first
            | contradiction
            | ( skip
                refine z_if_eq (tgt := 22) d_Tf_lane_13 (by decide) (fun _ => ?_) (fun h => absurd h (by decide))
                contradiction))
theorem t_Mo_lane_o (M : modOk P S) (N : modIn I nt np nl nn) (h : ¬ zin a np ∨ ¬ zin b np) : zEi G y_Mo_lane prog_14_method_99_code 3 (some .int) 4 [.ref 145, .int a, .int b] (I, J, P, S) (fun r w => r = -1 ∧ mW I J P S 2 w) := by
  obtain ⟨M0, ⟨M4, M4s⟩, ⟨M5, M5s⟩, ⟨M6, M6s⟩, ⟨M7, M7s⟩, ⟨M20, M20s⟩, ⟨M21, M21s⟩, ⟨M22, M22s⟩, ⟨M26, M26s⟩, ⟨M27, M27s⟩, ⟨M28, M28s⟩, ⟨M30, M30s⟩, ⟨M34, M34s⟩, ⟨M36, M36s⟩, ⟨M37, M37s⟩⟩ := id M
  obtain ⟨I1, hI1, N1, h1, h0, e150, er, ek⟩ := mo_beg N
  obtain ⟨⟨m0, m0b⟩, ⟨m1, m1b⟩, ⟨m2, m2b⟩, ⟨m3, m3b⟩, mof, mon⟩ := id N1
  refine zEi_of (lv := [some (.ref 145), some (.int a), some (.int b)]) (by decide) rfl (Nat.le_of_ble_eq_true rfl) ?_
  refine z_aload_0 d_Mo_lane_0 ?_
  refine z_iconst (a := nI 0) d_Mo_lane_1 (by decide) ?_
  refine z_putI d_Mo_lane_2 f_Mo_70 (by first | assumption | exact zS0_at (by assumption) (by omega) | exact zS0_at rfl (by omega)) ?_
  refine z_aload_0 d_Mo_lane_5 ?_
  refine z_iconst (a := nI 0) d_Mo_lane_6 (by decide) ?_
  refine z_putI d_Mo_lane_7 f_Mo_73 (by first | assumption | exact zS0_at (by assumption) (by omega) | exact zS0_at rfl (by omega)) ?_
  rw [← hI1]
  rcases h with h | h
  · refine z_aload_0 d_Mo_lane_10 ?_
    refine z_iload_1 d_Mo_lane_11 ?_
    refine z_i2l d_Mo_lane_12 ?_
    refine z_Vi1 d_Mo_lane_13 k_Mo_336 (by first | assumption | exact zS0_at (by assumption) (by omega) | exact zS0_at rfl (by omega)) (t_Mo_isPersonAtI M N1) ⟨Nat.le_of_ble_eq_true rfl, Nat.le_of_ble_eq_true rfl, Nat.le_of_ble_eq_true rfl, Nat.le_of_ble_eq_true rfl⟩ (Nat.le_of_ble_eq_true rfl) ?_
    intro r w hq
    rcases hq with ⟨⟨hz13, rfl⟩ | ⟨hz13, rfl⟩, rfl⟩
    · first
      | contradiction
      | ( skip
          refine z_if_eq (tgt := 28) d_Mo_lane_16 (by decide) (fun h => absurd h (by decide)) (fun _ => ?_)
          refine z_aload_0 d_Mo_lane_19 ?_
          refine z_iload_2 d_Mo_lane_20 ?_
          refine z_i2l d_Mo_lane_21 ?_
          refine z_Vi1 d_Mo_lane_22 k_Mo_336 (by first | assumption | exact zS0_at (by assumption) (by omega) | exact zS0_at rfl (by omega)) (t_Mo_isPersonAtI M N1) ⟨Nat.le_of_ble_eq_true rfl, Nat.le_of_ble_eq_true rfl, Nat.le_of_ble_eq_true rfl, Nat.le_of_ble_eq_true rfl⟩ (Nat.le_of_ble_eq_true rfl) ?_
          intro r w hq
          rcases hq with ⟨⟨hz22, rfl⟩ | ⟨hz22, rfl⟩, rfl⟩
          · first
            | contradiction
            | ( skip
                refine z_if_ne (tgt := 34) d_Mo_lane_25 (by decide) (fun _ => ?_) (fun h => absurd h (by decide))
                contradiction)
          · first
            | contradiction
            | ( skip
                refine z_if_ne (tgt := 34) d_Mo_lane_25 (by decide) (fun h => absurd h (by decide)) (fun _ => ?_)
                refine z_aload_0 d_Mo_lane_28 ?_
                refine z_iconst (a := nI 2) d_Mo_lane_29 (by decide) ?_
                refine z_Vi1 d_Mo_lane_30 k_Mo_327 (by first | assumption | exact zS0_at (by assumption) (by omega) | exact zS0_at rfl (by omega)) (t_Mo_refuse (by assumption)) ⟨Nat.le_of_ble_eq_true rfl, Nat.le_of_ble_eq_true rfl, Nat.le_of_ble_eq_true rfl, Nat.le_of_ble_eq_true rfl⟩ (Nat.le_of_ble_eq_true rfl) ?_
                intro r w hq
                obtain ⟨rfl, rfl⟩ := hq
                refine z_reti d_Mo_lane_33 ?_
                exact ⟨by first | rfl | assumption | (rw [e150]), _, _, rfl, (by repeat (first | exact h1 | refine mqF_z ?_ (by decide))), mqJ_r, (by first | exact zu_same _ _ _ _ | exact h0)⟩))
    · first
      | contradiction
      | ( skip
          refine z_if_eq (tgt := 28) d_Mo_lane_16 (by decide) (fun _ => ?_) (fun h => absurd h (by decide))
          refine z_aload_0 d_Mo_lane_28 ?_
          refine z_iconst (a := nI 2) d_Mo_lane_29 (by decide) ?_
          refine z_Vi1 d_Mo_lane_30 k_Mo_327 (by first | assumption | exact zS0_at (by assumption) (by omega) | exact zS0_at rfl (by omega)) (t_Mo_refuse (by assumption)) ⟨Nat.le_of_ble_eq_true rfl, Nat.le_of_ble_eq_true rfl, Nat.le_of_ble_eq_true rfl, Nat.le_of_ble_eq_true rfl⟩ (Nat.le_of_ble_eq_true rfl) ?_
          intro r w hq
          obtain ⟨rfl, rfl⟩ := hq
          refine z_reti d_Mo_lane_33 ?_
          exact ⟨by first | rfl | assumption | (rw [e150]), _, _, rfl, (by repeat (first | exact h1 | refine mqF_z ?_ (by decide))), mqJ_r, (by first | exact zu_same _ _ _ _ | exact h0)⟩)
  · refine z_aload_0 d_Mo_lane_10 ?_
    refine z_iload_1 d_Mo_lane_11 ?_
    refine z_i2l d_Mo_lane_12 ?_
    refine z_Vi1 d_Mo_lane_13 k_Mo_336 (by first | assumption | exact zS0_at (by assumption) (by omega) | exact zS0_at rfl (by omega)) (t_Mo_isPersonAtI M N1) ⟨Nat.le_of_ble_eq_true rfl, Nat.le_of_ble_eq_true rfl, Nat.le_of_ble_eq_true rfl, Nat.le_of_ble_eq_true rfl⟩ (Nat.le_of_ble_eq_true rfl) ?_
    intro r w hq
    rcases hq with ⟨⟨hz13, rfl⟩ | ⟨hz13, rfl⟩, rfl⟩
    · first
      | contradiction
      | ( skip
          refine z_if_eq (tgt := 28) d_Mo_lane_16 (by decide) (fun h => absurd h (by decide)) (fun _ => ?_)
          refine z_aload_0 d_Mo_lane_19 ?_
          refine z_iload_2 d_Mo_lane_20 ?_
          refine z_i2l d_Mo_lane_21 ?_
          refine z_Vi1 d_Mo_lane_22 k_Mo_336 (by first | assumption | exact zS0_at (by assumption) (by omega) | exact zS0_at rfl (by omega)) (t_Mo_isPersonAtI M N1) ⟨Nat.le_of_ble_eq_true rfl, Nat.le_of_ble_eq_true rfl, Nat.le_of_ble_eq_true rfl, Nat.le_of_ble_eq_true rfl⟩ (Nat.le_of_ble_eq_true rfl) ?_
          intro r w hq
          rcases hq with ⟨⟨hz22, rfl⟩ | ⟨hz22, rfl⟩, rfl⟩
          · first
            | contradiction
            | ( skip
                refine z_if_ne (tgt := 34) d_Mo_lane_25 (by decide) (fun _ => ?_) (fun h => absurd h (by decide))
                contradiction)
          · first
            | contradiction
            | ( skip
                refine z_if_ne (tgt := 34) d_Mo_lane_25 (by decide) (fun h => absurd h (by decide)) (fun _ => ?_)
                refine z_aload_0 d_Mo_lane_28 ?_
                refine z_iconst (a := nI 2) d_Mo_lane_29 (by decide) ?_
                refine z_Vi1 d_Mo_lane_30 k_Mo_327 (by first | assumption | exact zS0_at (by assumption) (by omega) | exact zS0_at rfl (by omega)) (t_Mo_refuse (by assumption)) ⟨Nat.le_of_ble_eq_true rfl, Nat.le_of_ble_eq_true rfl, Nat.le_of_ble_eq_true rfl, Nat.le_of_ble_eq_true rfl⟩ (Nat.le_of_ble_eq_true rfl) ?_
                intro r w hq
                obtain ⟨rfl, rfl⟩ := hq
                refine z_reti d_Mo_lane_33 ?_
                exact ⟨by first | rfl | assumption | (rw [e150]), _, _, rfl, (by repeat (first | exact h1 | refine mqF_z ?_ (by decide))), mqJ_r, (by first | exact zu_same _ _ _ _ | exact h0)⟩))
    · first
      | contradiction
      | ( skip
          refine z_if_eq (tgt := 28) d_Mo_lane_16 (by decide) (fun _ => ?_) (fun h => absurd h (by decide))
          refine z_aload_0 d_Mo_lane_28 ?_
          refine z_iconst (a := nI 2) d_Mo_lane_29 (by decide) ?_
          refine z_Vi1 d_Mo_lane_30 k_Mo_327 (by first | assumption | exact zS0_at (by assumption) (by omega) | exact zS0_at rfl (by omega)) (t_Mo_refuse (by assumption)) ⟨Nat.le_of_ble_eq_true rfl, Nat.le_of_ble_eq_true rfl, Nat.le_of_ble_eq_true rfl, Nat.le_of_ble_eq_true rfl⟩ (Nat.le_of_ble_eq_true rfl) ?_
          intro r w hq
          obtain ⟨rfl, rfl⟩ := hq
          refine z_reti d_Mo_lane_33 ?_
          exact ⟨by first | rfl | assumption | (rw [e150]), _, _, rfl, (by repeat (first | exact h1 | refine mqF_z ?_ (by decide))), mqJ_r, (by first | exact zu_same _ _ _ _ | exact h0)⟩)
theorem t_Tf_lane_s {p : Nat} (Z : clOk f d P S) (N : fenIn I f nt np nl nn) (hp : p < np) : zEi G y_Tf_lane prog_1_method_24_code 3 (some .int) 3 [.ref 0, .int (nI p), .int (nI p)] (I, J, P, S) (fun r w => r = -1 ∧ cW I J P S 5 w) := by
  obtain ⟨⟨c0, c3, c1s⟩, ⟨c5, c2s, ctr⟩, ⟨c6, c11s, c11, c13s⟩, ⟨c7, c15s, c15⟩, ⟨c8, c16s, c16a, c16b, c17s⟩, ⟨c9, c10, cfd, F, Fd⟩, ⟨c11b, Ft⟩, ⟨c12, c69s, cmk⟩, ⟨c14, c121s, c121, c122s⟩, ⟨c15b, c123s, c123, c124s⟩, ⟨c16, c125s, c125, c126s⟩, ⟨c17, c127s, c127, c128s, ctb⟩, ⟨c18, c139s, c139, c140s⟩, ⟨c19, c141s, ⟨c141a, c142s⟩, ⟨c141b, c143s⟩, ⟨c141c, c144s⟩⟩, M⟩ := id Z
  obtain ⟨F0, ⟨F8, F8s⟩, ⟨F9, F9s⟩, ⟨F10, F10s⟩, ⟨F11, F11s⟩, ⟨F12, F12s⟩, ⟨F13, F13s⟩, ⟨F14, F14s⟩, ⟨F15, F15s⟩, ⟨F16, F16s⟩, ⟨F17, F17s⟩, ⟨F18, F18s⟩, ⟨F19, F19s⟩, ⟨Y3, Y3s⟩, ⟨Y4, Y4s⟩, ⟨Y5, Y5s⟩, ⟨Y6, Y6s⟩⟩ := id F
  obtain ⟨⟨n1, n1b⟩, ⟨n2, n2b⟩, ⟨n3, n3b⟩, ⟨n4, n4b⟩, nof, non⟩ := id N
  have hz : zin (nI p) np := ⟨p, by omega, rfl⟩
  refine zEi_of (lv := [some (.ref 0), some (.int (nI p)), some (.int (nI p))]) (by decide) rfl (Nat.le_of_ble_eq_true rfl) ?_
  refine z_aload_0 d_Tf_lane_0 ?_
  refine z_iload_1 d_Tf_lane_1 ?_
  refine z_Vi1 d_Tf_lane_2 k_Tf_234 (by first | assumption | exact zS0_at (by assumption) (by omega) | exact zS0_at rfl (by omega)) (t_Tf_noPerson Z N) ⟨Nat.le_of_ble_eq_true rfl, Nat.le_of_ble_eq_true rfl, Nat.le_of_ble_eq_true rfl, Nat.le_of_ble_eq_true rfl⟩ (Nat.le_of_ble_eq_true rfl) ?_
  intro r w hq
  rcases hq with ⟨⟨hz2, rfl⟩ | ⟨hz2, rfl⟩, rfl⟩
  · first
    | contradiction
    | ( skip
        refine z_if_ne (tgt := 16) d_Tf_lane_5 (by decide) (fun _ => ?_) (fun h => absurd h (by decide))
        refine z_aload_0 d_Tf_lane_16 ?_
        refine z_iconst (a := nI 2) d_Tf_lane_17 (by decide) ?_
        refine z_Vi1 d_Tf_lane_18 k_Tf_138 (by first | assumption | exact zS0_at (by assumption) (by omega) | exact zS0_at rfl (by omega)) (t_Tf_fail (by assumption)) ⟨Nat.le_of_ble_eq_true rfl, Nat.le_of_ble_eq_true rfl, Nat.le_of_ble_eq_true rfl, Nat.le_of_ble_eq_true rfl⟩ (Nat.le_of_ble_eq_true rfl) ?_
        intro r w hq
        obtain ⟨rfl, rfl⟩ := hq
        refine z_reti d_Tf_lane_21 ?_
        exact ⟨by first | rfl | assumption, cW_0⟩)
  · first
    | contradiction
    | ( skip
        refine z_if_ne (tgt := 16) d_Tf_lane_5 (by decide) (fun h => absurd h (by decide)) (fun _ => ?_)
        refine z_aload_0 d_Tf_lane_8 ?_
        refine z_iload_2 d_Tf_lane_9 ?_
        refine z_Vi1 d_Tf_lane_10 k_Tf_234 (by first | assumption | exact zS0_at (by assumption) (by omega) | exact zS0_at rfl (by omega)) (t_Tf_noPerson Z N) ⟨Nat.le_of_ble_eq_true rfl, Nat.le_of_ble_eq_true rfl, Nat.le_of_ble_eq_true rfl, Nat.le_of_ble_eq_true rfl⟩ (Nat.le_of_ble_eq_true rfl) ?_
        intro r w hq
        rcases hq with ⟨⟨hz10, rfl⟩ | ⟨hz10, rfl⟩, rfl⟩
        · first
          | contradiction
          | ( skip
              refine z_if_eq (tgt := 22) d_Tf_lane_13 (by decide) (fun h => absurd h (by decide)) (fun _ => ?_)
              refine z_aload_0 d_Tf_lane_16 ?_
              refine z_iconst (a := nI 2) d_Tf_lane_17 (by decide) ?_
              refine z_Vi1 d_Tf_lane_18 k_Tf_138 (by first | assumption | exact zS0_at (by assumption) (by omega) | exact zS0_at rfl (by omega)) (t_Tf_fail (by assumption)) ⟨Nat.le_of_ble_eq_true rfl, Nat.le_of_ble_eq_true rfl, Nat.le_of_ble_eq_true rfl, Nat.le_of_ble_eq_true rfl⟩ (Nat.le_of_ble_eq_true rfl) ?_
              intro r w hq
              obtain ⟨rfl, rfl⟩ := hq
              refine z_reti d_Tf_lane_21 ?_
              exact ⟨by first | rfl | assumption, cW_0⟩)
        · first
          | contradiction
          | ( skip
              refine z_if_eq (tgt := 22) d_Tf_lane_13 (by decide) (fun _ => ?_) (fun h => absurd h (by decide))
              refine z_iload_1 d_Tf_lane_22 ?_
              refine z_iload_2 d_Tf_lane_23 ?_
              refine z_icmp_ne (tgt := 33) d_Tf_lane_24 (by decide) (fun h24 => ?_) (fun h24 => ?_)
              · first
                | (simp (disch := omega) only [← nI_0, nI_leI, nI_ltI, nI_eq, not_true_eq_false, not_false_eq_true] at h24; done)
                | (simp (disch := omega) only [← nI_0, nI_leI, nI_ltI, nI_eq, not_true_eq_false, not_false_eq_true] at h24; omega)
                | contradiction
                | exact absurd h24 (Int32.not_lt.mpr (by assumption))
                | exact absurd h24 (Int32.not_le.mpr (by assumption))
                | exact absurd h24 (by decide)
                | exact absurd (by decide) h24
                | ( try simp (disch := omega) only [← nI_0, nI_leI, nI_ltI, nI_eq, not_true_eq_false, not_false_eq_true] at h24
                    (try have h24b := zbit_n0.mp h24); (try have h24b := zbit_p0.mp h24)
                    exact absurd rfl (by assumption))
              · first
                | (simp (disch := omega) only [← nI_0, nI_leI, nI_ltI, nI_eq, not_true_eq_false, not_false_eq_true] at h24; done)
                | (simp (disch := omega) only [← nI_0, nI_leI, nI_ltI, nI_eq, not_true_eq_false, not_false_eq_true] at h24; omega)
                | contradiction
                | exact absurd h24 (Int32.not_lt.mpr (by assumption))
                | exact absurd h24 (Int32.not_le.mpr (by assumption))
                | exact absurd h24 (by decide)
                | exact absurd (by decide) h24
                | ( try simp (disch := omega) only [← nI_0, nI_leI, nI_ltI, nI_eq, not_true_eq_false, not_false_eq_true] at h24
                    (try have h24b := zbit_n0.mp h24); (try have h24b := zbit_p0.mp h24)
                    refine z_aload_0 d_Tf_lane_27 ?_
                    refine z_iconst (a := nI 5) d_Tf_lane_28 (by decide) ?_
                    refine z_Vi1 d_Tf_lane_29 k_Tf_138 (by first | assumption | exact zS0_at (by assumption) (by omega) | exact zS0_at rfl (by omega)) (t_Tf_fail (by assumption)) ⟨Nat.le_of_ble_eq_true rfl, Nat.le_of_ble_eq_true rfl, Nat.le_of_ble_eq_true rfl, Nat.le_of_ble_eq_true rfl⟩ (Nat.le_of_ble_eq_true rfl) ?_
                    intro r w hq
                    obtain ⟨rfl, rfl⟩ := hq
                    refine z_reti d_Tf_lane_32 ?_
                    exact ⟨by first | rfl | assumption, cW_0⟩)))
theorem t_Mo_lane_s {p : Nat} (M : modOk P S) (N : modIn I nt np nl nn) (hp : p < np) : zEi G y_Mo_lane prog_14_method_99_code 3 (some .int) 4 [.ref 145, .int (nI p), .int (nI p)] (I, J, P, S) (fun r w => r = -1 ∧ mW I J P S 5 w) := by
  obtain ⟨M0, ⟨M4, M4s⟩, ⟨M5, M5s⟩, ⟨M6, M6s⟩, ⟨M7, M7s⟩, ⟨M20, M20s⟩, ⟨M21, M21s⟩, ⟨M22, M22s⟩, ⟨M26, M26s⟩, ⟨M27, M27s⟩, ⟨M28, M28s⟩, ⟨M30, M30s⟩, ⟨M34, M34s⟩, ⟨M36, M36s⟩, ⟨M37, M37s⟩⟩ := id M
  obtain ⟨I1, hI1, N1, h1, h0, e150, er, ek⟩ := mo_beg N
  obtain ⟨⟨m0, m0b⟩, ⟨m1, m1b⟩, ⟨m2, m2b⟩, ⟨m3, m3b⟩, mof, mon⟩ := id N1
  have hD : mD I I1 := ⟨h1, h0, e150, er⟩
  refine zEi_of (lv := [some (.ref 145), some (.int (nI p)), some (.int (nI p))]) (by decide) rfl (Nat.le_of_ble_eq_true rfl) ?_
  refine z_aload_0 d_Mo_lane_0 ?_
  refine z_iconst (a := nI 0) d_Mo_lane_1 (by decide) ?_
  refine z_putI d_Mo_lane_2 f_Mo_70 (by first | assumption | exact zS0_at (by assumption) (by omega) | exact zS0_at rfl (by omega)) ?_
  refine z_aload_0 d_Mo_lane_5 ?_
  refine z_iconst (a := nI 0) d_Mo_lane_6 (by decide) ?_
  refine z_putI d_Mo_lane_7 f_Mo_73 (by first | assumption | exact zS0_at (by assumption) (by omega) | exact zS0_at rfl (by omega)) ?_
  rw [← hI1]
  have hz : zin (nI p) np := ⟨p, by omega, rfl⟩
  refine z_aload_0 d_Mo_lane_10 ?_
  refine z_iload_1 d_Mo_lane_11 ?_
  refine z_i2l d_Mo_lane_12 ?_
  refine z_Vi1 d_Mo_lane_13 k_Mo_336 (by first | assumption | exact zS0_at (by assumption) (by omega) | exact zS0_at rfl (by omega)) (t_Mo_isPersonAtI M N1) ⟨Nat.le_of_ble_eq_true rfl, Nat.le_of_ble_eq_true rfl, Nat.le_of_ble_eq_true rfl, Nat.le_of_ble_eq_true rfl⟩ (Nat.le_of_ble_eq_true rfl) ?_
  intro r w hq
  rcases hq with ⟨⟨hz13, rfl⟩ | ⟨hz13, rfl⟩, rfl⟩
  · first
    | contradiction
    | ( skip
        refine z_if_eq (tgt := 28) d_Mo_lane_16 (by decide) (fun h => absurd h (by decide)) (fun _ => ?_)
        refine z_aload_0 d_Mo_lane_19 ?_
        refine z_iload_2 d_Mo_lane_20 ?_
        refine z_i2l d_Mo_lane_21 ?_
        refine z_Vi1 d_Mo_lane_22 k_Mo_336 (by first | assumption | exact zS0_at (by assumption) (by omega) | exact zS0_at rfl (by omega)) (t_Mo_isPersonAtI M N1) ⟨Nat.le_of_ble_eq_true rfl, Nat.le_of_ble_eq_true rfl, Nat.le_of_ble_eq_true rfl, Nat.le_of_ble_eq_true rfl⟩ (Nat.le_of_ble_eq_true rfl) ?_
        intro r w hq
        rcases hq with ⟨⟨hz22, rfl⟩ | ⟨hz22, rfl⟩, rfl⟩
        · first
          | contradiction
          | ( skip
              refine z_if_ne (tgt := 34) d_Mo_lane_25 (by decide) (fun _ => ?_) (fun h => absurd h (by decide))
              refine z_iload_1 d_Mo_lane_34 ?_
              refine z_iload_2 d_Mo_lane_35 ?_
              refine z_icmp_ne (tgt := 45) d_Mo_lane_36 (by decide) (fun h36 => ?_) (fun h36 => ?_)
              · first
                | (simp (disch := omega) only [← nI_0, nI_leI, nI_ltI, nI_eq, not_true_eq_false, not_false_eq_true] at h36; done)
                | (simp (disch := omega) only [← nI_0, nI_leI, nI_ltI, nI_eq, not_true_eq_false, not_false_eq_true] at h36; omega)
                | contradiction
                | exact absurd h36 (Int32.not_lt.mpr (by assumption))
                | exact absurd h36 (Int32.not_le.mpr (by assumption))
                | exact absurd h36 (by decide)
                | exact absurd (by decide) h36
                | ( try simp (disch := omega) only [← nI_0, nI_leI, nI_ltI, nI_eq, not_true_eq_false, not_false_eq_true] at h36
                    (try have h36b := zbit_n0.mp h36); (try have h36b := zbit_p0.mp h36)
                    exact absurd rfl (by assumption))
              · first
                | (simp (disch := omega) only [← nI_0, nI_leI, nI_ltI, nI_eq, not_true_eq_false, not_false_eq_true] at h36; done)
                | (simp (disch := omega) only [← nI_0, nI_leI, nI_ltI, nI_eq, not_true_eq_false, not_false_eq_true] at h36; omega)
                | contradiction
                | exact absurd h36 (Int32.not_lt.mpr (by assumption))
                | exact absurd h36 (Int32.not_le.mpr (by assumption))
                | exact absurd h36 (by decide)
                | exact absurd (by decide) h36
                | ( try simp (disch := omega) only [← nI_0, nI_leI, nI_ltI, nI_eq, not_true_eq_false, not_false_eq_true] at h36
                    (try have h36b := zbit_n0.mp h36); (try have h36b := zbit_p0.mp h36)
                    refine z_aload_0 d_Mo_lane_39 ?_
                    refine z_iconst (a := nI 5) d_Mo_lane_40 (by decide) ?_
                    refine z_Vi1 d_Mo_lane_41 k_Mo_327 (by first | assumption | exact zS0_at (by assumption) (by omega) | exact zS0_at rfl (by omega)) (t_Mo_refuse (by assumption)) ⟨Nat.le_of_ble_eq_true rfl, Nat.le_of_ble_eq_true rfl, Nat.le_of_ble_eq_true rfl, Nat.le_of_ble_eq_true rfl⟩ (Nat.le_of_ble_eq_true rfl) ?_
                    intro r w hq
                    obtain ⟨rfl, rfl⟩ := hq
                    refine z_reti d_Mo_lane_44 ?_
                    exact ⟨by first | rfl | assumption | (rw [e150]), _, _, rfl, (by repeat (first | exact h1 | refine mqF_z ?_ (by decide))), mqJ_r, (by first | exact zu_same _ _ _ _ | exact h0)⟩))
        · first
          | contradiction
          | ( skip
              refine z_if_ne (tgt := 34) d_Mo_lane_25 (by decide) (fun h => absurd h (by decide)) (fun _ => ?_)
              refine z_aload_0 d_Mo_lane_28 ?_
              refine z_iconst (a := nI 2) d_Mo_lane_29 (by decide) ?_
              refine z_Vi1 d_Mo_lane_30 k_Mo_327 (by first | assumption | exact zS0_at (by assumption) (by omega) | exact zS0_at rfl (by omega)) (t_Mo_refuse (by assumption)) ⟨Nat.le_of_ble_eq_true rfl, Nat.le_of_ble_eq_true rfl, Nat.le_of_ble_eq_true rfl, Nat.le_of_ble_eq_true rfl⟩ (Nat.le_of_ble_eq_true rfl) ?_
              intro r w hq
              obtain ⟨rfl, rfl⟩ := hq
              refine z_reti d_Mo_lane_33 ?_
              exact ⟨by first | rfl | assumption | (rw [e150]), _, _, rfl, (by repeat (first | exact h1 | refine mqF_z ?_ (by decide))), mqJ_r, (by first | exact zu_same _ _ _ _ | exact h0)⟩))
  · first
    | contradiction
    | ( skip
        refine z_if_eq (tgt := 28) d_Mo_lane_16 (by decide) (fun _ => ?_) (fun h => absurd h (by decide))
        refine z_aload_0 d_Mo_lane_28 ?_
        refine z_iconst (a := nI 2) d_Mo_lane_29 (by decide) ?_
        refine z_Vi1 d_Mo_lane_30 k_Mo_327 (by first | assumption | exact zS0_at (by assumption) (by omega) | exact zS0_at rfl (by omega)) (t_Mo_refuse (by assumption)) ⟨Nat.le_of_ble_eq_true rfl, Nat.le_of_ble_eq_true rfl, Nat.le_of_ble_eq_true rfl, Nat.le_of_ble_eq_true rfl⟩ (Nat.le_of_ble_eq_true rfl) ?_
        intro r w hq
        obtain ⟨rfl, rfl⟩ := hq
        refine z_reti d_Mo_lane_33 ?_
        exact ⟨by first | rfl | assumption | (rw [e150]), _, _, rfl, (by repeat (first | exact h1 | refine mqF_z ?_ (by decide))), mqJ_r, (by first | exact zu_same _ _ _ _ | exact h0)⟩)
theorem t_Tf_lane_f {p q : Nat} (Z : clOk f d P S) (N : fenIn I f nt np nl nn) (hp : p < np) (hq : q < np) (hne : p ≠ q) (hl : nl = 12) : zEi G y_Tf_lane prog_1_method_24_code 3 (some .int) 3 [.ref 0, .int (nI p), .int (nI q)] (I, J, P, S) (fun r w => r = -1 ∧ cW I J P S 7 w) := by
  obtain ⟨⟨c0, c3, c1s⟩, ⟨c5, c2s, ctr⟩, ⟨c6, c11s, c11, c13s⟩, ⟨c7, c15s, c15⟩, ⟨c8, c16s, c16a, c16b, c17s⟩, ⟨c9, c10, cfd, F, Fd⟩, ⟨c11b, Ft⟩, ⟨c12, c69s, cmk⟩, ⟨c14, c121s, c121, c122s⟩, ⟨c15b, c123s, c123, c124s⟩, ⟨c16, c125s, c125, c126s⟩, ⟨c17, c127s, c127, c128s, ctb⟩, ⟨c18, c139s, c139, c140s⟩, ⟨c19, c141s, ⟨c141a, c142s⟩, ⟨c141b, c143s⟩, ⟨c141c, c144s⟩⟩, M⟩ := id Z
  obtain ⟨F0, ⟨F8, F8s⟩, ⟨F9, F9s⟩, ⟨F10, F10s⟩, ⟨F11, F11s⟩, ⟨F12, F12s⟩, ⟨F13, F13s⟩, ⟨F14, F14s⟩, ⟨F15, F15s⟩, ⟨F16, F16s⟩, ⟨F17, F17s⟩, ⟨F18, F18s⟩, ⟨F19, F19s⟩, ⟨Y3, Y3s⟩, ⟨Y4, Y4s⟩, ⟨Y5, Y5s⟩, ⟨Y6, Y6s⟩⟩ := id F
  obtain ⟨⟨n1, n1b⟩, ⟨n2, n2b⟩, ⟨n3, n3b⟩, ⟨n4, n4b⟩, nof, non⟩ := id N
  have hz : zin (nI p) np := ⟨p, by omega, rfl⟩
  have hzq : zin (nI q) np := ⟨q, by omega, rfl⟩
  have hne2 : ¬ nI p = nI q := fun h => hne ((nI_eq (by omega) (by omega)).mp h)
  have n3 : I f 3 = nI 12 := by rw [n3, hl]
  refine zEi_of (lv := [some (.ref 0), some (.int (nI p)), some (.int (nI q))]) (by decide) rfl (Nat.le_of_ble_eq_true rfl) ?_
  refine z_aload_0 d_Tf_lane_0 ?_
  refine z_iload_1 d_Tf_lane_1 ?_
  refine z_Vi1 d_Tf_lane_2 k_Tf_234 (by first | assumption | exact zS0_at (by assumption) (by omega) | exact zS0_at rfl (by omega)) (t_Tf_noPerson Z N) ⟨Nat.le_of_ble_eq_true rfl, Nat.le_of_ble_eq_true rfl, Nat.le_of_ble_eq_true rfl, Nat.le_of_ble_eq_true rfl⟩ (Nat.le_of_ble_eq_true rfl) ?_
  intro r w hq
  rcases hq with ⟨⟨hz2, rfl⟩ | ⟨hz2, rfl⟩, rfl⟩
  · first
    | contradiction
    | ( skip
        refine z_if_ne (tgt := 16) d_Tf_lane_5 (by decide) (fun _ => ?_) (fun h => absurd h (by decide))
        refine z_aload_0 d_Tf_lane_16 ?_
        refine z_iconst (a := nI 2) d_Tf_lane_17 (by decide) ?_
        refine z_Vi1 d_Tf_lane_18 k_Tf_138 (by first | assumption | exact zS0_at (by assumption) (by omega) | exact zS0_at rfl (by omega)) (t_Tf_fail (by assumption)) ⟨Nat.le_of_ble_eq_true rfl, Nat.le_of_ble_eq_true rfl, Nat.le_of_ble_eq_true rfl, Nat.le_of_ble_eq_true rfl⟩ (Nat.le_of_ble_eq_true rfl) ?_
        intro r w hq
        obtain ⟨rfl, rfl⟩ := hq
        refine z_reti d_Tf_lane_21 ?_
        exact ⟨by first | rfl | assumption, cW_0⟩)
  · first
    | contradiction
    | ( skip
        refine z_if_ne (tgt := 16) d_Tf_lane_5 (by decide) (fun h => absurd h (by decide)) (fun _ => ?_)
        refine z_aload_0 d_Tf_lane_8 ?_
        refine z_iload_2 d_Tf_lane_9 ?_
        refine z_Vi1 d_Tf_lane_10 k_Tf_234 (by first | assumption | exact zS0_at (by assumption) (by omega) | exact zS0_at rfl (by omega)) (t_Tf_noPerson Z N) ⟨Nat.le_of_ble_eq_true rfl, Nat.le_of_ble_eq_true rfl, Nat.le_of_ble_eq_true rfl, Nat.le_of_ble_eq_true rfl⟩ (Nat.le_of_ble_eq_true rfl) ?_
        intro r w hq
        rcases hq with ⟨⟨hz10, rfl⟩ | ⟨hz10, rfl⟩, rfl⟩
        · first
          | contradiction
          | ( skip
              refine z_if_eq (tgt := 22) d_Tf_lane_13 (by decide) (fun h => absurd h (by decide)) (fun _ => ?_)
              refine z_aload_0 d_Tf_lane_16 ?_
              refine z_iconst (a := nI 2) d_Tf_lane_17 (by decide) ?_
              refine z_Vi1 d_Tf_lane_18 k_Tf_138 (by first | assumption | exact zS0_at (by assumption) (by omega) | exact zS0_at rfl (by omega)) (t_Tf_fail (by assumption)) ⟨Nat.le_of_ble_eq_true rfl, Nat.le_of_ble_eq_true rfl, Nat.le_of_ble_eq_true rfl, Nat.le_of_ble_eq_true rfl⟩ (Nat.le_of_ble_eq_true rfl) ?_
              intro r w hq
              obtain ⟨rfl, rfl⟩ := hq
              refine z_reti d_Tf_lane_21 ?_
              exact ⟨by first | rfl | assumption, cW_0⟩)
        · first
          | contradiction
          | ( skip
              refine z_if_eq (tgt := 22) d_Tf_lane_13 (by decide) (fun _ => ?_) (fun h => absurd h (by decide))
              refine z_iload_1 d_Tf_lane_22 ?_
              refine z_iload_2 d_Tf_lane_23 ?_
              refine z_icmp_ne (tgt := 33) d_Tf_lane_24 (by decide) (fun h24 => ?_) (fun h24 => ?_)
              · first
                | (simp (disch := omega) only [← nI_0, nI_leI, nI_ltI, nI_eq, not_true_eq_false, not_false_eq_true] at h24; done)
                | (simp (disch := omega) only [← nI_0, nI_leI, nI_ltI, nI_eq, not_true_eq_false, not_false_eq_true] at h24; omega)
                | contradiction
                | exact absurd h24 (Int32.not_lt.mpr (by assumption))
                | exact absurd h24 (Int32.not_le.mpr (by assumption))
                | exact absurd h24 (by decide)
                | exact absurd (by decide) h24
                | ( try simp (disch := omega) only [← nI_0, nI_leI, nI_ltI, nI_eq, not_true_eq_false, not_false_eq_true] at h24
                    (try have h24b := zbit_n0.mp h24); (try have h24b := zbit_p0.mp h24)
                    refine z_aload_0 d_Tf_lane_33 ?_
                    refine z_getR d_Tf_lane_34 f_Tf_60 (by first | assumption | exact zS0_at (by assumption) (by omega) | exact zS0_at rfl (by omega)) (by first | assumption | exact zS0_at (by assumption) (by omega) | exact zS0_at rfl (by omega)) ?_
                    refine z_getIv d_Tf_lane_37 f_Tf_205 (by first | assumption | exact zS0_at (by assumption) (by omega) | exact zS0_at rfl (by omega)) (by first | assumption | ((try simp (disch := omega) only [zu_same, zu_ne, zcp_ne, zfl_ne]); first | assumption | rfl)) ?_
                    refine z_bipush (a := nI 12) d_Tf_lane_40 (by decide) ?_
                    refine z_icmp_lt (tgt := 52) d_Tf_lane_42 (by decide) (fun h42 => ?_) (fun h42 => ?_)
                    · first
                      | (simp (disch := omega) only [← nI_0, nI_leI, nI_ltI, nI_eq, not_true_eq_false, not_false_eq_true] at h42; done)
                      | (simp (disch := omega) only [← nI_0, nI_leI, nI_ltI, nI_eq, not_true_eq_false, not_false_eq_true] at h42; omega)
                      | contradiction
                      | exact absurd h42 (Int32.not_lt.mpr (by assumption))
                      | exact absurd h42 (Int32.not_le.mpr (by assumption))
                      | exact absurd h42 (by decide)
                      | exact absurd (by decide) h42
                      | ( try simp (disch := omega) only [← nI_0, nI_leI, nI_ltI, nI_eq, not_true_eq_false, not_false_eq_true] at h42
                          (try have h42b := zbit_n0.mp h42); (try have h42b := zbit_p0.mp h42)
                          exact absurd (by decide) (by assumption))
                    · first
                      | (simp (disch := omega) only [← nI_0, nI_leI, nI_ltI, nI_eq, not_true_eq_false, not_false_eq_true] at h42; done)
                      | (simp (disch := omega) only [← nI_0, nI_leI, nI_ltI, nI_eq, not_true_eq_false, not_false_eq_true] at h42; omega)
                      | contradiction
                      | exact absurd h42 (Int32.not_lt.mpr (by assumption))
                      | exact absurd h42 (Int32.not_le.mpr (by assumption))
                      | exact absurd h42 (by decide)
                      | exact absurd (by decide) h42
                      | ( try simp (disch := omega) only [← nI_0, nI_leI, nI_ltI, nI_eq, not_true_eq_false, not_false_eq_true] at h42
                          (try have h42b := zbit_n0.mp h42); (try have h42b := zbit_p0.mp h42)
                          refine z_aload_0 d_Tf_lane_45 ?_
                          refine z_bipush (a := nI 7) d_Tf_lane_46 (by decide) ?_
                          refine z_Vi1 d_Tf_lane_48 k_Tf_138 (by first | assumption | exact zS0_at (by assumption) (by omega) | exact zS0_at rfl (by omega)) (t_Tf_fail (by assumption)) ⟨Nat.le_of_ble_eq_true rfl, Nat.le_of_ble_eq_true rfl, Nat.le_of_ble_eq_true rfl, Nat.le_of_ble_eq_true rfl⟩ (Nat.le_of_ble_eq_true rfl) ?_
                          intro r w hq
                          obtain ⟨rfl, rfl⟩ := hq
                          refine z_reti d_Tf_lane_51 ?_
                          exact ⟨by first | rfl | assumption, cW_0⟩))
              · first
                | (simp (disch := omega) only [← nI_0, nI_leI, nI_ltI, nI_eq, not_true_eq_false, not_false_eq_true] at h24; done)
                | (simp (disch := omega) only [← nI_0, nI_leI, nI_ltI, nI_eq, not_true_eq_false, not_false_eq_true] at h24; omega)
                | contradiction
                | exact absurd h24 (Int32.not_lt.mpr (by assumption))
                | exact absurd h24 (Int32.not_le.mpr (by assumption))
                | exact absurd h24 (by decide)
                | exact absurd (by decide) h24
                | ( try simp (disch := omega) only [← nI_0, nI_leI, nI_ltI, nI_eq, not_true_eq_false, not_false_eq_true] at h24
                    (try have h24b := zbit_n0.mp h24); (try have h24b := zbit_p0.mp h24)
                    refine z_aload_0 d_Tf_lane_27 ?_
                    refine z_iconst (a := nI 5) d_Tf_lane_28 (by decide) ?_
                    refine z_Vi1 d_Tf_lane_29 k_Tf_138 (by first | assumption | exact zS0_at (by assumption) (by omega) | exact zS0_at rfl (by omega)) (t_Tf_fail (by assumption)) ⟨Nat.le_of_ble_eq_true rfl, Nat.le_of_ble_eq_true rfl, Nat.le_of_ble_eq_true rfl, Nat.le_of_ble_eq_true rfl⟩ (Nat.le_of_ble_eq_true rfl) ?_
                    intro r w hq
                    obtain ⟨rfl, rfl⟩ := hq
                    refine z_reti d_Tf_lane_32 ?_
                    exact ⟨by first | rfl | assumption, cW_0⟩)))
theorem t_Mo_lane_f {p q : Nat} (M : modOk P S) (N : modIn I nt np nl nn) (hp : p < np) (hq : q < np) (hne : p ≠ q) (hl : nl = 12) : zEi G y_Mo_lane prog_14_method_99_code 3 (some .int) 4 [.ref 145, .int (nI p), .int (nI q)] (I, J, P, S) (fun r w => r = -1 ∧ mW I J P S 7 w) := by
  obtain ⟨M0, ⟨M4, M4s⟩, ⟨M5, M5s⟩, ⟨M6, M6s⟩, ⟨M7, M7s⟩, ⟨M20, M20s⟩, ⟨M21, M21s⟩, ⟨M22, M22s⟩, ⟨M26, M26s⟩, ⟨M27, M27s⟩, ⟨M28, M28s⟩, ⟨M30, M30s⟩, ⟨M34, M34s⟩, ⟨M36, M36s⟩, ⟨M37, M37s⟩⟩ := id M
  obtain ⟨I1, hI1, N1, h1, h0, e150, er, ek⟩ := mo_beg N
  obtain ⟨⟨m0, m0b⟩, ⟨m1, m1b⟩, ⟨m2, m2b⟩, ⟨m3, m3b⟩, mof, mon⟩ := id N1
  have hD : mD I I1 := ⟨h1, h0, e150, er⟩
  refine zEi_of (lv := [some (.ref 145), some (.int (nI p)), some (.int (nI q))]) (by decide) rfl (Nat.le_of_ble_eq_true rfl) ?_
  refine z_aload_0 d_Mo_lane_0 ?_
  refine z_iconst (a := nI 0) d_Mo_lane_1 (by decide) ?_
  refine z_putI d_Mo_lane_2 f_Mo_70 (by first | assumption | exact zS0_at (by assumption) (by omega) | exact zS0_at rfl (by omega)) ?_
  refine z_aload_0 d_Mo_lane_5 ?_
  refine z_iconst (a := nI 0) d_Mo_lane_6 (by decide) ?_
  refine z_putI d_Mo_lane_7 f_Mo_73 (by first | assumption | exact zS0_at (by assumption) (by omega) | exact zS0_at rfl (by omega)) ?_
  rw [← hI1]
  have hz : zin (nI p) np := ⟨p, by omega, rfl⟩
  have hzq : zin (nI q) np := ⟨q, by omega, rfl⟩
  have hne2 : ¬ nI p = nI q := fun h => hne ((nI_eq (by omega) (by omega)).mp h)
  have m2 : I1 150 2 = nI 12 := by rw [m2, hl]
  refine z_aload_0 d_Mo_lane_10 ?_
  refine z_iload_1 d_Mo_lane_11 ?_
  refine z_i2l d_Mo_lane_12 ?_
  refine z_Vi1 d_Mo_lane_13 k_Mo_336 (by first | assumption | exact zS0_at (by assumption) (by omega) | exact zS0_at rfl (by omega)) (t_Mo_isPersonAtI M N1) ⟨Nat.le_of_ble_eq_true rfl, Nat.le_of_ble_eq_true rfl, Nat.le_of_ble_eq_true rfl, Nat.le_of_ble_eq_true rfl⟩ (Nat.le_of_ble_eq_true rfl) ?_
  intro r w hq
  rcases hq with ⟨⟨hz13, rfl⟩ | ⟨hz13, rfl⟩, rfl⟩
  · first
    | contradiction
    | ( skip
        refine z_if_eq (tgt := 28) d_Mo_lane_16 (by decide) (fun h => absurd h (by decide)) (fun _ => ?_)
        refine z_aload_0 d_Mo_lane_19 ?_
        refine z_iload_2 d_Mo_lane_20 ?_
        refine z_i2l d_Mo_lane_21 ?_
        refine z_Vi1 d_Mo_lane_22 k_Mo_336 (by first | assumption | exact zS0_at (by assumption) (by omega) | exact zS0_at rfl (by omega)) (t_Mo_isPersonAtI M N1) ⟨Nat.le_of_ble_eq_true rfl, Nat.le_of_ble_eq_true rfl, Nat.le_of_ble_eq_true rfl, Nat.le_of_ble_eq_true rfl⟩ (Nat.le_of_ble_eq_true rfl) ?_
        intro r w hq
        rcases hq with ⟨⟨hz22, rfl⟩ | ⟨hz22, rfl⟩, rfl⟩
        · first
          | contradiction
          | ( skip
              refine z_if_ne (tgt := 34) d_Mo_lane_25 (by decide) (fun _ => ?_) (fun h => absurd h (by decide))
              refine z_iload_1 d_Mo_lane_34 ?_
              refine z_iload_2 d_Mo_lane_35 ?_
              refine z_icmp_ne (tgt := 45) d_Mo_lane_36 (by decide) (fun h36 => ?_) (fun h36 => ?_)
              · first
                | (simp (disch := omega) only [← nI_0, nI_leI, nI_ltI, nI_eq, not_true_eq_false, not_false_eq_true] at h36; done)
                | (simp (disch := omega) only [← nI_0, nI_leI, nI_ltI, nI_eq, not_true_eq_false, not_false_eq_true] at h36; omega)
                | contradiction
                | exact absurd h36 (Int32.not_lt.mpr (by assumption))
                | exact absurd h36 (Int32.not_le.mpr (by assumption))
                | exact absurd h36 (by decide)
                | exact absurd (by decide) h36
                | ( try simp (disch := omega) only [← nI_0, nI_leI, nI_ltI, nI_eq, not_true_eq_false, not_false_eq_true] at h36
                    (try have h36b := zbit_n0.mp h36); (try have h36b := zbit_p0.mp h36)
                    refine z_aload_0 d_Mo_lane_45 ?_
                    refine z_getR d_Mo_lane_46 f_Mo_35 (by first | assumption | exact zS0_at (by assumption) (by omega) | exact zS0_at rfl (by omega)) (by first | assumption | exact zS0_at (by assumption) (by omega) | exact zS0_at rfl (by omega)) ?_
                    refine z_iconst (a := nI 2) d_Mo_lane_49 (by decide) ?_
                    first | refine z_ialdNv d_Mo_lane_50 (by first | assumption | exact zS0_at (by assumption) (by omega) | exact zS0_at rfl (by omega)) (by omega) (by first | decide | omega) (by first | assumption | ((try simp (disch := omega) only [zu_same, zu_ne, zcp_ne, zfl_ne]); first | assumption | rfl)) ?_ | refine z_iald d_Mo_lane_50 (by first | assumption | exact zS0_at (by assumption) (by omega) | exact zS0_at rfl (by omega)) (by first | assumption | exact zS0_at (by assumption) (by omega) | exact zS0_at rfl (by omega)) ?_
                    refine z_bipush (a := nI 12) d_Mo_lane_51 (by decide) ?_
                    refine z_icmp_ne (tgt := 63) d_Mo_lane_53 (by decide) (fun h53 => ?_) (fun h53 => ?_)
                    · first
                      | (simp (disch := omega) only [← nI_0, nI_leI, nI_ltI, nI_eq, not_true_eq_false, not_false_eq_true] at h53; done)
                      | (simp (disch := omega) only [← nI_0, nI_leI, nI_ltI, nI_eq, not_true_eq_false, not_false_eq_true] at h53; omega)
                      | contradiction
                      | exact absurd h53 (Int32.not_lt.mpr (by assumption))
                      | exact absurd h53 (Int32.not_le.mpr (by assumption))
                      | exact absurd h53 (by decide)
                      | exact absurd (by decide) h53
                      | ( try simp (disch := omega) only [← nI_0, nI_leI, nI_ltI, nI_eq, not_true_eq_false, not_false_eq_true] at h53
                          (try have h53b := zbit_n0.mp h53); (try have h53b := zbit_p0.mp h53)
                          exact absurd rfl (by assumption))
                    · first
                      | (simp (disch := omega) only [← nI_0, nI_leI, nI_ltI, nI_eq, not_true_eq_false, not_false_eq_true] at h53; done)
                      | (simp (disch := omega) only [← nI_0, nI_leI, nI_ltI, nI_eq, not_true_eq_false, not_false_eq_true] at h53; omega)
                      | contradiction
                      | exact absurd h53 (Int32.not_lt.mpr (by assumption))
                      | exact absurd h53 (Int32.not_le.mpr (by assumption))
                      | exact absurd h53 (by decide)
                      | exact absurd (by decide) h53
                      | ( try simp (disch := omega) only [← nI_0, nI_leI, nI_ltI, nI_eq, not_true_eq_false, not_false_eq_true] at h53
                          (try have h53b := zbit_n0.mp h53); (try have h53b := zbit_p0.mp h53)
                          refine z_aload_0 d_Mo_lane_56 ?_
                          refine z_bipush (a := nI 7) d_Mo_lane_57 (by decide) ?_
                          refine z_Vi1 d_Mo_lane_59 k_Mo_327 (by first | assumption | exact zS0_at (by assumption) (by omega) | exact zS0_at rfl (by omega)) (t_Mo_refuse (by assumption)) ⟨Nat.le_of_ble_eq_true rfl, Nat.le_of_ble_eq_true rfl, Nat.le_of_ble_eq_true rfl, Nat.le_of_ble_eq_true rfl⟩ (Nat.le_of_ble_eq_true rfl) ?_
                          intro r w hq
                          obtain ⟨rfl, rfl⟩ := hq
                          refine z_reti d_Mo_lane_62 ?_
                          exact ⟨by first | rfl | assumption | (rw [e150]), _, _, rfl, (by repeat (first | exact h1 | refine mqF_z ?_ (by decide))), mqJ_r, (by first | exact zu_same _ _ _ _ | exact h0)⟩))
              · first
                | (simp (disch := omega) only [← nI_0, nI_leI, nI_ltI, nI_eq, not_true_eq_false, not_false_eq_true] at h36; done)
                | (simp (disch := omega) only [← nI_0, nI_leI, nI_ltI, nI_eq, not_true_eq_false, not_false_eq_true] at h36; omega)
                | contradiction
                | exact absurd h36 (Int32.not_lt.mpr (by assumption))
                | exact absurd h36 (Int32.not_le.mpr (by assumption))
                | exact absurd h36 (by decide)
                | exact absurd (by decide) h36
                | ( try simp (disch := omega) only [← nI_0, nI_leI, nI_ltI, nI_eq, not_true_eq_false, not_false_eq_true] at h36
                    (try have h36b := zbit_n0.mp h36); (try have h36b := zbit_p0.mp h36)
                    refine z_aload_0 d_Mo_lane_39 ?_
                    refine z_iconst (a := nI 5) d_Mo_lane_40 (by decide) ?_
                    refine z_Vi1 d_Mo_lane_41 k_Mo_327 (by first | assumption | exact zS0_at (by assumption) (by omega) | exact zS0_at rfl (by omega)) (t_Mo_refuse (by assumption)) ⟨Nat.le_of_ble_eq_true rfl, Nat.le_of_ble_eq_true rfl, Nat.le_of_ble_eq_true rfl, Nat.le_of_ble_eq_true rfl⟩ (Nat.le_of_ble_eq_true rfl) ?_
                    intro r w hq
                    obtain ⟨rfl, rfl⟩ := hq
                    refine z_reti d_Mo_lane_44 ?_
                    exact ⟨by first | rfl | assumption | (rw [e150]), _, _, rfl, (by repeat (first | exact h1 | refine mqF_z ?_ (by decide))), mqJ_r, (by first | exact zu_same _ _ _ _ | exact h0)⟩))
        · first
          | contradiction
          | ( skip
              refine z_if_ne (tgt := 34) d_Mo_lane_25 (by decide) (fun h => absurd h (by decide)) (fun _ => ?_)
              refine z_aload_0 d_Mo_lane_28 ?_
              refine z_iconst (a := nI 2) d_Mo_lane_29 (by decide) ?_
              refine z_Vi1 d_Mo_lane_30 k_Mo_327 (by first | assumption | exact zS0_at (by assumption) (by omega) | exact zS0_at rfl (by omega)) (t_Mo_refuse (by assumption)) ⟨Nat.le_of_ble_eq_true rfl, Nat.le_of_ble_eq_true rfl, Nat.le_of_ble_eq_true rfl, Nat.le_of_ble_eq_true rfl⟩ (Nat.le_of_ble_eq_true rfl) ?_
              intro r w hq
              obtain ⟨rfl, rfl⟩ := hq
              refine z_reti d_Mo_lane_33 ?_
              exact ⟨by first | rfl | assumption | (rw [e150]), _, _, rfl, (by repeat (first | exact h1 | refine mqF_z ?_ (by decide))), mqJ_r, (by first | exact zu_same _ _ _ _ | exact h0)⟩))
  · first
    | contradiction
    | ( skip
        refine z_if_eq (tgt := 28) d_Mo_lane_16 (by decide) (fun _ => ?_) (fun h => absurd h (by decide))
        refine z_aload_0 d_Mo_lane_28 ?_
        refine z_iconst (a := nI 2) d_Mo_lane_29 (by decide) ?_
        refine z_Vi1 d_Mo_lane_30 k_Mo_327 (by first | assumption | exact zS0_at (by assumption) (by omega) | exact zS0_at rfl (by omega)) (t_Mo_refuse (by assumption)) ⟨Nat.le_of_ble_eq_true rfl, Nat.le_of_ble_eq_true rfl, Nat.le_of_ble_eq_true rfl, Nat.le_of_ble_eq_true rfl⟩ (Nat.le_of_ble_eq_true rfl) ?_
        intro r w hq
        obtain ⟨rfl, rfl⟩ := hq
        refine z_reti d_Mo_lane_33 ?_
        exact ⟨by first | rfl | assumption | (rw [e150]), _, _, rfl, (by repeat (first | exact h1 | refine mqF_z ?_ (by decide))), mqJ_r, (by first | exact zu_same _ _ _ _ | exact h0)⟩)
theorem t_Tf_lane {p q : Nat} (Z : clOk f d P S) (N : fenIn I f nt np nl nn) (hp : p < np) (hq : q < np) (hne : p ≠ q) (hl : nl < 12) : zEi G y_Tf_lane prog_1_method_24_code 3 (some .int) 3 [.ref 0, .int (nI p), .int (nI q)] (I, J, P, S) (fun r w => r = nI (nl + 1) ∧ w = (zu (zu (zu (zu I (f + 3) p (I (f + 3) p ||| (nI 1 <<< (nI q &&& 31)))) (f + 3) q (I (f + 3) q ||| (nI 1 <<< (nI p &&& 31)))) f 3 (nI (nl + 1))) 0 0 (nI 0), J, P, S)) := by
  obtain ⟨⟨c0, c3, c1s⟩, ⟨c5, c2s, ctr⟩, ⟨c6, c11s, c11, c13s⟩, ⟨c7, c15s, c15⟩, ⟨c8, c16s, c16a, c16b, c17s⟩, ⟨c9, c10, cfd, F, Fd⟩, ⟨c11b, Ft⟩, ⟨c12, c69s, cmk⟩, ⟨c14, c121s, c121, c122s⟩, ⟨c15b, c123s, c123, c124s⟩, ⟨c16, c125s, c125, c126s⟩, ⟨c17, c127s, c127, c128s, ctb⟩, ⟨c18, c139s, c139, c140s⟩, ⟨c19, c141s, ⟨c141a, c142s⟩, ⟨c141b, c143s⟩, ⟨c141c, c144s⟩⟩, M⟩ := id Z
  obtain ⟨F0, ⟨F8, F8s⟩, ⟨F9, F9s⟩, ⟨F10, F10s⟩, ⟨F11, F11s⟩, ⟨F12, F12s⟩, ⟨F13, F13s⟩, ⟨F14, F14s⟩, ⟨F15, F15s⟩, ⟨F16, F16s⟩, ⟨F17, F17s⟩, ⟨F18, F18s⟩, ⟨F19, F19s⟩, ⟨Y3, Y3s⟩, ⟨Y4, Y4s⟩, ⟨Y5, Y5s⟩, ⟨Y6, Y6s⟩⟩ := id F
  obtain ⟨⟨n1, n1b⟩, ⟨n2, n2b⟩, ⟨n3, n3b⟩, ⟨n4, n4b⟩, nof, non⟩ := id N
  have hz : zin (nI p) np := ⟨p, by omega, rfl⟩
  have hzq : zin (nI q) np := ⟨q, by omega, rfl⟩
  have hne2 : ¬ nI p = nI q := fun h => hne ((nI_eq (by omega) (by omega)).mp h)
  refine zEi_of (lv := [some (.ref 0), some (.int (nI p)), some (.int (nI q))]) (by decide) rfl (Nat.le_of_ble_eq_true rfl) ?_
  refine z_aload_0 d_Tf_lane_0 ?_
  refine z_iload_1 d_Tf_lane_1 ?_
  refine z_Vi1 d_Tf_lane_2 k_Tf_234 (by first | assumption | exact zS0_at (by assumption) (by omega) | exact zS0_at rfl (by omega)) (t_Tf_noPerson Z N) ⟨Nat.le_of_ble_eq_true rfl, Nat.le_of_ble_eq_true rfl, Nat.le_of_ble_eq_true rfl, Nat.le_of_ble_eq_true rfl⟩ (Nat.le_of_ble_eq_true rfl) ?_
  intro r w hq
  rcases hq with ⟨⟨hz2, rfl⟩ | ⟨hz2, rfl⟩, rfl⟩
  · first
    | contradiction
    | ( skip
        refine z_if_ne (tgt := 16) d_Tf_lane_5 (by decide) (fun _ => ?_) (fun h => absurd h (by decide))
        refine z_aload_0 d_Tf_lane_16 ?_
        refine z_iconst (a := nI 2) d_Tf_lane_17 (by decide) ?_
        refine z_Vi1 d_Tf_lane_18 k_Tf_138 (by first | assumption | exact zS0_at (by assumption) (by omega) | exact zS0_at rfl (by omega)) (t_Tf_fail (by assumption)) ⟨Nat.le_of_ble_eq_true rfl, Nat.le_of_ble_eq_true rfl, Nat.le_of_ble_eq_true rfl, Nat.le_of_ble_eq_true rfl⟩ (Nat.le_of_ble_eq_true rfl) ?_
        intro r w hq
        obtain ⟨rfl, rfl⟩ := hq
        refine z_reti d_Tf_lane_21 ?_
        exact ⟨rfl, rfl⟩)
  · first
    | contradiction
    | ( skip
        refine z_if_ne (tgt := 16) d_Tf_lane_5 (by decide) (fun h => absurd h (by decide)) (fun _ => ?_)
        refine z_aload_0 d_Tf_lane_8 ?_
        refine z_iload_2 d_Tf_lane_9 ?_
        refine z_Vi1 d_Tf_lane_10 k_Tf_234 (by first | assumption | exact zS0_at (by assumption) (by omega) | exact zS0_at rfl (by omega)) (t_Tf_noPerson Z N) ⟨Nat.le_of_ble_eq_true rfl, Nat.le_of_ble_eq_true rfl, Nat.le_of_ble_eq_true rfl, Nat.le_of_ble_eq_true rfl⟩ (Nat.le_of_ble_eq_true rfl) ?_
        intro r w hq
        rcases hq with ⟨⟨hz10, rfl⟩ | ⟨hz10, rfl⟩, rfl⟩
        · first
          | contradiction
          | ( skip
              refine z_if_eq (tgt := 22) d_Tf_lane_13 (by decide) (fun h => absurd h (by decide)) (fun _ => ?_)
              refine z_aload_0 d_Tf_lane_16 ?_
              refine z_iconst (a := nI 2) d_Tf_lane_17 (by decide) ?_
              refine z_Vi1 d_Tf_lane_18 k_Tf_138 (by first | assumption | exact zS0_at (by assumption) (by omega) | exact zS0_at rfl (by omega)) (t_Tf_fail (by assumption)) ⟨Nat.le_of_ble_eq_true rfl, Nat.le_of_ble_eq_true rfl, Nat.le_of_ble_eq_true rfl, Nat.le_of_ble_eq_true rfl⟩ (Nat.le_of_ble_eq_true rfl) ?_
              intro r w hq
              obtain ⟨rfl, rfl⟩ := hq
              refine z_reti d_Tf_lane_21 ?_
              exact ⟨rfl, rfl⟩)
        · first
          | contradiction
          | ( skip
              refine z_if_eq (tgt := 22) d_Tf_lane_13 (by decide) (fun _ => ?_) (fun h => absurd h (by decide))
              refine z_iload_1 d_Tf_lane_22 ?_
              refine z_iload_2 d_Tf_lane_23 ?_
              refine z_icmp_ne (tgt := 33) d_Tf_lane_24 (by decide) (fun h24 => ?_) (fun h24 => ?_)
              · first
                | (simp (disch := omega) only [← nI_0, nI_leI, nI_ltI, nI_eq, not_true_eq_false, not_false_eq_true] at h24; done)
                | (simp (disch := omega) only [← nI_0, nI_leI, nI_ltI, nI_eq, not_true_eq_false, not_false_eq_true] at h24; omega)
                | contradiction
                | exact absurd h24 (Int32.not_lt.mpr (by assumption))
                | exact absurd h24 (Int32.not_le.mpr (by assumption))
                | exact absurd h24 (by decide)
                | exact absurd (by decide) h24
                | ( try simp (disch := omega) only [← nI_0, nI_leI, nI_ltI, nI_eq, not_true_eq_false, not_false_eq_true] at h24
                    (try have h24b := zbit_n0.mp h24); (try have h24b := zbit_p0.mp h24)
                    refine z_aload_0 d_Tf_lane_33 ?_
                    refine z_getR d_Tf_lane_34 f_Tf_60 (by first | assumption | exact zS0_at (by assumption) (by omega) | exact zS0_at rfl (by omega)) (by first | assumption | exact zS0_at (by assumption) (by omega) | exact zS0_at rfl (by omega)) ?_
                    refine z_getIv d_Tf_lane_37 f_Tf_205 (by first | assumption | exact zS0_at (by assumption) (by omega) | exact zS0_at rfl (by omega)) (by first | assumption | ((try simp (disch := omega) only [zu_same, zu_ne, zcp_ne, zfl_ne]); first | assumption | rfl)) ?_
                    refine z_bipush (a := nI 12) d_Tf_lane_40 (by decide) ?_
                    refine z_icmp_lt (tgt := 52) d_Tf_lane_42 (by decide) (fun h42 => ?_) (fun h42 => ?_)
                    · first
                      | (simp (disch := omega) only [← nI_0, nI_leI, nI_ltI, nI_eq, not_true_eq_false, not_false_eq_true] at h42; done)
                      | (simp (disch := omega) only [← nI_0, nI_leI, nI_ltI, nI_eq, not_true_eq_false, not_false_eq_true] at h42; omega)
                      | contradiction
                      | exact absurd h42 (Int32.not_lt.mpr (by assumption))
                      | exact absurd h42 (Int32.not_le.mpr (by assumption))
                      | exact absurd h42 (by decide)
                      | exact absurd (by decide) h42
                      | ( try simp (disch := omega) only [← nI_0, nI_leI, nI_ltI, nI_eq, not_true_eq_false, not_false_eq_true] at h42
                          (try have h42b := zbit_n0.mp h42); (try have h42b := zbit_p0.mp h42)
                          refine z_aload_0 d_Tf_lane_52 ?_
                          refine z_getR d_Tf_lane_53 f_Tf_60 (by first | assumption | exact zS0_at (by assumption) (by omega) | exact zS0_at rfl (by omega)) (by first | assumption | exact zS0_at (by assumption) (by omega) | exact zS0_at rfl (by omega)) ?_
                          refine z_iload_1 d_Tf_lane_56 ?_
                          refine z_iload_2 d_Tf_lane_57 ?_
                          refine z_Vv2 d_Tf_lane_58 k_Tf_298 (by first | assumption | exact zS0_at (by assumption) (by omega) | exact zS0_at rfl (by omega)) (t_Fen_addLane F n3 (by omega) (by omega) hne) ⟨Nat.le_of_ble_eq_true rfl, Nat.le_of_ble_eq_true rfl, Nat.le_of_ble_eq_true rfl, Nat.le_of_ble_eq_true rfl⟩ (Nat.le_of_ble_eq_true rfl) ?_
                          intro w hq
                          obtain rfl := hq
                          refine z_aload_0 d_Tf_lane_61 ?_
                          refine z_aload_0 d_Tf_lane_62 ?_
                          refine z_getR d_Tf_lane_63 f_Tf_60 (by first | assumption | exact zS0_at (by assumption) (by omega) | exact zS0_at rfl (by omega)) (by first | assumption | exact zS0_at (by assumption) (by omega) | exact zS0_at rfl (by omega)) ?_
                          refine z_getIv d_Tf_lane_66 f_Tf_205 (by first | assumption | exact zS0_at (by assumption) (by omega) | exact zS0_at rfl (by omega)) (by first | assumption | ((try simp (disch := omega) only [zu_same, zu_ne, zcp_ne, zfl_ne]); first | assumption | rfl)) ?_
                          refine z_Vi1 d_Tf_lane_69 k_Tf_174 (by first | assumption | exact zS0_at (by assumption) (by omega) | exact zS0_at rfl (by omega)) (t_Tf_give (by assumption)) ⟨Nat.le_of_ble_eq_true rfl, Nat.le_of_ble_eq_true rfl, Nat.le_of_ble_eq_true rfl, Nat.le_of_ble_eq_true rfl⟩ (Nat.le_of_ble_eq_true rfl) ?_
                          intro r w hq
                          obtain ⟨rfl, rfl⟩ := hq
                          refine z_reti d_Tf_lane_72 ?_
                          exact ⟨rfl, rfl⟩)
                    · first
                      | (simp (disch := omega) only [← nI_0, nI_leI, nI_ltI, nI_eq, not_true_eq_false, not_false_eq_true] at h42; done)
                      | (simp (disch := omega) only [← nI_0, nI_leI, nI_ltI, nI_eq, not_true_eq_false, not_false_eq_true] at h42; omega)
                      | contradiction
                      | exact absurd h42 (Int32.not_lt.mpr (by assumption))
                      | exact absurd h42 (Int32.not_le.mpr (by assumption))
                      | exact absurd h42 (by decide)
                      | exact absurd (by decide) h42
                      | ( try simp (disch := omega) only [← nI_0, nI_leI, nI_ltI, nI_eq, not_true_eq_false, not_false_eq_true] at h42
                          (try have h42b := zbit_n0.mp h42); (try have h42b := zbit_p0.mp h42)
                          refine z_aload_0 d_Tf_lane_45 ?_
                          refine z_bipush (a := nI 7) d_Tf_lane_46 (by decide) ?_
                          refine z_Vi1 d_Tf_lane_48 k_Tf_138 (by first | assumption | exact zS0_at (by assumption) (by omega) | exact zS0_at rfl (by omega)) (t_Tf_fail (by assumption)) ⟨Nat.le_of_ble_eq_true rfl, Nat.le_of_ble_eq_true rfl, Nat.le_of_ble_eq_true rfl, Nat.le_of_ble_eq_true rfl⟩ (Nat.le_of_ble_eq_true rfl) ?_
                          intro r w hq
                          obtain ⟨rfl, rfl⟩ := hq
                          refine z_reti d_Tf_lane_51 ?_
                          exact ⟨rfl, rfl⟩))
              · first
                | (simp (disch := omega) only [← nI_0, nI_leI, nI_ltI, nI_eq, not_true_eq_false, not_false_eq_true] at h24; done)
                | (simp (disch := omega) only [← nI_0, nI_leI, nI_ltI, nI_eq, not_true_eq_false, not_false_eq_true] at h24; omega)
                | contradiction
                | exact absurd h24 (Int32.not_lt.mpr (by assumption))
                | exact absurd h24 (Int32.not_le.mpr (by assumption))
                | exact absurd h24 (by decide)
                | exact absurd (by decide) h24
                | ( try simp (disch := omega) only [← nI_0, nI_leI, nI_ltI, nI_eq, not_true_eq_false, not_false_eq_true] at h24
                    (try have h24b := zbit_n0.mp h24); (try have h24b := zbit_p0.mp h24)
                    refine z_aload_0 d_Tf_lane_27 ?_
                    refine z_iconst (a := nI 5) d_Tf_lane_28 (by decide) ?_
                    refine z_Vi1 d_Tf_lane_29 k_Tf_138 (by first | assumption | exact zS0_at (by assumption) (by omega) | exact zS0_at rfl (by omega)) (t_Tf_fail (by assumption)) ⟨Nat.le_of_ble_eq_true rfl, Nat.le_of_ble_eq_true rfl, Nat.le_of_ble_eq_true rfl, Nat.le_of_ble_eq_true rfl⟩ (Nat.le_of_ble_eq_true rfl) ?_
                    intro r w hq
                    obtain ⟨rfl, rfl⟩ := hq
                    refine z_reti d_Tf_lane_32 ?_
                    exact ⟨rfl, rfl⟩)))
theorem t_Mo_lane {p q : Nat} (M : modOk P S) (N : modIn I nt np nl nn) (hp : p < np) (hq : q < np) (hne : p ≠ q) (hl : nl < 12) : zEi G y_Mo_lane prog_14_method_99_code 3 (some .int) 4 [.ref 145, .int (nI p), .int (nI q)] (I, J, P, S) (fun r w => r = nI (nl + 1) ∧ ∃ I1, mD I I1 ∧ w = (zu (zu (zu I1 150 (359 * 0 + 19 + p) (I1 150 (359 * 0 + 19 + p) ||| (nI 1 <<< (nI q &&& 31)))) 150 (359 * 0 + 19 + q) (I1 150 (359 * 0 + 19 + q) ||| (nI 1 <<< (nI p &&& 31)))) 150 (359 * 0 + 2) (I1 150 (359 * 0 + 2) + nI 1), J, P, S)) := by
  obtain ⟨M0, ⟨M4, M4s⟩, ⟨M5, M5s⟩, ⟨M6, M6s⟩, ⟨M7, M7s⟩, ⟨M20, M20s⟩, ⟨M21, M21s⟩, ⟨M22, M22s⟩, ⟨M26, M26s⟩, ⟨M27, M27s⟩, ⟨M28, M28s⟩, ⟨M30, M30s⟩, ⟨M34, M34s⟩, ⟨M36, M36s⟩, ⟨M37, M37s⟩⟩ := id M
  obtain ⟨I1, hI1, N1, h1, h0, e150, er, ek⟩ := mo_beg N
  obtain ⟨⟨m0, m0b⟩, ⟨m1, m1b⟩, ⟨m2, m2b⟩, ⟨m3, m3b⟩, mof, mon⟩ := id N1
  have hD : mD I I1 := ⟨h1, h0, e150, er⟩
  refine zEi_of (lv := [some (.ref 145), some (.int (nI p)), some (.int (nI q))]) (by decide) rfl (Nat.le_of_ble_eq_true rfl) ?_
  refine z_aload_0 d_Mo_lane_0 ?_
  refine z_iconst (a := nI 0) d_Mo_lane_1 (by decide) ?_
  refine z_putI d_Mo_lane_2 f_Mo_70 (by first | assumption | exact zS0_at (by assumption) (by omega) | exact zS0_at rfl (by omega)) ?_
  refine z_aload_0 d_Mo_lane_5 ?_
  refine z_iconst (a := nI 0) d_Mo_lane_6 (by decide) ?_
  refine z_putI d_Mo_lane_7 f_Mo_73 (by first | assumption | exact zS0_at (by assumption) (by omega) | exact zS0_at rfl (by omega)) ?_
  rw [← hI1]
  have hz : zin (nI p) np := ⟨p, by omega, rfl⟩
  have hzq : zin (nI q) np := ⟨q, by omega, rfl⟩
  have hne2 : ¬ nI p = nI q := fun h => hne ((nI_eq (by omega) (by omega)).mp h)
  have hrd : zu (zu (zu I1 150 (359 * 0 + 19 + p) (I1 150 (359 * 0 + 19 + p) ||| (nI 1 <<< (nI q &&& 31)))) 150 (359 * 0 + 19 + q) (I1 150 (359 * 0 + 19 + q) ||| (nI 1 <<< (nI p &&& 31)))) 150 (359 * 0 + 2) (I1 150 (359 * 0 + 2) + nI 1) 150 2 = nI (nl + 1) := by
    have q1 : I1 150 (359 * 0 + 2) = nI nl := m2
    rw [q1, nI_add]
    exact zu_same _ _ _ _
  refine z_aload_0 d_Mo_lane_10 ?_
  refine z_iload_1 d_Mo_lane_11 ?_
  refine z_i2l d_Mo_lane_12 ?_
  refine z_Vi1 d_Mo_lane_13 k_Mo_336 (by first | assumption | exact zS0_at (by assumption) (by omega) | exact zS0_at rfl (by omega)) (t_Mo_isPersonAtI M N1) ⟨Nat.le_of_ble_eq_true rfl, Nat.le_of_ble_eq_true rfl, Nat.le_of_ble_eq_true rfl, Nat.le_of_ble_eq_true rfl⟩ (Nat.le_of_ble_eq_true rfl) ?_
  intro r w hq
  rcases hq with ⟨⟨hz13, rfl⟩ | ⟨hz13, rfl⟩, rfl⟩
  · first
    | contradiction
    | ( skip
        refine z_if_eq (tgt := 28) d_Mo_lane_16 (by decide) (fun h => absurd h (by decide)) (fun _ => ?_)
        refine z_aload_0 d_Mo_lane_19 ?_
        refine z_iload_2 d_Mo_lane_20 ?_
        refine z_i2l d_Mo_lane_21 ?_
        refine z_Vi1 d_Mo_lane_22 k_Mo_336 (by first | assumption | exact zS0_at (by assumption) (by omega) | exact zS0_at rfl (by omega)) (t_Mo_isPersonAtI M N1) ⟨Nat.le_of_ble_eq_true rfl, Nat.le_of_ble_eq_true rfl, Nat.le_of_ble_eq_true rfl, Nat.le_of_ble_eq_true rfl⟩ (Nat.le_of_ble_eq_true rfl) ?_
        intro r w hq
        rcases hq with ⟨⟨hz22, rfl⟩ | ⟨hz22, rfl⟩, rfl⟩
        · first
          | contradiction
          | ( skip
              refine z_if_ne (tgt := 34) d_Mo_lane_25 (by decide) (fun _ => ?_) (fun h => absurd h (by decide))
              refine z_iload_1 d_Mo_lane_34 ?_
              refine z_iload_2 d_Mo_lane_35 ?_
              refine z_icmp_ne (tgt := 45) d_Mo_lane_36 (by decide) (fun h36 => ?_) (fun h36 => ?_)
              · first
                | (simp (disch := omega) only [← nI_0, nI_leI, nI_ltI, nI_eq, not_true_eq_false, not_false_eq_true] at h36; done)
                | (simp (disch := omega) only [← nI_0, nI_leI, nI_ltI, nI_eq, not_true_eq_false, not_false_eq_true] at h36; omega)
                | contradiction
                | exact absurd h36 (Int32.not_lt.mpr (by assumption))
                | exact absurd h36 (Int32.not_le.mpr (by assumption))
                | exact absurd h36 (by decide)
                | exact absurd (by decide) h36
                | ( try simp (disch := omega) only [← nI_0, nI_leI, nI_ltI, nI_eq, not_true_eq_false, not_false_eq_true] at h36
                    (try have h36b := zbit_n0.mp h36); (try have h36b := zbit_p0.mp h36)
                    refine z_aload_0 d_Mo_lane_45 ?_
                    refine z_getR d_Mo_lane_46 f_Mo_35 (by first | assumption | exact zS0_at (by assumption) (by omega) | exact zS0_at rfl (by omega)) (by first | assumption | exact zS0_at (by assumption) (by omega) | exact zS0_at rfl (by omega)) ?_
                    refine z_iconst (a := nI 2) d_Mo_lane_49 (by decide) ?_
                    first | refine z_ialdNv d_Mo_lane_50 (by first | assumption | exact zS0_at (by assumption) (by omega) | exact zS0_at rfl (by omega)) (by omega) (by first | decide | omega) (by first | assumption | ((try simp (disch := omega) only [zu_same, zu_ne, zcp_ne, zfl_ne]); first | assumption | rfl)) ?_ | refine z_iald d_Mo_lane_50 (by first | assumption | exact zS0_at (by assumption) (by omega) | exact zS0_at rfl (by omega)) (by first | assumption | exact zS0_at (by assumption) (by omega) | exact zS0_at rfl (by omega)) ?_
                    refine z_bipush (a := nI 12) d_Mo_lane_51 (by decide) ?_
                    refine z_icmp_ne (tgt := 63) d_Mo_lane_53 (by decide) (fun h53 => ?_) (fun h53 => ?_)
                    · first
                      | (simp (disch := omega) only [← nI_0, nI_leI, nI_ltI, nI_eq, not_true_eq_false, not_false_eq_true] at h53; done)
                      | (simp (disch := omega) only [← nI_0, nI_leI, nI_ltI, nI_eq, not_true_eq_false, not_false_eq_true] at h53; omega)
                      | contradiction
                      | exact absurd h53 (Int32.not_lt.mpr (by assumption))
                      | exact absurd h53 (Int32.not_le.mpr (by assumption))
                      | exact absurd h53 (by decide)
                      | exact absurd (by decide) h53
                      | ( try simp (disch := omega) only [← nI_0, nI_leI, nI_ltI, nI_eq, not_true_eq_false, not_false_eq_true] at h53
                          (try have h53b := zbit_n0.mp h53); (try have h53b := zbit_p0.mp h53)
                          refine z_aload_0 d_Mo_lane_63 ?_
                          refine z_iconst (a := nI 0) d_Mo_lane_64 (by decide) ?_
                          refine z_iload_1 d_Mo_lane_65 ?_
                          refine z_iload_2 d_Mo_lane_66 ?_
                          refine z_Vv3 d_Mo_lane_67 k_Mo_260 (by first | assumption | exact zS0_at (by assumption) (by omega) | exact zS0_at rfl (by omega)) (t_Mo_meet (c := 0) M (by decide) (by omega) (by omega) hne) ⟨Nat.le_of_ble_eq_true rfl, Nat.le_of_ble_eq_true rfl, Nat.le_of_ble_eq_true rfl, Nat.le_of_ble_eq_true rfl⟩ (Nat.le_of_ble_eq_true rfl) ?_
                          intro w hq
                          obtain rfl := hq
                          refine z_aload_0 d_Mo_lane_70 ?_
                          refine z_getR d_Mo_lane_71 f_Mo_35 (by first | assumption | exact zS0_at (by assumption) (by omega) | exact zS0_at rfl (by omega)) (by first | assumption | exact zS0_at (by assumption) (by omega) | exact zS0_at rfl (by omega)) ?_
                          refine z_iconst (a := nI 2) d_Mo_lane_74 (by decide) ?_
                          first | refine z_ialdNv d_Mo_lane_75 (by first | assumption | exact zS0_at (by assumption) (by omega) | exact zS0_at rfl (by omega)) (by omega) (by first | decide | omega) (by first | assumption | ((try simp (disch := omega) only [zu_same, zu_ne, zcp_ne, zfl_ne]); first | assumption | rfl)) ?_ | refine z_iald d_Mo_lane_75 (by first | assumption | exact zS0_at (by assumption) (by omega) | exact zS0_at rfl (by omega)) (by first | assumption | exact zS0_at (by assumption) (by omega) | exact zS0_at rfl (by omega)) ?_
                          refine z_reti d_Mo_lane_76 ?_
                          exact ⟨rfl, I1, hD, rfl⟩)
                    · first
                      | (simp (disch := omega) only [← nI_0, nI_leI, nI_ltI, nI_eq, not_true_eq_false, not_false_eq_true] at h53; done)
                      | (simp (disch := omega) only [← nI_0, nI_leI, nI_ltI, nI_eq, not_true_eq_false, not_false_eq_true] at h53; omega)
                      | contradiction
                      | exact absurd h53 (Int32.not_lt.mpr (by assumption))
                      | exact absurd h53 (Int32.not_le.mpr (by assumption))
                      | exact absurd h53 (by decide)
                      | exact absurd (by decide) h53
                      | ( try simp (disch := omega) only [← nI_0, nI_leI, nI_ltI, nI_eq, not_true_eq_false, not_false_eq_true] at h53
                          (try have h53b := zbit_n0.mp h53); (try have h53b := zbit_p0.mp h53)
                          refine z_aload_0 d_Mo_lane_56 ?_
                          refine z_bipush (a := nI 7) d_Mo_lane_57 (by decide) ?_
                          refine z_Vi1 d_Mo_lane_59 k_Mo_327 (by first | assumption | exact zS0_at (by assumption) (by omega) | exact zS0_at rfl (by omega)) (t_Mo_refuse (by assumption)) ⟨Nat.le_of_ble_eq_true rfl, Nat.le_of_ble_eq_true rfl, Nat.le_of_ble_eq_true rfl, Nat.le_of_ble_eq_true rfl⟩ (Nat.le_of_ble_eq_true rfl) ?_
                          intro r w hq
                          obtain ⟨rfl, rfl⟩ := hq
                          refine z_reti d_Mo_lane_62 ?_
                          exact ⟨rfl, I1, hD, rfl⟩))
              · first
                | (simp (disch := omega) only [← nI_0, nI_leI, nI_ltI, nI_eq, not_true_eq_false, not_false_eq_true] at h36; done)
                | (simp (disch := omega) only [← nI_0, nI_leI, nI_ltI, nI_eq, not_true_eq_false, not_false_eq_true] at h36; omega)
                | contradiction
                | exact absurd h36 (Int32.not_lt.mpr (by assumption))
                | exact absurd h36 (Int32.not_le.mpr (by assumption))
                | exact absurd h36 (by decide)
                | exact absurd (by decide) h36
                | ( try simp (disch := omega) only [← nI_0, nI_leI, nI_ltI, nI_eq, not_true_eq_false, not_false_eq_true] at h36
                    (try have h36b := zbit_n0.mp h36); (try have h36b := zbit_p0.mp h36)
                    refine z_aload_0 d_Mo_lane_39 ?_
                    refine z_iconst (a := nI 5) d_Mo_lane_40 (by decide) ?_
                    refine z_Vi1 d_Mo_lane_41 k_Mo_327 (by first | assumption | exact zS0_at (by assumption) (by omega) | exact zS0_at rfl (by omega)) (t_Mo_refuse (by assumption)) ⟨Nat.le_of_ble_eq_true rfl, Nat.le_of_ble_eq_true rfl, Nat.le_of_ble_eq_true rfl, Nat.le_of_ble_eq_true rfl⟩ (Nat.le_of_ble_eq_true rfl) ?_
                    intro r w hq
                    obtain ⟨rfl, rfl⟩ := hq
                    refine z_reti d_Mo_lane_44 ?_
                    exact ⟨rfl, I1, hD, rfl⟩))
        · first
          | contradiction
          | ( skip
              refine z_if_ne (tgt := 34) d_Mo_lane_25 (by decide) (fun h => absurd h (by decide)) (fun _ => ?_)
              refine z_aload_0 d_Mo_lane_28 ?_
              refine z_iconst (a := nI 2) d_Mo_lane_29 (by decide) ?_
              refine z_Vi1 d_Mo_lane_30 k_Mo_327 (by first | assumption | exact zS0_at (by assumption) (by omega) | exact zS0_at rfl (by omega)) (t_Mo_refuse (by assumption)) ⟨Nat.le_of_ble_eq_true rfl, Nat.le_of_ble_eq_true rfl, Nat.le_of_ble_eq_true rfl, Nat.le_of_ble_eq_true rfl⟩ (Nat.le_of_ble_eq_true rfl) ?_
              intro r w hq
              obtain ⟨rfl, rfl⟩ := hq
              refine z_reti d_Mo_lane_33 ?_
              exact ⟨rfl, I1, hD, rfl⟩))
  · first
    | contradiction
    | ( skip
        refine z_if_eq (tgt := 28) d_Mo_lane_16 (by decide) (fun _ => ?_) (fun h => absurd h (by decide))
        refine z_aload_0 d_Mo_lane_28 ?_
        refine z_iconst (a := nI 2) d_Mo_lane_29 (by decide) ?_
        refine z_Vi1 d_Mo_lane_30 k_Mo_327 (by first | assumption | exact zS0_at (by assumption) (by omega) | exact zS0_at rfl (by omega)) (t_Mo_refuse (by assumption)) ⟨Nat.le_of_ble_eq_true rfl, Nat.le_of_ble_eq_true rfl, Nat.le_of_ble_eq_true rfl, Nat.le_of_ble_eq_true rfl⟩ (Nat.le_of_ble_eq_true rfl) ?_
        intro r w hq
        obtain ⟨rfl, rfl⟩ := hq
        refine z_reti d_Mo_lane_33 ?_
        exact ⟨rfl, I1, hD, rfl⟩)
theorem L_lane (h : zInv n w) : zEi G y_Tf_lane prog_1_method_24_code 3 (some .int) 3 [.ref 0, .int a, .int b] w (fun r w1 => w1.2.2.2 = w.2.2.2 ∧ zEi G y_Mo_lane prog_14_method_99_code 3 (some .int) 4 [.ref 145, .int a, .int b] w1 (fun r' w2 => r' = r ∧ zInv (n + 1) w2)) := by
  obtain ⟨f, d, nt, np, nl, nn, fed, mk, I, J, P, S, rfl, Z, X⟩ := h
  have M := clOk_M Z
  have hf := clOk_f Z
  have N := stR_fen X
  have N0 := stR_mod X
  have fm := stR_fm X
  obtain ⟨⟨⟨a1, r1, b1⟩, ⟨a2, r2, b2⟩, ⟨a3, r3, b3⟩, ⟨a4, r4, b4⟩⟩, ⟨⟨o, ob, ao, ro⟩, r5⟩, fw, fp, ft, fz⟩ := id fm
  by_cases ha : zin a np
  rotate_left
  · exact L_q Z X (t_Tf_lane_o Z N (Or.inl ha)) (fun I' J' e _ => ⟨_, rfl, t_Mo_lane_o M (modIn_c N0 (e 150 (by decide))) (Or.inl ha)⟩)
  by_cases hb : zin b np
  rotate_left
  · exact L_q Z X (t_Tf_lane_o Z N (Or.inr hb)) (fun I' J' e _ => ⟨_, rfl, t_Mo_lane_o M (modIn_c N0 (e 150 (by decide))) (Or.inr hb)⟩)
  obtain ⟨p, hp, rfl⟩ := ha
  obtain ⟨q, hq, rfl⟩ := hb
  by_cases hne : p = q
  · subst hne
    exact L_q Z X (t_Tf_lane_s Z N hp) (fun I' J' e _ => ⟨_, rfl, t_Mo_lane_s M (modIn_c N0 (e 150 (by decide))) hp⟩)
  by_cases hl : nl = 12
  · exact L_q Z X (t_Tf_lane_f Z N hp hq hne hl) (fun I' J' e _ => ⟨_, rfl, t_Mo_lane_f M (modIn_c N0 (e 150 (by decide))) hp hq hne hl⟩)
  have hl : nl < 12 := by omega
  refine zEi_mono (t_Tf_lane Z N hp hq hne hl) ?_
  rintro r w ⟨rfl, rfl⟩
  refine ⟨rfl, zEi_mono (t_Mo_lane M (modIn_c N0 (by rw [zu_row _ _ _ _ (by decide), zu_row _ _ _ _ (by omega), zu_row _ _ _ _ (by omega), zu_row _ _ _ _ (by omega)])) hp hq hne hl) ?_⟩
  rintro r w ⟨rfl, I1, hD, rfl⟩
  refine ⟨rfl, L_fin (nl' := nl + 1) (nn' := nn) Z X (fun a ha => by rw [zu_row _ _ _ _ (by omega), zu_row _ _ _ _ (by omega), zu_row _ _ _ _ (by omega)]) hD (fun a ha => by rw [zu_row _ _ _ _ ha, zu_row _ _ _ _ ha, zu_row _ _ _ _ ha]) (fun k hk => by rw [zu_ne _ _ _ _ (by omega), zu_ne _ _ _ _ (by omega), zu_ne _ _ _ _ (by omega)]) ?_ (Nat.le_refl _) (jL_r) ⟨X.1.2.1, X.1.2.2⟩ (fun k _ _ => by omega)⟩
  rw [sf_zu0, sf_zu, sf_zu]; exact fmR_g (fmR_lane hl hp hq hne (by rw [hD.2.2.1, zu_row _ _ _ _ (by decide), zu_row _ _ _ _ (by omega), zu_row _ _ _ _ (by omega), zu_row _ _ _ _ (by omega)]; exact fm)) (by omega)
theorem t_Tf_teach_o {c : Int32} (Z : clOk f d P S) (N : fenIn I f nt np nl nn) (h : ¬ zin a np ∨ ¬ zin b nt) : zEi G y_Tf_teach prog_1_method_23_code 4 (some .boolean) 3 [.ref 0, .int a, .int b, .int c] (I, J, P, S) (fun r w => r = nI 0 ∧ cW I J P S 2 w) := by
  obtain ⟨⟨c0, c3, c1s⟩, ⟨c5, c2s, ctr⟩, ⟨c6, c11s, c11, c13s⟩, ⟨c7, c15s, c15⟩, ⟨c8, c16s, c16a, c16b, c17s⟩, ⟨c9, c10, cfd, F, Fd⟩, ⟨c11b, Ft⟩, ⟨c12, c69s, cmk⟩, ⟨c14, c121s, c121, c122s⟩, ⟨c15b, c123s, c123, c124s⟩, ⟨c16, c125s, c125, c126s⟩, ⟨c17, c127s, c127, c128s, ctb⟩, ⟨c18, c139s, c139, c140s⟩, ⟨c19, c141s, ⟨c141a, c142s⟩, ⟨c141b, c143s⟩, ⟨c141c, c144s⟩⟩, M⟩ := id Z
  obtain ⟨F0, ⟨F8, F8s⟩, ⟨F9, F9s⟩, ⟨F10, F10s⟩, ⟨F11, F11s⟩, ⟨F12, F12s⟩, ⟨F13, F13s⟩, ⟨F14, F14s⟩, ⟨F15, F15s⟩, ⟨F16, F16s⟩, ⟨F17, F17s⟩, ⟨F18, F18s⟩, ⟨F19, F19s⟩, ⟨Y3, Y3s⟩, ⟨Y4, Y4s⟩, ⟨Y5, Y5s⟩, ⟨Y6, Y6s⟩⟩ := id F
  obtain ⟨⟨n1, n1b⟩, ⟨n2, n2b⟩, ⟨n3, n3b⟩, ⟨n4, n4b⟩, nof, non⟩ := id N
  refine zEi_of (lv := [some (.ref 0), some (.int a), some (.int b), some (.int c)]) (by decide) rfl (Nat.le_of_ble_eq_true rfl) ?_
  rcases h with h | h
  · refine z_aload_0 d_Tf_teach_0 ?_
    refine z_iload_1 d_Tf_teach_1 ?_
    refine z_Vi1 d_Tf_teach_2 k_Tf_234 (by first | assumption | exact zS0_at (by assumption) (by omega) | exact zS0_at rfl (by omega)) (t_Tf_noPerson Z N) ⟨Nat.le_of_ble_eq_true rfl, Nat.le_of_ble_eq_true rfl, Nat.le_of_ble_eq_true rfl, Nat.le_of_ble_eq_true rfl⟩ (Nat.le_of_ble_eq_true rfl) ?_
    intro r w hq
    rcases hq with ⟨⟨hz2, rfl⟩ | ⟨hz2, rfl⟩, rfl⟩
    · first
      | contradiction
      | ( skip
          refine z_if_ne (tgt := 16) d_Tf_teach_5 (by decide) (fun _ => ?_) (fun h => absurd h (by decide))
          refine z_aload_0 d_Tf_teach_16 ?_
          refine z_iconst (a := nI 2) d_Tf_teach_17 (by decide) ?_
          refine z_Vi1 d_Tf_teach_18 k_Tf_119 (by first | assumption | exact zS0_at (by assumption) (by omega) | exact zS0_at rfl (by omega)) (t_Tf_refuse (by assumption)) ⟨Nat.le_of_ble_eq_true rfl, Nat.le_of_ble_eq_true rfl, Nat.le_of_ble_eq_true rfl, Nat.le_of_ble_eq_true rfl⟩ (Nat.le_of_ble_eq_true rfl) ?_
          intro r w hq
          obtain ⟨rfl, rfl⟩ := hq
          refine z_retz d_Tf_teach_21 (by first | exact zb0 | exact zb1 | assumption) ?_
          exact ⟨by first | rfl | assumption, cW_0⟩)
    · first
      | contradiction
      | ( skip
          refine z_if_ne (tgt := 16) d_Tf_teach_5 (by decide) (fun h => absurd h (by decide)) (fun _ => ?_)
          refine z_aload_0 d_Tf_teach_8 ?_
          refine z_iload_2 d_Tf_teach_9 ?_
          refine z_Vi1 d_Tf_teach_10 k_Tf_227 (by first | assumption | exact zS0_at (by assumption) (by omega) | exact zS0_at rfl (by omega)) (t_Tf_noTrait Z N) ⟨Nat.le_of_ble_eq_true rfl, Nat.le_of_ble_eq_true rfl, Nat.le_of_ble_eq_true rfl, Nat.le_of_ble_eq_true rfl⟩ (Nat.le_of_ble_eq_true rfl) ?_
          intro r w hq
          rcases hq with ⟨⟨hz10, rfl⟩ | ⟨hz10, rfl⟩, rfl⟩
          · first
            | contradiction
            | ( skip
                refine z_if_eq (tgt := 22) d_Tf_teach_13 (by decide) (fun h => absurd h (by decide)) (fun _ => ?_)
                refine z_aload_0 d_Tf_teach_16 ?_
                refine z_iconst (a := nI 2) d_Tf_teach_17 (by decide) ?_
                refine z_Vi1 d_Tf_teach_18 k_Tf_119 (by first | assumption | exact zS0_at (by assumption) (by omega) | exact zS0_at rfl (by omega)) (t_Tf_refuse (by assumption)) ⟨Nat.le_of_ble_eq_true rfl, Nat.le_of_ble_eq_true rfl, Nat.le_of_ble_eq_true rfl, Nat.le_of_ble_eq_true rfl⟩ (Nat.le_of_ble_eq_true rfl) ?_
                intro r w hq
                obtain ⟨rfl, rfl⟩ := hq
                refine z_retz d_Tf_teach_21 (by first | exact zb0 | exact zb1 | assumption) ?_
                exact ⟨by first | rfl | assumption, cW_0⟩)
          · first
            | contradiction
            | ( skip
                refine z_if_eq (tgt := 22) d_Tf_teach_13 (by decide) (fun _ => ?_) (fun h => absurd h (by decide))
                contradiction))
  · refine z_aload_0 d_Tf_teach_0 ?_
    refine z_iload_1 d_Tf_teach_1 ?_
    refine z_Vi1 d_Tf_teach_2 k_Tf_234 (by first | assumption | exact zS0_at (by assumption) (by omega) | exact zS0_at rfl (by omega)) (t_Tf_noPerson Z N) ⟨Nat.le_of_ble_eq_true rfl, Nat.le_of_ble_eq_true rfl, Nat.le_of_ble_eq_true rfl, Nat.le_of_ble_eq_true rfl⟩ (Nat.le_of_ble_eq_true rfl) ?_
    intro r w hq
    rcases hq with ⟨⟨hz2, rfl⟩ | ⟨hz2, rfl⟩, rfl⟩
    · first
      | contradiction
      | ( skip
          refine z_if_ne (tgt := 16) d_Tf_teach_5 (by decide) (fun _ => ?_) (fun h => absurd h (by decide))
          refine z_aload_0 d_Tf_teach_16 ?_
          refine z_iconst (a := nI 2) d_Tf_teach_17 (by decide) ?_
          refine z_Vi1 d_Tf_teach_18 k_Tf_119 (by first | assumption | exact zS0_at (by assumption) (by omega) | exact zS0_at rfl (by omega)) (t_Tf_refuse (by assumption)) ⟨Nat.le_of_ble_eq_true rfl, Nat.le_of_ble_eq_true rfl, Nat.le_of_ble_eq_true rfl, Nat.le_of_ble_eq_true rfl⟩ (Nat.le_of_ble_eq_true rfl) ?_
          intro r w hq
          obtain ⟨rfl, rfl⟩ := hq
          refine z_retz d_Tf_teach_21 (by first | exact zb0 | exact zb1 | assumption) ?_
          exact ⟨by first | rfl | assumption, cW_0⟩)
    · first
      | contradiction
      | ( skip
          refine z_if_ne (tgt := 16) d_Tf_teach_5 (by decide) (fun h => absurd h (by decide)) (fun _ => ?_)
          refine z_aload_0 d_Tf_teach_8 ?_
          refine z_iload_2 d_Tf_teach_9 ?_
          refine z_Vi1 d_Tf_teach_10 k_Tf_227 (by first | assumption | exact zS0_at (by assumption) (by omega) | exact zS0_at rfl (by omega)) (t_Tf_noTrait Z N) ⟨Nat.le_of_ble_eq_true rfl, Nat.le_of_ble_eq_true rfl, Nat.le_of_ble_eq_true rfl, Nat.le_of_ble_eq_true rfl⟩ (Nat.le_of_ble_eq_true rfl) ?_
          intro r w hq
          rcases hq with ⟨⟨hz10, rfl⟩ | ⟨hz10, rfl⟩, rfl⟩
          · first
            | contradiction
            | ( skip
                refine z_if_eq (tgt := 22) d_Tf_teach_13 (by decide) (fun h => absurd h (by decide)) (fun _ => ?_)
                refine z_aload_0 d_Tf_teach_16 ?_
                refine z_iconst (a := nI 2) d_Tf_teach_17 (by decide) ?_
                refine z_Vi1 d_Tf_teach_18 k_Tf_119 (by first | assumption | exact zS0_at (by assumption) (by omega) | exact zS0_at rfl (by omega)) (t_Tf_refuse (by assumption)) ⟨Nat.le_of_ble_eq_true rfl, Nat.le_of_ble_eq_true rfl, Nat.le_of_ble_eq_true rfl, Nat.le_of_ble_eq_true rfl⟩ (Nat.le_of_ble_eq_true rfl) ?_
                intro r w hq
                obtain ⟨rfl, rfl⟩ := hq
                refine z_retz d_Tf_teach_21 (by first | exact zb0 | exact zb1 | assumption) ?_
                exact ⟨by first | rfl | assumption, cW_0⟩)
          · first
            | contradiction
            | ( skip
                refine z_if_eq (tgt := 22) d_Tf_teach_13 (by decide) (fun _ => ?_) (fun h => absurd h (by decide))
                contradiction))
theorem t_Mo_teach_o {c : Int32} (M : modOk P S) (N : modIn I nt np nl nn) (h : ¬ zin a np ∨ ¬ zin b nt) : zEi G y_Mo_teach prog_14_method_98_code 4 (some .boolean) 4 [.ref 145, .int a, .int b, .int c] (I, J, P, S) (fun r w => r = nI 0 ∧ mW I J P S 2 w) := by
  obtain ⟨M0, ⟨M4, M4s⟩, ⟨M5, M5s⟩, ⟨M6, M6s⟩, ⟨M7, M7s⟩, ⟨M20, M20s⟩, ⟨M21, M21s⟩, ⟨M22, M22s⟩, ⟨M26, M26s⟩, ⟨M27, M27s⟩, ⟨M28, M28s⟩, ⟨M30, M30s⟩, ⟨M34, M34s⟩, ⟨M36, M36s⟩, ⟨M37, M37s⟩⟩ := id M
  obtain ⟨I1, hI1, N1, h1, h0, e150, er, ek⟩ := mo_beg N
  obtain ⟨⟨m0, m0b⟩, ⟨m1, m1b⟩, ⟨m2, m2b⟩, ⟨m3, m3b⟩, mof, mon⟩ := id N1
  refine zEi_of (lv := [some (.ref 145), some (.int a), some (.int b), some (.int c)]) (by decide) rfl (Nat.le_of_ble_eq_true rfl) ?_
  refine z_aload_0 d_Mo_teach_0 ?_
  refine z_iconst (a := nI 0) d_Mo_teach_1 (by decide) ?_
  refine z_putI d_Mo_teach_2 f_Mo_70 (by first | assumption | exact zS0_at (by assumption) (by omega) | exact zS0_at rfl (by omega)) ?_
  refine z_aload_0 d_Mo_teach_5 ?_
  refine z_iconst (a := nI 0) d_Mo_teach_6 (by decide) ?_
  refine z_putI d_Mo_teach_7 f_Mo_73 (by first | assumption | exact zS0_at (by assumption) (by omega) | exact zS0_at rfl (by omega)) ?_
  rw [← hI1]
  rcases h with h | h
  · refine z_aload_0 d_Mo_teach_10 ?_
    refine z_iload_1 d_Mo_teach_11 ?_
    refine z_i2l d_Mo_teach_12 ?_
    refine z_Vi1 d_Mo_teach_13 k_Mo_336 (by first | assumption | exact zS0_at (by assumption) (by omega) | exact zS0_at rfl (by omega)) (t_Mo_isPersonAtI M N1) ⟨Nat.le_of_ble_eq_true rfl, Nat.le_of_ble_eq_true rfl, Nat.le_of_ble_eq_true rfl, Nat.le_of_ble_eq_true rfl⟩ (Nat.le_of_ble_eq_true rfl) ?_
    intro r w hq
    rcases hq with ⟨⟨hz13, rfl⟩ | ⟨hz13, rfl⟩, rfl⟩
    · first
      | contradiction
      | ( skip
          refine z_if_eq (tgt := 27) d_Mo_teach_16 (by decide) (fun h => absurd h (by decide)) (fun _ => ?_)
          refine z_aload_0 d_Mo_teach_19 ?_
          refine z_iload_2 d_Mo_teach_20 ?_
          refine z_Vi1 d_Mo_teach_21 k_Mo_333 (by first | assumption | exact zS0_at (by assumption) (by omega) | exact zS0_at rfl (by omega)) (t_Mo_isTraitAt M N1) ⟨Nat.le_of_ble_eq_true rfl, Nat.le_of_ble_eq_true rfl, Nat.le_of_ble_eq_true rfl, Nat.le_of_ble_eq_true rfl⟩ (Nat.le_of_ble_eq_true rfl) ?_
          intro r w hq
          rcases hq with ⟨⟨hz21, rfl⟩ | ⟨hz21, rfl⟩, rfl⟩
          · first
            | contradiction
            | ( skip
                refine z_if_ne (tgt := 33) d_Mo_teach_24 (by decide) (fun _ => ?_) (fun h => absurd h (by decide))
                contradiction)
          · first
            | contradiction
            | ( skip
                refine z_if_ne (tgt := 33) d_Mo_teach_24 (by decide) (fun h => absurd h (by decide)) (fun _ => ?_)
                refine z_aload_0 d_Mo_teach_27 ?_
                refine z_iconst (a := nI 2) d_Mo_teach_28 (by decide) ?_
                refine z_Vi1 d_Mo_teach_29 k_Mo_85 (by first | assumption | exact zS0_at (by assumption) (by omega) | exact zS0_at rfl (by omega)) (t_Mo_no (by assumption)) ⟨Nat.le_of_ble_eq_true rfl, Nat.le_of_ble_eq_true rfl, Nat.le_of_ble_eq_true rfl, Nat.le_of_ble_eq_true rfl⟩ (Nat.le_of_ble_eq_true rfl) ?_
                intro r w hq
                obtain ⟨rfl, rfl⟩ := hq
                refine z_retz d_Mo_teach_32 (by first | exact zb0 | exact zb1 | assumption) ?_
                exact ⟨by first | rfl | assumption | (rw [e150]), _, _, rfl, (by repeat (first | exact h1 | refine mqF_z ?_ (by decide))), mqJ_r, (by first | exact zu_same _ _ _ _ | exact h0)⟩))
    · first
      | contradiction
      | ( skip
          refine z_if_eq (tgt := 27) d_Mo_teach_16 (by decide) (fun _ => ?_) (fun h => absurd h (by decide))
          refine z_aload_0 d_Mo_teach_27 ?_
          refine z_iconst (a := nI 2) d_Mo_teach_28 (by decide) ?_
          refine z_Vi1 d_Mo_teach_29 k_Mo_85 (by first | assumption | exact zS0_at (by assumption) (by omega) | exact zS0_at rfl (by omega)) (t_Mo_no (by assumption)) ⟨Nat.le_of_ble_eq_true rfl, Nat.le_of_ble_eq_true rfl, Nat.le_of_ble_eq_true rfl, Nat.le_of_ble_eq_true rfl⟩ (Nat.le_of_ble_eq_true rfl) ?_
          intro r w hq
          obtain ⟨rfl, rfl⟩ := hq
          refine z_retz d_Mo_teach_32 (by first | exact zb0 | exact zb1 | assumption) ?_
          exact ⟨by first | rfl | assumption | (rw [e150]), _, _, rfl, (by repeat (first | exact h1 | refine mqF_z ?_ (by decide))), mqJ_r, (by first | exact zu_same _ _ _ _ | exact h0)⟩)
  · refine z_aload_0 d_Mo_teach_10 ?_
    refine z_iload_1 d_Mo_teach_11 ?_
    refine z_i2l d_Mo_teach_12 ?_
    refine z_Vi1 d_Mo_teach_13 k_Mo_336 (by first | assumption | exact zS0_at (by assumption) (by omega) | exact zS0_at rfl (by omega)) (t_Mo_isPersonAtI M N1) ⟨Nat.le_of_ble_eq_true rfl, Nat.le_of_ble_eq_true rfl, Nat.le_of_ble_eq_true rfl, Nat.le_of_ble_eq_true rfl⟩ (Nat.le_of_ble_eq_true rfl) ?_
    intro r w hq
    rcases hq with ⟨⟨hz13, rfl⟩ | ⟨hz13, rfl⟩, rfl⟩
    · first
      | contradiction
      | ( skip
          refine z_if_eq (tgt := 27) d_Mo_teach_16 (by decide) (fun h => absurd h (by decide)) (fun _ => ?_)
          refine z_aload_0 d_Mo_teach_19 ?_
          refine z_iload_2 d_Mo_teach_20 ?_
          refine z_Vi1 d_Mo_teach_21 k_Mo_333 (by first | assumption | exact zS0_at (by assumption) (by omega) | exact zS0_at rfl (by omega)) (t_Mo_isTraitAt M N1) ⟨Nat.le_of_ble_eq_true rfl, Nat.le_of_ble_eq_true rfl, Nat.le_of_ble_eq_true rfl, Nat.le_of_ble_eq_true rfl⟩ (Nat.le_of_ble_eq_true rfl) ?_
          intro r w hq
          rcases hq with ⟨⟨hz21, rfl⟩ | ⟨hz21, rfl⟩, rfl⟩
          · first
            | contradiction
            | ( skip
                refine z_if_ne (tgt := 33) d_Mo_teach_24 (by decide) (fun _ => ?_) (fun h => absurd h (by decide))
                contradiction)
          · first
            | contradiction
            | ( skip
                refine z_if_ne (tgt := 33) d_Mo_teach_24 (by decide) (fun h => absurd h (by decide)) (fun _ => ?_)
                refine z_aload_0 d_Mo_teach_27 ?_
                refine z_iconst (a := nI 2) d_Mo_teach_28 (by decide) ?_
                refine z_Vi1 d_Mo_teach_29 k_Mo_85 (by first | assumption | exact zS0_at (by assumption) (by omega) | exact zS0_at rfl (by omega)) (t_Mo_no (by assumption)) ⟨Nat.le_of_ble_eq_true rfl, Nat.le_of_ble_eq_true rfl, Nat.le_of_ble_eq_true rfl, Nat.le_of_ble_eq_true rfl⟩ (Nat.le_of_ble_eq_true rfl) ?_
                intro r w hq
                obtain ⟨rfl, rfl⟩ := hq
                refine z_retz d_Mo_teach_32 (by first | exact zb0 | exact zb1 | assumption) ?_
                exact ⟨by first | rfl | assumption | (rw [e150]), _, _, rfl, (by repeat (first | exact h1 | refine mqF_z ?_ (by decide))), mqJ_r, (by first | exact zu_same _ _ _ _ | exact h0)⟩))
    · first
      | contradiction
      | ( skip
          refine z_if_eq (tgt := 27) d_Mo_teach_16 (by decide) (fun _ => ?_) (fun h => absurd h (by decide))
          refine z_aload_0 d_Mo_teach_27 ?_
          refine z_iconst (a := nI 2) d_Mo_teach_28 (by decide) ?_
          refine z_Vi1 d_Mo_teach_29 k_Mo_85 (by first | assumption | exact zS0_at (by assumption) (by omega) | exact zS0_at rfl (by omega)) (t_Mo_no (by assumption)) ⟨Nat.le_of_ble_eq_true rfl, Nat.le_of_ble_eq_true rfl, Nat.le_of_ble_eq_true rfl, Nat.le_of_ble_eq_true rfl⟩ (Nat.le_of_ble_eq_true rfl) ?_
          intro r w hq
          obtain ⟨rfl, rfl⟩ := hq
          refine z_retz d_Mo_teach_32 (by first | exact zb0 | exact zb1 | assumption) ?_
          exact ⟨by first | rfl | assumption | (rw [e150]), _, _, rfl, (by repeat (first | exact h1 | refine mqF_z ?_ (by decide))), mqJ_r, (by first | exact zu_same _ _ _ _ | exact h0)⟩)
theorem t_Tf_teach_n0 {p k : Nat} (Z : clOk f d P S) (N : fenIn I f nt np nl nn) (hp : p < np) (hk : k < nt) (hz : ¬ zbit (I (f + 2) p) k) : zEi G y_Tf_teach prog_1_method_23_code 4 (some .boolean) 3 [.ref 0, .int (nI p), .int (nI k), .int (nI 0)] (I, J, P, S) (fun r w => r = nI 0 ∧ cW I J P S 9 w) := by
  obtain ⟨⟨c0, c3, c1s⟩, ⟨c5, c2s, ctr⟩, ⟨c6, c11s, c11, c13s⟩, ⟨c7, c15s, c15⟩, ⟨c8, c16s, c16a, c16b, c17s⟩, ⟨c9, c10, cfd, F, Fd⟩, ⟨c11b, Ft⟩, ⟨c12, c69s, cmk⟩, ⟨c14, c121s, c121, c122s⟩, ⟨c15b, c123s, c123, c124s⟩, ⟨c16, c125s, c125, c126s⟩, ⟨c17, c127s, c127, c128s, ctb⟩, ⟨c18, c139s, c139, c140s⟩, ⟨c19, c141s, ⟨c141a, c142s⟩, ⟨c141b, c143s⟩, ⟨c141c, c144s⟩⟩, M⟩ := id Z
  obtain ⟨F0, ⟨F8, F8s⟩, ⟨F9, F9s⟩, ⟨F10, F10s⟩, ⟨F11, F11s⟩, ⟨F12, F12s⟩, ⟨F13, F13s⟩, ⟨F14, F14s⟩, ⟨F15, F15s⟩, ⟨F16, F16s⟩, ⟨F17, F17s⟩, ⟨F18, F18s⟩, ⟨F19, F19s⟩, ⟨Y3, Y3s⟩, ⟨Y4, Y4s⟩, ⟨Y5, Y5s⟩, ⟨Y6, Y6s⟩⟩ := id F
  obtain ⟨⟨n1, n1b⟩, ⟨n2, n2b⟩, ⟨n3, n3b⟩, ⟨n4, n4b⟩, nof, non⟩ := id N
  have hz0 : zin (nI p) np := ⟨p, by omega, rfl⟩
  have hzk : zin (nI k) nt := ⟨k, by omega, rfl⟩
  refine zEi_of (lv := [some (.ref 0), some (.int (nI p)), some (.int (nI k)), some (.int (nI 0))]) (by decide) rfl (Nat.le_of_ble_eq_true rfl) ?_
  refine z_aload_0 d_Tf_teach_0 ?_
  refine z_iload_1 d_Tf_teach_1 ?_
  refine z_Vi1 d_Tf_teach_2 k_Tf_234 (by first | assumption | exact zS0_at (by assumption) (by omega) | exact zS0_at rfl (by omega)) (t_Tf_noPerson Z N) ⟨Nat.le_of_ble_eq_true rfl, Nat.le_of_ble_eq_true rfl, Nat.le_of_ble_eq_true rfl, Nat.le_of_ble_eq_true rfl⟩ (Nat.le_of_ble_eq_true rfl) ?_
  intro r w hq
  rcases hq with ⟨⟨hz2, rfl⟩ | ⟨hz2, rfl⟩, rfl⟩
  · first
    | contradiction
    | ( skip
        refine z_if_ne (tgt := 16) d_Tf_teach_5 (by decide) (fun _ => ?_) (fun h => absurd h (by decide))
        refine z_aload_0 d_Tf_teach_16 ?_
        refine z_iconst (a := nI 2) d_Tf_teach_17 (by decide) ?_
        refine z_Vi1 d_Tf_teach_18 k_Tf_119 (by first | assumption | exact zS0_at (by assumption) (by omega) | exact zS0_at rfl (by omega)) (t_Tf_refuse (by assumption)) ⟨Nat.le_of_ble_eq_true rfl, Nat.le_of_ble_eq_true rfl, Nat.le_of_ble_eq_true rfl, Nat.le_of_ble_eq_true rfl⟩ (Nat.le_of_ble_eq_true rfl) ?_
        intro r w hq
        obtain ⟨rfl, rfl⟩ := hq
        refine z_retz d_Tf_teach_21 (by first | exact zb0 | exact zb1 | assumption) ?_
        exact ⟨by first | rfl | assumption, cW_0⟩)
  · first
    | contradiction
    | ( skip
        refine z_if_ne (tgt := 16) d_Tf_teach_5 (by decide) (fun h => absurd h (by decide)) (fun _ => ?_)
        refine z_aload_0 d_Tf_teach_8 ?_
        refine z_iload_2 d_Tf_teach_9 ?_
        refine z_Vi1 d_Tf_teach_10 k_Tf_227 (by first | assumption | exact zS0_at (by assumption) (by omega) | exact zS0_at rfl (by omega)) (t_Tf_noTrait Z N) ⟨Nat.le_of_ble_eq_true rfl, Nat.le_of_ble_eq_true rfl, Nat.le_of_ble_eq_true rfl, Nat.le_of_ble_eq_true rfl⟩ (Nat.le_of_ble_eq_true rfl) ?_
        intro r w hq
        rcases hq with ⟨⟨hz10, rfl⟩ | ⟨hz10, rfl⟩, rfl⟩
        · first
          | contradiction
          | ( skip
              refine z_if_eq (tgt := 22) d_Tf_teach_13 (by decide) (fun h => absurd h (by decide)) (fun _ => ?_)
              refine z_aload_0 d_Tf_teach_16 ?_
              refine z_iconst (a := nI 2) d_Tf_teach_17 (by decide) ?_
              refine z_Vi1 d_Tf_teach_18 k_Tf_119 (by first | assumption | exact zS0_at (by assumption) (by omega) | exact zS0_at rfl (by omega)) (t_Tf_refuse (by assumption)) ⟨Nat.le_of_ble_eq_true rfl, Nat.le_of_ble_eq_true rfl, Nat.le_of_ble_eq_true rfl, Nat.le_of_ble_eq_true rfl⟩ (Nat.le_of_ble_eq_true rfl) ?_
              intro r w hq
              obtain ⟨rfl, rfl⟩ := hq
              refine z_retz d_Tf_teach_21 (by first | exact zb0 | exact zb1 | assumption) ?_
              exact ⟨by first | rfl | assumption, cW_0⟩)
        · first
          | contradiction
          | ( skip
              refine z_if_eq (tgt := 22) d_Tf_teach_13 (by decide) (fun _ => ?_) (fun h => absurd h (by decide))
              refine z_aload_0 d_Tf_teach_22 ?_
              refine z_getR d_Tf_teach_23 f_Tf_60 (by first | assumption | exact zS0_at (by assumption) (by omega) | exact zS0_at rfl (by omega)) (by first | assumption | exact zS0_at (by assumption) (by omega) | exact zS0_at rfl (by omega)) ?_
              refine z_iload_1 d_Tf_teach_26 ?_
              refine z_iload_2 d_Tf_teach_27 ?_
              refine z_Vi2 d_Tf_teach_28 k_Tf_285 (by first | assumption | exact zS0_at (by assumption) (by omega) | exact zS0_at rfl (by omega)) (t_Fen_isTrue (by assumption) (by omega)) ⟨Nat.le_of_ble_eq_true rfl, Nat.le_of_ble_eq_true rfl, Nat.le_of_ble_eq_true rfl, Nat.le_of_ble_eq_true rfl⟩ (Nat.le_of_ble_eq_true rfl) ?_
              intro r w hq
              rcases hq with ⟨⟨hz28, rfl⟩ | ⟨hz28, rfl⟩, rfl⟩
              · first
                | contradiction
                | ( skip
                    refine z_iload_3 d_Tf_teach_31 ?_
                    refine z_icmp_ne (tgt := 42) d_Tf_teach_32 (by decide) (fun h32 => ?_) (fun h32 => ?_)
                    · first
                      | (simp (disch := omega) only [← nI_0, nI_leI, nI_ltI, nI_eq, not_true_eq_false, not_false_eq_true] at h32; done)
                      | (simp (disch := omega) only [← nI_0, nI_leI, nI_ltI, nI_eq, not_true_eq_false, not_false_eq_true] at h32; omega)
                      | contradiction
                      | exact absurd h32 (Int32.not_lt.mpr (by assumption))
                      | exact absurd h32 (Int32.not_le.mpr (by assumption))
                      | exact absurd h32 (by decide)
                      | exact absurd (by decide) h32
                      | ( try simp (disch := omega) only [← nI_0, nI_leI, nI_ltI, nI_eq, not_true_eq_false, not_false_eq_true] at h32
                          (try have h32b := zbit_n0.mp h32); (try have h32b := zbit_p0.mp h32)
                          refine z_aload_0 d_Tf_teach_42 ?_
                          refine z_getR d_Tf_teach_43 f_Tf_60 (by first | assumption | exact zS0_at (by assumption) (by omega) | exact zS0_at rfl (by omega)) (by first | assumption | exact zS0_at (by assumption) (by omega) | exact zS0_at rfl (by omega)) ?_
                          refine z_iload_1 d_Tf_teach_46 ?_
                          refine z_iload_2 d_Tf_teach_47 ?_
                          refine z_Vv2 d_Tf_teach_48 k_Tf_295 (by first | assumption | exact zS0_at (by assumption) (by omega) | exact zS0_at rfl (by omega)) (t_Fen_turn (by assumption) (by omega)) ⟨Nat.le_of_ble_eq_true rfl, Nat.le_of_ble_eq_true rfl, Nat.le_of_ble_eq_true rfl, Nat.le_of_ble_eq_true rfl⟩ (Nat.le_of_ble_eq_true rfl) ?_
                          intro w hq
                          obtain rfl := hq
                          refine z_aload_0 d_Tf_teach_51 ?_
                          refine z_Vi0 d_Tf_teach_52 k_Tf_126 (by first | assumption | exact zS0_at (by assumption) (by omega) | exact zS0_at rfl (by omega)) (t_Tf_agree (by assumption)) ⟨Nat.le_of_ble_eq_true rfl, Nat.le_of_ble_eq_true rfl, Nat.le_of_ble_eq_true rfl, Nat.le_of_ble_eq_true rfl⟩ (Nat.le_of_ble_eq_true rfl) ?_
                          intro r w hq
                          obtain ⟨rfl, rfl⟩ := hq
                          refine z_retz d_Tf_teach_55 (by first | exact zb0 | exact zb1 | assumption) ?_
                          exact ⟨by first | rfl | assumption, cW_0⟩)
                    · first
                      | (simp (disch := omega) only [← nI_0, nI_leI, nI_ltI, nI_eq, not_true_eq_false, not_false_eq_true] at h32; done)
                      | (simp (disch := omega) only [← nI_0, nI_leI, nI_ltI, nI_eq, not_true_eq_false, not_false_eq_true] at h32; omega)
                      | contradiction
                      | exact absurd h32 (Int32.not_lt.mpr (by assumption))
                      | exact absurd h32 (Int32.not_le.mpr (by assumption))
                      | exact absurd h32 (by decide)
                      | exact absurd (by decide) h32
                      | ( try simp (disch := omega) only [← nI_0, nI_leI, nI_ltI, nI_eq, not_true_eq_false, not_false_eq_true] at h32
                          (try have h32b := zbit_n0.mp h32); (try have h32b := zbit_p0.mp h32)
                          refine z_aload_0 d_Tf_teach_35 ?_
                          refine z_bipush (a := nI 9) d_Tf_teach_36 (by decide) ?_
                          refine z_Vi1 d_Tf_teach_38 k_Tf_119 (by first | assumption | exact zS0_at (by assumption) (by omega) | exact zS0_at rfl (by omega)) (t_Tf_refuse (by assumption)) ⟨Nat.le_of_ble_eq_true rfl, Nat.le_of_ble_eq_true rfl, Nat.le_of_ble_eq_true rfl, Nat.le_of_ble_eq_true rfl⟩ (Nat.le_of_ble_eq_true rfl) ?_
                          intro r w hq
                          obtain ⟨rfl, rfl⟩ := hq
                          refine z_retz d_Tf_teach_41 (by first | exact zb0 | exact zb1 | assumption) ?_
                          exact ⟨by first | rfl | assumption, cW_0⟩))
              · first
                | contradiction
                | ( skip
                    refine z_iload_3 d_Tf_teach_31 ?_
                    refine z_icmp_ne (tgt := 42) d_Tf_teach_32 (by decide) (fun h32 => ?_) (fun h32 => ?_)
                    · first
                      | (simp (disch := omega) only [← nI_0, nI_leI, nI_ltI, nI_eq, not_true_eq_false, not_false_eq_true] at h32; done)
                      | (simp (disch := omega) only [← nI_0, nI_leI, nI_ltI, nI_eq, not_true_eq_false, not_false_eq_true] at h32; omega)
                      | contradiction
                      | exact absurd h32 (Int32.not_lt.mpr (by assumption))
                      | exact absurd h32 (Int32.not_le.mpr (by assumption))
                      | exact absurd h32 (by decide)
                      | exact absurd (by decide) h32
                      | ( try simp (disch := omega) only [← nI_0, nI_leI, nI_ltI, nI_eq, not_true_eq_false, not_false_eq_true] at h32
                          (try have h32b := zbit_n0.mp h32); (try have h32b := zbit_p0.mp h32)
                          refine z_aload_0 d_Tf_teach_42 ?_
                          refine z_getR d_Tf_teach_43 f_Tf_60 (by first | assumption | exact zS0_at (by assumption) (by omega) | exact zS0_at rfl (by omega)) (by first | assumption | exact zS0_at (by assumption) (by omega) | exact zS0_at rfl (by omega)) ?_
                          refine z_iload_1 d_Tf_teach_46 ?_
                          refine z_iload_2 d_Tf_teach_47 ?_
                          refine z_Vv2 d_Tf_teach_48 k_Tf_295 (by first | assumption | exact zS0_at (by assumption) (by omega) | exact zS0_at rfl (by omega)) (t_Fen_turn (by assumption) (by omega)) ⟨Nat.le_of_ble_eq_true rfl, Nat.le_of_ble_eq_true rfl, Nat.le_of_ble_eq_true rfl, Nat.le_of_ble_eq_true rfl⟩ (Nat.le_of_ble_eq_true rfl) ?_
                          intro w hq
                          obtain rfl := hq
                          refine z_aload_0 d_Tf_teach_51 ?_
                          refine z_Vi0 d_Tf_teach_52 k_Tf_126 (by first | assumption | exact zS0_at (by assumption) (by omega) | exact zS0_at rfl (by omega)) (t_Tf_agree (by assumption)) ⟨Nat.le_of_ble_eq_true rfl, Nat.le_of_ble_eq_true rfl, Nat.le_of_ble_eq_true rfl, Nat.le_of_ble_eq_true rfl⟩ (Nat.le_of_ble_eq_true rfl) ?_
                          intro r w hq
                          obtain ⟨rfl, rfl⟩ := hq
                          refine z_retz d_Tf_teach_55 (by first | exact zb0 | exact zb1 | assumption) ?_
                          exact ⟨by first | rfl | assumption, cW_0⟩)
                    · first
                      | (simp (disch := omega) only [← nI_0, nI_leI, nI_ltI, nI_eq, not_true_eq_false, not_false_eq_true] at h32; done)
                      | (simp (disch := omega) only [← nI_0, nI_leI, nI_ltI, nI_eq, not_true_eq_false, not_false_eq_true] at h32; omega)
                      | contradiction
                      | exact absurd h32 (Int32.not_lt.mpr (by assumption))
                      | exact absurd h32 (Int32.not_le.mpr (by assumption))
                      | exact absurd h32 (by decide)
                      | exact absurd (by decide) h32
                      | ( try simp (disch := omega) only [← nI_0, nI_leI, nI_ltI, nI_eq, not_true_eq_false, not_false_eq_true] at h32
                          (try have h32b := zbit_n0.mp h32); (try have h32b := zbit_p0.mp h32)
                          refine z_aload_0 d_Tf_teach_35 ?_
                          refine z_bipush (a := nI 9) d_Tf_teach_36 (by decide) ?_
                          refine z_Vi1 d_Tf_teach_38 k_Tf_119 (by first | assumption | exact zS0_at (by assumption) (by omega) | exact zS0_at rfl (by omega)) (t_Tf_refuse (by assumption)) ⟨Nat.le_of_ble_eq_true rfl, Nat.le_of_ble_eq_true rfl, Nat.le_of_ble_eq_true rfl, Nat.le_of_ble_eq_true rfl⟩ (Nat.le_of_ble_eq_true rfl) ?_
                          intro r w hq
                          obtain ⟨rfl, rfl⟩ := hq
                          refine z_retz d_Tf_teach_41 (by first | exact zb0 | exact zb1 | assumption) ?_
                          exact ⟨by first | rfl | assumption, cW_0⟩))))
theorem t_Tf_teach_y0 {p k : Nat} (Z : clOk f d P S) (N : fenIn I f nt np nl nn) (hp : p < np) (hk : k < nt) (hz : zbit (I (f + 2) p) k) : zEi G y_Tf_teach prog_1_method_23_code 4 (some .boolean) 3 [.ref 0, .int (nI p), .int (nI k), .int (nI 0)] (I, J, P, S) (fun r w => r = nI 1 ∧ w = (zu (zu I (f + 2) p (I (f + 2) p ^^^ (nI 1 <<< (nI k &&& 31)))) 0 0 (nI 0), J, P, S)) := by
  obtain ⟨⟨c0, c3, c1s⟩, ⟨c5, c2s, ctr⟩, ⟨c6, c11s, c11, c13s⟩, ⟨c7, c15s, c15⟩, ⟨c8, c16s, c16a, c16b, c17s⟩, ⟨c9, c10, cfd, F, Fd⟩, ⟨c11b, Ft⟩, ⟨c12, c69s, cmk⟩, ⟨c14, c121s, c121, c122s⟩, ⟨c15b, c123s, c123, c124s⟩, ⟨c16, c125s, c125, c126s⟩, ⟨c17, c127s, c127, c128s, ctb⟩, ⟨c18, c139s, c139, c140s⟩, ⟨c19, c141s, ⟨c141a, c142s⟩, ⟨c141b, c143s⟩, ⟨c141c, c144s⟩⟩, M⟩ := id Z
  obtain ⟨F0, ⟨F8, F8s⟩, ⟨F9, F9s⟩, ⟨F10, F10s⟩, ⟨F11, F11s⟩, ⟨F12, F12s⟩, ⟨F13, F13s⟩, ⟨F14, F14s⟩, ⟨F15, F15s⟩, ⟨F16, F16s⟩, ⟨F17, F17s⟩, ⟨F18, F18s⟩, ⟨F19, F19s⟩, ⟨Y3, Y3s⟩, ⟨Y4, Y4s⟩, ⟨Y5, Y5s⟩, ⟨Y6, Y6s⟩⟩ := id F
  obtain ⟨⟨n1, n1b⟩, ⟨n2, n2b⟩, ⟨n3, n3b⟩, ⟨n4, n4b⟩, nof, non⟩ := id N
  have hz0 : zin (nI p) np := ⟨p, by omega, rfl⟩
  have hzk : zin (nI k) nt := ⟨k, by omega, rfl⟩
  refine zEi_of (lv := [some (.ref 0), some (.int (nI p)), some (.int (nI k)), some (.int (nI 0))]) (by decide) rfl (Nat.le_of_ble_eq_true rfl) ?_
  refine z_aload_0 d_Tf_teach_0 ?_
  refine z_iload_1 d_Tf_teach_1 ?_
  refine z_Vi1 d_Tf_teach_2 k_Tf_234 (by first | assumption | exact zS0_at (by assumption) (by omega) | exact zS0_at rfl (by omega)) (t_Tf_noPerson Z N) ⟨Nat.le_of_ble_eq_true rfl, Nat.le_of_ble_eq_true rfl, Nat.le_of_ble_eq_true rfl, Nat.le_of_ble_eq_true rfl⟩ (Nat.le_of_ble_eq_true rfl) ?_
  intro r w hq
  rcases hq with ⟨⟨hz2, rfl⟩ | ⟨hz2, rfl⟩, rfl⟩
  · first
    | contradiction
    | ( skip
        refine z_if_ne (tgt := 16) d_Tf_teach_5 (by decide) (fun _ => ?_) (fun h => absurd h (by decide))
        refine z_aload_0 d_Tf_teach_16 ?_
        refine z_iconst (a := nI 2) d_Tf_teach_17 (by decide) ?_
        refine z_Vi1 d_Tf_teach_18 k_Tf_119 (by first | assumption | exact zS0_at (by assumption) (by omega) | exact zS0_at rfl (by omega)) (t_Tf_refuse (by assumption)) ⟨Nat.le_of_ble_eq_true rfl, Nat.le_of_ble_eq_true rfl, Nat.le_of_ble_eq_true rfl, Nat.le_of_ble_eq_true rfl⟩ (Nat.le_of_ble_eq_true rfl) ?_
        intro r w hq
        obtain ⟨rfl, rfl⟩ := hq
        refine z_retz d_Tf_teach_21 (by first | exact zb0 | exact zb1 | assumption) ?_
        exact ⟨rfl, rfl⟩)
  · first
    | contradiction
    | ( skip
        refine z_if_ne (tgt := 16) d_Tf_teach_5 (by decide) (fun h => absurd h (by decide)) (fun _ => ?_)
        refine z_aload_0 d_Tf_teach_8 ?_
        refine z_iload_2 d_Tf_teach_9 ?_
        refine z_Vi1 d_Tf_teach_10 k_Tf_227 (by first | assumption | exact zS0_at (by assumption) (by omega) | exact zS0_at rfl (by omega)) (t_Tf_noTrait Z N) ⟨Nat.le_of_ble_eq_true rfl, Nat.le_of_ble_eq_true rfl, Nat.le_of_ble_eq_true rfl, Nat.le_of_ble_eq_true rfl⟩ (Nat.le_of_ble_eq_true rfl) ?_
        intro r w hq
        rcases hq with ⟨⟨hz10, rfl⟩ | ⟨hz10, rfl⟩, rfl⟩
        · first
          | contradiction
          | ( skip
              refine z_if_eq (tgt := 22) d_Tf_teach_13 (by decide) (fun h => absurd h (by decide)) (fun _ => ?_)
              refine z_aload_0 d_Tf_teach_16 ?_
              refine z_iconst (a := nI 2) d_Tf_teach_17 (by decide) ?_
              refine z_Vi1 d_Tf_teach_18 k_Tf_119 (by first | assumption | exact zS0_at (by assumption) (by omega) | exact zS0_at rfl (by omega)) (t_Tf_refuse (by assumption)) ⟨Nat.le_of_ble_eq_true rfl, Nat.le_of_ble_eq_true rfl, Nat.le_of_ble_eq_true rfl, Nat.le_of_ble_eq_true rfl⟩ (Nat.le_of_ble_eq_true rfl) ?_
              intro r w hq
              obtain ⟨rfl, rfl⟩ := hq
              refine z_retz d_Tf_teach_21 (by first | exact zb0 | exact zb1 | assumption) ?_
              exact ⟨rfl, rfl⟩)
        · first
          | contradiction
          | ( skip
              refine z_if_eq (tgt := 22) d_Tf_teach_13 (by decide) (fun _ => ?_) (fun h => absurd h (by decide))
              refine z_aload_0 d_Tf_teach_22 ?_
              refine z_getR d_Tf_teach_23 f_Tf_60 (by first | assumption | exact zS0_at (by assumption) (by omega) | exact zS0_at rfl (by omega)) (by first | assumption | exact zS0_at (by assumption) (by omega) | exact zS0_at rfl (by omega)) ?_
              refine z_iload_1 d_Tf_teach_26 ?_
              refine z_iload_2 d_Tf_teach_27 ?_
              refine z_Vi2 d_Tf_teach_28 k_Tf_285 (by first | assumption | exact zS0_at (by assumption) (by omega) | exact zS0_at rfl (by omega)) (t_Fen_isTrue (by assumption) (by omega)) ⟨Nat.le_of_ble_eq_true rfl, Nat.le_of_ble_eq_true rfl, Nat.le_of_ble_eq_true rfl, Nat.le_of_ble_eq_true rfl⟩ (Nat.le_of_ble_eq_true rfl) ?_
              intro r w hq
              rcases hq with ⟨⟨hz28, rfl⟩ | ⟨hz28, rfl⟩, rfl⟩
              · first
                | contradiction
                | ( skip
                    refine z_iload_3 d_Tf_teach_31 ?_
                    refine z_icmp_ne (tgt := 42) d_Tf_teach_32 (by decide) (fun h32 => ?_) (fun h32 => ?_)
                    · first
                      | (simp (disch := omega) only [← nI_0, nI_leI, nI_ltI, nI_eq, not_true_eq_false, not_false_eq_true] at h32; done)
                      | (simp (disch := omega) only [← nI_0, nI_leI, nI_ltI, nI_eq, not_true_eq_false, not_false_eq_true] at h32; omega)
                      | contradiction
                      | exact absurd h32 (Int32.not_lt.mpr (by assumption))
                      | exact absurd h32 (Int32.not_le.mpr (by assumption))
                      | exact absurd h32 (by decide)
                      | exact absurd (by decide) h32
                      | ( try simp (disch := omega) only [← nI_0, nI_leI, nI_ltI, nI_eq, not_true_eq_false, not_false_eq_true] at h32
                          (try have h32b := zbit_n0.mp h32); (try have h32b := zbit_p0.mp h32)
                          refine z_aload_0 d_Tf_teach_42 ?_
                          refine z_getR d_Tf_teach_43 f_Tf_60 (by first | assumption | exact zS0_at (by assumption) (by omega) | exact zS0_at rfl (by omega)) (by first | assumption | exact zS0_at (by assumption) (by omega) | exact zS0_at rfl (by omega)) ?_
                          refine z_iload_1 d_Tf_teach_46 ?_
                          refine z_iload_2 d_Tf_teach_47 ?_
                          refine z_Vv2 d_Tf_teach_48 k_Tf_295 (by first | assumption | exact zS0_at (by assumption) (by omega) | exact zS0_at rfl (by omega)) (t_Fen_turn (by assumption) (by omega)) ⟨Nat.le_of_ble_eq_true rfl, Nat.le_of_ble_eq_true rfl, Nat.le_of_ble_eq_true rfl, Nat.le_of_ble_eq_true rfl⟩ (Nat.le_of_ble_eq_true rfl) ?_
                          intro w hq
                          obtain rfl := hq
                          refine z_aload_0 d_Tf_teach_51 ?_
                          refine z_Vi0 d_Tf_teach_52 k_Tf_126 (by first | assumption | exact zS0_at (by assumption) (by omega) | exact zS0_at rfl (by omega)) (t_Tf_agree (by assumption)) ⟨Nat.le_of_ble_eq_true rfl, Nat.le_of_ble_eq_true rfl, Nat.le_of_ble_eq_true rfl, Nat.le_of_ble_eq_true rfl⟩ (Nat.le_of_ble_eq_true rfl) ?_
                          intro r w hq
                          obtain ⟨rfl, rfl⟩ := hq
                          refine z_retz d_Tf_teach_55 (by first | exact zb0 | exact zb1 | assumption) ?_
                          exact ⟨rfl, rfl⟩)
                    · first
                      | (simp (disch := omega) only [← nI_0, nI_leI, nI_ltI, nI_eq, not_true_eq_false, not_false_eq_true] at h32; done)
                      | (simp (disch := omega) only [← nI_0, nI_leI, nI_ltI, nI_eq, not_true_eq_false, not_false_eq_true] at h32; omega)
                      | contradiction
                      | exact absurd h32 (Int32.not_lt.mpr (by assumption))
                      | exact absurd h32 (Int32.not_le.mpr (by assumption))
                      | exact absurd h32 (by decide)
                      | exact absurd (by decide) h32
                      | ( try simp (disch := omega) only [← nI_0, nI_leI, nI_ltI, nI_eq, not_true_eq_false, not_false_eq_true] at h32
                          (try have h32b := zbit_n0.mp h32); (try have h32b := zbit_p0.mp h32)
                          refine z_aload_0 d_Tf_teach_35 ?_
                          refine z_bipush (a := nI 9) d_Tf_teach_36 (by decide) ?_
                          refine z_Vi1 d_Tf_teach_38 k_Tf_119 (by first | assumption | exact zS0_at (by assumption) (by omega) | exact zS0_at rfl (by omega)) (t_Tf_refuse (by assumption)) ⟨Nat.le_of_ble_eq_true rfl, Nat.le_of_ble_eq_true rfl, Nat.le_of_ble_eq_true rfl, Nat.le_of_ble_eq_true rfl⟩ (Nat.le_of_ble_eq_true rfl) ?_
                          intro r w hq
                          obtain ⟨rfl, rfl⟩ := hq
                          refine z_retz d_Tf_teach_41 (by first | exact zb0 | exact zb1 | assumption) ?_
                          exact ⟨rfl, rfl⟩))
              · first
                | contradiction
                | ( skip
                    refine z_iload_3 d_Tf_teach_31 ?_
                    refine z_icmp_ne (tgt := 42) d_Tf_teach_32 (by decide) (fun h32 => ?_) (fun h32 => ?_)
                    · first
                      | (simp (disch := omega) only [← nI_0, nI_leI, nI_ltI, nI_eq, not_true_eq_false, not_false_eq_true] at h32; done)
                      | (simp (disch := omega) only [← nI_0, nI_leI, nI_ltI, nI_eq, not_true_eq_false, not_false_eq_true] at h32; omega)
                      | contradiction
                      | exact absurd h32 (Int32.not_lt.mpr (by assumption))
                      | exact absurd h32 (Int32.not_le.mpr (by assumption))
                      | exact absurd h32 (by decide)
                      | exact absurd (by decide) h32
                      | ( try simp (disch := omega) only [← nI_0, nI_leI, nI_ltI, nI_eq, not_true_eq_false, not_false_eq_true] at h32
                          (try have h32b := zbit_n0.mp h32); (try have h32b := zbit_p0.mp h32)
                          refine z_aload_0 d_Tf_teach_42 ?_
                          refine z_getR d_Tf_teach_43 f_Tf_60 (by first | assumption | exact zS0_at (by assumption) (by omega) | exact zS0_at rfl (by omega)) (by first | assumption | exact zS0_at (by assumption) (by omega) | exact zS0_at rfl (by omega)) ?_
                          refine z_iload_1 d_Tf_teach_46 ?_
                          refine z_iload_2 d_Tf_teach_47 ?_
                          refine z_Vv2 d_Tf_teach_48 k_Tf_295 (by first | assumption | exact zS0_at (by assumption) (by omega) | exact zS0_at rfl (by omega)) (t_Fen_turn (by assumption) (by omega)) ⟨Nat.le_of_ble_eq_true rfl, Nat.le_of_ble_eq_true rfl, Nat.le_of_ble_eq_true rfl, Nat.le_of_ble_eq_true rfl⟩ (Nat.le_of_ble_eq_true rfl) ?_
                          intro w hq
                          obtain rfl := hq
                          refine z_aload_0 d_Tf_teach_51 ?_
                          refine z_Vi0 d_Tf_teach_52 k_Tf_126 (by first | assumption | exact zS0_at (by assumption) (by omega) | exact zS0_at rfl (by omega)) (t_Tf_agree (by assumption)) ⟨Nat.le_of_ble_eq_true rfl, Nat.le_of_ble_eq_true rfl, Nat.le_of_ble_eq_true rfl, Nat.le_of_ble_eq_true rfl⟩ (Nat.le_of_ble_eq_true rfl) ?_
                          intro r w hq
                          obtain ⟨rfl, rfl⟩ := hq
                          refine z_retz d_Tf_teach_55 (by first | exact zb0 | exact zb1 | assumption) ?_
                          exact ⟨rfl, rfl⟩)
                    · first
                      | (simp (disch := omega) only [← nI_0, nI_leI, nI_ltI, nI_eq, not_true_eq_false, not_false_eq_true] at h32; done)
                      | (simp (disch := omega) only [← nI_0, nI_leI, nI_ltI, nI_eq, not_true_eq_false, not_false_eq_true] at h32; omega)
                      | contradiction
                      | exact absurd h32 (Int32.not_lt.mpr (by assumption))
                      | exact absurd h32 (Int32.not_le.mpr (by assumption))
                      | exact absurd h32 (by decide)
                      | exact absurd (by decide) h32
                      | ( try simp (disch := omega) only [← nI_0, nI_leI, nI_ltI, nI_eq, not_true_eq_false, not_false_eq_true] at h32
                          (try have h32b := zbit_n0.mp h32); (try have h32b := zbit_p0.mp h32)
                          refine z_aload_0 d_Tf_teach_35 ?_
                          refine z_bipush (a := nI 9) d_Tf_teach_36 (by decide) ?_
                          refine z_Vi1 d_Tf_teach_38 k_Tf_119 (by first | assumption | exact zS0_at (by assumption) (by omega) | exact zS0_at rfl (by omega)) (t_Tf_refuse (by assumption)) ⟨Nat.le_of_ble_eq_true rfl, Nat.le_of_ble_eq_true rfl, Nat.le_of_ble_eq_true rfl, Nat.le_of_ble_eq_true rfl⟩ (Nat.le_of_ble_eq_true rfl) ?_
                          intro r w hq
                          obtain ⟨rfl, rfl⟩ := hq
                          refine z_retz d_Tf_teach_41 (by first | exact zb0 | exact zb1 | assumption) ?_
                          exact ⟨rfl, rfl⟩))))
theorem t_Mo_teach_n0 {p k : Nat} (M : modOk P S) (N : modIn I nt np nl nn) (hp : p < np) (hk : k < nt) (hz : ¬ zbit (I 150 (12 + p)) k) : zEi G y_Mo_teach prog_14_method_98_code 4 (some .boolean) 4 [.ref 145, .int (nI p), .int (nI k), .int (nI 0)] (I, J, P, S) (fun r w => r = nI 0 ∧ mW I J P S 9 w) := by
  obtain ⟨M0, ⟨M4, M4s⟩, ⟨M5, M5s⟩, ⟨M6, M6s⟩, ⟨M7, M7s⟩, ⟨M20, M20s⟩, ⟨M21, M21s⟩, ⟨M22, M22s⟩, ⟨M26, M26s⟩, ⟨M27, M27s⟩, ⟨M28, M28s⟩, ⟨M30, M30s⟩, ⟨M34, M34s⟩, ⟨M36, M36s⟩, ⟨M37, M37s⟩⟩ := id M
  obtain ⟨I1, hI1, N1, h1, h0, e150, er, ek⟩ := mo_beg N
  obtain ⟨⟨m0, m0b⟩, ⟨m1, m1b⟩, ⟨m2, m2b⟩, ⟨m3, m3b⟩, mof, mon⟩ := id N1
  have hD : mD I I1 := ⟨h1, h0, e150, er⟩
  refine zEi_of (lv := [some (.ref 145), some (.int (nI p)), some (.int (nI k)), some (.int (nI 0))]) (by decide) rfl (Nat.le_of_ble_eq_true rfl) ?_
  refine z_aload_0 d_Mo_teach_0 ?_
  refine z_iconst (a := nI 0) d_Mo_teach_1 (by decide) ?_
  refine z_putI d_Mo_teach_2 f_Mo_70 (by first | assumption | exact zS0_at (by assumption) (by omega) | exact zS0_at rfl (by omega)) ?_
  refine z_aload_0 d_Mo_teach_5 ?_
  refine z_iconst (a := nI 0) d_Mo_teach_6 (by decide) ?_
  refine z_putI d_Mo_teach_7 f_Mo_73 (by first | assumption | exact zS0_at (by assumption) (by omega) | exact zS0_at rfl (by omega)) ?_
  rw [← hI1]
  have hz0 : zin (nI p) np := ⟨p, by omega, rfl⟩
  have hzk : zin (nI k) nt := ⟨k, by omega, rfl⟩
  have hz1 : ¬ zbit (I1 150 (12 + p)) k := by rw [e150]; exact hz
  refine z_aload_0 d_Mo_teach_10 ?_
  refine z_iload_1 d_Mo_teach_11 ?_
  refine z_i2l d_Mo_teach_12 ?_
  refine z_Vi1 d_Mo_teach_13 k_Mo_336 (by first | assumption | exact zS0_at (by assumption) (by omega) | exact zS0_at rfl (by omega)) (t_Mo_isPersonAtI M N1) ⟨Nat.le_of_ble_eq_true rfl, Nat.le_of_ble_eq_true rfl, Nat.le_of_ble_eq_true rfl, Nat.le_of_ble_eq_true rfl⟩ (Nat.le_of_ble_eq_true rfl) ?_
  intro r w hq
  rcases hq with ⟨⟨hz13, rfl⟩ | ⟨hz13, rfl⟩, rfl⟩
  · first
    | contradiction
    | ( skip
        refine z_if_eq (tgt := 27) d_Mo_teach_16 (by decide) (fun h => absurd h (by decide)) (fun _ => ?_)
        refine z_aload_0 d_Mo_teach_19 ?_
        refine z_iload_2 d_Mo_teach_20 ?_
        refine z_Vi1 d_Mo_teach_21 k_Mo_333 (by first | assumption | exact zS0_at (by assumption) (by omega) | exact zS0_at rfl (by omega)) (t_Mo_isTraitAt M N1) ⟨Nat.le_of_ble_eq_true rfl, Nat.le_of_ble_eq_true rfl, Nat.le_of_ble_eq_true rfl, Nat.le_of_ble_eq_true rfl⟩ (Nat.le_of_ble_eq_true rfl) ?_
        intro r w hq
        rcases hq with ⟨⟨hz21, rfl⟩ | ⟨hz21, rfl⟩, rfl⟩
        · first
          | contradiction
          | ( skip
              refine z_if_ne (tgt := 33) d_Mo_teach_24 (by decide) (fun _ => ?_) (fun h => absurd h (by decide))
              refine z_aload_0 d_Mo_teach_33 ?_
              refine z_iload_1 d_Mo_teach_34 ?_
              refine z_iload_2 d_Mo_teach_35 ?_
              refine z_iload_3 d_Mo_teach_36 ?_
              refine z_Vi3 d_Mo_teach_37 k_Mo_366 (by first | assumption | exact zS0_at (by assumption) (by omega) | exact zS0_at rfl (by omega)) (t_Mo_teaches_n (j := 0) M (by omega) (Or.inr ⟨rfl, hz1⟩)) ⟨Nat.le_of_ble_eq_true rfl, Nat.le_of_ble_eq_true rfl, Nat.le_of_ble_eq_true rfl, Nat.le_of_ble_eq_true rfl⟩ (Nat.le_of_ble_eq_true rfl) ?_
              intro r w hq
              obtain ⟨rfl, rfl⟩ := hq
              refine z_if_ne (tgt := 52) d_Mo_teach_40 (by decide) (fun h40 => ?_) (fun h40 => ?_)
              · first
                | (simp (disch := omega) only [← nI_0, nI_leI, nI_ltI, nI_eq, not_true_eq_false, not_false_eq_true] at h40; done)
                | (simp (disch := omega) only [← nI_0, nI_leI, nI_ltI, nI_eq, not_true_eq_false, not_false_eq_true] at h40; omega)
                | contradiction
                | exact absurd h40 (Int32.not_lt.mpr (by assumption))
                | exact absurd h40 (Int32.not_le.mpr (by assumption))
                | exact absurd h40 (by decide)
                | exact absurd (by decide) h40
                | ( try simp (disch := omega) only [← nI_0, nI_leI, nI_ltI, nI_eq, not_true_eq_false, not_false_eq_true] at h40
                    (try have h40b := zbit_n0.mp h40); (try have h40b := zbit_p0.mp h40)
                    refine z_iconst (a := nI 1) d_Mo_teach_52 (by decide) ?_
                    refine z_goto (tgt := 57) d_Mo_teach_53 (by decide) ?_
                    refine z_retz d_Mo_teach_57 (by first | exact zb0 | exact zb1 | assumption) ?_
                    exact ⟨by first | rfl | assumption | (rw [e150]), _, _, rfl, (by repeat (first | exact h1 | refine mqF_z ?_ (by decide))), mqJ_r, (by first | exact zu_same _ _ _ _ | exact h0)⟩)
              · first
                | (simp (disch := omega) only [← nI_0, nI_leI, nI_ltI, nI_eq, not_true_eq_false, not_false_eq_true] at h40; done)
                | (simp (disch := omega) only [← nI_0, nI_leI, nI_ltI, nI_eq, not_true_eq_false, not_false_eq_true] at h40; omega)
                | contradiction
                | exact absurd h40 (Int32.not_lt.mpr (by assumption))
                | exact absurd h40 (Int32.not_le.mpr (by assumption))
                | exact absurd h40 (by decide)
                | exact absurd (by decide) h40
                | ( try simp (disch := omega) only [← nI_0, nI_leI, nI_ltI, nI_eq, not_true_eq_false, not_false_eq_true] at h40
                    (try have h40b := zbit_n0.mp h40); (try have h40b := zbit_p0.mp h40)
                    refine z_aload_0 d_Mo_teach_43 ?_
                    refine z_bipush (a := nI 9) d_Mo_teach_44 (by decide) ?_
                    refine z_Vi1 d_Mo_teach_46 k_Mo_85 (by first | assumption | exact zS0_at (by assumption) (by omega) | exact zS0_at rfl (by omega)) (t_Mo_no (by assumption)) ⟨Nat.le_of_ble_eq_true rfl, Nat.le_of_ble_eq_true rfl, Nat.le_of_ble_eq_true rfl, Nat.le_of_ble_eq_true rfl⟩ (Nat.le_of_ble_eq_true rfl) ?_
                    intro r w hq
                    obtain ⟨rfl, rfl⟩ := hq
                    refine z_if_eq (tgt := 56) d_Mo_teach_49 (by decide) (fun h49 => ?_) (fun h49 => ?_)
                    · first
                      | (simp (disch := omega) only [← nI_0, nI_leI, nI_ltI, nI_eq, not_true_eq_false, not_false_eq_true] at h49; done)
                      | (simp (disch := omega) only [← nI_0, nI_leI, nI_ltI, nI_eq, not_true_eq_false, not_false_eq_true] at h49; omega)
                      | contradiction
                      | exact absurd h49 (Int32.not_lt.mpr (by assumption))
                      | exact absurd h49 (Int32.not_le.mpr (by assumption))
                      | exact absurd h49 (by decide)
                      | exact absurd (by decide) h49
                      | ( try simp (disch := omega) only [← nI_0, nI_leI, nI_ltI, nI_eq, not_true_eq_false, not_false_eq_true] at h49
                          (try have h49b := zbit_n0.mp h49); (try have h49b := zbit_p0.mp h49)
                          refine z_iconst (a := nI 0) d_Mo_teach_56 (by decide) ?_
                          refine z_retz d_Mo_teach_57 (by first | exact zb0 | exact zb1 | assumption) ?_
                          exact ⟨by first | rfl | assumption | (rw [e150]), _, _, rfl, (by repeat (first | exact h1 | refine mqF_z ?_ (by decide))), mqJ_r, (by first | exact zu_same _ _ _ _ | exact h0)⟩)
                    · first
                      | (simp (disch := omega) only [← nI_0, nI_leI, nI_ltI, nI_eq, not_true_eq_false, not_false_eq_true] at h49; done)
                      | (simp (disch := omega) only [← nI_0, nI_leI, nI_ltI, nI_eq, not_true_eq_false, not_false_eq_true] at h49; omega)
                      | contradiction
                      | exact absurd h49 (Int32.not_lt.mpr (by assumption))
                      | exact absurd h49 (Int32.not_le.mpr (by assumption))
                      | exact absurd h49 (by decide)
                      | exact absurd (by decide) h49
                      | ( try simp (disch := omega) only [← nI_0, nI_leI, nI_ltI, nI_eq, not_true_eq_false, not_false_eq_true] at h49
                          (try have h49b := zbit_n0.mp h49); (try have h49b := zbit_p0.mp h49)
                          refine z_iconst (a := nI 1) d_Mo_teach_52 (by decide) ?_
                          refine z_goto (tgt := 57) d_Mo_teach_53 (by decide) ?_
                          refine z_retz d_Mo_teach_57 (by first | exact zb0 | exact zb1 | assumption) ?_
                          exact ⟨by first | rfl | assumption | (rw [e150]), _, _, rfl, (by repeat (first | exact h1 | refine mqF_z ?_ (by decide))), mqJ_r, (by first | exact zu_same _ _ _ _ | exact h0)⟩)))
        · first
          | contradiction
          | ( skip
              refine z_if_ne (tgt := 33) d_Mo_teach_24 (by decide) (fun h => absurd h (by decide)) (fun _ => ?_)
              refine z_aload_0 d_Mo_teach_27 ?_
              refine z_iconst (a := nI 2) d_Mo_teach_28 (by decide) ?_
              refine z_Vi1 d_Mo_teach_29 k_Mo_85 (by first | assumption | exact zS0_at (by assumption) (by omega) | exact zS0_at rfl (by omega)) (t_Mo_no (by assumption)) ⟨Nat.le_of_ble_eq_true rfl, Nat.le_of_ble_eq_true rfl, Nat.le_of_ble_eq_true rfl, Nat.le_of_ble_eq_true rfl⟩ (Nat.le_of_ble_eq_true rfl) ?_
              intro r w hq
              obtain ⟨rfl, rfl⟩ := hq
              refine z_retz d_Mo_teach_32 (by first | exact zb0 | exact zb1 | assumption) ?_
              exact ⟨by first | rfl | assumption | (rw [e150]), _, _, rfl, (by repeat (first | exact h1 | refine mqF_z ?_ (by decide))), mqJ_r, (by first | exact zu_same _ _ _ _ | exact h0)⟩))
  · first
    | contradiction
    | ( skip
        refine z_if_eq (tgt := 27) d_Mo_teach_16 (by decide) (fun _ => ?_) (fun h => absurd h (by decide))
        refine z_aload_0 d_Mo_teach_27 ?_
        refine z_iconst (a := nI 2) d_Mo_teach_28 (by decide) ?_
        refine z_Vi1 d_Mo_teach_29 k_Mo_85 (by first | assumption | exact zS0_at (by assumption) (by omega) | exact zS0_at rfl (by omega)) (t_Mo_no (by assumption)) ⟨Nat.le_of_ble_eq_true rfl, Nat.le_of_ble_eq_true rfl, Nat.le_of_ble_eq_true rfl, Nat.le_of_ble_eq_true rfl⟩ (Nat.le_of_ble_eq_true rfl) ?_
        intro r w hq
        obtain ⟨rfl, rfl⟩ := hq
        refine z_retz d_Mo_teach_32 (by first | exact zb0 | exact zb1 | assumption) ?_
        exact ⟨by first | rfl | assumption | (rw [e150]), _, _, rfl, (by repeat (first | exact h1 | refine mqF_z ?_ (by decide))), mqJ_r, (by first | exact zu_same _ _ _ _ | exact h0)⟩)
theorem t_Mo_teach_y0 {p k : Nat} (M : modOk P S) (N : modIn I nt np nl nn) (hp : p < np) (hk : k < nt) (hz : zbit (I 150 (12 + p)) k) : zEi G y_Mo_teach prog_14_method_98_code 4 (some .boolean) 4 [.ref 145, .int (nI p), .int (nI k), .int (nI 0)] (I, J, P, S) (fun r w => r = nI 1 ∧ ∃ I1, mD I I1 ∧ w = (zu I1 150 (12 + p) (I1 150 (12 + p) ^^^ (nI 1 <<< (nI k &&& 31))), J, P, S)) := by
  obtain ⟨M0, ⟨M4, M4s⟩, ⟨M5, M5s⟩, ⟨M6, M6s⟩, ⟨M7, M7s⟩, ⟨M20, M20s⟩, ⟨M21, M21s⟩, ⟨M22, M22s⟩, ⟨M26, M26s⟩, ⟨M27, M27s⟩, ⟨M28, M28s⟩, ⟨M30, M30s⟩, ⟨M34, M34s⟩, ⟨M36, M36s⟩, ⟨M37, M37s⟩⟩ := id M
  obtain ⟨I1, hI1, N1, h1, h0, e150, er, ek⟩ := mo_beg N
  obtain ⟨⟨m0, m0b⟩, ⟨m1, m1b⟩, ⟨m2, m2b⟩, ⟨m3, m3b⟩, mof, mon⟩ := id N1
  have hD : mD I I1 := ⟨h1, h0, e150, er⟩
  refine zEi_of (lv := [some (.ref 145), some (.int (nI p)), some (.int (nI k)), some (.int (nI 0))]) (by decide) rfl (Nat.le_of_ble_eq_true rfl) ?_
  refine z_aload_0 d_Mo_teach_0 ?_
  refine z_iconst (a := nI 0) d_Mo_teach_1 (by decide) ?_
  refine z_putI d_Mo_teach_2 f_Mo_70 (by first | assumption | exact zS0_at (by assumption) (by omega) | exact zS0_at rfl (by omega)) ?_
  refine z_aload_0 d_Mo_teach_5 ?_
  refine z_iconst (a := nI 0) d_Mo_teach_6 (by decide) ?_
  refine z_putI d_Mo_teach_7 f_Mo_73 (by first | assumption | exact zS0_at (by assumption) (by omega) | exact zS0_at rfl (by omega)) ?_
  rw [← hI1]
  have hz0 : zin (nI p) np := ⟨p, by omega, rfl⟩
  have hzk : zin (nI k) nt := ⟨k, by omega, rfl⟩
  have hz1 : zbit (I1 150 (12 + p)) k := by rw [e150]; exact hz
  refine z_aload_0 d_Mo_teach_10 ?_
  refine z_iload_1 d_Mo_teach_11 ?_
  refine z_i2l d_Mo_teach_12 ?_
  refine z_Vi1 d_Mo_teach_13 k_Mo_336 (by first | assumption | exact zS0_at (by assumption) (by omega) | exact zS0_at rfl (by omega)) (t_Mo_isPersonAtI M N1) ⟨Nat.le_of_ble_eq_true rfl, Nat.le_of_ble_eq_true rfl, Nat.le_of_ble_eq_true rfl, Nat.le_of_ble_eq_true rfl⟩ (Nat.le_of_ble_eq_true rfl) ?_
  intro r w hq
  rcases hq with ⟨⟨hz13, rfl⟩ | ⟨hz13, rfl⟩, rfl⟩
  · first
    | contradiction
    | ( skip
        refine z_if_eq (tgt := 27) d_Mo_teach_16 (by decide) (fun h => absurd h (by decide)) (fun _ => ?_)
        refine z_aload_0 d_Mo_teach_19 ?_
        refine z_iload_2 d_Mo_teach_20 ?_
        refine z_Vi1 d_Mo_teach_21 k_Mo_333 (by first | assumption | exact zS0_at (by assumption) (by omega) | exact zS0_at rfl (by omega)) (t_Mo_isTraitAt M N1) ⟨Nat.le_of_ble_eq_true rfl, Nat.le_of_ble_eq_true rfl, Nat.le_of_ble_eq_true rfl, Nat.le_of_ble_eq_true rfl⟩ (Nat.le_of_ble_eq_true rfl) ?_
        intro r w hq
        rcases hq with ⟨⟨hz21, rfl⟩ | ⟨hz21, rfl⟩, rfl⟩
        · first
          | contradiction
          | ( skip
              refine z_if_ne (tgt := 33) d_Mo_teach_24 (by decide) (fun _ => ?_) (fun h => absurd h (by decide))
              refine z_aload_0 d_Mo_teach_33 ?_
              refine z_iload_1 d_Mo_teach_34 ?_
              refine z_iload_2 d_Mo_teach_35 ?_
              refine z_iload_3 d_Mo_teach_36 ?_
              refine z_Vi3 d_Mo_teach_37 k_Mo_366 (by first | assumption | exact zS0_at (by assumption) (by omega) | exact zS0_at rfl (by omega)) (t_Mo_teaches_y (j := 0) M (by omega) (Or.inr ⟨rfl, hz1⟩)) ⟨Nat.le_of_ble_eq_true rfl, Nat.le_of_ble_eq_true rfl, Nat.le_of_ble_eq_true rfl, Nat.le_of_ble_eq_true rfl⟩ (Nat.le_of_ble_eq_true rfl) ?_
              intro r w hq
              obtain ⟨rfl, rfl⟩ := hq
              refine z_if_ne (tgt := 52) d_Mo_teach_40 (by decide) (fun h40 => ?_) (fun h40 => ?_)
              · first
                | (simp (disch := omega) only [← nI_0, nI_leI, nI_ltI, nI_eq, not_true_eq_false, not_false_eq_true] at h40; done)
                | (simp (disch := omega) only [← nI_0, nI_leI, nI_ltI, nI_eq, not_true_eq_false, not_false_eq_true] at h40; omega)
                | contradiction
                | exact absurd h40 (Int32.not_lt.mpr (by assumption))
                | exact absurd h40 (Int32.not_le.mpr (by assumption))
                | exact absurd h40 (by decide)
                | exact absurd (by decide) h40
                | ( try simp (disch := omega) only [← nI_0, nI_leI, nI_ltI, nI_eq, not_true_eq_false, not_false_eq_true] at h40
                    (try have h40b := zbit_n0.mp h40); (try have h40b := zbit_p0.mp h40)
                    refine z_iconst (a := nI 1) d_Mo_teach_52 (by decide) ?_
                    refine z_goto (tgt := 57) d_Mo_teach_53 (by decide) ?_
                    refine z_retz d_Mo_teach_57 (by first | exact zb0 | exact zb1 | assumption) ?_
                    exact ⟨rfl, I1, hD, rfl⟩)
              · first
                | (simp (disch := omega) only [← nI_0, nI_leI, nI_ltI, nI_eq, not_true_eq_false, not_false_eq_true] at h40; done)
                | (simp (disch := omega) only [← nI_0, nI_leI, nI_ltI, nI_eq, not_true_eq_false, not_false_eq_true] at h40; omega)
                | contradiction
                | exact absurd h40 (Int32.not_lt.mpr (by assumption))
                | exact absurd h40 (Int32.not_le.mpr (by assumption))
                | exact absurd h40 (by decide)
                | exact absurd (by decide) h40
                | ( try simp (disch := omega) only [← nI_0, nI_leI, nI_ltI, nI_eq, not_true_eq_false, not_false_eq_true] at h40
                    (try have h40b := zbit_n0.mp h40); (try have h40b := zbit_p0.mp h40)
                    exact absurd (by decide) (by assumption)))
        · first
          | contradiction
          | ( skip
              refine z_if_ne (tgt := 33) d_Mo_teach_24 (by decide) (fun h => absurd h (by decide)) (fun _ => ?_)
              refine z_aload_0 d_Mo_teach_27 ?_
              refine z_iconst (a := nI 2) d_Mo_teach_28 (by decide) ?_
              refine z_Vi1 d_Mo_teach_29 k_Mo_85 (by first | assumption | exact zS0_at (by assumption) (by omega) | exact zS0_at rfl (by omega)) (t_Mo_no (by assumption)) ⟨Nat.le_of_ble_eq_true rfl, Nat.le_of_ble_eq_true rfl, Nat.le_of_ble_eq_true rfl, Nat.le_of_ble_eq_true rfl⟩ (Nat.le_of_ble_eq_true rfl) ?_
              intro r w hq
              obtain ⟨rfl, rfl⟩ := hq
              refine z_retz d_Mo_teach_32 (by first | exact zb0 | exact zb1 | assumption) ?_
              exact ⟨rfl, I1, hD, rfl⟩))
  · first
    | contradiction
    | ( skip
        refine z_if_eq (tgt := 27) d_Mo_teach_16 (by decide) (fun _ => ?_) (fun h => absurd h (by decide))
        refine z_aload_0 d_Mo_teach_27 ?_
        refine z_iconst (a := nI 2) d_Mo_teach_28 (by decide) ?_
        refine z_Vi1 d_Mo_teach_29 k_Mo_85 (by first | assumption | exact zS0_at (by assumption) (by omega) | exact zS0_at rfl (by omega)) (t_Mo_no (by assumption)) ⟨Nat.le_of_ble_eq_true rfl, Nat.le_of_ble_eq_true rfl, Nat.le_of_ble_eq_true rfl, Nat.le_of_ble_eq_true rfl⟩ (Nat.le_of_ble_eq_true rfl) ?_
        intro r w hq
        obtain ⟨rfl, rfl⟩ := hq
        refine z_retz d_Mo_teach_32 (by first | exact zb0 | exact zb1 | assumption) ?_
        exact ⟨rfl, I1, hD, rfl⟩)
theorem t_Tf_teach_n1 {p k : Nat} (Z : clOk f d P S) (N : fenIn I f nt np nl nn) (hp : p < np) (hk : k < nt) (hz : zbit (I (f + 2) p) k) : zEi G y_Tf_teach prog_1_method_23_code 4 (some .boolean) 3 [.ref 0, .int (nI p), .int (nI k), .int (nI 1)] (I, J, P, S) (fun r w => r = nI 0 ∧ cW I J P S 9 w) := by
  obtain ⟨⟨c0, c3, c1s⟩, ⟨c5, c2s, ctr⟩, ⟨c6, c11s, c11, c13s⟩, ⟨c7, c15s, c15⟩, ⟨c8, c16s, c16a, c16b, c17s⟩, ⟨c9, c10, cfd, F, Fd⟩, ⟨c11b, Ft⟩, ⟨c12, c69s, cmk⟩, ⟨c14, c121s, c121, c122s⟩, ⟨c15b, c123s, c123, c124s⟩, ⟨c16, c125s, c125, c126s⟩, ⟨c17, c127s, c127, c128s, ctb⟩, ⟨c18, c139s, c139, c140s⟩, ⟨c19, c141s, ⟨c141a, c142s⟩, ⟨c141b, c143s⟩, ⟨c141c, c144s⟩⟩, M⟩ := id Z
  obtain ⟨F0, ⟨F8, F8s⟩, ⟨F9, F9s⟩, ⟨F10, F10s⟩, ⟨F11, F11s⟩, ⟨F12, F12s⟩, ⟨F13, F13s⟩, ⟨F14, F14s⟩, ⟨F15, F15s⟩, ⟨F16, F16s⟩, ⟨F17, F17s⟩, ⟨F18, F18s⟩, ⟨F19, F19s⟩, ⟨Y3, Y3s⟩, ⟨Y4, Y4s⟩, ⟨Y5, Y5s⟩, ⟨Y6, Y6s⟩⟩ := id F
  obtain ⟨⟨n1, n1b⟩, ⟨n2, n2b⟩, ⟨n3, n3b⟩, ⟨n4, n4b⟩, nof, non⟩ := id N
  have hz0 : zin (nI p) np := ⟨p, by omega, rfl⟩
  have hzk : zin (nI k) nt := ⟨k, by omega, rfl⟩
  refine zEi_of (lv := [some (.ref 0), some (.int (nI p)), some (.int (nI k)), some (.int (nI 1))]) (by decide) rfl (Nat.le_of_ble_eq_true rfl) ?_
  refine z_aload_0 d_Tf_teach_0 ?_
  refine z_iload_1 d_Tf_teach_1 ?_
  refine z_Vi1 d_Tf_teach_2 k_Tf_234 (by first | assumption | exact zS0_at (by assumption) (by omega) | exact zS0_at rfl (by omega)) (t_Tf_noPerson Z N) ⟨Nat.le_of_ble_eq_true rfl, Nat.le_of_ble_eq_true rfl, Nat.le_of_ble_eq_true rfl, Nat.le_of_ble_eq_true rfl⟩ (Nat.le_of_ble_eq_true rfl) ?_
  intro r w hq
  rcases hq with ⟨⟨hz2, rfl⟩ | ⟨hz2, rfl⟩, rfl⟩
  · first
    | contradiction
    | ( skip
        refine z_if_ne (tgt := 16) d_Tf_teach_5 (by decide) (fun _ => ?_) (fun h => absurd h (by decide))
        refine z_aload_0 d_Tf_teach_16 ?_
        refine z_iconst (a := nI 2) d_Tf_teach_17 (by decide) ?_
        refine z_Vi1 d_Tf_teach_18 k_Tf_119 (by first | assumption | exact zS0_at (by assumption) (by omega) | exact zS0_at rfl (by omega)) (t_Tf_refuse (by assumption)) ⟨Nat.le_of_ble_eq_true rfl, Nat.le_of_ble_eq_true rfl, Nat.le_of_ble_eq_true rfl, Nat.le_of_ble_eq_true rfl⟩ (Nat.le_of_ble_eq_true rfl) ?_
        intro r w hq
        obtain ⟨rfl, rfl⟩ := hq
        refine z_retz d_Tf_teach_21 (by first | exact zb0 | exact zb1 | assumption) ?_
        exact ⟨by first | rfl | assumption, cW_0⟩)
  · first
    | contradiction
    | ( skip
        refine z_if_ne (tgt := 16) d_Tf_teach_5 (by decide) (fun h => absurd h (by decide)) (fun _ => ?_)
        refine z_aload_0 d_Tf_teach_8 ?_
        refine z_iload_2 d_Tf_teach_9 ?_
        refine z_Vi1 d_Tf_teach_10 k_Tf_227 (by first | assumption | exact zS0_at (by assumption) (by omega) | exact zS0_at rfl (by omega)) (t_Tf_noTrait Z N) ⟨Nat.le_of_ble_eq_true rfl, Nat.le_of_ble_eq_true rfl, Nat.le_of_ble_eq_true rfl, Nat.le_of_ble_eq_true rfl⟩ (Nat.le_of_ble_eq_true rfl) ?_
        intro r w hq
        rcases hq with ⟨⟨hz10, rfl⟩ | ⟨hz10, rfl⟩, rfl⟩
        · first
          | contradiction
          | ( skip
              refine z_if_eq (tgt := 22) d_Tf_teach_13 (by decide) (fun h => absurd h (by decide)) (fun _ => ?_)
              refine z_aload_0 d_Tf_teach_16 ?_
              refine z_iconst (a := nI 2) d_Tf_teach_17 (by decide) ?_
              refine z_Vi1 d_Tf_teach_18 k_Tf_119 (by first | assumption | exact zS0_at (by assumption) (by omega) | exact zS0_at rfl (by omega)) (t_Tf_refuse (by assumption)) ⟨Nat.le_of_ble_eq_true rfl, Nat.le_of_ble_eq_true rfl, Nat.le_of_ble_eq_true rfl, Nat.le_of_ble_eq_true rfl⟩ (Nat.le_of_ble_eq_true rfl) ?_
              intro r w hq
              obtain ⟨rfl, rfl⟩ := hq
              refine z_retz d_Tf_teach_21 (by first | exact zb0 | exact zb1 | assumption) ?_
              exact ⟨by first | rfl | assumption, cW_0⟩)
        · first
          | contradiction
          | ( skip
              refine z_if_eq (tgt := 22) d_Tf_teach_13 (by decide) (fun _ => ?_) (fun h => absurd h (by decide))
              refine z_aload_0 d_Tf_teach_22 ?_
              refine z_getR d_Tf_teach_23 f_Tf_60 (by first | assumption | exact zS0_at (by assumption) (by omega) | exact zS0_at rfl (by omega)) (by first | assumption | exact zS0_at (by assumption) (by omega) | exact zS0_at rfl (by omega)) ?_
              refine z_iload_1 d_Tf_teach_26 ?_
              refine z_iload_2 d_Tf_teach_27 ?_
              refine z_Vi2 d_Tf_teach_28 k_Tf_285 (by first | assumption | exact zS0_at (by assumption) (by omega) | exact zS0_at rfl (by omega)) (t_Fen_isTrue (by assumption) (by omega)) ⟨Nat.le_of_ble_eq_true rfl, Nat.le_of_ble_eq_true rfl, Nat.le_of_ble_eq_true rfl, Nat.le_of_ble_eq_true rfl⟩ (Nat.le_of_ble_eq_true rfl) ?_
              intro r w hq
              rcases hq with ⟨⟨hz28, rfl⟩ | ⟨hz28, rfl⟩, rfl⟩
              · first
                | contradiction
                | ( skip
                    refine z_iload_3 d_Tf_teach_31 ?_
                    refine z_icmp_ne (tgt := 42) d_Tf_teach_32 (by decide) (fun h32 => ?_) (fun h32 => ?_)
                    · first
                      | (simp (disch := omega) only [← nI_0, nI_leI, nI_ltI, nI_eq, not_true_eq_false, not_false_eq_true] at h32; done)
                      | (simp (disch := omega) only [← nI_0, nI_leI, nI_ltI, nI_eq, not_true_eq_false, not_false_eq_true] at h32; omega)
                      | contradiction
                      | exact absurd h32 (Int32.not_lt.mpr (by assumption))
                      | exact absurd h32 (Int32.not_le.mpr (by assumption))
                      | exact absurd h32 (by decide)
                      | exact absurd (by decide) h32
                      | ( try simp (disch := omega) only [← nI_0, nI_leI, nI_ltI, nI_eq, not_true_eq_false, not_false_eq_true] at h32
                          (try have h32b := zbit_n0.mp h32); (try have h32b := zbit_p0.mp h32)
                          refine z_aload_0 d_Tf_teach_42 ?_
                          refine z_getR d_Tf_teach_43 f_Tf_60 (by first | assumption | exact zS0_at (by assumption) (by omega) | exact zS0_at rfl (by omega)) (by first | assumption | exact zS0_at (by assumption) (by omega) | exact zS0_at rfl (by omega)) ?_
                          refine z_iload_1 d_Tf_teach_46 ?_
                          refine z_iload_2 d_Tf_teach_47 ?_
                          refine z_Vv2 d_Tf_teach_48 k_Tf_295 (by first | assumption | exact zS0_at (by assumption) (by omega) | exact zS0_at rfl (by omega)) (t_Fen_turn (by assumption) (by omega)) ⟨Nat.le_of_ble_eq_true rfl, Nat.le_of_ble_eq_true rfl, Nat.le_of_ble_eq_true rfl, Nat.le_of_ble_eq_true rfl⟩ (Nat.le_of_ble_eq_true rfl) ?_
                          intro w hq
                          obtain rfl := hq
                          refine z_aload_0 d_Tf_teach_51 ?_
                          refine z_Vi0 d_Tf_teach_52 k_Tf_126 (by first | assumption | exact zS0_at (by assumption) (by omega) | exact zS0_at rfl (by omega)) (t_Tf_agree (by assumption)) ⟨Nat.le_of_ble_eq_true rfl, Nat.le_of_ble_eq_true rfl, Nat.le_of_ble_eq_true rfl, Nat.le_of_ble_eq_true rfl⟩ (Nat.le_of_ble_eq_true rfl) ?_
                          intro r w hq
                          obtain ⟨rfl, rfl⟩ := hq
                          refine z_retz d_Tf_teach_55 (by first | exact zb0 | exact zb1 | assumption) ?_
                          exact ⟨by first | rfl | assumption, cW_0⟩)
                    · first
                      | (simp (disch := omega) only [← nI_0, nI_leI, nI_ltI, nI_eq, not_true_eq_false, not_false_eq_true] at h32; done)
                      | (simp (disch := omega) only [← nI_0, nI_leI, nI_ltI, nI_eq, not_true_eq_false, not_false_eq_true] at h32; omega)
                      | contradiction
                      | exact absurd h32 (Int32.not_lt.mpr (by assumption))
                      | exact absurd h32 (Int32.not_le.mpr (by assumption))
                      | exact absurd h32 (by decide)
                      | exact absurd (by decide) h32
                      | ( try simp (disch := omega) only [← nI_0, nI_leI, nI_ltI, nI_eq, not_true_eq_false, not_false_eq_true] at h32
                          (try have h32b := zbit_n0.mp h32); (try have h32b := zbit_p0.mp h32)
                          refine z_aload_0 d_Tf_teach_35 ?_
                          refine z_bipush (a := nI 9) d_Tf_teach_36 (by decide) ?_
                          refine z_Vi1 d_Tf_teach_38 k_Tf_119 (by first | assumption | exact zS0_at (by assumption) (by omega) | exact zS0_at rfl (by omega)) (t_Tf_refuse (by assumption)) ⟨Nat.le_of_ble_eq_true rfl, Nat.le_of_ble_eq_true rfl, Nat.le_of_ble_eq_true rfl, Nat.le_of_ble_eq_true rfl⟩ (Nat.le_of_ble_eq_true rfl) ?_
                          intro r w hq
                          obtain ⟨rfl, rfl⟩ := hq
                          refine z_retz d_Tf_teach_41 (by first | exact zb0 | exact zb1 | assumption) ?_
                          exact ⟨by first | rfl | assumption, cW_0⟩))
              · first
                | contradiction
                | ( skip
                    refine z_iload_3 d_Tf_teach_31 ?_
                    refine z_icmp_ne (tgt := 42) d_Tf_teach_32 (by decide) (fun h32 => ?_) (fun h32 => ?_)
                    · first
                      | (simp (disch := omega) only [← nI_0, nI_leI, nI_ltI, nI_eq, not_true_eq_false, not_false_eq_true] at h32; done)
                      | (simp (disch := omega) only [← nI_0, nI_leI, nI_ltI, nI_eq, not_true_eq_false, not_false_eq_true] at h32; omega)
                      | contradiction
                      | exact absurd h32 (Int32.not_lt.mpr (by assumption))
                      | exact absurd h32 (Int32.not_le.mpr (by assumption))
                      | exact absurd h32 (by decide)
                      | exact absurd (by decide) h32
                      | ( try simp (disch := omega) only [← nI_0, nI_leI, nI_ltI, nI_eq, not_true_eq_false, not_false_eq_true] at h32
                          (try have h32b := zbit_n0.mp h32); (try have h32b := zbit_p0.mp h32)
                          refine z_aload_0 d_Tf_teach_42 ?_
                          refine z_getR d_Tf_teach_43 f_Tf_60 (by first | assumption | exact zS0_at (by assumption) (by omega) | exact zS0_at rfl (by omega)) (by first | assumption | exact zS0_at (by assumption) (by omega) | exact zS0_at rfl (by omega)) ?_
                          refine z_iload_1 d_Tf_teach_46 ?_
                          refine z_iload_2 d_Tf_teach_47 ?_
                          refine z_Vv2 d_Tf_teach_48 k_Tf_295 (by first | assumption | exact zS0_at (by assumption) (by omega) | exact zS0_at rfl (by omega)) (t_Fen_turn (by assumption) (by omega)) ⟨Nat.le_of_ble_eq_true rfl, Nat.le_of_ble_eq_true rfl, Nat.le_of_ble_eq_true rfl, Nat.le_of_ble_eq_true rfl⟩ (Nat.le_of_ble_eq_true rfl) ?_
                          intro w hq
                          obtain rfl := hq
                          refine z_aload_0 d_Tf_teach_51 ?_
                          refine z_Vi0 d_Tf_teach_52 k_Tf_126 (by first | assumption | exact zS0_at (by assumption) (by omega) | exact zS0_at rfl (by omega)) (t_Tf_agree (by assumption)) ⟨Nat.le_of_ble_eq_true rfl, Nat.le_of_ble_eq_true rfl, Nat.le_of_ble_eq_true rfl, Nat.le_of_ble_eq_true rfl⟩ (Nat.le_of_ble_eq_true rfl) ?_
                          intro r w hq
                          obtain ⟨rfl, rfl⟩ := hq
                          refine z_retz d_Tf_teach_55 (by first | exact zb0 | exact zb1 | assumption) ?_
                          exact ⟨by first | rfl | assumption, cW_0⟩)
                    · first
                      | (simp (disch := omega) only [← nI_0, nI_leI, nI_ltI, nI_eq, not_true_eq_false, not_false_eq_true] at h32; done)
                      | (simp (disch := omega) only [← nI_0, nI_leI, nI_ltI, nI_eq, not_true_eq_false, not_false_eq_true] at h32; omega)
                      | contradiction
                      | exact absurd h32 (Int32.not_lt.mpr (by assumption))
                      | exact absurd h32 (Int32.not_le.mpr (by assumption))
                      | exact absurd h32 (by decide)
                      | exact absurd (by decide) h32
                      | ( try simp (disch := omega) only [← nI_0, nI_leI, nI_ltI, nI_eq, not_true_eq_false, not_false_eq_true] at h32
                          (try have h32b := zbit_n0.mp h32); (try have h32b := zbit_p0.mp h32)
                          refine z_aload_0 d_Tf_teach_35 ?_
                          refine z_bipush (a := nI 9) d_Tf_teach_36 (by decide) ?_
                          refine z_Vi1 d_Tf_teach_38 k_Tf_119 (by first | assumption | exact zS0_at (by assumption) (by omega) | exact zS0_at rfl (by omega)) (t_Tf_refuse (by assumption)) ⟨Nat.le_of_ble_eq_true rfl, Nat.le_of_ble_eq_true rfl, Nat.le_of_ble_eq_true rfl, Nat.le_of_ble_eq_true rfl⟩ (Nat.le_of_ble_eq_true rfl) ?_
                          intro r w hq
                          obtain ⟨rfl, rfl⟩ := hq
                          refine z_retz d_Tf_teach_41 (by first | exact zb0 | exact zb1 | assumption) ?_
                          exact ⟨by first | rfl | assumption, cW_0⟩))))
theorem t_Tf_teach_y1 {p k : Nat} (Z : clOk f d P S) (N : fenIn I f nt np nl nn) (hp : p < np) (hk : k < nt) (hz : ¬ zbit (I (f + 2) p) k) : zEi G y_Tf_teach prog_1_method_23_code 4 (some .boolean) 3 [.ref 0, .int (nI p), .int (nI k), .int (nI 1)] (I, J, P, S) (fun r w => r = nI 1 ∧ w = (zu (zu I (f + 2) p (I (f + 2) p ^^^ (nI 1 <<< (nI k &&& 31)))) 0 0 (nI 0), J, P, S)) := by
  obtain ⟨⟨c0, c3, c1s⟩, ⟨c5, c2s, ctr⟩, ⟨c6, c11s, c11, c13s⟩, ⟨c7, c15s, c15⟩, ⟨c8, c16s, c16a, c16b, c17s⟩, ⟨c9, c10, cfd, F, Fd⟩, ⟨c11b, Ft⟩, ⟨c12, c69s, cmk⟩, ⟨c14, c121s, c121, c122s⟩, ⟨c15b, c123s, c123, c124s⟩, ⟨c16, c125s, c125, c126s⟩, ⟨c17, c127s, c127, c128s, ctb⟩, ⟨c18, c139s, c139, c140s⟩, ⟨c19, c141s, ⟨c141a, c142s⟩, ⟨c141b, c143s⟩, ⟨c141c, c144s⟩⟩, M⟩ := id Z
  obtain ⟨F0, ⟨F8, F8s⟩, ⟨F9, F9s⟩, ⟨F10, F10s⟩, ⟨F11, F11s⟩, ⟨F12, F12s⟩, ⟨F13, F13s⟩, ⟨F14, F14s⟩, ⟨F15, F15s⟩, ⟨F16, F16s⟩, ⟨F17, F17s⟩, ⟨F18, F18s⟩, ⟨F19, F19s⟩, ⟨Y3, Y3s⟩, ⟨Y4, Y4s⟩, ⟨Y5, Y5s⟩, ⟨Y6, Y6s⟩⟩ := id F
  obtain ⟨⟨n1, n1b⟩, ⟨n2, n2b⟩, ⟨n3, n3b⟩, ⟨n4, n4b⟩, nof, non⟩ := id N
  have hz0 : zin (nI p) np := ⟨p, by omega, rfl⟩
  have hzk : zin (nI k) nt := ⟨k, by omega, rfl⟩
  refine zEi_of (lv := [some (.ref 0), some (.int (nI p)), some (.int (nI k)), some (.int (nI 1))]) (by decide) rfl (Nat.le_of_ble_eq_true rfl) ?_
  refine z_aload_0 d_Tf_teach_0 ?_
  refine z_iload_1 d_Tf_teach_1 ?_
  refine z_Vi1 d_Tf_teach_2 k_Tf_234 (by first | assumption | exact zS0_at (by assumption) (by omega) | exact zS0_at rfl (by omega)) (t_Tf_noPerson Z N) ⟨Nat.le_of_ble_eq_true rfl, Nat.le_of_ble_eq_true rfl, Nat.le_of_ble_eq_true rfl, Nat.le_of_ble_eq_true rfl⟩ (Nat.le_of_ble_eq_true rfl) ?_
  intro r w hq
  rcases hq with ⟨⟨hz2, rfl⟩ | ⟨hz2, rfl⟩, rfl⟩
  · first
    | contradiction
    | ( skip
        refine z_if_ne (tgt := 16) d_Tf_teach_5 (by decide) (fun _ => ?_) (fun h => absurd h (by decide))
        refine z_aload_0 d_Tf_teach_16 ?_
        refine z_iconst (a := nI 2) d_Tf_teach_17 (by decide) ?_
        refine z_Vi1 d_Tf_teach_18 k_Tf_119 (by first | assumption | exact zS0_at (by assumption) (by omega) | exact zS0_at rfl (by omega)) (t_Tf_refuse (by assumption)) ⟨Nat.le_of_ble_eq_true rfl, Nat.le_of_ble_eq_true rfl, Nat.le_of_ble_eq_true rfl, Nat.le_of_ble_eq_true rfl⟩ (Nat.le_of_ble_eq_true rfl) ?_
        intro r w hq
        obtain ⟨rfl, rfl⟩ := hq
        refine z_retz d_Tf_teach_21 (by first | exact zb0 | exact zb1 | assumption) ?_
        exact ⟨rfl, rfl⟩)
  · first
    | contradiction
    | ( skip
        refine z_if_ne (tgt := 16) d_Tf_teach_5 (by decide) (fun h => absurd h (by decide)) (fun _ => ?_)
        refine z_aload_0 d_Tf_teach_8 ?_
        refine z_iload_2 d_Tf_teach_9 ?_
        refine z_Vi1 d_Tf_teach_10 k_Tf_227 (by first | assumption | exact zS0_at (by assumption) (by omega) | exact zS0_at rfl (by omega)) (t_Tf_noTrait Z N) ⟨Nat.le_of_ble_eq_true rfl, Nat.le_of_ble_eq_true rfl, Nat.le_of_ble_eq_true rfl, Nat.le_of_ble_eq_true rfl⟩ (Nat.le_of_ble_eq_true rfl) ?_
        intro r w hq
        rcases hq with ⟨⟨hz10, rfl⟩ | ⟨hz10, rfl⟩, rfl⟩
        · first
          | contradiction
          | ( skip
              refine z_if_eq (tgt := 22) d_Tf_teach_13 (by decide) (fun h => absurd h (by decide)) (fun _ => ?_)
              refine z_aload_0 d_Tf_teach_16 ?_
              refine z_iconst (a := nI 2) d_Tf_teach_17 (by decide) ?_
              refine z_Vi1 d_Tf_teach_18 k_Tf_119 (by first | assumption | exact zS0_at (by assumption) (by omega) | exact zS0_at rfl (by omega)) (t_Tf_refuse (by assumption)) ⟨Nat.le_of_ble_eq_true rfl, Nat.le_of_ble_eq_true rfl, Nat.le_of_ble_eq_true rfl, Nat.le_of_ble_eq_true rfl⟩ (Nat.le_of_ble_eq_true rfl) ?_
              intro r w hq
              obtain ⟨rfl, rfl⟩ := hq
              refine z_retz d_Tf_teach_21 (by first | exact zb0 | exact zb1 | assumption) ?_
              exact ⟨rfl, rfl⟩)
        · first
          | contradiction
          | ( skip
              refine z_if_eq (tgt := 22) d_Tf_teach_13 (by decide) (fun _ => ?_) (fun h => absurd h (by decide))
              refine z_aload_0 d_Tf_teach_22 ?_
              refine z_getR d_Tf_teach_23 f_Tf_60 (by first | assumption | exact zS0_at (by assumption) (by omega) | exact zS0_at rfl (by omega)) (by first | assumption | exact zS0_at (by assumption) (by omega) | exact zS0_at rfl (by omega)) ?_
              refine z_iload_1 d_Tf_teach_26 ?_
              refine z_iload_2 d_Tf_teach_27 ?_
              refine z_Vi2 d_Tf_teach_28 k_Tf_285 (by first | assumption | exact zS0_at (by assumption) (by omega) | exact zS0_at rfl (by omega)) (t_Fen_isTrue (by assumption) (by omega)) ⟨Nat.le_of_ble_eq_true rfl, Nat.le_of_ble_eq_true rfl, Nat.le_of_ble_eq_true rfl, Nat.le_of_ble_eq_true rfl⟩ (Nat.le_of_ble_eq_true rfl) ?_
              intro r w hq
              rcases hq with ⟨⟨hz28, rfl⟩ | ⟨hz28, rfl⟩, rfl⟩
              · first
                | contradiction
                | ( skip
                    refine z_iload_3 d_Tf_teach_31 ?_
                    refine z_icmp_ne (tgt := 42) d_Tf_teach_32 (by decide) (fun h32 => ?_) (fun h32 => ?_)
                    · first
                      | (simp (disch := omega) only [← nI_0, nI_leI, nI_ltI, nI_eq, not_true_eq_false, not_false_eq_true] at h32; done)
                      | (simp (disch := omega) only [← nI_0, nI_leI, nI_ltI, nI_eq, not_true_eq_false, not_false_eq_true] at h32; omega)
                      | contradiction
                      | exact absurd h32 (Int32.not_lt.mpr (by assumption))
                      | exact absurd h32 (Int32.not_le.mpr (by assumption))
                      | exact absurd h32 (by decide)
                      | exact absurd (by decide) h32
                      | ( try simp (disch := omega) only [← nI_0, nI_leI, nI_ltI, nI_eq, not_true_eq_false, not_false_eq_true] at h32
                          (try have h32b := zbit_n0.mp h32); (try have h32b := zbit_p0.mp h32)
                          refine z_aload_0 d_Tf_teach_42 ?_
                          refine z_getR d_Tf_teach_43 f_Tf_60 (by first | assumption | exact zS0_at (by assumption) (by omega) | exact zS0_at rfl (by omega)) (by first | assumption | exact zS0_at (by assumption) (by omega) | exact zS0_at rfl (by omega)) ?_
                          refine z_iload_1 d_Tf_teach_46 ?_
                          refine z_iload_2 d_Tf_teach_47 ?_
                          refine z_Vv2 d_Tf_teach_48 k_Tf_295 (by first | assumption | exact zS0_at (by assumption) (by omega) | exact zS0_at rfl (by omega)) (t_Fen_turn (by assumption) (by omega)) ⟨Nat.le_of_ble_eq_true rfl, Nat.le_of_ble_eq_true rfl, Nat.le_of_ble_eq_true rfl, Nat.le_of_ble_eq_true rfl⟩ (Nat.le_of_ble_eq_true rfl) ?_
                          intro w hq
                          obtain rfl := hq
                          refine z_aload_0 d_Tf_teach_51 ?_
                          refine z_Vi0 d_Tf_teach_52 k_Tf_126 (by first | assumption | exact zS0_at (by assumption) (by omega) | exact zS0_at rfl (by omega)) (t_Tf_agree (by assumption)) ⟨Nat.le_of_ble_eq_true rfl, Nat.le_of_ble_eq_true rfl, Nat.le_of_ble_eq_true rfl, Nat.le_of_ble_eq_true rfl⟩ (Nat.le_of_ble_eq_true rfl) ?_
                          intro r w hq
                          obtain ⟨rfl, rfl⟩ := hq
                          refine z_retz d_Tf_teach_55 (by first | exact zb0 | exact zb1 | assumption) ?_
                          exact ⟨rfl, rfl⟩)
                    · first
                      | (simp (disch := omega) only [← nI_0, nI_leI, nI_ltI, nI_eq, not_true_eq_false, not_false_eq_true] at h32; done)
                      | (simp (disch := omega) only [← nI_0, nI_leI, nI_ltI, nI_eq, not_true_eq_false, not_false_eq_true] at h32; omega)
                      | contradiction
                      | exact absurd h32 (Int32.not_lt.mpr (by assumption))
                      | exact absurd h32 (Int32.not_le.mpr (by assumption))
                      | exact absurd h32 (by decide)
                      | exact absurd (by decide) h32
                      | ( try simp (disch := omega) only [← nI_0, nI_leI, nI_ltI, nI_eq, not_true_eq_false, not_false_eq_true] at h32
                          (try have h32b := zbit_n0.mp h32); (try have h32b := zbit_p0.mp h32)
                          refine z_aload_0 d_Tf_teach_35 ?_
                          refine z_bipush (a := nI 9) d_Tf_teach_36 (by decide) ?_
                          refine z_Vi1 d_Tf_teach_38 k_Tf_119 (by first | assumption | exact zS0_at (by assumption) (by omega) | exact zS0_at rfl (by omega)) (t_Tf_refuse (by assumption)) ⟨Nat.le_of_ble_eq_true rfl, Nat.le_of_ble_eq_true rfl, Nat.le_of_ble_eq_true rfl, Nat.le_of_ble_eq_true rfl⟩ (Nat.le_of_ble_eq_true rfl) ?_
                          intro r w hq
                          obtain ⟨rfl, rfl⟩ := hq
                          refine z_retz d_Tf_teach_41 (by first | exact zb0 | exact zb1 | assumption) ?_
                          exact ⟨rfl, rfl⟩))
              · first
                | contradiction
                | ( skip
                    refine z_iload_3 d_Tf_teach_31 ?_
                    refine z_icmp_ne (tgt := 42) d_Tf_teach_32 (by decide) (fun h32 => ?_) (fun h32 => ?_)
                    · first
                      | (simp (disch := omega) only [← nI_0, nI_leI, nI_ltI, nI_eq, not_true_eq_false, not_false_eq_true] at h32; done)
                      | (simp (disch := omega) only [← nI_0, nI_leI, nI_ltI, nI_eq, not_true_eq_false, not_false_eq_true] at h32; omega)
                      | contradiction
                      | exact absurd h32 (Int32.not_lt.mpr (by assumption))
                      | exact absurd h32 (Int32.not_le.mpr (by assumption))
                      | exact absurd h32 (by decide)
                      | exact absurd (by decide) h32
                      | ( try simp (disch := omega) only [← nI_0, nI_leI, nI_ltI, nI_eq, not_true_eq_false, not_false_eq_true] at h32
                          (try have h32b := zbit_n0.mp h32); (try have h32b := zbit_p0.mp h32)
                          refine z_aload_0 d_Tf_teach_42 ?_
                          refine z_getR d_Tf_teach_43 f_Tf_60 (by first | assumption | exact zS0_at (by assumption) (by omega) | exact zS0_at rfl (by omega)) (by first | assumption | exact zS0_at (by assumption) (by omega) | exact zS0_at rfl (by omega)) ?_
                          refine z_iload_1 d_Tf_teach_46 ?_
                          refine z_iload_2 d_Tf_teach_47 ?_
                          refine z_Vv2 d_Tf_teach_48 k_Tf_295 (by first | assumption | exact zS0_at (by assumption) (by omega) | exact zS0_at rfl (by omega)) (t_Fen_turn (by assumption) (by omega)) ⟨Nat.le_of_ble_eq_true rfl, Nat.le_of_ble_eq_true rfl, Nat.le_of_ble_eq_true rfl, Nat.le_of_ble_eq_true rfl⟩ (Nat.le_of_ble_eq_true rfl) ?_
                          intro w hq
                          obtain rfl := hq
                          refine z_aload_0 d_Tf_teach_51 ?_
                          refine z_Vi0 d_Tf_teach_52 k_Tf_126 (by first | assumption | exact zS0_at (by assumption) (by omega) | exact zS0_at rfl (by omega)) (t_Tf_agree (by assumption)) ⟨Nat.le_of_ble_eq_true rfl, Nat.le_of_ble_eq_true rfl, Nat.le_of_ble_eq_true rfl, Nat.le_of_ble_eq_true rfl⟩ (Nat.le_of_ble_eq_true rfl) ?_
                          intro r w hq
                          obtain ⟨rfl, rfl⟩ := hq
                          refine z_retz d_Tf_teach_55 (by first | exact zb0 | exact zb1 | assumption) ?_
                          exact ⟨rfl, rfl⟩)
                    · first
                      | (simp (disch := omega) only [← nI_0, nI_leI, nI_ltI, nI_eq, not_true_eq_false, not_false_eq_true] at h32; done)
                      | (simp (disch := omega) only [← nI_0, nI_leI, nI_ltI, nI_eq, not_true_eq_false, not_false_eq_true] at h32; omega)
                      | contradiction
                      | exact absurd h32 (Int32.not_lt.mpr (by assumption))
                      | exact absurd h32 (Int32.not_le.mpr (by assumption))
                      | exact absurd h32 (by decide)
                      | exact absurd (by decide) h32
                      | ( try simp (disch := omega) only [← nI_0, nI_leI, nI_ltI, nI_eq, not_true_eq_false, not_false_eq_true] at h32
                          (try have h32b := zbit_n0.mp h32); (try have h32b := zbit_p0.mp h32)
                          refine z_aload_0 d_Tf_teach_35 ?_
                          refine z_bipush (a := nI 9) d_Tf_teach_36 (by decide) ?_
                          refine z_Vi1 d_Tf_teach_38 k_Tf_119 (by first | assumption | exact zS0_at (by assumption) (by omega) | exact zS0_at rfl (by omega)) (t_Tf_refuse (by assumption)) ⟨Nat.le_of_ble_eq_true rfl, Nat.le_of_ble_eq_true rfl, Nat.le_of_ble_eq_true rfl, Nat.le_of_ble_eq_true rfl⟩ (Nat.le_of_ble_eq_true rfl) ?_
                          intro r w hq
                          obtain ⟨rfl, rfl⟩ := hq
                          refine z_retz d_Tf_teach_41 (by first | exact zb0 | exact zb1 | assumption) ?_
                          exact ⟨rfl, rfl⟩))))
theorem t_Mo_teach_n1 {p k : Nat} (M : modOk P S) (N : modIn I nt np nl nn) (hp : p < np) (hk : k < nt) (hz : zbit (I 150 (12 + p)) k) : zEi G y_Mo_teach prog_14_method_98_code 4 (some .boolean) 4 [.ref 145, .int (nI p), .int (nI k), .int (nI 1)] (I, J, P, S) (fun r w => r = nI 0 ∧ mW I J P S 9 w) := by
  obtain ⟨M0, ⟨M4, M4s⟩, ⟨M5, M5s⟩, ⟨M6, M6s⟩, ⟨M7, M7s⟩, ⟨M20, M20s⟩, ⟨M21, M21s⟩, ⟨M22, M22s⟩, ⟨M26, M26s⟩, ⟨M27, M27s⟩, ⟨M28, M28s⟩, ⟨M30, M30s⟩, ⟨M34, M34s⟩, ⟨M36, M36s⟩, ⟨M37, M37s⟩⟩ := id M
  obtain ⟨I1, hI1, N1, h1, h0, e150, er, ek⟩ := mo_beg N
  obtain ⟨⟨m0, m0b⟩, ⟨m1, m1b⟩, ⟨m2, m2b⟩, ⟨m3, m3b⟩, mof, mon⟩ := id N1
  have hD : mD I I1 := ⟨h1, h0, e150, er⟩
  refine zEi_of (lv := [some (.ref 145), some (.int (nI p)), some (.int (nI k)), some (.int (nI 1))]) (by decide) rfl (Nat.le_of_ble_eq_true rfl) ?_
  refine z_aload_0 d_Mo_teach_0 ?_
  refine z_iconst (a := nI 0) d_Mo_teach_1 (by decide) ?_
  refine z_putI d_Mo_teach_2 f_Mo_70 (by first | assumption | exact zS0_at (by assumption) (by omega) | exact zS0_at rfl (by omega)) ?_
  refine z_aload_0 d_Mo_teach_5 ?_
  refine z_iconst (a := nI 0) d_Mo_teach_6 (by decide) ?_
  refine z_putI d_Mo_teach_7 f_Mo_73 (by first | assumption | exact zS0_at (by assumption) (by omega) | exact zS0_at rfl (by omega)) ?_
  rw [← hI1]
  have hz0 : zin (nI p) np := ⟨p, by omega, rfl⟩
  have hzk : zin (nI k) nt := ⟨k, by omega, rfl⟩
  have hz1 : zbit (I1 150 (12 + p)) k := by rw [e150]; exact hz
  refine z_aload_0 d_Mo_teach_10 ?_
  refine z_iload_1 d_Mo_teach_11 ?_
  refine z_i2l d_Mo_teach_12 ?_
  refine z_Vi1 d_Mo_teach_13 k_Mo_336 (by first | assumption | exact zS0_at (by assumption) (by omega) | exact zS0_at rfl (by omega)) (t_Mo_isPersonAtI M N1) ⟨Nat.le_of_ble_eq_true rfl, Nat.le_of_ble_eq_true rfl, Nat.le_of_ble_eq_true rfl, Nat.le_of_ble_eq_true rfl⟩ (Nat.le_of_ble_eq_true rfl) ?_
  intro r w hq
  rcases hq with ⟨⟨hz13, rfl⟩ | ⟨hz13, rfl⟩, rfl⟩
  · first
    | contradiction
    | ( skip
        refine z_if_eq (tgt := 27) d_Mo_teach_16 (by decide) (fun h => absurd h (by decide)) (fun _ => ?_)
        refine z_aload_0 d_Mo_teach_19 ?_
        refine z_iload_2 d_Mo_teach_20 ?_
        refine z_Vi1 d_Mo_teach_21 k_Mo_333 (by first | assumption | exact zS0_at (by assumption) (by omega) | exact zS0_at rfl (by omega)) (t_Mo_isTraitAt M N1) ⟨Nat.le_of_ble_eq_true rfl, Nat.le_of_ble_eq_true rfl, Nat.le_of_ble_eq_true rfl, Nat.le_of_ble_eq_true rfl⟩ (Nat.le_of_ble_eq_true rfl) ?_
        intro r w hq
        rcases hq with ⟨⟨hz21, rfl⟩ | ⟨hz21, rfl⟩, rfl⟩
        · first
          | contradiction
          | ( skip
              refine z_if_ne (tgt := 33) d_Mo_teach_24 (by decide) (fun _ => ?_) (fun h => absurd h (by decide))
              refine z_aload_0 d_Mo_teach_33 ?_
              refine z_iload_1 d_Mo_teach_34 ?_
              refine z_iload_2 d_Mo_teach_35 ?_
              refine z_iload_3 d_Mo_teach_36 ?_
              refine z_Vi3 d_Mo_teach_37 k_Mo_366 (by first | assumption | exact zS0_at (by assumption) (by omega) | exact zS0_at rfl (by omega)) (t_Mo_teaches_n (j := 1) M (by omega) (Or.inl ⟨rfl, hz1⟩)) ⟨Nat.le_of_ble_eq_true rfl, Nat.le_of_ble_eq_true rfl, Nat.le_of_ble_eq_true rfl, Nat.le_of_ble_eq_true rfl⟩ (Nat.le_of_ble_eq_true rfl) ?_
              intro r w hq
              obtain ⟨rfl, rfl⟩ := hq
              refine z_if_ne (tgt := 52) d_Mo_teach_40 (by decide) (fun h40 => ?_) (fun h40 => ?_)
              · first
                | (simp (disch := omega) only [← nI_0, nI_leI, nI_ltI, nI_eq, not_true_eq_false, not_false_eq_true] at h40; done)
                | (simp (disch := omega) only [← nI_0, nI_leI, nI_ltI, nI_eq, not_true_eq_false, not_false_eq_true] at h40; omega)
                | contradiction
                | exact absurd h40 (Int32.not_lt.mpr (by assumption))
                | exact absurd h40 (Int32.not_le.mpr (by assumption))
                | exact absurd h40 (by decide)
                | exact absurd (by decide) h40
                | ( try simp (disch := omega) only [← nI_0, nI_leI, nI_ltI, nI_eq, not_true_eq_false, not_false_eq_true] at h40
                    (try have h40b := zbit_n0.mp h40); (try have h40b := zbit_p0.mp h40)
                    refine z_iconst (a := nI 1) d_Mo_teach_52 (by decide) ?_
                    refine z_goto (tgt := 57) d_Mo_teach_53 (by decide) ?_
                    refine z_retz d_Mo_teach_57 (by first | exact zb0 | exact zb1 | assumption) ?_
                    exact ⟨by first | rfl | assumption | (rw [e150]), _, _, rfl, (by repeat (first | exact h1 | refine mqF_z ?_ (by decide))), mqJ_r, (by first | exact zu_same _ _ _ _ | exact h0)⟩)
              · first
                | (simp (disch := omega) only [← nI_0, nI_leI, nI_ltI, nI_eq, not_true_eq_false, not_false_eq_true] at h40; done)
                | (simp (disch := omega) only [← nI_0, nI_leI, nI_ltI, nI_eq, not_true_eq_false, not_false_eq_true] at h40; omega)
                | contradiction
                | exact absurd h40 (Int32.not_lt.mpr (by assumption))
                | exact absurd h40 (Int32.not_le.mpr (by assumption))
                | exact absurd h40 (by decide)
                | exact absurd (by decide) h40
                | ( try simp (disch := omega) only [← nI_0, nI_leI, nI_ltI, nI_eq, not_true_eq_false, not_false_eq_true] at h40
                    (try have h40b := zbit_n0.mp h40); (try have h40b := zbit_p0.mp h40)
                    refine z_aload_0 d_Mo_teach_43 ?_
                    refine z_bipush (a := nI 9) d_Mo_teach_44 (by decide) ?_
                    refine z_Vi1 d_Mo_teach_46 k_Mo_85 (by first | assumption | exact zS0_at (by assumption) (by omega) | exact zS0_at rfl (by omega)) (t_Mo_no (by assumption)) ⟨Nat.le_of_ble_eq_true rfl, Nat.le_of_ble_eq_true rfl, Nat.le_of_ble_eq_true rfl, Nat.le_of_ble_eq_true rfl⟩ (Nat.le_of_ble_eq_true rfl) ?_
                    intro r w hq
                    obtain ⟨rfl, rfl⟩ := hq
                    refine z_if_eq (tgt := 56) d_Mo_teach_49 (by decide) (fun h49 => ?_) (fun h49 => ?_)
                    · first
                      | (simp (disch := omega) only [← nI_0, nI_leI, nI_ltI, nI_eq, not_true_eq_false, not_false_eq_true] at h49; done)
                      | (simp (disch := omega) only [← nI_0, nI_leI, nI_ltI, nI_eq, not_true_eq_false, not_false_eq_true] at h49; omega)
                      | contradiction
                      | exact absurd h49 (Int32.not_lt.mpr (by assumption))
                      | exact absurd h49 (Int32.not_le.mpr (by assumption))
                      | exact absurd h49 (by decide)
                      | exact absurd (by decide) h49
                      | ( try simp (disch := omega) only [← nI_0, nI_leI, nI_ltI, nI_eq, not_true_eq_false, not_false_eq_true] at h49
                          (try have h49b := zbit_n0.mp h49); (try have h49b := zbit_p0.mp h49)
                          refine z_iconst (a := nI 0) d_Mo_teach_56 (by decide) ?_
                          refine z_retz d_Mo_teach_57 (by first | exact zb0 | exact zb1 | assumption) ?_
                          exact ⟨by first | rfl | assumption | (rw [e150]), _, _, rfl, (by repeat (first | exact h1 | refine mqF_z ?_ (by decide))), mqJ_r, (by first | exact zu_same _ _ _ _ | exact h0)⟩)
                    · first
                      | (simp (disch := omega) only [← nI_0, nI_leI, nI_ltI, nI_eq, not_true_eq_false, not_false_eq_true] at h49; done)
                      | (simp (disch := omega) only [← nI_0, nI_leI, nI_ltI, nI_eq, not_true_eq_false, not_false_eq_true] at h49; omega)
                      | contradiction
                      | exact absurd h49 (Int32.not_lt.mpr (by assumption))
                      | exact absurd h49 (Int32.not_le.mpr (by assumption))
                      | exact absurd h49 (by decide)
                      | exact absurd (by decide) h49
                      | ( try simp (disch := omega) only [← nI_0, nI_leI, nI_ltI, nI_eq, not_true_eq_false, not_false_eq_true] at h49
                          (try have h49b := zbit_n0.mp h49); (try have h49b := zbit_p0.mp h49)
                          refine z_iconst (a := nI 1) d_Mo_teach_52 (by decide) ?_
                          refine z_goto (tgt := 57) d_Mo_teach_53 (by decide) ?_
                          refine z_retz d_Mo_teach_57 (by first | exact zb0 | exact zb1 | assumption) ?_
                          exact ⟨by first | rfl | assumption | (rw [e150]), _, _, rfl, (by repeat (first | exact h1 | refine mqF_z ?_ (by decide))), mqJ_r, (by first | exact zu_same _ _ _ _ | exact h0)⟩)))
        · first
          | contradiction
          | ( skip
              refine z_if_ne (tgt := 33) d_Mo_teach_24 (by decide) (fun h => absurd h (by decide)) (fun _ => ?_)
              refine z_aload_0 d_Mo_teach_27 ?_
              refine z_iconst (a := nI 2) d_Mo_teach_28 (by decide) ?_
              refine z_Vi1 d_Mo_teach_29 k_Mo_85 (by first | assumption | exact zS0_at (by assumption) (by omega) | exact zS0_at rfl (by omega)) (t_Mo_no (by assumption)) ⟨Nat.le_of_ble_eq_true rfl, Nat.le_of_ble_eq_true rfl, Nat.le_of_ble_eq_true rfl, Nat.le_of_ble_eq_true rfl⟩ (Nat.le_of_ble_eq_true rfl) ?_
              intro r w hq
              obtain ⟨rfl, rfl⟩ := hq
              refine z_retz d_Mo_teach_32 (by first | exact zb0 | exact zb1 | assumption) ?_
              exact ⟨by first | rfl | assumption | (rw [e150]), _, _, rfl, (by repeat (first | exact h1 | refine mqF_z ?_ (by decide))), mqJ_r, (by first | exact zu_same _ _ _ _ | exact h0)⟩))
  · first
    | contradiction
    | ( skip
        refine z_if_eq (tgt := 27) d_Mo_teach_16 (by decide) (fun _ => ?_) (fun h => absurd h (by decide))
        refine z_aload_0 d_Mo_teach_27 ?_
        refine z_iconst (a := nI 2) d_Mo_teach_28 (by decide) ?_
        refine z_Vi1 d_Mo_teach_29 k_Mo_85 (by first | assumption | exact zS0_at (by assumption) (by omega) | exact zS0_at rfl (by omega)) (t_Mo_no (by assumption)) ⟨Nat.le_of_ble_eq_true rfl, Nat.le_of_ble_eq_true rfl, Nat.le_of_ble_eq_true rfl, Nat.le_of_ble_eq_true rfl⟩ (Nat.le_of_ble_eq_true rfl) ?_
        intro r w hq
        obtain ⟨rfl, rfl⟩ := hq
        refine z_retz d_Mo_teach_32 (by first | exact zb0 | exact zb1 | assumption) ?_
        exact ⟨by first | rfl | assumption | (rw [e150]), _, _, rfl, (by repeat (first | exact h1 | refine mqF_z ?_ (by decide))), mqJ_r, (by first | exact zu_same _ _ _ _ | exact h0)⟩)
theorem t_Mo_teach_y1 {p k : Nat} (M : modOk P S) (N : modIn I nt np nl nn) (hp : p < np) (hk : k < nt) (hz : ¬ zbit (I 150 (12 + p)) k) : zEi G y_Mo_teach prog_14_method_98_code 4 (some .boolean) 4 [.ref 145, .int (nI p), .int (nI k), .int (nI 1)] (I, J, P, S) (fun r w => r = nI 1 ∧ ∃ I1, mD I I1 ∧ w = (zu I1 150 (12 + p) (I1 150 (12 + p) ^^^ (nI 1 <<< (nI k &&& 31))), J, P, S)) := by
  obtain ⟨M0, ⟨M4, M4s⟩, ⟨M5, M5s⟩, ⟨M6, M6s⟩, ⟨M7, M7s⟩, ⟨M20, M20s⟩, ⟨M21, M21s⟩, ⟨M22, M22s⟩, ⟨M26, M26s⟩, ⟨M27, M27s⟩, ⟨M28, M28s⟩, ⟨M30, M30s⟩, ⟨M34, M34s⟩, ⟨M36, M36s⟩, ⟨M37, M37s⟩⟩ := id M
  obtain ⟨I1, hI1, N1, h1, h0, e150, er, ek⟩ := mo_beg N
  obtain ⟨⟨m0, m0b⟩, ⟨m1, m1b⟩, ⟨m2, m2b⟩, ⟨m3, m3b⟩, mof, mon⟩ := id N1
  have hD : mD I I1 := ⟨h1, h0, e150, er⟩
  refine zEi_of (lv := [some (.ref 145), some (.int (nI p)), some (.int (nI k)), some (.int (nI 1))]) (by decide) rfl (Nat.le_of_ble_eq_true rfl) ?_
  refine z_aload_0 d_Mo_teach_0 ?_
  refine z_iconst (a := nI 0) d_Mo_teach_1 (by decide) ?_
  refine z_putI d_Mo_teach_2 f_Mo_70 (by first | assumption | exact zS0_at (by assumption) (by omega) | exact zS0_at rfl (by omega)) ?_
  refine z_aload_0 d_Mo_teach_5 ?_
  refine z_iconst (a := nI 0) d_Mo_teach_6 (by decide) ?_
  refine z_putI d_Mo_teach_7 f_Mo_73 (by first | assumption | exact zS0_at (by assumption) (by omega) | exact zS0_at rfl (by omega)) ?_
  rw [← hI1]
  have hz0 : zin (nI p) np := ⟨p, by omega, rfl⟩
  have hzk : zin (nI k) nt := ⟨k, by omega, rfl⟩
  have hz1 : ¬ zbit (I1 150 (12 + p)) k := by rw [e150]; exact hz
  refine z_aload_0 d_Mo_teach_10 ?_
  refine z_iload_1 d_Mo_teach_11 ?_
  refine z_i2l d_Mo_teach_12 ?_
  refine z_Vi1 d_Mo_teach_13 k_Mo_336 (by first | assumption | exact zS0_at (by assumption) (by omega) | exact zS0_at rfl (by omega)) (t_Mo_isPersonAtI M N1) ⟨Nat.le_of_ble_eq_true rfl, Nat.le_of_ble_eq_true rfl, Nat.le_of_ble_eq_true rfl, Nat.le_of_ble_eq_true rfl⟩ (Nat.le_of_ble_eq_true rfl) ?_
  intro r w hq
  rcases hq with ⟨⟨hz13, rfl⟩ | ⟨hz13, rfl⟩, rfl⟩
  · first
    | contradiction
    | ( skip
        refine z_if_eq (tgt := 27) d_Mo_teach_16 (by decide) (fun h => absurd h (by decide)) (fun _ => ?_)
        refine z_aload_0 d_Mo_teach_19 ?_
        refine z_iload_2 d_Mo_teach_20 ?_
        refine z_Vi1 d_Mo_teach_21 k_Mo_333 (by first | assumption | exact zS0_at (by assumption) (by omega) | exact zS0_at rfl (by omega)) (t_Mo_isTraitAt M N1) ⟨Nat.le_of_ble_eq_true rfl, Nat.le_of_ble_eq_true rfl, Nat.le_of_ble_eq_true rfl, Nat.le_of_ble_eq_true rfl⟩ (Nat.le_of_ble_eq_true rfl) ?_
        intro r w hq
        rcases hq with ⟨⟨hz21, rfl⟩ | ⟨hz21, rfl⟩, rfl⟩
        · first
          | contradiction
          | ( skip
              refine z_if_ne (tgt := 33) d_Mo_teach_24 (by decide) (fun _ => ?_) (fun h => absurd h (by decide))
              refine z_aload_0 d_Mo_teach_33 ?_
              refine z_iload_1 d_Mo_teach_34 ?_
              refine z_iload_2 d_Mo_teach_35 ?_
              refine z_iload_3 d_Mo_teach_36 ?_
              refine z_Vi3 d_Mo_teach_37 k_Mo_366 (by first | assumption | exact zS0_at (by assumption) (by omega) | exact zS0_at rfl (by omega)) (t_Mo_teaches_y (j := 1) M (by omega) (Or.inl ⟨rfl, hz1⟩)) ⟨Nat.le_of_ble_eq_true rfl, Nat.le_of_ble_eq_true rfl, Nat.le_of_ble_eq_true rfl, Nat.le_of_ble_eq_true rfl⟩ (Nat.le_of_ble_eq_true rfl) ?_
              intro r w hq
              obtain ⟨rfl, rfl⟩ := hq
              refine z_if_ne (tgt := 52) d_Mo_teach_40 (by decide) (fun h40 => ?_) (fun h40 => ?_)
              · first
                | (simp (disch := omega) only [← nI_0, nI_leI, nI_ltI, nI_eq, not_true_eq_false, not_false_eq_true] at h40; done)
                | (simp (disch := omega) only [← nI_0, nI_leI, nI_ltI, nI_eq, not_true_eq_false, not_false_eq_true] at h40; omega)
                | contradiction
                | exact absurd h40 (Int32.not_lt.mpr (by assumption))
                | exact absurd h40 (Int32.not_le.mpr (by assumption))
                | exact absurd h40 (by decide)
                | exact absurd (by decide) h40
                | ( try simp (disch := omega) only [← nI_0, nI_leI, nI_ltI, nI_eq, not_true_eq_false, not_false_eq_true] at h40
                    (try have h40b := zbit_n0.mp h40); (try have h40b := zbit_p0.mp h40)
                    refine z_iconst (a := nI 1) d_Mo_teach_52 (by decide) ?_
                    refine z_goto (tgt := 57) d_Mo_teach_53 (by decide) ?_
                    refine z_retz d_Mo_teach_57 (by first | exact zb0 | exact zb1 | assumption) ?_
                    exact ⟨rfl, I1, hD, rfl⟩)
              · first
                | (simp (disch := omega) only [← nI_0, nI_leI, nI_ltI, nI_eq, not_true_eq_false, not_false_eq_true] at h40; done)
                | (simp (disch := omega) only [← nI_0, nI_leI, nI_ltI, nI_eq, not_true_eq_false, not_false_eq_true] at h40; omega)
                | contradiction
                | exact absurd h40 (Int32.not_lt.mpr (by assumption))
                | exact absurd h40 (Int32.not_le.mpr (by assumption))
                | exact absurd h40 (by decide)
                | exact absurd (by decide) h40
                | ( try simp (disch := omega) only [← nI_0, nI_leI, nI_ltI, nI_eq, not_true_eq_false, not_false_eq_true] at h40
                    (try have h40b := zbit_n0.mp h40); (try have h40b := zbit_p0.mp h40)
                    exact absurd (by decide) (by assumption)))
        · first
          | contradiction
          | ( skip
              refine z_if_ne (tgt := 33) d_Mo_teach_24 (by decide) (fun h => absurd h (by decide)) (fun _ => ?_)
              refine z_aload_0 d_Mo_teach_27 ?_
              refine z_iconst (a := nI 2) d_Mo_teach_28 (by decide) ?_
              refine z_Vi1 d_Mo_teach_29 k_Mo_85 (by first | assumption | exact zS0_at (by assumption) (by omega) | exact zS0_at rfl (by omega)) (t_Mo_no (by assumption)) ⟨Nat.le_of_ble_eq_true rfl, Nat.le_of_ble_eq_true rfl, Nat.le_of_ble_eq_true rfl, Nat.le_of_ble_eq_true rfl⟩ (Nat.le_of_ble_eq_true rfl) ?_
              intro r w hq
              obtain ⟨rfl, rfl⟩ := hq
              refine z_retz d_Mo_teach_32 (by first | exact zb0 | exact zb1 | assumption) ?_
              exact ⟨rfl, I1, hD, rfl⟩))
  · first
    | contradiction
    | ( skip
        refine z_if_eq (tgt := 27) d_Mo_teach_16 (by decide) (fun _ => ?_) (fun h => absurd h (by decide))
        refine z_aload_0 d_Mo_teach_27 ?_
        refine z_iconst (a := nI 2) d_Mo_teach_28 (by decide) ?_
        refine z_Vi1 d_Mo_teach_29 k_Mo_85 (by first | assumption | exact zS0_at (by assumption) (by omega) | exact zS0_at rfl (by omega)) (t_Mo_no (by assumption)) ⟨Nat.le_of_ble_eq_true rfl, Nat.le_of_ble_eq_true rfl, Nat.le_of_ble_eq_true rfl, Nat.le_of_ble_eq_true rfl⟩ (Nat.le_of_ble_eq_true rfl) ?_
        intro r w hq
        obtain ⟨rfl, rfl⟩ := hq
        refine z_retz d_Mo_teach_32 (by first | exact zb0 | exact zb1 | assumption) ?_
        exact ⟨rfl, I1, hD, rfl⟩)
theorem L_teach {j : Nat} (h : zInv n w) (hj : j = 0 ∨ j = 1) : zEi G y_Tf_teach prog_1_method_23_code 4 (some .boolean) 3 [.ref 0, .int a, .int b, .int (nI j)] w (fun r w1 => w1.2.2.2 = w.2.2.2 ∧ zEi G y_Mo_teach prog_14_method_98_code 4 (some .boolean) 4 [.ref 145, .int a, .int b, .int (nI j)] w1 (fun r' w2 => r' = r ∧ zInv (n + 1) w2)) := by
  obtain ⟨f, d, nt, np, nl, nn, fed, mk, I, J, P, S, rfl, Z, X⟩ := h
  have M := clOk_M Z
  have hf := clOk_f Z
  have N := stR_fen X
  have N0 := stR_mod X
  have fm := stR_fm X
  obtain ⟨⟨⟨a1, r1, b1⟩, ⟨a2, r2, b2⟩, ⟨a3, r3, b3⟩, ⟨a4, r4, b4⟩⟩, ⟨⟨o, ob, ao, ro⟩, r5⟩, fw, fp, ft, fz⟩ := id fm
  by_cases ha : zin a np
  rotate_left
  · exact L_q Z X (t_Tf_teach_o Z N (Or.inl ha)) (fun I' J' e _ => ⟨_, rfl, t_Mo_teach_o M (modIn_c N0 (e 150 (by decide))) (Or.inl ha)⟩)
  by_cases hb : zin b nt
  rotate_left
  · exact L_q Z X (t_Tf_teach_o Z N (Or.inr hb)) (fun I' J' e _ => ⟨_, rfl, t_Mo_teach_o M (modIn_c N0 (e 150 (by decide))) (Or.inr hb)⟩)
  obtain ⟨p, hp, rfl⟩ := ha
  obtain ⟨k, hk, rfl⟩ := hb
  have e12 : I 150 (12 + p) = I (f + 2) p := (fp p hp).1
  rcases hj with rfl | rfl <;> by_cases hz : zbit (I (f + 2) p) k
  · refine zEi_mono (t_Tf_teach_y0 Z N hp hk hz) ?_
    rintro r w ⟨rfl, rfl⟩
    refine ⟨rfl, zEi_mono (t_Mo_teach_y0 M (modIn_c N0 (by rw [zu_row _ _ _ _ (by decide), zu_row _ _ _ _ (by omega)])) hp hk (by rw [zu_row _ _ _ _ (by decide), zu_row _ _ _ _ (by omega), e12]; exact hz)) ?_⟩
    rintro r w ⟨rfl, I1, hD, rfl⟩
    refine ⟨rfl, L_fin (nl' := nl) (nn' := nn) Z X (fun a ha => zu_row _ _ _ _ (by omega)) hD (fun a ha => zu_row _ _ _ _ ha) (fun k hk => zu_ne _ _ _ _ (by omega)) ?_ (Nat.le_refl _) (jL_r) ⟨X.1.2.1, X.1.2.2⟩ (fun k _ _ => by omega)⟩
    rw [sf_zu]; exact fmR_g (fmR_turn hp (by rw [hD.2.2.1, zu_row _ _ _ _ (by decide), zu_row _ _ _ _ (by omega)]; exact fm)) (by omega)
  · exact L_q Z X (t_Tf_teach_n0 Z N hp hk hz) (fun I' J' e _ => ⟨_, rfl, t_Mo_teach_n0 M (modIn_c N0 (e 150 (by decide))) hp hk (by rw [e 150 (by decide), e12]; exact hz)⟩)
  · exact L_q Z X (t_Tf_teach_n1 Z N hp hk hz) (fun I' J' e _ => ⟨_, rfl, t_Mo_teach_n1 M (modIn_c N0 (e 150 (by decide))) hp hk (by rw [e 150 (by decide), e12]; exact hz)⟩)
  · refine zEi_mono (t_Tf_teach_y1 Z N hp hk hz) ?_
    rintro r w ⟨rfl, rfl⟩
    refine ⟨rfl, zEi_mono (t_Mo_teach_y1 M (modIn_c N0 (by rw [zu_row _ _ _ _ (by decide), zu_row _ _ _ _ (by omega)])) hp hk (by rw [zu_row _ _ _ _ (by decide), zu_row _ _ _ _ (by omega), e12]; exact hz)) ?_⟩
    rintro r w ⟨rfl, I1, hD, rfl⟩
    refine ⟨rfl, L_fin (nl' := nl) (nn' := nn) Z X (fun a ha => zu_row _ _ _ _ (by omega)) hD (fun a ha => zu_row _ _ _ _ ha) (fun k hk => zu_ne _ _ _ _ (by omega)) ?_ (Nat.le_refl _) (jL_r) ⟨X.1.2.1, X.1.2.2⟩ (fun k _ _ => by omega)⟩
    rw [sf_zu]; exact fmR_g (fmR_turn hp (by rw [hD.2.2.1, zu_row _ _ _ _ (by decide), zu_row _ _ _ _ (by omega)]; exact fm)) (by omega)
theorem t_Tf_strike_o {c : Int32} (Z : clOk f d P S) (N : fenIn I f nt np nl nn) (h : ¬ zin a nt ∨ ¬ zin b np) : zEi G y_Tf_strike prog_1_method_22_code 4 (some .int) 3 [.ref 0, .int a, .int b, .int c] (I, J, P, S) (fun r w => r = -1 ∧ cW I J P S 2 w) := by
  obtain ⟨⟨c0, c3, c1s⟩, ⟨c5, c2s, ctr⟩, ⟨c6, c11s, c11, c13s⟩, ⟨c7, c15s, c15⟩, ⟨c8, c16s, c16a, c16b, c17s⟩, ⟨c9, c10, cfd, F, Fd⟩, ⟨c11b, Ft⟩, ⟨c12, c69s, cmk⟩, ⟨c14, c121s, c121, c122s⟩, ⟨c15b, c123s, c123, c124s⟩, ⟨c16, c125s, c125, c126s⟩, ⟨c17, c127s, c127, c128s, ctb⟩, ⟨c18, c139s, c139, c140s⟩, ⟨c19, c141s, ⟨c141a, c142s⟩, ⟨c141b, c143s⟩, ⟨c141c, c144s⟩⟩, M⟩ := id Z
  obtain ⟨F0, ⟨F8, F8s⟩, ⟨F9, F9s⟩, ⟨F10, F10s⟩, ⟨F11, F11s⟩, ⟨F12, F12s⟩, ⟨F13, F13s⟩, ⟨F14, F14s⟩, ⟨F15, F15s⟩, ⟨F16, F16s⟩, ⟨F17, F17s⟩, ⟨F18, F18s⟩, ⟨F19, F19s⟩, ⟨Y3, Y3s⟩, ⟨Y4, Y4s⟩, ⟨Y5, Y5s⟩, ⟨Y6, Y6s⟩⟩ := id F
  obtain ⟨⟨n1, n1b⟩, ⟨n2, n2b⟩, ⟨n3, n3b⟩, ⟨n4, n4b⟩, nof, non⟩ := id N
  refine zEi_of (lv := [some (.ref 0), some (.int a), some (.int b), some (.int c)]) (by decide) rfl (Nat.le_of_ble_eq_true rfl) ?_
  rcases h with h | h
  · refine z_aload_0 d_Tf_strike_0 ?_
    refine z_iload_1 d_Tf_strike_1 ?_
    refine z_Vi1 d_Tf_strike_2 k_Tf_227 (by first | assumption | exact zS0_at (by assumption) (by omega) | exact zS0_at rfl (by omega)) (t_Tf_noTrait Z N) ⟨Nat.le_of_ble_eq_true rfl, Nat.le_of_ble_eq_true rfl, Nat.le_of_ble_eq_true rfl, Nat.le_of_ble_eq_true rfl⟩ (Nat.le_of_ble_eq_true rfl) ?_
    intro r w hq
    rcases hq with ⟨⟨hz2, rfl⟩ | ⟨hz2, rfl⟩, rfl⟩
    · first
      | contradiction
      | ( skip
          refine z_if_ne (tgt := 16) d_Tf_strike_5 (by decide) (fun _ => ?_) (fun h => absurd h (by decide))
          refine z_aload_0 d_Tf_strike_16 ?_
          refine z_iconst (a := nI 2) d_Tf_strike_17 (by decide) ?_
          refine z_Vi1 d_Tf_strike_18 k_Tf_138 (by first | assumption | exact zS0_at (by assumption) (by omega) | exact zS0_at rfl (by omega)) (t_Tf_fail (by assumption)) ⟨Nat.le_of_ble_eq_true rfl, Nat.le_of_ble_eq_true rfl, Nat.le_of_ble_eq_true rfl, Nat.le_of_ble_eq_true rfl⟩ (Nat.le_of_ble_eq_true rfl) ?_
          intro r w hq
          obtain ⟨rfl, rfl⟩ := hq
          refine z_reti d_Tf_strike_21 ?_
          exact ⟨by first | rfl | assumption, cW_0⟩)
    · first
      | contradiction
      | ( skip
          refine z_if_ne (tgt := 16) d_Tf_strike_5 (by decide) (fun h => absurd h (by decide)) (fun _ => ?_)
          refine z_aload_0 d_Tf_strike_8 ?_
          refine z_iload_2 d_Tf_strike_9 ?_
          refine z_Vi1 d_Tf_strike_10 k_Tf_234 (by first | assumption | exact zS0_at (by assumption) (by omega) | exact zS0_at rfl (by omega)) (t_Tf_noPerson Z N) ⟨Nat.le_of_ble_eq_true rfl, Nat.le_of_ble_eq_true rfl, Nat.le_of_ble_eq_true rfl, Nat.le_of_ble_eq_true rfl⟩ (Nat.le_of_ble_eq_true rfl) ?_
          intro r w hq
          rcases hq with ⟨⟨hz10, rfl⟩ | ⟨hz10, rfl⟩, rfl⟩
          · first
            | contradiction
            | ( skip
                refine z_if_eq (tgt := 22) d_Tf_strike_13 (by decide) (fun h => absurd h (by decide)) (fun _ => ?_)
                refine z_aload_0 d_Tf_strike_16 ?_
                refine z_iconst (a := nI 2) d_Tf_strike_17 (by decide) ?_
                refine z_Vi1 d_Tf_strike_18 k_Tf_138 (by first | assumption | exact zS0_at (by assumption) (by omega) | exact zS0_at rfl (by omega)) (t_Tf_fail (by assumption)) ⟨Nat.le_of_ble_eq_true rfl, Nat.le_of_ble_eq_true rfl, Nat.le_of_ble_eq_true rfl, Nat.le_of_ble_eq_true rfl⟩ (Nat.le_of_ble_eq_true rfl) ?_
                intro r w hq
                obtain ⟨rfl, rfl⟩ := hq
                refine z_reti d_Tf_strike_21 ?_
                exact ⟨by first | rfl | assumption, cW_0⟩)
          · first
            | contradiction
            | ( skip
                refine z_if_eq (tgt := 22) d_Tf_strike_13 (by decide) (fun _ => ?_) (fun h => absurd h (by decide))
                contradiction))
  · refine z_aload_0 d_Tf_strike_0 ?_
    refine z_iload_1 d_Tf_strike_1 ?_
    refine z_Vi1 d_Tf_strike_2 k_Tf_227 (by first | assumption | exact zS0_at (by assumption) (by omega) | exact zS0_at rfl (by omega)) (t_Tf_noTrait Z N) ⟨Nat.le_of_ble_eq_true rfl, Nat.le_of_ble_eq_true rfl, Nat.le_of_ble_eq_true rfl, Nat.le_of_ble_eq_true rfl⟩ (Nat.le_of_ble_eq_true rfl) ?_
    intro r w hq
    rcases hq with ⟨⟨hz2, rfl⟩ | ⟨hz2, rfl⟩, rfl⟩
    · first
      | contradiction
      | ( skip
          refine z_if_ne (tgt := 16) d_Tf_strike_5 (by decide) (fun _ => ?_) (fun h => absurd h (by decide))
          refine z_aload_0 d_Tf_strike_16 ?_
          refine z_iconst (a := nI 2) d_Tf_strike_17 (by decide) ?_
          refine z_Vi1 d_Tf_strike_18 k_Tf_138 (by first | assumption | exact zS0_at (by assumption) (by omega) | exact zS0_at rfl (by omega)) (t_Tf_fail (by assumption)) ⟨Nat.le_of_ble_eq_true rfl, Nat.le_of_ble_eq_true rfl, Nat.le_of_ble_eq_true rfl, Nat.le_of_ble_eq_true rfl⟩ (Nat.le_of_ble_eq_true rfl) ?_
          intro r w hq
          obtain ⟨rfl, rfl⟩ := hq
          refine z_reti d_Tf_strike_21 ?_
          exact ⟨by first | rfl | assumption, cW_0⟩)
    · first
      | contradiction
      | ( skip
          refine z_if_ne (tgt := 16) d_Tf_strike_5 (by decide) (fun h => absurd h (by decide)) (fun _ => ?_)
          refine z_aload_0 d_Tf_strike_8 ?_
          refine z_iload_2 d_Tf_strike_9 ?_
          refine z_Vi1 d_Tf_strike_10 k_Tf_234 (by first | assumption | exact zS0_at (by assumption) (by omega) | exact zS0_at rfl (by omega)) (t_Tf_noPerson Z N) ⟨Nat.le_of_ble_eq_true rfl, Nat.le_of_ble_eq_true rfl, Nat.le_of_ble_eq_true rfl, Nat.le_of_ble_eq_true rfl⟩ (Nat.le_of_ble_eq_true rfl) ?_
          intro r w hq
          rcases hq with ⟨⟨hz10, rfl⟩ | ⟨hz10, rfl⟩, rfl⟩
          · first
            | contradiction
            | ( skip
                refine z_if_eq (tgt := 22) d_Tf_strike_13 (by decide) (fun h => absurd h (by decide)) (fun _ => ?_)
                refine z_aload_0 d_Tf_strike_16 ?_
                refine z_iconst (a := nI 2) d_Tf_strike_17 (by decide) ?_
                refine z_Vi1 d_Tf_strike_18 k_Tf_138 (by first | assumption | exact zS0_at (by assumption) (by omega) | exact zS0_at rfl (by omega)) (t_Tf_fail (by assumption)) ⟨Nat.le_of_ble_eq_true rfl, Nat.le_of_ble_eq_true rfl, Nat.le_of_ble_eq_true rfl, Nat.le_of_ble_eq_true rfl⟩ (Nat.le_of_ble_eq_true rfl) ?_
                intro r w hq
                obtain ⟨rfl, rfl⟩ := hq
                refine z_reti d_Tf_strike_21 ?_
                exact ⟨by first | rfl | assumption, cW_0⟩)
          · first
            | contradiction
            | ( skip
                refine z_if_eq (tgt := 22) d_Tf_strike_13 (by decide) (fun _ => ?_) (fun h => absurd h (by decide))
                contradiction))
theorem t_Mo_strike_o {c : Int32} (M : modOk P S) (N : modIn I nt np nl nn) (h : ¬ zin a nt ∨ ¬ zin b np) : zEi G y_Mo_strike prog_14_method_96_code 5 (some .int) 4 [.ref 145, .int a, .int b, .int c] (I, J, P, S) (fun r w => r = -1 ∧ mW I J P S 2 w) := by
  obtain ⟨M0, ⟨M4, M4s⟩, ⟨M5, M5s⟩, ⟨M6, M6s⟩, ⟨M7, M7s⟩, ⟨M20, M20s⟩, ⟨M21, M21s⟩, ⟨M22, M22s⟩, ⟨M26, M26s⟩, ⟨M27, M27s⟩, ⟨M28, M28s⟩, ⟨M30, M30s⟩, ⟨M34, M34s⟩, ⟨M36, M36s⟩, ⟨M37, M37s⟩⟩ := id M
  obtain ⟨I1, hI1, N1, h1, h0, e150, er, ek⟩ := mo_beg N
  obtain ⟨⟨m0, m0b⟩, ⟨m1, m1b⟩, ⟨m2, m2b⟩, ⟨m3, m3b⟩, mof, mon⟩ := id N1
  refine zEi_of (lv := [some (.ref 145), some (.int a), some (.int b), some (.int c), none]) (by decide) rfl (Nat.le_of_ble_eq_true rfl) ?_
  refine z_aload_0 d_Mo_strike_0 ?_
  refine z_iconst (a := nI 0) d_Mo_strike_1 (by decide) ?_
  refine z_putI d_Mo_strike_2 f_Mo_70 (by first | assumption | exact zS0_at (by assumption) (by omega) | exact zS0_at rfl (by omega)) ?_
  refine z_aload_0 d_Mo_strike_5 ?_
  refine z_iconst (a := nI 0) d_Mo_strike_6 (by decide) ?_
  refine z_putI d_Mo_strike_7 f_Mo_73 (by first | assumption | exact zS0_at (by assumption) (by omega) | exact zS0_at rfl (by omega)) ?_
  rw [← hI1]
  rcases h with h | h
  · refine z_aload_0 d_Mo_strike_10 ?_
    refine z_iload_1 d_Mo_strike_11 ?_
    refine z_Vi1 d_Mo_strike_12 k_Mo_333 (by first | assumption | exact zS0_at (by assumption) (by omega) | exact zS0_at rfl (by omega)) (t_Mo_isTraitAt M N1) ⟨Nat.le_of_ble_eq_true rfl, Nat.le_of_ble_eq_true rfl, Nat.le_of_ble_eq_true rfl, Nat.le_of_ble_eq_true rfl⟩ (Nat.le_of_ble_eq_true rfl) ?_
    intro r w hq
    rcases hq with ⟨⟨hz12, rfl⟩ | ⟨hz12, rfl⟩, rfl⟩
    · first
      | contradiction
      | ( skip
          refine z_if_eq (tgt := 27) d_Mo_strike_15 (by decide) (fun h => absurd h (by decide)) (fun _ => ?_)
          refine z_aload_0 d_Mo_strike_18 ?_
          refine z_iload_2 d_Mo_strike_19 ?_
          refine z_i2l d_Mo_strike_20 ?_
          refine z_Vi1 d_Mo_strike_21 k_Mo_336 (by first | assumption | exact zS0_at (by assumption) (by omega) | exact zS0_at rfl (by omega)) (t_Mo_isPersonAtI M N1) ⟨Nat.le_of_ble_eq_true rfl, Nat.le_of_ble_eq_true rfl, Nat.le_of_ble_eq_true rfl, Nat.le_of_ble_eq_true rfl⟩ (Nat.le_of_ble_eq_true rfl) ?_
          intro r w hq
          rcases hq with ⟨⟨hz21, rfl⟩ | ⟨hz21, rfl⟩, rfl⟩
          · first
            | contradiction
            | ( skip
                refine z_if_ne (tgt := 33) d_Mo_strike_24 (by decide) (fun _ => ?_) (fun h => absurd h (by decide))
                contradiction)
          · first
            | contradiction
            | ( skip
                refine z_if_ne (tgt := 33) d_Mo_strike_24 (by decide) (fun h => absurd h (by decide)) (fun _ => ?_)
                refine z_aload_0 d_Mo_strike_27 ?_
                refine z_iconst (a := nI 2) d_Mo_strike_28 (by decide) ?_
                refine z_Vi1 d_Mo_strike_29 k_Mo_327 (by first | assumption | exact zS0_at (by assumption) (by omega) | exact zS0_at rfl (by omega)) (t_Mo_refuse (by assumption)) ⟨Nat.le_of_ble_eq_true rfl, Nat.le_of_ble_eq_true rfl, Nat.le_of_ble_eq_true rfl, Nat.le_of_ble_eq_true rfl⟩ (Nat.le_of_ble_eq_true rfl) ?_
                intro r w hq
                obtain ⟨rfl, rfl⟩ := hq
                refine z_reti d_Mo_strike_32 ?_
                exact ⟨by first | rfl | assumption | (rw [e150]), _, _, rfl, (by repeat (first | exact h1 | refine mqF_z ?_ (by decide))), mqJ_r, (by first | exact zu_same _ _ _ _ | exact h0)⟩))
    · first
      | contradiction
      | ( skip
          refine z_if_eq (tgt := 27) d_Mo_strike_15 (by decide) (fun _ => ?_) (fun h => absurd h (by decide))
          refine z_aload_0 d_Mo_strike_27 ?_
          refine z_iconst (a := nI 2) d_Mo_strike_28 (by decide) ?_
          refine z_Vi1 d_Mo_strike_29 k_Mo_327 (by first | assumption | exact zS0_at (by assumption) (by omega) | exact zS0_at rfl (by omega)) (t_Mo_refuse (by assumption)) ⟨Nat.le_of_ble_eq_true rfl, Nat.le_of_ble_eq_true rfl, Nat.le_of_ble_eq_true rfl, Nat.le_of_ble_eq_true rfl⟩ (Nat.le_of_ble_eq_true rfl) ?_
          intro r w hq
          obtain ⟨rfl, rfl⟩ := hq
          refine z_reti d_Mo_strike_32 ?_
          exact ⟨by first | rfl | assumption | (rw [e150]), _, _, rfl, (by repeat (first | exact h1 | refine mqF_z ?_ (by decide))), mqJ_r, (by first | exact zu_same _ _ _ _ | exact h0)⟩)
  · refine z_aload_0 d_Mo_strike_10 ?_
    refine z_iload_1 d_Mo_strike_11 ?_
    refine z_Vi1 d_Mo_strike_12 k_Mo_333 (by first | assumption | exact zS0_at (by assumption) (by omega) | exact zS0_at rfl (by omega)) (t_Mo_isTraitAt M N1) ⟨Nat.le_of_ble_eq_true rfl, Nat.le_of_ble_eq_true rfl, Nat.le_of_ble_eq_true rfl, Nat.le_of_ble_eq_true rfl⟩ (Nat.le_of_ble_eq_true rfl) ?_
    intro r w hq
    rcases hq with ⟨⟨hz12, rfl⟩ | ⟨hz12, rfl⟩, rfl⟩
    · first
      | contradiction
      | ( skip
          refine z_if_eq (tgt := 27) d_Mo_strike_15 (by decide) (fun h => absurd h (by decide)) (fun _ => ?_)
          refine z_aload_0 d_Mo_strike_18 ?_
          refine z_iload_2 d_Mo_strike_19 ?_
          refine z_i2l d_Mo_strike_20 ?_
          refine z_Vi1 d_Mo_strike_21 k_Mo_336 (by first | assumption | exact zS0_at (by assumption) (by omega) | exact zS0_at rfl (by omega)) (t_Mo_isPersonAtI M N1) ⟨Nat.le_of_ble_eq_true rfl, Nat.le_of_ble_eq_true rfl, Nat.le_of_ble_eq_true rfl, Nat.le_of_ble_eq_true rfl⟩ (Nat.le_of_ble_eq_true rfl) ?_
          intro r w hq
          rcases hq with ⟨⟨hz21, rfl⟩ | ⟨hz21, rfl⟩, rfl⟩
          · first
            | contradiction
            | ( skip
                refine z_if_ne (tgt := 33) d_Mo_strike_24 (by decide) (fun _ => ?_) (fun h => absurd h (by decide))
                contradiction)
          · first
            | contradiction
            | ( skip
                refine z_if_ne (tgt := 33) d_Mo_strike_24 (by decide) (fun h => absurd h (by decide)) (fun _ => ?_)
                refine z_aload_0 d_Mo_strike_27 ?_
                refine z_iconst (a := nI 2) d_Mo_strike_28 (by decide) ?_
                refine z_Vi1 d_Mo_strike_29 k_Mo_327 (by first | assumption | exact zS0_at (by assumption) (by omega) | exact zS0_at rfl (by omega)) (t_Mo_refuse (by assumption)) ⟨Nat.le_of_ble_eq_true rfl, Nat.le_of_ble_eq_true rfl, Nat.le_of_ble_eq_true rfl, Nat.le_of_ble_eq_true rfl⟩ (Nat.le_of_ble_eq_true rfl) ?_
                intro r w hq
                obtain ⟨rfl, rfl⟩ := hq
                refine z_reti d_Mo_strike_32 ?_
                exact ⟨by first | rfl | assumption | (rw [e150]), _, _, rfl, (by repeat (first | exact h1 | refine mqF_z ?_ (by decide))), mqJ_r, (by first | exact zu_same _ _ _ _ | exact h0)⟩))
    · first
      | contradiction
      | ( skip
          refine z_if_eq (tgt := 27) d_Mo_strike_15 (by decide) (fun _ => ?_) (fun h => absurd h (by decide))
          refine z_aload_0 d_Mo_strike_27 ?_
          refine z_iconst (a := nI 2) d_Mo_strike_28 (by decide) ?_
          refine z_Vi1 d_Mo_strike_29 k_Mo_327 (by first | assumption | exact zS0_at (by assumption) (by omega) | exact zS0_at rfl (by omega)) (t_Mo_refuse (by assumption)) ⟨Nat.le_of_ble_eq_true rfl, Nat.le_of_ble_eq_true rfl, Nat.le_of_ble_eq_true rfl, Nat.le_of_ble_eq_true rfl⟩ (Nat.le_of_ble_eq_true rfl) ?_
          intro r w hq
          obtain ⟨rfl, rfl⟩ := hq
          refine z_reti d_Mo_strike_32 ?_
          exact ⟨by first | rfl | assumption | (rw [e150]), _, _, rfl, (by repeat (first | exact h1 | refine mqF_z ?_ (by decide))), mqJ_r, (by first | exact zu_same _ _ _ _ | exact h0)⟩)
theorem t_Tf_strike_f {p k : Nat} {c : Int32} (Z : clOk f d P S) (N : fenIn I f nt np nl nn) (hk : k < nt) (hp : p < np) (hn : nn = 9) : zEi G y_Tf_strike prog_1_method_22_code 4 (some .int) 3 [.ref 0, .int (nI k), .int (nI p), .int c] (I, J, P, S) (fun r w => r = -1 ∧ cW I J P S 7 w) := by
  obtain ⟨⟨c0, c3, c1s⟩, ⟨c5, c2s, ctr⟩, ⟨c6, c11s, c11, c13s⟩, ⟨c7, c15s, c15⟩, ⟨c8, c16s, c16a, c16b, c17s⟩, ⟨c9, c10, cfd, F, Fd⟩, ⟨c11b, Ft⟩, ⟨c12, c69s, cmk⟩, ⟨c14, c121s, c121, c122s⟩, ⟨c15b, c123s, c123, c124s⟩, ⟨c16, c125s, c125, c126s⟩, ⟨c17, c127s, c127, c128s, ctb⟩, ⟨c18, c139s, c139, c140s⟩, ⟨c19, c141s, ⟨c141a, c142s⟩, ⟨c141b, c143s⟩, ⟨c141c, c144s⟩⟩, M⟩ := id Z
  obtain ⟨F0, ⟨F8, F8s⟩, ⟨F9, F9s⟩, ⟨F10, F10s⟩, ⟨F11, F11s⟩, ⟨F12, F12s⟩, ⟨F13, F13s⟩, ⟨F14, F14s⟩, ⟨F15, F15s⟩, ⟨F16, F16s⟩, ⟨F17, F17s⟩, ⟨F18, F18s⟩, ⟨F19, F19s⟩, ⟨Y3, Y3s⟩, ⟨Y4, Y4s⟩, ⟨Y5, Y5s⟩, ⟨Y6, Y6s⟩⟩ := id F
  obtain ⟨⟨n1, n1b⟩, ⟨n2, n2b⟩, ⟨n3, n3b⟩, ⟨n4, n4b⟩, nof, non⟩ := id N
  have hzk : zin (nI k) nt := ⟨k, by omega, rfl⟩
  have hzp : zin (nI p) np := ⟨p, by omega, rfl⟩
  have n4 : I f 4 = nI 9 := by rw [n4, hn]
  refine zEi_of (lv := [some (.ref 0), some (.int (nI k)), some (.int (nI p)), some (.int c)]) (by decide) rfl (Nat.le_of_ble_eq_true rfl) ?_
  refine z_aload_0 d_Tf_strike_0 ?_
  refine z_iload_1 d_Tf_strike_1 ?_
  refine z_Vi1 d_Tf_strike_2 k_Tf_227 (by first | assumption | exact zS0_at (by assumption) (by omega) | exact zS0_at rfl (by omega)) (t_Tf_noTrait Z N) ⟨Nat.le_of_ble_eq_true rfl, Nat.le_of_ble_eq_true rfl, Nat.le_of_ble_eq_true rfl, Nat.le_of_ble_eq_true rfl⟩ (Nat.le_of_ble_eq_true rfl) ?_
  intro r w hq
  rcases hq with ⟨⟨hz2, rfl⟩ | ⟨hz2, rfl⟩, rfl⟩
  · first
    | contradiction
    | ( skip
        refine z_if_ne (tgt := 16) d_Tf_strike_5 (by decide) (fun _ => ?_) (fun h => absurd h (by decide))
        refine z_aload_0 d_Tf_strike_16 ?_
        refine z_iconst (a := nI 2) d_Tf_strike_17 (by decide) ?_
        refine z_Vi1 d_Tf_strike_18 k_Tf_138 (by first | assumption | exact zS0_at (by assumption) (by omega) | exact zS0_at rfl (by omega)) (t_Tf_fail (by assumption)) ⟨Nat.le_of_ble_eq_true rfl, Nat.le_of_ble_eq_true rfl, Nat.le_of_ble_eq_true rfl, Nat.le_of_ble_eq_true rfl⟩ (Nat.le_of_ble_eq_true rfl) ?_
        intro r w hq
        obtain ⟨rfl, rfl⟩ := hq
        refine z_reti d_Tf_strike_21 ?_
        exact ⟨by first | rfl | assumption, cW_0⟩)
  · first
    | contradiction
    | ( skip
        refine z_if_ne (tgt := 16) d_Tf_strike_5 (by decide) (fun h => absurd h (by decide)) (fun _ => ?_)
        refine z_aload_0 d_Tf_strike_8 ?_
        refine z_iload_2 d_Tf_strike_9 ?_
        refine z_Vi1 d_Tf_strike_10 k_Tf_234 (by first | assumption | exact zS0_at (by assumption) (by omega) | exact zS0_at rfl (by omega)) (t_Tf_noPerson Z N) ⟨Nat.le_of_ble_eq_true rfl, Nat.le_of_ble_eq_true rfl, Nat.le_of_ble_eq_true rfl, Nat.le_of_ble_eq_true rfl⟩ (Nat.le_of_ble_eq_true rfl) ?_
        intro r w hq
        rcases hq with ⟨⟨hz10, rfl⟩ | ⟨hz10, rfl⟩, rfl⟩
        · first
          | contradiction
          | ( skip
              refine z_if_eq (tgt := 22) d_Tf_strike_13 (by decide) (fun h => absurd h (by decide)) (fun _ => ?_)
              refine z_aload_0 d_Tf_strike_16 ?_
              refine z_iconst (a := nI 2) d_Tf_strike_17 (by decide) ?_
              refine z_Vi1 d_Tf_strike_18 k_Tf_138 (by first | assumption | exact zS0_at (by assumption) (by omega) | exact zS0_at rfl (by omega)) (t_Tf_fail (by assumption)) ⟨Nat.le_of_ble_eq_true rfl, Nat.le_of_ble_eq_true rfl, Nat.le_of_ble_eq_true rfl, Nat.le_of_ble_eq_true rfl⟩ (Nat.le_of_ble_eq_true rfl) ?_
              intro r w hq
              obtain ⟨rfl, rfl⟩ := hq
              refine z_reti d_Tf_strike_21 ?_
              exact ⟨by first | rfl | assumption, cW_0⟩)
        · first
          | contradiction
          | ( skip
              refine z_if_eq (tgt := 22) d_Tf_strike_13 (by decide) (fun _ => ?_) (fun h => absurd h (by decide))
              refine z_aload_0 d_Tf_strike_22 ?_
              refine z_getR d_Tf_strike_23 f_Tf_60 (by first | assumption | exact zS0_at (by assumption) (by omega) | exact zS0_at rfl (by omega)) (by first | assumption | exact zS0_at (by assumption) (by omega) | exact zS0_at rfl (by omega)) ?_
              refine z_getIv d_Tf_strike_26 f_Tf_171 (by first | assumption | exact zS0_at (by assumption) (by omega) | exact zS0_at rfl (by omega)) (by first | assumption | ((try simp (disch := omega) only [zu_same, zu_ne, zcp_ne, zfl_ne]); first | assumption | rfl)) ?_
              refine z_bipush (a := nI 9) d_Tf_strike_29 (by decide) ?_
              refine z_icmp_lt (tgt := 41) d_Tf_strike_31 (by decide) (fun h31 => ?_) (fun h31 => ?_)
              · first
                | (simp (disch := omega) only [← nI_0, nI_leI, nI_ltI, nI_eq, not_true_eq_false, not_false_eq_true] at h31; done)
                | (simp (disch := omega) only [← nI_0, nI_leI, nI_ltI, nI_eq, not_true_eq_false, not_false_eq_true] at h31; omega)
                | contradiction
                | exact absurd h31 (Int32.not_lt.mpr (by assumption))
                | exact absurd h31 (Int32.not_le.mpr (by assumption))
                | exact absurd h31 (by decide)
                | exact absurd (by decide) h31
                | ( try simp (disch := omega) only [← nI_0, nI_leI, nI_ltI, nI_eq, not_true_eq_false, not_false_eq_true] at h31
                    (try have h31b := zbit_n0.mp h31); (try have h31b := zbit_p0.mp h31)
                    exact absurd (by decide) (by assumption))
              · first
                | (simp (disch := omega) only [← nI_0, nI_leI, nI_ltI, nI_eq, not_true_eq_false, not_false_eq_true] at h31; done)
                | (simp (disch := omega) only [← nI_0, nI_leI, nI_ltI, nI_eq, not_true_eq_false, not_false_eq_true] at h31; omega)
                | contradiction
                | exact absurd h31 (Int32.not_lt.mpr (by assumption))
                | exact absurd h31 (Int32.not_le.mpr (by assumption))
                | exact absurd h31 (by decide)
                | exact absurd (by decide) h31
                | ( try simp (disch := omega) only [← nI_0, nI_leI, nI_ltI, nI_eq, not_true_eq_false, not_false_eq_true] at h31
                    (try have h31b := zbit_n0.mp h31); (try have h31b := zbit_p0.mp h31)
                    refine z_aload_0 d_Tf_strike_34 ?_
                    refine z_bipush (a := nI 7) d_Tf_strike_35 (by decide) ?_
                    refine z_Vi1 d_Tf_strike_37 k_Tf_138 (by first | assumption | exact zS0_at (by assumption) (by omega) | exact zS0_at rfl (by omega)) (t_Tf_fail (by assumption)) ⟨Nat.le_of_ble_eq_true rfl, Nat.le_of_ble_eq_true rfl, Nat.le_of_ble_eq_true rfl, Nat.le_of_ble_eq_true rfl⟩ (Nat.le_of_ble_eq_true rfl) ?_
                    intro r w hq
                    obtain ⟨rfl, rfl⟩ := hq
                    refine z_reti d_Tf_strike_40 ?_
                    exact ⟨by first | rfl | assumption, cW_0⟩)))
theorem t_Mo_strike_f {p k : Nat} {c : Int32} (M : modOk P S) (N : modIn I nt np nl nn) (hk : k < nt) (hp : p < np) (hn : nn = 9) : zEi G y_Mo_strike prog_14_method_96_code 5 (some .int) 4 [.ref 145, .int (nI k), .int (nI p), .int c] (I, J, P, S) (fun r w => r = -1 ∧ mW I J P S 7 w) := by
  obtain ⟨M0, ⟨M4, M4s⟩, ⟨M5, M5s⟩, ⟨M6, M6s⟩, ⟨M7, M7s⟩, ⟨M20, M20s⟩, ⟨M21, M21s⟩, ⟨M22, M22s⟩, ⟨M26, M26s⟩, ⟨M27, M27s⟩, ⟨M28, M28s⟩, ⟨M30, M30s⟩, ⟨M34, M34s⟩, ⟨M36, M36s⟩, ⟨M37, M37s⟩⟩ := id M
  obtain ⟨I1, hI1, N1, h1, h0, e150, er, ek⟩ := mo_beg N
  obtain ⟨⟨m0, m0b⟩, ⟨m1, m1b⟩, ⟨m2, m2b⟩, ⟨m3, m3b⟩, mof, mon⟩ := id N1
  have hD : mD I I1 := ⟨h1, h0, e150, er⟩
  refine zEi_of (lv := [some (.ref 145), some (.int (nI k)), some (.int (nI p)), some (.int c), none]) (by decide) rfl (Nat.le_of_ble_eq_true rfl) ?_
  refine z_aload_0 d_Mo_strike_0 ?_
  refine z_iconst (a := nI 0) d_Mo_strike_1 (by decide) ?_
  refine z_putI d_Mo_strike_2 f_Mo_70 (by first | assumption | exact zS0_at (by assumption) (by omega) | exact zS0_at rfl (by omega)) ?_
  refine z_aload_0 d_Mo_strike_5 ?_
  refine z_iconst (a := nI 0) d_Mo_strike_6 (by decide) ?_
  refine z_putI d_Mo_strike_7 f_Mo_73 (by first | assumption | exact zS0_at (by assumption) (by omega) | exact zS0_at rfl (by omega)) ?_
  rw [← hI1]
  have hzk : zin (nI k) nt := ⟨k, by omega, rfl⟩
  have hzp : zin (nI p) np := ⟨p, by omega, rfl⟩
  have m3 : I1 150 3 = nI 9 := by rw [m3, hn]
  refine z_aload_0 d_Mo_strike_10 ?_
  refine z_iload_1 d_Mo_strike_11 ?_
  refine z_Vi1 d_Mo_strike_12 k_Mo_333 (by first | assumption | exact zS0_at (by assumption) (by omega) | exact zS0_at rfl (by omega)) (t_Mo_isTraitAt M N1) ⟨Nat.le_of_ble_eq_true rfl, Nat.le_of_ble_eq_true rfl, Nat.le_of_ble_eq_true rfl, Nat.le_of_ble_eq_true rfl⟩ (Nat.le_of_ble_eq_true rfl) ?_
  intro r w hq
  rcases hq with ⟨⟨hz12, rfl⟩ | ⟨hz12, rfl⟩, rfl⟩
  · first
    | contradiction
    | ( skip
        refine z_if_eq (tgt := 27) d_Mo_strike_15 (by decide) (fun h => absurd h (by decide)) (fun _ => ?_)
        refine z_aload_0 d_Mo_strike_18 ?_
        refine z_iload_2 d_Mo_strike_19 ?_
        refine z_i2l d_Mo_strike_20 ?_
        refine z_Vi1 d_Mo_strike_21 k_Mo_336 (by first | assumption | exact zS0_at (by assumption) (by omega) | exact zS0_at rfl (by omega)) (t_Mo_isPersonAtI M N1) ⟨Nat.le_of_ble_eq_true rfl, Nat.le_of_ble_eq_true rfl, Nat.le_of_ble_eq_true rfl, Nat.le_of_ble_eq_true rfl⟩ (Nat.le_of_ble_eq_true rfl) ?_
        intro r w hq
        rcases hq with ⟨⟨hz21, rfl⟩ | ⟨hz21, rfl⟩, rfl⟩
        · first
          | contradiction
          | ( skip
              refine z_if_ne (tgt := 33) d_Mo_strike_24 (by decide) (fun _ => ?_) (fun h => absurd h (by decide))
              refine z_aload_0 d_Mo_strike_33 ?_
              refine z_getR d_Mo_strike_34 f_Mo_35 (by first | assumption | exact zS0_at (by assumption) (by omega) | exact zS0_at rfl (by omega)) (by first | assumption | exact zS0_at (by assumption) (by omega) | exact zS0_at rfl (by omega)) ?_
              refine z_iconst (a := nI 3) d_Mo_strike_37 (by decide) ?_
              first | refine z_ialdNv d_Mo_strike_38 (by first | assumption | exact zS0_at (by assumption) (by omega) | exact zS0_at rfl (by omega)) (by omega) (by first | decide | omega) (by first | assumption | ((try simp (disch := omega) only [zu_same, zu_ne, zcp_ne, zfl_ne]); first | assumption | rfl)) ?_ | refine z_iald d_Mo_strike_38 (by first | assumption | exact zS0_at (by assumption) (by omega) | exact zS0_at rfl (by omega)) (by first | assumption | exact zS0_at (by assumption) (by omega) | exact zS0_at rfl (by omega)) ?_
              first | refine z_istore_4 d_Mo_strike_39 rfl ?_ | (refine z_forget_3 ?_; refine z_istore_4 d_Mo_strike_39 rfl ?_)
              refine z_iload_4 d_Mo_strike_41 ?_
              refine z_bipush (a := nI 9) d_Mo_strike_43 (by decide) ?_
              refine z_icmp_ne (tgt := 55) d_Mo_strike_45 (by decide) (fun h45 => ?_) (fun h45 => ?_)
              · first
                | (simp (disch := omega) only [← nI_0, nI_leI, nI_ltI, nI_eq, not_true_eq_false, not_false_eq_true] at h45; done)
                | (simp (disch := omega) only [← nI_0, nI_leI, nI_ltI, nI_eq, not_true_eq_false, not_false_eq_true] at h45; omega)
                | contradiction
                | exact absurd h45 (Int32.not_lt.mpr (by assumption))
                | exact absurd h45 (Int32.not_le.mpr (by assumption))
                | exact absurd h45 (by decide)
                | exact absurd (by decide) h45
                | ( try simp (disch := omega) only [← nI_0, nI_leI, nI_ltI, nI_eq, not_true_eq_false, not_false_eq_true] at h45
                    (try have h45b := zbit_n0.mp h45); (try have h45b := zbit_p0.mp h45)
                    exact absurd rfl (by assumption))
              · first
                | (simp (disch := omega) only [← nI_0, nI_leI, nI_ltI, nI_eq, not_true_eq_false, not_false_eq_true] at h45; done)
                | (simp (disch := omega) only [← nI_0, nI_leI, nI_ltI, nI_eq, not_true_eq_false, not_false_eq_true] at h45; omega)
                | contradiction
                | exact absurd h45 (Int32.not_lt.mpr (by assumption))
                | exact absurd h45 (Int32.not_le.mpr (by assumption))
                | exact absurd h45 (by decide)
                | exact absurd (by decide) h45
                | ( try simp (disch := omega) only [← nI_0, nI_leI, nI_ltI, nI_eq, not_true_eq_false, not_false_eq_true] at h45
                    (try have h45b := zbit_n0.mp h45); (try have h45b := zbit_p0.mp h45)
                    refine z_aload_0 d_Mo_strike_48 ?_
                    refine z_bipush (a := nI 7) d_Mo_strike_49 (by decide) ?_
                    refine z_Vi1 d_Mo_strike_51 k_Mo_327 (by first | assumption | exact zS0_at (by assumption) (by omega) | exact zS0_at rfl (by omega)) (t_Mo_refuse (by assumption)) ⟨Nat.le_of_ble_eq_true rfl, Nat.le_of_ble_eq_true rfl, Nat.le_of_ble_eq_true rfl, Nat.le_of_ble_eq_true rfl⟩ (Nat.le_of_ble_eq_true rfl) ?_
                    intro r w hq
                    obtain ⟨rfl, rfl⟩ := hq
                    refine z_reti d_Mo_strike_54 ?_
                    exact ⟨by first | rfl | assumption | (rw [e150]), _, _, rfl, (by repeat (first | exact h1 | refine mqF_z ?_ (by decide))), mqJ_r, (by first | exact zu_same _ _ _ _ | exact h0)⟩))
        · first
          | contradiction
          | ( skip
              refine z_if_ne (tgt := 33) d_Mo_strike_24 (by decide) (fun h => absurd h (by decide)) (fun _ => ?_)
              refine z_aload_0 d_Mo_strike_27 ?_
              refine z_iconst (a := nI 2) d_Mo_strike_28 (by decide) ?_
              refine z_Vi1 d_Mo_strike_29 k_Mo_327 (by first | assumption | exact zS0_at (by assumption) (by omega) | exact zS0_at rfl (by omega)) (t_Mo_refuse (by assumption)) ⟨Nat.le_of_ble_eq_true rfl, Nat.le_of_ble_eq_true rfl, Nat.le_of_ble_eq_true rfl, Nat.le_of_ble_eq_true rfl⟩ (Nat.le_of_ble_eq_true rfl) ?_
              intro r w hq
              obtain ⟨rfl, rfl⟩ := hq
              refine z_reti d_Mo_strike_32 ?_
              exact ⟨by first | rfl | assumption | (rw [e150]), _, _, rfl, (by repeat (first | exact h1 | refine mqF_z ?_ (by decide))), mqJ_r, (by first | exact zu_same _ _ _ _ | exact h0)⟩))
  · first
    | contradiction
    | ( skip
        refine z_if_eq (tgt := 27) d_Mo_strike_15 (by decide) (fun _ => ?_) (fun h => absurd h (by decide))
        refine z_aload_0 d_Mo_strike_27 ?_
        refine z_iconst (a := nI 2) d_Mo_strike_28 (by decide) ?_
        refine z_Vi1 d_Mo_strike_29 k_Mo_327 (by first | assumption | exact zS0_at (by assumption) (by omega) | exact zS0_at rfl (by omega)) (t_Mo_refuse (by assumption)) ⟨Nat.le_of_ble_eq_true rfl, Nat.le_of_ble_eq_true rfl, Nat.le_of_ble_eq_true rfl, Nat.le_of_ble_eq_true rfl⟩ (Nat.le_of_ble_eq_true rfl) ?_
        intro r w hq
        obtain ⟨rfl, rfl⟩ := hq
        refine z_reti d_Mo_strike_32 ?_
        exact ⟨by first | rfl | assumption | (rw [e150]), _, _, rfl, (by repeat (first | exact h1 | refine mqF_z ?_ (by decide))), mqJ_r, (by first | exact zu_same _ _ _ _ | exact h0)⟩)
theorem t_Tf_strike_0 {p k : Nat} (Z : clOk f d P S) (N : fenIn I f nt np nl nn) (hk : k < nt) (hp : p < np) (hn : nn < 9) : zEi G y_Tf_strike prog_1_method_22_code 4 (some .int) 3 [.ref 0, .int (nI k), .int (nI p), .int (nI 0)] (I, J, P, S) (fun r w => r = nI nn ∧ w = (zu (zu (s_addTin I f nn (nI k) (nI p)) f 4 (nI (nn + 1))) 0 0 (nI 0), zu J (f + 11) nn (lN 0), P, S)) := by
  obtain ⟨⟨c0, c3, c1s⟩, ⟨c5, c2s, ctr⟩, ⟨c6, c11s, c11, c13s⟩, ⟨c7, c15s, c15⟩, ⟨c8, c16s, c16a, c16b, c17s⟩, ⟨c9, c10, cfd, F, Fd⟩, ⟨c11b, Ft⟩, ⟨c12, c69s, cmk⟩, ⟨c14, c121s, c121, c122s⟩, ⟨c15b, c123s, c123, c124s⟩, ⟨c16, c125s, c125, c126s⟩, ⟨c17, c127s, c127, c128s, ctb⟩, ⟨c18, c139s, c139, c140s⟩, ⟨c19, c141s, ⟨c141a, c142s⟩, ⟨c141b, c143s⟩, ⟨c141c, c144s⟩⟩, M⟩ := id Z
  obtain ⟨F0, ⟨F8, F8s⟩, ⟨F9, F9s⟩, ⟨F10, F10s⟩, ⟨F11, F11s⟩, ⟨F12, F12s⟩, ⟨F13, F13s⟩, ⟨F14, F14s⟩, ⟨F15, F15s⟩, ⟨F16, F16s⟩, ⟨F17, F17s⟩, ⟨F18, F18s⟩, ⟨F19, F19s⟩, ⟨Y3, Y3s⟩, ⟨Y4, Y4s⟩, ⟨Y5, Y5s⟩, ⟨Y6, Y6s⟩⟩ := id F
  obtain ⟨⟨n1, n1b⟩, ⟨n2, n2b⟩, ⟨n3, n3b⟩, ⟨n4, n4b⟩, nof, non⟩ := id N
  have hzk : zin (nI k) nt := ⟨k, by omega, rfl⟩
  have hzp : zin (nI p) np := ⟨p, by omega, rfl⟩
  refine zEi_of (lv := [some (.ref 0), some (.int (nI k)), some (.int (nI p)), some (.int (nI 0))]) (by decide) rfl (Nat.le_of_ble_eq_true rfl) ?_
  refine z_aload_0 d_Tf_strike_0 ?_
  refine z_iload_1 d_Tf_strike_1 ?_
  refine z_Vi1 d_Tf_strike_2 k_Tf_227 (by first | assumption | exact zS0_at (by assumption) (by omega) | exact zS0_at rfl (by omega)) (t_Tf_noTrait Z N) ⟨Nat.le_of_ble_eq_true rfl, Nat.le_of_ble_eq_true rfl, Nat.le_of_ble_eq_true rfl, Nat.le_of_ble_eq_true rfl⟩ (Nat.le_of_ble_eq_true rfl) ?_
  intro r w hq
  rcases hq with ⟨⟨hz2, rfl⟩ | ⟨hz2, rfl⟩, rfl⟩
  · first
    | contradiction
    | ( skip
        refine z_if_ne (tgt := 16) d_Tf_strike_5 (by decide) (fun _ => ?_) (fun h => absurd h (by decide))
        refine z_aload_0 d_Tf_strike_16 ?_
        refine z_iconst (a := nI 2) d_Tf_strike_17 (by decide) ?_
        refine z_Vi1 d_Tf_strike_18 k_Tf_138 (by first | assumption | exact zS0_at (by assumption) (by omega) | exact zS0_at rfl (by omega)) (t_Tf_fail (by assumption)) ⟨Nat.le_of_ble_eq_true rfl, Nat.le_of_ble_eq_true rfl, Nat.le_of_ble_eq_true rfl, Nat.le_of_ble_eq_true rfl⟩ (Nat.le_of_ble_eq_true rfl) ?_
        intro r w hq
        obtain ⟨rfl, rfl⟩ := hq
        refine z_reti d_Tf_strike_21 ?_
        exact ⟨rfl, rfl⟩)
  · first
    | contradiction
    | ( skip
        refine z_if_ne (tgt := 16) d_Tf_strike_5 (by decide) (fun h => absurd h (by decide)) (fun _ => ?_)
        refine z_aload_0 d_Tf_strike_8 ?_
        refine z_iload_2 d_Tf_strike_9 ?_
        refine z_Vi1 d_Tf_strike_10 k_Tf_234 (by first | assumption | exact zS0_at (by assumption) (by omega) | exact zS0_at rfl (by omega)) (t_Tf_noPerson Z N) ⟨Nat.le_of_ble_eq_true rfl, Nat.le_of_ble_eq_true rfl, Nat.le_of_ble_eq_true rfl, Nat.le_of_ble_eq_true rfl⟩ (Nat.le_of_ble_eq_true rfl) ?_
        intro r w hq
        rcases hq with ⟨⟨hz10, rfl⟩ | ⟨hz10, rfl⟩, rfl⟩
        · first
          | contradiction
          | ( skip
              refine z_if_eq (tgt := 22) d_Tf_strike_13 (by decide) (fun h => absurd h (by decide)) (fun _ => ?_)
              refine z_aload_0 d_Tf_strike_16 ?_
              refine z_iconst (a := nI 2) d_Tf_strike_17 (by decide) ?_
              refine z_Vi1 d_Tf_strike_18 k_Tf_138 (by first | assumption | exact zS0_at (by assumption) (by omega) | exact zS0_at rfl (by omega)) (t_Tf_fail (by assumption)) ⟨Nat.le_of_ble_eq_true rfl, Nat.le_of_ble_eq_true rfl, Nat.le_of_ble_eq_true rfl, Nat.le_of_ble_eq_true rfl⟩ (Nat.le_of_ble_eq_true rfl) ?_
              intro r w hq
              obtain ⟨rfl, rfl⟩ := hq
              refine z_reti d_Tf_strike_21 ?_
              exact ⟨rfl, rfl⟩)
        · first
          | contradiction
          | ( skip
              refine z_if_eq (tgt := 22) d_Tf_strike_13 (by decide) (fun _ => ?_) (fun h => absurd h (by decide))
              refine z_aload_0 d_Tf_strike_22 ?_
              refine z_getR d_Tf_strike_23 f_Tf_60 (by first | assumption | exact zS0_at (by assumption) (by omega) | exact zS0_at rfl (by omega)) (by first | assumption | exact zS0_at (by assumption) (by omega) | exact zS0_at rfl (by omega)) ?_
              refine z_getIv d_Tf_strike_26 f_Tf_171 (by first | assumption | exact zS0_at (by assumption) (by omega) | exact zS0_at rfl (by omega)) (by first | assumption | ((try simp (disch := omega) only [zu_same, zu_ne, zcp_ne, zfl_ne]); first | assumption | rfl)) ?_
              refine z_bipush (a := nI 9) d_Tf_strike_29 (by decide) ?_
              refine z_icmp_lt (tgt := 41) d_Tf_strike_31 (by decide) (fun h31 => ?_) (fun h31 => ?_)
              · first
                | (simp (disch := omega) only [← nI_0, nI_leI, nI_ltI, nI_eq, not_true_eq_false, not_false_eq_true] at h31; done)
                | (simp (disch := omega) only [← nI_0, nI_leI, nI_ltI, nI_eq, not_true_eq_false, not_false_eq_true] at h31; omega)
                | contradiction
                | exact absurd h31 (Int32.not_lt.mpr (by assumption))
                | exact absurd h31 (Int32.not_le.mpr (by assumption))
                | exact absurd h31 (by decide)
                | exact absurd (by decide) h31
                | ( try simp (disch := omega) only [← nI_0, nI_leI, nI_ltI, nI_eq, not_true_eq_false, not_false_eq_true] at h31
                    (try have h31b := zbit_n0.mp h31); (try have h31b := zbit_p0.mp h31)
                    refine z_aload_0 d_Tf_strike_41 ?_
                    refine z_getR d_Tf_strike_42 f_Tf_60 (by first | assumption | exact zS0_at (by assumption) (by omega) | exact zS0_at rfl (by omega)) (by first | assumption | exact zS0_at (by assumption) (by omega) | exact zS0_at rfl (by omega)) ?_
                    refine z_lconst (f := lN 0) d_Tf_strike_45 rfl ?_
                    refine z_iload_1 d_Tf_strike_46 ?_
                    refine z_iload_2 d_Tf_strike_47 ?_
                    refine z_iload_3 d_Tf_strike_48 ?_
                    refine z_Vv4 d_Tf_strike_49 k_Tf_291 (by first | assumption | exact zS0_at (by assumption) (by omega) | exact zS0_at rfl (by omega)) (t_Fen_addTin0 F n4 hn) ⟨Nat.le_of_ble_eq_true rfl, Nat.le_of_ble_eq_true rfl, Nat.le_of_ble_eq_true rfl, Nat.le_of_ble_eq_true rfl⟩ (Nat.le_of_ble_eq_true rfl) ?_
                    intro w hq
                    obtain rfl := hq
                    refine z_aload_0 d_Tf_strike_52 ?_
                    refine z_aload_0 d_Tf_strike_53 ?_
                    refine z_getR d_Tf_strike_54 f_Tf_60 (by first | assumption | exact zS0_at (by assumption) (by omega) | exact zS0_at rfl (by omega)) (by first | assumption | exact zS0_at (by assumption) (by omega) | exact zS0_at rfl (by omega)) ?_
                    refine z_getIv d_Tf_strike_57 f_Tf_171 (by first | assumption | exact zS0_at (by assumption) (by omega) | exact zS0_at rfl (by omega)) (by first | assumption | ((try simp (disch := omega) only [zu_same, zu_ne, zcp_ne, zfl_ne]); first | assumption | rfl)) ?_
                    refine z_iconst (a := nI 1) d_Tf_strike_60 (by decide) ?_
                    first | refine z_isubN d_Tf_strike_61 (by omega) ?_ | refine z_isub d_Tf_strike_61 ?_
                    refine z_Vi1 d_Tf_strike_62 k_Tf_174 (by first | assumption | exact zS0_at (by assumption) (by omega) | exact zS0_at rfl (by omega)) (t_Tf_give (by assumption)) ⟨Nat.le_of_ble_eq_true rfl, Nat.le_of_ble_eq_true rfl, Nat.le_of_ble_eq_true rfl, Nat.le_of_ble_eq_true rfl⟩ (Nat.le_of_ble_eq_true rfl) ?_
                    intro r w hq
                    obtain ⟨rfl, rfl⟩ := hq
                    refine z_reti d_Tf_strike_65 ?_
                    exact ⟨rfl, rfl⟩)
              · first
                | (simp (disch := omega) only [← nI_0, nI_leI, nI_ltI, nI_eq, not_true_eq_false, not_false_eq_true] at h31; done)
                | (simp (disch := omega) only [← nI_0, nI_leI, nI_ltI, nI_eq, not_true_eq_false, not_false_eq_true] at h31; omega)
                | contradiction
                | exact absurd h31 (Int32.not_lt.mpr (by assumption))
                | exact absurd h31 (Int32.not_le.mpr (by assumption))
                | exact absurd h31 (by decide)
                | exact absurd (by decide) h31
                | ( try simp (disch := omega) only [← nI_0, nI_leI, nI_ltI, nI_eq, not_true_eq_false, not_false_eq_true] at h31
                    (try have h31b := zbit_n0.mp h31); (try have h31b := zbit_p0.mp h31)
                    refine z_aload_0 d_Tf_strike_34 ?_
                    refine z_bipush (a := nI 7) d_Tf_strike_35 (by decide) ?_
                    refine z_Vi1 d_Tf_strike_37 k_Tf_138 (by first | assumption | exact zS0_at (by assumption) (by omega) | exact zS0_at rfl (by omega)) (t_Tf_fail (by assumption)) ⟨Nat.le_of_ble_eq_true rfl, Nat.le_of_ble_eq_true rfl, Nat.le_of_ble_eq_true rfl, Nat.le_of_ble_eq_true rfl⟩ (Nat.le_of_ble_eq_true rfl) ?_
                    intro r w hq
                    obtain ⟨rfl, rfl⟩ := hq
                    refine z_reti d_Tf_strike_40 ?_
                    exact ⟨rfl, rfl⟩)))
theorem t_Mo_strike_0 {p k : Nat} (M : modOk P S) (N : modIn I nt np nl nn) (hk : k < nt) (hp : p < np) (hn : nn < 9) : zEi G y_Mo_strike prog_14_method_96_code 5 (some .int) 4 [.ref 145, .int (nI k), .int (nI p), .int (nI 0)] (I, J, P, S) (fun r w => r = nI nn ∧ ∃ I1, mD I I1 ∧ w = (m_strikes I1 0 nn (nI k) (nI p) (nI 0), zu J 152 (13 + nn) (lN 0), P, S)) := by
  obtain ⟨M0, ⟨M4, M4s⟩, ⟨M5, M5s⟩, ⟨M6, M6s⟩, ⟨M7, M7s⟩, ⟨M20, M20s⟩, ⟨M21, M21s⟩, ⟨M22, M22s⟩, ⟨M26, M26s⟩, ⟨M27, M27s⟩, ⟨M28, M28s⟩, ⟨M30, M30s⟩, ⟨M34, M34s⟩, ⟨M36, M36s⟩, ⟨M37, M37s⟩⟩ := id M
  obtain ⟨I1, hI1, N1, h1, h0, e150, er, ek⟩ := mo_beg N
  obtain ⟨⟨m0, m0b⟩, ⟨m1, m1b⟩, ⟨m2, m2b⟩, ⟨m3, m3b⟩, mof, mon⟩ := id N1
  have hD : mD I I1 := ⟨h1, h0, e150, er⟩
  refine zEi_of (lv := [some (.ref 145), some (.int (nI k)), some (.int (nI p)), some (.int (nI 0)), none]) (by decide) rfl (Nat.le_of_ble_eq_true rfl) ?_
  refine z_aload_0 d_Mo_strike_0 ?_
  refine z_iconst (a := nI 0) d_Mo_strike_1 (by decide) ?_
  refine z_putI d_Mo_strike_2 f_Mo_70 (by first | assumption | exact zS0_at (by assumption) (by omega) | exact zS0_at rfl (by omega)) ?_
  refine z_aload_0 d_Mo_strike_5 ?_
  refine z_iconst (a := nI 0) d_Mo_strike_6 (by decide) ?_
  refine z_putI d_Mo_strike_7 f_Mo_73 (by first | assumption | exact zS0_at (by assumption) (by omega) | exact zS0_at rfl (by omega)) ?_
  rw [← hI1]
  have hzk : zin (nI k) nt := ⟨k, by omega, rfl⟩
  have hzp : zin (nI p) np := ⟨p, by omega, rfl⟩
  have hn2 : ¬ nI nn = nI 9 := fun h => by have := (nI_eq (by omega) (by omega)).mp h; omega
  refine z_aload_0 d_Mo_strike_10 ?_
  refine z_iload_1 d_Mo_strike_11 ?_
  refine z_Vi1 d_Mo_strike_12 k_Mo_333 (by first | assumption | exact zS0_at (by assumption) (by omega) | exact zS0_at rfl (by omega)) (t_Mo_isTraitAt M N1) ⟨Nat.le_of_ble_eq_true rfl, Nat.le_of_ble_eq_true rfl, Nat.le_of_ble_eq_true rfl, Nat.le_of_ble_eq_true rfl⟩ (Nat.le_of_ble_eq_true rfl) ?_
  intro r w hq
  rcases hq with ⟨⟨hz12, rfl⟩ | ⟨hz12, rfl⟩, rfl⟩
  · first
    | contradiction
    | ( skip
        refine z_if_eq (tgt := 27) d_Mo_strike_15 (by decide) (fun h => absurd h (by decide)) (fun _ => ?_)
        refine z_aload_0 d_Mo_strike_18 ?_
        refine z_iload_2 d_Mo_strike_19 ?_
        refine z_i2l d_Mo_strike_20 ?_
        refine z_Vi1 d_Mo_strike_21 k_Mo_336 (by first | assumption | exact zS0_at (by assumption) (by omega) | exact zS0_at rfl (by omega)) (t_Mo_isPersonAtI M N1) ⟨Nat.le_of_ble_eq_true rfl, Nat.le_of_ble_eq_true rfl, Nat.le_of_ble_eq_true rfl, Nat.le_of_ble_eq_true rfl⟩ (Nat.le_of_ble_eq_true rfl) ?_
        intro r w hq
        rcases hq with ⟨⟨hz21, rfl⟩ | ⟨hz21, rfl⟩, rfl⟩
        · first
          | contradiction
          | ( skip
              refine z_if_ne (tgt := 33) d_Mo_strike_24 (by decide) (fun _ => ?_) (fun h => absurd h (by decide))
              refine z_aload_0 d_Mo_strike_33 ?_
              refine z_getR d_Mo_strike_34 f_Mo_35 (by first | assumption | exact zS0_at (by assumption) (by omega) | exact zS0_at rfl (by omega)) (by first | assumption | exact zS0_at (by assumption) (by omega) | exact zS0_at rfl (by omega)) ?_
              refine z_iconst (a := nI 3) d_Mo_strike_37 (by decide) ?_
              first | refine z_ialdNv d_Mo_strike_38 (by first | assumption | exact zS0_at (by assumption) (by omega) | exact zS0_at rfl (by omega)) (by omega) (by first | decide | omega) (by first | assumption | ((try simp (disch := omega) only [zu_same, zu_ne, zcp_ne, zfl_ne]); first | assumption | rfl)) ?_ | refine z_iald d_Mo_strike_38 (by first | assumption | exact zS0_at (by assumption) (by omega) | exact zS0_at rfl (by omega)) (by first | assumption | exact zS0_at (by assumption) (by omega) | exact zS0_at rfl (by omega)) ?_
              first | refine z_istore_4 d_Mo_strike_39 rfl ?_ | (refine z_forget_3 ?_; refine z_istore_4 d_Mo_strike_39 rfl ?_)
              refine z_iload_4 d_Mo_strike_41 ?_
              refine z_bipush (a := nI 9) d_Mo_strike_43 (by decide) ?_
              refine z_icmp_ne (tgt := 55) d_Mo_strike_45 (by decide) (fun h45 => ?_) (fun h45 => ?_)
              · first
                | (simp (disch := omega) only [← nI_0, nI_leI, nI_ltI, nI_eq, not_true_eq_false, not_false_eq_true] at h45; done)
                | (simp (disch := omega) only [← nI_0, nI_leI, nI_ltI, nI_eq, not_true_eq_false, not_false_eq_true] at h45; omega)
                | contradiction
                | exact absurd h45 (Int32.not_lt.mpr (by assumption))
                | exact absurd h45 (Int32.not_le.mpr (by assumption))
                | exact absurd h45 (by decide)
                | exact absurd (by decide) h45
                | ( try simp (disch := omega) only [← nI_0, nI_leI, nI_ltI, nI_eq, not_true_eq_false, not_false_eq_true] at h45
                    (try have h45b := zbit_n0.mp h45); (try have h45b := zbit_p0.mp h45)
                    refine z_aload_0 d_Mo_strike_55 ?_
                    refine z_getR d_Mo_strike_56 f_Mo_41 (by first | assumption | exact zS0_at (by assumption) (by omega) | exact zS0_at rfl (by omega)) (by first | assumption | exact zS0_at (by assumption) (by omega) | exact zS0_at rfl (by omega)) ?_
                    refine z_iconst (a := nI 3) d_Mo_strike_59 (by decide) ?_
                    refine z_Si1 d_Mo_strike_60 k_Mo_224 (t_Mo_namesFrom (off := 13) (Or.inr (Or.inr ⟨rfl, rfl⟩))) ⟨Nat.le_of_ble_eq_true rfl, Nat.le_of_ble_eq_true rfl, Nat.le_of_ble_eq_true rfl, Nat.le_of_ble_eq_true rfl⟩ (Nat.le_of_ble_eq_true rfl) ?_
                    intro r w hq
                    obtain ⟨rfl, rfl⟩ := hq
                    refine z_iload_4 d_Mo_strike_63 ?_
                    first | refine z_iaddN d_Mo_strike_65 ?_ | refine z_iadd d_Mo_strike_65 ?_
                    refine z_lconst (f := lN 0) d_Mo_strike_66 rfl ?_
                    first | refine z_lastN d_Mo_strike_67 (by first | assumption | exact zS0_at (by assumption) (by omega) | exact zS0_at rfl (by omega)) (by omega) (by first | decide | omega) ?_ | refine z_last d_Mo_strike_67 (by first | assumption | exact zS0_at (by assumption) (by omega) | exact zS0_at rfl (by omega)) (by first | assumption | exact zS0_at (by assumption) (by omega) | exact zS0_at rfl (by omega)) ?_
                    refine z_aload_0 d_Mo_strike_68 ?_
                    refine z_iconst (a := nI 0) d_Mo_strike_69 (by decide) ?_
                    refine z_iload_4 d_Mo_strike_70 ?_
                    refine z_iload_1 d_Mo_strike_72 ?_
                    refine z_iload_2 d_Mo_strike_73 ?_
                    refine z_iload_3 d_Mo_strike_74 ?_
                    refine z_if_eq (tgt := 82) d_Mo_strike_75 (by decide) (fun h75 => ?_) (fun h75 => ?_)
                    · first
                      | (simp (disch := omega) only [← nI_0, nI_leI, nI_ltI, nI_eq, not_true_eq_false, not_false_eq_true] at h75; done)
                      | (simp (disch := omega) only [← nI_0, nI_leI, nI_ltI, nI_eq, not_true_eq_false, not_false_eq_true] at h75; omega)
                      | contradiction
                      | exact absurd h75 (Int32.not_lt.mpr (by assumption))
                      | exact absurd h75 (Int32.not_le.mpr (by assumption))
                      | exact absurd h75 (by decide)
                      | exact absurd (by decide) h75
                      | ( try simp (disch := omega) only [← nI_0, nI_leI, nI_ltI, nI_eq, not_true_eq_false, not_false_eq_true] at h75
                          (try have h75b := zbit_n0.mp h75); (try have h75b := zbit_p0.mp h75)
                          refine z_iconst (a := nI 0) d_Mo_strike_82 (by decide) ?_
                          refine z_Vv5 d_Mo_strike_83 k_Mo_264 (by first | assumption | exact zS0_at (by assumption) (by omega) | exact zS0_at rfl (by omega)) (t_Mo_strikes (c := 0) M (by decide) hn) ⟨Nat.le_of_ble_eq_true rfl, Nat.le_of_ble_eq_true rfl, Nat.le_of_ble_eq_true rfl, Nat.le_of_ble_eq_true rfl⟩ (Nat.le_of_ble_eq_true rfl) ?_
                          intro w hq
                          obtain rfl := hq
                          refine z_iload_4 d_Mo_strike_86 ?_
                          refine z_reti d_Mo_strike_88 ?_
                          exact ⟨rfl, I1, hD, rfl⟩)
                    · first
                      | (simp (disch := omega) only [← nI_0, nI_leI, nI_ltI, nI_eq, not_true_eq_false, not_false_eq_true] at h75; done)
                      | (simp (disch := omega) only [← nI_0, nI_leI, nI_ltI, nI_eq, not_true_eq_false, not_false_eq_true] at h75; omega)
                      | contradiction
                      | exact absurd h75 (Int32.not_lt.mpr (by assumption))
                      | exact absurd h75 (Int32.not_le.mpr (by assumption))
                      | exact absurd h75 (by decide)
                      | exact absurd (by decide) h75
                      | ( try simp (disch := omega) only [← nI_0, nI_leI, nI_ltI, nI_eq, not_true_eq_false, not_false_eq_true] at h75
                          (try have h75b := zbit_n0.mp h75); (try have h75b := zbit_p0.mp h75)
                          refine z_iconst (a := nI 1) d_Mo_strike_78 (by decide) ?_
                          refine z_goto (tgt := 83) d_Mo_strike_79 (by decide) ?_
                          refine z_Vv5 d_Mo_strike_83 k_Mo_264 (by first | assumption | exact zS0_at (by assumption) (by omega) | exact zS0_at rfl (by omega)) (t_Mo_strikes (c := 0) M (by decide) hn) ⟨Nat.le_of_ble_eq_true rfl, Nat.le_of_ble_eq_true rfl, Nat.le_of_ble_eq_true rfl, Nat.le_of_ble_eq_true rfl⟩ (Nat.le_of_ble_eq_true rfl) ?_
                          intro w hq
                          obtain rfl := hq
                          refine z_iload_4 d_Mo_strike_86 ?_
                          refine z_reti d_Mo_strike_88 ?_
                          exact ⟨rfl, I1, hD, rfl⟩))
              · first
                | (simp (disch := omega) only [← nI_0, nI_leI, nI_ltI, nI_eq, not_true_eq_false, not_false_eq_true] at h45; done)
                | (simp (disch := omega) only [← nI_0, nI_leI, nI_ltI, nI_eq, not_true_eq_false, not_false_eq_true] at h45; omega)
                | contradiction
                | exact absurd h45 (Int32.not_lt.mpr (by assumption))
                | exact absurd h45 (Int32.not_le.mpr (by assumption))
                | exact absurd h45 (by decide)
                | exact absurd (by decide) h45
                | ( try simp (disch := omega) only [← nI_0, nI_leI, nI_ltI, nI_eq, not_true_eq_false, not_false_eq_true] at h45
                    (try have h45b := zbit_n0.mp h45); (try have h45b := zbit_p0.mp h45)
                    refine z_aload_0 d_Mo_strike_48 ?_
                    refine z_bipush (a := nI 7) d_Mo_strike_49 (by decide) ?_
                    refine z_Vi1 d_Mo_strike_51 k_Mo_327 (by first | assumption | exact zS0_at (by assumption) (by omega) | exact zS0_at rfl (by omega)) (t_Mo_refuse (by assumption)) ⟨Nat.le_of_ble_eq_true rfl, Nat.le_of_ble_eq_true rfl, Nat.le_of_ble_eq_true rfl, Nat.le_of_ble_eq_true rfl⟩ (Nat.le_of_ble_eq_true rfl) ?_
                    intro r w hq
                    obtain ⟨rfl, rfl⟩ := hq
                    refine z_reti d_Mo_strike_54 ?_
                    exact ⟨rfl, I1, hD, rfl⟩))
        · first
          | contradiction
          | ( skip
              refine z_if_ne (tgt := 33) d_Mo_strike_24 (by decide) (fun h => absurd h (by decide)) (fun _ => ?_)
              refine z_aload_0 d_Mo_strike_27 ?_
              refine z_iconst (a := nI 2) d_Mo_strike_28 (by decide) ?_
              refine z_Vi1 d_Mo_strike_29 k_Mo_327 (by first | assumption | exact zS0_at (by assumption) (by omega) | exact zS0_at rfl (by omega)) (t_Mo_refuse (by assumption)) ⟨Nat.le_of_ble_eq_true rfl, Nat.le_of_ble_eq_true rfl, Nat.le_of_ble_eq_true rfl, Nat.le_of_ble_eq_true rfl⟩ (Nat.le_of_ble_eq_true rfl) ?_
              intro r w hq
              obtain ⟨rfl, rfl⟩ := hq
              refine z_reti d_Mo_strike_32 ?_
              exact ⟨rfl, I1, hD, rfl⟩))
  · first
    | contradiction
    | ( skip
        refine z_if_eq (tgt := 27) d_Mo_strike_15 (by decide) (fun _ => ?_) (fun h => absurd h (by decide))
        refine z_aload_0 d_Mo_strike_27 ?_
        refine z_iconst (a := nI 2) d_Mo_strike_28 (by decide) ?_
        refine z_Vi1 d_Mo_strike_29 k_Mo_327 (by first | assumption | exact zS0_at (by assumption) (by omega) | exact zS0_at rfl (by omega)) (t_Mo_refuse (by assumption)) ⟨Nat.le_of_ble_eq_true rfl, Nat.le_of_ble_eq_true rfl, Nat.le_of_ble_eq_true rfl, Nat.le_of_ble_eq_true rfl⟩ (Nat.le_of_ble_eq_true rfl) ?_
        intro r w hq
        obtain ⟨rfl, rfl⟩ := hq
        refine z_reti d_Mo_strike_32 ?_
        exact ⟨rfl, I1, hD, rfl⟩)
theorem t_Tf_strike_1 {p k : Nat} (Z : clOk f d P S) (N : fenIn I f nt np nl nn) (hk : k < nt) (hp : p < np) (hn : nn < 9) : zEi G y_Tf_strike prog_1_method_22_code 4 (some .int) 3 [.ref 0, .int (nI k), .int (nI p), .int (nI 1)] (I, J, P, S) (fun r w => r = nI nn ∧ w = (zu (zu (zu (s_addTin I f nn (nI k) (nI p)) f 6 (I f 6 ||| (nI 1 <<< (nI nn &&& 31)))) f 4 (nI (nn + 1))) 0 0 (nI 0), zu J (f + 11) nn (lN 0), P, S)) := by
  obtain ⟨⟨c0, c3, c1s⟩, ⟨c5, c2s, ctr⟩, ⟨c6, c11s, c11, c13s⟩, ⟨c7, c15s, c15⟩, ⟨c8, c16s, c16a, c16b, c17s⟩, ⟨c9, c10, cfd, F, Fd⟩, ⟨c11b, Ft⟩, ⟨c12, c69s, cmk⟩, ⟨c14, c121s, c121, c122s⟩, ⟨c15b, c123s, c123, c124s⟩, ⟨c16, c125s, c125, c126s⟩, ⟨c17, c127s, c127, c128s, ctb⟩, ⟨c18, c139s, c139, c140s⟩, ⟨c19, c141s, ⟨c141a, c142s⟩, ⟨c141b, c143s⟩, ⟨c141c, c144s⟩⟩, M⟩ := id Z
  obtain ⟨F0, ⟨F8, F8s⟩, ⟨F9, F9s⟩, ⟨F10, F10s⟩, ⟨F11, F11s⟩, ⟨F12, F12s⟩, ⟨F13, F13s⟩, ⟨F14, F14s⟩, ⟨F15, F15s⟩, ⟨F16, F16s⟩, ⟨F17, F17s⟩, ⟨F18, F18s⟩, ⟨F19, F19s⟩, ⟨Y3, Y3s⟩, ⟨Y4, Y4s⟩, ⟨Y5, Y5s⟩, ⟨Y6, Y6s⟩⟩ := id F
  obtain ⟨⟨n1, n1b⟩, ⟨n2, n2b⟩, ⟨n3, n3b⟩, ⟨n4, n4b⟩, nof, non⟩ := id N
  have hzk : zin (nI k) nt := ⟨k, by omega, rfl⟩
  have hzp : zin (nI p) np := ⟨p, by omega, rfl⟩
  refine zEi_of (lv := [some (.ref 0), some (.int (nI k)), some (.int (nI p)), some (.int (nI 1))]) (by decide) rfl (Nat.le_of_ble_eq_true rfl) ?_
  refine z_aload_0 d_Tf_strike_0 ?_
  refine z_iload_1 d_Tf_strike_1 ?_
  refine z_Vi1 d_Tf_strike_2 k_Tf_227 (by first | assumption | exact zS0_at (by assumption) (by omega) | exact zS0_at rfl (by omega)) (t_Tf_noTrait Z N) ⟨Nat.le_of_ble_eq_true rfl, Nat.le_of_ble_eq_true rfl, Nat.le_of_ble_eq_true rfl, Nat.le_of_ble_eq_true rfl⟩ (Nat.le_of_ble_eq_true rfl) ?_
  intro r w hq
  rcases hq with ⟨⟨hz2, rfl⟩ | ⟨hz2, rfl⟩, rfl⟩
  · first
    | contradiction
    | ( skip
        refine z_if_ne (tgt := 16) d_Tf_strike_5 (by decide) (fun _ => ?_) (fun h => absurd h (by decide))
        refine z_aload_0 d_Tf_strike_16 ?_
        refine z_iconst (a := nI 2) d_Tf_strike_17 (by decide) ?_
        refine z_Vi1 d_Tf_strike_18 k_Tf_138 (by first | assumption | exact zS0_at (by assumption) (by omega) | exact zS0_at rfl (by omega)) (t_Tf_fail (by assumption)) ⟨Nat.le_of_ble_eq_true rfl, Nat.le_of_ble_eq_true rfl, Nat.le_of_ble_eq_true rfl, Nat.le_of_ble_eq_true rfl⟩ (Nat.le_of_ble_eq_true rfl) ?_
        intro r w hq
        obtain ⟨rfl, rfl⟩ := hq
        refine z_reti d_Tf_strike_21 ?_
        exact ⟨rfl, rfl⟩)
  · first
    | contradiction
    | ( skip
        refine z_if_ne (tgt := 16) d_Tf_strike_5 (by decide) (fun h => absurd h (by decide)) (fun _ => ?_)
        refine z_aload_0 d_Tf_strike_8 ?_
        refine z_iload_2 d_Tf_strike_9 ?_
        refine z_Vi1 d_Tf_strike_10 k_Tf_234 (by first | assumption | exact zS0_at (by assumption) (by omega) | exact zS0_at rfl (by omega)) (t_Tf_noPerson Z N) ⟨Nat.le_of_ble_eq_true rfl, Nat.le_of_ble_eq_true rfl, Nat.le_of_ble_eq_true rfl, Nat.le_of_ble_eq_true rfl⟩ (Nat.le_of_ble_eq_true rfl) ?_
        intro r w hq
        rcases hq with ⟨⟨hz10, rfl⟩ | ⟨hz10, rfl⟩, rfl⟩
        · first
          | contradiction
          | ( skip
              refine z_if_eq (tgt := 22) d_Tf_strike_13 (by decide) (fun h => absurd h (by decide)) (fun _ => ?_)
              refine z_aload_0 d_Tf_strike_16 ?_
              refine z_iconst (a := nI 2) d_Tf_strike_17 (by decide) ?_
              refine z_Vi1 d_Tf_strike_18 k_Tf_138 (by first | assumption | exact zS0_at (by assumption) (by omega) | exact zS0_at rfl (by omega)) (t_Tf_fail (by assumption)) ⟨Nat.le_of_ble_eq_true rfl, Nat.le_of_ble_eq_true rfl, Nat.le_of_ble_eq_true rfl, Nat.le_of_ble_eq_true rfl⟩ (Nat.le_of_ble_eq_true rfl) ?_
              intro r w hq
              obtain ⟨rfl, rfl⟩ := hq
              refine z_reti d_Tf_strike_21 ?_
              exact ⟨rfl, rfl⟩)
        · first
          | contradiction
          | ( skip
              refine z_if_eq (tgt := 22) d_Tf_strike_13 (by decide) (fun _ => ?_) (fun h => absurd h (by decide))
              refine z_aload_0 d_Tf_strike_22 ?_
              refine z_getR d_Tf_strike_23 f_Tf_60 (by first | assumption | exact zS0_at (by assumption) (by omega) | exact zS0_at rfl (by omega)) (by first | assumption | exact zS0_at (by assumption) (by omega) | exact zS0_at rfl (by omega)) ?_
              refine z_getIv d_Tf_strike_26 f_Tf_171 (by first | assumption | exact zS0_at (by assumption) (by omega) | exact zS0_at rfl (by omega)) (by first | assumption | ((try simp (disch := omega) only [zu_same, zu_ne, zcp_ne, zfl_ne]); first | assumption | rfl)) ?_
              refine z_bipush (a := nI 9) d_Tf_strike_29 (by decide) ?_
              refine z_icmp_lt (tgt := 41) d_Tf_strike_31 (by decide) (fun h31 => ?_) (fun h31 => ?_)
              · first
                | (simp (disch := omega) only [← nI_0, nI_leI, nI_ltI, nI_eq, not_true_eq_false, not_false_eq_true] at h31; done)
                | (simp (disch := omega) only [← nI_0, nI_leI, nI_ltI, nI_eq, not_true_eq_false, not_false_eq_true] at h31; omega)
                | contradiction
                | exact absurd h31 (Int32.not_lt.mpr (by assumption))
                | exact absurd h31 (Int32.not_le.mpr (by assumption))
                | exact absurd h31 (by decide)
                | exact absurd (by decide) h31
                | ( try simp (disch := omega) only [← nI_0, nI_leI, nI_ltI, nI_eq, not_true_eq_false, not_false_eq_true] at h31
                    (try have h31b := zbit_n0.mp h31); (try have h31b := zbit_p0.mp h31)
                    refine z_aload_0 d_Tf_strike_41 ?_
                    refine z_getR d_Tf_strike_42 f_Tf_60 (by first | assumption | exact zS0_at (by assumption) (by omega) | exact zS0_at rfl (by omega)) (by first | assumption | exact zS0_at (by assumption) (by omega) | exact zS0_at rfl (by omega)) ?_
                    refine z_lconst (f := lN 0) d_Tf_strike_45 rfl ?_
                    refine z_iload_1 d_Tf_strike_46 ?_
                    refine z_iload_2 d_Tf_strike_47 ?_
                    refine z_iload_3 d_Tf_strike_48 ?_
                    refine z_Vv4 d_Tf_strike_49 k_Tf_291 (by first | assumption | exact zS0_at (by assumption) (by omega) | exact zS0_at rfl (by omega)) (t_Fen_addTin1 F n4 hn) ⟨Nat.le_of_ble_eq_true rfl, Nat.le_of_ble_eq_true rfl, Nat.le_of_ble_eq_true rfl, Nat.le_of_ble_eq_true rfl⟩ (Nat.le_of_ble_eq_true rfl) ?_
                    intro w hq
                    obtain rfl := hq
                    refine z_aload_0 d_Tf_strike_52 ?_
                    refine z_aload_0 d_Tf_strike_53 ?_
                    refine z_getR d_Tf_strike_54 f_Tf_60 (by first | assumption | exact zS0_at (by assumption) (by omega) | exact zS0_at rfl (by omega)) (by first | assumption | exact zS0_at (by assumption) (by omega) | exact zS0_at rfl (by omega)) ?_
                    refine z_getIv d_Tf_strike_57 f_Tf_171 (by first | assumption | exact zS0_at (by assumption) (by omega) | exact zS0_at rfl (by omega)) (by first | assumption | ((try simp (disch := omega) only [zu_same, zu_ne, zcp_ne, zfl_ne]); first | assumption | rfl)) ?_
                    refine z_iconst (a := nI 1) d_Tf_strike_60 (by decide) ?_
                    first | refine z_isubN d_Tf_strike_61 (by omega) ?_ | refine z_isub d_Tf_strike_61 ?_
                    refine z_Vi1 d_Tf_strike_62 k_Tf_174 (by first | assumption | exact zS0_at (by assumption) (by omega) | exact zS0_at rfl (by omega)) (t_Tf_give (by assumption)) ⟨Nat.le_of_ble_eq_true rfl, Nat.le_of_ble_eq_true rfl, Nat.le_of_ble_eq_true rfl, Nat.le_of_ble_eq_true rfl⟩ (Nat.le_of_ble_eq_true rfl) ?_
                    intro r w hq
                    obtain ⟨rfl, rfl⟩ := hq
                    refine z_reti d_Tf_strike_65 ?_
                    exact ⟨rfl, rfl⟩)
              · first
                | (simp (disch := omega) only [← nI_0, nI_leI, nI_ltI, nI_eq, not_true_eq_false, not_false_eq_true] at h31; done)
                | (simp (disch := omega) only [← nI_0, nI_leI, nI_ltI, nI_eq, not_true_eq_false, not_false_eq_true] at h31; omega)
                | contradiction
                | exact absurd h31 (Int32.not_lt.mpr (by assumption))
                | exact absurd h31 (Int32.not_le.mpr (by assumption))
                | exact absurd h31 (by decide)
                | exact absurd (by decide) h31
                | ( try simp (disch := omega) only [← nI_0, nI_leI, nI_ltI, nI_eq, not_true_eq_false, not_false_eq_true] at h31
                    (try have h31b := zbit_n0.mp h31); (try have h31b := zbit_p0.mp h31)
                    refine z_aload_0 d_Tf_strike_34 ?_
                    refine z_bipush (a := nI 7) d_Tf_strike_35 (by decide) ?_
                    refine z_Vi1 d_Tf_strike_37 k_Tf_138 (by first | assumption | exact zS0_at (by assumption) (by omega) | exact zS0_at rfl (by omega)) (t_Tf_fail (by assumption)) ⟨Nat.le_of_ble_eq_true rfl, Nat.le_of_ble_eq_true rfl, Nat.le_of_ble_eq_true rfl, Nat.le_of_ble_eq_true rfl⟩ (Nat.le_of_ble_eq_true rfl) ?_
                    intro r w hq
                    obtain ⟨rfl, rfl⟩ := hq
                    refine z_reti d_Tf_strike_40 ?_
                    exact ⟨rfl, rfl⟩)))
theorem t_Mo_strike_1 {p k : Nat} (M : modOk P S) (N : modIn I nt np nl nn) (hk : k < nt) (hp : p < np) (hn : nn < 9) : zEi G y_Mo_strike prog_14_method_96_code 5 (some .int) 4 [.ref 145, .int (nI k), .int (nI p), .int (nI 1)] (I, J, P, S) (fun r w => r = nI nn ∧ ∃ I1, mD I I1 ∧ w = (m_strikes I1 0 nn (nI k) (nI p) (nI 1), zu J 152 (13 + nn) (lN 0), P, S)) := by
  obtain ⟨M0, ⟨M4, M4s⟩, ⟨M5, M5s⟩, ⟨M6, M6s⟩, ⟨M7, M7s⟩, ⟨M20, M20s⟩, ⟨M21, M21s⟩, ⟨M22, M22s⟩, ⟨M26, M26s⟩, ⟨M27, M27s⟩, ⟨M28, M28s⟩, ⟨M30, M30s⟩, ⟨M34, M34s⟩, ⟨M36, M36s⟩, ⟨M37, M37s⟩⟩ := id M
  obtain ⟨I1, hI1, N1, h1, h0, e150, er, ek⟩ := mo_beg N
  obtain ⟨⟨m0, m0b⟩, ⟨m1, m1b⟩, ⟨m2, m2b⟩, ⟨m3, m3b⟩, mof, mon⟩ := id N1
  have hD : mD I I1 := ⟨h1, h0, e150, er⟩
  refine zEi_of (lv := [some (.ref 145), some (.int (nI k)), some (.int (nI p)), some (.int (nI 1)), none]) (by decide) rfl (Nat.le_of_ble_eq_true rfl) ?_
  refine z_aload_0 d_Mo_strike_0 ?_
  refine z_iconst (a := nI 0) d_Mo_strike_1 (by decide) ?_
  refine z_putI d_Mo_strike_2 f_Mo_70 (by first | assumption | exact zS0_at (by assumption) (by omega) | exact zS0_at rfl (by omega)) ?_
  refine z_aload_0 d_Mo_strike_5 ?_
  refine z_iconst (a := nI 0) d_Mo_strike_6 (by decide) ?_
  refine z_putI d_Mo_strike_7 f_Mo_73 (by first | assumption | exact zS0_at (by assumption) (by omega) | exact zS0_at rfl (by omega)) ?_
  rw [← hI1]
  have hzk : zin (nI k) nt := ⟨k, by omega, rfl⟩
  have hzp : zin (nI p) np := ⟨p, by omega, rfl⟩
  have hn2 : ¬ nI nn = nI 9 := fun h => by have := (nI_eq (by omega) (by omega)).mp h; omega
  refine z_aload_0 d_Mo_strike_10 ?_
  refine z_iload_1 d_Mo_strike_11 ?_
  refine z_Vi1 d_Mo_strike_12 k_Mo_333 (by first | assumption | exact zS0_at (by assumption) (by omega) | exact zS0_at rfl (by omega)) (t_Mo_isTraitAt M N1) ⟨Nat.le_of_ble_eq_true rfl, Nat.le_of_ble_eq_true rfl, Nat.le_of_ble_eq_true rfl, Nat.le_of_ble_eq_true rfl⟩ (Nat.le_of_ble_eq_true rfl) ?_
  intro r w hq
  rcases hq with ⟨⟨hz12, rfl⟩ | ⟨hz12, rfl⟩, rfl⟩
  · first
    | contradiction
    | ( skip
        refine z_if_eq (tgt := 27) d_Mo_strike_15 (by decide) (fun h => absurd h (by decide)) (fun _ => ?_)
        refine z_aload_0 d_Mo_strike_18 ?_
        refine z_iload_2 d_Mo_strike_19 ?_
        refine z_i2l d_Mo_strike_20 ?_
        refine z_Vi1 d_Mo_strike_21 k_Mo_336 (by first | assumption | exact zS0_at (by assumption) (by omega) | exact zS0_at rfl (by omega)) (t_Mo_isPersonAtI M N1) ⟨Nat.le_of_ble_eq_true rfl, Nat.le_of_ble_eq_true rfl, Nat.le_of_ble_eq_true rfl, Nat.le_of_ble_eq_true rfl⟩ (Nat.le_of_ble_eq_true rfl) ?_
        intro r w hq
        rcases hq with ⟨⟨hz21, rfl⟩ | ⟨hz21, rfl⟩, rfl⟩
        · first
          | contradiction
          | ( skip
              refine z_if_ne (tgt := 33) d_Mo_strike_24 (by decide) (fun _ => ?_) (fun h => absurd h (by decide))
              refine z_aload_0 d_Mo_strike_33 ?_
              refine z_getR d_Mo_strike_34 f_Mo_35 (by first | assumption | exact zS0_at (by assumption) (by omega) | exact zS0_at rfl (by omega)) (by first | assumption | exact zS0_at (by assumption) (by omega) | exact zS0_at rfl (by omega)) ?_
              refine z_iconst (a := nI 3) d_Mo_strike_37 (by decide) ?_
              first | refine z_ialdNv d_Mo_strike_38 (by first | assumption | exact zS0_at (by assumption) (by omega) | exact zS0_at rfl (by omega)) (by omega) (by first | decide | omega) (by first | assumption | ((try simp (disch := omega) only [zu_same, zu_ne, zcp_ne, zfl_ne]); first | assumption | rfl)) ?_ | refine z_iald d_Mo_strike_38 (by first | assumption | exact zS0_at (by assumption) (by omega) | exact zS0_at rfl (by omega)) (by first | assumption | exact zS0_at (by assumption) (by omega) | exact zS0_at rfl (by omega)) ?_
              first | refine z_istore_4 d_Mo_strike_39 rfl ?_ | (refine z_forget_3 ?_; refine z_istore_4 d_Mo_strike_39 rfl ?_)
              refine z_iload_4 d_Mo_strike_41 ?_
              refine z_bipush (a := nI 9) d_Mo_strike_43 (by decide) ?_
              refine z_icmp_ne (tgt := 55) d_Mo_strike_45 (by decide) (fun h45 => ?_) (fun h45 => ?_)
              · first
                | (simp (disch := omega) only [← nI_0, nI_leI, nI_ltI, nI_eq, not_true_eq_false, not_false_eq_true] at h45; done)
                | (simp (disch := omega) only [← nI_0, nI_leI, nI_ltI, nI_eq, not_true_eq_false, not_false_eq_true] at h45; omega)
                | contradiction
                | exact absurd h45 (Int32.not_lt.mpr (by assumption))
                | exact absurd h45 (Int32.not_le.mpr (by assumption))
                | exact absurd h45 (by decide)
                | exact absurd (by decide) h45
                | ( try simp (disch := omega) only [← nI_0, nI_leI, nI_ltI, nI_eq, not_true_eq_false, not_false_eq_true] at h45
                    (try have h45b := zbit_n0.mp h45); (try have h45b := zbit_p0.mp h45)
                    refine z_aload_0 d_Mo_strike_55 ?_
                    refine z_getR d_Mo_strike_56 f_Mo_41 (by first | assumption | exact zS0_at (by assumption) (by omega) | exact zS0_at rfl (by omega)) (by first | assumption | exact zS0_at (by assumption) (by omega) | exact zS0_at rfl (by omega)) ?_
                    refine z_iconst (a := nI 3) d_Mo_strike_59 (by decide) ?_
                    refine z_Si1 d_Mo_strike_60 k_Mo_224 (t_Mo_namesFrom (off := 13) (Or.inr (Or.inr ⟨rfl, rfl⟩))) ⟨Nat.le_of_ble_eq_true rfl, Nat.le_of_ble_eq_true rfl, Nat.le_of_ble_eq_true rfl, Nat.le_of_ble_eq_true rfl⟩ (Nat.le_of_ble_eq_true rfl) ?_
                    intro r w hq
                    obtain ⟨rfl, rfl⟩ := hq
                    refine z_iload_4 d_Mo_strike_63 ?_
                    first | refine z_iaddN d_Mo_strike_65 ?_ | refine z_iadd d_Mo_strike_65 ?_
                    refine z_lconst (f := lN 0) d_Mo_strike_66 rfl ?_
                    first | refine z_lastN d_Mo_strike_67 (by first | assumption | exact zS0_at (by assumption) (by omega) | exact zS0_at rfl (by omega)) (by omega) (by first | decide | omega) ?_ | refine z_last d_Mo_strike_67 (by first | assumption | exact zS0_at (by assumption) (by omega) | exact zS0_at rfl (by omega)) (by first | assumption | exact zS0_at (by assumption) (by omega) | exact zS0_at rfl (by omega)) ?_
                    refine z_aload_0 d_Mo_strike_68 ?_
                    refine z_iconst (a := nI 0) d_Mo_strike_69 (by decide) ?_
                    refine z_iload_4 d_Mo_strike_70 ?_
                    refine z_iload_1 d_Mo_strike_72 ?_
                    refine z_iload_2 d_Mo_strike_73 ?_
                    refine z_iload_3 d_Mo_strike_74 ?_
                    refine z_if_eq (tgt := 82) d_Mo_strike_75 (by decide) (fun h75 => ?_) (fun h75 => ?_)
                    · first
                      | (simp (disch := omega) only [← nI_0, nI_leI, nI_ltI, nI_eq, not_true_eq_false, not_false_eq_true] at h75; done)
                      | (simp (disch := omega) only [← nI_0, nI_leI, nI_ltI, nI_eq, not_true_eq_false, not_false_eq_true] at h75; omega)
                      | contradiction
                      | exact absurd h75 (Int32.not_lt.mpr (by assumption))
                      | exact absurd h75 (Int32.not_le.mpr (by assumption))
                      | exact absurd h75 (by decide)
                      | exact absurd (by decide) h75
                      | ( try simp (disch := omega) only [← nI_0, nI_leI, nI_ltI, nI_eq, not_true_eq_false, not_false_eq_true] at h75
                          (try have h75b := zbit_n0.mp h75); (try have h75b := zbit_p0.mp h75)
                          refine z_iconst (a := nI 0) d_Mo_strike_82 (by decide) ?_
                          refine z_Vv5 d_Mo_strike_83 k_Mo_264 (by first | assumption | exact zS0_at (by assumption) (by omega) | exact zS0_at rfl (by omega)) (t_Mo_strikes (c := 0) M (by decide) hn) ⟨Nat.le_of_ble_eq_true rfl, Nat.le_of_ble_eq_true rfl, Nat.le_of_ble_eq_true rfl, Nat.le_of_ble_eq_true rfl⟩ (Nat.le_of_ble_eq_true rfl) ?_
                          intro w hq
                          obtain rfl := hq
                          refine z_iload_4 d_Mo_strike_86 ?_
                          refine z_reti d_Mo_strike_88 ?_
                          exact ⟨rfl, I1, hD, rfl⟩)
                    · first
                      | (simp (disch := omega) only [← nI_0, nI_leI, nI_ltI, nI_eq, not_true_eq_false, not_false_eq_true] at h75; done)
                      | (simp (disch := omega) only [← nI_0, nI_leI, nI_ltI, nI_eq, not_true_eq_false, not_false_eq_true] at h75; omega)
                      | contradiction
                      | exact absurd h75 (Int32.not_lt.mpr (by assumption))
                      | exact absurd h75 (Int32.not_le.mpr (by assumption))
                      | exact absurd h75 (by decide)
                      | exact absurd (by decide) h75
                      | ( try simp (disch := omega) only [← nI_0, nI_leI, nI_ltI, nI_eq, not_true_eq_false, not_false_eq_true] at h75
                          (try have h75b := zbit_n0.mp h75); (try have h75b := zbit_p0.mp h75)
                          refine z_iconst (a := nI 1) d_Mo_strike_78 (by decide) ?_
                          refine z_goto (tgt := 83) d_Mo_strike_79 (by decide) ?_
                          refine z_Vv5 d_Mo_strike_83 k_Mo_264 (by first | assumption | exact zS0_at (by assumption) (by omega) | exact zS0_at rfl (by omega)) (t_Mo_strikes (c := 0) M (by decide) hn) ⟨Nat.le_of_ble_eq_true rfl, Nat.le_of_ble_eq_true rfl, Nat.le_of_ble_eq_true rfl, Nat.le_of_ble_eq_true rfl⟩ (Nat.le_of_ble_eq_true rfl) ?_
                          intro w hq
                          obtain rfl := hq
                          refine z_iload_4 d_Mo_strike_86 ?_
                          refine z_reti d_Mo_strike_88 ?_
                          exact ⟨rfl, I1, hD, rfl⟩))
              · first
                | (simp (disch := omega) only [← nI_0, nI_leI, nI_ltI, nI_eq, not_true_eq_false, not_false_eq_true] at h45; done)
                | (simp (disch := omega) only [← nI_0, nI_leI, nI_ltI, nI_eq, not_true_eq_false, not_false_eq_true] at h45; omega)
                | contradiction
                | exact absurd h45 (Int32.not_lt.mpr (by assumption))
                | exact absurd h45 (Int32.not_le.mpr (by assumption))
                | exact absurd h45 (by decide)
                | exact absurd (by decide) h45
                | ( try simp (disch := omega) only [← nI_0, nI_leI, nI_ltI, nI_eq, not_true_eq_false, not_false_eq_true] at h45
                    (try have h45b := zbit_n0.mp h45); (try have h45b := zbit_p0.mp h45)
                    refine z_aload_0 d_Mo_strike_48 ?_
                    refine z_bipush (a := nI 7) d_Mo_strike_49 (by decide) ?_
                    refine z_Vi1 d_Mo_strike_51 k_Mo_327 (by first | assumption | exact zS0_at (by assumption) (by omega) | exact zS0_at rfl (by omega)) (t_Mo_refuse (by assumption)) ⟨Nat.le_of_ble_eq_true rfl, Nat.le_of_ble_eq_true rfl, Nat.le_of_ble_eq_true rfl, Nat.le_of_ble_eq_true rfl⟩ (Nat.le_of_ble_eq_true rfl) ?_
                    intro r w hq
                    obtain ⟨rfl, rfl⟩ := hq
                    refine z_reti d_Mo_strike_54 ?_
                    exact ⟨rfl, I1, hD, rfl⟩))
        · first
          | contradiction
          | ( skip
              refine z_if_ne (tgt := 33) d_Mo_strike_24 (by decide) (fun h => absurd h (by decide)) (fun _ => ?_)
              refine z_aload_0 d_Mo_strike_27 ?_
              refine z_iconst (a := nI 2) d_Mo_strike_28 (by decide) ?_
              refine z_Vi1 d_Mo_strike_29 k_Mo_327 (by first | assumption | exact zS0_at (by assumption) (by omega) | exact zS0_at rfl (by omega)) (t_Mo_refuse (by assumption)) ⟨Nat.le_of_ble_eq_true rfl, Nat.le_of_ble_eq_true rfl, Nat.le_of_ble_eq_true rfl, Nat.le_of_ble_eq_true rfl⟩ (Nat.le_of_ble_eq_true rfl) ?_
              intro r w hq
              obtain ⟨rfl, rfl⟩ := hq
              refine z_reti d_Mo_strike_32 ?_
              exact ⟨rfl, I1, hD, rfl⟩))
  · first
    | contradiction
    | ( skip
        refine z_if_eq (tgt := 27) d_Mo_strike_15 (by decide) (fun _ => ?_) (fun h => absurd h (by decide))
        refine z_aload_0 d_Mo_strike_27 ?_
        refine z_iconst (a := nI 2) d_Mo_strike_28 (by decide) ?_
        refine z_Vi1 d_Mo_strike_29 k_Mo_327 (by first | assumption | exact zS0_at (by assumption) (by omega) | exact zS0_at rfl (by omega)) (t_Mo_refuse (by assumption)) ⟨Nat.le_of_ble_eq_true rfl, Nat.le_of_ble_eq_true rfl, Nat.le_of_ble_eq_true rfl, Nat.le_of_ble_eq_true rfl⟩ (Nat.le_of_ble_eq_true rfl) ?_
        intro r w hq
        obtain ⟨rfl, rfl⟩ := hq
        refine z_reti d_Mo_strike_32 ?_
        exact ⟨rfl, I1, hD, rfl⟩)
theorem L_strike {j : Nat} (h : zInv n w) (hj : j = 0 ∨ j = 1) : zEi G y_Tf_strike prog_1_method_22_code 4 (some .int) 3 [.ref 0, .int a, .int b, .int (nI j)] w (fun r w1 => w1.2.2.2 = w.2.2.2 ∧ zEi G y_Mo_strike prog_14_method_96_code 5 (some .int) 4 [.ref 145, .int a, .int b, .int (nI j)] w1 (fun r' w2 => r' = r ∧ zInv (n + 1) w2)) := by
  obtain ⟨f, d, nt, np, nl, nn, fed, mk, I, J, P, S, rfl, Z, X⟩ := h
  have M := clOk_M Z
  have hf := clOk_f Z
  have N := stR_fen X
  have N0 := stR_mod X
  have fm := stR_fm X
  obtain ⟨⟨⟨a1, r1, b1⟩, ⟨a2, r2, b2⟩, ⟨a3, r3, b3⟩, ⟨a4, r4, b4⟩⟩, ⟨⟨o, ob, ao, ro⟩, r5⟩, fw, fp, ft, fz⟩ := id fm
  by_cases ha : zin a nt
  rotate_left
  · exact L_q Z X (t_Tf_strike_o Z N (Or.inl ha)) (fun I' J' e _ => ⟨_, rfl, t_Mo_strike_o M (modIn_c N0 (e 150 (by decide))) (Or.inl ha)⟩)
  by_cases hb : zin b np
  rotate_left
  · exact L_q Z X (t_Tf_strike_o Z N (Or.inr hb)) (fun I' J' e _ => ⟨_, rfl, t_Mo_strike_o M (modIn_c N0 (e 150 (by decide))) (Or.inr hb)⟩)
  obtain ⟨k, hk, rfl⟩ := ha
  obtain ⟨p, hp, rfl⟩ := hb
  by_cases hn : nn = 9
  · exact L_q Z X (t_Tf_strike_f Z N hk hp hn) (fun I' J' e _ => ⟨_, rfl, t_Mo_strike_f M (modIn_c N0 (e 150 (by decide))) hk hp hn⟩)
  have hn : nn < 9 := by omega
  have hs : ∀ a, ¬ (f ≤ a ∧ a ≤ f + 8) → s_addTin I f nn (nI k) (nI p) a = I a := fun a ha => by
    unfold s_addTin
    rw [zu_row _ _ _ _ (by omega), zu_row _ _ _ _ (by omega), zu_row _ _ _ _ (by omega), zu_row _ _ _ _ (by omega)]
  have hst : ∀ (I1 : Nat → Nat → Int32) (j : Nat) (a : Nat), a ≠ 150 → m_strikes I1 0 nn (nI k) (nI p) (nI j) a = I1 a := fun I1 j a ha => by
    unfold m_strikes
    rw [zu_row _ _ _ _ ha, zu_row _ _ _ _ ha, zu_row _ _ _ _ ha, zu_row _ _ _ _ ha, zu_row _ _ _ _ ha, zu_row _ _ _ _ ha, zu_row _ _ _ _ ha]
  have hst2 : ∀ (I1 : Nat → Nat → Int32) (j : Nat) (i : Nat), 87 ≤ i → m_strikes I1 0 nn (nI k) (nI p) (nI j) 150 i = I1 150 i := fun I1 j i hi => by
    unfold m_strikes
    rw [zu_ne _ _ _ _ (by omega), zu_ne _ _ _ _ (by omega), zu_ne _ _ _ _ (by omega), zu_ne _ _ _ _ (by omega), zu_ne _ _ _ _ (by omega), zu_ne _ _ _ _ (by omega), zu_ne _ _ _ _ (by omega)]
  have hj2 : jL f nn J (zu (zu J (f + 11) nn (lN 0)) 152 (13 + nn) (lN 0)) := ⟨fun a ha => by rw [zu_row _ _ _ _ (by omega), zu_row _ _ _ _ (by omega)], fun i hi => by rw [zu_ne _ _ _ _ (by omega), zu_ne _ _ _ _ (by omega)], fun i hi => by rw [zu_ne _ _ _ _ (by omega), zu_row _ _ _ _ (by omega)]⟩
  have hj3 : zu (zu J (f + 11) nn (lN 0)) 152 (13 + nn) (lN 0) 145 2 = zu (zu J (f + 11) nn (lN 0)) 152 (13 + nn) (lN 0) 0 1 ∧ zu (zu J (f + 11) nn (lN 0)) 152 (13 + nn) (lN 0) 145 3 = zu (zu J (f + 11) nn (lN 0)) 152 (13 + nn) (lN 0) 0 2 := by
    rw [zu_row _ _ _ _ (by decide), zu_row _ _ _ _ (by omega), zu_row _ _ _ _ (by decide), zu_row _ _ _ _ (by omega)]
    exact ⟨X.1.2.1, X.1.2.2⟩
  have hj4 : ∀ i, nn ≤ i → i < nn + 1 → zu (zu J (f + 11) nn (lN 0)) 152 (13 + nn) (lN 0) 152 (13 + i) = zu (zu J (f + 11) nn (lN 0)) 152 (13 + nn) (lN 0) (f + 11) i := fun i g1 g2 => by
    obtain rfl : i = nn := by omega
    rw [zu_same, zu_row _ _ _ _ (by omega), zu_same]
  rcases hj with rfl | rfl
  · have h150 : zu (zu (s_addTin I f nn (nI k) (nI p)) f 4 (nI (nn + 1))) 0 0 (nI 0) 150 = I 150 := by rw [zu_row _ _ _ _ (by decide), zu_row _ _ _ _ (by omega), hs 150 (by omega)]
    refine zEi_mono (t_Tf_strike_0 Z N hk hp hn) ?_
    rintro r w ⟨rfl, rfl⟩
    refine ⟨rfl, zEi_mono (t_Mo_strike_0 M (modIn_c N0 h150) hk hp hn) ?_⟩
    rintro r w ⟨rfl, I1, hD, rfl⟩
    refine ⟨rfl, L_fin (nl' := nl) (nn' := nn + 1) Z X (fun a ha => by rw [zu_row _ _ _ _ (by omega), hs a ha]) hD (fun a ha => hst _ _ a ha) (fun i hi => hst2 _ _ i hi) ?_ (Nat.le_succ _) (hj2) hj3 (hj4)⟩
    rw [sf_zu0, sf_addTin]; exact fmR_g (fmR_strike0 hn hk hp (by rw [hD.2.2.1, h150]; exact fm)) (by omega)
  · have h150 : zu (zu (zu (s_addTin I f nn (nI k) (nI p)) f 6 (I f 6 ||| (nI 1 <<< (nI nn &&& 31)))) f 4 (nI (nn + 1))) 0 0 (nI 0) 150 = I 150 := by rw [zu_row _ _ _ _ (by decide), zu_row _ _ _ _ (by omega), zu_row _ _ _ _ (by omega), hs 150 (by omega)]
    refine zEi_mono (t_Tf_strike_1 Z N hk hp hn) ?_
    rintro r w ⟨rfl, rfl⟩
    refine ⟨rfl, zEi_mono (t_Mo_strike_1 M (modIn_c N0 h150) hk hp hn) ?_⟩
    rintro r w ⟨rfl, I1, hD, rfl⟩
    refine ⟨rfl, L_fin (nl' := nl) (nn' := nn + 1) Z X (fun a ha => by rw [zu_row _ _ _ _ (by omega), zu_row _ _ _ _ (by omega), hs a ha]) hD (fun a ha => hst _ _ a ha) (fun i hi => hst2 _ _ i hi) ?_ (Nat.le_succ _) (hj2) hj3 (hj4)⟩
    rw [sf_zu0, sf_zu0, sf_addTin]; exact fmR_g (fmR_strike1 hn hk hp (by rw [hD.2.2.1, h150]; exact fm)) (by omega)
end OD1
