/-! game, moveOf: both sides, together -/
section GE0
variable {G : zG} {I I' I1 I2 I3 : Nat → Nat → Int32} {J J' J2 : Nat → Nat → Int64} {P : Nat → Nat → Option Nat} {S : List (Nat × Nat)} {f d dd nt np nl nn n fed mk t k p q s i mv ot one T e st : Nat} {a b c lo ax : Int32} {w : zW} {mt mt' tk tk' C C' : Nat → Int32} {g : Nat → Nat} {kk : Nat → Nat} {o : Option Nat}
theorem t_Tf_gs_o (Z : clOk f dd P S) (N : fenIn I f nt np nl nn) (h : ¬ zin a np ∨ ¬ zin b np) : zEi G y_Tf_gameStatus prog_1_method_67_code 4 (some .int) 2 [.ref 0, .int a, .int b, .int c] (I, J, P, S) (fun r w => r = nI 2 ∧ w = (I, J, P, S)) := by
  obtain ⟨⟨c0, c3, c1s⟩, ⟨c5, c2s, ctr⟩, ⟨c6, c11s, c11, c13s⟩, ⟨c7, c15s, c15⟩, ⟨c8, c16s, c16a, c16b, c17s⟩, ⟨c9, c10, cfd, F, Fd⟩, ⟨c11b, Ft⟩, ⟨c12, c69s, cmk⟩, ⟨c14, c121s, c121, c122s⟩, ⟨c15b, c123s, c123, c124s⟩, ⟨c16, c125s, c125, c126s⟩, ⟨c17, c127s, c127, c128s, ctb⟩, ⟨c18, c139s, c139, c140s⟩, ⟨c19, c141s, ⟨c141a, c142s⟩, ⟨c141b, c143s⟩, ⟨c141c, c144s⟩⟩, M⟩ := id Z
  refine zEi_of (lv := [some (.ref 0), some (.int a), some (.int b), some (.int c)]) (by decide) rfl (Nat.le_of_ble_eq_true rfl) ?_
  refine z_aload_0 d_Tf_gameStatus_0 ?_
  refine z_iload_1 d_Tf_gameStatus_1 ?_
  refine z_Vi1 d_Tf_gameStatus_2 k_Tf_234 (by first | assumption | exact zS0_at (by assumption) (by omega) | exact zS0_at rfl (by omega)) (t_Tf_noPerson Z N) ⟨Nat.le_of_ble_eq_true rfl, Nat.le_of_ble_eq_true rfl, Nat.le_of_ble_eq_true rfl, Nat.le_of_ble_eq_true rfl⟩ (Nat.le_of_ble_eq_true rfl) ?_
  intro r w hq
  rcases hq with ⟨⟨hz, rfl⟩ | ⟨hz, rfl⟩, rfl⟩
  · refine z_if_ne (tgt := 16) d_Tf_gameStatus_5 (by decide) (fun _ => ?_) (fun h => absurd h (by decide))
    refine z_iconst (a := nI 2) d_Tf_gameStatus_16 (by decide) ?_
    refine z_reti d_Tf_gameStatus_17 ?_
    exact ⟨rfl, rfl⟩
  · refine z_if_ne (tgt := 16) d_Tf_gameStatus_5 (by decide) (fun h => absurd (by decide) h) (fun _ => ?_)
    refine z_aload_0 d_Tf_gameStatus_8 ?_
    refine z_iload_2 d_Tf_gameStatus_9 ?_
    refine z_Vi1 d_Tf_gameStatus_10 k_Tf_234 (by first | assumption | exact zS0_at (by assumption) (by omega) | exact zS0_at rfl (by omega)) (t_Tf_noPerson Z N) ⟨Nat.le_of_ble_eq_true rfl, Nat.le_of_ble_eq_true rfl, Nat.le_of_ble_eq_true rfl, Nat.le_of_ble_eq_true rfl⟩ (Nat.le_of_ble_eq_true rfl) ?_
    intro r w hq
    rcases hq with ⟨⟨hz2, rfl⟩ | ⟨hz2, rfl⟩, rfl⟩
    · refine z_if_eq (tgt := 18) d_Tf_gameStatus_13 (by decide) (fun h => absurd h (by decide)) (fun _ => ?_)
      refine z_iconst (a := nI 2) d_Tf_gameStatus_16 (by decide) ?_
      refine z_reti d_Tf_gameStatus_17 ?_
      exact ⟨rfl, rfl⟩
    · rcases h with h | h
      · exact absurd hz h
      · exact absurd hz2 h
theorem t_Tf_gs_b (Z : clOk f dd P S) (N : fenIn I f nt np nl nn) (hp : p < np) (hq : q < np) (h : p = q ∨ c < 0 ∨ nI 3 < c) : zEi G y_Tf_gameStatus prog_1_method_67_code 4 (some .int) 2 [.ref 0, .int (nI p), .int (nI q), .int c] (I, J, P, S) (fun r w => r = nI 5 ∧ w = (I, J, P, S)) := by
  obtain ⟨⟨c0, c3, c1s⟩, ⟨c5, c2s, ctr⟩, ⟨c6, c11s, c11, c13s⟩, ⟨c7, c15s, c15⟩, ⟨c8, c16s, c16a, c16b, c17s⟩, ⟨c9, c10, cfd, F, Fd⟩, ⟨c11b, Ft⟩, ⟨c12, c69s, cmk⟩, ⟨c14, c121s, c121, c122s⟩, ⟨c15b, c123s, c123, c124s⟩, ⟨c16, c125s, c125, c126s⟩, ⟨c17, c127s, c127, c128s, ctb⟩, ⟨c18, c139s, c139, c140s⟩, ⟨c19, c141s, ⟨c141a, c142s⟩, ⟨c141b, c143s⟩, ⟨c141c, c144s⟩⟩, M⟩ := id Z
  obtain ⟨⟨n1, n1b⟩, ⟨n2, n2b⟩, ⟨n3, n3b⟩, ⟨n4, n4b⟩, nof, non⟩ := id N
  refine zEi_of (lv := [some (.ref 0), some (.int (nI p)), some (.int (nI q)), some (.int c)]) (by decide) rfl (Nat.le_of_ble_eq_true rfl) ?_
  refine z_aload_0 d_Tf_gameStatus_0 ?_
  refine z_iload_1 d_Tf_gameStatus_1 ?_
  refine z_Vi1 d_Tf_gameStatus_2 k_Tf_234 (by first | assumption | exact zS0_at (by assumption) (by omega) | exact zS0_at rfl (by omega)) (t_Tf_noPerson Z N) ⟨Nat.le_of_ble_eq_true rfl, Nat.le_of_ble_eq_true rfl, Nat.le_of_ble_eq_true rfl, Nat.le_of_ble_eq_true rfl⟩ (Nat.le_of_ble_eq_true rfl) ?_
  intro r w hq0
  rcases hq0 with ⟨⟨hz, rfl⟩ | ⟨hz, rfl⟩, rfl⟩
  · exact absurd ⟨p, hp, rfl⟩ hz
  · refine z_if_ne (tgt := 16) d_Tf_gameStatus_5 (by decide) (fun h => absurd (by decide) h) (fun _ => ?_)
    refine z_aload_0 d_Tf_gameStatus_8 ?_
    refine z_iload_2 d_Tf_gameStatus_9 ?_
    refine z_Vi1 d_Tf_gameStatus_10 k_Tf_234 (by first | assumption | exact zS0_at (by assumption) (by omega) | exact zS0_at rfl (by omega)) (t_Tf_noPerson Z N) ⟨Nat.le_of_ble_eq_true rfl, Nat.le_of_ble_eq_true rfl, Nat.le_of_ble_eq_true rfl, Nat.le_of_ble_eq_true rfl⟩ (Nat.le_of_ble_eq_true rfl) ?_
    intro r w hq0
    rcases hq0 with ⟨⟨hz2, rfl⟩ | ⟨hz2, rfl⟩, rfl⟩
    · exact absurd ⟨q, hq, rfl⟩ hz2
    · refine z_if_eq (tgt := 18) d_Tf_gameStatus_13 (by decide) (fun _ => ?_) (fun h => absurd (by decide) h)
      refine z_iload_1 d_Tf_gameStatus_18 ?_
      refine z_iload_2 d_Tf_gameStatus_19 ?_
      refine z_icmp_eq (tgt := 32) d_Tf_gameStatus_20 (by decide) (fun h1 => ?_) (fun h1 => ?_)
      · refine z_iconst (a := nI 5) d_Tf_gameStatus_32 (by decide) ?_
        refine z_goto (tgt := 37) d_Tf_gameStatus_33 (by decide) ?_
        refine z_reti d_Tf_gameStatus_37 ?_
        exact ⟨rfl, rfl⟩
      · refine z_iload_3 d_Tf_gameStatus_23 ?_
        refine z_if_lt (tgt := 32) d_Tf_gameStatus_24 (by decide) (fun h2 => ?_) (fun h2 => ?_)
        · refine z_iconst (a := nI 5) d_Tf_gameStatus_32 (by decide) ?_
          refine z_goto (tgt := 37) d_Tf_gameStatus_33 (by decide) ?_
          refine z_reti d_Tf_gameStatus_37 ?_
          exact ⟨rfl, rfl⟩
        · refine z_iload_3 d_Tf_gameStatus_27 ?_
          refine z_iconst (a := nI 3) d_Tf_gameStatus_28 (by decide) ?_
          refine z_icmp_le (tgt := 36) d_Tf_gameStatus_29 (by decide) (fun h3 => ?_) (fun h3 => ?_)
          · rcases h with h | h | h
            · exact absurd (by rw [h]) h1
            · exact absurd h h2
            · exact absurd h (Int32.not_lt.mpr h3)
          · refine z_iconst (a := nI 5) d_Tf_gameStatus_32 (by decide) ?_
            refine z_goto (tgt := 37) d_Tf_gameStatus_33 (by decide) ?_
            refine z_reti d_Tf_gameStatus_37 ?_
            exact ⟨rfl, rfl⟩
theorem t_Tf_gs (Z : clOk f dd P S) (N : fenIn I f nt np nl nn) (hp : p < np) (hq : q < np) (hne : p ≠ q) (hT : T ≤ 3) : zEi G y_Tf_gameStatus prog_1_method_67_code 4 (some .int) 2 [.ref 0, .int (nI p), .int (nI q), .int (nI T)] (I, J, P, S) (fun r w => r = nI 0 ∧ w = (I, J, P, S)) := by
  obtain ⟨⟨c0, c3, c1s⟩, ⟨c5, c2s, ctr⟩, ⟨c6, c11s, c11, c13s⟩, ⟨c7, c15s, c15⟩, ⟨c8, c16s, c16a, c16b, c17s⟩, ⟨c9, c10, cfd, F, Fd⟩, ⟨c11b, Ft⟩, ⟨c12, c69s, cmk⟩, ⟨c14, c121s, c121, c122s⟩, ⟨c15b, c123s, c123, c124s⟩, ⟨c16, c125s, c125, c126s⟩, ⟨c17, c127s, c127, c128s, ctb⟩, ⟨c18, c139s, c139, c140s⟩, ⟨c19, c141s, ⟨c141a, c142s⟩, ⟨c141b, c143s⟩, ⟨c141c, c144s⟩⟩, M⟩ := id Z
  obtain ⟨⟨n1, n1b⟩, ⟨n2, n2b⟩, ⟨n3, n3b⟩, ⟨n4, n4b⟩, nof, non⟩ := id N
  refine zEi_of (lv := [some (.ref 0), some (.int (nI p)), some (.int (nI q)), some (.int (nI T))]) (by decide) rfl (Nat.le_of_ble_eq_true rfl) ?_
  refine z_aload_0 d_Tf_gameStatus_0 ?_
  refine z_iload_1 d_Tf_gameStatus_1 ?_
  refine z_Vi1 d_Tf_gameStatus_2 k_Tf_234 (by first | assumption | exact zS0_at (by assumption) (by omega) | exact zS0_at rfl (by omega)) (t_Tf_noPerson Z N) ⟨Nat.le_of_ble_eq_true rfl, Nat.le_of_ble_eq_true rfl, Nat.le_of_ble_eq_true rfl, Nat.le_of_ble_eq_true rfl⟩ (Nat.le_of_ble_eq_true rfl) ?_
  intro r w hq0
  rcases hq0 with ⟨⟨hz, rfl⟩ | ⟨hz, rfl⟩, rfl⟩
  · exact absurd ⟨p, hp, rfl⟩ hz
  · refine z_if_ne (tgt := 16) d_Tf_gameStatus_5 (by decide) (fun h => absurd (by decide) h) (fun _ => ?_)
    refine z_aload_0 d_Tf_gameStatus_8 ?_
    refine z_iload_2 d_Tf_gameStatus_9 ?_
    refine z_Vi1 d_Tf_gameStatus_10 k_Tf_234 (by first | assumption | exact zS0_at (by assumption) (by omega) | exact zS0_at rfl (by omega)) (t_Tf_noPerson Z N) ⟨Nat.le_of_ble_eq_true rfl, Nat.le_of_ble_eq_true rfl, Nat.le_of_ble_eq_true rfl, Nat.le_of_ble_eq_true rfl⟩ (Nat.le_of_ble_eq_true rfl) ?_
    intro r w hq0
    rcases hq0 with ⟨⟨hz2, rfl⟩ | ⟨hz2, rfl⟩, rfl⟩
    · exact absurd ⟨q, hq, rfl⟩ hz2
    · refine z_if_eq (tgt := 18) d_Tf_gameStatus_13 (by decide) (fun _ => ?_) (fun h => absurd (by decide) h)
      refine z_iload_1 d_Tf_gameStatus_18 ?_
      refine z_iload_2 d_Tf_gameStatus_19 ?_
      refine z_icmp_eq (tgt := 32) d_Tf_gameStatus_20 (by decide) (fun h => absurd h (fun q0 => hne ((nI_eq (by omega) (by omega)).mp q0))) (fun _ => ?_)
      refine z_iload_3 d_Tf_gameStatus_23 ?_
      refine z_if_lt (tgt := 32) d_Tf_gameStatus_24 (by decide) (fun h => absurd h (nI_pos (by omega))) (fun _ => ?_)
      refine z_iload_3 d_Tf_gameStatus_27 ?_
      refine z_iconst (a := nI 3) d_Tf_gameStatus_28 (by decide) ?_
      refine z_icmp_le (tgt := 36) d_Tf_gameStatus_29 (by decide) (fun _ => ?_) (fun h => absurd (nI_le hT (by omega)) h)
      refine z_iconst (a := nI 0) d_Tf_gameStatus_36 (by decide) ?_
      refine z_reti d_Tf_gameStatus_37 ?_
      exact ⟨rfl, rfl⟩
theorem t_Tf_game_x (Z : clOk f dd P S) (hst : ¬ nI st = 0) (hS :  zEi G y_Tf_gameStatus prog_1_method_67_code 4 (some .int) 2 [.ref 0, .int a, .int b, .int c] (I, J, P, S) (fun r w => r = nI st ∧ w = (I, J, P, S))) : zEi G y_Tf_game prog_1_method_44_code 5 (some .int) 10 [.ref 0, .int a, .int b, .int c] (I, J, P, S) (fun r w => r = -1 ∧ cW I J P S st w) := by
  obtain ⟨⟨c0, c3, c1s⟩, ⟨c5, c2s, ctr⟩, ⟨c6, c11s, c11, c13s⟩, ⟨c7, c15s, c15⟩, ⟨c8, c16s, c16a, c16b, c17s⟩, ⟨c9, c10, cfd, F, Fd⟩, ⟨c11b, Ft⟩, ⟨c12, c69s, cmk⟩, ⟨c14, c121s, c121, c122s⟩, ⟨c15b, c123s, c123, c124s⟩, ⟨c16, c125s, c125, c126s⟩, ⟨c17, c127s, c127, c128s, ctb⟩, ⟨c18, c139s, c139, c140s⟩, ⟨c19, c141s, ⟨c141a, c142s⟩, ⟨c141b, c143s⟩, ⟨c141c, c144s⟩⟩, M⟩ := id Z
  refine zEi_of (lv := [some (.ref 0), some (.int a), some (.int b), some (.int c), none]) (by decide) rfl (Nat.le_of_ble_eq_true rfl) ?_
  refine z_aload_0 d_Tf_game_0 ?_
  refine z_iload_1 d_Tf_game_1 ?_
  refine z_iload_2 d_Tf_game_2 ?_
  refine z_iload_3 d_Tf_game_3 ?_
  refine z_Vi3 d_Tf_game_4 k_Tf_367 (by first | assumption | exact zS0_at (by assumption) (by omega) | exact zS0_at rfl (by omega)) (hS) ⟨Nat.le_of_ble_eq_true rfl, Nat.le_of_ble_eq_true rfl, Nat.le_of_ble_eq_true rfl, Nat.le_of_ble_eq_true rfl⟩ (Nat.le_of_ble_eq_true rfl) ?_
  intro r w hq
  obtain ⟨rfl, rfl⟩ := hq
  first | refine z_istore_4 d_Tf_game_7 rfl ?_ | (refine z_forget_3 ?_; refine z_istore_4 d_Tf_game_7 rfl ?_)
  refine z_iload_4 d_Tf_game_9 ?_
  refine z_if_eq (tgt := 23) d_Tf_game_11 (by decide) (fun h => absurd h hst) (fun _ => ?_)
  refine z_aload_0 d_Tf_game_14 ?_
  refine z_iload_4 d_Tf_game_15 ?_
  refine z_Vi1 d_Tf_game_17 k_Tf_138 (by first | assumption | exact zS0_at (by assumption) (by omega) | exact zS0_at rfl (by omega)) (t_Tf_fail c0) ⟨Nat.le_of_ble_eq_true rfl, Nat.le_of_ble_eq_true rfl, Nat.le_of_ble_eq_true rfl, Nat.le_of_ble_eq_true rfl⟩ (Nat.le_of_ble_eq_true rfl) ?_
  intro r w hq
  obtain ⟨rfl, rfl⟩ := hq
  refine z_goto (tgt := 41) d_Tf_game_20 (by decide) ?_
  refine z_reti d_Tf_game_41 ?_
  exact ⟨rfl, cW_0⟩
theorem t_Tf_moveOf_x (Z : clOk f dd P S) (hst : ¬ nI st = 0) (hS :  zEi G y_Tf_gameStatus prog_1_method_67_code 4 (some .int) 2 [.ref 0, .int a, .int b, .int c] (I, J, P, S) (fun r w => r = nI st ∧ w = (I, J, P, S))) : zEi G y_Tf_moveOf prog_1_method_45_code 6 (some .int) 10 [.ref 0, .int a, .int b, .int c, .int ax] (I, J, P, S) (fun r w => r = -1 ∧ cW I J P S st w) := by
  obtain ⟨⟨c0, c3, c1s⟩, ⟨c5, c2s, ctr⟩, ⟨c6, c11s, c11, c13s⟩, ⟨c7, c15s, c15⟩, ⟨c8, c16s, c16a, c16b, c17s⟩, ⟨c9, c10, cfd, F, Fd⟩, ⟨c11b, Ft⟩, ⟨c12, c69s, cmk⟩, ⟨c14, c121s, c121, c122s⟩, ⟨c15b, c123s, c123, c124s⟩, ⟨c16, c125s, c125, c126s⟩, ⟨c17, c127s, c127, c128s, ctb⟩, ⟨c18, c139s, c139, c140s⟩, ⟨c19, c141s, ⟨c141a, c142s⟩, ⟨c141b, c143s⟩, ⟨c141c, c144s⟩⟩, M⟩ := id Z
  refine zEi_of (lv := [some (.ref 0), some (.int a), some (.int b), some (.int c), some (.int ax), none]) (by decide) rfl (Nat.le_of_ble_eq_true rfl) ?_
  refine z_aload_0 d_Tf_moveOf_0 ?_
  refine z_iload_1 d_Tf_moveOf_1 ?_
  refine z_iload_2 d_Tf_moveOf_2 ?_
  refine z_iload_3 d_Tf_moveOf_3 ?_
  refine z_Vi3 d_Tf_moveOf_4 k_Tf_367 (by first | assumption | exact zS0_at (by assumption) (by omega) | exact zS0_at rfl (by omega)) (hS) ⟨Nat.le_of_ble_eq_true rfl, Nat.le_of_ble_eq_true rfl, Nat.le_of_ble_eq_true rfl, Nat.le_of_ble_eq_true rfl⟩ (Nat.le_of_ble_eq_true rfl) ?_
  intro r w hq
  obtain ⟨rfl, rfl⟩ := hq
  first | refine z_istore_5 d_Tf_moveOf_7 rfl ?_ | (refine z_forget_4 ?_; refine z_istore_5 d_Tf_moveOf_7 rfl ?_)
  refine z_iload_5 d_Tf_moveOf_9 ?_
  refine z_if_eq (tgt := 21) d_Tf_moveOf_11 (by decide) (fun h => absurd h hst) (fun _ => ?_)
  refine z_aload_0 d_Tf_moveOf_14 ?_
  refine z_iload_5 d_Tf_moveOf_15 ?_
  refine z_Vi1 d_Tf_moveOf_17 k_Tf_138 (by first | assumption | exact zS0_at (by assumption) (by omega) | exact zS0_at rfl (by omega)) (t_Tf_fail c0) ⟨Nat.le_of_ble_eq_true rfl, Nat.le_of_ble_eq_true rfl, Nat.le_of_ble_eq_true rfl, Nat.le_of_ble_eq_true rfl⟩ (Nat.le_of_ble_eq_true rfl) ?_
  intro r w hq
  obtain ⟨rfl, rfl⟩ := hq
  refine z_reti d_Tf_moveOf_20 ?_
  exact ⟨rfl, cW_0⟩
theorem t_Tf_moveOf_b (Z : clOk f dd P S) (hS :  zEi G y_Tf_gameStatus prog_1_method_67_code 4 (some .int) 2 [.ref 0, .int a, .int b, .int c] (I, J, P, S) (fun r w => r = nI 0 ∧ w = (I, J, P, S))) (h : c = 0 ∨ ax < 0 ∨ nI 1 < ax) : zEi G y_Tf_moveOf prog_1_method_45_code 6 (some .int) 10 [.ref 0, .int a, .int b, .int c, .int ax] (I, J, P, S) (fun r w => r = -1 ∧ cW I J P S 5 w) := by
  obtain ⟨⟨c0, c3, c1s⟩, ⟨c5, c2s, ctr⟩, ⟨c6, c11s, c11, c13s⟩, ⟨c7, c15s, c15⟩, ⟨c8, c16s, c16a, c16b, c17s⟩, ⟨c9, c10, cfd, F, Fd⟩, ⟨c11b, Ft⟩, ⟨c12, c69s, cmk⟩, ⟨c14, c121s, c121, c122s⟩, ⟨c15b, c123s, c123, c124s⟩, ⟨c16, c125s, c125, c126s⟩, ⟨c17, c127s, c127, c128s, ctb⟩, ⟨c18, c139s, c139, c140s⟩, ⟨c19, c141s, ⟨c141a, c142s⟩, ⟨c141b, c143s⟩, ⟨c141c, c144s⟩⟩, M⟩ := id Z
  refine zEi_of (lv := [some (.ref 0), some (.int a), some (.int b), some (.int c), some (.int ax), none]) (by decide) rfl (Nat.le_of_ble_eq_true rfl) ?_
  refine z_aload_0 d_Tf_moveOf_0 ?_
  refine z_iload_1 d_Tf_moveOf_1 ?_
  refine z_iload_2 d_Tf_moveOf_2 ?_
  refine z_iload_3 d_Tf_moveOf_3 ?_
  refine z_Vi3 d_Tf_moveOf_4 k_Tf_367 (by first | assumption | exact zS0_at (by assumption) (by omega) | exact zS0_at rfl (by omega)) (hS) ⟨Nat.le_of_ble_eq_true rfl, Nat.le_of_ble_eq_true rfl, Nat.le_of_ble_eq_true rfl, Nat.le_of_ble_eq_true rfl⟩ (Nat.le_of_ble_eq_true rfl) ?_
  intro r w hq
  obtain ⟨rfl, rfl⟩ := hq
  first | refine z_istore_5 d_Tf_moveOf_7 rfl ?_ | (refine z_forget_4 ?_; refine z_istore_5 d_Tf_moveOf_7 rfl ?_)
  refine z_iload_5 d_Tf_moveOf_9 ?_
  refine z_if_eq (tgt := 21) d_Tf_moveOf_11 (by decide) (fun _ => ?_) (fun h => absurd (by decide) h)
  have bad : ∀ y : Option Value, zA G y_Tf_moveOf prog_1_method_45_code 6 (some .int) (zRm 10 0 0) (zM G 0 0 (fun r w' => ∃ x, r = some (.int x) ∧ (fun r w => r = -1 ∧ cW I J P S 5 w) x w')) 36 [some (.ref 0), some (.int a), some (.int b), some (.int c), some (.int ax), y] [] (I, J, P, S) 0 0 := by
    intro y
    refine z_aload_0 d_Tf_moveOf_36 ?_
    refine z_iconst (a := nI 5) d_Tf_moveOf_37 (by decide) ?_
    refine z_Vi1 d_Tf_moveOf_38 k_Tf_138 (by first | assumption | exact zS0_at (by assumption) (by omega) | exact zS0_at rfl (by omega)) (t_Tf_fail c0) ⟨Nat.le_of_ble_eq_true rfl, Nat.le_of_ble_eq_true rfl, Nat.le_of_ble_eq_true rfl, Nat.le_of_ble_eq_true rfl⟩ (Nat.le_of_ble_eq_true rfl) ?_
    intro r w hq
    obtain ⟨rfl, rfl⟩ := hq
    refine z_reti d_Tf_moveOf_41 ?_
    exact ⟨rfl, cW_0⟩
  refine z_iload_3 d_Tf_moveOf_21 ?_
  refine z_if_eq (tgt := 36) d_Tf_moveOf_22 (by decide) (fun h1 => ?_) (fun h1 => ?_)
  · exact bad _
  · refine z_iload_4 d_Tf_moveOf_25 ?_
    refine z_if_lt (tgt := 36) d_Tf_moveOf_27 (by decide) (fun h2 => ?_) (fun h2 => ?_)
    · exact bad _
    · refine z_iload_4 d_Tf_moveOf_30 ?_
      refine z_iconst (a := nI 1) d_Tf_moveOf_32 (by decide) ?_
      refine z_icmp_le (tgt := 42) d_Tf_moveOf_33 (by decide) (fun h3 => ?_) (fun h3 => ?_)
      · rcases h with h | h | h
        · exact absurd h h1
        · exact absurd h h2
        · exact absurd h (Int32.not_lt.mpr h3)
      · exact bad _
theorem gameF (h : ∀ a, ¬ (141 ≤ a ∧ a ≤ 144) → I' a = I a) : cqF I I' := ⟨fun a _ g => h a (by omega), fun k _ => by rw [h 0 (by omega)]⟩
theorem t_Tf_game (Z : clOk f dd P S) (N : fenIn I f nt np nl nn) (hK : ∀ t, t < nn → I (f + 5) t = nI (kk t) ∧ kk t < 6) (hW : ∀ t, t < nn → I (f + 1) (kk t) = nI (g t) ∧ g t ≤ 99) (htk : tk = fun t => s_set (fun q => zB (I (f + 2) q) (kk t)) np) (h1 : one < np) (h2 : ot < np) (hT : T ≤ 3) (hne : one ≠ ot) : zEi G y_Tf_game prog_1_method_44_code 5 (some .int) 10 [.ref 0, .int (nI one), .int (nI ot), .int (nI T)] (I, J, P, S) (fun r w => r = zI (gaB nn (I (f + 3)) tk g T (I (f + 6)) one ot) ∧ cW I J P S 0 w) := by
  obtain ⟨⟨c0, c3, c1s⟩, ⟨c5, c2s, ctr⟩, ⟨c6, c11s, c11, c13s⟩, ⟨c7, c15s, c15⟩, ⟨c8, c16s, c16a, c16b, c17s⟩, ⟨c9, c10, cfd, F, Fd⟩, ⟨c11b, Ft⟩, ⟨c12, c69s, cmk⟩, ⟨c14, c121s, c121, c122s⟩, ⟨c15b, c123s, c123, c124s⟩, ⟨c16, c125s, c125, c126s⟩, ⟨c17, c127s, c127, c128s, ctb⟩, ⟨c18, c139s, c139, c140s⟩, ⟨c19, c141s, ⟨c141a, c142s⟩, ⟨c141b, c143s⟩, ⟨c141c, c144s⟩⟩, M⟩ := id Z
  refine zEi_of (lv := [some (.ref 0), some (.int (nI one)), some (.int (nI ot)), some (.int (nI T)), none]) (by decide) rfl (Nat.le_of_ble_eq_true rfl) ?_
  refine z_aload_0 d_Tf_game_0 ?_
  refine z_iload_1 d_Tf_game_1 ?_
  refine z_iload_2 d_Tf_game_2 ?_
  refine z_iload_3 d_Tf_game_3 ?_
  refine z_Vi3 d_Tf_game_4 k_Tf_367 (by first | assumption | exact zS0_at (by assumption) (by omega) | exact zS0_at rfl (by omega)) (t_Tf_gs Z N h1 h2 hne hT) ⟨Nat.le_of_ble_eq_true rfl, Nat.le_of_ble_eq_true rfl, Nat.le_of_ble_eq_true rfl, Nat.le_of_ble_eq_true rfl⟩ (Nat.le_of_ble_eq_true rfl) ?_
  intro r w hq
  obtain ⟨rfl, rfl⟩ := hq
  first | refine z_istore_4 d_Tf_game_7 rfl ?_ | (refine z_forget_3 ?_; refine z_istore_4 d_Tf_game_7 rfl ?_)
  refine z_iload_4 d_Tf_game_9 ?_
  refine z_if_eq (tgt := 23) d_Tf_game_11 (by decide) (fun _ => ?_) (fun h => absurd (by decide) h)
  refine z_aload_0 d_Tf_game_23 ?_
  refine z_aload_0 d_Tf_game_24 ?_
  refine z_getR d_Tf_game_25 f_Tf_111 (by first | assumption | exact zS0_at (by assumption) (by omega) | exact zS0_at rfl (by omega)) (by first | assumption | exact zS0_at (by assumption) (by omega) | exact zS0_at rfl (by omega)) ?_
  refine z_aload_0 d_Tf_game_28 ?_
  refine z_getR d_Tf_game_29 f_Tf_60 (by first | assumption | exact zS0_at (by assumption) (by omega) | exact zS0_at rfl (by omega)) (by first | assumption | exact zS0_at (by assumption) (by omega) | exact zS0_at rfl (by omega)) ?_
  refine z_iload_1 d_Tf_game_32 ?_
  refine z_iload_2 d_Tf_game_33 ?_
  refine z_iload_3 d_Tf_game_34 ?_
  refine z_Vi4 d_Tf_game_35 k_Tf_371 (by first | assumption | exact zS0_at (by assumption) (by omega) | exact zS0_at rfl (by omega)) (t_Game_settle Z N hK hW htk h1 h2 hT) ⟨Nat.le_of_ble_eq_true rfl, Nat.le_of_ble_eq_true rfl, Nat.le_of_ble_eq_true rfl, Nat.le_of_ble_eq_true rfl⟩ (Nat.le_of_ble_eq_true rfl) ?_
  rintro r w ⟨I2, rfl, g1, rfl, -⟩
  refine z_Vi1 d_Tf_game_38 k_Tf_174 (by first | assumption | exact zS0_at (by assumption) (by omega) | exact zS0_at rfl (by omega)) (t_Tf_give c0) ⟨Nat.le_of_ble_eq_true rfl, Nat.le_of_ble_eq_true rfl, Nat.le_of_ble_eq_true rfl, Nat.le_of_ble_eq_true rfl⟩ (Nat.le_of_ble_eq_true rfl) ?_
  intro r w hq
  obtain ⟨rfl, rfl⟩ := hq
  refine z_reti d_Tf_game_41 ?_
  exact ⟨rfl, _, _, rfl, cqF_0 (gameF g1), cqJ_r, zu_same _ _ _ _⟩
def moR (e : Nat) : Option Nat → Int32
  | none => -1
  | some k => nI (if e = 0 then k / 7 else k % 7)
def moT : Option Nat → Nat
  | none => 8
  | some _ => 0
theorem t_Tf_moveOf (Z : clOk f dd P S) (N : fenIn I f nt np nl nn) (hK : ∀ t, t < nn → I (f + 5) t = nI (kk t) ∧ kk t < 6) (hW : ∀ t, t < nn → I (f + 1) (kk t) = nI (g t) ∧ g t ≤ 99) (htk : tk = fun t => s_set (fun q => zB (I (f + 2) q) (kk t)) np) (h1 : one < np) (h2 : ot < np) (hT : d + 1 ≤ 3) (hne : one ≠ ot) (he : e < 2) (ho : gaIs (gaOk nn (I (f + 3)) tk (I (f + 6)) one) (gaV nn (I (f + 3)) tk g d (I (f + 6)) one ot) (-gaB nn (I (f + 3)) tk g d (I (f + 6)) ot one) o) : zEi G y_Tf_moveOf prog_1_method_45_code 6 (some .int) 10 [.ref 0, .int (nI one), .int (nI ot), .int (nI (d + 1)), .int (nI e)] (I, J, P, S) (fun r w => r = moR e o ∧ cW I J P S (moT o) w) := by
  obtain ⟨⟨c0, c3, c1s⟩, ⟨c5, c2s, ctr⟩, ⟨c6, c11s, c11, c13s⟩, ⟨c7, c15s, c15⟩, ⟨c8, c16s, c16a, c16b, c17s⟩, ⟨c9, c10, cfd, F, Fd⟩, ⟨c11b, Ft⟩, ⟨c12, c69s, cmk⟩, ⟨c14, c121s, c121, c122s⟩, ⟨c15b, c123s, c123, c124s⟩, ⟨c16, c125s, c125, c126s⟩, ⟨c17, c127s, c127, c128s, ctb⟩, ⟨c18, c139s, c139, c140s⟩, ⟨c19, c141s, ⟨c141a, c142s⟩, ⟨c141b, c143s⟩, ⟨c141c, c144s⟩⟩, M⟩ := id Z
  refine zEi_of (lv := [some (.ref 0), some (.int (nI one)), some (.int (nI ot)), some (.int (nI (d + 1))), some (.int (nI e)), none]) (by decide) rfl (Nat.le_of_ble_eq_true rfl) ?_
  refine z_aload_0 d_Tf_moveOf_0 ?_
  refine z_iload_1 d_Tf_moveOf_1 ?_
  refine z_iload_2 d_Tf_moveOf_2 ?_
  refine z_iload_3 d_Tf_moveOf_3 ?_
  refine z_Vi3 d_Tf_moveOf_4 k_Tf_367 (by first | assumption | exact zS0_at (by assumption) (by omega) | exact zS0_at rfl (by omega)) (t_Tf_gs Z N h1 h2 hne hT) ⟨Nat.le_of_ble_eq_true rfl, Nat.le_of_ble_eq_true rfl, Nat.le_of_ble_eq_true rfl, Nat.le_of_ble_eq_true rfl⟩ (Nat.le_of_ble_eq_true rfl) ?_
  intro r w hq
  obtain ⟨rfl, rfl⟩ := hq
  first | refine z_istore_5 d_Tf_moveOf_7 rfl ?_ | (refine z_forget_4 ?_; refine z_istore_5 d_Tf_moveOf_7 rfl ?_)
  refine z_iload_5 d_Tf_moveOf_9 ?_
  refine z_if_eq (tgt := 21) d_Tf_moveOf_11 (by decide) (fun _ => ?_) (fun h => absurd (by decide) h)
  refine z_iload_3 d_Tf_moveOf_21 ?_
  refine z_if_eq (tgt := 36) d_Tf_moveOf_22 (by decide) (fun h => absurd h (nI_ne0 (by omega) (by omega))) (fun _ => ?_)
  refine z_iload_4 d_Tf_moveOf_25 ?_
  refine z_if_lt (tgt := 36) d_Tf_moveOf_27 (by decide) (fun h => absurd h (nI_pos (by omega))) (fun _ => ?_)
  refine z_iload_4 d_Tf_moveOf_30 ?_
  refine z_iconst (a := nI 1) d_Tf_moveOf_32 (by decide) ?_
  refine z_icmp_le (tgt := 42) d_Tf_moveOf_33 (by decide) (fun _ => ?_) (fun h => absurd (nI_le (by omega) (by omega)) h)
  refine z_aload_0 d_Tf_moveOf_42 ?_
  refine z_getR d_Tf_moveOf_43 f_Tf_111 (by first | assumption | exact zS0_at (by assumption) (by omega) | exact zS0_at rfl (by omega)) (by first | assumption | exact zS0_at (by assumption) (by omega) | exact zS0_at rfl (by omega)) ?_
  refine z_aload_0 d_Tf_moveOf_46 ?_
  refine z_getR d_Tf_moveOf_47 f_Tf_60 (by first | assumption | exact zS0_at (by assumption) (by omega) | exact zS0_at rfl (by omega)) (by first | assumption | exact zS0_at (by assumption) (by omega) | exact zS0_at rfl (by omega)) ?_
  refine z_iload_1 d_Tf_moveOf_50 ?_
  refine z_iload_2 d_Tf_moveOf_51 ?_
  refine z_iload_3 d_Tf_moveOf_52 ?_
  refine z_Vi4 d_Tf_moveOf_53 k_Tf_371 (by first | assumption | exact zS0_at (by assumption) (by omega) | exact zS0_at rfl (by omega)) (t_Game_settle Z N hK hW htk h1 h2 hT) ⟨Nat.le_of_ble_eq_true rfl, Nat.le_of_ble_eq_true rfl, Nat.le_of_ble_eq_true rfl, Nat.le_of_ble_eq_true rfl⟩ (Nat.le_of_ble_eq_true rfl) ?_
  rintro r w ⟨I2, rfl, g1, -, g2⟩
  obtain ⟨o', ho', m0, m1⟩ := g2 d rfl
  obtain rfl := gaIs_u ho ho'
  refine z_pop rfl d_Tf_moveOf_56 ?_
  cases o with
  | none =>
    have m0 : I2 141 0 = -1 := m0
    refine z_aload_0 d_Tf_moveOf_57 ?_
    refine z_getR d_Tf_moveOf_58 f_Tf_111 (by first | assumption | exact zS0_at (by assumption) (by omega) | exact zS0_at rfl (by omega)) (by first | assumption | exact zS0_at (by assumption) (by omega) | exact zS0_at rfl (by omega)) ?_
    refine z_getIv d_Tf_moveOf_61 f_Tf_374 (by first | assumption | exact zS0_at (by assumption) (by omega) | exact zS0_at rfl (by omega)) (by first | assumption | ((try simp (disch := omega) only [zu_same, zu_ne, zcp_ne, zfl_ne]); first | assumption | rfl)) ?_
    refine z_if_ge (tgt := 74) d_Tf_moveOf_64 (by decide) (fun h => absurd h (by decide)) (fun _ => ?_)
    refine z_aload_0 d_Tf_moveOf_67 ?_
    refine z_bipush (a := nI 8) d_Tf_moveOf_68 (by decide) ?_
    refine z_Vi1 d_Tf_moveOf_70 k_Tf_138 (by first | assumption | exact zS0_at (by assumption) (by omega) | exact zS0_at rfl (by omega)) (t_Tf_fail c0) ⟨Nat.le_of_ble_eq_true rfl, Nat.le_of_ble_eq_true rfl, Nat.le_of_ble_eq_true rfl, Nat.le_of_ble_eq_true rfl⟩ (Nat.le_of_ble_eq_true rfl) ?_
    intro r w hq
    obtain ⟨rfl, rfl⟩ := hq
    refine z_reti d_Tf_moveOf_73 ?_
    exact ⟨rfl, _, _, rfl, cqF_0 (gameF g1), cqJ_r, zu_same _ _ _ _⟩
  | some k =>
    have m0 : I2 141 0 = nI (k / 7) := m0
    have m1 : I2 141 1 = nI (k % 7) := m1
    have hk := ho.1.1
    refine z_aload_0 d_Tf_moveOf_57 ?_
    refine z_getR d_Tf_moveOf_58 f_Tf_111 (by first | assumption | exact zS0_at (by assumption) (by omega) | exact zS0_at rfl (by omega)) (by first | assumption | exact zS0_at (by assumption) (by omega) | exact zS0_at rfl (by omega)) ?_
    refine z_getIv d_Tf_moveOf_61 f_Tf_374 (by first | assumption | exact zS0_at (by assumption) (by omega) | exact zS0_at rfl (by omega)) (by first | assumption | ((try simp (disch := omega) only [zu_same, zu_ne, zcp_ne, zfl_ne]); first | assumption | rfl)) ?_
    refine z_if_ge (tgt := 74) d_Tf_moveOf_64 (by decide) (fun _ => ?_) (fun h => absurd (Int32.not_lt.mp (nI_pos (by omega))) h)
    refine z_aload_0 d_Tf_moveOf_74 ?_
    refine z_iload_4 d_Tf_moveOf_75 ?_
    refine z_if_ne (tgt := 90) d_Tf_moveOf_77 (by decide) (fun h0 => ?_) (fun h0 => ?_)
    · have h0 : ¬ e = 0 := fun h => h0 (by rw [h]; rfl)
      refine z_aload_0 d_Tf_moveOf_90 ?_
      refine z_getR d_Tf_moveOf_91 f_Tf_111 (by first | assumption | exact zS0_at (by assumption) (by omega) | exact zS0_at rfl (by omega)) (by first | assumption | exact zS0_at (by assumption) (by omega) | exact zS0_at rfl (by omega)) ?_
      refine z_getIv d_Tf_moveOf_94 f_Tf_377 (by first | assumption | exact zS0_at (by assumption) (by omega) | exact zS0_at rfl (by omega)) (by first | assumption | ((try simp (disch := omega) only [zu_same, zu_ne, zcp_ne, zfl_ne]); first | assumption | rfl)) ?_
      refine z_Vi1 d_Tf_moveOf_97 k_Tf_174 (by first | assumption | exact zS0_at (by assumption) (by omega) | exact zS0_at rfl (by omega)) (t_Tf_give c0) ⟨Nat.le_of_ble_eq_true rfl, Nat.le_of_ble_eq_true rfl, Nat.le_of_ble_eq_true rfl, Nat.le_of_ble_eq_true rfl⟩ (Nat.le_of_ble_eq_true rfl) ?_
      intro r w hq
      obtain ⟨rfl, rfl⟩ := hq
      refine z_reti d_Tf_moveOf_100 ?_
      exact ⟨by show nI (k % 7) = nI (if e = 0 then k / 7 else k % 7); rw [if_neg h0], _, _, rfl, cqF_0 (gameF g1), cqJ_r, zu_same _ _ _ _⟩
    · have h0 : e = 0 := (nI_eq (by omega) (by decide)).mp h0
      refine z_aload_0 d_Tf_moveOf_80 ?_
      refine z_getR d_Tf_moveOf_81 f_Tf_111 (by first | assumption | exact zS0_at (by assumption) (by omega) | exact zS0_at rfl (by omega)) (by first | assumption | exact zS0_at (by assumption) (by omega) | exact zS0_at rfl (by omega)) ?_
      refine z_getIv d_Tf_moveOf_84 f_Tf_374 (by first | assumption | exact zS0_at (by assumption) (by omega) | exact zS0_at rfl (by omega)) (by first | assumption | ((try simp (disch := omega) only [zu_same, zu_ne, zcp_ne, zfl_ne]); first | assumption | rfl)) ?_
      refine z_goto (tgt := 97) d_Tf_moveOf_87 (by decide) ?_
      refine z_Vi1 d_Tf_moveOf_97 k_Tf_174 (by first | assumption | exact zS0_at (by assumption) (by omega) | exact zS0_at rfl (by omega)) (t_Tf_give c0) ⟨Nat.le_of_ble_eq_true rfl, Nat.le_of_ble_eq_true rfl, Nat.le_of_ble_eq_true rfl, Nat.le_of_ble_eq_true rfl⟩ (Nat.le_of_ble_eq_true rfl) ?_
      intro r w hq
      obtain ⟨rfl, rfl⟩ := hq
      refine z_reti d_Tf_moveOf_100 ?_
      exact ⟨by show nI (k / 7) = nI (if e = 0 then k / 7 else k % 7); rw [if_pos h0], _, _, rfl, cqF_0 (gameF g1), cqJ_r, zu_same _ _ _ _⟩
theorem t_Mo_wg_o (M : modOk P S) (N : modIn I nt np nl nn) (h : ¬ zin a np ∨ ¬ zin b np) : zEi G y_Mo_whyNoGame prog_14_method_135_code 5 (some .int) 3 [.ref 145, .int a, .int b, .int c, .int lo] (I, J, P, S) (fun r w => r = nI 2 ∧ w = (I, J, P, S)) := by
  obtain ⟨M0, ⟨M4, M4s⟩, ⟨M5, M5s⟩, ⟨M6, M6s⟩, ⟨M7, M7s⟩, ⟨M20, M20s⟩, ⟨M21, M21s⟩, ⟨M22, M22s⟩, ⟨M26, M26s⟩, ⟨M27, M27s⟩, ⟨M28, M28s⟩, ⟨M30, M30s⟩, ⟨M34, M34s⟩, ⟨M36, M36s⟩, ⟨M37, M37s⟩⟩ := id M
  refine zEi_of (lv := [some (.ref 145), some (.int a), some (.int b), some (.int c), some (.int lo)]) (by decide) rfl (Nat.le_of_ble_eq_true rfl) ?_
  refine z_aload_0 d_Mo_whyNoGame_0 ?_
  refine z_iload_1 d_Mo_whyNoGame_1 ?_
  refine z_i2l d_Mo_whyNoGame_2 ?_
  refine z_Vi1 d_Mo_whyNoGame_3 k_Mo_336 (by first | assumption | exact zS0_at (by assumption) (by omega) | exact zS0_at rfl (by omega)) (t_Mo_isPersonAtI M N) ⟨Nat.le_of_ble_eq_true rfl, Nat.le_of_ble_eq_true rfl, Nat.le_of_ble_eq_true rfl, Nat.le_of_ble_eq_true rfl⟩ (Nat.le_of_ble_eq_true rfl) ?_
  intro r w hq
  rcases hq with ⟨⟨hz, rfl⟩ | ⟨hz, rfl⟩, rfl⟩
  · refine z_if_eq (tgt := 18) d_Mo_whyNoGame_6 (by decide) (fun h => absurd h (by decide)) (fun _ => ?_)
    refine z_aload_0 d_Mo_whyNoGame_9 ?_
    refine z_iload_2 d_Mo_whyNoGame_10 ?_
    refine z_i2l d_Mo_whyNoGame_11 ?_
    refine z_Vi1 d_Mo_whyNoGame_12 k_Mo_336 (by first | assumption | exact zS0_at (by assumption) (by omega) | exact zS0_at rfl (by omega)) (t_Mo_isPersonAtI M N) ⟨Nat.le_of_ble_eq_true rfl, Nat.le_of_ble_eq_true rfl, Nat.le_of_ble_eq_true rfl, Nat.le_of_ble_eq_true rfl⟩ (Nat.le_of_ble_eq_true rfl) ?_
    intro r w hq
    rcases hq with ⟨⟨hz2, rfl⟩ | ⟨hz2, rfl⟩, rfl⟩
    · rcases h with h | h
      · exact absurd hz h
      · exact absurd hz2 h
    · refine z_if_ne (tgt := 20) d_Mo_whyNoGame_15 (by decide) (fun h => absurd (by decide) h) (fun _ => ?_)
      refine z_iconst (a := nI 2) d_Mo_whyNoGame_18 (by decide) ?_
      refine z_reti d_Mo_whyNoGame_19 ?_
      exact ⟨rfl, rfl⟩
  · refine z_if_eq (tgt := 18) d_Mo_whyNoGame_6 (by decide) (fun _ => ?_) (fun h => absurd (by decide) h)
    refine z_iconst (a := nI 2) d_Mo_whyNoGame_18 (by decide) ?_
    refine z_reti d_Mo_whyNoGame_19 ?_
    exact ⟨rfl, rfl⟩
theorem t_Mo_wg_b (M : modOk P S) (N : modIn I nt np nl nn) (hp : p < np) (hq : q < np) (h : p = q ∨ ¬ (lo.toInt64 ≤ c.toInt64 ∧ c.toInt64 ≤ (3 : Int64))) : zEi G y_Mo_whyNoGame prog_14_method_135_code 5 (some .int) 3 [.ref 145, .int (nI p), .int (nI q), .int c, .int lo] (I, J, P, S) (fun r w => r = nI 5 ∧ w = (I, J, P, S)) := by
  obtain ⟨M0, ⟨M4, M4s⟩, ⟨M5, M5s⟩, ⟨M6, M6s⟩, ⟨M7, M7s⟩, ⟨M20, M20s⟩, ⟨M21, M21s⟩, ⟨M22, M22s⟩, ⟨M26, M26s⟩, ⟨M27, M27s⟩, ⟨M28, M28s⟩, ⟨M30, M30s⟩, ⟨M34, M34s⟩, ⟨M36, M36s⟩, ⟨M37, M37s⟩⟩ := id M
  refine zEi_of (lv := [some (.ref 145), some (.int (nI p)), some (.int (nI q)), some (.int c), some (.int lo)]) (by decide) rfl (Nat.le_of_ble_eq_true rfl) ?_
  refine z_aload_0 d_Mo_whyNoGame_0 ?_
  refine z_iload_1 d_Mo_whyNoGame_1 ?_
  refine z_i2l d_Mo_whyNoGame_2 ?_
  refine z_Vi1 d_Mo_whyNoGame_3 k_Mo_336 (by first | assumption | exact zS0_at (by assumption) (by omega) | exact zS0_at rfl (by omega)) (t_Mo_isPersonAtI M N) ⟨Nat.le_of_ble_eq_true rfl, Nat.le_of_ble_eq_true rfl, Nat.le_of_ble_eq_true rfl, Nat.le_of_ble_eq_true rfl⟩ (Nat.le_of_ble_eq_true rfl) ?_
  intro r w hq0
  rcases hq0 with ⟨⟨hz, rfl⟩ | ⟨hz, rfl⟩, rfl⟩
  case inr => exact absurd ⟨p, hp, rfl⟩ hz
  refine z_if_eq (tgt := 18) d_Mo_whyNoGame_6 (by decide) (fun h => absurd h (by decide)) (fun _ => ?_)
  refine z_aload_0 d_Mo_whyNoGame_9 ?_
  refine z_iload_2 d_Mo_whyNoGame_10 ?_
  refine z_i2l d_Mo_whyNoGame_11 ?_
  refine z_Vi1 d_Mo_whyNoGame_12 k_Mo_336 (by first | assumption | exact zS0_at (by assumption) (by omega) | exact zS0_at rfl (by omega)) (t_Mo_isPersonAtI M N) ⟨Nat.le_of_ble_eq_true rfl, Nat.le_of_ble_eq_true rfl, Nat.le_of_ble_eq_true rfl, Nat.le_of_ble_eq_true rfl⟩ (Nat.le_of_ble_eq_true rfl) ?_
  intro r w hq0
  rcases hq0 with ⟨⟨hz2, rfl⟩ | ⟨hz2, rfl⟩, rfl⟩
  case inr => exact absurd ⟨q, hq, rfl⟩ hz2
  refine z_if_ne (tgt := 20) d_Mo_whyNoGame_15 (by decide) (fun _ => ?_) (fun h => absurd h (by decide))
  refine z_iload_1 d_Mo_whyNoGame_20 ?_
  refine z_iload_2 d_Mo_whyNoGame_21 ?_
  refine z_icmp_eq (tgt := 43) d_Mo_whyNoGame_22 (by decide) (fun h1 => ?_) (fun h1 => ?_)
  · refine z_iconst (a := nI 5) d_Mo_whyNoGame_43 (by decide) ?_
    refine z_reti d_Mo_whyNoGame_44 ?_
    exact ⟨rfl, rfl⟩
  · refine z_iload_3 d_Mo_whyNoGame_25 ?_
    refine z_i2l d_Mo_whyNoGame_26 ?_
    refine z_iload_4 d_Mo_whyNoGame_27 ?_
    refine z_i2l d_Mo_whyNoGame_29 ?_
    refine z_ldc2 d_Mo_whyNoGame_30 c_Mo_103 ?_
    refine z_Si3 d_Mo_whyNoGame_33 k_Mo_105 (t_Mo_isIn) ⟨Nat.le_of_ble_eq_true rfl, Nat.le_of_ble_eq_true rfl, Nat.le_of_ble_eq_true rfl, Nat.le_of_ble_eq_true rfl⟩ (Nat.le_of_ble_eq_true rfl) ?_
    intro r w hq0
    rcases hq0 with ⟨⟨hz3, rfl⟩ | ⟨hz3, rfl⟩, rfl⟩
    · rcases h with h | h
      · exact absurd (by rw [h]) h1
      · exact absurd hz3 h
    · refine z_if_eq (tgt := 43) d_Mo_whyNoGame_36 (by decide) (fun _ => ?_) (fun h => absurd (by decide) h)
      refine z_iconst (a := nI 5) d_Mo_whyNoGame_43 (by decide) ?_
      refine z_reti d_Mo_whyNoGame_44 ?_
      exact ⟨rfl, rfl⟩
theorem t_Mo_wg (M : modOk P S) (N : modIn I nt np nl nn) (hp : p < np) (hq : q < np) (hne : p ≠ q) (h : lo.toInt64 ≤ c.toInt64 ∧ c.toInt64 ≤ (3 : Int64)) : zEi G y_Mo_whyNoGame prog_14_method_135_code 5 (some .int) 3 [.ref 145, .int (nI p), .int (nI q), .int c, .int lo] (I, J, P, S) (fun r w => r = nI 0 ∧ w = (I, J, P, S)) := by
  have b := N.2.1.2
  obtain ⟨M0, ⟨M4, M4s⟩, ⟨M5, M5s⟩, ⟨M6, M6s⟩, ⟨M7, M7s⟩, ⟨M20, M20s⟩, ⟨M21, M21s⟩, ⟨M22, M22s⟩, ⟨M26, M26s⟩, ⟨M27, M27s⟩, ⟨M28, M28s⟩, ⟨M30, M30s⟩, ⟨M34, M34s⟩, ⟨M36, M36s⟩, ⟨M37, M37s⟩⟩ := id M
  refine zEi_of (lv := [some (.ref 145), some (.int (nI p)), some (.int (nI q)), some (.int c), some (.int lo)]) (by decide) rfl (Nat.le_of_ble_eq_true rfl) ?_
  refine z_aload_0 d_Mo_whyNoGame_0 ?_
  refine z_iload_1 d_Mo_whyNoGame_1 ?_
  refine z_i2l d_Mo_whyNoGame_2 ?_
  refine z_Vi1 d_Mo_whyNoGame_3 k_Mo_336 (by first | assumption | exact zS0_at (by assumption) (by omega) | exact zS0_at rfl (by omega)) (t_Mo_isPersonAtI M N) ⟨Nat.le_of_ble_eq_true rfl, Nat.le_of_ble_eq_true rfl, Nat.le_of_ble_eq_true rfl, Nat.le_of_ble_eq_true rfl⟩ (Nat.le_of_ble_eq_true rfl) ?_
  intro r w hq0
  rcases hq0 with ⟨⟨hz, rfl⟩ | ⟨hz, rfl⟩, rfl⟩
  case inr => exact absurd ⟨p, hp, rfl⟩ hz
  refine z_if_eq (tgt := 18) d_Mo_whyNoGame_6 (by decide) (fun h => absurd h (by decide)) (fun _ => ?_)
  refine z_aload_0 d_Mo_whyNoGame_9 ?_
  refine z_iload_2 d_Mo_whyNoGame_10 ?_
  refine z_i2l d_Mo_whyNoGame_11 ?_
  refine z_Vi1 d_Mo_whyNoGame_12 k_Mo_336 (by first | assumption | exact zS0_at (by assumption) (by omega) | exact zS0_at rfl (by omega)) (t_Mo_isPersonAtI M N) ⟨Nat.le_of_ble_eq_true rfl, Nat.le_of_ble_eq_true rfl, Nat.le_of_ble_eq_true rfl, Nat.le_of_ble_eq_true rfl⟩ (Nat.le_of_ble_eq_true rfl) ?_
  intro r w hq0
  rcases hq0 with ⟨⟨hz2, rfl⟩ | ⟨hz2, rfl⟩, rfl⟩
  case inr => exact absurd ⟨q, hq, rfl⟩ hz2
  refine z_if_ne (tgt := 20) d_Mo_whyNoGame_15 (by decide) (fun _ => ?_) (fun h => absurd h (by decide))
  refine z_iload_1 d_Mo_whyNoGame_20 ?_
  refine z_iload_2 d_Mo_whyNoGame_21 ?_
  refine z_icmp_eq (tgt := 43) d_Mo_whyNoGame_22 (by decide) (fun h => absurd h (fun q0 => hne ((nI_eq (by omega) (by omega)).mp q0))) (fun _ => ?_)
  refine z_iload_3 d_Mo_whyNoGame_25 ?_
  refine z_i2l d_Mo_whyNoGame_26 ?_
  refine z_iload_4 d_Mo_whyNoGame_27 ?_
  refine z_i2l d_Mo_whyNoGame_29 ?_
  refine z_ldc2 d_Mo_whyNoGame_30 c_Mo_103 ?_
  refine z_Si3 d_Mo_whyNoGame_33 k_Mo_105 (t_Mo_isIn) ⟨Nat.le_of_ble_eq_true rfl, Nat.le_of_ble_eq_true rfl, Nat.le_of_ble_eq_true rfl, Nat.le_of_ble_eq_true rfl⟩ (Nat.le_of_ble_eq_true rfl) ?_
  intro r w hq0
  rcases hq0 with ⟨⟨hz3, rfl⟩ | ⟨hz3, rfl⟩, rfl⟩
  case inr => exact absurd h hz3
  refine z_if_eq (tgt := 43) d_Mo_whyNoGame_36 (by decide) (fun h => absurd h (by decide)) (fun _ => ?_)
  refine z_iconst (a := nI 0) d_Mo_whyNoGame_39 (by decide) ?_
  refine z_goto (tgt := 44) d_Mo_whyNoGame_40 (by decide) ?_
  refine z_reti d_Mo_whyNoGame_44 ?_
  exact ⟨rfl, rfl⟩
theorem t_Mo_game_x (M : modOk P S) (hst : 0 < nI st) (hS :  ∀ I1 : Nat → Nat → Int32, I1 150 = I 150 → zEi  G y_Mo_whyNoGame prog_14_method_135_code 5 (some .int) 3 [.ref 145, .int a, .int b, .int c, .int (nI 0)] (I1, J, P, S) (fun r w => r = nI st ∧ w = (I1, J, P, S))) : zEi G y_Mo_game prog_14_method_136_code 4 (some .int) 9 [.ref 145, .int a, .int b, .int c] (I, J, P, S) (fun r w => r = -1 ∧ mW I J P S st w) := by
  obtain ⟨M0, ⟨M4, M4s⟩, ⟨M5, M5s⟩, ⟨M6, M6s⟩, ⟨M7, M7s⟩, ⟨M20, M20s⟩, ⟨M21, M21s⟩, ⟨M22, M22s⟩, ⟨M26, M26s⟩, ⟨M27, M27s⟩, ⟨M28, M28s⟩, ⟨M30, M30s⟩, ⟨M34, M34s⟩, ⟨M36, M36s⟩, ⟨M37, M37s⟩⟩ := id M
  refine zEi_of (lv := [some (.ref 145), some (.int a), some (.int b), some (.int c)]) (by decide) rfl (Nat.le_of_ble_eq_true rfl) ?_
  refine z_aload_0 d_Mo_game_0 ?_
  refine z_iconst (a := nI 0) d_Mo_game_1 (by decide) ?_
  refine z_putI d_Mo_game_2 f_Mo_70 (by first | assumption | exact zS0_at (by assumption) (by omega) | exact zS0_at rfl (by omega)) ?_
  refine z_aload_0 d_Mo_game_5 ?_
  refine z_aload_0 d_Mo_game_6 ?_
  refine z_iload_1 d_Mo_game_7 ?_
  refine z_iload_2 d_Mo_game_8 ?_
  refine z_iload_3 d_Mo_game_9 ?_
  refine z_iconst (a := nI 0) d_Mo_game_10 (by decide) ?_
  refine z_Vi4 d_Mo_game_11 k_Mo_453 (by first | assumption | exact zS0_at (by assumption) (by omega) | exact zS0_at rfl (by omega)) (hS _ (zu_row _ _ _ _ (by decide))) ⟨Nat.le_of_ble_eq_true rfl, Nat.le_of_ble_eq_true rfl, Nat.le_of_ble_eq_true rfl, Nat.le_of_ble_eq_true rfl⟩ (Nat.le_of_ble_eq_true rfl) ?_
  intro r w hq
  obtain ⟨rfl, rfl⟩ := hq
  refine z_putI d_Mo_game_14 f_Mo_73 (by first | assumption | exact zS0_at (by assumption) (by omega) | exact zS0_at rfl (by omega)) ?_
  refine z_aload_0 d_Mo_game_17 ?_
  refine z_getIv d_Mo_game_18 f_Mo_73 (by first | assumption | exact zS0_at (by assumption) (by omega) | exact zS0_at rfl (by omega)) (by first | assumption | ((try simp (disch := omega) only [zu_same, zu_ne, zcp_ne, zfl_ne]); first | assumption | rfl)) ?_
  refine z_if_le (tgt := 28) d_Mo_game_21 (by decide) (fun h => absurd h (Int32.not_le.mpr hst)) (fun _ => ?_)
  refine z_iconst (a := -1) d_Mo_game_24 (by decide) ?_
  refine z_goto (tgt := 36) d_Mo_game_25 (by decide) ?_
  refine z_reti d_Mo_game_36 ?_
  exact ⟨rfl, _, _, rfl, mqF_z (mqF_z mqF_r (by decide)) (by decide), mqJ_r, zu_same _ _ _ _⟩
theorem t_Mo_moveOf_x (M : modOk P S) (hst : 0 < nI st) (hS :  ∀ I1 : Nat → Nat → Int32, I1 150 = I 150 → zEi  G y_Mo_whyNoGame prog_14_method_135_code 5 (some .int) 3 [.ref 145, .int a, .int b, .int c, .int (nI 1)] (I1, J, P, S) (fun r w => r = nI st ∧ w = (I1, J, P, S))) : zEi G y_Mo_moveOf prog_14_method_137_code 5 (some .int) 9 [.ref 145, .int a, .int b, .int c, .int ax] (I, J, P, S) (fun r w => r = -1 ∧ mW I J P S st w) := by
  obtain ⟨M0, ⟨M4, M4s⟩, ⟨M5, M5s⟩, ⟨M6, M6s⟩, ⟨M7, M7s⟩, ⟨M20, M20s⟩, ⟨M21, M21s⟩, ⟨M22, M22s⟩, ⟨M26, M26s⟩, ⟨M27, M27s⟩, ⟨M28, M28s⟩, ⟨M30, M30s⟩, ⟨M34, M34s⟩, ⟨M36, M36s⟩, ⟨M37, M37s⟩⟩ := id M
  refine zEi_of (lv := [some (.ref 145), some (.int a), some (.int b), some (.int c), some (.int ax)]) (by decide) rfl (Nat.le_of_ble_eq_true rfl) ?_
  refine z_aload_0 d_Mo_moveOf_0 ?_
  refine z_iconst (a := nI 0) d_Mo_moveOf_1 (by decide) ?_
  refine z_putI d_Mo_moveOf_2 f_Mo_70 (by first | assumption | exact zS0_at (by assumption) (by omega) | exact zS0_at rfl (by omega)) ?_
  refine z_aload_0 d_Mo_moveOf_5 ?_
  refine z_aload_0 d_Mo_moveOf_6 ?_
  refine z_iload_1 d_Mo_moveOf_7 ?_
  refine z_iload_2 d_Mo_moveOf_8 ?_
  refine z_iload_3 d_Mo_moveOf_9 ?_
  refine z_iconst (a := nI 1) d_Mo_moveOf_10 (by decide) ?_
  refine z_Vi4 d_Mo_moveOf_11 k_Mo_453 (by first | assumption | exact zS0_at (by assumption) (by omega) | exact zS0_at rfl (by omega)) (hS _ (zu_row _ _ _ _ (by decide))) ⟨Nat.le_of_ble_eq_true rfl, Nat.le_of_ble_eq_true rfl, Nat.le_of_ble_eq_true rfl, Nat.le_of_ble_eq_true rfl⟩ (Nat.le_of_ble_eq_true rfl) ?_
  intro r w hq
  obtain ⟨rfl, rfl⟩ := hq
  refine z_putI d_Mo_moveOf_14 f_Mo_73 (by first | assumption | exact zS0_at (by assumption) (by omega) | exact zS0_at rfl (by omega)) ?_
  refine z_aload_0 d_Mo_moveOf_17 ?_
  refine z_getIv d_Mo_moveOf_18 f_Mo_73 (by first | assumption | exact zS0_at (by assumption) (by omega) | exact zS0_at rfl (by omega)) (by first | assumption | ((try simp (disch := omega) only [zu_same, zu_ne, zcp_ne, zfl_ne]); first | assumption | rfl)) ?_
  refine z_if_le (tgt := 26) d_Mo_moveOf_21 (by decide) (fun h => absurd h (Int32.not_le.mpr hst)) (fun _ => ?_)
  refine z_iconst (a := -1) d_Mo_moveOf_24 (by decide) ?_
  refine z_reti d_Mo_moveOf_25 ?_
  exact ⟨rfl, _, _, rfl, mqF_z (mqF_z mqF_r (by decide)) (by decide), mqJ_r, zu_same _ _ _ _⟩
theorem t_Mo_moveOf_b (M : modOk P S) (h : ¬ zin ax 2) (hS :  ∀ I1 : Nat → Nat → Int32, I1 150 = I 150 → zEi  G y_Mo_whyNoGame prog_14_method_135_code 5 (some .int) 3 [.ref 145, .int a, .int b, .int c, .int (nI 1)] (I1, J, P, S) (fun r w => r = nI 0 ∧ w = (I1, J, P, S))) : zEi G y_Mo_moveOf prog_14_method_137_code 5 (some .int) 9 [.ref 145, .int a, .int b, .int c, .int ax] (I, J, P, S) (fun r w => r = -1 ∧ mW I J P S 5 w) := by
  obtain ⟨M0, ⟨M4, M4s⟩, ⟨M5, M5s⟩, ⟨M6, M6s⟩, ⟨M7, M7s⟩, ⟨M20, M20s⟩, ⟨M21, M21s⟩, ⟨M22, M22s⟩, ⟨M26, M26s⟩, ⟨M27, M27s⟩, ⟨M28, M28s⟩, ⟨M30, M30s⟩, ⟨M34, M34s⟩, ⟨M36, M36s⟩, ⟨M37, M37s⟩⟩ := id M
  refine zEi_of (lv := [some (.ref 145), some (.int a), some (.int b), some (.int c), some (.int ax)]) (by decide) rfl (Nat.le_of_ble_eq_true rfl) ?_
  refine z_aload_0 d_Mo_moveOf_0 ?_
  refine z_iconst (a := nI 0) d_Mo_moveOf_1 (by decide) ?_
  refine z_putI d_Mo_moveOf_2 f_Mo_70 (by first | assumption | exact zS0_at (by assumption) (by omega) | exact zS0_at rfl (by omega)) ?_
  refine z_aload_0 d_Mo_moveOf_5 ?_
  refine z_aload_0 d_Mo_moveOf_6 ?_
  refine z_iload_1 d_Mo_moveOf_7 ?_
  refine z_iload_2 d_Mo_moveOf_8 ?_
  refine z_iload_3 d_Mo_moveOf_9 ?_
  refine z_iconst (a := nI 1) d_Mo_moveOf_10 (by decide) ?_
  refine z_Vi4 d_Mo_moveOf_11 k_Mo_453 (by first | assumption | exact zS0_at (by assumption) (by omega) | exact zS0_at rfl (by omega)) (hS _ (zu_row _ _ _ _ (by decide))) ⟨Nat.le_of_ble_eq_true rfl, Nat.le_of_ble_eq_true rfl, Nat.le_of_ble_eq_true rfl, Nat.le_of_ble_eq_true rfl⟩ (Nat.le_of_ble_eq_true rfl) ?_
  intro r w hq
  obtain ⟨rfl, rfl⟩ := hq
  refine z_putI d_Mo_moveOf_14 f_Mo_73 (by first | assumption | exact zS0_at (by assumption) (by omega) | exact zS0_at rfl (by omega)) ?_
  refine z_aload_0 d_Mo_moveOf_17 ?_
  refine z_getIv d_Mo_moveOf_18 f_Mo_73 (by first | assumption | exact zS0_at (by assumption) (by omega) | exact zS0_at rfl (by omega)) (by first | assumption | ((try simp (disch := omega) only [zu_same, zu_ne, zcp_ne, zfl_ne]); first | assumption | rfl)) ?_
  refine z_if_le (tgt := 26) d_Mo_moveOf_21 (by decide) (fun _ => ?_) (fun h => absurd (by decide) h)
  refine z_iload_4 d_Mo_moveOf_26 ?_
  refine z_i2l d_Mo_moveOf_28 ?_
  refine z_lconst (f := lN 0) d_Mo_moveOf_29 rfl ?_
  refine z_lconst (f := lN 1) d_Mo_moveOf_30 rfl ?_
  refine z_Si3 d_Mo_moveOf_31 k_Mo_105 (t_Mo_isInZ (m := 2) (by decide) (by decide)) ⟨Nat.le_of_ble_eq_true rfl, Nat.le_of_ble_eq_true rfl, Nat.le_of_ble_eq_true rfl, Nat.le_of_ble_eq_true rfl⟩ (Nat.le_of_ble_eq_true rfl) ?_
  intro r w hq
  rcases hq with ⟨⟨hz, rfl⟩ | ⟨hz, rfl⟩, rfl⟩
  · exact absurd hz h
  · refine z_if_ne (tgt := 43) d_Mo_moveOf_34 (by decide) (fun h => absurd (by decide) h) (fun _ => ?_)
    refine z_aload_0 d_Mo_moveOf_37 ?_
    refine z_iconst (a := nI 5) d_Mo_moveOf_38 (by decide) ?_
    refine z_Vi1 d_Mo_moveOf_39 k_Mo_327 (by first | assumption | exact zS0_at (by assumption) (by omega) | exact zS0_at rfl (by omega)) (t_Mo_refuse M) ⟨Nat.le_of_ble_eq_true rfl, Nat.le_of_ble_eq_true rfl, Nat.le_of_ble_eq_true rfl, Nat.le_of_ble_eq_true rfl⟩ (Nat.le_of_ble_eq_true rfl) ?_
    intro r w hq
    obtain ⟨rfl, rfl⟩ := hq
    refine z_reti d_Mo_moveOf_42 ?_
    exact ⟨rfl, _, _, rfl, mqF_z (mqF_z (mqF_z mqF_r (by decide)) (by decide)) (by decide), mqJ_r, zu_same _ _ _ _⟩
theorem pl_c (h : plI nt np nl nn kk mt tk g I) (e : I' 150 = I 150) : plI nt np nl nn kk mt tk g I' := by
  unfold plI modIn mTk at h ⊢
  rw [e]
  exact h
theorem plQ_m {C : Nat → Int32} (h : mqF I I1) (hq : plQ nn mt tk g C one ot n d I1 I') : mqF I I' := ⟨fun a g1 g2 => (hq.2.1 a g1).trans (h.1 a g1 g2), fun k hk => (hq.2.2.1 k (by omega)).trans (h.2 k hk)⟩
theorem t_Mo_game (M : modOk P S) (N : modIn I nt np nl nn) (hpl : plI nt np nl nn kk mt tk g I) (hg : ∀ t, t < nn → g t ≤ 99) (hkk : ∀ t, t < nn → kk t < 6) (k4 : ∀ t, t < nn → ∀ i, i < 32 → zB (tk t) i = true → i < np) (h1 : one < np) (h2 : ot < np) (hT : T ≤ 3) (hne : one ≠ ot) (hlo : (nI 0).toInt64 ≤ (nI T).toInt64 ∧ (nI T).toInt64 ≤ (3 : Int64)) : zEi G y_Mo_game prog_14_method_136_code 4 (some .int) 9 [.ref 145, .int (nI one), .int (nI ot), .int (nI T)] (I, J, P, S) (fun r w => r = zI (gaB nn mt tk g T (fun t => I 150 (42 + t)) one ot) ∧ mW I J P S 0 w) := by
  obtain ⟨M0, ⟨M4, M4s⟩, ⟨M5, M5s⟩, ⟨M6, M6s⟩, ⟨M7, M7s⟩, ⟨M20, M20s⟩, ⟨M21, M21s⟩, ⟨M22, M22s⟩, ⟨M26, M26s⟩, ⟨M27, M27s⟩, ⟨M28, M28s⟩, ⟨M30, M30s⟩, ⟨M34, M34s⟩, ⟨M36, M36s⟩, ⟨M37, M37s⟩⟩ := id M
  have N1 : modIn (zu I 145 1 (nI 0)) nt np nl nn := modIn_z N
  refine zEi_of (lv := [some (.ref 145), some (.int (nI one)), some (.int (nI ot)), some (.int (nI T))]) (by decide) rfl (Nat.le_of_ble_eq_true rfl) ?_
  refine z_aload_0 d_Mo_game_0 ?_
  refine z_iconst (a := nI 0) d_Mo_game_1 (by decide) ?_
  refine z_putI d_Mo_game_2 f_Mo_70 (by first | assumption | exact zS0_at (by assumption) (by omega) | exact zS0_at rfl (by omega)) ?_
  refine z_aload_0 d_Mo_game_5 ?_
  refine z_aload_0 d_Mo_game_6 ?_
  refine z_iload_1 d_Mo_game_7 ?_
  refine z_iload_2 d_Mo_game_8 ?_
  refine z_iload_3 d_Mo_game_9 ?_
  refine z_iconst (a := nI 0) d_Mo_game_10 (by decide) ?_
  refine z_Vi4 d_Mo_game_11 k_Mo_453 (by first | assumption | exact zS0_at (by assumption) (by omega) | exact zS0_at rfl (by omega)) (t_Mo_wg M N1 h1 h2 hne hlo) ⟨Nat.le_of_ble_eq_true rfl, Nat.le_of_ble_eq_true rfl, Nat.le_of_ble_eq_true rfl, Nat.le_of_ble_eq_true rfl⟩ (Nat.le_of_ble_eq_true rfl) ?_
  intro r w hq
  obtain ⟨rfl, rfl⟩ := hq
  refine z_putI d_Mo_game_14 f_Mo_73 (by first | assumption | exact zS0_at (by assumption) (by omega) | exact zS0_at rfl (by omega)) ?_
  refine z_aload_0 d_Mo_game_17 ?_
  refine z_getIv d_Mo_game_18 f_Mo_73 (by first | assumption | exact zS0_at (by assumption) (by omega) | exact zS0_at rfl (by omega)) (by first | assumption | ((try simp (disch := omega) only [zu_same, zu_ne, zcp_ne, zfl_ne]); first | assumption | rfl)) ?_
  refine z_if_le (tgt := 28) d_Mo_game_21 (by decide) (fun _ => ?_) (fun h => absurd (by decide) h)
  obtain ⟨I1, hI1⟩ : ∃ I1, I1 = zu (zu I 145 1 (nI 0)) 145 0 (nI 0) := ⟨_, rfl⟩
  have e150 : I1 150 = I 150 := by rw [hI1, zu_row _ _ _ _ (by decide), zu_row _ _ _ _ (by decide)]
  have hq1 : mqF I I1 := by rw [hI1]; exact mqF_z (mqF_z mqF_r (by decide)) (by decide)
  have e0 : I1 145 0 = nI 0 := by rw [hI1, zu_same]
  rw [← hI1]
  refine z_aload_0 d_Mo_game_28 ?_
  refine z_iload_1 d_Mo_game_29 ?_
  refine z_iload_2 d_Mo_game_30 ?_
  refine z_iconst (a := nI 0) d_Mo_game_31 (by decide) ?_
  refine z_iload_3 d_Mo_game_32 ?_
  refine z_Vi4 d_Mo_game_33 k_Mo_447 (by first | assumption | exact zS0_at (by assumption) (by omega) | exact zS0_at rfl (by omega)) (t_Mo_plays (kk := kk) (nt := nt) (nl := nl) M hg hkk k4 h1 h2 hT T I1 0 (by omega) (pl_c hpl e150)) (by refine ⟨?_, ?_, ?_, ?_⟩ <;> simp only [zRm] <;> omega) (Nat.le_of_ble_eq_true rfl) ?_
  rintro r w ⟨rfl, I', rfl, hQ⟩
  refine z_reti d_Mo_game_36 ?_
  refine ⟨?_, _, _, rfl, plQ_m hq1 hQ, mqJ_r, (hQ.2.2.1 0 (by decide)).trans e0⟩
  rw [e150]
  rfl
theorem t_Mo_moveOf (M : modOk P S) (N : modIn I nt np nl nn) (hpl : plI nt np nl nn kk mt tk g I) (hg : ∀ t, t < nn → g t ≤ 99) (hkk : ∀ t, t < nn → kk t < 6) (k4 : ∀ t, t < nn → ∀ i, i < 32 → zB (tk t) i = true → i < np) (h1 : one < np) (h2 : ot < np) (hT : d + 1 ≤ 3) (hne : one ≠ ot) (hlo : (nI 1).toInt64 ≤ (nI (d + 1)).toInt64 ∧ (nI (d + 1)).toInt64 ≤ (3 : Int64)) (he : e < 2) (ho : gaIs (gaOk nn mt tk (fun t => I 150 (42 + t)) one) (gaV nn mt tk g d (fun t => I 150 (42 + t)) one ot) (-gaB nn mt tk g d (fun t => I 150 (42 + t)) ot one) o) : zEi G y_Mo_moveOf prog_14_method_137_code 5 (some .int) 9 [.ref 145, .int (nI one), .int (nI ot), .int (nI (d + 1)), .int (nI e)] (I, J, P, S) (fun r w => r = moR e o ∧ mW I J P S (moT o) w) := by
  obtain ⟨M0, ⟨M4, M4s⟩, ⟨M5, M5s⟩, ⟨M6, M6s⟩, ⟨M7, M7s⟩, ⟨M20, M20s⟩, ⟨M21, M21s⟩, ⟨M22, M22s⟩, ⟨M26, M26s⟩, ⟨M27, M27s⟩, ⟨M28, M28s⟩, ⟨M30, M30s⟩, ⟨M34, M34s⟩, ⟨M36, M36s⟩, ⟨M37, M37s⟩⟩ := id M
  have N1 : modIn (zu I 145 1 (nI 0)) nt np nl nn := modIn_z N
  refine zEi_of (lv := [some (.ref 145), some (.int (nI one)), some (.int (nI ot)), some (.int (nI (d + 1))), some (.int (nI e))]) (by decide) rfl (Nat.le_of_ble_eq_true rfl) ?_
  refine z_aload_0 d_Mo_moveOf_0 ?_
  refine z_iconst (a := nI 0) d_Mo_moveOf_1 (by decide) ?_
  refine z_putI d_Mo_moveOf_2 f_Mo_70 (by first | assumption | exact zS0_at (by assumption) (by omega) | exact zS0_at rfl (by omega)) ?_
  refine z_aload_0 d_Mo_moveOf_5 ?_
  refine z_aload_0 d_Mo_moveOf_6 ?_
  refine z_iload_1 d_Mo_moveOf_7 ?_
  refine z_iload_2 d_Mo_moveOf_8 ?_
  refine z_iload_3 d_Mo_moveOf_9 ?_
  refine z_iconst (a := nI 1) d_Mo_moveOf_10 (by decide) ?_
  refine z_Vi4 d_Mo_moveOf_11 k_Mo_453 (by first | assumption | exact zS0_at (by assumption) (by omega) | exact zS0_at rfl (by omega)) (t_Mo_wg M N1 h1 h2 hne hlo) ⟨Nat.le_of_ble_eq_true rfl, Nat.le_of_ble_eq_true rfl, Nat.le_of_ble_eq_true rfl, Nat.le_of_ble_eq_true rfl⟩ (Nat.le_of_ble_eq_true rfl) ?_
  intro r w hq
  obtain ⟨rfl, rfl⟩ := hq
  refine z_putI d_Mo_moveOf_14 f_Mo_73 (by first | assumption | exact zS0_at (by assumption) (by omega) | exact zS0_at rfl (by omega)) ?_
  refine z_aload_0 d_Mo_moveOf_17 ?_
  refine z_getIv d_Mo_moveOf_18 f_Mo_73 (by first | assumption | exact zS0_at (by assumption) (by omega) | exact zS0_at rfl (by omega)) (by first | assumption | ((try simp (disch := omega) only [zu_same, zu_ne, zcp_ne, zfl_ne]); first | assumption | rfl)) ?_
  refine z_if_le (tgt := 26) d_Mo_moveOf_21 (by decide) (fun _ => ?_) (fun h => absurd (by decide) h)
  obtain ⟨I1, hI1⟩ : ∃ I1, I1 = zu (zu I 145 1 (nI 0)) 145 0 (nI 0) := ⟨_, rfl⟩
  have e150 : I1 150 = I 150 := by rw [hI1, zu_row _ _ _ _ (by decide), zu_row _ _ _ _ (by decide)]
  have hq1 : mqF I I1 := by rw [hI1]; exact mqF_z (mqF_z mqF_r (by decide)) (by decide)
  have e0 : I1 145 0 = nI 0 := by rw [hI1, zu_same]
  rw [← hI1]
  refine z_iload_4 d_Mo_moveOf_26 ?_
  refine z_i2l d_Mo_moveOf_28 ?_
  refine z_lconst (f := lN 0) d_Mo_moveOf_29 rfl ?_
  refine z_lconst (f := lN 1) d_Mo_moveOf_30 rfl ?_
  refine z_Si3 d_Mo_moveOf_31 k_Mo_105 (t_Mo_isInZ (m := 2) (by decide) (by decide)) ⟨Nat.le_of_ble_eq_true rfl, Nat.le_of_ble_eq_true rfl, Nat.le_of_ble_eq_true rfl, Nat.le_of_ble_eq_true rfl⟩ (Nat.le_of_ble_eq_true rfl) ?_
  intro r w hq
  rcases hq with ⟨⟨hz, rfl⟩ | ⟨hz, rfl⟩, rfl⟩
  case inr => exact absurd ⟨e, he, rfl⟩ hz
  refine z_if_ne (tgt := 43) d_Mo_moveOf_34 (by decide) (fun _ => ?_) (fun h => absurd h (by decide))
  refine z_aload_0 d_Mo_moveOf_43 ?_
  refine z_iload_1 d_Mo_moveOf_44 ?_
  refine z_iload_2 d_Mo_moveOf_45 ?_
  refine z_iconst (a := nI 0) d_Mo_moveOf_46 (by decide) ?_
  refine z_iload_3 d_Mo_moveOf_47 ?_
  refine z_Vi4 d_Mo_moveOf_48 k_Mo_447 (by first | assumption | exact zS0_at (by assumption) (by omega) | exact zS0_at rfl (by omega)) (t_Mo_plays (kk := kk) (nt := nt) (nl := nl) M hg hkk k4 h1 h2 hT (d + 1) I1 0 (by omega) (pl_c hpl e150)) (by refine ⟨?_, ?_, ?_, ?_⟩ <;> simp only [zRm] <;> omega) (Nat.le_of_ble_eq_true rfl) ?_
  rintro r w ⟨rfl, I', rfl, hQ⟩
  rw [e150] at hQ
  obtain ⟨o', ho', m0⟩ := hQ.2.2.2 rfl d rfl
  obtain rfl := gaIs_u ho ho'
  have hq2 := plQ_m hq1 hQ
  have e0' : I' 145 0 = nI 0 := (hQ.2.2.1 0 (by decide)).trans e0
  refine z_pop rfl d_Mo_moveOf_51 ?_
  cases o with
  | none =>
    have m0 : I' 145 35 = -1 := m0
    refine z_aload_0 d_Mo_moveOf_52 ?_
    refine z_getIv d_Mo_moveOf_53 f_Mo_450 (by first | assumption | exact zS0_at (by assumption) (by omega) | exact zS0_at rfl (by omega)) (by first | assumption | ((try simp (disch := omega) only [zu_same, zu_ne, zcp_ne, zfl_ne]); first | assumption | rfl)) ?_
    refine z_if_ge (tgt := 66) d_Mo_moveOf_56 (by decide) (fun h => absurd h (by decide)) (fun _ => ?_)
    refine z_aload_0 d_Mo_moveOf_59 ?_
    refine z_bipush (a := nI 8) d_Mo_moveOf_60 (by decide) ?_
    refine z_Vi1 d_Mo_moveOf_62 k_Mo_327 (by first | assumption | exact zS0_at (by assumption) (by omega) | exact zS0_at rfl (by omega)) (t_Mo_refuse M) (by refine ⟨?_, ?_, ?_, ?_⟩ <;> simp only [zRm] <;> omega) (Nat.le_of_ble_eq_true rfl) ?_
    intro r w hq
    obtain ⟨rfl, rfl⟩ := hq
    refine z_reti d_Mo_moveOf_65 ?_
    exact ⟨rfl, _, _, rfl, mqF_z hq2 (by decide), mqJ_r, zu_same _ _ _ _⟩
  | some k =>
    have m0 : I' 145 35 = nI k := m0
    have hk := ho.1.1
    refine z_aload_0 d_Mo_moveOf_52 ?_
    refine z_getIv d_Mo_moveOf_53 f_Mo_450 (by first | assumption | exact zS0_at (by assumption) (by omega) | exact zS0_at rfl (by omega)) (by first | assumption | ((try simp (disch := omega) only [zu_same, zu_ne, zcp_ne, zfl_ne]); first | assumption | rfl)) ?_
    refine z_if_ge (tgt := 66) d_Mo_moveOf_56 (by decide) (fun _ => ?_) (fun h => absurd (Int32.not_lt.mp (nI_pos (by omega))) h)
    refine z_iload_4 d_Mo_moveOf_66 ?_
    refine z_if_ne (tgt := 81) d_Mo_moveOf_68 (by decide) (fun h0 => ?_) (fun h0 => ?_)
    · have h0 : ¬ e = 0 := fun h => h0 (by rw [h]; rfl)
      refine z_aload_0 d_Mo_moveOf_81 ?_
      refine z_getIv d_Mo_moveOf_82 f_Mo_450 (by first | assumption | exact zS0_at (by assumption) (by omega) | exact zS0_at rfl (by omega)) (by first | assumption | ((try simp (disch := omega) only [zu_same, zu_ne, zcp_ne, zfl_ne]); first | assumption | rfl)) ?_
      refine z_bipush (a := nI 7) d_Mo_moveOf_85 (by decide) ?_
      refine z_irem (by decide) d_Mo_moveOf_87 ?_
      rw [irem_N (by omega) (by decide) (by decide)]
      refine z_reti d_Mo_moveOf_88 ?_
      exact ⟨by show nI (k % 7) = nI (if e = 0 then k / 7 else k % 7); rw [if_neg h0], _, _, rfl, hq2, mqJ_r, e0'⟩
    · have h0 : e = 0 := (nI_eq (by omega) (by decide)).mp h0
      refine z_aload_0 d_Mo_moveOf_71 ?_
      refine z_getIv d_Mo_moveOf_72 f_Mo_450 (by first | assumption | exact zS0_at (by assumption) (by omega) | exact zS0_at rfl (by omega)) (by first | assumption | ((try simp (disch := omega) only [zu_same, zu_ne, zcp_ne, zfl_ne]); first | assumption | rfl)) ?_
      refine z_bipush (a := nI 7) d_Mo_moveOf_75 (by decide) ?_
      refine z_idiv (by decide) d_Mo_moveOf_77 ?_
      rw [pk_div (by omega) (by decide) (by decide)]
      refine z_goto (tgt := 88) d_Mo_moveOf_78 (by decide) ?_
      refine z_reti d_Mo_moveOf_88 ?_
      exact ⟨by show nI (k / 7) = nI (if e = 0 then k / 7 else k % 7); rw [if_pos h0], _, _, rfl, hq2, mqJ_r, e0'⟩
theorem gm_ex (X : stR n f nt np nl nn fed mk I J) : ∃ kk g : Nat → Nat, ∀ t, t < nn → (kk t < nt ∧ I (f + 5) t = nI (kk t) ∧ I 150 (33 + t) = nI (kk t)) ∧ (g t ≤ 99 ∧ I (f + 1) (kk t) = nI (g t) ∧ I 150 (6 + kk t) = nI (g t)) := by
  obtain ⟨-, -, fw, fp, ft, fz⟩ := stR_fm X
  have h : ∀ t, ∃ kg : Nat × Nat, t < nn → (kg.1 < nt ∧ I (f + 5) t = nI kg.1 ∧ I 150 (33 + t) = nI kg.1) ∧ (kg.2 ≤ 99 ∧ I (f + 1) kg.1 = nI kg.2 ∧ I 150 (6 + kg.1) = nI kg.2) := by
    intro t
    by_cases ht : t < nn
    · obtain ⟨⟨k, k1, k2, k3⟩, -⟩ := ft t ht
      obtain ⟨v, v1, v2, v3⟩ := fw k k1
      exact ⟨(k, v), fun _ => ⟨⟨k1, k2, k3⟩, v1, v2, v3⟩⟩
    · exact ⟨(0, 0), fun h => absurd h ht⟩
  obtain ⟨F, hF⟩ := Classical.axiomOfChoice h
  exact ⟨fun t => (F t).1, fun t => (F t).2, fun t ht => hF t ht⟩
theorem in3 (hT : T ≤ 3) : (nI T).toInt64 ≤ (3 : Int64) := by
  rw [Int64.le_iff_toInt_le, Int32.toInt_toInt64, nI_int (by omega), show (3 : Int64).toInt = 3 by decide]
  omega
theorem in0 (hT : T ≤ 3) (hp : p ≤ T) : (nI p).toInt64 ≤ (nI T).toInt64 := by
  rw [Int64.le_iff_toInt_le, Int32.toInt_toInt64, Int32.toInt_toInt64, nI_int (by omega), nI_int (by omega)]
  omega
theorem in4 (hp : p ≤ 1) (h : ¬ zin c 4) : ¬ ((nI p).toInt64 ≤ c.toInt64 ∧ c.toInt64 ≤ (3 : Int64)) := by
  intro q
  rw [Int64.le_iff_toInt_le, Int64.le_iff_toInt_le, Int32.toInt_toInt64, Int32.toInt_toInt64, nI_int (by omega), show (3 : Int64).toInt = 3 by decide] at q
  exact h ((zin_int (by decide)).mpr ⟨by omega, by omega⟩)
theorem L_game (h : zInv n w) : zEi G y_Tf_game prog_1_method_44_code 5 (some .int) 10 [.ref 0, .int a, .int b, .int c] w (fun r w1 => w1.2.2.2 = w.2.2.2 ∧ zEi G y_Mo_game prog_14_method_136_code 4 (some .int) 9 [.ref 145, .int a, .int b, .int c] w1 (fun r' w2 => r' = r ∧ zInv (n + 1) w2)) := by
  obtain ⟨f, d, nt, np, nl, nn, fed, mk, I, J, P, S, rfl, Z, X⟩ := h
  have M := clOk_M Z
  have hf := clOk_f Z
  have N := stR_fen X
  have N0 := stR_mod X
  have fm := stR_fm X
  obtain ⟨⟨⟨a1, r1, b1⟩, ⟨a2, r2, b2⟩, ⟨a3, r3, b3⟩, ⟨a4, r4, b4⟩⟩, ⟨⟨o, ob, ao, ro⟩, r5⟩, fw, fp, ft, fz⟩ := id fm
  have eN : ∀ I' I1 : Nat → Nat → Int32, (∀ a, 145 ≤ a → I' a = I a) → I1 150 = I' 150 → modIn I1 nt np nl nn := fun I' I1 e e1 => modIn_c N0 (by rw [e1, e 150 (by decide)])
  by_cases hab : zin a np ∧ zin b np
  case neg =>
    have hab : ¬ zin a np ∨ ¬ zin b np := by
      by_cases h : zin a np
      · exact Or.inr (fun q => hab ⟨h, q⟩)
      · exact Or.inl h
    exact L_q Z X (t_Tf_game_x Z (by decide) (t_Tf_gs_o Z N hab)) (fun I' J' e _ => ⟨_, rfl, t_Mo_game_x M (by decide) (fun I1 e1 => t_Mo_wg_o M (eN I' I1 e e1) hab)⟩)
  obtain ⟨⟨p, hp, rfl⟩, ⟨q, hq, rfl⟩⟩ := hab
  by_cases hpq : p = q ∨ ¬ zin c 4
  · have h1 : p = q ∨ c < 0 ∨ nI 3 < c := by
      rcases hpq with h | h
      · exact Or.inl h
      · exact Or.inr (zin_not (m := 3) (by decide) h)
    have h2 : p = q ∨ ¬ ((nI 0).toInt64 ≤ c.toInt64 ∧ c.toInt64 ≤ (3 : Int64)) := by
      rcases hpq with h | h
      · exact Or.inl h
      · exact Or.inr (in4 (by omega) h)
    exact L_q Z X (t_Tf_game_x Z (by decide) (t_Tf_gs_b Z N hp hq h1)) (fun I' J' e _ => ⟨_, rfl, t_Mo_game_x M (by decide) (fun I1 e1 => t_Mo_wg_b M (eN I' I1 e e1) hp hq h2)⟩)
  have hne : p ≠ q := fun h => hpq (Or.inl h)
  obtain ⟨T, hT, rfl⟩ : zin c 4 := Classical.byContradiction (fun h => hpq (Or.inr h))
  obtain ⟨kk, g, hkg⟩ := gm_ex X
  obtain ⟨tk, htk⟩ : ∃ tk : Nat → Int32, tk = fun t => s_set (fun q => zB (I (f + 2) q) (kk t)) np := ⟨_, rfl⟩
  have etk : ∀ t, t < nn → mTk I np (kk t) = tk t := fun t ht => by
    rw [htk]
    exact s_set_congr np (fun i hi => by rw [show I 150 (12 + i) = I (f + 2) i from (fp i hi).1])
  have k4 : ∀ t, t < nn → ∀ i, i < 32 → zB (tk t) i = true → i < np := fun t ht i hi q => by rw [htk] at q; exact set_lt b2 i hi q
  have hpl : plI nt np nl nn kk (fun p => I 150 (19 + p)) tk g I := ⟨N0, fun t ht => (hkg t ht).1.2.2, fun t ht => (hkg t ht).2.2.2, fun p hp => rfl, etk⟩
  refine L_q Z X (t_Tf_game (kk := kk) (g := g) Z N (fun t ht => ⟨(hkg t ht).1.2.1, by have := (hkg t ht).1.1; omega⟩) (fun t ht => ⟨(hkg t ht).2.2.1, (hkg t ht).2.1⟩) htk hp hq (by omega) hne) (fun I' J' e _ => ⟨_, ?_, t_Mo_game (kk := kk) (g := g) (tk := tk) (mt := fun p => I 150 (19 + p)) M (modIn_c N0 (e 150 (by decide))) (pl_c hpl (e 150 (by decide))) (fun t ht => (hkg t ht).2.1) (fun t ht => by have := (hkg t ht).1.1; omega) k4 hp hq (by omega) hne ⟨in0 (by omega) (by omega), in3 (by omega)⟩⟩)
  rw [e 150 (by decide)]
  congr 1
  exact gaB_c (fun t ht => rfl) (fun t ht => rfl) T _ _ p q (fun t ht => (ft t ht).2.1.2) (fp p hp).2.1 (fp q hq).2.1
theorem L_moveOf (h : zInv n w) : zEi G y_Tf_moveOf prog_1_method_45_code 6 (some .int) 10 [.ref 0, .int a, .int b, .int c, .int ax] w (fun r w1 => w1.2.2.2 = w.2.2.2 ∧ zEi G y_Mo_moveOf prog_14_method_137_code 5 (some .int) 9 [.ref 145, .int a, .int b, .int c, .int ax] w1 (fun r' w2 => r' = r ∧ zInv (n + 1) w2)) := by
  obtain ⟨f, d, nt, np, nl, nn, fed, mk, I, J, P, S, rfl, Z, X⟩ := h
  have M := clOk_M Z
  have hf := clOk_f Z
  have N := stR_fen X
  have N0 := stR_mod X
  have fm := stR_fm X
  obtain ⟨⟨⟨a1, r1, b1⟩, ⟨a2, r2, b2⟩, ⟨a3, r3, b3⟩, ⟨a4, r4, b4⟩⟩, ⟨⟨o, ob, ao, ro⟩, r5⟩, fw, fp, ft, fz⟩ := id fm
  have eN : ∀ I' I1 : Nat → Nat → Int32, (∀ a, 145 ≤ a → I' a = I a) → I1 150 = I' 150 → modIn I1 nt np nl nn := fun I' I1 e e1 => modIn_c N0 (by rw [e1, e 150 (by decide)])
  by_cases hab : zin a np ∧ zin b np
  case neg =>
    have hab : ¬ zin a np ∨ ¬ zin b np := by
      by_cases h : zin a np
      · exact Or.inr (fun q => hab ⟨h, q⟩)
      · exact Or.inl h
    exact L_q Z X (t_Tf_moveOf_x Z (by decide) (t_Tf_gs_o Z N hab)) (fun I' J' e _ => ⟨_, rfl, t_Mo_moveOf_x M (by decide) (fun I1 e1 => t_Mo_wg_o M (eN I' I1 e e1) hab)⟩)
  obtain ⟨⟨p, hp, rfl⟩, ⟨q, hq, rfl⟩⟩ := hab
  by_cases hpq : p = q ∨ ¬ zin c 4
  · have h1 : p = q ∨ c < 0 ∨ nI 3 < c := by
      rcases hpq with h | h
      · exact Or.inl h
      · exact Or.inr (zin_not (m := 3) (by decide) h)
    have h2 : p = q ∨ ¬ ((nI 1).toInt64 ≤ c.toInt64 ∧ c.toInt64 ≤ (3 : Int64)) := by
      rcases hpq with h | h
      · exact Or.inl h
      · exact Or.inr (in4 (by omega) h)
    exact L_q Z X (t_Tf_moveOf_x Z (by decide) (t_Tf_gs_b Z N hp hq h1)) (fun I' J' e _ => ⟨_, rfl, t_Mo_moveOf_x M (by decide) (fun I1 e1 => t_Mo_wg_b M (eN I' I1 e e1) hp hq h2)⟩)
  have hne : p ≠ q := fun h => hpq (Or.inl h)
  obtain ⟨T, hT, rfl⟩ : zin c 4 := Classical.byContradiction (fun h => hpq (Or.inr h))
  cases T with
  | zero => exact L_q Z X (t_Tf_moveOf_b Z (t_Tf_gs Z N hp hq hne (by omega)) (Or.inl rfl)) (fun I' J' e _ => ⟨_, rfl, t_Mo_moveOf_x M (by decide) (fun I1 e1 => t_Mo_wg_b M (eN I' I1 e e1) hp hq (Or.inr (by decide)))⟩)
  | succ d =>
    have hlo : (nI 1).toInt64 ≤ (nI (d + 1)).toInt64 ∧ (nI (d + 1)).toInt64 ≤ (3 : Int64) := ⟨in0 (by omega) (by omega), in3 (by omega)⟩
    by_cases hax : zin ax 2
    case neg => exact L_q Z X (t_Tf_moveOf_b Z (t_Tf_gs Z N hp hq hne (by omega)) (Or.inr (zin_not (m := 1) (by decide) hax))) (fun I' J' e _ => ⟨_, rfl, t_Mo_moveOf_b M hax (fun I1 e1 => t_Mo_wg M (eN I' I1 e e1) hp hq hne hlo)⟩)
    obtain ⟨e0, he0, rfl⟩ := hax
    obtain ⟨kk, g, hkg⟩ := gm_ex X
    obtain ⟨tk, htk⟩ : ∃ tk : Nat → Int32, tk = fun t => s_set (fun q => zB (I (f + 2) q) (kk t)) np := ⟨_, rfl⟩
    have etk : ∀ t, t < nn → mTk I np (kk t) = tk t := fun t ht => by
      rw [htk]
      exact s_set_congr np (fun i hi => by rw [show I 150 (12 + i) = I (f + 2) i from (fp i hi).1])
    have k4 : ∀ t, t < nn → ∀ i, i < 32 → zB (tk t) i = true → i < np := fun t ht i hi q => by rw [htk] at q; exact set_lt b2 i hi q
    have hpl : plI nt np nl nn kk (fun p => I 150 (19 + p)) tk g I := ⟨N0, fun t ht => (hkg t ht).1.2.2, fun t ht => (hkg t ht).2.2.2, fun p hp => rfl, etk⟩
    obtain ⟨oo, hE⟩ : ∃ oo, gaIs (gaOk nn (I (f + 3)) tk (I (f + 6)) p) (gaV nn (I (f + 3)) tk g d (I (f + 6)) p q) (-gaB nn (I (f + 3)) tk g d (I (f + 6)) q p) oo := ⟨_, gaE_is⟩
    have hE2 : gaIs (gaOk nn (fun p => I 150 (19 + p)) tk (fun t => I 150 (42 + t)) p) (gaV nn (fun p => I 150 (19 + p)) tk g d (fun t => I 150 (42 + t)) p q) (-gaB nn (fun p => I 150 (19 + p)) tk g d (fun t => I 150 (42 + t)) q p) oo := by
      refine gaIs_c (fun k hk => ?_) (fun k hk hb => ?_) ?_ hE
      · exact gaOk_c (fun t ht => (ft t ht).2.1.2.symm) (fun t ht => rfl) (fp p hp).2.1.symm
      · exact gaV_c (fun t ht => rfl) (fun t ht => rfl) (fun t ht => (ft t ht).2.1.2.symm) (fp p hp).2.1.symm (fp q hq).2.1.symm (gaOk_lt hb)
      · rw [gaB_c (mt' := I (f + 3)) (mt := fun p => I 150 (19 + p)) (tk := tk) (g := g) (fun t ht => rfl) (fun t ht => rfl) d (fun t => I 150 (42 + t)) (I (f + 6)) q p (fun t ht => (ft t ht).2.1.2.symm) (fp q hq).2.1.symm (fp p hp).2.1.symm]
    refine L_q Z X (t_Tf_moveOf (kk := kk) (g := g) Z N (fun t ht => ⟨(hkg t ht).1.2.1, by have := (hkg t ht).1.1; omega⟩) (fun t ht => ⟨(hkg t ht).2.2.1, (hkg t ht).2.1⟩) htk hp hq (by omega) hne he0 hE) (fun I' J' e _ => ⟨_, rfl, t_Mo_moveOf (kk := kk) (g := g) (tk := tk) (mt := fun p => I 150 (19 + p)) M (modIn_c N0 (e 150 (by decide))) (pl_c hpl (e 150 (by decide))) (fun t ht => (hkg t ht).2.1) (fun t ht => by have := (hkg t ht).1.1; omega) k4 hp hq (by omega) hne hlo he0 ?_⟩)
    rw [e 150 (by decide)]
    exact hE2
end GE0
