/-! whose, sure, ask: the class -/
section SK0
variable {G : zG} {I I' I1 I2 I3 : Nat → Nat → Int32} {J J' J2 : Nat → Nat → Int64} {P : Nat → Nat → Option Nat} {S : List (Nat × Nat)} {f d nt np nl nn n fed mk t k p q s g i u v l : Nat} {a b : Int32} {x y : Int64} {w : zW} {fb : Nat → Bool} {X : Nat → Int64}
theorem t_Tf_seen_o (Z : clOk f d P S) (h : ¬ zin a 4) : zEi G y_Tf_seenStatus prog_1_method_66_code 4 (some .int) 4 [.ref 0, .int a, .int b] (I, J, P, S) (fun r w => r = nI 1 ∧ ∃ I', w = (I', J, P, S) ∧ xF 139 I I') := by
  obtain ⟨⟨c0, c3, c1s⟩, ⟨c5, c2s, ctr⟩, ⟨c6, c11s, c11, c13s⟩, ⟨c7, c15s, c15⟩, ⟨c8, c16s, c16a, c16b, c17s⟩, ⟨c9, c10, cfd, F, Fd⟩, ⟨c11b, Ft⟩, ⟨c12, c69s, cmk⟩, ⟨c14, c121s, c121, c122s⟩, ⟨c15b, c123s, c123, c124s⟩, ⟨c16, c125s, c125, c126s⟩, ⟨c17, c127s, c127, c128s, ctb⟩, ⟨c18, c139s, c139, c140s⟩, ⟨c19, c141s, ⟨c141a, c142s⟩, ⟨c141b, c143s⟩, ⟨c141c, c144s⟩⟩, M⟩ := id Z
  refine zEi_of (lv := [some (.ref 0), some (.int a), some (.int b), none]) (by decide) rfl (Nat.le_of_ble_eq_true rfl) ?_
  refine z_aload_0 d_Tf_seenStatus_0 ?_
  refine z_iload_1 d_Tf_seenStatus_1 ?_
  refine z_Vi1 d_Tf_seenStatus_2 k_Tf_267 (by first | assumption | exact zS0_at (by assumption) (by omega) | exact zS0_at rfl (by omega)) (t_Tf_trayStatus_o Z h) ⟨Nat.le_of_ble_eq_true rfl, Nat.le_of_ble_eq_true rfl, Nat.le_of_ble_eq_true rfl, Nat.le_of_ble_eq_true rfl⟩ (Nat.le_of_ble_eq_true rfl) ?_
  intro r w hq
  obtain ⟨rfl, rfl⟩ := hq
  first | refine z_istore_3 d_Tf_seenStatus_5 rfl ?_ | (refine z_forget_2 ?_; refine z_istore_3 d_Tf_seenStatus_5 rfl ?_)
  refine z_iload_3 d_Tf_seenStatus_6 ?_
  refine z_if_eq (tgt := 12) d_Tf_seenStatus_7 (by decide) (fun h => absurd h (by decide)) (fun _ => ?_)
  refine z_iload_3 d_Tf_seenStatus_10 ?_
  refine z_reti d_Tf_seenStatus_11 ?_
  exact ⟨rfl, I, rfl, xF_r⟩
theorem t_Tf_seen_m (Z : clOk f d P S) (ht : t < 4) (h0 : I (3 + 2 * t) 0 = nI 0) : zEi G y_Tf_seenStatus prog_1_method_66_code 4 (some .int) 4 [.ref 0, .int (nI t), .int b] (I, J, P, S) (fun r w => r = nI 3 ∧ ∃ I', w = (I', J, P, S) ∧ xF 139 I I') := by
  obtain ⟨⟨c0, c3, c1s⟩, ⟨c5, c2s, ctr⟩, ⟨c6, c11s, c11, c13s⟩, ⟨c7, c15s, c15⟩, ⟨c8, c16s, c16a, c16b, c17s⟩, ⟨c9, c10, cfd, F, Fd⟩, ⟨c11b, Ft⟩, ⟨c12, c69s, cmk⟩, ⟨c14, c121s, c121, c122s⟩, ⟨c15b, c123s, c123, c124s⟩, ⟨c16, c125s, c125, c126s⟩, ⟨c17, c127s, c127, c128s, ctb⟩, ⟨c18, c139s, c139, c140s⟩, ⟨c19, c141s, ⟨c141a, c142s⟩, ⟨c141b, c143s⟩, ⟨c141c, c144s⟩⟩, M⟩ := id Z
  refine zEi_of (lv := [some (.ref 0), some (.int (nI t)), some (.int b), none]) (by decide) rfl (Nat.le_of_ble_eq_true rfl) ?_
  refine z_aload_0 d_Tf_seenStatus_0 ?_
  refine z_iload_1 d_Tf_seenStatus_1 ?_
  refine z_Vi1 d_Tf_seenStatus_2 k_Tf_267 (by first | assumption | exact zS0_at (by assumption) (by omega) | exact zS0_at rfl (by omega)) (t_Tf_trayStatus_m Z ht h0) ⟨Nat.le_of_ble_eq_true rfl, Nat.le_of_ble_eq_true rfl, Nat.le_of_ble_eq_true rfl, Nat.le_of_ble_eq_true rfl⟩ (Nat.le_of_ble_eq_true rfl) ?_
  intro r w hq
  obtain ⟨rfl, rfl⟩ := hq
  first | refine z_istore_3 d_Tf_seenStatus_5 rfl ?_ | (refine z_forget_2 ?_; refine z_istore_3 d_Tf_seenStatus_5 rfl ?_)
  refine z_iload_3 d_Tf_seenStatus_6 ?_
  refine z_if_eq (tgt := 12) d_Tf_seenStatus_7 (by decide) (fun h => absurd h (by decide)) (fun _ => ?_)
  refine z_iload_3 d_Tf_seenStatus_10 ?_
  refine z_reti d_Tf_seenStatus_11 ?_
  exact ⟨rfl, I, rfl, xF_r⟩
theorem t_Tf_seen_l (Z : clOk f d P S) (ht : t < 4) (h0 : I (3 + 2 * t) 0 = nI 1) (hl : I (3 + 2 * t) 2 = nI l) (hno : ¬ (2 : Int64) * b.toInt64 ≤ (nI l).toInt64) : zEi G y_Tf_seenStatus prog_1_method_66_code 4 (some .int) 4 [.ref 0, .int (nI t), .int b] (I, J, P, S) (fun r w => r = nI 4 ∧ ∃ I', w = (I', J, P, S) ∧ xF 139 I I') := by
  obtain ⟨⟨c0, c3, c1s⟩, ⟨c5, c2s, ctr⟩, ⟨c6, c11s, c11, c13s⟩, ⟨c7, c15s, c15⟩, ⟨c8, c16s, c16a, c16b, c17s⟩, ⟨c9, c10, cfd, F, Fd⟩, ⟨c11b, Ft⟩, ⟨c12, c69s, cmk⟩, ⟨c14, c121s, c121, c122s⟩, ⟨c15b, c123s, c123, c124s⟩, ⟨c16, c125s, c125, c126s⟩, ⟨c17, c127s, c127, c128s, ctb⟩, ⟨c18, c139s, c139, c140s⟩, ⟨c19, c141s, ⟨c141a, c142s⟩, ⟨c141b, c143s⟩, ⟨c141c, c144s⟩⟩, M⟩ := id Z
  obtain ⟨ct, ⟨T0, T1, T2⟩⟩ := ctr t ht
  refine zEi_of (lv := [some (.ref 0), some (.int (nI t)), some (.int b), none]) (by decide) rfl (Nat.le_of_ble_eq_true rfl) ?_
  refine z_aload_0 d_Tf_seenStatus_0 ?_
  refine z_iload_1 d_Tf_seenStatus_1 ?_
  refine z_Vi1 d_Tf_seenStatus_2 k_Tf_267 (by first | assumption | exact zS0_at (by assumption) (by omega) | exact zS0_at rfl (by omega)) (t_Tf_trayStatus_p Z ht h0) ⟨Nat.le_of_ble_eq_true rfl, Nat.le_of_ble_eq_true rfl, Nat.le_of_ble_eq_true rfl, Nat.le_of_ble_eq_true rfl⟩ (Nat.le_of_ble_eq_true rfl) ?_
  intro r w hq
  obtain ⟨rfl, rfl⟩ := hq
  first | refine z_istore_3 d_Tf_seenStatus_5 rfl ?_ | (refine z_forget_2 ?_; refine z_istore_3 d_Tf_seenStatus_5 rfl ?_)
  refine z_iload_3 d_Tf_seenStatus_6 ?_
  refine z_if_eq (tgt := 12) d_Tf_seenStatus_7 (by decide) (fun _ => ?_) (fun h => absurd (by decide) h)
  refine z_ldc2 d_Tf_seenStatus_12 c_Tf_412 ?_
  refine z_iload_2 d_Tf_seenStatus_15 ?_
  refine z_i2l d_Tf_seenStatus_16 ?_
  refine z_lmul d_Tf_seenStatus_17 ?_
  refine z_aload_0 d_Tf_seenStatus_18 ?_
  refine z_getR d_Tf_seenStatus_19 f_Tf_29 (by first | assumption | exact zS0_at (by assumption) (by omega) | exact zS0_at rfl (by omega)) (by first | assumption | exact zS0_at (by assumption) (by omega) | exact zS0_at rfl (by omega)) ?_
  refine z_iload_1 d_Tf_seenStatus_22 ?_
  first | refine z_ald4N d_Tf_seenStatus_23 (by first | assumption | exact zS0_at (by assumption) (by omega) | exact zS0_at rfl (by omega)) (by omega) (by first | decide | omega) (by first | assumption | exact zS0_at (by assumption) (by omega) | exact zS0_at rfl (by omega)) ?_ | refine z_ald5N d_Tf_seenStatus_23 (by first | assumption | exact zS0_at (by assumption) (by omega) | exact zS0_at rfl (by omega)) (by omega) (by first | decide | omega) (by first | assumption | exact zS0_at (by assumption) (by omega) | exact zS0_at rfl (by omega)) ?_ | refine z_ald6N d_Tf_seenStatus_23 (by first | assumption | exact zS0_at (by assumption) (by omega) | exact zS0_at rfl (by omega)) (by omega) (by first | decide | omega) (by first | assumption | exact zS0_at (by assumption) (by omega) | exact zS0_at rfl (by omega)) ?_
  refine z_getIv d_Tf_seenStatus_24 f_Tf_414 (by first | assumption | exact zS0_at (by assumption) (by omega) | exact zS0_at rfl (by omega)) (by first | assumption | ((try simp (disch := omega) only [zu_same, zu_ne, zcp_ne, zfl_ne]); first | assumption | rfl)) ?_
  refine z_i2l d_Tf_seenStatus_27 ?_
  refine z_lcmp d_Tf_seenStatus_28 ?_
  refine z_if_le (tgt := 34) d_Tf_seenStatus_29 (by decide) (fun h => absurd h (by rw [lg_cmp_le]; exact hno)) (fun _ => ?_)
  refine z_iconst (a := nI 4) d_Tf_seenStatus_32 (by decide) ?_
  refine z_reti d_Tf_seenStatus_33 ?_
  exact ⟨rfl, I, rfl, xF_r⟩
theorem t_Tf_seen_b (Z : clOk f d P S) (N : fenIn I f nt np nl nn) (ht : t < 4) (h0 : I (3 + 2 * t) 0 = nI 1) (hl : I (3 + 2 * t) 2 = nI l) (h : (2 : Int64) * b.toInt64 ≤ (nI l).toInt64) (hb : b < 0 ∨ nI 7 < b ∨ ∃ n, n ≤ 7 ∧ b = nI n ∧ ¬ ∃ u, tw (J (3 + 2 * t + 1)) np n u) : zEi G y_Tf_seenStatus prog_1_method_66_code 4 (some .int) 4 [.ref 0, .int (nI t), .int b] (I, J, P, S) (fun r w => r = nI 5 ∧ ∃ I', w = (I', J, P, S) ∧ xF 139 I I') := by
  obtain ⟨⟨c0, c3, c1s⟩, ⟨c5, c2s, ctr⟩, ⟨c6, c11s, c11, c13s⟩, ⟨c7, c15s, c15⟩, ⟨c8, c16s, c16a, c16b, c17s⟩, ⟨c9, c10, cfd, F, Fd⟩, ⟨c11b, Ft⟩, ⟨c12, c69s, cmk⟩, ⟨c14, c121s, c121, c122s⟩, ⟨c15b, c123s, c123, c124s⟩, ⟨c16, c125s, c125, c126s⟩, ⟨c17, c127s, c127, c128s, ctb⟩, ⟨c18, c139s, c139, c140s⟩, ⟨c19, c141s, ⟨c141a, c142s⟩, ⟨c141b, c143s⟩, ⟨c141c, c144s⟩⟩, M⟩ := id Z
  obtain ⟨ct, T⟩ := ctr t ht
  obtain ⟨T0, T1, T2⟩ := id T
  refine zEi_of (lv := [some (.ref 0), some (.int (nI t)), some (.int b), none]) (by decide) rfl (Nat.le_of_ble_eq_true rfl) ?_
  refine z_aload_0 d_Tf_seenStatus_0 ?_
  refine z_iload_1 d_Tf_seenStatus_1 ?_
  refine z_Vi1 d_Tf_seenStatus_2 k_Tf_267 (by first | assumption | exact zS0_at (by assumption) (by omega) | exact zS0_at rfl (by omega)) (t_Tf_trayStatus_p Z ht h0) ⟨Nat.le_of_ble_eq_true rfl, Nat.le_of_ble_eq_true rfl, Nat.le_of_ble_eq_true rfl, Nat.le_of_ble_eq_true rfl⟩ (Nat.le_of_ble_eq_true rfl) ?_
  intro r w hq
  obtain ⟨rfl, rfl⟩ := hq
  first | refine z_istore_3 d_Tf_seenStatus_5 rfl ?_ | (refine z_forget_2 ?_; refine z_istore_3 d_Tf_seenStatus_5 rfl ?_)
  refine z_iload_3 d_Tf_seenStatus_6 ?_
  refine z_if_eq (tgt := 12) d_Tf_seenStatus_7 (by decide) (fun _ => ?_) (fun h => absurd (by decide) h)
  refine z_ldc2 d_Tf_seenStatus_12 c_Tf_412 ?_
  refine z_iload_2 d_Tf_seenStatus_15 ?_
  refine z_i2l d_Tf_seenStatus_16 ?_
  refine z_lmul d_Tf_seenStatus_17 ?_
  refine z_aload_0 d_Tf_seenStatus_18 ?_
  refine z_getR d_Tf_seenStatus_19 f_Tf_29 (by first | assumption | exact zS0_at (by assumption) (by omega) | exact zS0_at rfl (by omega)) (by first | assumption | exact zS0_at (by assumption) (by omega) | exact zS0_at rfl (by omega)) ?_
  refine z_iload_1 d_Tf_seenStatus_22 ?_
  first | refine z_ald4N d_Tf_seenStatus_23 (by first | assumption | exact zS0_at (by assumption) (by omega) | exact zS0_at rfl (by omega)) (by omega) (by first | decide | omega) (by first | assumption | exact zS0_at (by assumption) (by omega) | exact zS0_at rfl (by omega)) ?_ | refine z_ald5N d_Tf_seenStatus_23 (by first | assumption | exact zS0_at (by assumption) (by omega) | exact zS0_at rfl (by omega)) (by omega) (by first | decide | omega) (by first | assumption | exact zS0_at (by assumption) (by omega) | exact zS0_at rfl (by omega)) ?_ | refine z_ald6N d_Tf_seenStatus_23 (by first | assumption | exact zS0_at (by assumption) (by omega) | exact zS0_at rfl (by omega)) (by omega) (by first | decide | omega) (by first | assumption | exact zS0_at (by assumption) (by omega) | exact zS0_at rfl (by omega)) ?_
  refine z_getIv d_Tf_seenStatus_24 f_Tf_414 (by first | assumption | exact zS0_at (by assumption) (by omega) | exact zS0_at rfl (by omega)) (by first | assumption | ((try simp (disch := omega) only [zu_same, zu_ne, zcp_ne, zfl_ne]); first | assumption | rfl)) ?_
  refine z_i2l d_Tf_seenStatus_27 ?_
  refine z_lcmp d_Tf_seenStatus_28 ?_
  refine z_if_le (tgt := 34) d_Tf_seenStatus_29 (by decide) (fun _ => ?_) (fun h => absurd ((lg_cmp_le _ _).mpr (by assumption)) h)
  refine z_aload_0 d_Tf_seenStatus_34 ?_
  refine z_getR d_Tf_seenStatus_35 f_Tf_104 (by first | assumption | exact zS0_at (by assumption) (by omega) | exact zS0_at rfl (by omega)) (by first | assumption | exact zS0_at (by assumption) (by omega) | exact zS0_at rfl (by omega)) ?_
  refine z_aload_0 d_Tf_seenStatus_38 ?_
  refine z_getR d_Tf_seenStatus_39 f_Tf_60 (by first | assumption | exact zS0_at (by assumption) (by omega) | exact zS0_at rfl (by omega)) (by first | assumption | exact zS0_at (by assumption) (by omega) | exact zS0_at rfl (by omega)) ?_
  refine z_aload_0 d_Tf_seenStatus_42 ?_
  refine z_getR d_Tf_seenStatus_43 f_Tf_29 (by first | assumption | exact zS0_at (by assumption) (by omega) | exact zS0_at rfl (by omega)) (by first | assumption | exact zS0_at (by assumption) (by omega) | exact zS0_at rfl (by omega)) ?_
  refine z_iload_1 d_Tf_seenStatus_46 ?_
  first | refine z_ald4N d_Tf_seenStatus_47 (by first | assumption | exact zS0_at (by assumption) (by omega) | exact zS0_at rfl (by omega)) (by omega) (by first | decide | omega) (by first | assumption | exact zS0_at (by assumption) (by omega) | exact zS0_at rfl (by omega)) ?_ | refine z_ald5N d_Tf_seenStatus_47 (by first | assumption | exact zS0_at (by assumption) (by omega) | exact zS0_at rfl (by omega)) (by omega) (by first | decide | omega) (by first | assumption | exact zS0_at (by assumption) (by omega) | exact zS0_at rfl (by omega)) ?_ | refine z_ald6N d_Tf_seenStatus_47 (by first | assumption | exact zS0_at (by assumption) (by omega) | exact zS0_at rfl (by omega)) (by omega) (by first | decide | omega) (by first | assumption | exact zS0_at (by assumption) (by omega) | exact zS0_at rfl (by omega)) ?_
  refine z_iload_2 d_Tf_seenStatus_48 ?_
  refine z_Vi3 d_Tf_seenStatus_49 k_Tf_417 (by first | assumption | exact zS0_at (by assumption) (by omega) | exact zS0_at rfl (by omega)) (t_Seen_look_n Z N T (by omega) rfl hb) ⟨Nat.le_of_ble_eq_true rfl, Nat.le_of_ble_eq_true rfl, Nat.le_of_ble_eq_true rfl, Nat.le_of_ble_eq_true rfl⟩ (Nat.le_of_ble_eq_true rfl) ?_
  rintro r w ⟨rfl, I2, rfl, g1⟩
  refine z_if_eq (tgt := 59) d_Tf_seenStatus_52 (by decide) (fun _ => ?_) (fun h => absurd (by decide) h)
  refine z_iconst (a := nI 5) d_Tf_seenStatus_59 (by decide) ?_
  refine z_reti d_Tf_seenStatus_60 ?_
  exact ⟨rfl, I2, rfl, g1⟩
theorem t_Tf_seen (Z : clOk f d P S) (N : fenIn I f nt np nl nn) (ht : t < 4) (h0 : I (3 + 2 * t) 0 = nI 1) (hl : I (3 + 2 * t) 2 = nI l) (h : (2 : Int64) * (nI n).toInt64 ≤ (nI l).toInt64) (hX : X = J (3 + 2 * t + 1)) (hn : n ≤ 7) (hw : tw X np n u) (hfb : ∀ s, s < 64 → (fb s = true ↔ fitS (I (f + 2)) X n s)) : zEi G y_Tf_seenStatus prog_1_method_66_code 4 (some .int) 4 [.ref 0, .int (nI t), .int (nI n)] (I, J, P, S) (fun r w => r = nI 0 ∧ ∃ I' J', w = (I', J', P, S) ∧ xF 139 I I' ∧ (∀ q, q ≠ 139 → J' q = J q) ∧ I' 139 1 = nI (2 ^ nt) ∧ I' 139 2 = nI u ∧ fbL (J' 139 0) (2 ^ nt) fb) := by
  obtain ⟨⟨c0, c3, c1s⟩, ⟨c5, c2s, ctr⟩, ⟨c6, c11s, c11, c13s⟩, ⟨c7, c15s, c15⟩, ⟨c8, c16s, c16a, c16b, c17s⟩, ⟨c9, c10, cfd, F, Fd⟩, ⟨c11b, Ft⟩, ⟨c12, c69s, cmk⟩, ⟨c14, c121s, c121, c122s⟩, ⟨c15b, c123s, c123, c124s⟩, ⟨c16, c125s, c125, c126s⟩, ⟨c17, c127s, c127, c128s, ctb⟩, ⟨c18, c139s, c139, c140s⟩, ⟨c19, c141s, ⟨c141a, c142s⟩, ⟨c141b, c143s⟩, ⟨c141c, c144s⟩⟩, M⟩ := id Z
  obtain ⟨ct, T⟩ := ctr t ht
  obtain ⟨T0, T1, T2⟩ := id T
  refine zEi_of (lv := [some (.ref 0), some (.int (nI t)), some (.int (nI n)), none]) (by decide) rfl (Nat.le_of_ble_eq_true rfl) ?_
  refine z_aload_0 d_Tf_seenStatus_0 ?_
  refine z_iload_1 d_Tf_seenStatus_1 ?_
  refine z_Vi1 d_Tf_seenStatus_2 k_Tf_267 (by first | assumption | exact zS0_at (by assumption) (by omega) | exact zS0_at rfl (by omega)) (t_Tf_trayStatus_p Z ht h0) ⟨Nat.le_of_ble_eq_true rfl, Nat.le_of_ble_eq_true rfl, Nat.le_of_ble_eq_true rfl, Nat.le_of_ble_eq_true rfl⟩ (Nat.le_of_ble_eq_true rfl) ?_
  intro r w hq
  obtain ⟨rfl, rfl⟩ := hq
  first | refine z_istore_3 d_Tf_seenStatus_5 rfl ?_ | (refine z_forget_2 ?_; refine z_istore_3 d_Tf_seenStatus_5 rfl ?_)
  refine z_iload_3 d_Tf_seenStatus_6 ?_
  refine z_if_eq (tgt := 12) d_Tf_seenStatus_7 (by decide) (fun _ => ?_) (fun h => absurd (by decide) h)
  refine z_ldc2 d_Tf_seenStatus_12 c_Tf_412 ?_
  refine z_iload_2 d_Tf_seenStatus_15 ?_
  refine z_i2l d_Tf_seenStatus_16 ?_
  refine z_lmul d_Tf_seenStatus_17 ?_
  refine z_aload_0 d_Tf_seenStatus_18 ?_
  refine z_getR d_Tf_seenStatus_19 f_Tf_29 (by first | assumption | exact zS0_at (by assumption) (by omega) | exact zS0_at rfl (by omega)) (by first | assumption | exact zS0_at (by assumption) (by omega) | exact zS0_at rfl (by omega)) ?_
  refine z_iload_1 d_Tf_seenStatus_22 ?_
  first | refine z_ald4N d_Tf_seenStatus_23 (by first | assumption | exact zS0_at (by assumption) (by omega) | exact zS0_at rfl (by omega)) (by omega) (by first | decide | omega) (by first | assumption | exact zS0_at (by assumption) (by omega) | exact zS0_at rfl (by omega)) ?_ | refine z_ald5N d_Tf_seenStatus_23 (by first | assumption | exact zS0_at (by assumption) (by omega) | exact zS0_at rfl (by omega)) (by omega) (by first | decide | omega) (by first | assumption | exact zS0_at (by assumption) (by omega) | exact zS0_at rfl (by omega)) ?_ | refine z_ald6N d_Tf_seenStatus_23 (by first | assumption | exact zS0_at (by assumption) (by omega) | exact zS0_at rfl (by omega)) (by omega) (by first | decide | omega) (by first | assumption | exact zS0_at (by assumption) (by omega) | exact zS0_at rfl (by omega)) ?_
  refine z_getIv d_Tf_seenStatus_24 f_Tf_414 (by first | assumption | exact zS0_at (by assumption) (by omega) | exact zS0_at rfl (by omega)) (by first | assumption | ((try simp (disch := omega) only [zu_same, zu_ne, zcp_ne, zfl_ne]); first | assumption | rfl)) ?_
  refine z_i2l d_Tf_seenStatus_27 ?_
  refine z_lcmp d_Tf_seenStatus_28 ?_
  refine z_if_le (tgt := 34) d_Tf_seenStatus_29 (by decide) (fun _ => ?_) (fun h => absurd ((lg_cmp_le _ _).mpr (by assumption)) h)
  refine z_aload_0 d_Tf_seenStatus_34 ?_
  refine z_getR d_Tf_seenStatus_35 f_Tf_104 (by first | assumption | exact zS0_at (by assumption) (by omega) | exact zS0_at rfl (by omega)) (by first | assumption | exact zS0_at (by assumption) (by omega) | exact zS0_at rfl (by omega)) ?_
  refine z_aload_0 d_Tf_seenStatus_38 ?_
  refine z_getR d_Tf_seenStatus_39 f_Tf_60 (by first | assumption | exact zS0_at (by assumption) (by omega) | exact zS0_at rfl (by omega)) (by first | assumption | exact zS0_at (by assumption) (by omega) | exact zS0_at rfl (by omega)) ?_
  refine z_aload_0 d_Tf_seenStatus_42 ?_
  refine z_getR d_Tf_seenStatus_43 f_Tf_29 (by first | assumption | exact zS0_at (by assumption) (by omega) | exact zS0_at rfl (by omega)) (by first | assumption | exact zS0_at (by assumption) (by omega) | exact zS0_at rfl (by omega)) ?_
  refine z_iload_1 d_Tf_seenStatus_46 ?_
  first | refine z_ald4N d_Tf_seenStatus_47 (by first | assumption | exact zS0_at (by assumption) (by omega) | exact zS0_at rfl (by omega)) (by omega) (by first | decide | omega) (by first | assumption | exact zS0_at (by assumption) (by omega) | exact zS0_at rfl (by omega)) ?_ | refine z_ald5N d_Tf_seenStatus_47 (by first | assumption | exact zS0_at (by assumption) (by omega) | exact zS0_at rfl (by omega)) (by omega) (by first | decide | omega) (by first | assumption | exact zS0_at (by assumption) (by omega) | exact zS0_at rfl (by omega)) ?_ | refine z_ald6N d_Tf_seenStatus_47 (by first | assumption | exact zS0_at (by assumption) (by omega) | exact zS0_at rfl (by omega)) (by omega) (by first | decide | omega) (by first | assumption | exact zS0_at (by assumption) (by omega) | exact zS0_at rfl (by omega)) ?_
  refine z_iload_2 d_Tf_seenStatus_48 ?_
  refine z_Vi3 d_Tf_seenStatus_49 k_Tf_417 (by first | assumption | exact zS0_at (by assumption) (by omega) | exact zS0_at rfl (by omega)) (t_Seen_look Z N T (by omega) hX hn hw hfb) ⟨Nat.le_of_ble_eq_true rfl, Nat.le_of_ble_eq_true rfl, Nat.le_of_ble_eq_true rfl, Nat.le_of_ble_eq_true rfl⟩ (Nat.le_of_ble_eq_true rfl) ?_
  rintro r w ⟨rfl, I2, J2, rfl, g1⟩
  refine z_if_eq (tgt := 59) d_Tf_seenStatus_52 (by decide) (fun h => absurd h (by decide)) (fun _ => ?_)
  refine z_iconst (a := nI 0) d_Tf_seenStatus_55 (by decide) ?_
  refine z_goto (tgt := 60) d_Tf_seenStatus_56 (by decide) ?_
  refine z_reti d_Tf_seenStatus_60 ?_
  exact ⟨rfl, I2, J2, rfl, g1⟩
end SK0
