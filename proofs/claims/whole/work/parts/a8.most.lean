/-! most, givings: both sides -/
section MG0
variable {G : zG} {I I' I1 I2 I3 : Nat → Nat → Int32} {J J' J2 : Nat → Nat → Int64} {P : Nat → Nat → Option Nat} {S : List (Nat × Nat)} {f d nt np nl nn n fed mk t k p q s al r fr us m : Nat} {a c x : Int32} {w : zW} {kk : Nat → Nat}
theorem shr_N (hs : s < 2 ^ 31) (hn : n < 31) : nI s >>> (nI n &&& 31) = nI (s / 2 ^ n) := by
  apply b_ext
  intro i hi
  have e : ∀ x j, j < 32 → bt (nI x) j = x.testBit j := fun x j hj => by rw [← zB_bt hj]; exact zB_nI hj
  rw [b_sshr n (by omega) _ hi, e _ i hi, Nat.testBit_div_two_pow]
  split
  · rename_i h
    rw [e _ _ h, Nat.add_comm]
  · rename_i h
    rw [e _ _ (by decide), Nat.testBit_lt_two_pow hs, Nat.testBit_lt_two_pow (Nat.lt_of_lt_of_le hs (Nat.pow_le_pow_right (by decide) (by omega)))]
theorem shr_z (hs : s < 2 ^ 31) (hn : n < 31) : nI s >>> (nI n &&& 31) = 0 ↔ s < 2 ^ n := by
  have hd : s / 2 ^ n < 2 ^ 31 := Nat.lt_of_le_of_lt (Nat.div_le_self _ _) hs
  rw [shr_N hs hn, ← nI_0, nI_eq (by omega) (by omega)]
  exact Nat.div_eq_zero_iff_lt (Nat.pow_pos (by decide))
theorem neg_or (a : Int32) : a < 0 ∨ ∃ s, s < 2 ^ 31 ∧ a = nI s := by
  rcases pk_ix a (n := 2 ^ 31 - 1) (by decide) with h | h | ⟨j, hj, rfl⟩
  · exact Or.inl h
  · refine Or.inr ⟨2 ^ 31 - 1, by decide, ?_⟩
    apply Int32.toInt_inj.mp
    have h1 := Int32.le_iff_toInt_le.mp h
    have h2 := Int32.toInt_lt a
    have e : (nI (2 ^ 31 - 1)).toInt = 2 ^ 31 - 1 := by decide
    rw [e] at h1 ⊢
    omega
  · exact Or.inr ⟨j, by omega, rfl⟩
abbrev cGo (I : Nat → Nat → Int32) (f nn : Nat) : Int32 := s_set (fun t => decide (I (f + 6) t = -1)) nn
abbrev mGo (I : Nat → Nat → Int32) (nn : Nat) : Int32 := s_set (fun t => decide (I 150 (42 + t) < 0)) nn
theorem t_Tf_heap_o (Z : clOk f d P S) (N : fenIn I f nt np nl nn) (h : ¬ zin a (2 ^ nn)) : zEi G y_Tf_heapStatus prog_1_method_65_code 2 (some .int) 2 [.ref 0, .int a] (I, J, P, S) (fun r w => r = nI 5 ∧ w = (I, J, P, S)) := by
  obtain ⟨⟨c0, c3, c1s⟩, ⟨c5, c2s, ctr⟩, ⟨c6, c11s, c11, c13s⟩, ⟨c7, c15s, c15⟩, ⟨c8, c16s, c16a, c16b, c17s⟩, ⟨c9, c10, cfd, F, Fd⟩, ⟨c11b, Ft⟩, ⟨c12, c69s, cmk⟩, ⟨c14, c121s, c121, c122s⟩, ⟨c15b, c123s, c123, c124s⟩, ⟨c16, c125s, c125, c126s⟩, ⟨c17, c127s, c127, c128s, ctb⟩, ⟨c18, c139s, c139, c140s⟩, ⟨c19, c141s, ⟨c141a, c142s⟩, ⟨c141b, c143s⟩, ⟨c141c, c144s⟩⟩, M⟩ := id Z
  obtain ⟨F0, ⟨F8, F8s⟩, ⟨F9, F9s⟩, ⟨F10, F10s⟩, ⟨F11, F11s⟩, ⟨F12, F12s⟩, ⟨F13, F13s⟩, ⟨F14, F14s⟩, ⟨F15, F15s⟩, ⟨F16, F16s⟩, ⟨F17, F17s⟩, ⟨F18, F18s⟩, ⟨F19, F19s⟩, ⟨Y3, Y3s⟩, ⟨Y4, Y4s⟩, ⟨Y5, Y5s⟩, ⟨Y6, Y6s⟩⟩ := id F
  obtain ⟨⟨n1, n1b⟩, ⟨n2, n2b⟩, ⟨n3, n3b⟩, ⟨n4, n4b⟩, nof, non⟩ := id N
  rcases neg_or a with ha | ⟨s, hs, rfl⟩
  · refine zEi_of (lv := [some (.ref 0), some (.int a)]) (by decide) rfl (Nat.le_of_ble_eq_true rfl) ?_
    refine z_iload_1 d_Tf_heapStatus_0 ?_
    refine z_if_lt (tgt := 16) d_Tf_heapStatus_1 (by decide) (fun _ => ?_) (fun h => absurd ha h)
    refine z_iconst (a := nI 5) d_Tf_heapStatus_16 (by decide) ?_
    refine z_reti d_Tf_heapStatus_17 ?_
    exact ⟨rfl, rfl⟩
  · have hne : ¬ nI s >>> (nI nn &&& 31) = 0 := fun q => h ⟨s, (shr_z hs (by omega)).mp q, rfl⟩
    refine zEi_of (lv := [some (.ref 0), some (.int (nI s))]) (by decide) rfl (Nat.le_of_ble_eq_true rfl) ?_
    refine z_iload_1 d_Tf_heapStatus_0 ?_
    refine z_if_lt (tgt := 16) d_Tf_heapStatus_1 (by decide) (fun h => absurd h (nI_pos (by omega))) (fun _ => ?_)
    refine z_iload_1 d_Tf_heapStatus_4 ?_
    refine z_aload_0 d_Tf_heapStatus_5 ?_
    refine z_getR d_Tf_heapStatus_6 f_Tf_60 (by first | assumption | exact zS0_at (by assumption) (by omega) | exact zS0_at rfl (by omega)) (by first | assumption | exact zS0_at (by assumption) (by omega) | exact zS0_at rfl (by omega)) ?_
    refine z_getIv d_Tf_heapStatus_9 f_Tf_171 (by first | assumption | exact zS0_at (by assumption) (by omega) | exact zS0_at rfl (by omega)) (by first | assumption | ((try simp (disch := omega) only [zu_same, zu_ne, zcp_ne, zfl_ne]); first | assumption | rfl)) ?_
    refine z_ishr d_Tf_heapStatus_12 ?_
    refine z_if_eq (tgt := 18) d_Tf_heapStatus_13 (by decide) (fun h => absurd h hne) (fun _ => ?_)
    refine z_iconst (a := nI 5) d_Tf_heapStatus_16 (by decide) ?_
    refine z_reti d_Tf_heapStatus_17 ?_
    exact ⟨rfl, rfl⟩
theorem t_Tf_heap_g (Z : clOk f d P S) (N : fenIn I f nt np nl nn) (hs : s < 2 ^ nn) (hg : ¬ nI s &&& cGo I f nn = 0) : zEi G y_Tf_heapStatus prog_1_method_65_code 2 (some .int) 2 [.ref 0, .int (nI s)] (I, J, P, S) (fun r w => r = nI 9 ∧ w = (I, J, P, S)) := by
  obtain ⟨⟨c0, c3, c1s⟩, ⟨c5, c2s, ctr⟩, ⟨c6, c11s, c11, c13s⟩, ⟨c7, c15s, c15⟩, ⟨c8, c16s, c16a, c16b, c17s⟩, ⟨c9, c10, cfd, F, Fd⟩, ⟨c11b, Ft⟩, ⟨c12, c69s, cmk⟩, ⟨c14, c121s, c121, c122s⟩, ⟨c15b, c123s, c123, c124s⟩, ⟨c16, c125s, c125, c126s⟩, ⟨c17, c127s, c127, c128s, ctb⟩, ⟨c18, c139s, c139, c140s⟩, ⟨c19, c141s, ⟨c141a, c142s⟩, ⟨c141b, c143s⟩, ⟨c141c, c144s⟩⟩, M⟩ := id Z
  obtain ⟨F0, ⟨F8, F8s⟩, ⟨F9, F9s⟩, ⟨F10, F10s⟩, ⟨F11, F11s⟩, ⟨F12, F12s⟩, ⟨F13, F13s⟩, ⟨F14, F14s⟩, ⟨F15, F15s⟩, ⟨F16, F16s⟩, ⟨F17, F17s⟩, ⟨F18, F18s⟩, ⟨F19, F19s⟩, ⟨Y3, Y3s⟩, ⟨Y4, Y4s⟩, ⟨Y5, Y5s⟩, ⟨Y6, Y6s⟩⟩ := id F
  obtain ⟨⟨n1, n1b⟩, ⟨n2, n2b⟩, ⟨n3, n3b⟩, ⟨n4, n4b⟩, nof, non⟩ := id N
  have h31 : s < 2 ^ 31 := Nat.lt_of_lt_of_le hs (Nat.pow_le_pow_right (by decide) (by omega))
  have he : nI s >>> (nI nn &&& 31) = 0 := (shr_z h31 (by omega)).mpr hs
  refine zEi_of (lv := [some (.ref 0), some (.int (nI s))]) (by decide) rfl (Nat.le_of_ble_eq_true rfl) ?_
  refine z_iload_1 d_Tf_heapStatus_0 ?_
  refine z_if_lt (tgt := 16) d_Tf_heapStatus_1 (by decide) (fun h => absurd h (nI_pos (by omega))) (fun _ => ?_)
  refine z_iload_1 d_Tf_heapStatus_4 ?_
  refine z_aload_0 d_Tf_heapStatus_5 ?_
  refine z_getR d_Tf_heapStatus_6 f_Tf_60 (by first | assumption | exact zS0_at (by assumption) (by omega) | exact zS0_at rfl (by omega)) (by first | assumption | exact zS0_at (by assumption) (by omega) | exact zS0_at rfl (by omega)) ?_
  refine z_getIv d_Tf_heapStatus_9 f_Tf_171 (by first | assumption | exact zS0_at (by assumption) (by omega) | exact zS0_at rfl (by omega)) (by first | assumption | ((try simp (disch := omega) only [zu_same, zu_ne, zcp_ne, zfl_ne]); first | assumption | rfl)) ?_
  refine z_ishr d_Tf_heapStatus_12 ?_
  refine z_if_eq (tgt := 18) d_Tf_heapStatus_13 (by decide) (fun _ => ?_) (fun h => absurd he h)
  refine z_iload_1 d_Tf_heapStatus_18 ?_
  refine z_aload_0 d_Tf_heapStatus_19 ?_
  refine z_getR d_Tf_heapStatus_20 f_Tf_60 (by first | assumption | exact zS0_at (by assumption) (by omega) | exact zS0_at rfl (by omega)) (by first | assumption | exact zS0_at (by assumption) (by omega) | exact zS0_at rfl (by omega)) ?_
  refine z_iconst (a := -1) d_Tf_heapStatus_23 (by decide) ?_
  refine z_Vi1 d_Tf_heapStatus_24 k_Tf_214 (by first | assumption | exact zS0_at (by assumption) (by omega) | exact zS0_at rfl (by omega)) (t_Fen_wornBy F N) ⟨Nat.le_of_ble_eq_true rfl, Nat.le_of_ble_eq_true rfl, Nat.le_of_ble_eq_true rfl, Nat.le_of_ble_eq_true rfl⟩ (Nat.le_of_ble_eq_true rfl) ?_
  intro r w hq
  obtain ⟨rfl, rfl⟩ := hq
  refine z_iand d_Tf_heapStatus_27 ?_
  refine z_if_eq (tgt := 36) d_Tf_heapStatus_28 (by decide) (fun h => absurd h hg) (fun _ => ?_)
  refine z_bipush (a := nI 9) d_Tf_heapStatus_31 (by decide) ?_
  refine z_goto (tgt := 37) d_Tf_heapStatus_33 (by decide) ?_
  refine z_reti d_Tf_heapStatus_37 ?_
  exact ⟨rfl, rfl⟩
theorem t_Tf_heap_p (Z : clOk f d P S) (N : fenIn I f nt np nl nn) (hs : s < 2 ^ nn) (hg : nI s &&& cGo I f nn = 0) : zEi G y_Tf_heapStatus prog_1_method_65_code 2 (some .int) 2 [.ref 0, .int (nI s)] (I, J, P, S) (fun r w => r = nI 0 ∧ w = (I, J, P, S)) := by
  obtain ⟨⟨c0, c3, c1s⟩, ⟨c5, c2s, ctr⟩, ⟨c6, c11s, c11, c13s⟩, ⟨c7, c15s, c15⟩, ⟨c8, c16s, c16a, c16b, c17s⟩, ⟨c9, c10, cfd, F, Fd⟩, ⟨c11b, Ft⟩, ⟨c12, c69s, cmk⟩, ⟨c14, c121s, c121, c122s⟩, ⟨c15b, c123s, c123, c124s⟩, ⟨c16, c125s, c125, c126s⟩, ⟨c17, c127s, c127, c128s, ctb⟩, ⟨c18, c139s, c139, c140s⟩, ⟨c19, c141s, ⟨c141a, c142s⟩, ⟨c141b, c143s⟩, ⟨c141c, c144s⟩⟩, M⟩ := id Z
  obtain ⟨F0, ⟨F8, F8s⟩, ⟨F9, F9s⟩, ⟨F10, F10s⟩, ⟨F11, F11s⟩, ⟨F12, F12s⟩, ⟨F13, F13s⟩, ⟨F14, F14s⟩, ⟨F15, F15s⟩, ⟨F16, F16s⟩, ⟨F17, F17s⟩, ⟨F18, F18s⟩, ⟨F19, F19s⟩, ⟨Y3, Y3s⟩, ⟨Y4, Y4s⟩, ⟨Y5, Y5s⟩, ⟨Y6, Y6s⟩⟩ := id F
  obtain ⟨⟨n1, n1b⟩, ⟨n2, n2b⟩, ⟨n3, n3b⟩, ⟨n4, n4b⟩, nof, non⟩ := id N
  have h31 : s < 2 ^ 31 := Nat.lt_of_lt_of_le hs (Nat.pow_le_pow_right (by decide) (by omega))
  have he : nI s >>> (nI nn &&& 31) = 0 := (shr_z h31 (by omega)).mpr hs
  refine zEi_of (lv := [some (.ref 0), some (.int (nI s))]) (by decide) rfl (Nat.le_of_ble_eq_true rfl) ?_
  refine z_iload_1 d_Tf_heapStatus_0 ?_
  refine z_if_lt (tgt := 16) d_Tf_heapStatus_1 (by decide) (fun h => absurd h (nI_pos (by omega))) (fun _ => ?_)
  refine z_iload_1 d_Tf_heapStatus_4 ?_
  refine z_aload_0 d_Tf_heapStatus_5 ?_
  refine z_getR d_Tf_heapStatus_6 f_Tf_60 (by first | assumption | exact zS0_at (by assumption) (by omega) | exact zS0_at rfl (by omega)) (by first | assumption | exact zS0_at (by assumption) (by omega) | exact zS0_at rfl (by omega)) ?_
  refine z_getIv d_Tf_heapStatus_9 f_Tf_171 (by first | assumption | exact zS0_at (by assumption) (by omega) | exact zS0_at rfl (by omega)) (by first | assumption | ((try simp (disch := omega) only [zu_same, zu_ne, zcp_ne, zfl_ne]); first | assumption | rfl)) ?_
  refine z_ishr d_Tf_heapStatus_12 ?_
  refine z_if_eq (tgt := 18) d_Tf_heapStatus_13 (by decide) (fun _ => ?_) (fun h => absurd he h)
  refine z_iload_1 d_Tf_heapStatus_18 ?_
  refine z_aload_0 d_Tf_heapStatus_19 ?_
  refine z_getR d_Tf_heapStatus_20 f_Tf_60 (by first | assumption | exact zS0_at (by assumption) (by omega) | exact zS0_at rfl (by omega)) (by first | assumption | exact zS0_at (by assumption) (by omega) | exact zS0_at rfl (by omega)) ?_
  refine z_iconst (a := -1) d_Tf_heapStatus_23 (by decide) ?_
  refine z_Vi1 d_Tf_heapStatus_24 k_Tf_214 (by first | assumption | exact zS0_at (by assumption) (by omega) | exact zS0_at rfl (by omega)) (t_Fen_wornBy F N) ⟨Nat.le_of_ble_eq_true rfl, Nat.le_of_ble_eq_true rfl, Nat.le_of_ble_eq_true rfl, Nat.le_of_ble_eq_true rfl⟩ (Nat.le_of_ble_eq_true rfl) ?_
  intro r w hq
  obtain ⟨rfl, rfl⟩ := hq
  refine z_iand d_Tf_heapStatus_27 ?_
  refine z_if_eq (tgt := 36) d_Tf_heapStatus_28 (by decide) (fun _ => ?_) (fun h => absurd hg h)
  refine z_iconst (a := nI 0) d_Tf_heapStatus_36 (by decide) ?_
  refine z_reti d_Tf_heapStatus_37 ?_
  exact ⟨rfl, rfl⟩
theorem t_Mo_tins_x (M : modOk P S) (N : modIn I nt np nl nn) : zEi G y_Mo_whyNoTins prog_14_method_115_code 2 (some .int) 3 [.ref 145, .int a] (I, J, P, S) (fun r w => (¬ zin a (2 ^ nn) ∧ r = nI 5 ∨ zin a (2 ^ nn) ∧ (¬ a &&& mGo I nn = 0 ∧ r = nI 9 ∨ a &&& mGo I nn = 0 ∧ r = nI 0)) ∧ w = (I, J, P, S)) := by
  obtain ⟨M0, ⟨M4, M4s⟩, ⟨M5, M5s⟩, ⟨M6, M6s⟩, ⟨M7, M7s⟩, ⟨M20, M20s⟩, ⟨M21, M21s⟩, ⟨M22, M22s⟩, ⟨M26, M26s⟩, ⟨M27, M27s⟩, ⟨M28, M28s⟩, ⟨M30, M30s⟩, ⟨M34, M34s⟩, ⟨M36, M36s⟩, ⟨M37, M37s⟩⟩ := id M
  obtain ⟨⟨m0, m0b⟩, ⟨m1, m1b⟩, ⟨m2, m2b⟩, ⟨m3, m3b⟩, mof, mon⟩ := id N
  have h1p : 0 < 2 ^ nn := Nat.pow_pos (by decide)
  have h5 : 2 ^ nn ≤ 512 := Nat.pow_le_pow_right (n := 2) (i := nn) (j := 9) (by decide) (by omega)
  refine zEi_of (lv := [some (.ref 145), some (.int a)]) (by decide) rfl (Nat.le_of_ble_eq_true rfl) ?_
  refine z_iload_1 d_Mo_whyNoTins_0 ?_
  refine z_i2l d_Mo_whyNoTins_1 ?_
  refine z_lconst (f := lN 0) d_Mo_whyNoTins_2 rfl ?_
  refine z_aload_0 d_Mo_whyNoTins_3 ?_
  refine z_Vi0 d_Mo_whyNoTins_4 k_Mo_316 (by first | assumption | exact zS0_at (by assumption) (by omega) | exact zS0_at rfl (by omega)) (t_Mo_allTins M N) ⟨Nat.le_of_ble_eq_true rfl, Nat.le_of_ble_eq_true rfl, Nat.le_of_ble_eq_true rfl, Nat.le_of_ble_eq_true rfl⟩ (Nat.le_of_ble_eq_true rfl) ?_
  intro r w hq
  obtain ⟨rfl, rfl⟩ := hq
  refine z_i2l d_Mo_whyNoTins_7 ?_
  refine z_Si3 d_Mo_whyNoTins_8 k_Mo_105 (t_Mo_isInZ (m := 2 ^ nn) (by omega) (by rw [Int32.toInt_toInt64, nI_int (by omega)]; omega)) ⟨Nat.le_of_ble_eq_true rfl, Nat.le_of_ble_eq_true rfl, Nat.le_of_ble_eq_true rfl, Nat.le_of_ble_eq_true rfl⟩ (Nat.le_of_ble_eq_true rfl) ?_
  intro r w hq
  rcases hq with ⟨⟨hz, rfl⟩ | ⟨hz, rfl⟩, rfl⟩
  · refine z_if_ne (tgt := 18) d_Mo_whyNoTins_11 (by decide) (fun _ => ?_) (fun h => absurd h (by decide))
    refine z_iload_1 d_Mo_whyNoTins_18 ?_
    refine z_aload_0 d_Mo_whyNoTins_19 ?_
    refine z_iconst (a := nI 0) d_Mo_whyNoTins_20 (by decide) ?_
    refine z_Vi1 d_Mo_whyNoTins_21 k_Mo_319 (by first | assumption | exact zS0_at (by assumption) (by omega) | exact zS0_at rfl (by omega)) (t_Mo_tinsThat0 M N) ⟨Nat.le_of_ble_eq_true rfl, Nat.le_of_ble_eq_true rfl, Nat.le_of_ble_eq_true rfl, Nat.le_of_ble_eq_true rfl⟩ (Nat.le_of_ble_eq_true rfl) ?_
    intro r w hq
    obtain ⟨rfl, rfl⟩ := hq
    refine z_iand d_Mo_whyNoTins_24 ?_
    refine z_if_eq (tgt := 33) d_Mo_whyNoTins_25 (by decide) (fun hc => ?_) (fun hc => ?_)
    · refine z_iconst (a := nI 0) d_Mo_whyNoTins_33 (by decide) ?_
      refine z_reti d_Mo_whyNoTins_34 ?_
      exact ⟨Or.inr ⟨hz, Or.inr ⟨hc, rfl⟩⟩, rfl⟩
    · refine z_bipush (a := nI 9) d_Mo_whyNoTins_28 (by decide) ?_
      refine z_goto (tgt := 34) d_Mo_whyNoTins_30 (by decide) ?_
      refine z_reti d_Mo_whyNoTins_34 ?_
      exact ⟨Or.inr ⟨hz, Or.inl ⟨hc, rfl⟩⟩, rfl⟩
  · refine z_if_ne (tgt := 18) d_Mo_whyNoTins_11 (by decide) (fun h => absurd (by decide) h) (fun _ => ?_)
    refine z_iconst (a := nI 5) d_Mo_whyNoTins_14 (by decide) ?_
    refine z_goto (tgt := 34) d_Mo_whyNoTins_15 (by decide) ?_
    refine z_reti d_Mo_whyNoTins_34 ?_
    exact ⟨Or.inl ⟨hz, rfl⟩, rfl⟩
theorem tbF_q (h : tbF I I') : cqF I I' := ⟨fun a _ g => h a (by omega), fun k _ => by rw [h 0 (by omega)]⟩
theorem np_0 : 0 < 2 ^ np := Nat.pow_pos (by decide)
theorem t_Giv_waysOf (Z : clOk f d P S) (N : fenIn I f nt np nl nn) (hK : ∀ t, t < nn → I (f + 5) t = nI (kk t)) : zEi G y_Giv_waysOf prog_5_method_3_code 3 (some .int) 4 [.ref 127, .ref f, .int a] (I, J, P, S) (fun r w => r = nI (gW (gTr (I (f + 2)) kk np) (zB a) nn nn 0) ∧ ∃ I', w = (I', J, P, S) ∧ tbF I I') := by
  obtain ⟨⟨c0, c3, c1s⟩, ⟨c5, c2s, ctr⟩, ⟨c6, c11s, c11, c13s⟩, ⟨c7, c15s, c15⟩, ⟨c8, c16s, c16a, c16b, c17s⟩, ⟨c9, c10, cfd, F, Fd⟩, ⟨c11b, Ft⟩, ⟨c12, c69s, cmk⟩, ⟨c14, c121s, c121, c122s⟩, ⟨c15b, c123s, c123, c124s⟩, ⟨c16, c125s, c125, c126s⟩, ⟨c17, c127s, c127, c128s, ctb⟩, ⟨c18, c139s, c139, c140s⟩, ⟨c19, c141s, ⟨c141a, c142s⟩, ⟨c141b, c143s⟩, ⟨c141c, c144s⟩⟩, M⟩ := id Z
  have p0 := (ctb 0 (by omega)).1
  have s0 := (ctb 0 (by omega)).2
  refine zEi_of (lv := [some (.ref 127), some (.ref f), some (.int a)]) (by decide) rfl (Nat.le_of_ble_eq_true rfl) ?_
  refine z_aload_0 d_Giv_waysOf_0 ?_
  refine z_aload_1 d_Giv_waysOf_1 ?_
  refine z_iload_2 d_Giv_waysOf_2 ?_
  refine z_iconst (a := nI 1) d_Giv_waysOf_3 (by decide) ?_
  refine z_Vv3 d_Giv_waysOf_4 k_Giv_16 (by first | assumption | exact zS0_at (by assumption) (by omega) | exact zS0_at rfl (by omega)) (t_Giv_fill Z N hK (Or.inl rfl)) ⟨Nat.le_of_ble_eq_true rfl, Nat.le_of_ble_eq_true rfl, Nat.le_of_ble_eq_true rfl, Nat.le_of_ble_eq_true rfl⟩ (Nat.le_of_ble_eq_true rfl) ?_
  rintro w ⟨I2, rfl, g1, g2⟩
  have hv := g2 0 (Nat.zero_le _) 0 np_0
  refine z_aload_0 d_Giv_waysOf_7 ?_
  refine z_getR d_Giv_waysOf_8 f_Giv_13 (by first | assumption | exact zS0_at (by assumption) (by omega) | exact zS0_at rfl (by omega)) (by first | assumption | exact zS0_at (by assumption) (by omega) | exact zS0_at rfl (by omega)) ?_
  refine z_iconst (a := nI 0) d_Giv_waysOf_11 (by decide) ?_
  first | refine z_ald4N d_Giv_waysOf_12 (by first | assumption | exact zS0_at (by assumption) (by omega) | exact zS0_at rfl (by omega)) (by omega) (by first | decide | omega) (by first | assumption | exact zS0_at (by assumption) (by omega) | exact zS0_at rfl (by omega)) ?_ | refine z_ald5N d_Giv_waysOf_12 (by first | assumption | exact zS0_at (by assumption) (by omega) | exact zS0_at rfl (by omega)) (by omega) (by first | decide | omega) (by first | assumption | exact zS0_at (by assumption) (by omega) | exact zS0_at rfl (by omega)) ?_ | refine z_ald6N d_Giv_waysOf_12 (by first | assumption | exact zS0_at (by assumption) (by omega) | exact zS0_at rfl (by omega)) (by omega) (by first | decide | omega) (by first | assumption | exact zS0_at (by assumption) (by omega) | exact zS0_at rfl (by omega)) ?_
  refine z_iconst (a := nI 0) d_Giv_waysOf_13 (by decide) ?_
  first | refine z_ialdNv d_Giv_waysOf_14 (by first | assumption | exact zS0_at (by assumption) (by omega) | exact zS0_at rfl (by omega)) (by omega) (by first | decide | omega) (by first | assumption | ((try simp (disch := omega) only [zu_same, zu_ne, zcp_ne, zfl_ne]); first | assumption | rfl)) ?_ | refine z_iald d_Giv_waysOf_14 (by first | assumption | exact zS0_at (by assumption) (by omega) | exact zS0_at rfl (by omega)) (by first | assumption | exact zS0_at (by assumption) (by omega) | exact zS0_at rfl (by omega)) ?_
  refine z_reti d_Giv_waysOf_15 ?_
  exact ⟨rfl, I2, rfl, g1⟩
theorem t_Giv_mostOf (Z : clOk f d P S) (N : fenIn I f nt np nl nn) (hK : ∀ t, t < nn → I (f + 5) t = nI (kk t)) : zEi G y_Giv_mostOf prog_5_method_2_code 3 (some .int) 4 [.ref 127, .ref f, .int a] (I, J, P, S) (fun r w => r = nI (gB (gTr (I (f + 2)) kk np) (zB a) nn nn 0) ∧ ∃ I', w = (I', J, P, S) ∧ tbF I I') := by
  obtain ⟨⟨c0, c3, c1s⟩, ⟨c5, c2s, ctr⟩, ⟨c6, c11s, c11, c13s⟩, ⟨c7, c15s, c15⟩, ⟨c8, c16s, c16a, c16b, c17s⟩, ⟨c9, c10, cfd, F, Fd⟩, ⟨c11b, Ft⟩, ⟨c12, c69s, cmk⟩, ⟨c14, c121s, c121, c122s⟩, ⟨c15b, c123s, c123, c124s⟩, ⟨c16, c125s, c125, c126s⟩, ⟨c17, c127s, c127, c128s, ctb⟩, ⟨c18, c139s, c139, c140s⟩, ⟨c19, c141s, ⟨c141a, c142s⟩, ⟨c141b, c143s⟩, ⟨c141c, c144s⟩⟩, M⟩ := id Z
  have p0 := (ctb 0 (by omega)).1
  have s0 := (ctb 0 (by omega)).2
  refine zEi_of (lv := [some (.ref 127), some (.ref f), some (.int a)]) (by decide) rfl (Nat.le_of_ble_eq_true rfl) ?_
  refine z_aload_0 d_Giv_mostOf_0 ?_
  refine z_aload_1 d_Giv_mostOf_1 ?_
  refine z_iload_2 d_Giv_mostOf_2 ?_
  refine z_iconst (a := nI 0) d_Giv_mostOf_3 (by decide) ?_
  refine z_Vv3 d_Giv_mostOf_4 k_Giv_16 (by first | assumption | exact zS0_at (by assumption) (by omega) | exact zS0_at rfl (by omega)) (t_Giv_fill Z N hK (Or.inr rfl)) ⟨Nat.le_of_ble_eq_true rfl, Nat.le_of_ble_eq_true rfl, Nat.le_of_ble_eq_true rfl, Nat.le_of_ble_eq_true rfl⟩ (Nat.le_of_ble_eq_true rfl) ?_
  rintro w ⟨I2, rfl, g1, g2⟩
  have hv := g2 0 (Nat.zero_le _) 0 np_0
  refine z_aload_0 d_Giv_mostOf_7 ?_
  refine z_getR d_Giv_mostOf_8 f_Giv_13 (by first | assumption | exact zS0_at (by assumption) (by omega) | exact zS0_at rfl (by omega)) (by first | assumption | exact zS0_at (by assumption) (by omega) | exact zS0_at rfl (by omega)) ?_
  refine z_iconst (a := nI 0) d_Giv_mostOf_11 (by decide) ?_
  first | refine z_ald4N d_Giv_mostOf_12 (by first | assumption | exact zS0_at (by assumption) (by omega) | exact zS0_at rfl (by omega)) (by omega) (by first | decide | omega) (by first | assumption | exact zS0_at (by assumption) (by omega) | exact zS0_at rfl (by omega)) ?_ | refine z_ald5N d_Giv_mostOf_12 (by first | assumption | exact zS0_at (by assumption) (by omega) | exact zS0_at rfl (by omega)) (by omega) (by first | decide | omega) (by first | assumption | exact zS0_at (by assumption) (by omega) | exact zS0_at rfl (by omega)) ?_ | refine z_ald6N d_Giv_mostOf_12 (by first | assumption | exact zS0_at (by assumption) (by omega) | exact zS0_at rfl (by omega)) (by omega) (by first | decide | omega) (by first | assumption | exact zS0_at (by assumption) (by omega) | exact zS0_at rfl (by omega)) ?_
  refine z_iconst (a := nI 0) d_Giv_mostOf_13 (by decide) ?_
  first | refine z_ialdNv d_Giv_mostOf_14 (by first | assumption | exact zS0_at (by assumption) (by omega) | exact zS0_at rfl (by omega)) (by omega) (by first | decide | omega) (by first | assumption | ((try simp (disch := omega) only [zu_same, zu_ne, zcp_ne, zfl_ne]); first | assumption | rfl)) ?_ | refine z_iald d_Giv_mostOf_14 (by first | assumption | exact zS0_at (by assumption) (by omega) | exact zS0_at rfl (by omega)) (by first | assumption | exact zS0_at (by assumption) (by omega) | exact zS0_at rfl (by omega)) ?_
  refine z_reti d_Giv_mostOf_15 ?_
  exact ⟨rfl, I2, rfl, g1⟩
theorem kk_ok (fm : ∀ t, t < nn → (∃ k, k < nt ∧ I (f + 5) t = nI k ∧ I 150 (33 + t) = nI k)) (hn : nt ≤ 6) : ∃ kk : Nat → Nat, (∀ t, t < nn → I (f + 5) t = nI (kk t)) ∧ ∀ t, t < nn → I 150 (33 + t) = nI (kk t) := by
  refine ⟨fun t => (I (f + 5) t).toNatClampNeg, fun t ht => ?_, fun t ht => ?_⟩
  · obtain ⟨k, k1, k2, k3⟩ := fm t ht
    show I (f + 5) t = nI (I (f + 5) t).toNatClampNeg
    rw [k2, nI_clamp (by omega)]
  · obtain ⟨k, k1, k2, k3⟩ := fm t ht
    show I 150 (33 + t) = nI (I (f + 5) t).toNatClampNeg
    rw [k2, k3, nI_clamp (by omega)]
theorem gTr_c {A A' : Nat → Int32} (h : ∀ p, p < np → A' p = A p) : gTr A' kk np = gTr A kk np := by
  funext t p
  unfold gTr
  rw [s_set_congr np (fun q hq => by rw [h q hq])]
theorem t_Tf_most_o (Z : clOk f d P S) (N : fenIn I f nt np nl nn) (h : ¬ zin a (2 ^ nn)) : zEi G y_Tf_most prog_1_method_33_code 3 (some .int) 5 [.ref 0, .int a] (I, J, P, S) (fun r w => r = -1 ∧ cW I J P S 5 w) := by
  obtain ⟨⟨c0, c3, c1s⟩, ⟨c5, c2s, ctr⟩, ⟨c6, c11s, c11, c13s⟩, ⟨c7, c15s, c15⟩, ⟨c8, c16s, c16a, c16b, c17s⟩, ⟨c9, c10, cfd, F, Fd⟩, ⟨c11b, Ft⟩, ⟨c12, c69s, cmk⟩, ⟨c14, c121s, c121, c122s⟩, ⟨c15b, c123s, c123, c124s⟩, ⟨c16, c125s, c125, c126s⟩, ⟨c17, c127s, c127, c128s, ctb⟩, ⟨c18, c139s, c139, c140s⟩, ⟨c19, c141s, ⟨c141a, c142s⟩, ⟨c141b, c143s⟩, ⟨c141c, c144s⟩⟩, M⟩ := id Z
  refine zEi_of (lv := [some (.ref 0), some (.int a), none]) (by decide) rfl (Nat.le_of_ble_eq_true rfl) ?_
  refine z_aload_0 d_Tf_most_0 ?_
  refine z_iload_1 d_Tf_most_1 ?_
  refine z_Vi1 d_Tf_most_2 k_Tf_328 (by first | assumption | exact zS0_at (by assumption) (by omega) | exact zS0_at rfl (by omega)) (t_Tf_heap_o Z N h) ⟨Nat.le_of_ble_eq_true rfl, Nat.le_of_ble_eq_true rfl, Nat.le_of_ble_eq_true rfl, Nat.le_of_ble_eq_true rfl⟩ (Nat.le_of_ble_eq_true rfl) ?_
  intro r w hq
  obtain ⟨rfl, rfl⟩ := hq
  first | refine z_istore_2 d_Tf_most_5 rfl ?_ | (refine z_forget_1 ?_; refine z_istore_2 d_Tf_most_5 rfl ?_)
  refine z_iload_2 d_Tf_most_6 ?_
  refine z_if_eq (tgt := 18) d_Tf_most_7 (by decide) (fun h7 => ?_) (fun h7 => ?_)
  · first
    | (simp (disch := omega) only [← nI_0, nI_leI, nI_ltI, nI_eq, not_true_eq_false, not_false_eq_true] at h7; done)
    | (simp (disch := omega) only [← nI_0, nI_leI, nI_ltI, nI_eq, not_true_eq_false, not_false_eq_true] at h7; omega)
    | contradiction
    | exact absurd h7 (Int32.not_lt.mpr (by assumption))
    | exact absurd h7 (Int32.not_le.mpr (by assumption))
    | exact absurd h7 (by decide)
    | exact absurd (by decide) h7
    | ( try simp (disch := omega) only [← nI_0, nI_leI, nI_ltI, nI_eq, not_true_eq_false, not_false_eq_true] at h7
        (try have h7b := zbit_n0.mp h7); (try have h7b := zbit_p0.mp h7)
        fail)
  · first
    | (simp (disch := omega) only [← nI_0, nI_leI, nI_ltI, nI_eq, not_true_eq_false, not_false_eq_true] at h7; done)
    | (simp (disch := omega) only [← nI_0, nI_leI, nI_ltI, nI_eq, not_true_eq_false, not_false_eq_true] at h7; omega)
    | contradiction
    | exact absurd h7 (Int32.not_lt.mpr (by assumption))
    | exact absurd h7 (Int32.not_le.mpr (by assumption))
    | exact absurd h7 (by decide)
    | exact absurd (by decide) h7
    | ( try simp (disch := omega) only [← nI_0, nI_leI, nI_ltI, nI_eq, not_true_eq_false, not_false_eq_true] at h7
        (try have h7b := zbit_n0.mp h7); (try have h7b := zbit_p0.mp h7)
        refine z_aload_0 d_Tf_most_10 ?_
        refine z_iload_2 d_Tf_most_11 ?_
        refine z_Vi1 d_Tf_most_12 k_Tf_138 (by first | assumption | exact zS0_at (by assumption) (by omega) | exact zS0_at rfl (by omega)) (t_Tf_fail (by assumption)) ⟨Nat.le_of_ble_eq_true rfl, Nat.le_of_ble_eq_true rfl, Nat.le_of_ble_eq_true rfl, Nat.le_of_ble_eq_true rfl⟩ (Nat.le_of_ble_eq_true rfl) ?_
        intro r w hq
        obtain ⟨rfl, rfl⟩ := hq
        refine z_goto (tgt := 34) d_Tf_most_15 (by decide) ?_
        refine z_reti d_Tf_most_34 ?_
        exact ⟨rfl, cW_0⟩)
theorem t_Tf_most_g (Z : clOk f d P S) (N : fenIn I f nt np nl nn) (hs : s < 2 ^ nn) (hg : ¬ nI s &&& cGo I f nn = 0) : zEi G y_Tf_most prog_1_method_33_code 3 (some .int) 5 [.ref 0, .int (nI s)] (I, J, P, S) (fun r w => r = -1 ∧ cW I J P S 9 w) := by
  obtain ⟨⟨c0, c3, c1s⟩, ⟨c5, c2s, ctr⟩, ⟨c6, c11s, c11, c13s⟩, ⟨c7, c15s, c15⟩, ⟨c8, c16s, c16a, c16b, c17s⟩, ⟨c9, c10, cfd, F, Fd⟩, ⟨c11b, Ft⟩, ⟨c12, c69s, cmk⟩, ⟨c14, c121s, c121, c122s⟩, ⟨c15b, c123s, c123, c124s⟩, ⟨c16, c125s, c125, c126s⟩, ⟨c17, c127s, c127, c128s, ctb⟩, ⟨c18, c139s, c139, c140s⟩, ⟨c19, c141s, ⟨c141a, c142s⟩, ⟨c141b, c143s⟩, ⟨c141c, c144s⟩⟩, M⟩ := id Z
  refine zEi_of (lv := [some (.ref 0), some (.int (nI s)), none]) (by decide) rfl (Nat.le_of_ble_eq_true rfl) ?_
  refine z_aload_0 d_Tf_most_0 ?_
  refine z_iload_1 d_Tf_most_1 ?_
  refine z_Vi1 d_Tf_most_2 k_Tf_328 (by first | assumption | exact zS0_at (by assumption) (by omega) | exact zS0_at rfl (by omega)) (t_Tf_heap_g Z N hs hg) ⟨Nat.le_of_ble_eq_true rfl, Nat.le_of_ble_eq_true rfl, Nat.le_of_ble_eq_true rfl, Nat.le_of_ble_eq_true rfl⟩ (Nat.le_of_ble_eq_true rfl) ?_
  intro r w hq
  obtain ⟨rfl, rfl⟩ := hq
  first | refine z_istore_2 d_Tf_most_5 rfl ?_ | (refine z_forget_1 ?_; refine z_istore_2 d_Tf_most_5 rfl ?_)
  refine z_iload_2 d_Tf_most_6 ?_
  refine z_if_eq (tgt := 18) d_Tf_most_7 (by decide) (fun h7 => ?_) (fun h7 => ?_)
  · first
    | (simp (disch := omega) only [← nI_0, nI_leI, nI_ltI, nI_eq, not_true_eq_false, not_false_eq_true] at h7; done)
    | (simp (disch := omega) only [← nI_0, nI_leI, nI_ltI, nI_eq, not_true_eq_false, not_false_eq_true] at h7; omega)
    | contradiction
    | exact absurd h7 (Int32.not_lt.mpr (by assumption))
    | exact absurd h7 (Int32.not_le.mpr (by assumption))
    | exact absurd h7 (by decide)
    | exact absurd (by decide) h7
    | ( try simp (disch := omega) only [← nI_0, nI_leI, nI_ltI, nI_eq, not_true_eq_false, not_false_eq_true] at h7
        (try have h7b := zbit_n0.mp h7); (try have h7b := zbit_p0.mp h7)
        fail)
  · first
    | (simp (disch := omega) only [← nI_0, nI_leI, nI_ltI, nI_eq, not_true_eq_false, not_false_eq_true] at h7; done)
    | (simp (disch := omega) only [← nI_0, nI_leI, nI_ltI, nI_eq, not_true_eq_false, not_false_eq_true] at h7; omega)
    | contradiction
    | exact absurd h7 (Int32.not_lt.mpr (by assumption))
    | exact absurd h7 (Int32.not_le.mpr (by assumption))
    | exact absurd h7 (by decide)
    | exact absurd (by decide) h7
    | ( try simp (disch := omega) only [← nI_0, nI_leI, nI_ltI, nI_eq, not_true_eq_false, not_false_eq_true] at h7
        (try have h7b := zbit_n0.mp h7); (try have h7b := zbit_p0.mp h7)
        refine z_aload_0 d_Tf_most_10 ?_
        refine z_iload_2 d_Tf_most_11 ?_
        refine z_Vi1 d_Tf_most_12 k_Tf_138 (by first | assumption | exact zS0_at (by assumption) (by omega) | exact zS0_at rfl (by omega)) (t_Tf_fail (by assumption)) ⟨Nat.le_of_ble_eq_true rfl, Nat.le_of_ble_eq_true rfl, Nat.le_of_ble_eq_true rfl, Nat.le_of_ble_eq_true rfl⟩ (Nat.le_of_ble_eq_true rfl) ?_
        intro r w hq
        obtain ⟨rfl, rfl⟩ := hq
        refine z_goto (tgt := 34) d_Tf_most_15 (by decide) ?_
        refine z_reti d_Tf_most_34 ?_
        exact ⟨rfl, cW_0⟩)
theorem t_Tf_most (Z : clOk f d P S) (N : fenIn I f nt np nl nn) (hs : s < 2 ^ nn) (hg : nI s &&& cGo I f nn = 0) (hK : ∀ t, t < nn → I (f + 5) t = nI (kk t)) : zEi G y_Tf_most prog_1_method_33_code 3 (some .int) 5 [.ref 0, .int (nI s)] (I, J, P, S) (fun r w => r = nI (gB (gTr (I (f + 2)) kk np) (zB (nI s)) nn nn 0) ∧ cW I J P S 0 w) := by
  obtain ⟨⟨c0, c3, c1s⟩, ⟨c5, c2s, ctr⟩, ⟨c6, c11s, c11, c13s⟩, ⟨c7, c15s, c15⟩, ⟨c8, c16s, c16a, c16b, c17s⟩, ⟨c9, c10, cfd, F, Fd⟩, ⟨c11b, Ft⟩, ⟨c12, c69s, cmk⟩, ⟨c14, c121s, c121, c122s⟩, ⟨c15b, c123s, c123, c124s⟩, ⟨c16, c125s, c125, c126s⟩, ⟨c17, c127s, c127, c128s, ctb⟩, ⟨c18, c139s, c139, c140s⟩, ⟨c19, c141s, ⟨c141a, c142s⟩, ⟨c141b, c143s⟩, ⟨c141c, c144s⟩⟩, M⟩ := id Z
  refine zEi_of (lv := [some (.ref 0), some (.int (nI s)), none]) (by decide) rfl (Nat.le_of_ble_eq_true rfl) ?_
  refine z_aload_0 d_Tf_most_0 ?_
  refine z_iload_1 d_Tf_most_1 ?_
  refine z_Vi1 d_Tf_most_2 k_Tf_328 (by first | assumption | exact zS0_at (by assumption) (by omega) | exact zS0_at rfl (by omega)) (t_Tf_heap_p Z N hs hg) ⟨Nat.le_of_ble_eq_true rfl, Nat.le_of_ble_eq_true rfl, Nat.le_of_ble_eq_true rfl, Nat.le_of_ble_eq_true rfl⟩ (Nat.le_of_ble_eq_true rfl) ?_
  intro r w hq
  obtain ⟨rfl, rfl⟩ := hq
  first | refine z_istore_2 d_Tf_most_5 rfl ?_ | (refine z_forget_1 ?_; refine z_istore_2 d_Tf_most_5 rfl ?_)
  refine z_iload_2 d_Tf_most_6 ?_
  refine z_if_eq (tgt := 18) d_Tf_most_7 (by decide) (fun _ => ?_) (fun h => absurd (by decide) h)
  refine z_aload_0 d_Tf_most_18 ?_
  refine z_aload_0 d_Tf_most_19 ?_
  refine z_getR d_Tf_most_20 f_Tf_97 (by first | assumption | exact zS0_at (by assumption) (by omega) | exact zS0_at rfl (by omega)) (by first | assumption | exact zS0_at (by assumption) (by omega) | exact zS0_at rfl (by omega)) ?_
  refine z_aload_0 d_Tf_most_23 ?_
  refine z_getR d_Tf_most_24 f_Tf_60 (by first | assumption | exact zS0_at (by assumption) (by omega) | exact zS0_at rfl (by omega)) (by first | assumption | exact zS0_at (by assumption) (by omega) | exact zS0_at rfl (by omega)) ?_
  refine z_iload_1 d_Tf_most_27 ?_
  refine z_Vi2 d_Tf_most_28 k_Tf_331 (by first | assumption | exact zS0_at (by assumption) (by omega) | exact zS0_at rfl (by omega)) (t_Giv_mostOf Z N hK) ⟨Nat.le_of_ble_eq_true rfl, Nat.le_of_ble_eq_true rfl, Nat.le_of_ble_eq_true rfl, Nat.le_of_ble_eq_true rfl⟩ (Nat.le_of_ble_eq_true rfl) ?_
  rintro r w ⟨rfl, I2, rfl, g1⟩
  refine z_Vi1 d_Tf_most_31 k_Tf_174 (by first | assumption | exact zS0_at (by assumption) (by omega) | exact zS0_at rfl (by omega)) (t_Tf_give c0) ⟨Nat.le_of_ble_eq_true rfl, Nat.le_of_ble_eq_true rfl, Nat.le_of_ble_eq_true rfl, Nat.le_of_ble_eq_true rfl⟩ (Nat.le_of_ble_eq_true rfl) ?_
  intro r w hq
  obtain ⟨rfl, rfl⟩ := hq
  refine z_reti d_Tf_most_34 ?_
  exact ⟨rfl, _, _, rfl, cqF_0 (tbF_q g1), cqJ_r, zu_same _ _ _ _⟩
theorem t_Mo_most_x {st : Nat} (M : modOk P S) (N : modIn I nt np nl nn) (h : ¬ zin a (2 ^ nn) ∧ st = 5 ∨ zin a (2 ^ nn) ∧ ¬ a &&& mGo I nn = 0 ∧ st = 9) : zEi G y_Mo_most prog_14_method_116_code 2 (some .int) 5 [.ref 145, .int a] (I, J, P, S) (fun r w => r = -1 ∧ mW I J P S st w) := by
  obtain ⟨M0, ⟨M4, M4s⟩, ⟨M5, M5s⟩, ⟨M6, M6s⟩, ⟨M7, M7s⟩, ⟨M20, M20s⟩, ⟨M21, M21s⟩, ⟨M22, M22s⟩, ⟨M26, M26s⟩, ⟨M27, M27s⟩, ⟨M28, M28s⟩, ⟨M30, M30s⟩, ⟨M34, M34s⟩, ⟨M36, M36s⟩, ⟨M37, M37s⟩⟩ := id M
  have eG : mGo (zu I 145 1 (nI 0)) nn = mGo I nn := by unfold mGo; rw [zu_row _ _ _ _ (by decide)]
  refine zEi_of (lv := [some (.ref 145), some (.int a)]) (by decide) rfl (Nat.le_of_ble_eq_true rfl) ?_
  refine z_aload_0 d_Mo_most_0 ?_
  refine z_iconst (a := nI 0) d_Mo_most_1 (by decide) ?_
  refine z_putI d_Mo_most_2 f_Mo_70 (by first | assumption | exact zS0_at (by assumption) (by omega) | exact zS0_at rfl (by omega)) ?_
  refine z_aload_0 d_Mo_most_5 ?_
  refine z_aload_0 d_Mo_most_6 ?_
  refine z_iload_1 d_Mo_most_7 ?_
  refine z_Vi1 d_Mo_most_8 k_Mo_399 (by first | assumption | exact zS0_at (by assumption) (by omega) | exact zS0_at rfl (by omega)) (t_Mo_tins_x M (modIn_z N)) ⟨Nat.le_of_ble_eq_true rfl, Nat.le_of_ble_eq_true rfl, Nat.le_of_ble_eq_true rfl, Nat.le_of_ble_eq_true rfl⟩ (Nat.le_of_ble_eq_true rfl) ?_
  rintro r w ⟨hr, rfl⟩
  rw [eG] at hr
  have hr : r = nI st ∧ 0 < st ∧ st < 10 := by
    rcases h with ⟨h, rfl⟩ | ⟨h, h2, rfl⟩
    · rcases hr with ⟨-, hr⟩ | ⟨g, -⟩
      · exact ⟨hr, by omega, by omega⟩
      · exact absurd g h
    · rcases hr with ⟨g, -⟩ | ⟨-, ⟨-, hr⟩ | ⟨g, -⟩⟩
      · exact absurd h g
      · exact ⟨hr, by omega, by omega⟩
      · exact absurd g h2
  obtain ⟨rfl, h0, h10⟩ := hr
  refine z_putI d_Mo_most_11 f_Mo_73 (by first | assumption | exact zS0_at (by assumption) (by omega) | exact zS0_at rfl (by omega)) ?_
  refine z_aload_0 d_Mo_most_14 ?_
  refine z_getIv d_Mo_most_15 f_Mo_73 (by first | assumption | exact zS0_at (by assumption) (by omega) | exact zS0_at rfl (by omega)) (by first | assumption | ((try simp (disch := omega) only [zu_same, zu_ne, zcp_ne, zfl_ne]); first | assumption | rfl)) ?_
  refine z_if_le (tgt := 25) d_Mo_most_18 (by decide) (fun h => absurd h (fun q => by rw [← nI_0] at q; have := (nI_leI (by omega) (by omega)).mp q; omega)) (fun _ => ?_)
  refine z_iconst (a := -1) d_Mo_most_21 (by decide) ?_
  refine z_goto (tgt := 33) d_Mo_most_22 (by decide) ?_
  refine z_reti d_Mo_most_33 ?_
  exact ⟨rfl, _, _, rfl, mqF_z (mqF_z mqF_r (by decide)) (by decide), mqJ_r, zu_same _ _ _ _⟩
theorem t_Mo_most (M : modOk P S) (N : modIn I nt np nl nn) (ha : zin a (2 ^ nn)) (hg : a &&& mGo I nn = 0) (hK : ∀ t, t < nn → I 150 (33 + t) = nI (kk t)) : zEi G y_Mo_most prog_14_method_116_code 2 (some .int) 5 [.ref 145, .int a] (I, J, P, S) (fun r w => r = nI (gB (gTr (fun p => I 150 (12 + p)) kk np) (zB a) nn nn 0) ∧ mW I J P S 0 w) := by
  obtain ⟨M0, ⟨M4, M4s⟩, ⟨M5, M5s⟩, ⟨M6, M6s⟩, ⟨M7, M7s⟩, ⟨M20, M20s⟩, ⟨M21, M21s⟩, ⟨M22, M22s⟩, ⟨M26, M26s⟩, ⟨M27, M27s⟩, ⟨M28, M28s⟩, ⟨M30, M30s⟩, ⟨M34, M34s⟩, ⟨M36, M36s⟩, ⟨M37, M37s⟩⟩ := id M
  obtain ⟨I1, hI1, N1, h1, h0, e150, er, ek⟩ := mo_beg N
  have eG : mGo (zu I 145 1 (nI 0)) nn = mGo I nn := by unfold mGo; rw [zu_row _ _ _ _ (by decide)]
  refine zEi_of (lv := [some (.ref 145), some (.int a)]) (by decide) rfl (Nat.le_of_ble_eq_true rfl) ?_
  refine z_aload_0 d_Mo_most_0 ?_
  refine z_iconst (a := nI 0) d_Mo_most_1 (by decide) ?_
  refine z_putI d_Mo_most_2 f_Mo_70 (by first | assumption | exact zS0_at (by assumption) (by omega) | exact zS0_at rfl (by omega)) ?_
  refine z_aload_0 d_Mo_most_5 ?_
  refine z_aload_0 d_Mo_most_6 ?_
  refine z_iload_1 d_Mo_most_7 ?_
  refine z_Vi1 d_Mo_most_8 k_Mo_399 (by first | assumption | exact zS0_at (by assumption) (by omega) | exact zS0_at rfl (by omega)) (t_Mo_tins_x M (modIn_z N)) ⟨Nat.le_of_ble_eq_true rfl, Nat.le_of_ble_eq_true rfl, Nat.le_of_ble_eq_true rfl, Nat.le_of_ble_eq_true rfl⟩ (Nat.le_of_ble_eq_true rfl) ?_
  rintro r w ⟨hr, rfl⟩
  rw [eG] at hr
  have hr : r = nI 0 := by
    rcases hr with ⟨g, -⟩ | ⟨-, ⟨g, -⟩ | ⟨-, hr⟩⟩
    · exact absurd ha g
    · exact absurd hg g
    · exact hr
  subst hr
  refine z_putI d_Mo_most_11 f_Mo_73 (by first | assumption | exact zS0_at (by assumption) (by omega) | exact zS0_at rfl (by omega)) ?_
  rw [← hI1]
  refine z_aload_0 d_Mo_most_14 ?_
  refine z_getIv d_Mo_most_15 f_Mo_73 (by first | assumption | exact zS0_at (by assumption) (by omega) | exact zS0_at rfl (by omega)) (by first | assumption | ((try simp (disch := omega) only [zu_same, zu_ne, zcp_ne, zfl_ne]); first | assumption | rfl)) ?_
  refine z_if_le (tgt := 25) d_Mo_most_18 (by decide) (fun _ => ?_) (fun h => absurd (by decide) h)
  refine z_aload_0 d_Mo_most_25 ?_
  refine z_iload_1 d_Mo_most_26 ?_
  refine z_iconst (a := nI 0) d_Mo_most_27 (by decide) ?_
  refine z_iconst (a := nI 0) d_Mo_most_28 (by decide) ?_
  refine z_iconst (a := nI 0) d_Mo_most_29 (by decide) ?_
  refine z_Vi4 d_Mo_most_30 k_Mo_402 (by first | assumption | exact zS0_at (by assumption) (by omega) | exact zS0_at rfl (by omega)) (t_Mo_lays0 (kk := kk) M N1 (fun t ht => by rw [e150]; exact hK t ht)) ⟨Nat.le_of_ble_eq_true rfl, Nat.le_of_ble_eq_true rfl, Nat.le_of_ble_eq_true rfl, Nat.le_of_ble_eq_true rfl⟩ (Nat.le_of_ble_eq_true rfl) ?_
  rintro r w ⟨rfl, I2, rfl, g1⟩
  refine z_reti d_Mo_most_33 ?_
  rw [e150]
  exact ⟨rfl, _, _, rfl, mqF_t h1 (xF_m g1 (by omega)), mqJ_r, by rw [g1 145 (by decide)]; exact h0⟩
theorem L_most (h : zInv n w) : zEi G y_Tf_most prog_1_method_33_code 3 (some .int) 5 [.ref 0, .int a] w (fun r w1 => w1.2.2.2 = w.2.2.2 ∧ zEi G y_Mo_most prog_14_method_116_code 2 (some .int) 5 [.ref 145, .int a] w1 (fun r' w2 => r' = r ∧ zInv (n + 1) w2)) := by
  obtain ⟨f, d, nt, np, nl, nn, fed, mk, I, J, P, S, rfl, Z, X⟩ := h
  have M := clOk_M Z
  have hf := clOk_f Z
  have N := stR_fen X
  have N0 := stR_mod X
  have fm := stR_fm X
  obtain ⟨⟨⟨a1, r1, b1⟩, ⟨a2, r2, b2⟩, ⟨a3, r3, b3⟩, ⟨a4, r4, b4⟩⟩, ⟨⟨o, ob, ao, ro⟩, r5⟩, fw, fp, ft, fz⟩ := id fm
  have eG : ∀ I', I' 150 = I 150 → mGo I' nn = cGo I f nn := fun I' e => by
    unfold mGo cGo
    rw [e]
    exact set_gone (R := I (f + 6)) (R' := fun t => I 150 (42 + t)) (fun t ht => (ft t ht).2.1) b2
  by_cases ha : zin a (2 ^ nn)
  case neg => exact L_q Z X (t_Tf_most_o Z N ha) (fun I' J' e _ => ⟨_, rfl, t_Mo_most_x M (modIn_c N0 (e 150 (by decide))) (Or.inl ⟨ha, rfl⟩)⟩)
  obtain ⟨s, hs, rfl⟩ := id ha
  by_cases hg : nI s &&& cGo I f nn = 0
  case neg => exact L_q Z X (t_Tf_most_g Z N hs hg) (fun I' J' e _ => ⟨_, rfl, t_Mo_most_x M (modIn_c N0 (e 150 (by decide))) (Or.inr ⟨ha, by rw [eG I' (e 150 (by decide))]; exact hg, rfl⟩)⟩)
  obtain ⟨kk, hk1, hk2⟩ := kk_ok (I := I) (f := f) (fun t ht => (ft t ht).1) b1
  exact L_q Z X (t_Tf_most Z N hs hg hk1) (fun I' J' e _ => ⟨_, by
    rw [e 150 (by decide), gTr_c (A := I (f + 2)) (fun p hp => (fp p hp).1)], t_Mo_most (kk := kk) M (modIn_c N0 (e 150 (by decide))) ha (by rw [eG I' (e 150 (by decide))]; exact hg) (fun t ht => by rw [e 150 (by decide)]; exact hk2 t ht)⟩)
theorem t_Tf_givings_o (Z : clOk f d P S) (N : fenIn I f nt np nl nn) (h : ¬ zin a (2 ^ nn)) : zEi G y_Tf_givings prog_1_method_34_code 3 (some .int) 5 [.ref 0, .int a] (I, J, P, S) (fun r w => r = -1 ∧ cW I J P S 5 w) := by
  obtain ⟨⟨c0, c3, c1s⟩, ⟨c5, c2s, ctr⟩, ⟨c6, c11s, c11, c13s⟩, ⟨c7, c15s, c15⟩, ⟨c8, c16s, c16a, c16b, c17s⟩, ⟨c9, c10, cfd, F, Fd⟩, ⟨c11b, Ft⟩, ⟨c12, c69s, cmk⟩, ⟨c14, c121s, c121, c122s⟩, ⟨c15b, c123s, c123, c124s⟩, ⟨c16, c125s, c125, c126s⟩, ⟨c17, c127s, c127, c128s, ctb⟩, ⟨c18, c139s, c139, c140s⟩, ⟨c19, c141s, ⟨c141a, c142s⟩, ⟨c141b, c143s⟩, ⟨c141c, c144s⟩⟩, M⟩ := id Z
  refine zEi_of (lv := [some (.ref 0), some (.int a), none]) (by decide) rfl (Nat.le_of_ble_eq_true rfl) ?_
  refine z_aload_0 d_Tf_givings_0 ?_
  refine z_iload_1 d_Tf_givings_1 ?_
  refine z_Vi1 d_Tf_givings_2 k_Tf_328 (by first | assumption | exact zS0_at (by assumption) (by omega) | exact zS0_at rfl (by omega)) (t_Tf_heap_o Z N h) ⟨Nat.le_of_ble_eq_true rfl, Nat.le_of_ble_eq_true rfl, Nat.le_of_ble_eq_true rfl, Nat.le_of_ble_eq_true rfl⟩ (Nat.le_of_ble_eq_true rfl) ?_
  intro r w hq
  obtain ⟨rfl, rfl⟩ := hq
  first | refine z_istore_2 d_Tf_givings_5 rfl ?_ | (refine z_forget_1 ?_; refine z_istore_2 d_Tf_givings_5 rfl ?_)
  refine z_iload_2 d_Tf_givings_6 ?_
  refine z_if_eq (tgt := 18) d_Tf_givings_7 (by decide) (fun h7 => ?_) (fun h7 => ?_)
  · first
    | (simp (disch := omega) only [← nI_0, nI_leI, nI_ltI, nI_eq, not_true_eq_false, not_false_eq_true] at h7; done)
    | (simp (disch := omega) only [← nI_0, nI_leI, nI_ltI, nI_eq, not_true_eq_false, not_false_eq_true] at h7; omega)
    | contradiction
    | exact absurd h7 (Int32.not_lt.mpr (by assumption))
    | exact absurd h7 (Int32.not_le.mpr (by assumption))
    | exact absurd h7 (by decide)
    | exact absurd (by decide) h7
    | ( try simp (disch := omega) only [← nI_0, nI_leI, nI_ltI, nI_eq, not_true_eq_false, not_false_eq_true] at h7
        (try have h7b := zbit_n0.mp h7); (try have h7b := zbit_p0.mp h7)
        fail)
  · first
    | (simp (disch := omega) only [← nI_0, nI_leI, nI_ltI, nI_eq, not_true_eq_false, not_false_eq_true] at h7; done)
    | (simp (disch := omega) only [← nI_0, nI_leI, nI_ltI, nI_eq, not_true_eq_false, not_false_eq_true] at h7; omega)
    | contradiction
    | exact absurd h7 (Int32.not_lt.mpr (by assumption))
    | exact absurd h7 (Int32.not_le.mpr (by assumption))
    | exact absurd h7 (by decide)
    | exact absurd (by decide) h7
    | ( try simp (disch := omega) only [← nI_0, nI_leI, nI_ltI, nI_eq, not_true_eq_false, not_false_eq_true] at h7
        (try have h7b := zbit_n0.mp h7); (try have h7b := zbit_p0.mp h7)
        refine z_aload_0 d_Tf_givings_10 ?_
        refine z_iload_2 d_Tf_givings_11 ?_
        refine z_Vi1 d_Tf_givings_12 k_Tf_138 (by first | assumption | exact zS0_at (by assumption) (by omega) | exact zS0_at rfl (by omega)) (t_Tf_fail (by assumption)) ⟨Nat.le_of_ble_eq_true rfl, Nat.le_of_ble_eq_true rfl, Nat.le_of_ble_eq_true rfl, Nat.le_of_ble_eq_true rfl⟩ (Nat.le_of_ble_eq_true rfl) ?_
        intro r w hq
        obtain ⟨rfl, rfl⟩ := hq
        refine z_goto (tgt := 34) d_Tf_givings_15 (by decide) ?_
        refine z_reti d_Tf_givings_34 ?_
        exact ⟨rfl, cW_0⟩)
theorem t_Tf_givings_g (Z : clOk f d P S) (N : fenIn I f nt np nl nn) (hs : s < 2 ^ nn) (hg : ¬ nI s &&& cGo I f nn = 0) : zEi G y_Tf_givings prog_1_method_34_code 3 (some .int) 5 [.ref 0, .int (nI s)] (I, J, P, S) (fun r w => r = -1 ∧ cW I J P S 9 w) := by
  obtain ⟨⟨c0, c3, c1s⟩, ⟨c5, c2s, ctr⟩, ⟨c6, c11s, c11, c13s⟩, ⟨c7, c15s, c15⟩, ⟨c8, c16s, c16a, c16b, c17s⟩, ⟨c9, c10, cfd, F, Fd⟩, ⟨c11b, Ft⟩, ⟨c12, c69s, cmk⟩, ⟨c14, c121s, c121, c122s⟩, ⟨c15b, c123s, c123, c124s⟩, ⟨c16, c125s, c125, c126s⟩, ⟨c17, c127s, c127, c128s, ctb⟩, ⟨c18, c139s, c139, c140s⟩, ⟨c19, c141s, ⟨c141a, c142s⟩, ⟨c141b, c143s⟩, ⟨c141c, c144s⟩⟩, M⟩ := id Z
  refine zEi_of (lv := [some (.ref 0), some (.int (nI s)), none]) (by decide) rfl (Nat.le_of_ble_eq_true rfl) ?_
  refine z_aload_0 d_Tf_givings_0 ?_
  refine z_iload_1 d_Tf_givings_1 ?_
  refine z_Vi1 d_Tf_givings_2 k_Tf_328 (by first | assumption | exact zS0_at (by assumption) (by omega) | exact zS0_at rfl (by omega)) (t_Tf_heap_g Z N hs hg) ⟨Nat.le_of_ble_eq_true rfl, Nat.le_of_ble_eq_true rfl, Nat.le_of_ble_eq_true rfl, Nat.le_of_ble_eq_true rfl⟩ (Nat.le_of_ble_eq_true rfl) ?_
  intro r w hq
  obtain ⟨rfl, rfl⟩ := hq
  first | refine z_istore_2 d_Tf_givings_5 rfl ?_ | (refine z_forget_1 ?_; refine z_istore_2 d_Tf_givings_5 rfl ?_)
  refine z_iload_2 d_Tf_givings_6 ?_
  refine z_if_eq (tgt := 18) d_Tf_givings_7 (by decide) (fun h7 => ?_) (fun h7 => ?_)
  · first
    | (simp (disch := omega) only [← nI_0, nI_leI, nI_ltI, nI_eq, not_true_eq_false, not_false_eq_true] at h7; done)
    | (simp (disch := omega) only [← nI_0, nI_leI, nI_ltI, nI_eq, not_true_eq_false, not_false_eq_true] at h7; omega)
    | contradiction
    | exact absurd h7 (Int32.not_lt.mpr (by assumption))
    | exact absurd h7 (Int32.not_le.mpr (by assumption))
    | exact absurd h7 (by decide)
    | exact absurd (by decide) h7
    | ( try simp (disch := omega) only [← nI_0, nI_leI, nI_ltI, nI_eq, not_true_eq_false, not_false_eq_true] at h7
        (try have h7b := zbit_n0.mp h7); (try have h7b := zbit_p0.mp h7)
        fail)
  · first
    | (simp (disch := omega) only [← nI_0, nI_leI, nI_ltI, nI_eq, not_true_eq_false, not_false_eq_true] at h7; done)
    | (simp (disch := omega) only [← nI_0, nI_leI, nI_ltI, nI_eq, not_true_eq_false, not_false_eq_true] at h7; omega)
    | contradiction
    | exact absurd h7 (Int32.not_lt.mpr (by assumption))
    | exact absurd h7 (Int32.not_le.mpr (by assumption))
    | exact absurd h7 (by decide)
    | exact absurd (by decide) h7
    | ( try simp (disch := omega) only [← nI_0, nI_leI, nI_ltI, nI_eq, not_true_eq_false, not_false_eq_true] at h7
        (try have h7b := zbit_n0.mp h7); (try have h7b := zbit_p0.mp h7)
        refine z_aload_0 d_Tf_givings_10 ?_
        refine z_iload_2 d_Tf_givings_11 ?_
        refine z_Vi1 d_Tf_givings_12 k_Tf_138 (by first | assumption | exact zS0_at (by assumption) (by omega) | exact zS0_at rfl (by omega)) (t_Tf_fail (by assumption)) ⟨Nat.le_of_ble_eq_true rfl, Nat.le_of_ble_eq_true rfl, Nat.le_of_ble_eq_true rfl, Nat.le_of_ble_eq_true rfl⟩ (Nat.le_of_ble_eq_true rfl) ?_
        intro r w hq
        obtain ⟨rfl, rfl⟩ := hq
        refine z_goto (tgt := 34) d_Tf_givings_15 (by decide) ?_
        refine z_reti d_Tf_givings_34 ?_
        exact ⟨rfl, cW_0⟩)
theorem t_Tf_givings (Z : clOk f d P S) (N : fenIn I f nt np nl nn) (hs : s < 2 ^ nn) (hg : nI s &&& cGo I f nn = 0) (hK : ∀ t, t < nn → I (f + 5) t = nI (kk t)) : zEi G y_Tf_givings prog_1_method_34_code 3 (some .int) 5 [.ref 0, .int (nI s)] (I, J, P, S) (fun r w => r = nI (gW (gTr (I (f + 2)) kk np) (zB (nI s)) nn nn 0) ∧ cW I J P S 0 w) := by
  obtain ⟨⟨c0, c3, c1s⟩, ⟨c5, c2s, ctr⟩, ⟨c6, c11s, c11, c13s⟩, ⟨c7, c15s, c15⟩, ⟨c8, c16s, c16a, c16b, c17s⟩, ⟨c9, c10, cfd, F, Fd⟩, ⟨c11b, Ft⟩, ⟨c12, c69s, cmk⟩, ⟨c14, c121s, c121, c122s⟩, ⟨c15b, c123s, c123, c124s⟩, ⟨c16, c125s, c125, c126s⟩, ⟨c17, c127s, c127, c128s, ctb⟩, ⟨c18, c139s, c139, c140s⟩, ⟨c19, c141s, ⟨c141a, c142s⟩, ⟨c141b, c143s⟩, ⟨c141c, c144s⟩⟩, M⟩ := id Z
  refine zEi_of (lv := [some (.ref 0), some (.int (nI s)), none]) (by decide) rfl (Nat.le_of_ble_eq_true rfl) ?_
  refine z_aload_0 d_Tf_givings_0 ?_
  refine z_iload_1 d_Tf_givings_1 ?_
  refine z_Vi1 d_Tf_givings_2 k_Tf_328 (by first | assumption | exact zS0_at (by assumption) (by omega) | exact zS0_at rfl (by omega)) (t_Tf_heap_p Z N hs hg) ⟨Nat.le_of_ble_eq_true rfl, Nat.le_of_ble_eq_true rfl, Nat.le_of_ble_eq_true rfl, Nat.le_of_ble_eq_true rfl⟩ (Nat.le_of_ble_eq_true rfl) ?_
  intro r w hq
  obtain ⟨rfl, rfl⟩ := hq
  first | refine z_istore_2 d_Tf_givings_5 rfl ?_ | (refine z_forget_1 ?_; refine z_istore_2 d_Tf_givings_5 rfl ?_)
  refine z_iload_2 d_Tf_givings_6 ?_
  refine z_if_eq (tgt := 18) d_Tf_givings_7 (by decide) (fun _ => ?_) (fun h => absurd (by decide) h)
  refine z_aload_0 d_Tf_givings_18 ?_
  refine z_aload_0 d_Tf_givings_19 ?_
  refine z_getR d_Tf_givings_20 f_Tf_97 (by first | assumption | exact zS0_at (by assumption) (by omega) | exact zS0_at rfl (by omega)) (by first | assumption | exact zS0_at (by assumption) (by omega) | exact zS0_at rfl (by omega)) ?_
  refine z_aload_0 d_Tf_givings_23 ?_
  refine z_getR d_Tf_givings_24 f_Tf_60 (by first | assumption | exact zS0_at (by assumption) (by omega) | exact zS0_at rfl (by omega)) (by first | assumption | exact zS0_at (by assumption) (by omega) | exact zS0_at rfl (by omega)) ?_
  refine z_iload_1 d_Tf_givings_27 ?_
  refine z_Vi2 d_Tf_givings_28 k_Tf_334 (by first | assumption | exact zS0_at (by assumption) (by omega) | exact zS0_at rfl (by omega)) (t_Giv_waysOf Z N hK) ⟨Nat.le_of_ble_eq_true rfl, Nat.le_of_ble_eq_true rfl, Nat.le_of_ble_eq_true rfl, Nat.le_of_ble_eq_true rfl⟩ (Nat.le_of_ble_eq_true rfl) ?_
  rintro r w ⟨rfl, I2, rfl, g1⟩
  refine z_Vi1 d_Tf_givings_31 k_Tf_174 (by first | assumption | exact zS0_at (by assumption) (by omega) | exact zS0_at rfl (by omega)) (t_Tf_give c0) ⟨Nat.le_of_ble_eq_true rfl, Nat.le_of_ble_eq_true rfl, Nat.le_of_ble_eq_true rfl, Nat.le_of_ble_eq_true rfl⟩ (Nat.le_of_ble_eq_true rfl) ?_
  intro r w hq
  obtain ⟨rfl, rfl⟩ := hq
  refine z_reti d_Tf_givings_34 ?_
  exact ⟨rfl, _, _, rfl, cqF_0 (tbF_q g1), cqJ_r, zu_same _ _ _ _⟩
theorem t_Mo_givings_x {st : Nat} (M : modOk P S) (N : modIn I nt np nl nn) (h : ¬ zin a (2 ^ nn) ∧ st = 5 ∨ zin a (2 ^ nn) ∧ ¬ a &&& mGo I nn = 0 ∧ st = 9) : zEi G y_Mo_givings prog_14_method_117_code 2 (some .int) 5 [.ref 145, .int a] (I, J, P, S) (fun r w => r = -1 ∧ mW I J P S st w) := by
  obtain ⟨M0, ⟨M4, M4s⟩, ⟨M5, M5s⟩, ⟨M6, M6s⟩, ⟨M7, M7s⟩, ⟨M20, M20s⟩, ⟨M21, M21s⟩, ⟨M22, M22s⟩, ⟨M26, M26s⟩, ⟨M27, M27s⟩, ⟨M28, M28s⟩, ⟨M30, M30s⟩, ⟨M34, M34s⟩, ⟨M36, M36s⟩, ⟨M37, M37s⟩⟩ := id M
  have eG : mGo (zu I 145 1 (nI 0)) nn = mGo I nn := by unfold mGo; rw [zu_row _ _ _ _ (by decide)]
  refine zEi_of (lv := [some (.ref 145), some (.int a)]) (by decide) rfl (Nat.le_of_ble_eq_true rfl) ?_
  refine z_aload_0 d_Mo_givings_0 ?_
  refine z_iconst (a := nI 0) d_Mo_givings_1 (by decide) ?_
  refine z_putI d_Mo_givings_2 f_Mo_70 (by first | assumption | exact zS0_at (by assumption) (by omega) | exact zS0_at rfl (by omega)) ?_
  refine z_aload_0 d_Mo_givings_5 ?_
  refine z_aload_0 d_Mo_givings_6 ?_
  refine z_iload_1 d_Mo_givings_7 ?_
  refine z_Vi1 d_Mo_givings_8 k_Mo_399 (by first | assumption | exact zS0_at (by assumption) (by omega) | exact zS0_at rfl (by omega)) (t_Mo_tins_x M (modIn_z N)) ⟨Nat.le_of_ble_eq_true rfl, Nat.le_of_ble_eq_true rfl, Nat.le_of_ble_eq_true rfl, Nat.le_of_ble_eq_true rfl⟩ (Nat.le_of_ble_eq_true rfl) ?_
  rintro r w ⟨hr, rfl⟩
  rw [eG] at hr
  have hr : r = nI st ∧ 0 < st ∧ st < 10 := by
    rcases h with ⟨h, rfl⟩ | ⟨h, h2, rfl⟩
    · rcases hr with ⟨-, hr⟩ | ⟨g, -⟩
      · exact ⟨hr, by omega, by omega⟩
      · exact absurd g h
    · rcases hr with ⟨g, -⟩ | ⟨-, ⟨-, hr⟩ | ⟨g, -⟩⟩
      · exact absurd h g
      · exact ⟨hr, by omega, by omega⟩
      · exact absurd g h2
  obtain ⟨rfl, h0, h10⟩ := hr
  refine z_putI d_Mo_givings_11 f_Mo_73 (by first | assumption | exact zS0_at (by assumption) (by omega) | exact zS0_at rfl (by omega)) ?_
  refine z_aload_0 d_Mo_givings_14 ?_
  refine z_getIv d_Mo_givings_15 f_Mo_73 (by first | assumption | exact zS0_at (by assumption) (by omega) | exact zS0_at rfl (by omega)) (by first | assumption | ((try simp (disch := omega) only [zu_same, zu_ne, zcp_ne, zfl_ne]); first | assumption | rfl)) ?_
  refine z_if_le (tgt := 25) d_Mo_givings_18 (by decide) (fun h => absurd h (fun q => by rw [← nI_0] at q; have := (nI_leI (by omega) (by omega)).mp q; omega)) (fun _ => ?_)
  refine z_iconst (a := -1) d_Mo_givings_21 (by decide) ?_
  refine z_goto (tgt := 33) d_Mo_givings_22 (by decide) ?_
  refine z_reti d_Mo_givings_33 ?_
  exact ⟨rfl, _, _, rfl, mqF_z (mqF_z mqF_r (by decide)) (by decide), mqJ_r, zu_same _ _ _ _⟩
theorem t_Mo_givings (M : modOk P S) (N : modIn I nt np nl nn) (ha : zin a (2 ^ nn)) (hg : a &&& mGo I nn = 0) (hK : ∀ t, t < nn → I 150 (33 + t) = nI (kk t)) : zEi G y_Mo_givings prog_14_method_117_code 2 (some .int) 5 [.ref 145, .int a] (I, J, P, S) (fun r w => r = nI (gW (gTr (fun p => I 150 (12 + p)) kk np) (zB a) nn nn 0) ∧ mW I J P S 0 w) := by
  obtain ⟨M0, ⟨M4, M4s⟩, ⟨M5, M5s⟩, ⟨M6, M6s⟩, ⟨M7, M7s⟩, ⟨M20, M20s⟩, ⟨M21, M21s⟩, ⟨M22, M22s⟩, ⟨M26, M26s⟩, ⟨M27, M27s⟩, ⟨M28, M28s⟩, ⟨M30, M30s⟩, ⟨M34, M34s⟩, ⟨M36, M36s⟩, ⟨M37, M37s⟩⟩ := id M
  obtain ⟨I1, hI1, N1, h1, h0, e150, er, ek⟩ := mo_beg N
  have eG : mGo (zu I 145 1 (nI 0)) nn = mGo I nn := by unfold mGo; rw [zu_row _ _ _ _ (by decide)]
  refine zEi_of (lv := [some (.ref 145), some (.int a)]) (by decide) rfl (Nat.le_of_ble_eq_true rfl) ?_
  refine z_aload_0 d_Mo_givings_0 ?_
  refine z_iconst (a := nI 0) d_Mo_givings_1 (by decide) ?_
  refine z_putI d_Mo_givings_2 f_Mo_70 (by first | assumption | exact zS0_at (by assumption) (by omega) | exact zS0_at rfl (by omega)) ?_
  refine z_aload_0 d_Mo_givings_5 ?_
  refine z_aload_0 d_Mo_givings_6 ?_
  refine z_iload_1 d_Mo_givings_7 ?_
  refine z_Vi1 d_Mo_givings_8 k_Mo_399 (by first | assumption | exact zS0_at (by assumption) (by omega) | exact zS0_at rfl (by omega)) (t_Mo_tins_x M (modIn_z N)) ⟨Nat.le_of_ble_eq_true rfl, Nat.le_of_ble_eq_true rfl, Nat.le_of_ble_eq_true rfl, Nat.le_of_ble_eq_true rfl⟩ (Nat.le_of_ble_eq_true rfl) ?_
  rintro r w ⟨hr, rfl⟩
  rw [eG] at hr
  have hr : r = nI 0 := by
    rcases hr with ⟨g, -⟩ | ⟨-, ⟨g, -⟩ | ⟨-, hr⟩⟩
    · exact absurd ha g
    · exact absurd hg g
    · exact hr
  subst hr
  refine z_putI d_Mo_givings_11 f_Mo_73 (by first | assumption | exact zS0_at (by assumption) (by omega) | exact zS0_at rfl (by omega)) ?_
  rw [← hI1]
  refine z_aload_0 d_Mo_givings_14 ?_
  refine z_getIv d_Mo_givings_15 f_Mo_73 (by first | assumption | exact zS0_at (by assumption) (by omega) | exact zS0_at rfl (by omega)) (by first | assumption | ((try simp (disch := omega) only [zu_same, zu_ne, zcp_ne, zfl_ne]); first | assumption | rfl)) ?_
  refine z_if_le (tgt := 25) d_Mo_givings_18 (by decide) (fun _ => ?_) (fun h => absurd (by decide) h)
  refine z_aload_0 d_Mo_givings_25 ?_
  refine z_iload_1 d_Mo_givings_26 ?_
  refine z_iconst (a := nI 0) d_Mo_givings_27 (by decide) ?_
  refine z_iconst (a := nI 0) d_Mo_givings_28 (by decide) ?_
  refine z_iconst (a := nI 1) d_Mo_givings_29 (by decide) ?_
  refine z_Vi4 d_Mo_givings_30 k_Mo_402 (by first | assumption | exact zS0_at (by assumption) (by omega) | exact zS0_at rfl (by omega)) (t_Mo_lays1 (kk := kk) (fr := 0) (us := 0) M N1 (fun t ht => by rw [e150]; exact hK t ht) (Nat.zero_le _) (by decide)) ⟨Nat.le_of_ble_eq_true rfl, Nat.le_of_ble_eq_true rfl, Nat.le_of_ble_eq_true rfl, Nat.le_of_ble_eq_true rfl⟩ (Nat.le_of_ble_eq_true rfl) ?_
  rintro r w ⟨rfl, I2, rfl, g1⟩
  refine z_reti d_Mo_givings_33 ?_
  rw [e150]
  exact ⟨rfl, _, _, rfl, mqF_t h1 (xF_m g1 (by omega)), mqJ_r, by rw [g1 145 (by decide)]; exact h0⟩
theorem L_givings (h : zInv n w) : zEi G y_Tf_givings prog_1_method_34_code 3 (some .int) 5 [.ref 0, .int a] w (fun r w1 => w1.2.2.2 = w.2.2.2 ∧ zEi G y_Mo_givings prog_14_method_117_code 2 (some .int) 5 [.ref 145, .int a] w1 (fun r' w2 => r' = r ∧ zInv (n + 1) w2)) := by
  obtain ⟨f, d, nt, np, nl, nn, fed, mk, I, J, P, S, rfl, Z, X⟩ := h
  have M := clOk_M Z
  have hf := clOk_f Z
  have N := stR_fen X
  have N0 := stR_mod X
  have fm := stR_fm X
  obtain ⟨⟨⟨a1, r1, b1⟩, ⟨a2, r2, b2⟩, ⟨a3, r3, b3⟩, ⟨a4, r4, b4⟩⟩, ⟨⟨o, ob, ao, ro⟩, r5⟩, fw, fp, ft, fz⟩ := id fm
  have eG : ∀ I', I' 150 = I 150 → mGo I' nn = cGo I f nn := fun I' e => by
    unfold mGo cGo
    rw [e]
    exact set_gone (R := I (f + 6)) (R' := fun t => I 150 (42 + t)) (fun t ht => (ft t ht).2.1) b2
  by_cases ha : zin a (2 ^ nn)
  case neg => exact L_q Z X (t_Tf_givings_o Z N ha) (fun I' J' e _ => ⟨_, rfl, t_Mo_givings_x M (modIn_c N0 (e 150 (by decide))) (Or.inl ⟨ha, rfl⟩)⟩)
  obtain ⟨s, hs, rfl⟩ := id ha
  by_cases hg : nI s &&& cGo I f nn = 0
  case neg => exact L_q Z X (t_Tf_givings_g Z N hs hg) (fun I' J' e _ => ⟨_, rfl, t_Mo_givings_x M (modIn_c N0 (e 150 (by decide))) (Or.inr ⟨ha, by rw [eG I' (e 150 (by decide))]; exact hg, rfl⟩)⟩)
  obtain ⟨kk, hk1, hk2⟩ := kk_ok (I := I) (f := f) (fun t ht => (ft t ht).1) b1
  exact L_q Z X (t_Tf_givings Z N hs hg hk1) (fun I' J' e _ => ⟨_, by
    rw [e 150 (by decide), gTr_c (A := I (f + 2)) (fun p hp => (fp p hp).1)], t_Mo_givings (kk := kk) M (modIn_c N0 (e 150 (by decide))) ha (by rw [eG I' (e 150 (by decide))]; exact hg) (fun t ht => by rw [e 150 (by decide)]; exact hk2 t ht)⟩)
end MG0
