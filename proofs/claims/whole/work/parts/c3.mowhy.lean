/-! whyNoWhose: the reference -/
section SM0
variable {G : zG} {I I' I1 I2 I3 : Nat → Nat → Int32} {J J' J2 : Nat → Nat → Int64} {P : Nat → Nat → Option Nat} {S : List (Nat × Nat)} {f d nt np nl nn n t k p q s g i u v l st : Nat} {a b : Int32} {x y : Int64} {w : zW} {fb : Nat → Bool} {X : Nat → Int64}
def nF (I I' : Nat → Nat → Int32) : Prop := (∀ a, a ≠ 145 → I' a = I a) ∧ ∀ k, k ≠ 33 → I' 145 k = I 145 k
theorem nF_r : nF I I := ⟨fun _ _ => rfl, fun _ _ => rfl⟩
theorem nF_u (h : nF I I') : nF I (zu I' 145 33 a) := ⟨fun q hq => (zu_row _ _ _ _ hq).trans (h.1 q hq), fun k hk => (zu_ne _ _ _ _ (by omega)).trans (h.2 k hk)⟩
theorem in07 : (lN 0 ≤ x ∧ x ≤ (6 : Int64)) ↔ zinL x 7 := by
  rw [zinL_int (by decide), Int64.le_iff_toInt_le, Int64.le_iff_toInt_le, lN_int (by decide), show (6 : Int64).toInt = 6 by decide]
  omega
theorem t_Mo_wnw_o (M : modOk P S) (h : ¬ zin a 4) : zEi G y_Mo_whyNoWhose prog_14_method_128_code 4 (some .int) 3 [.ref 145, .int a, .int b] (I, J, P, S) (fun r w => r = nI 1 ∧ ∃ I', w = (I', J, P, S) ∧ nF I I') := by
  obtain ⟨M0, ⟨M4, M4s⟩, ⟨M5, M5s⟩, ⟨M6, M6s⟩, ⟨M7, M7s⟩, ⟨M20, M20s⟩, ⟨M21, M21s⟩, ⟨M22, M22s⟩, ⟨M26, M26s⟩, ⟨M27, M27s⟩, ⟨M28, M28s⟩, ⟨M30, M30s⟩, ⟨M34, M34s⟩, ⟨M36, M36s⟩, ⟨M37, M37s⟩⟩ := id M
  refine zEi_of (lv := [some (.ref 145), some (.int a), some (.int b), none]) (by decide) rfl (Nat.le_of_ble_eq_true rfl) ?_
  refine z_aload_0 d_Mo_whyNoWhose_0 ?_
  refine z_iload_1 d_Mo_whyNoWhose_1 ?_
  refine z_Vi1 d_Mo_whyNoWhose_2 k_Mo_347 (by first | assumption | exact zS0_at (by assumption) (by omega) | exact zS0_at rfl (by omega)) (t_Mo_isTray) ⟨Nat.le_of_ble_eq_true rfl, Nat.le_of_ble_eq_true rfl, Nat.le_of_ble_eq_true rfl, Nat.le_of_ble_eq_true rfl⟩ (Nat.le_of_ble_eq_true rfl) ?_
  intro r w hq
  rcases hq with ⟨⟨hz, rfl⟩ | ⟨hz, rfl⟩, rfl⟩
  · exact absurd hz h
  · refine z_if_ne (tgt := 10) d_Mo_whyNoWhose_5 (by decide) (fun h => absurd (by decide) h) (fun _ => ?_)
    refine z_iconst (a := nI 1) d_Mo_whyNoWhose_8 (by decide) ?_
    refine z_reti d_Mo_whyNoWhose_9 ?_
    exact ⟨rfl, I, rfl, nF_r⟩
theorem t_Mo_wnw_m (M : modOk P S) (ht : t < 4) (h0 : I 147 t = -1) : zEi G y_Mo_whyNoWhose prog_14_method_128_code 4 (some .int) 3 [.ref 145, .int (nI t), .int b] (I, J, P, S) (fun r w => r = nI 3 ∧ ∃ I', w = (I', J, P, S) ∧ nF I I') := by
  obtain ⟨M0, ⟨M4, M4s⟩, ⟨M5, M5s⟩, ⟨M6, M6s⟩, ⟨M7, M7s⟩, ⟨M20, M20s⟩, ⟨M21, M21s⟩, ⟨M22, M22s⟩, ⟨M26, M26s⟩, ⟨M27, M27s⟩, ⟨M28, M28s⟩, ⟨M30, M30s⟩, ⟨M34, M34s⟩, ⟨M36, M36s⟩, ⟨M37, M37s⟩⟩ := id M
  refine zEi_of (lv := [some (.ref 145), some (.int (nI t)), some (.int b), none]) (by decide) rfl (Nat.le_of_ble_eq_true rfl) ?_
  refine z_aload_0 d_Mo_whyNoWhose_0 ?_
  refine z_iload_1 d_Mo_whyNoWhose_1 ?_
  refine z_Vi1 d_Mo_whyNoWhose_2 k_Mo_347 (by first | assumption | exact zS0_at (by assumption) (by omega) | exact zS0_at rfl (by omega)) (t_Mo_isTray) ⟨Nat.le_of_ble_eq_true rfl, Nat.le_of_ble_eq_true rfl, Nat.le_of_ble_eq_true rfl, Nat.le_of_ble_eq_true rfl⟩ (Nat.le_of_ble_eq_true rfl) ?_
  intro r w hq
  rcases hq with ⟨⟨hz, rfl⟩ | ⟨hz, rfl⟩, rfl⟩
  · refine z_if_ne (tgt := 10) d_Mo_whyNoWhose_5 (by decide) (fun _ => ?_) (fun h => absurd h (by decide))
    refine z_aload_0 d_Mo_whyNoWhose_10 ?_
    refine z_getR d_Mo_whyNoWhose_11 f_Mo_17 (by first | assumption | exact zS0_at (by assumption) (by omega) | exact zS0_at rfl (by omega)) (by first | assumption | exact zS0_at (by assumption) (by omega) | exact zS0_at rfl (by omega)) ?_
    refine z_iload_1 d_Mo_whyNoWhose_14 ?_
    first | refine z_ialdNv d_Mo_whyNoWhose_15 (by first | assumption | exact zS0_at (by assumption) (by omega) | exact zS0_at rfl (by omega)) (by omega) (by first | decide | omega) (by first | assumption | ((try simp (disch := omega) only [zu_same, zu_ne, zcp_ne, zfl_ne]); first | assumption | rfl)) ?_ | refine z_iald d_Mo_whyNoWhose_15 (by first | assumption | exact zS0_at (by assumption) (by omega) | exact zS0_at rfl (by omega)) (by first | assumption | exact zS0_at (by assumption) (by omega) | exact zS0_at rfl (by omega)) ?_
    refine z_if_ge (tgt := 21) d_Mo_whyNoWhose_16 (by decide) (fun h => absurd h (by decide)) (fun _ => ?_)
    refine z_iconst (a := nI 3) d_Mo_whyNoWhose_19 (by decide) ?_
    refine z_reti d_Mo_whyNoWhose_20 ?_
    exact ⟨rfl, I, rfl, nF_r⟩
  · exact absurd ⟨t, ht, rfl⟩ hz
theorem t_Mo_wnw_l (M : modOk P S) (ht : t < 4) (hl : I 147 t = nI l) (hl6 : l ≤ 60) (hno : ¬ (2 : Int64) * b.toInt64 ≤ (nI l).toInt64) : zEi G y_Mo_whyNoWhose prog_14_method_128_code 4 (some .int) 3 [.ref 145, .int (nI t), .int b] (I, J, P, S) (fun r w => r = nI 4 ∧ ∃ I', w = (I', J, P, S) ∧ nF I I') := by
  obtain ⟨M0, ⟨M4, M4s⟩, ⟨M5, M5s⟩, ⟨M6, M6s⟩, ⟨M7, M7s⟩, ⟨M20, M20s⟩, ⟨M21, M21s⟩, ⟨M22, M22s⟩, ⟨M26, M26s⟩, ⟨M27, M27s⟩, ⟨M28, M28s⟩, ⟨M30, M30s⟩, ⟨M34, M34s⟩, ⟨M36, M36s⟩, ⟨M37, M37s⟩⟩ := id M
  refine zEi_of (lv := [some (.ref 145), some (.int (nI t)), some (.int b), none]) (by decide) rfl (Nat.le_of_ble_eq_true rfl) ?_
  refine z_aload_0 d_Mo_whyNoWhose_0 ?_
  refine z_iload_1 d_Mo_whyNoWhose_1 ?_
  refine z_Vi1 d_Mo_whyNoWhose_2 k_Mo_347 (by first | assumption | exact zS0_at (by assumption) (by omega) | exact zS0_at rfl (by omega)) (t_Mo_isTray) ⟨Nat.le_of_ble_eq_true rfl, Nat.le_of_ble_eq_true rfl, Nat.le_of_ble_eq_true rfl, Nat.le_of_ble_eq_true rfl⟩ (Nat.le_of_ble_eq_true rfl) ?_
  intro r w hq
  rcases hq with ⟨⟨hz, rfl⟩ | ⟨hz, rfl⟩, rfl⟩
  · refine z_if_ne (tgt := 10) d_Mo_whyNoWhose_5 (by decide) (fun _ => ?_) (fun h => absurd h (by decide))
    refine z_aload_0 d_Mo_whyNoWhose_10 ?_
    refine z_getR d_Mo_whyNoWhose_11 f_Mo_17 (by first | assumption | exact zS0_at (by assumption) (by omega) | exact zS0_at rfl (by omega)) (by first | assumption | exact zS0_at (by assumption) (by omega) | exact zS0_at rfl (by omega)) ?_
    refine z_iload_1 d_Mo_whyNoWhose_14 ?_
    first | refine z_ialdNv d_Mo_whyNoWhose_15 (by first | assumption | exact zS0_at (by assumption) (by omega) | exact zS0_at rfl (by omega)) (by omega) (by first | decide | omega) (by first | assumption | ((try simp (disch := omega) only [zu_same, zu_ne, zcp_ne, zfl_ne]); first | assumption | rfl)) ?_ | refine z_iald d_Mo_whyNoWhose_15 (by first | assumption | exact zS0_at (by assumption) (by omega) | exact zS0_at rfl (by omega)) (by first | assumption | exact zS0_at (by assumption) (by omega) | exact zS0_at rfl (by omega)) ?_
    refine z_if_ge (tgt := 21) d_Mo_whyNoWhose_16 (by decide) (fun _ => ?_) (fun h => absurd (Int32.not_lt.mp (nI_pos (by omega))) h)
    refine z_aload_0 d_Mo_whyNoWhose_21 ?_
    refine z_getR d_Mo_whyNoWhose_22 f_Mo_17 (by first | assumption | exact zS0_at (by assumption) (by omega) | exact zS0_at rfl (by omega)) (by first | assumption | exact zS0_at (by assumption) (by omega) | exact zS0_at rfl (by omega)) ?_
    refine z_iload_1 d_Mo_whyNoWhose_25 ?_
    first | refine z_ialdNv d_Mo_whyNoWhose_26 (by first | assumption | exact zS0_at (by assumption) (by omega) | exact zS0_at rfl (by omega)) (by omega) (by first | decide | omega) (by first | assumption | ((try simp (disch := omega) only [zu_same, zu_ne, zcp_ne, zfl_ne]); first | assumption | rfl)) ?_ | refine z_iald d_Mo_whyNoWhose_26 (by first | assumption | exact zS0_at (by assumption) (by omega) | exact zS0_at rfl (by omega)) (by first | assumption | exact zS0_at (by assumption) (by omega) | exact zS0_at rfl (by omega)) ?_
    refine z_i2l d_Mo_whyNoWhose_27 ?_
    refine z_ldc2 d_Mo_whyNoWhose_28 c_Mo_419 ?_
    refine z_iload_2 d_Mo_whyNoWhose_31 ?_
    refine z_i2l d_Mo_whyNoWhose_32 ?_
    refine z_lmul d_Mo_whyNoWhose_33 ?_
    refine z_lcmp d_Mo_whyNoWhose_34 ?_
    refine z_if_ge (tgt := 40) d_Mo_whyNoWhose_35 (by decide) (fun h => absurd h (by rw [lg_cmp_ge]; exact hno)) (fun _ => ?_)
    refine z_iconst (a := nI 4) d_Mo_whyNoWhose_38 (by decide) ?_
    refine z_reti d_Mo_whyNoWhose_39 ?_
    exact ⟨rfl, I, rfl, nF_r⟩
  · exact absurd ⟨t, ht, rfl⟩ hz
theorem t_Mo_wnw_b (M : modOk P S) (ht : t < 4) (hl : I 147 t = nI l) (hl6 : l ≤ 60) (hle : (2 : Int64) * b.toInt64 ≤ (nI l).toInt64) (hb : ¬ zin b 8) : zEi G y_Mo_whyNoWhose prog_14_method_128_code 4 (some .int) 3 [.ref 145, .int (nI t), .int b] (I, J, P, S) (fun r w => r = nI 5 ∧ ∃ I', w = (I', J, P, S) ∧ nF I I') := by
  obtain ⟨M0, ⟨M4, M4s⟩, ⟨M5, M5s⟩, ⟨M6, M6s⟩, ⟨M7, M7s⟩, ⟨M20, M20s⟩, ⟨M21, M21s⟩, ⟨M22, M22s⟩, ⟨M26, M26s⟩, ⟨M27, M27s⟩, ⟨M28, M28s⟩, ⟨M30, M30s⟩, ⟨M34, M34s⟩, ⟨M36, M36s⟩, ⟨M37, M37s⟩⟩ := id M
  refine zEi_of (lv := [some (.ref 145), some (.int (nI t)), some (.int b), none]) (by decide) rfl (Nat.le_of_ble_eq_true rfl) ?_
  refine z_aload_0 d_Mo_whyNoWhose_0 ?_
  refine z_iload_1 d_Mo_whyNoWhose_1 ?_
  refine z_Vi1 d_Mo_whyNoWhose_2 k_Mo_347 (by first | assumption | exact zS0_at (by assumption) (by omega) | exact zS0_at rfl (by omega)) (t_Mo_isTray) ⟨Nat.le_of_ble_eq_true rfl, Nat.le_of_ble_eq_true rfl, Nat.le_of_ble_eq_true rfl, Nat.le_of_ble_eq_true rfl⟩ (Nat.le_of_ble_eq_true rfl) ?_
  intro r w hq
  rcases hq with ⟨⟨hz, rfl⟩ | ⟨hz, rfl⟩, rfl⟩
  · refine z_if_ne (tgt := 10) d_Mo_whyNoWhose_5 (by decide) (fun _ => ?_) (fun h => absurd h (by decide))
    refine z_aload_0 d_Mo_whyNoWhose_10 ?_
    refine z_getR d_Mo_whyNoWhose_11 f_Mo_17 (by first | assumption | exact zS0_at (by assumption) (by omega) | exact zS0_at rfl (by omega)) (by first | assumption | exact zS0_at (by assumption) (by omega) | exact zS0_at rfl (by omega)) ?_
    refine z_iload_1 d_Mo_whyNoWhose_14 ?_
    first | refine z_ialdNv d_Mo_whyNoWhose_15 (by first | assumption | exact zS0_at (by assumption) (by omega) | exact zS0_at rfl (by omega)) (by omega) (by first | decide | omega) (by first | assumption | ((try simp (disch := omega) only [zu_same, zu_ne, zcp_ne, zfl_ne]); first | assumption | rfl)) ?_ | refine z_iald d_Mo_whyNoWhose_15 (by first | assumption | exact zS0_at (by assumption) (by omega) | exact zS0_at rfl (by omega)) (by first | assumption | exact zS0_at (by assumption) (by omega) | exact zS0_at rfl (by omega)) ?_
    refine z_if_ge (tgt := 21) d_Mo_whyNoWhose_16 (by decide) (fun _ => ?_) (fun h => absurd (Int32.not_lt.mp (nI_pos (by omega))) h)
    refine z_aload_0 d_Mo_whyNoWhose_21 ?_
    refine z_getR d_Mo_whyNoWhose_22 f_Mo_17 (by first | assumption | exact zS0_at (by assumption) (by omega) | exact zS0_at rfl (by omega)) (by first | assumption | exact zS0_at (by assumption) (by omega) | exact zS0_at rfl (by omega)) ?_
    refine z_iload_1 d_Mo_whyNoWhose_25 ?_
    first | refine z_ialdNv d_Mo_whyNoWhose_26 (by first | assumption | exact zS0_at (by assumption) (by omega) | exact zS0_at rfl (by omega)) (by omega) (by first | decide | omega) (by first | assumption | ((try simp (disch := omega) only [zu_same, zu_ne, zcp_ne, zfl_ne]); first | assumption | rfl)) ?_ | refine z_iald d_Mo_whyNoWhose_26 (by first | assumption | exact zS0_at (by assumption) (by omega) | exact zS0_at rfl (by omega)) (by first | assumption | exact zS0_at (by assumption) (by omega) | exact zS0_at rfl (by omega)) ?_
    refine z_i2l d_Mo_whyNoWhose_27 ?_
    refine z_ldc2 d_Mo_whyNoWhose_28 c_Mo_419 ?_
    refine z_iload_2 d_Mo_whyNoWhose_31 ?_
    refine z_i2l d_Mo_whyNoWhose_32 ?_
    refine z_lmul d_Mo_whyNoWhose_33 ?_
    refine z_lcmp d_Mo_whyNoWhose_34 ?_
    refine z_if_ge (tgt := 40) d_Mo_whyNoWhose_35 (by decide) (fun _ => ?_) (fun h => absurd ((lg_cmp_ge _ _).mpr hle) h)
    refine z_iload_2 d_Mo_whyNoWhose_40 ?_
    refine z_i2l d_Mo_whyNoWhose_41 ?_
    refine z_lconst (f := lN 0) d_Mo_whyNoWhose_42 rfl ?_
    refine z_ldc2 d_Mo_whyNoWhose_43 c_Mo_421 ?_
    refine z_Si3 d_Mo_whyNoWhose_46 k_Mo_105 (t_Mo_isInZ (m := 8) (by decide) (by decide)) ⟨Nat.le_of_ble_eq_true rfl, Nat.le_of_ble_eq_true rfl, Nat.le_of_ble_eq_true rfl, Nat.le_of_ble_eq_true rfl⟩ (Nat.le_of_ble_eq_true rfl) ?_
    intro r w hq
    rcases hq with ⟨⟨hz, rfl⟩ | ⟨hz, rfl⟩, rfl⟩
    · exact absurd hz hb
    · refine z_if_ne (tgt := 54) d_Mo_whyNoWhose_49 (by decide) (fun h => absurd (by decide) h) (fun _ => ?_)
      refine z_iconst (a := nI 5) d_Mo_whyNoWhose_52 (by decide) ?_
      refine z_reti d_Mo_whyNoWhose_53 ?_
      exact ⟨rfl, I, rfl, nF_r⟩
  · exact absurd ⟨t, ht, rfl⟩ hz
theorem t_Mo_wnw (M : modOk P S) (N : modIn I nt np nl nn) (ht : t < 4) (hl : I 147 t = nI l) (hl6 : l ≤ 60) (hle : (2 : Int64) * (nI n).toInt64 ≤ (nI l).toInt64) (hX : X = fun k => J 148 (60 * t + k)) (hn : n ≤ 7) : zEi G y_Mo_whyNoWhose prog_14_method_128_code 4 (some .int) 3 [.ref 145, .int (nI t), .int (nI n)] (I, J, P, S) (fun r w => ∃ I', w = (I', J, P, S) ∧ nF I I' ∧ ((∃ u, tw X np n u ∧ r = nI 0 ∧ I' 145 33 = nI u) ∨ (¬ (∃ u, tw X np n u) ∧ r = nI 5))) := by
  obtain ⟨M0, ⟨M4, M4s⟩, ⟨M5, M5s⟩, ⟨M6, M6s⟩, ⟨M7, M7s⟩, ⟨M20, M20s⟩, ⟨M21, M21s⟩, ⟨M22, M22s⟩, ⟨M26, M26s⟩, ⟨M27, M27s⟩, ⟨M28, M28s⟩, ⟨M30, M30s⟩, ⟨M34, M34s⟩, ⟨M36, M36s⟩, ⟨M37, M37s⟩⟩ := id M
  obtain ⟨⟨m0, m0b⟩, ⟨m1, m1b⟩, ⟨m2, m2b⟩, ⟨m3, m3b⟩, mof, mon⟩ := id N
  have h128 : 2 ^ np ≤ 128 := Nat.pow_le_pow_right (n := 2) (by decide) m1b
  have eX : ∀ k, J 148 (60 * t + k) = X k := fun k => by rw [hX]
  refine zEi_of (lv := [some (.ref 145), some (.int (nI t)), some (.int (nI n)), none]) (by decide) rfl (Nat.le_of_ble_eq_true rfl) ?_
  have lp : ∀ m j v I2, n - j < m → j ≤ n → nF I I2 → I2 145 33 = nI v → tw X np j v → zA G y_Mo_whyNoWhose prog_14_method_128_code 4 (some .int) (zRm 3 0 0) (zM G 0 0 (fun r w' => ∃ x, r = some (.int x) ∧ (fun r w => ∃ I', w = (I', J, P, S) ∧ nF I I' ∧ ((∃ u, tw X np n u ∧ r = nI 0 ∧ I' 145 33 = nI u) ∨ (¬ (∃ u, tw X np n u) ∧ r = nI 5))) x w')) 61 [some (.ref 145), some (.int (nI t)), some (.int (nI n)), some (.int (nI j))] [] (I2, J, P, S) 0 0 := by
    intro m
    induction m with
    | zero => intro j v I2 h; exact absurd h (Nat.not_lt_zero _)
    | succ m ih =>
      intro j v I2 hm hj g1 g3 g4
      have N2 : modIn I2 nt np nl nn := modIn_c N (g1.1 150 (by decide))
      have hv := tw_lt m1b j v g4
      refine z_iload_3 d_Mo_whyNoWhose_61 ?_
      refine z_iload_2 d_Mo_whyNoWhose_62 ?_
      refine z_icmp_ge (tgt := 148) d_Mo_whyNoWhose_63 (by decide) (fun hb => ?_) (fun hb => ?_)
      · have hb := (nI_leI (by omega) (by omega)).mp hb
        obtain rfl : j = n := by omega
        refine z_iconst (a := nI 0) d_Mo_whyNoWhose_148 (by decide) ?_
        refine z_reti d_Mo_whyNoWhose_149 ?_
        exact ⟨I2, rfl, g1, Or.inl ⟨v, g4, rfl, g3⟩⟩
      · have hb : j < n := Nat.lt_of_not_le (fun q => hb (nI_le q (by omega)))
        have bad : ¬ (∃ u, tw X np (j + 1) u) → ¬ ∃ u, tw X np n u := fun h q => h (tw_le (i := j + 1) (n - (j + 1)) (by rw [show j + 1 + (n - (j + 1)) = n by omega]; exact q))
        have no : ¬ (∃ u, tw X np (j + 1) u) → zA G y_Mo_whyNoWhose prog_14_method_128_code 4 (some .int) (zRm 3 0 0) (zM G 0 0 (fun r w' => ∃ x, r = some (.int x) ∧ (fun r w => ∃ I', w = (I', J, P, S) ∧ nF I I' ∧ ((∃ u, tw X np n u ∧ r = nI 0 ∧ I' 145 33 = nI u) ∨ (¬ (∃ u, tw X np n u) ∧ r = nI 5))) x w')) 120 [some (.ref 145), some (.int (nI t)), some (.int (nI n)), some (.int (nI j))] [] (I2, J, P, S) 0 0 := by
          intro h
          refine z_iconst (a := nI 5) d_Mo_whyNoWhose_120 (by decide) ?_
          refine z_reti d_Mo_whyNoWhose_121 ?_
          exact ⟨I2, rfl, g1, Or.inr ⟨bad h, rfl⟩⟩
        refine z_aload_0 d_Mo_whyNoWhose_66 ?_
        refine z_aload_0 d_Mo_whyNoWhose_67 ?_
        refine z_iload_1 d_Mo_whyNoWhose_68 ?_
        refine z_iconst (a := nI 2) d_Mo_whyNoWhose_69 (by decide) ?_
        refine z_iload_3 d_Mo_whyNoWhose_70 ?_
        first | refine z_imulN d_Mo_whyNoWhose_71 ?_ | refine z_imul d_Mo_whyNoWhose_71 ?_
        refine z_Vl2 d_Mo_whyNoWhose_72 k_Mo_426 (by first | assumption | exact zS0_at (by assumption) (by omega) | exact zS0_at rfl (by omega)) (t_Mo_numberOf M ht (show 2 * j < 60 by omega)) ⟨Nat.le_of_ble_eq_true rfl, Nat.le_of_ble_eq_true rfl, Nat.le_of_ble_eq_true rfl, Nat.le_of_ble_eq_true rfl⟩ (Nat.le_of_ble_eq_true rfl) ?_
        intro r w hq
        obtain ⟨rfl, rfl⟩ := hq
        rw [eX]
        refine z_Vi1 d_Mo_whyNoWhose_75 k_Mo_336 (by first | assumption | exact zS0_at (by assumption) (by omega) | exact zS0_at rfl (by omega)) (t_Mo_isPersonAt M N2) ⟨Nat.le_of_ble_eq_true rfl, Nat.le_of_ble_eq_true rfl, Nat.le_of_ble_eq_true rfl, Nat.le_of_ble_eq_true rfl⟩ (Nat.le_of_ble_eq_true rfl) ?_
        intro r w hq
        rcases hq with ⟨⟨hz, rfl⟩ | ⟨hz, rfl⟩, rfl⟩
        · obtain ⟨p, hp, ep⟩ := hz
          have e32 : (X (2 * j)).toInt32 = nI p := by rw [ep]; exact l2i_N p (by omega)
          refine z_if_eq (tgt := 120) d_Mo_whyNoWhose_78 (by decide) (fun h => absurd h (by decide)) (fun _ => ?_)
          refine z_aload_0 d_Mo_whyNoWhose_81 ?_
          refine z_getIv d_Mo_whyNoWhose_82 f_Mo_423 (by first | assumption | exact zS0_at (by assumption) (by omega) | exact zS0_at rfl (by omega)) (by first | assumption | ((try simp (disch := omega) only [zu_same, zu_ne, zcp_ne, zfl_ne]); first | assumption | rfl)) ?_
          refine z_aload_0 d_Mo_whyNoWhose_85 ?_
          refine z_iload_1 d_Mo_whyNoWhose_86 ?_
          refine z_iconst (a := nI 2) d_Mo_whyNoWhose_87 (by decide) ?_
          refine z_iload_3 d_Mo_whyNoWhose_88 ?_
          first | refine z_imulN d_Mo_whyNoWhose_89 ?_ | refine z_imul d_Mo_whyNoWhose_89 ?_
          refine z_Vl2 d_Mo_whyNoWhose_90 k_Mo_426 (by first | assumption | exact zS0_at (by assumption) (by omega) | exact zS0_at rfl (by omega)) (t_Mo_numberOf M ht (show 2 * j < 60 by omega)) ⟨Nat.le_of_ble_eq_true rfl, Nat.le_of_ble_eq_true rfl, Nat.le_of_ble_eq_true rfl, Nat.le_of_ble_eq_true rfl⟩ (Nat.le_of_ble_eq_true rfl) ?_
          intro r w hq
          obtain ⟨rfl, rfl⟩ := hq
          rw [eX]
          refine z_l2i d_Mo_whyNoWhose_93 ?_
          rw [e32]
          refine z_Si2 d_Mo_whyNoWhose_94 k_Mo_109 (t_Mo_has) ⟨Nat.le_of_ble_eq_true rfl, Nat.le_of_ble_eq_true rfl, Nat.le_of_ble_eq_true rfl, Nat.le_of_ble_eq_true rfl⟩ (Nat.le_of_ble_eq_true rfl) ?_
          intro r w hq
          rcases hq with ⟨⟨hc, rfl⟩ | ⟨hc, rfl⟩, rfl⟩
          · rw [zbit, zB_nI (by omega)] at hc
            refine z_if_ne (tgt := 120) d_Mo_whyNoWhose_97 (by decide) (fun _ => ?_) (fun h => absurd h (by decide))
            refine no ?_
            rintro ⟨u, v', p', y', b1, b2, b3, -, -, b6, -⟩
            have e1 := tw_u m1b _ _ _ b1 g4
            have e2 := lN_inj (by omega) (by omega) (b2.symm.trans ep)
            rw [e1, e2, hc] at b6
            exact absurd b6 (by decide)
          · rw [zbit, zB_nI (by omega)] at hc
            have hc : v.testBit p = false := Bool.eq_false_iff.mpr hc
            refine z_if_ne (tgt := 120) d_Mo_whyNoWhose_97 (by decide) (fun h => absurd (by decide) h) (fun _ => ?_)
            refine z_aload_0 d_Mo_whyNoWhose_100 ?_
            refine z_iload_1 d_Mo_whyNoWhose_101 ?_
            refine z_iconst (a := nI 2) d_Mo_whyNoWhose_102 (by decide) ?_
            refine z_iload_3 d_Mo_whyNoWhose_103 ?_
            first | refine z_imulN d_Mo_whyNoWhose_104 ?_ | refine z_imul d_Mo_whyNoWhose_104 ?_
            refine z_iconst (a := nI 1) d_Mo_whyNoWhose_105 (by decide) ?_
            first | refine z_iaddN d_Mo_whyNoWhose_106 ?_ | refine z_iadd d_Mo_whyNoWhose_106 ?_
            refine z_Vl2 d_Mo_whyNoWhose_107 k_Mo_426 (by first | assumption | exact zS0_at (by assumption) (by omega) | exact zS0_at rfl (by omega)) (t_Mo_numberOf M ht (show 2 * j + 1 < 60 by omega)) ⟨Nat.le_of_ble_eq_true rfl, Nat.le_of_ble_eq_true rfl, Nat.le_of_ble_eq_true rfl, Nat.le_of_ble_eq_true rfl⟩ (Nat.le_of_ble_eq_true rfl) ?_
            intro r w hq
            obtain ⟨rfl, rfl⟩ := hq
            rw [eX]
            refine z_lconst (f := lN 0) d_Mo_whyNoWhose_110 rfl ?_
            refine z_ldc2 d_Mo_whyNoWhose_111 c_Mo_430 ?_
            refine z_Si3 d_Mo_whyNoWhose_114 k_Mo_105 (t_Mo_isIn) ⟨Nat.le_of_ble_eq_true rfl, Nat.le_of_ble_eq_true rfl, Nat.le_of_ble_eq_true rfl, Nat.le_of_ble_eq_true rfl⟩ (Nat.le_of_ble_eq_true rfl) ?_
            intro r w hq
            rw [in07] at hq
            rcases hq with ⟨⟨hz, rfl⟩ | ⟨hz, rfl⟩, rfl⟩
            · obtain ⟨z, hz, ez⟩ := hz
              have q0 := ih (j + 1) (v ||| 2 ^ p) (zu I2 145 33 (nI (v ||| 2 ^ p))) (by omega) (by omega) (nF_u g1) (zu_same _ _ _ _) ⟨v, p, z, g4, ep, hp, ez, hz, hc, rfl⟩
              refine z_if_ne (tgt := 122) d_Mo_whyNoWhose_117 (by decide) (fun _ => ?_) (fun h => absurd h (by decide))
              refine z_aload_0 d_Mo_whyNoWhose_122 ?_
              refine z_dup rfl d_Mo_whyNoWhose_123 ?_
              refine z_getIv d_Mo_whyNoWhose_124 f_Mo_423 (by first | assumption | exact zS0_at (by assumption) (by omega) | exact zS0_at rfl (by omega)) (by first | assumption | ((try simp (disch := omega) only [zu_same, zu_ne, zcp_ne, zfl_ne]); first | assumption | rfl)) ?_
              refine z_iconst (a := nI 1) d_Mo_whyNoWhose_127 (by decide) ?_
              refine z_aload_0 d_Mo_whyNoWhose_128 ?_
              refine z_iload_1 d_Mo_whyNoWhose_129 ?_
              refine z_iconst (a := nI 2) d_Mo_whyNoWhose_130 (by decide) ?_
              refine z_iload_3 d_Mo_whyNoWhose_131 ?_
              first | refine z_imulN d_Mo_whyNoWhose_132 ?_ | refine z_imul d_Mo_whyNoWhose_132 ?_
              refine z_Vl2 d_Mo_whyNoWhose_133 k_Mo_426 (by first | assumption | exact zS0_at (by assumption) (by omega) | exact zS0_at rfl (by omega)) (t_Mo_numberOf M ht (show 2 * j < 60 by omega)) ⟨Nat.le_of_ble_eq_true rfl, Nat.le_of_ble_eq_true rfl, Nat.le_of_ble_eq_true rfl, Nat.le_of_ble_eq_true rfl⟩ (Nat.le_of_ble_eq_true rfl) ?_
              intro r w hq
              obtain ⟨rfl, rfl⟩ := hq
              rw [eX]
              refine z_l2i d_Mo_whyNoWhose_136 ?_
              rw [e32]
              refine z_ishl d_Mo_whyNoWhose_137 ?_
              refine z_ior d_Mo_whyNoWhose_138 ?_
              rw [nx_sh p (by omega), nx_or]
              refine z_putI d_Mo_whyNoWhose_139 f_Mo_423 (by first | assumption | exact zS0_at (by assumption) (by omega) | exact zS0_at rfl (by omega)) ?_
              first | refine z_iinc_3 d_Mo_whyNoWhose_142 rfl (zi_inc _) ?_ | refine z_iinc_3 d_Mo_whyNoWhose_142 rfl rfl ?_
              refine z_goto (tgt := 61) d_Mo_whyNoWhose_145 (by decide) ?_
              exact q0
            · refine z_if_ne (tgt := 122) d_Mo_whyNoWhose_117 (by decide) (fun h => absurd (by decide) h) (fun _ => ?_)
              refine no ?_
              rintro ⟨u, v', p', y', b1, b2, b3, b4, b5, -⟩
              exact hz ⟨y', b5, b4⟩
        · refine z_if_eq (tgt := 120) d_Mo_whyNoWhose_78 (by decide) (fun _ => ?_) (fun h => absurd (by decide) h)
          refine no ?_
          rintro ⟨u, v', p', y', b1, b2, b3, -⟩
          exact hz ⟨p', b3, b2⟩
  refine z_aload_0 d_Mo_whyNoWhose_0 ?_
  refine z_iload_1 d_Mo_whyNoWhose_1 ?_
  refine z_Vi1 d_Mo_whyNoWhose_2 k_Mo_347 (by first | assumption | exact zS0_at (by assumption) (by omega) | exact zS0_at rfl (by omega)) (t_Mo_isTray) ⟨Nat.le_of_ble_eq_true rfl, Nat.le_of_ble_eq_true rfl, Nat.le_of_ble_eq_true rfl, Nat.le_of_ble_eq_true rfl⟩ (Nat.le_of_ble_eq_true rfl) ?_
  intro r w hq
  rcases hq with ⟨⟨hz, rfl⟩ | ⟨hz, rfl⟩, rfl⟩
  case inr => exact absurd ⟨t, ht, rfl⟩ hz
  refine z_if_ne (tgt := 10) d_Mo_whyNoWhose_5 (by decide) (fun _ => ?_) (fun h => absurd h (by decide))
  refine z_aload_0 d_Mo_whyNoWhose_10 ?_
  refine z_getR d_Mo_whyNoWhose_11 f_Mo_17 (by first | assumption | exact zS0_at (by assumption) (by omega) | exact zS0_at rfl (by omega)) (by first | assumption | exact zS0_at (by assumption) (by omega) | exact zS0_at rfl (by omega)) ?_
  refine z_iload_1 d_Mo_whyNoWhose_14 ?_
  first | refine z_ialdNv d_Mo_whyNoWhose_15 (by first | assumption | exact zS0_at (by assumption) (by omega) | exact zS0_at rfl (by omega)) (by omega) (by first | decide | omega) (by first | assumption | ((try simp (disch := omega) only [zu_same, zu_ne, zcp_ne, zfl_ne]); first | assumption | rfl)) ?_ | refine z_iald d_Mo_whyNoWhose_15 (by first | assumption | exact zS0_at (by assumption) (by omega) | exact zS0_at rfl (by omega)) (by first | assumption | exact zS0_at (by assumption) (by omega) | exact zS0_at rfl (by omega)) ?_
  refine z_if_ge (tgt := 21) d_Mo_whyNoWhose_16 (by decide) (fun _ => ?_) (fun h => absurd (Int32.not_lt.mp (nI_pos (by omega))) h)
  refine z_aload_0 d_Mo_whyNoWhose_21 ?_
  refine z_getR d_Mo_whyNoWhose_22 f_Mo_17 (by first | assumption | exact zS0_at (by assumption) (by omega) | exact zS0_at rfl (by omega)) (by first | assumption | exact zS0_at (by assumption) (by omega) | exact zS0_at rfl (by omega)) ?_
  refine z_iload_1 d_Mo_whyNoWhose_25 ?_
  first | refine z_ialdNv d_Mo_whyNoWhose_26 (by first | assumption | exact zS0_at (by assumption) (by omega) | exact zS0_at rfl (by omega)) (by omega) (by first | decide | omega) (by first | assumption | ((try simp (disch := omega) only [zu_same, zu_ne, zcp_ne, zfl_ne]); first | assumption | rfl)) ?_ | refine z_iald d_Mo_whyNoWhose_26 (by first | assumption | exact zS0_at (by assumption) (by omega) | exact zS0_at rfl (by omega)) (by first | assumption | exact zS0_at (by assumption) (by omega) | exact zS0_at rfl (by omega)) ?_
  refine z_i2l d_Mo_whyNoWhose_27 ?_
  refine z_ldc2 d_Mo_whyNoWhose_28 c_Mo_419 ?_
  refine z_iload_2 d_Mo_whyNoWhose_31 ?_
  refine z_i2l d_Mo_whyNoWhose_32 ?_
  refine z_lmul d_Mo_whyNoWhose_33 ?_
  refine z_lcmp d_Mo_whyNoWhose_34 ?_
  refine z_if_ge (tgt := 40) d_Mo_whyNoWhose_35 (by decide) (fun _ => ?_) (fun h => absurd ((lg_cmp_ge _ _).mpr hle) h)
  refine z_iload_2 d_Mo_whyNoWhose_40 ?_
  refine z_i2l d_Mo_whyNoWhose_41 ?_
  refine z_lconst (f := lN 0) d_Mo_whyNoWhose_42 rfl ?_
  refine z_ldc2 d_Mo_whyNoWhose_43 c_Mo_421 ?_
  refine z_Si3 d_Mo_whyNoWhose_46 k_Mo_105 (t_Mo_isInZ (m := 8) (by decide) (by decide)) ⟨Nat.le_of_ble_eq_true rfl, Nat.le_of_ble_eq_true rfl, Nat.le_of_ble_eq_true rfl, Nat.le_of_ble_eq_true rfl⟩ (Nat.le_of_ble_eq_true rfl) ?_
  intro r w hq
  rcases hq with ⟨⟨hz2, rfl⟩ | ⟨hz2, rfl⟩, rfl⟩
  case inr => exact absurd ⟨n, by omega, rfl⟩ hz2
  refine z_if_ne (tgt := 54) d_Mo_whyNoWhose_49 (by decide) (fun _ => ?_) (fun h => absurd h (by decide))
  refine z_aload_0 d_Mo_whyNoWhose_54 ?_
  refine z_iconst (a := nI 0) d_Mo_whyNoWhose_55 (by decide) ?_
  refine z_putI d_Mo_whyNoWhose_56 f_Mo_423 (by first | assumption | exact zS0_at (by assumption) (by omega) | exact zS0_at rfl (by omega)) ?_
  refine z_iconst (a := nI 0) d_Mo_whyNoWhose_59 (by decide) ?_
  first | refine z_istore_3 d_Mo_whyNoWhose_60 rfl ?_ | (refine z_forget_2 ?_; refine z_istore_3 d_Mo_whyNoWhose_60 rfl ?_)
  exact lp (n + 1) 0 0 _ (by omega) (by omega) (nF_u nF_r) (zu_same _ _ _ _) rfl
end SM0
