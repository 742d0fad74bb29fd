/-! the class: Fen's methods -/
section C2
variable {G : zG} {I : Nat → Nat → Int32} {J : Nat → Nat → Int64} {P : Nat → Nat → Option Nat} {S : List (Nat × Nat)} {f nt np nl nn : Nat} {a b : Int32}
/-- the counts of a Fen, and that its tins are of a trait, on a person or gone -/
def fenIn (I : Nat → Nat → Int32) (f nt np nl nn : Nat) : Prop :=
  (I f 1 = nI nt ∧ nt ≤ 6) ∧ (I f 2 = nI np ∧ np ≤ 7) ∧ (I f 3 = nI nl ∧ nl ≤ 12) ∧ (I f 4 = nI nn ∧ nn ≤ 9) ∧ (∀ t, t < nn → ∃ k, k < nt ∧ I (f + 5) t = nI k) ∧ (∀ t, t < nn → I (f + 6) t = -1 ∨ ∃ p, p < np ∧ I (f + 6) t = nI p)
theorem t_Fen_isTrue {p t : Nat} (F : fenOk P S f) (hp : p < 7) : zEi G y_Fen_isTrue prog_2_method_8_code 3 (some .boolean) 1 [.ref f, .int (nI p), .int (nI t)] (I, J, P, S) (fun r w => (zbit (I (f + 2) p) t ∧ r = nI 1 ∨ ¬ zbit (I (f + 2) p) t ∧ r = nI 0) ∧ w = (I, J, P, S)) := by
  obtain ⟨h0, -, ⟨h1, h2⟩, -⟩ := F
  refine zEi_of (lv := [some (.ref f), some (.int (nI p)), some (.int (nI t))]) (by decide) rfl (Nat.le_of_ble_eq_true rfl) ?_
  refine z_aload_0 d_Fen_isTrue_0 ?_
  refine z_getR d_Fen_isTrue_1 f_Fen_19 (by assumption) (by assumption) ?_
  refine z_iload_1 d_Fen_isTrue_4 ?_
  first | refine z_ialdNv d_Fen_isTrue_5 (by assumption) (by omega) (by decide) (by first | assumption | ((try simp (disch := omega) only [zu_same, zu_ne, zcp_ne, zfl_ne]); first | assumption | rfl)) ?_ | refine z_iald d_Fen_isTrue_5 (by assumption) (by assumption) ?_
  refine z_iload_2 d_Fen_isTrue_6 ?_
  refine z_ishr d_Fen_isTrue_7 ?_
  refine z_iconst (a := nI 1) d_Fen_isTrue_8 (by decide) ?_
  refine z_iand d_Fen_isTrue_9 ?_
  refine z_if_eq (tgt := 17) d_Fen_isTrue_10 (by decide) (fun h10 => ?_) (fun h10 => ?_)
  · first
    | (simp (disch := omega) only [← nI_0, nI_leI, nI_ltI, nI_eq, not_true_eq_false, not_false_eq_true] at h10; done)
    | (simp (disch := omega) only [← nI_0, nI_leI, nI_ltI, nI_eq, not_true_eq_false, not_false_eq_true] at h10; omega)
    | contradiction
    | exact absurd h10 (Int32.not_lt.mpr (by assumption))
    | exact absurd h10 (Int32.not_le.mpr (by assumption))
    | ( try simp (disch := omega) only [← nI_0, nI_leI, nI_ltI, nI_eq, not_true_eq_false, not_false_eq_true] at h10
        (try have h10b := zbit_n0.mp h10); (try have h10b := zbit_p0.mp h10)
        refine z_iconst (a := nI 0) d_Fen_isTrue_17 (by decide) ?_
        refine z_retz d_Fen_isTrue_18 (by first | exact zb0 | exact zb1 | assumption) ?_
        first | exact ⟨Or.inr ⟨zbit_n0.mp (by assumption), rfl⟩, rfl⟩ | exact ⟨Or.inl ⟨zbit_p0.mp (by assumption), rfl⟩, rfl⟩ | exact ⟨Or.inr ⟨zbit_n.mp (by assumption), rfl⟩, rfl⟩ | exact ⟨Or.inl ⟨zbit_p.mp (by assumption), rfl⟩, rfl⟩)
  · first
    | (simp (disch := omega) only [← nI_0, nI_leI, nI_ltI, nI_eq, not_true_eq_false, not_false_eq_true] at h10; done)
    | (simp (disch := omega) only [← nI_0, nI_leI, nI_ltI, nI_eq, not_true_eq_false, not_false_eq_true] at h10; omega)
    | contradiction
    | exact absurd h10 (Int32.not_lt.mpr (by assumption))
    | exact absurd h10 (Int32.not_le.mpr (by assumption))
    | ( try simp (disch := omega) only [← nI_0, nI_leI, nI_ltI, nI_eq, not_true_eq_false, not_false_eq_true] at h10
        (try have h10b := zbit_n0.mp h10); (try have h10b := zbit_p0.mp h10)
        refine z_iconst (a := nI 1) d_Fen_isTrue_13 (by decide) ?_
        refine z_goto (tgt := 18) d_Fen_isTrue_14 (by decide) ?_
        refine z_retz d_Fen_isTrue_18 (by first | exact zb0 | exact zb1 | assumption) ?_
        first | exact ⟨Or.inr ⟨zbit_n0.mp (by assumption), rfl⟩, rfl⟩ | exact ⟨Or.inl ⟨zbit_p0.mp (by assumption), rfl⟩, rfl⟩ | exact ⟨Or.inr ⟨zbit_n.mp (by assumption), rfl⟩, rfl⟩ | exact ⟨Or.inl ⟨zbit_p.mp (by assumption), rfl⟩, rfl⟩)
theorem t_Fen_turn {p t : Nat} (F : fenOk P S f) (hp : p < 7) : zEv G y_Fen_turn prog_2_method_9_code 3 1 0 0 [.ref f, .int (nI p), .int (nI t)] (I, J, P, S) (fun w => w = (zu I (f + 2) p (I (f + 2) p ^^^ (nI 1 <<< (nI t &&& 31))), J, P, S)) := by
  obtain ⟨h0, -, ⟨h1, h2⟩, -⟩ := F
  refine zEv_of (lv := [some (.ref f), some (.int (nI p)), some (.int (nI t))]) (by decide) rfl (Nat.le_of_ble_eq_true rfl) ?_
  refine z_aload_0 d_Fen_turn_0 ?_
  refine z_getR d_Fen_turn_1 f_Fen_19 (by assumption) (by assumption) ?_
  refine z_iload_1 d_Fen_turn_4 ?_
  first | refine z_dup2 rfl rfl d_Fen_turn_5 ?_ | refine z_dup2l rfl d_Fen_turn_5 ?_
  first | refine z_ialdNv d_Fen_turn_6 (by assumption) (by omega) (by decide) (by first | assumption | ((try simp (disch := omega) only [zu_same, zu_ne, zcp_ne, zfl_ne]); first | assumption | rfl)) ?_ | refine z_iald d_Fen_turn_6 (by assumption) (by assumption) ?_
  refine z_iconst (a := nI 1) d_Fen_turn_7 (by decide) ?_
  refine z_iload_2 d_Fen_turn_8 ?_
  refine z_ishl d_Fen_turn_9 ?_
  refine z_ixor d_Fen_turn_10 ?_
  first | refine z_iastN d_Fen_turn_11 (by assumption) (by omega) (by decide) ?_ | refine z_iast d_Fen_turn_11 (by assumption) (by assumption) ?_
  refine z_retv d_Fen_turn_12 ?_
  exact rfl
theorem t_Fen_isGone {t : Nat} (F : fenOk P S f) (ht : t < 9) : zEi G y_Fen_isGone prog_2_method_10_code 2 (some .boolean) 1 [.ref f, .int (nI t)] (I, J, P, S) (fun r w => (I (f + 6) t < 0 ∧ r = nI 1 ∨ ¬ I (f + 6) t < 0 ∧ r = nI 0) ∧ w = (I, J, P, S)) := by
  obtain ⟨h0, -, -, -, -, -, ⟨h1, h2⟩, -⟩ := F
  refine zEi_of (lv := [some (.ref f), some (.int (nI t))]) (by decide) rfl (Nat.le_of_ble_eq_true rfl) ?_
  refine z_aload_0 d_Fen_isGone_0 ?_
  refine z_getR d_Fen_isGone_1 f_Fen_31 (by assumption) (by assumption) ?_
  refine z_iload_1 d_Fen_isGone_4 ?_
  first | refine z_ialdNv d_Fen_isGone_5 (by assumption) (by omega) (by decide) (by first | assumption | ((try simp (disch := omega) only [zu_same, zu_ne, zcp_ne, zfl_ne]); first | assumption | rfl)) ?_ | refine z_iald d_Fen_isGone_5 (by assumption) (by assumption) ?_
  refine z_if_ge (tgt := 13) d_Fen_isGone_6 (by decide) (fun h6 => ?_) (fun h6 => ?_)
  · first
    | (simp (disch := omega) only [← nI_0, nI_leI, nI_ltI, nI_eq, not_true_eq_false, not_false_eq_true] at h6; done)
    | (simp (disch := omega) only [← nI_0, nI_leI, nI_ltI, nI_eq, not_true_eq_false, not_false_eq_true] at h6; omega)
    | contradiction
    | exact absurd h6 (Int32.not_lt.mpr (by assumption))
    | exact absurd h6 (Int32.not_le.mpr (by assumption))
    | ( try simp (disch := omega) only [← nI_0, nI_leI, nI_ltI, nI_eq, not_true_eq_false, not_false_eq_true] at h6
        (try have h6b := zbit_n0.mp h6); (try have h6b := zbit_p0.mp h6)
        refine z_iconst (a := nI 0) d_Fen_isGone_13 (by decide) ?_
        refine z_retz d_Fen_isGone_14 (by first | exact zb0 | exact zb1 | assumption) ?_
        first | exact ⟨Or.inr ⟨by first | assumption | (rw [← nI_0]; assumption) | exact Int32.not_lt.mpr (by first | assumption | (rw [← nI_0]; assumption)), rfl⟩, rfl⟩ | exact ⟨Or.inl ⟨by first | assumption | (rw [← nI_0]; assumption) | exact Int32.not_le.mp (by first | assumption | (rw [← nI_0]; assumption)), rfl⟩, rfl⟩)
  · first
    | (simp (disch := omega) only [← nI_0, nI_leI, nI_ltI, nI_eq, not_true_eq_false, not_false_eq_true] at h6; done)
    | (simp (disch := omega) only [← nI_0, nI_leI, nI_ltI, nI_eq, not_true_eq_false, not_false_eq_true] at h6; omega)
    | contradiction
    | exact absurd h6 (Int32.not_lt.mpr (by assumption))
    | exact absurd h6 (Int32.not_le.mpr (by assumption))
    | ( try simp (disch := omega) only [← nI_0, nI_leI, nI_ltI, nI_eq, not_true_eq_false, not_false_eq_true] at h6
        (try have h6b := zbit_n0.mp h6); (try have h6b := zbit_p0.mp h6)
        refine z_iconst (a := nI 1) d_Fen_isGone_9 (by decide) ?_
        refine z_goto (tgt := 14) d_Fen_isGone_10 (by decide) ?_
        refine z_retz d_Fen_isGone_14 (by first | exact zb0 | exact zb1 | assumption) ?_
        first | exact ⟨Or.inr ⟨by first | assumption | (rw [← nI_0]; assumption) | exact Int32.not_lt.mpr (by first | assumption | (rw [← nI_0]; assumption)), rfl⟩, rfl⟩ | exact ⟨Or.inl ⟨by first | assumption | (rw [← nI_0]; assumption) | exact Int32.not_le.mp (by first | assumption | (rw [← nI_0]; assumption)), rfl⟩, rfl⟩)
theorem t_Fen_isLead {t : Nat} (F : fenOk P S f) : zEi G y_Fen_isLead prog_2_method_11_code 2 (some .boolean) 1 [.ref f, .int (nI t)] (I, J, P, S) (fun r w => (zbit (I f 6) t ∧ r = nI 1 ∨ ¬ zbit (I f 6) t ∧ r = nI 0) ∧ w = (I, J, P, S)) := by
  obtain ⟨h0, -⟩ := F
  refine zEi_of (lv := [some (.ref f), some (.int (nI t))]) (by decide) rfl (Nat.le_of_ble_eq_true rfl) ?_
  refine z_aload_0 d_Fen_isLead_0 ?_
  refine z_getIv d_Fen_isLead_1 f_Fen_72 (by assumption) (by first | assumption | ((try simp (disch := omega) only [zu_same, zu_ne, zcp_ne, zfl_ne]); first | assumption | rfl)) ?_
  refine z_iload_1 d_Fen_isLead_4 ?_
  refine z_ishr d_Fen_isLead_5 ?_
  refine z_iconst (a := nI 1) d_Fen_isLead_6 (by decide) ?_
  refine z_iand d_Fen_isLead_7 ?_
  refine z_if_eq (tgt := 15) d_Fen_isLead_8 (by decide) (fun h8 => ?_) (fun h8 => ?_)
  · first
    | (simp (disch := omega) only [← nI_0, nI_leI, nI_ltI, nI_eq, not_true_eq_false, not_false_eq_true] at h8; done)
    | (simp (disch := omega) only [← nI_0, nI_leI, nI_ltI, nI_eq, not_true_eq_false, not_false_eq_true] at h8; omega)
    | contradiction
    | exact absurd h8 (Int32.not_lt.mpr (by assumption))
    | exact absurd h8 (Int32.not_le.mpr (by assumption))
    | ( try simp (disch := omega) only [← nI_0, nI_leI, nI_ltI, nI_eq, not_true_eq_false, not_false_eq_true] at h8
        (try have h8b := zbit_n0.mp h8); (try have h8b := zbit_p0.mp h8)
        refine z_iconst (a := nI 0) d_Fen_isLead_15 (by decide) ?_
        refine z_retz d_Fen_isLead_16 (by first | exact zb0 | exact zb1 | assumption) ?_
        first | exact ⟨Or.inr ⟨zbit_n0.mp (by assumption), rfl⟩, rfl⟩ | exact ⟨Or.inl ⟨zbit_p0.mp (by assumption), rfl⟩, rfl⟩ | exact ⟨Or.inr ⟨zbit_n.mp (by assumption), rfl⟩, rfl⟩ | exact ⟨Or.inl ⟨zbit_p.mp (by assumption), rfl⟩, rfl⟩)
  · first
    | (simp (disch := omega) only [← nI_0, nI_leI, nI_ltI, nI_eq, not_true_eq_false, not_false_eq_true] at h8; done)
    | (simp (disch := omega) only [← nI_0, nI_leI, nI_ltI, nI_eq, not_true_eq_false, not_false_eq_true] at h8; omega)
    | contradiction
    | exact absurd h8 (Int32.not_lt.mpr (by assumption))
    | exact absurd h8 (Int32.not_le.mpr (by assumption))
    | ( try simp (disch := omega) only [← nI_0, nI_leI, nI_ltI, nI_eq, not_true_eq_false, not_false_eq_true] at h8
        (try have h8b := zbit_n0.mp h8); (try have h8b := zbit_p0.mp h8)
        refine z_iconst (a := nI 1) d_Fen_isLead_11 (by decide) ?_
        refine z_goto (tgt := 16) d_Fen_isLead_12 (by decide) ?_
        refine z_retz d_Fen_isLead_16 (by first | exact zb0 | exact zb1 | assumption) ?_
        first | exact ⟨Or.inr ⟨zbit_n0.mp (by assumption), rfl⟩, rfl⟩ | exact ⟨Or.inl ⟨zbit_p0.mp (by assumption), rfl⟩, rfl⟩ | exact ⟨Or.inr ⟨zbit_n.mp (by assumption), rfl⟩, rfl⟩ | exact ⟨Or.inl ⟨zbit_p.mp (by assumption), rfl⟩, rfl⟩)
theorem t_Fen_putOn {t p : Nat} (F : fenOk P S f) (ht : t < 9) : zEv G y_Fen_putOn prog_2_method_20_code 3 1 0 0 [.ref f, .int (nI t), .int (nI p)] (I, J, P, S) (fun w => w = (zu (zu I (f + 6) t (nI p)) (f + 7) t (I (f + 7) t ||| (nI 1 <<< (nI p &&& 31))), J, P, S)) := by
  obtain ⟨h0, -, -, -, -, -, ⟨h1, h2⟩, ⟨h3, h4⟩, -⟩ := F
  refine zEv_of (lv := [some (.ref f), some (.int (nI t)), some (.int (nI p))]) (by decide) rfl (Nat.le_of_ble_eq_true rfl) ?_
  refine z_aload_0 d_Fen_putOn_0 ?_
  refine z_getR d_Fen_putOn_1 f_Fen_31 (by assumption) (by assumption) ?_
  refine z_iload_1 d_Fen_putOn_4 ?_
  refine z_iload_2 d_Fen_putOn_5 ?_
  first | refine z_iastN d_Fen_putOn_6 (by assumption) (by omega) (by decide) ?_ | refine z_iast d_Fen_putOn_6 (by assumption) (by assumption) ?_
  refine z_aload_0 d_Fen_putOn_7 ?_
  refine z_getR d_Fen_putOn_8 f_Fen_34 (by assumption) (by assumption) ?_
  refine z_iload_1 d_Fen_putOn_11 ?_
  first | refine z_dup2 rfl rfl d_Fen_putOn_12 ?_ | refine z_dup2l rfl d_Fen_putOn_12 ?_
  first | refine z_ialdNv d_Fen_putOn_13 (by assumption) (by omega) (by decide) (by first | assumption | ((try simp (disch := omega) only [zu_same, zu_ne, zcp_ne, zfl_ne]); first | assumption | rfl)) ?_ | refine z_iald d_Fen_putOn_13 (by assumption) (by assumption) ?_
  refine z_iconst (a := nI 1) d_Fen_putOn_14 (by decide) ?_
  refine z_iload_2 d_Fen_putOn_15 ?_
  refine z_ishl d_Fen_putOn_16 ?_
  refine z_ior d_Fen_putOn_17 ?_
  first | refine z_iastN d_Fen_putOn_18 (by assumption) (by omega) (by decide) ?_ | refine z_iast d_Fen_putOn_18 (by assumption) (by assumption) ?_
  refine z_retv d_Fen_putOn_19 ?_
  exact rfl
theorem t_Fen_find {t : Nat} (F : fenOk P S f) (ht : t < 9) : zEv G y_Fen_find prog_2_method_21_code 2 1 0 0 [.ref f, .int (nI t)] (I, J, P, S) (fun w => w = (zu (zu I f 7 (I f 7 ||| (nI 1 <<< (nI t &&& 31)))) (f + 6) t (-1), J, P, S)) := by
  obtain ⟨h0, -, -, -, -, -, ⟨h1, h2⟩, -⟩ := F
  refine zEv_of (lv := [some (.ref f), some (.int (nI t))]) (by decide) rfl (Nat.le_of_ble_eq_true rfl) ?_
  refine z_aload_0 d_Fen_find_0 ?_
  refine z_dup rfl d_Fen_find_1 ?_
  refine z_getIv d_Fen_find_2 f_Fen_75 (by assumption) (by first | assumption | ((try simp (disch := omega) only [zu_same, zu_ne, zcp_ne, zfl_ne]); first | assumption | rfl)) ?_
  refine z_iconst (a := nI 1) d_Fen_find_5 (by decide) ?_
  refine z_iload_1 d_Fen_find_6 ?_
  refine z_ishl d_Fen_find_7 ?_
  refine z_ior d_Fen_find_8 ?_
  refine z_putI d_Fen_find_9 f_Fen_75 (by assumption) ?_
  refine z_aload_0 d_Fen_find_12 ?_
  refine z_getR d_Fen_find_13 f_Fen_31 (by assumption) (by assumption) ?_
  refine z_iload_1 d_Fen_find_16 ?_
  refine z_iconst (a := -1) d_Fen_find_17 (by decide) ?_
  first | refine z_iastN d_Fen_find_18 (by assumption) (by omega) (by decide) ?_ | refine z_iast d_Fen_find_18 (by assumption) (by assumption) ?_
  refine z_retv d_Fen_find_19 ?_
  exact rfl
theorem t_Fen_wornBy (F : fenOk P S f) (N : fenIn I f nt np nl nn) : zEi G y_Fen_wornBy prog_2_method_12_code 4 (some .int) 1 [.ref f, .int a] (I, J, P, S) (fun r w => r = s_set (fun t => decide (I (f + 6) t = a)) nn ∧ w = (I, J, P, S)) := by
  obtain ⟨h0, -, -, -, -, -, ⟨h1, h2⟩, -⟩ := F
  obtain ⟨-, -, -, ⟨hn, h9⟩, -⟩ := N
  refine zEi_of (lv := [some (.ref f), some (.int a), none, none]) (by decide) rfl (Nat.le_of_ble_eq_true rfl) ?_
  have loop : ∀ m j, nn - j < m → j ≤ nn → zA G y_Fen_wornBy prog_2_method_12_code 4 (some .int) (zRm 1 0 0) (zM G 0 0 (fun r w' => ∃ x, r = some (.int x) ∧ (x = s_set (fun t => decide (I (f + 6) t = a)) nn ∧ w' = (I, J, P, S)))) 4 [some (.ref f), some (.int a), some (.int (s_set (fun t => decide (I (f + 6) t = a)) j)), some (.int (nI j))] [] (I, J, P, S) 0 0 := by
    intro m
    induction m with
    | zero => intro j h _; omega
    | succ m ih =>
      intro j hm hj
      refine z_iload_3 d_Fen_wornBy_4 ?_
      refine z_aload_0 d_Fen_wornBy_5 ?_
      refine z_getIv d_Fen_wornBy_6 f_Fen_66 (by assumption) (by first | assumption | ((try simp (disch := omega) only [zu_same, zu_ne, zcp_ne, zfl_ne]); first | assumption | rfl)) ?_
      refine z_icmp_ge (tgt := 34) d_Fen_wornBy_9 (by decide) (fun h9 => ?_) (fun h9 => ?_)
      · first
        | (simp (disch := omega) only [← nI_0, nI_leI, nI_ltI, nI_eq, not_true_eq_false, not_false_eq_true] at h9; done)
        | (simp (disch := omega) only [← nI_0, nI_leI, nI_ltI, nI_eq, not_true_eq_false, not_false_eq_true] at h9; omega)
        | contradiction
        | exact absurd h9 (Int32.not_lt.mpr (by assumption))
        | exact absurd h9 (Int32.not_le.mpr (by assumption))
        | ( try simp (disch := omega) only [← nI_0, nI_leI, nI_ltI, nI_eq, not_true_eq_false, not_false_eq_true] at h9
            (try have h9b := zbit_n0.mp h9); (try have h9b := zbit_p0.mp h9)
            refine z_iload_2 d_Fen_wornBy_34 ?_
            refine z_reti d_Fen_wornBy_35 ?_
            (obtain rfl : j = nn := by omega); exact ⟨rfl, rfl⟩)
      · first
        | (simp (disch := omega) only [← nI_0, nI_leI, nI_ltI, nI_eq, not_true_eq_false, not_false_eq_true] at h9; done)
        | (simp (disch := omega) only [← nI_0, nI_leI, nI_ltI, nI_eq, not_true_eq_false, not_false_eq_true] at h9; omega)
        | contradiction
        | exact absurd h9 (Int32.not_lt.mpr (by assumption))
        | exact absurd h9 (Int32.not_le.mpr (by assumption))
        | ( try simp (disch := omega) only [← nI_0, nI_leI, nI_ltI, nI_eq, not_true_eq_false, not_false_eq_true] at h9
            (try have h9b := zbit_n0.mp h9); (try have h9b := zbit_p0.mp h9)
            refine z_aload_0 d_Fen_wornBy_12 ?_
            refine z_getR d_Fen_wornBy_13 f_Fen_31 (by assumption) (by assumption) ?_
            refine z_iload_3 d_Fen_wornBy_16 ?_
            first | refine z_ialdNv d_Fen_wornBy_17 (by assumption) (by omega) (by decide) (by first | assumption | ((try simp (disch := omega) only [zu_same, zu_ne, zcp_ne, zfl_ne]); first | assumption | rfl)) ?_ | refine z_iald d_Fen_wornBy_17 (by assumption) (by assumption) ?_
            refine z_iload_1 d_Fen_wornBy_18 ?_
            refine z_icmp_ne (tgt := 28) d_Fen_wornBy_19 (by decide) (fun h19 => ?_) (fun h19 => ?_)
            · first
              | (simp (disch := omega) only [← nI_0, nI_leI, nI_ltI, nI_eq, not_true_eq_false, not_false_eq_true] at h19; done)
              | (simp (disch := omega) only [← nI_0, nI_leI, nI_ltI, nI_eq, not_true_eq_false, not_false_eq_true] at h19; omega)
              | contradiction
              | exact absurd h19 (Int32.not_lt.mpr (by assumption))
              | exact absurd h19 (Int32.not_le.mpr (by assumption))
              | ( try simp (disch := omega) only [← nI_0, nI_leI, nI_ltI, nI_eq, not_true_eq_false, not_false_eq_true] at h19
                  (try have h19b := zbit_n0.mp h19); (try have h19b := zbit_p0.mp h19)
                  first | refine z_iinc_3 d_Fen_wornBy_28 rfl (zi_inc _) ?_ | refine z_iinc_3 d_Fen_wornBy_28 rfl rfl ?_
                  refine z_goto (tgt := 4) d_Fen_wornBy_31 (by decide) ?_
                  (have q := ih (j + 1) (by omega) (by omega); rw [s_set] at q; first | (rw [if_pos (by simp only [decide_eq_true_eq]; assumption)] at q; exact q) | (rw [if_neg (by simp only [decide_eq_true_eq]; assumption)] at q; exact q)))
            · first
              | (simp (disch := omega) only [← nI_0, nI_leI, nI_ltI, nI_eq, not_true_eq_false, not_false_eq_true] at h19; done)
              | (simp (disch := omega) only [← nI_0, nI_leI, nI_ltI, nI_eq, not_true_eq_false, not_false_eq_true] at h19; omega)
              | contradiction
              | exact absurd h19 (Int32.not_lt.mpr (by assumption))
              | exact absurd h19 (Int32.not_le.mpr (by assumption))
              | ( try simp (disch := omega) only [← nI_0, nI_leI, nI_ltI, nI_eq, not_true_eq_false, not_false_eq_true] at h19
                  (try have h19b := zbit_n0.mp h19); (try have h19b := zbit_p0.mp h19)
                  refine z_iload_2 d_Fen_wornBy_22 ?_
                  refine z_iconst (a := nI 1) d_Fen_wornBy_23 (by decide) ?_
                  refine z_iload_3 d_Fen_wornBy_24 ?_
                  refine z_ishl d_Fen_wornBy_25 ?_
                  refine z_ior d_Fen_wornBy_26 ?_
                  first | refine z_istore_2 d_Fen_wornBy_27 rfl ?_ | (refine z_forget_1 ?_; refine z_istore_2 d_Fen_wornBy_27 rfl ?_)
                  first | refine z_iinc_3 d_Fen_wornBy_28 rfl (zi_inc _) ?_ | refine z_iinc_3 d_Fen_wornBy_28 rfl rfl ?_
                  refine z_goto (tgt := 4) d_Fen_wornBy_31 (by decide) ?_
                  (have q := ih (j + 1) (by omega) (by omega); rw [s_set] at q; first | (rw [if_pos (by simp only [decide_eq_true_eq]; assumption)] at q; exact q) | (rw [if_neg (by simp only [decide_eq_true_eq]; assumption)] at q; exact q))))
  refine z_iconst (a := nI 0) d_Fen_wornBy_0 (by decide) ?_
  first | refine z_istore_2 d_Fen_wornBy_1 rfl ?_ | (refine z_forget_1 ?_; refine z_istore_2 d_Fen_wornBy_1 rfl ?_)
  refine z_iconst (a := nI 0) d_Fen_wornBy_2 (by decide) ?_
  first | refine z_istore_3 d_Fen_wornBy_3 rfl ?_ | (refine z_forget_2 ?_; refine z_istore_3 d_Fen_wornBy_3 rfl ?_)
  exact loop (nn + 1) 0 (by omega) (by omega)
theorem t_Fen_worthOf (F : fenOk P S f) (N : fenIn I f nt np nl nn) : zEi G y_Fen_worthOf prog_2_method_13_code 4 (some .int) 1 [.ref f, .int a] (I, J, P, S) (fun r w => r = s_sum (fun t => zB a t) (fun t => I (f + 1) (I (f + 5) t).toNatClampNeg) nn ∧ w = (I, J, P, S)) := by
  obtain ⟨F0, ⟨F8, F8s⟩, ⟨F9, F9s⟩, ⟨F10, F10s⟩, ⟨F11, F11s⟩, ⟨F12, F12s⟩, ⟨F13, F13s⟩, ⟨F14, F14s⟩, ⟨F15, F15s⟩, ⟨F16, F16s⟩, ⟨F17, F17s⟩, ⟨F18, F18s⟩, ⟨F19, F19s⟩, ⟨Y3, Y3s⟩, ⟨Y4, Y4s⟩, ⟨Y5, Y5s⟩, ⟨Y6, Y6s⟩⟩ := id F
  obtain ⟨⟨n1, n1b⟩, ⟨n2, n2b⟩, ⟨n3, n3b⟩, ⟨n4, n4b⟩, nof, non⟩ := id N
  refine zEi_of (lv := [some (.ref f), some (.int a), none, none]) (by decide) rfl (Nat.le_of_ble_eq_true rfl) ?_
  have loop : ∀ m j, nn - j < m → j ≤ nn → zA G y_Fen_worthOf prog_2_method_13_code 4 (some .int) (zRm 1 0 0) (zM G 0 0 (fun r w' => ∃ x, r = some (.int x) ∧ (fun r w => r = s_sum (fun t => zB a t) (fun t => I (f + 1) (I (f + 5) t).toNatClampNeg) nn ∧ w = (I, J, P, S)) x w')) 4 [some (.ref f), some (.int a), some (.int (s_sum (fun t => zB a t) (fun t => I (f + 1) (I (f + 5) t).toNatClampNeg) j)), some (.int (nI j))] [] (I, J, P, S) 0 0 := by
    intro m
    induction m with
    | zero => intro j h; omega
    | succ m ih =>
      intro j hm hj
      refine z_iload_3 d_Fen_worthOf_4 ?_
      refine z_aload_0 d_Fen_worthOf_5 ?_
      refine z_getIv d_Fen_worthOf_6 f_Fen_66 (by assumption) (by first | assumption | ((try simp (disch := omega) only [zu_same, zu_ne, zcp_ne, zfl_ne]); first | assumption | rfl)) ?_
      refine z_icmp_ge (tgt := 40) d_Fen_worthOf_9 (by decide) (fun hb => ?_) (fun hb => ?_)
      · have hb := (nI_leI (by omega) (by omega)).mp hb
        obtain rfl : j = nn := by omega
        refine z_iload_2 d_Fen_worthOf_40 ?_
        refine z_reti d_Fen_worthOf_41 ?_
        exact ⟨rfl, rfl⟩
      · have hb : j < nn := Nat.lt_of_not_le (fun q => hb (nI_le q (by omega)))
        obtain ⟨k, hk, hk2⟩ := nof j hb
        have q := ih (j + 1) (by omega) (by omega)
        rw [s_sum] at q
        refine z_iload_1 d_Fen_worthOf_12 ?_
        refine z_iload_3 d_Fen_worthOf_13 ?_
        refine z_ishr d_Fen_worthOf_14 ?_
        refine z_iconst (a := nI 1) d_Fen_worthOf_15 (by decide) ?_
        refine z_iand d_Fen_worthOf_16 ?_
        refine z_if_eq (tgt := 34) d_Fen_worthOf_17 (by decide) (fun hc => ?_) (fun hc => ?_)
        · have hc := zbit_n.mp hc
          rw [if_neg hc] at q
          first | refine z_iinc_3 d_Fen_worthOf_34 rfl (zi_inc _) ?_ | refine z_iinc_3 d_Fen_worthOf_34 rfl rfl ?_
          refine z_goto (tgt := 4) d_Fen_worthOf_37 (by decide) ?_
          exact q
        · have hc := zbit_p.mp hc
          rw [if_pos hc, hk2, nI_clamp (by omega)] at q
          refine z_iload_2 d_Fen_worthOf_20 ?_
          refine z_aload_0 d_Fen_worthOf_21 ?_
          refine z_getR d_Fen_worthOf_22 f_Fen_15 (by assumption) (by assumption) ?_
          refine z_aload_0 d_Fen_worthOf_25 ?_
          refine z_getR d_Fen_worthOf_26 f_Fen_28 (by assumption) (by assumption) ?_
          refine z_iload_3 d_Fen_worthOf_29 ?_
          first | refine z_ialdNv d_Fen_worthOf_30 (by assumption) (by omega) (by decide) (by first | assumption | ((try simp (disch := omega) only [zu_same, zu_ne, zcp_ne, zfl_ne]); first | assumption | rfl)) ?_ | refine z_iald d_Fen_worthOf_30 (by assumption) (by assumption) ?_
          first | refine z_ialdNv d_Fen_worthOf_31 (by assumption) (by omega) (by decide) (by first | assumption | ((try simp (disch := omega) only [zu_same, zu_ne, zcp_ne, zfl_ne]); first | assumption | rfl)) ?_ | refine z_iald d_Fen_worthOf_31 (by assumption) (by assumption) ?_
          first | refine z_iaddN d_Fen_worthOf_32 ?_ | refine z_iadd d_Fen_worthOf_32 ?_
          first | refine z_istore_2 d_Fen_worthOf_33 rfl ?_ | (refine z_forget_1 ?_; refine z_istore_2 d_Fen_worthOf_33 rfl ?_)
          first | refine z_iinc_3 d_Fen_worthOf_34 rfl (zi_inc _) ?_ | refine z_iinc_3 d_Fen_worthOf_34 rfl rfl ?_
          refine z_goto (tgt := 4) d_Fen_worthOf_37 (by decide) ?_
          exact q
  refine z_iconst (a := nI 0) d_Fen_worthOf_0 (by decide) ?_
  first | refine z_istore_2 d_Fen_worthOf_1 rfl ?_ | (refine z_forget_1 ?_; refine z_istore_2 d_Fen_worthOf_1 rfl ?_)
  refine z_iconst (a := nI 0) d_Fen_worthOf_2 (by decide) ?_
  first | refine z_istore_3 d_Fen_worthOf_3 rfl ?_ | (refine z_forget_2 ?_; refine z_istore_3 d_Fen_worthOf_3 rfl ?_)
  exact loop (nn + 1) 0 (by omega) (by omega)
theorem t_Fen_gotByAll (F : fenOk P S f) (N : fenIn I f nt np nl nn) : zEi G y_Fen_gotByAll prog_2_method_15_code 3 (some .int) 1 [.ref f] (I, J, P, S) (fun r w => r = s_sum (fun _ => true) (I (f + 4)) np ∧ w = (I, J, P, S)) := by
  obtain ⟨F0, ⟨F8, F8s⟩, ⟨F9, F9s⟩, ⟨F10, F10s⟩, ⟨F11, F11s⟩, ⟨F12, F12s⟩, ⟨F13, F13s⟩, ⟨F14, F14s⟩, ⟨F15, F15s⟩, ⟨F16, F16s⟩, ⟨F17, F17s⟩, ⟨F18, F18s⟩, ⟨F19, F19s⟩, ⟨Y3, Y3s⟩, ⟨Y4, Y4s⟩, ⟨Y5, Y5s⟩, ⟨Y6, Y6s⟩⟩ := id F
  obtain ⟨⟨n1, n1b⟩, ⟨n2, n2b⟩, ⟨n3, n3b⟩, ⟨n4, n4b⟩, nof, non⟩ := id N
  refine zEi_of (lv := [some (.ref f), none, none]) (by decide) rfl (Nat.le_of_ble_eq_true rfl) ?_
  have loop : ∀ m j, np - j < m → j ≤ np → zA G y_Fen_gotByAll prog_2_method_15_code 3 (some .int) (zRm 1 0 0) (zM G 0 0 (fun r w' => ∃ x, r = some (.int x) ∧ (fun r w => r = s_sum (fun _ => true) (I (f + 4)) np ∧ w = (I, J, P, S)) x w')) 4 [some (.ref f), some (.int (s_sum (fun _ => true) (I (f + 4)) j)), some (.int (nI j))] [] (I, J, P, S) 0 0 := by
    intro m
    induction m with
    | zero => intro j h; omega
    | succ m ih =>
      intro j hm hj
      refine z_iload_2 d_Fen_gotByAll_4 ?_
      refine z_aload_0 d_Fen_gotByAll_5 ?_
      refine z_getIv d_Fen_gotByAll_6 f_Fen_60 (by assumption) (by first | assumption | ((try simp (disch := omega) only [zu_same, zu_ne, zcp_ne, zfl_ne]); first | assumption | rfl)) ?_
      refine z_icmp_ge (tgt := 27) d_Fen_gotByAll_9 (by decide) (fun h9 => ?_) (fun h9 => ?_)
      · first
        | (simp (disch := omega) only [← nI_0, nI_leI, nI_ltI, nI_eq, not_true_eq_false, not_false_eq_true] at h9; done)
        | (simp (disch := omega) only [← nI_0, nI_leI, nI_ltI, nI_eq, not_true_eq_false, not_false_eq_true] at h9; omega)
        | contradiction
        | exact absurd h9 (Int32.not_lt.mpr (by assumption))
        | exact absurd h9 (Int32.not_le.mpr (by assumption))
        | ( try simp (disch := omega) only [← nI_0, nI_leI, nI_ltI, nI_eq, not_true_eq_false, not_false_eq_true] at h9
            (try have h9b := zbit_n0.mp h9); (try have h9b := zbit_p0.mp h9)
            refine z_iload_1 d_Fen_gotByAll_27 ?_
            refine z_reti d_Fen_gotByAll_28 ?_
            (obtain rfl : j = np := by omega); exact ⟨rfl, rfl⟩)
      · first
        | (simp (disch := omega) only [← nI_0, nI_leI, nI_ltI, nI_eq, not_true_eq_false, not_false_eq_true] at h9; done)
        | (simp (disch := omega) only [← nI_0, nI_leI, nI_ltI, nI_eq, not_true_eq_false, not_false_eq_true] at h9; omega)
        | contradiction
        | exact absurd h9 (Int32.not_lt.mpr (by assumption))
        | exact absurd h9 (Int32.not_le.mpr (by assumption))
        | ( try simp (disch := omega) only [← nI_0, nI_leI, nI_ltI, nI_eq, not_true_eq_false, not_false_eq_true] at h9
            (try have h9b := zbit_n0.mp h9); (try have h9b := zbit_p0.mp h9)
            refine z_iload_1 d_Fen_gotByAll_12 ?_
            refine z_aload_0 d_Fen_gotByAll_13 ?_
            refine z_getR d_Fen_gotByAll_14 f_Fen_25 (by assumption) (by assumption) ?_
            refine z_iload_2 d_Fen_gotByAll_17 ?_
            first | refine z_ialdNv d_Fen_gotByAll_18 (by assumption) (by omega) (by decide) (by first | assumption | ((try simp (disch := omega) only [zu_same, zu_ne, zcp_ne, zfl_ne]); first | assumption | rfl)) ?_ | refine z_iald d_Fen_gotByAll_18 (by assumption) (by assumption) ?_
            first | refine z_iaddN d_Fen_gotByAll_19 ?_ | refine z_iadd d_Fen_gotByAll_19 ?_
            first | refine z_istore_1 d_Fen_gotByAll_20 rfl ?_ | (refine z_forget_0 ?_; refine z_istore_1 d_Fen_gotByAll_20 rfl ?_)
            first | refine z_iinc_2 d_Fen_gotByAll_21 rfl (zi_inc _) ?_ | refine z_iinc_2 d_Fen_gotByAll_21 rfl rfl ?_
            refine z_goto (tgt := 4) d_Fen_gotByAll_24 (by decide) ?_
            (have q := ih (j + 1) (by omega) (by omega); rw [s_sum, if_pos rfl] at q; exact q))
  refine z_iconst (a := nI 0) d_Fen_gotByAll_0 (by decide) ?_
  first | refine z_istore_1 d_Fen_gotByAll_1 rfl ?_ | (refine z_forget_0 ?_; refine z_istore_1 d_Fen_gotByAll_1 rfl ?_)
  refine z_iconst (a := nI 0) d_Fen_gotByAll_2 (by decide) ?_
  first | refine z_istore_2 d_Fen_gotByAll_3 rfl ?_ | (refine z_forget_1 ?_; refine z_istore_2 d_Fen_gotByAll_3 rfl ?_)
  exact loop (np + 1) 0 (by omega) (by omega)
theorem t_Fen_believersIn {t k : Nat} (F : fenOk P S f) (N : fenIn I f nt np nl nn) (ht : t < nn) (hk : I (f + 5) t = nI k) : zEi G y_Fen_believersIn prog_2_method_16_code 4 (some .int) 2 [.ref f, .int (nI t)] (I, J, P, S) (fun r w => r = s_set (fun p => zB (I (f + 2) p) k) np ∧ w = (I, J, P, S)) := by
  obtain ⟨F0, ⟨F8, F8s⟩, ⟨F9, F9s⟩, ⟨F10, F10s⟩, ⟨F11, F11s⟩, ⟨F12, F12s⟩, ⟨F13, F13s⟩, ⟨F14, F14s⟩, ⟨F15, F15s⟩, ⟨F16, F16s⟩, ⟨F17, F17s⟩, ⟨F18, F18s⟩, ⟨F19, F19s⟩, ⟨Y3, Y3s⟩, ⟨Y4, Y4s⟩, ⟨Y5, Y5s⟩, ⟨Y6, Y6s⟩⟩ := id F
  obtain ⟨⟨n1, n1b⟩, ⟨n2, n2b⟩, ⟨n3, n3b⟩, ⟨n4, n4b⟩, nof, non⟩ := id N
  refine zEi_of (lv := [some (.ref f), some (.int (nI t)), none, none]) (by decide) rfl (Nat.le_of_ble_eq_true rfl) ?_
  have loop : ∀ m j, np - j < m → j ≤ np → zA G y_Fen_believersIn prog_2_method_16_code 4 (some .int) (zRm 2 0 0) (zM G 0 0 (fun r w' => ∃ x, r = some (.int x) ∧ (fun r w => r = s_set (fun p => zB (I (f + 2) p) k) np ∧ w = (I, J, P, S)) x w')) 4 [some (.ref f), some (.int (nI t)), some (.int (s_set (fun p => zB (I (f + 2) p) k) j)), some (.int (nI j))] [] (I, J, P, S) 0 0 := by
    intro m
    induction m with
    | zero => intro j h; omega
    | succ m ih =>
      intro j hm hj
      refine z_iload_3 d_Fen_believersIn_4 ?_
      refine z_aload_0 d_Fen_believersIn_5 ?_
      refine z_getIv d_Fen_believersIn_6 f_Fen_60 (by assumption) (by first | assumption | ((try simp (disch := omega) only [zu_same, zu_ne, zcp_ne, zfl_ne]); first | assumption | rfl)) ?_
      refine z_icmp_ge (tgt := 38) d_Fen_believersIn_9 (by decide) (fun h9 => ?_) (fun h9 => ?_)
      · first
        | (simp (disch := omega) only [← nI_0, nI_leI, nI_ltI, nI_eq, not_true_eq_false, not_false_eq_true] at h9; done)
        | (simp (disch := omega) only [← nI_0, nI_leI, nI_ltI, nI_eq, not_true_eq_false, not_false_eq_true] at h9; omega)
        | contradiction
        | exact absurd h9 (Int32.not_lt.mpr (by assumption))
        | exact absurd h9 (Int32.not_le.mpr (by assumption))
        | ( try simp (disch := omega) only [← nI_0, nI_leI, nI_ltI, nI_eq, not_true_eq_false, not_false_eq_true] at h9
            (try have h9b := zbit_n0.mp h9); (try have h9b := zbit_p0.mp h9)
            refine z_iload_2 d_Fen_believersIn_38 ?_
            refine z_reti d_Fen_believersIn_39 ?_
            (obtain rfl : j = np := by omega); exact ⟨rfl, rfl⟩)
      · first
        | (simp (disch := omega) only [← nI_0, nI_leI, nI_ltI, nI_eq, not_true_eq_false, not_false_eq_true] at h9; done)
        | (simp (disch := omega) only [← nI_0, nI_leI, nI_ltI, nI_eq, not_true_eq_false, not_false_eq_true] at h9; omega)
        | contradiction
        | exact absurd h9 (Int32.not_lt.mpr (by assumption))
        | exact absurd h9 (Int32.not_le.mpr (by assumption))
        | ( try simp (disch := omega) only [← nI_0, nI_leI, nI_ltI, nI_eq, not_true_eq_false, not_false_eq_true] at h9
            (try have h9b := zbit_n0.mp h9); (try have h9b := zbit_p0.mp h9)
            refine z_aload_0 d_Fen_believersIn_12 ?_
            refine z_iload_3 d_Fen_believersIn_13 ?_
            refine z_aload_0 d_Fen_believersIn_14 ?_
            refine z_getR d_Fen_believersIn_15 f_Fen_28 (by assumption) (by assumption) ?_
            refine z_iload_1 d_Fen_believersIn_18 ?_
            first | refine z_ialdNv d_Fen_believersIn_19 (by assumption) (by omega) (by decide) (by first | assumption | ((try simp (disch := omega) only [zu_same, zu_ne, zcp_ne, zfl_ne]); first | assumption | rfl)) ?_ | refine z_iald d_Fen_believersIn_19 (by assumption) (by assumption) ?_
            refine z_Vi2 d_Fen_believersIn_20 k_Fen_98 (by assumption) (t_Fen_isTrue (by assumption) (by omega)) ⟨Nat.le_of_ble_eq_true rfl, Nat.le_of_ble_eq_true rfl, Nat.le_of_ble_eq_true rfl, Nat.le_of_ble_eq_true rfl⟩ (Nat.le_of_ble_eq_true rfl) ?_
            intro r w hq
            rcases hq with ⟨⟨hz20, rfl⟩ | ⟨hz20, rfl⟩, rfl⟩
            · first
              | contradiction
              | ( skip
                  refine z_if_eq (tgt := 32) d_Fen_believersIn_23 (by decide) (fun h => absurd h (by decide)) (fun _ => ?_)
                  refine z_iload_2 d_Fen_believersIn_26 ?_
                  refine z_iconst (a := nI 1) d_Fen_believersIn_27 (by decide) ?_
                  refine z_iload_3 d_Fen_believersIn_28 ?_
                  refine z_ishl d_Fen_believersIn_29 ?_
                  refine z_ior d_Fen_believersIn_30 ?_
                  first | refine z_istore_2 d_Fen_believersIn_31 rfl ?_ | (refine z_forget_1 ?_; refine z_istore_2 d_Fen_believersIn_31 rfl ?_)
                  first | refine z_iinc_3 d_Fen_believersIn_32 rfl (zi_inc _) ?_ | refine z_iinc_3 d_Fen_believersIn_32 rfl rfl ?_
                  refine z_goto (tgt := 4) d_Fen_believersIn_35 (by decide) ?_
                  (have q := ih (j + 1) (by omega) (by omega); rw [s_set] at q; first | (rw [if_pos (by assumption)] at q; exact q) | (rw [if_neg (by assumption)] at q; exact q)))
            · first
              | contradiction
              | ( skip
                  refine z_if_eq (tgt := 32) d_Fen_believersIn_23 (by decide) (fun _ => ?_) (fun h => absurd h (by decide))
                  first | refine z_iinc_3 d_Fen_believersIn_32 rfl (zi_inc _) ?_ | refine z_iinc_3 d_Fen_believersIn_32 rfl rfl ?_
                  refine z_goto (tgt := 4) d_Fen_believersIn_35 (by decide) ?_
                  (have q := ih (j + 1) (by omega) (by omega); rw [s_set] at q; first | (rw [if_pos (by assumption)] at q; exact q) | (rw [if_neg (by assumption)] at q; exact q))))
  refine z_iconst (a := nI 0) d_Fen_believersIn_0 (by decide) ?_
  first | refine z_istore_2 d_Fen_believersIn_1 rfl ?_ | (refine z_forget_1 ?_; refine z_istore_2 d_Fen_believersIn_1 rfl ?_)
  refine z_iconst (a := nI 0) d_Fen_believersIn_2 (by decide) ?_
  first | refine z_istore_3 d_Fen_believersIn_3 rfl ?_ | (refine z_forget_2 ?_; refine z_istore_3 d_Fen_believersIn_3 rfl ?_)
  exact loop (np + 1) 0 (by omega) (by omega)
theorem t_Fen_worthOfAll (F : fenOk P S f) (N : fenIn I f nt np nl nn) : zEi G y_Fen_worthOfAll prog_2_method_14_code 1 (some .int) 2 [.ref f] (I, J, P, S) (fun r w => r = s_sum (fun t => zB (s_set (fun t => decide (I (f + 6) t = -1)) nn ^^^ -1) t) (fun t => I (f + 1) (I (f + 5) t).toNatClampNeg) nn ∧ w = (I, J, P, S)) := by
  obtain ⟨F0, ⟨F8, F8s⟩, ⟨F9, F9s⟩, ⟨F10, F10s⟩, ⟨F11, F11s⟩, ⟨F12, F12s⟩, ⟨F13, F13s⟩, ⟨F14, F14s⟩, ⟨F15, F15s⟩, ⟨F16, F16s⟩, ⟨F17, F17s⟩, ⟨F18, F18s⟩, ⟨F19, F19s⟩, ⟨Y3, Y3s⟩, ⟨Y4, Y4s⟩, ⟨Y5, Y5s⟩, ⟨Y6, Y6s⟩⟩ := id F
  refine zEi_of (lv := [some (.ref f)]) (by decide) rfl (Nat.le_of_ble_eq_true rfl) ?_
  refine z_aload_0 d_Fen_worthOfAll_0 ?_
  refine z_aload_0 d_Fen_worthOfAll_1 ?_
  refine z_iconst (a := -1) d_Fen_worthOfAll_2 (by decide) ?_
  refine z_Vi1 d_Fen_worthOfAll_3 k_Fen_91 (by assumption) (t_Fen_wornBy (by assumption) (by assumption)) ⟨Nat.le_of_ble_eq_true rfl, Nat.le_of_ble_eq_true rfl, Nat.le_of_ble_eq_true rfl, Nat.le_of_ble_eq_true rfl⟩ (Nat.le_of_ble_eq_true rfl) ?_
  intro r w hq
  obtain ⟨rfl, rfl⟩ := hq
  refine z_iconst (a := -1) d_Fen_worthOfAll_6 (by decide) ?_
  refine z_ixor d_Fen_worthOfAll_7 ?_
  refine z_Vi1 d_Fen_worthOfAll_8 k_Fen_95 (by assumption) (t_Fen_worthOf (by assumption) (by assumption)) ⟨Nat.le_of_ble_eq_true rfl, Nat.le_of_ble_eq_true rfl, Nat.le_of_ble_eq_true rfl, Nat.le_of_ble_eq_true rfl⟩ (Nat.le_of_ble_eq_true rfl) ?_
  intro r w hq
  obtain ⟨rfl, rfl⟩ := hq
  refine z_reti d_Fen_worthOfAll_11 ?_
  exact ⟨rfl, rfl⟩
theorem t_Fen_takers {t k p : Nat} (F : fenOk P S f) (N : fenIn I f nt np nl nn) (ht : t < nn) (hk : I (f + 5) t = nI k) (hp : I (f + 6) t = nI p) (hp2 : p < np) : zEi G y_Fen_takers prog_2_method_17_code 2 (some .int) 3 [.ref f, .int (nI t)] (I, J, P, S) (fun r w => r = I (f + 3) p &&& s_set (fun p => zB (I (f + 2) p) k) np ∧ w = (I, J, P, S)) := by
  obtain ⟨F0, ⟨F8, F8s⟩, ⟨F9, F9s⟩, ⟨F10, F10s⟩, ⟨F11, F11s⟩, ⟨F12, F12s⟩, ⟨F13, F13s⟩, ⟨F14, F14s⟩, ⟨F15, F15s⟩, ⟨F16, F16s⟩, ⟨F17, F17s⟩, ⟨F18, F18s⟩, ⟨F19, F19s⟩, ⟨Y3, Y3s⟩, ⟨Y4, Y4s⟩, ⟨Y5, Y5s⟩, ⟨Y6, Y6s⟩⟩ := id F
  obtain ⟨⟨n1, n1b⟩, ⟨n2, n2b⟩, ⟨n3, n3b⟩, ⟨n4, n4b⟩, nof, non⟩ := id N
  have hg : ¬ I (f + 6) t < 0 := by rw [hp]; exact nI_pos (by omega)
  refine zEi_of (lv := [some (.ref f), some (.int (nI t))]) (by decide) rfl (Nat.le_of_ble_eq_true rfl) ?_
  refine z_aload_0 d_Fen_takers_0 ?_
  refine z_iload_1 d_Fen_takers_1 ?_
  refine z_Vi1 d_Fen_takers_2 k_Fen_102 (by assumption) (t_Fen_isGone (by assumption) (by omega)) ⟨Nat.le_of_ble_eq_true rfl, Nat.le_of_ble_eq_true rfl, Nat.le_of_ble_eq_true rfl, Nat.le_of_ble_eq_true rfl⟩ (Nat.le_of_ble_eq_true rfl) ?_
  intro r w hq
  rcases hq with ⟨⟨hz2, rfl⟩ | ⟨hz2, rfl⟩, rfl⟩
  · first
    | contradiction
    | ( skip
        refine z_if_eq (tgt := 12) d_Fen_takers_5 (by decide) (fun h => absurd h (by decide)) (fun _ => ?_)
        refine z_iconst (a := nI 0) d_Fen_takers_8 (by decide) ?_
        refine z_goto (tgt := 29) d_Fen_takers_9 (by decide) ?_
        refine z_reti d_Fen_takers_29 ?_
        exact ⟨rfl, rfl⟩)
  · first
    | contradiction
    | ( skip
        refine z_if_eq (tgt := 12) d_Fen_takers_5 (by decide) (fun _ => ?_) (fun h => absurd h (by decide))
        refine z_aload_0 d_Fen_takers_12 ?_
        refine z_getR d_Fen_takers_13 f_Fen_22 (by assumption) (by assumption) ?_
        refine z_aload_0 d_Fen_takers_16 ?_
        refine z_getR d_Fen_takers_17 f_Fen_31 (by assumption) (by assumption) ?_
        refine z_iload_1 d_Fen_takers_20 ?_
        first | refine z_ialdNv d_Fen_takers_21 (by assumption) (by omega) (by decide) (by first | assumption | ((try simp (disch := omega) only [zu_same, zu_ne, zcp_ne, zfl_ne]); first | assumption | rfl)) ?_ | refine z_iald d_Fen_takers_21 (by assumption) (by assumption) ?_
        first | refine z_ialdNv d_Fen_takers_22 (by assumption) (by omega) (by decide) (by first | assumption | ((try simp (disch := omega) only [zu_same, zu_ne, zcp_ne, zfl_ne]); first | assumption | rfl)) ?_ | refine z_iald d_Fen_takers_22 (by assumption) (by assumption) ?_
        refine z_aload_0 d_Fen_takers_23 ?_
        refine z_iload_1 d_Fen_takers_24 ?_
        refine z_Vi1 d_Fen_takers_25 k_Fen_106 (by assumption) (t_Fen_believersIn (by assumption) (by assumption) (by omega) (by assumption)) ⟨Nat.le_of_ble_eq_true rfl, Nat.le_of_ble_eq_true rfl, Nat.le_of_ble_eq_true rfl, Nat.le_of_ble_eq_true rfl⟩ (Nat.le_of_ble_eq_true rfl) ?_
        intro r w hq
        obtain ⟨rfl, rfl⟩ := hq
        refine z_iand d_Fen_takers_28 ?_
        refine z_reti d_Fen_takers_29 ?_
        exact ⟨rfl, rfl⟩)
theorem t_Fen_takers0 {t : Nat} (F : fenOk P S f) (N : fenIn I f nt np nl nn) (ht : t < nn) (hp : I (f + 6) t = -1) : zEi G y_Fen_takers prog_2_method_17_code 2 (some .int) 3 [.ref f, .int (nI t)] (I, J, P, S) (fun r w => r = nI 0 ∧ w = (I, J, P, S)) := by
  obtain ⟨F0, ⟨F8, F8s⟩, ⟨F9, F9s⟩, ⟨F10, F10s⟩, ⟨F11, F11s⟩, ⟨F12, F12s⟩, ⟨F13, F13s⟩, ⟨F14, F14s⟩, ⟨F15, F15s⟩, ⟨F16, F16s⟩, ⟨F17, F17s⟩, ⟨F18, F18s⟩, ⟨F19, F19s⟩, ⟨Y3, Y3s⟩, ⟨Y4, Y4s⟩, ⟨Y5, Y5s⟩, ⟨Y6, Y6s⟩⟩ := id F
  obtain ⟨⟨n1, n1b⟩, ⟨n2, n2b⟩, ⟨n3, n3b⟩, ⟨n4, n4b⟩, nof, non⟩ := id N
  have hg : I (f + 6) t < 0 := by rw [hp]; decide
  obtain ⟨k, hk, hk2⟩ := nof t ht
  refine zEi_of (lv := [some (.ref f), some (.int (nI t))]) (by decide) rfl (Nat.le_of_ble_eq_true rfl) ?_
  refine z_aload_0 d_Fen_takers_0 ?_
  refine z_iload_1 d_Fen_takers_1 ?_
  refine z_Vi1 d_Fen_takers_2 k_Fen_102 (by assumption) (t_Fen_isGone (by assumption) (by omega)) ⟨Nat.le_of_ble_eq_true rfl, Nat.le_of_ble_eq_true rfl, Nat.le_of_ble_eq_true rfl, Nat.le_of_ble_eq_true rfl⟩ (Nat.le_of_ble_eq_true rfl) ?_
  intro r w hq
  rcases hq with ⟨⟨hz2, rfl⟩ | ⟨hz2, rfl⟩, rfl⟩
  · first
    | contradiction
    | ( skip
        refine z_if_eq (tgt := 12) d_Fen_takers_5 (by decide) (fun h => absurd h (by decide)) (fun _ => ?_)
        refine z_iconst (a := nI 0) d_Fen_takers_8 (by decide) ?_
        refine z_goto (tgt := 29) d_Fen_takers_9 (by decide) ?_
        refine z_reti d_Fen_takers_29 ?_
        exact ⟨rfl, rfl⟩)
  · first
    | contradiction
    | ( skip
        refine z_if_eq (tgt := 12) d_Fen_takers_5 (by decide) (fun _ => ?_) (fun h => absurd h (by decide))
        refine z_aload_0 d_Fen_takers_12 ?_
        refine z_getR d_Fen_takers_13 f_Fen_22 (by assumption) (by assumption) ?_
        refine z_aload_0 d_Fen_takers_16 ?_
        refine z_getR d_Fen_takers_17 f_Fen_31 (by assumption) (by assumption) ?_
        refine z_iload_1 d_Fen_takers_20 ?_
        first | refine z_ialdNv d_Fen_takers_21 (by assumption) (by omega) (by decide) (by first | assumption | ((try simp (disch := omega) only [zu_same, zu_ne, zcp_ne, zfl_ne]); first | assumption | rfl)) ?_ | refine z_iald d_Fen_takers_21 (by assumption) (by assumption) ?_
        first | refine z_ialdNv d_Fen_takers_22 (by assumption) (by omega) (by decide) (by first | assumption | ((try simp (disch := omega) only [zu_same, zu_ne, zcp_ne, zfl_ne]); first | assumption | rfl)) ?_ | refine z_iald d_Fen_takers_22 (by assumption) (by assumption) ?_
        refine z_aload_0 d_Fen_takers_23 ?_
        refine z_iload_1 d_Fen_takers_24 ?_
        refine z_Vi1 d_Fen_takers_25 k_Fen_106 (by assumption) (t_Fen_believersIn (by assumption) (by assumption) (by omega) (by assumption)) ⟨Nat.le_of_ble_eq_true rfl, Nat.le_of_ble_eq_true rfl, Nat.le_of_ble_eq_true rfl, Nat.le_of_ble_eq_true rfl⟩ (Nat.le_of_ble_eq_true rfl) ?_
        intro r w hq
        obtain ⟨rfl, rfl⟩ := hq
        refine z_iand d_Fen_takers_28 ?_
        refine z_reti d_Fen_takers_29 ?_
        exact ⟨rfl, rfl⟩)
end C2
