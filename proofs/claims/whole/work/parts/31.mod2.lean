/-! the reference: what it reads of its row of blocks -/
section M2
variable {G : zG} {I : Nat → Nat → Int32} {J : Nat → Nat → Int64} {P : Nat → Nat → Option Nat} {S : List (Nat × Nat)} {a b : Int32} {x lo hi : Int64} {nt np nl nn : Nat}
/-- the counts of the reference's first block, and that its tins are of a trait, on a person or gone -/
def modIn (I : Nat → Nat → Int32) (nt np nl nn : Nat) : Prop :=
  (I 150 0 = nI nt ∧ nt ≤ 6) ∧ (I 150 1 = nI np ∧ np ≤ 7) ∧ (I 150 2 = nI nl ∧ nl ≤ 12) ∧ (I 150 3 = nI nn ∧ nn ≤ 9) ∧ (∀ t, t < nn → ∃ k, k < nt ∧ I 150 (33 + t) = nI k) ∧ (∀ t, t < nn → I 150 (42 + t) = -1 ∨ ∃ p, p < np ∧ I 150 (42 + t) = nI p)
theorem zor0 (x : Int32) : x ||| nI 0 = x := by rw [nI_0, Int32.or_zero]
theorem zadd0 (x : Int32) : x + nI 0 = x := by rw [nI_0, Int32.add_zero]
theorem zin_int {a : Int32} {n : Nat} (hn : n < 2 ^ 31) : zin a n ↔ 0 ≤ a.toInt ∧ a.toInt < n := by
  rw [← vp_in_iff]
  constructor
  · rintro ⟨j, hj, rfl⟩
    exact vp_in_nI hj hn
  · intro h
    exact vp_in_of h hn
def zinL (x : Int64) (n : Nat) : Prop := ∃ j, j < n ∧ x = lN j
theorem lN_int {n : Nat} (h : n < 2 ^ 31) : (lN n).toInt = (n : Int) := lN_toInt h
theorem zinL_int {x : Int64} {n : Nat} (hn : n < 2 ^ 31) : zinL x n ↔ 0 ≤ x.toInt ∧ x.toInt < n := by
  constructor
  · rintro ⟨j, hj, rfl⟩
    rw [lN_int (by omega)]
    omega
  · rintro ⟨h1, h2⟩
    refine ⟨x.toInt.toNat, by omega, ?_⟩
    apply Int64.toInt_inj.mp
    rw [lN_int (by omega)]
    omega
theorem zinL_i {a : Int32} {n : Nat} (hn : n < 2 ^ 31) : zinL a.toInt64 n ↔ zin a n := by
  rw [zinL_int hn, zin_int hn, Int32.toInt_toInt64]
theorem isInL {x : Int64} {n : Nat} (hn : n < 2 ^ 30) : (lN 0 ≤ x ∧ x ≤ (nI n - nI 1).toInt64) ↔ zinL x n := by
  rw [zinL_int (by omega), Int64.le_iff_toInt_le, Int64.le_iff_toInt_le, lN_int (by decide), Int32.toInt_toInt64, pk_sub_toInt hn (by decide)]
  omega
theorem isInI {a : Int32} {n : Nat} (hn : n < 2 ^ 30) : (lN 0 ≤ a.toInt64 ∧ a.toInt64 ≤ (nI n - nI 1).toInt64) ↔ zin a n := by rw [isInL hn, zinL_i (by omega)]
theorem t_Mo_isTraitAt (M : modOk P S) (N : modIn I nt np nl nn) : zEi G y_Mo_isTraitAt prog_14_method_73_code 2 (some .boolean) 2 [.ref 145, .int a] (I, J, P, S) (fun r w => (zin a nt ∧ r = nI 1 ∨ ¬ zin a nt ∧ r = nI 0) ∧ w = (I, J, P, S)) := by
  obtain ⟨M0, ⟨M4, M4s⟩, ⟨M5, M5s⟩, ⟨M6, M6s⟩, ⟨M7, M7s⟩, ⟨M20, M20s⟩, ⟨M21, M21s⟩, ⟨M22, M22s⟩, ⟨M26, M26s⟩, ⟨M27, M27s⟩, ⟨M28, M28s⟩, ⟨M30, M30s⟩, ⟨M34, M34s⟩, ⟨M36, M36s⟩, ⟨M37, M37s⟩⟩ := id M
  obtain ⟨⟨m0, m0b⟩, ⟨m1, m1b⟩, ⟨m2, m2b⟩, ⟨m3, m3b⟩, mof, mon⟩ := id N
  refine zEi_of (lv := [some (.ref 145), some (.int a)]) (by decide) rfl (Nat.le_of_ble_eq_true rfl) ?_
  refine z_iload_1 d_Mo_isTraitAt_0 ?_
  refine z_i2l d_Mo_isTraitAt_1 ?_
  refine z_lconst (f := lN 0) d_Mo_isTraitAt_2 rfl ?_
  refine z_aload_0 d_Mo_isTraitAt_3 ?_
  refine z_getR d_Mo_isTraitAt_4 f_Mo_35 (by assumption) (by assumption) ?_
  refine z_iconst (a := nI 0) d_Mo_isTraitAt_7 (by decide) ?_
  first | refine z_ialdNv d_Mo_isTraitAt_8 (by assumption) (by omega) (by decide) (by first | assumption | ((try simp (disch := omega) only [zu_same, zu_ne, zcp_ne, zfl_ne]); first | assumption | rfl)) ?_ | refine z_iald d_Mo_isTraitAt_8 (by assumption) (by assumption) ?_
  refine z_iconst (a := nI 1) d_Mo_isTraitAt_9 (by decide) ?_
  refine z_isub d_Mo_isTraitAt_10 ?_
  refine z_i2l d_Mo_isTraitAt_11 ?_
  refine z_Si3 d_Mo_isTraitAt_12 k_Mo_105 (t_Mo_isIn) ⟨Nat.le_of_ble_eq_true rfl, Nat.le_of_ble_eq_true rfl, Nat.le_of_ble_eq_true rfl, Nat.le_of_ble_eq_true rfl⟩ (Nat.le_of_ble_eq_true rfl) ?_
  intro r w hq
  rcases hq with ⟨⟨hz12, rfl⟩ | ⟨hz12, rfl⟩, rfl⟩
  · first
    | contradiction
    | ( skip
        refine z_retz d_Mo_isTraitAt_15 (by first | exact zb0 | exact zb1 | assumption) ?_
        first | exact ⟨Or.inl ⟨(isInI (by omega)).mp (by assumption), rfl⟩, rfl⟩ | exact ⟨Or.inr ⟨fun q => absurd ((isInI (by omega)).mpr q) (by assumption), rfl⟩, rfl⟩)
  · first
    | contradiction
    | ( skip
        refine z_retz d_Mo_isTraitAt_15 (by first | exact zb0 | exact zb1 | assumption) ?_
        first | exact ⟨Or.inl ⟨(isInI (by omega)).mp (by assumption), rfl⟩, rfl⟩ | exact ⟨Or.inr ⟨fun q => absurd ((isInI (by omega)).mpr q) (by assumption), rfl⟩, rfl⟩)
theorem t_Mo_isTinAt (M : modOk P S) (N : modIn I nt np nl nn) : zEi G y_Mo_isTinAt prog_14_method_75_code 2 (some .boolean) 2 [.ref 145, .int a] (I, J, P, S) (fun r w => (zin a nn ∧ r = nI 1 ∨ ¬ zin a nn ∧ r = nI 0) ∧ w = (I, J, P, S)) := by
  obtain ⟨M0, ⟨M4, M4s⟩, ⟨M5, M5s⟩, ⟨M6, M6s⟩, ⟨M7, M7s⟩, ⟨M20, M20s⟩, ⟨M21, M21s⟩, ⟨M22, M22s⟩, ⟨M26, M26s⟩, ⟨M27, M27s⟩, ⟨M28, M28s⟩, ⟨M30, M30s⟩, ⟨M34, M34s⟩, ⟨M36, M36s⟩, ⟨M37, M37s⟩⟩ := id M
  obtain ⟨⟨m0, m0b⟩, ⟨m1, m1b⟩, ⟨m2, m2b⟩, ⟨m3, m3b⟩, mof, mon⟩ := id N
  refine zEi_of (lv := [some (.ref 145), some (.int a)]) (by decide) rfl (Nat.le_of_ble_eq_true rfl) ?_
  refine z_iload_1 d_Mo_isTinAt_0 ?_
  refine z_i2l d_Mo_isTinAt_1 ?_
  refine z_lconst (f := lN 0) d_Mo_isTinAt_2 rfl ?_
  refine z_aload_0 d_Mo_isTinAt_3 ?_
  refine z_getR d_Mo_isTinAt_4 f_Mo_35 (by assumption) (by assumption) ?_
  refine z_iconst (a := nI 3) d_Mo_isTinAt_7 (by decide) ?_
  first | refine z_ialdNv d_Mo_isTinAt_8 (by assumption) (by omega) (by decide) (by first | assumption | ((try simp (disch := omega) only [zu_same, zu_ne, zcp_ne, zfl_ne]); first | assumption | rfl)) ?_ | refine z_iald d_Mo_isTinAt_8 (by assumption) (by assumption) ?_
  refine z_iconst (a := nI 1) d_Mo_isTinAt_9 (by decide) ?_
  refine z_isub d_Mo_isTinAt_10 ?_
  refine z_i2l d_Mo_isTinAt_11 ?_
  refine z_Si3 d_Mo_isTinAt_12 k_Mo_105 (t_Mo_isIn) ⟨Nat.le_of_ble_eq_true rfl, Nat.le_of_ble_eq_true rfl, Nat.le_of_ble_eq_true rfl, Nat.le_of_ble_eq_true rfl⟩ (Nat.le_of_ble_eq_true rfl) ?_
  intro r w hq
  rcases hq with ⟨⟨hz12, rfl⟩ | ⟨hz12, rfl⟩, rfl⟩
  · first
    | contradiction
    | ( skip
        refine z_retz d_Mo_isTinAt_15 (by first | exact zb0 | exact zb1 | assumption) ?_
        first | exact ⟨Or.inl ⟨(isInI (by omega)).mp (by assumption), rfl⟩, rfl⟩ | exact ⟨Or.inr ⟨fun q => absurd ((isInI (by omega)).mpr q) (by assumption), rfl⟩, rfl⟩)
  · first
    | contradiction
    | ( skip
        refine z_retz d_Mo_isTinAt_15 (by first | exact zb0 | exact zb1 | assumption) ?_
        first | exact ⟨Or.inl ⟨(isInI (by omega)).mp (by assumption), rfl⟩, rfl⟩ | exact ⟨Or.inr ⟨fun q => absurd ((isInI (by omega)).mpr q) (by assumption), rfl⟩, rfl⟩)
theorem t_Mo_isPersonAt (M : modOk P S) (N : modIn I nt np nl nn) : zEi G y_Mo_isPersonAt prog_14_method_74_code 3 (some .boolean) 2 [.ref 145, .long x] (I, J, P, S) (fun r w => (zinL x np ∧ r = nI 1 ∨ ¬ zinL x np ∧ r = nI 0) ∧ w = (I, J, P, S)) := by
  obtain ⟨M0, ⟨M4, M4s⟩, ⟨M5, M5s⟩, ⟨M6, M6s⟩, ⟨M7, M7s⟩, ⟨M20, M20s⟩, ⟨M21, M21s⟩, ⟨M22, M22s⟩, ⟨M26, M26s⟩, ⟨M27, M27s⟩, ⟨M28, M28s⟩, ⟨M30, M30s⟩, ⟨M34, M34s⟩, ⟨M36, M36s⟩, ⟨M37, M37s⟩⟩ := id M
  obtain ⟨⟨m0, m0b⟩, ⟨m1, m1b⟩, ⟨m2, m2b⟩, ⟨m3, m3b⟩, mof, mon⟩ := id N
  refine zEi_of (lv := [some (.ref 145), some (.long x), none]) (by decide) rfl (Nat.le_of_ble_eq_true rfl) ?_
  refine z_lload_1 d_Mo_isPersonAt_0 ?_
  refine z_lconst (f := lN 0) d_Mo_isPersonAt_1 rfl ?_
  refine z_aload_0 d_Mo_isPersonAt_2 ?_
  refine z_getR d_Mo_isPersonAt_3 f_Mo_35 (by assumption) (by assumption) ?_
  refine z_iconst (a := nI 1) d_Mo_isPersonAt_6 (by decide) ?_
  first | refine z_ialdNv d_Mo_isPersonAt_7 (by assumption) (by omega) (by decide) (by first | assumption | ((try simp (disch := omega) only [zu_same, zu_ne, zcp_ne, zfl_ne]); first | assumption | rfl)) ?_ | refine z_iald d_Mo_isPersonAt_7 (by assumption) (by assumption) ?_
  refine z_iconst (a := nI 1) d_Mo_isPersonAt_8 (by decide) ?_
  refine z_isub d_Mo_isPersonAt_9 ?_
  refine z_i2l d_Mo_isPersonAt_10 ?_
  refine z_Si3 d_Mo_isPersonAt_11 k_Mo_105 (t_Mo_isIn) ⟨Nat.le_of_ble_eq_true rfl, Nat.le_of_ble_eq_true rfl, Nat.le_of_ble_eq_true rfl, Nat.le_of_ble_eq_true rfl⟩ (Nat.le_of_ble_eq_true rfl) ?_
  intro r w hq
  rcases hq with ⟨⟨hz11, rfl⟩ | ⟨hz11, rfl⟩, rfl⟩
  · first
    | contradiction
    | ( skip
        refine z_retz d_Mo_isPersonAt_14 (by first | exact zb0 | exact zb1 | assumption) ?_
        first | exact ⟨Or.inl ⟨(isInL (by omega)).mp (by assumption), rfl⟩, rfl⟩ | exact ⟨Or.inr ⟨fun q => absurd ((isInL (by omega)).mpr q) (by assumption), rfl⟩, rfl⟩)
  · first
    | contradiction
    | ( skip
        refine z_retz d_Mo_isPersonAt_14 (by first | exact zb0 | exact zb1 | assumption) ?_
        first | exact ⟨Or.inl ⟨(isInL (by omega)).mp (by assumption), rfl⟩, rfl⟩ | exact ⟨Or.inr ⟨fun q => absurd ((isInL (by omega)).mpr q) (by assumption), rfl⟩, rfl⟩)
theorem t_Mo_isGone {t : Nat} (M : modOk P S) (ht : t < 9) : zEi G y_Mo_isGone prog_14_method_76_code 2 (some .boolean) 1 [.ref 145, .int (nI t)] (I, J, P, S) (fun r w => (I 150 (42 + t) < 0 ∧ r = nI 1 ∨ ¬ I 150 (42 + t) < 0 ∧ r = nI 0) ∧ w = (I, J, P, S)) := by
  obtain ⟨M0, ⟨M4, M4s⟩, ⟨M5, M5s⟩, ⟨M6, M6s⟩, ⟨M7, M7s⟩, ⟨M20, M20s⟩, ⟨M21, M21s⟩, ⟨M22, M22s⟩, ⟨M26, M26s⟩, ⟨M27, M27s⟩, ⟨M28, M28s⟩, ⟨M30, M30s⟩, ⟨M34, M34s⟩, ⟨M36, M36s⟩, ⟨M37, M37s⟩⟩ := id M
  refine zEi_of (lv := [some (.ref 145), some (.int (nI t))]) (by decide) rfl (Nat.le_of_ble_eq_true rfl) ?_
  refine z_aload_0 d_Mo_isGone_0 ?_
  refine z_getR d_Mo_isGone_1 f_Mo_35 (by assumption) (by assumption) ?_
  refine z_bipush (a := nI 42) d_Mo_isGone_4 (by decide) ?_
  refine z_iload_1 d_Mo_isGone_6 ?_
  first | refine z_iaddN d_Mo_isGone_7 ?_ | refine z_iadd d_Mo_isGone_7 ?_
  first | refine z_ialdNv d_Mo_isGone_8 (by assumption) (by omega) (by decide) (by first | assumption | ((try simp (disch := omega) only [zu_same, zu_ne, zcp_ne, zfl_ne]); first | assumption | rfl)) ?_ | refine z_iald d_Mo_isGone_8 (by assumption) (by assumption) ?_
  refine z_if_ge (tgt := 16) d_Mo_isGone_9 (by decide) (fun h9 => ?_) (fun h9 => ?_)
  · first
    | (simp (disch := omega) only [← nI_0, nI_leI, nI_ltI, nI_eq, not_true_eq_false, not_false_eq_true] at h9; done)
    | (simp (disch := omega) only [← nI_0, nI_leI, nI_ltI, nI_eq, not_true_eq_false, not_false_eq_true] at h9; omega)
    | contradiction
    | exact absurd h9 (Int32.not_lt.mpr (by assumption))
    | exact absurd h9 (Int32.not_le.mpr (by assumption))
    | exact absurd h9 (by decide)
    | exact absurd (by decide) h9
    | ( try simp (disch := omega) only [← nI_0, nI_leI, nI_ltI, nI_eq, not_true_eq_false, not_false_eq_true] at h9
        (try have h9b := zbit_n0.mp h9); (try have h9b := zbit_p0.mp h9)
        refine z_iconst (a := nI 0) d_Mo_isGone_16 (by decide) ?_
        refine z_retz d_Mo_isGone_17 (by first | exact zb0 | exact zb1 | assumption) ?_
        first | exact ⟨Or.inr ⟨by first | assumption | (rw [← nI_0]; assumption) | exact Int32.not_lt.mpr (by first | assumption | (rw [← nI_0]; assumption)), rfl⟩, rfl⟩ | exact ⟨Or.inl ⟨by first | assumption | (rw [← nI_0]; assumption) | exact Int32.not_le.mp (by first | assumption | (rw [← nI_0]; assumption)), rfl⟩, rfl⟩)
  · first
    | (simp (disch := omega) only [← nI_0, nI_leI, nI_ltI, nI_eq, not_true_eq_false, not_false_eq_true] at h9; done)
    | (simp (disch := omega) only [← nI_0, nI_leI, nI_ltI, nI_eq, not_true_eq_false, not_false_eq_true] at h9; omega)
    | contradiction
    | exact absurd h9 (Int32.not_lt.mpr (by assumption))
    | exact absurd h9 (Int32.not_le.mpr (by assumption))
    | exact absurd h9 (by decide)
    | exact absurd (by decide) h9
    | ( try simp (disch := omega) only [← nI_0, nI_leI, nI_ltI, nI_eq, not_true_eq_false, not_false_eq_true] at h9
        (try have h9b := zbit_n0.mp h9); (try have h9b := zbit_p0.mp h9)
        refine z_iconst (a := nI 1) d_Mo_isGone_12 (by decide) ?_
        refine z_goto (tgt := 17) d_Mo_isGone_13 (by decide) ?_
        refine z_retz d_Mo_isGone_17 (by first | exact zb0 | exact zb1 | assumption) ?_
        first | exact ⟨Or.inr ⟨by first | assumption | (rw [← nI_0]; assumption) | exact Int32.not_lt.mpr (by first | assumption | (rw [← nI_0]; assumption)), rfl⟩, rfl⟩ | exact ⟨Or.inl ⟨by first | assumption | (rw [← nI_0]; assumption) | exact Int32.not_le.mp (by first | assumption | (rw [← nI_0]; assumption)), rfl⟩, rfl⟩)
theorem t_Mo_worthOf {t k : Nat} (M : modOk P S) (ht : t < 9) (hk : I 150 (33 + t) = nI k) (hk6 : k < 6) : zEi G y_Mo_worthOf prog_14_method_77_code 2 (some .int) 1 [.ref 145, .int (nI t)] (I, J, P, S) (fun r w => r = I 150 (6 + k) ∧ w = (I, J, P, S)) := by
  obtain ⟨M0, ⟨M4, M4s⟩, ⟨M5, M5s⟩, ⟨M6, M6s⟩, ⟨M7, M7s⟩, ⟨M20, M20s⟩, ⟨M21, M21s⟩, ⟨M22, M22s⟩, ⟨M26, M26s⟩, ⟨M27, M27s⟩, ⟨M28, M28s⟩, ⟨M30, M30s⟩, ⟨M34, M34s⟩, ⟨M36, M36s⟩, ⟨M37, M37s⟩⟩ := id M
  refine zEi_of (lv := [some (.ref 145), some (.int (nI t))]) (by decide) rfl (Nat.le_of_ble_eq_true rfl) ?_
  refine z_aload_0 d_Mo_worthOf_0 ?_
  refine z_getR d_Mo_worthOf_1 f_Mo_35 (by assumption) (by assumption) ?_
  refine z_bipush (a := nI 6) d_Mo_worthOf_4 (by decide) ?_
  refine z_aload_0 d_Mo_worthOf_6 ?_
  refine z_getR d_Mo_worthOf_7 f_Mo_35 (by assumption) (by assumption) ?_
  refine z_bipush (a := nI 33) d_Mo_worthOf_10 (by decide) ?_
  refine z_iload_1 d_Mo_worthOf_12 ?_
  first | refine z_iaddN d_Mo_worthOf_13 ?_ | refine z_iadd d_Mo_worthOf_13 ?_
  first | refine z_ialdNv d_Mo_worthOf_14 (by assumption) (by omega) (by decide) (by first | assumption | ((try simp (disch := omega) only [zu_same, zu_ne, zcp_ne, zfl_ne]); first | assumption | rfl)) ?_ | refine z_iald d_Mo_worthOf_14 (by assumption) (by assumption) ?_
  first | refine z_iaddN d_Mo_worthOf_15 ?_ | refine z_iadd d_Mo_worthOf_15 ?_
  first | refine z_ialdNv d_Mo_worthOf_16 (by assumption) (by omega) (by decide) (by first | assumption | ((try simp (disch := omega) only [zu_same, zu_ne, zcp_ne, zfl_ne]); first | assumption | rfl)) ?_ | refine z_iald d_Mo_worthOf_16 (by assumption) (by assumption) ?_
  refine z_reti d_Mo_worthOf_17 ?_
  exact ⟨rfl, rfl⟩
theorem t_Mo_isTrue {t p k : Nat} (M : modOk P S) (ht : t < 9) (hp : p < 7) (hk : I 150 (33 + t) = nI k) : zEi G y_Mo_isTrue prog_14_method_78_code 3 (some .boolean) 2 [.ref 145, .int (nI t), .int (nI p)] (I, J, P, S) (fun r w => (zbit (I 150 (12 + p)) k ∧ r = nI 1 ∨ ¬ zbit (I 150 (12 + p)) k ∧ r = nI 0) ∧ w = (I, J, P, S)) := by
  obtain ⟨M0, ⟨M4, M4s⟩, ⟨M5, M5s⟩, ⟨M6, M6s⟩, ⟨M7, M7s⟩, ⟨M20, M20s⟩, ⟨M21, M21s⟩, ⟨M22, M22s⟩, ⟨M26, M26s⟩, ⟨M27, M27s⟩, ⟨M28, M28s⟩, ⟨M30, M30s⟩, ⟨M34, M34s⟩, ⟨M36, M36s⟩, ⟨M37, M37s⟩⟩ := id M
  refine zEi_of (lv := [some (.ref 145), some (.int (nI t)), some (.int (nI p))]) (by decide) rfl (Nat.le_of_ble_eq_true rfl) ?_
  refine z_aload_0 d_Mo_isTrue_0 ?_
  refine z_getR d_Mo_isTrue_1 f_Mo_35 (by assumption) (by assumption) ?_
  refine z_bipush (a := nI 12) d_Mo_isTrue_4 (by decide) ?_
  refine z_iload_2 d_Mo_isTrue_6 ?_
  first | refine z_iaddN d_Mo_isTrue_7 ?_ | refine z_iadd d_Mo_isTrue_7 ?_
  first | refine z_ialdNv d_Mo_isTrue_8 (by assumption) (by omega) (by decide) (by first | assumption | ((try simp (disch := omega) only [zu_same, zu_ne, zcp_ne, zfl_ne]); first | assumption | rfl)) ?_ | refine z_iald d_Mo_isTrue_8 (by assumption) (by assumption) ?_
  refine z_aload_0 d_Mo_isTrue_9 ?_
  refine z_getR d_Mo_isTrue_10 f_Mo_35 (by assumption) (by assumption) ?_
  refine z_bipush (a := nI 33) d_Mo_isTrue_13 (by decide) ?_
  refine z_iload_1 d_Mo_isTrue_15 ?_
  first | refine z_iaddN d_Mo_isTrue_16 ?_ | refine z_iadd d_Mo_isTrue_16 ?_
  first | refine z_ialdNv d_Mo_isTrue_17 (by assumption) (by omega) (by decide) (by first | assumption | ((try simp (disch := omega) only [zu_same, zu_ne, zcp_ne, zfl_ne]); first | assumption | rfl)) ?_ | refine z_iald d_Mo_isTrue_17 (by assumption) (by assumption) ?_
  refine z_Si2 d_Mo_isTrue_18 k_Mo_109 (t_Mo_has) ⟨Nat.le_of_ble_eq_true rfl, Nat.le_of_ble_eq_true rfl, Nat.le_of_ble_eq_true rfl, Nat.le_of_ble_eq_true rfl⟩ (Nat.le_of_ble_eq_true rfl) ?_
  intro r w hq
  rcases hq with ⟨⟨hz18, rfl⟩ | ⟨hz18, rfl⟩, rfl⟩
  · first
    | contradiction
    | ( skip
        refine z_retz d_Mo_isTrue_21 (by first | exact zb0 | exact zb1 | assumption) ?_
        first | exact ⟨Or.inl ⟨by assumption, rfl⟩, rfl⟩ | exact ⟨Or.inr ⟨by assumption, rfl⟩, rfl⟩)
  · first
    | contradiction
    | ( skip
        refine z_retz d_Mo_isTrue_21 (by first | exact zb0 | exact zb1 | assumption) ?_
        first | exact ⟨Or.inl ⟨by assumption, rfl⟩, rfl⟩ | exact ⟨Or.inr ⟨by assumption, rfl⟩, rfl⟩)
theorem t_Mo_tinsThat0 (M : modOk P S) (N : modIn I nt np nl nn) : zEi G y_Mo_tinsThat prog_14_method_79_code 4 (some .int) 2 [.ref 145, .int (nI 0)] (I, J, P, S) (fun r w => r = s_set (fun t => decide (I 150 (42 + t) < 0)) nn ∧ w = (I, J, P, S)) := by
  obtain ⟨M0, ⟨M4, M4s⟩, ⟨M5, M5s⟩, ⟨M6, M6s⟩, ⟨M7, M7s⟩, ⟨M20, M20s⟩, ⟨M21, M21s⟩, ⟨M22, M22s⟩, ⟨M26, M26s⟩, ⟨M27, M27s⟩, ⟨M28, M28s⟩, ⟨M30, M30s⟩, ⟨M34, M34s⟩, ⟨M36, M36s⟩, ⟨M37, M37s⟩⟩ := id M
  obtain ⟨⟨m0, m0b⟩, ⟨m1, m1b⟩, ⟨m2, m2b⟩, ⟨m3, m3b⟩, mof, mon⟩ := id N
  refine zEi_of (lv := [some (.ref 145), some (.int (nI 0)), none, none]) (by decide) rfl (Nat.le_of_ble_eq_true rfl) ?_
  have loop : ∀ m j, nn - j < m → j ≤ nn → zA G y_Mo_tinsThat prog_14_method_79_code 4 (some .int) (zRm 2 0 0) (zM G 0 0 (fun r w' => ∃ x, r = some (.int x) ∧ (fun r w => r = s_set (fun t => decide (I 150 (42 + t) < 0)) nn ∧ w = (I, J, P, S)) x w')) 4 [some (.ref 145), some (.int (nI 0)), some (.int (s_set (fun t => decide (I 150 (42 + t) < 0)) j)), some (.int (nI j))] [] (I, J, P, S) 0 0 := by
    intro m
    induction m with
    | zero => intro j h; omega
    | succ m ih =>
      intro j hm hj
      refine z_iload_3 d_Mo_tinsThat_4 ?_
      refine z_aload_0 d_Mo_tinsThat_5 ?_
      refine z_getR d_Mo_tinsThat_6 f_Mo_35 (by assumption) (by assumption) ?_
      refine z_iconst (a := nI 3) d_Mo_tinsThat_9 (by decide) ?_
      first | refine z_ialdNv d_Mo_tinsThat_10 (by assumption) (by omega) (by decide) (by first | assumption | ((try simp (disch := omega) only [zu_same, zu_ne, zcp_ne, zfl_ne]); first | assumption | rfl)) ?_ | refine z_iald d_Mo_tinsThat_10 (by assumption) (by assumption) ?_
      refine z_icmp_ge (tgt := 68) d_Mo_tinsThat_11 (by decide) (fun h11 => ?_) (fun h11 => ?_)
      · first
        | (simp (disch := omega) only [← nI_0, nI_leI, nI_ltI, nI_eq, not_true_eq_false, not_false_eq_true] at h11; done)
        | (simp (disch := omega) only [← nI_0, nI_leI, nI_ltI, nI_eq, not_true_eq_false, not_false_eq_true] at h11; omega)
        | contradiction
        | exact absurd h11 (Int32.not_lt.mpr (by assumption))
        | exact absurd h11 (Int32.not_le.mpr (by assumption))
        | exact absurd h11 (by decide)
        | exact absurd (by decide) h11
        | ( try simp (disch := omega) only [← nI_0, nI_leI, nI_ltI, nI_eq, not_true_eq_false, not_false_eq_true] at h11
            (try have h11b := zbit_n0.mp h11); (try have h11b := zbit_p0.mp h11)
            refine z_iload_2 d_Mo_tinsThat_68 ?_
            refine z_reti d_Mo_tinsThat_69 ?_
            (obtain rfl : j = nn := by omega); exact ⟨rfl, rfl⟩)
      · first
        | (simp (disch := omega) only [← nI_0, nI_leI, nI_ltI, nI_eq, not_true_eq_false, not_false_eq_true] at h11; done)
        | (simp (disch := omega) only [← nI_0, nI_leI, nI_ltI, nI_eq, not_true_eq_false, not_false_eq_true] at h11; omega)
        | contradiction
        | exact absurd h11 (Int32.not_lt.mpr (by assumption))
        | exact absurd h11 (Int32.not_le.mpr (by assumption))
        | exact absurd h11 (by decide)
        | exact absurd (by decide) h11
        | ( try simp (disch := omega) only [← nI_0, nI_leI, nI_ltI, nI_eq, not_true_eq_false, not_false_eq_true] at h11
            (try have h11b := zbit_n0.mp h11); (try have h11b := zbit_p0.mp h11)
            refine z_iload_2 d_Mo_tinsThat_14 ?_
            refine z_iload_1 d_Mo_tinsThat_15 ?_
            refine z_if_ne (tgt := 30) d_Mo_tinsThat_16 (by decide) (fun h16 => ?_) (fun h16 => ?_)
            · first
              | (simp (disch := omega) only [← nI_0, nI_leI, nI_ltI, nI_eq, not_true_eq_false, not_false_eq_true] at h16; done)
              | (simp (disch := omega) only [← nI_0, nI_leI, nI_ltI, nI_eq, not_true_eq_false, not_false_eq_true] at h16; omega)
              | contradiction
              | exact absurd h16 (Int32.not_lt.mpr (by assumption))
              | exact absurd h16 (Int32.not_le.mpr (by assumption))
              | exact absurd h16 (by decide)
              | exact absurd (by decide) h16
              | ( try simp (disch := omega) only [← nI_0, nI_leI, nI_ltI, nI_eq, not_true_eq_false, not_false_eq_true] at h16
                  (try have h16b := zbit_n0.mp h16); (try have h16b := zbit_p0.mp h16)
                  refine z_aload_0 d_Mo_tinsThat_30 ?_
                  refine z_getR d_Mo_tinsThat_31 f_Mo_35 (by assumption) (by assumption) ?_
                  refine z_iload_1 d_Mo_tinsThat_34 ?_
                  refine z_iconst (a := nI 1) d_Mo_tinsThat_35 (by decide) ?_
                  refine z_icmp_ne (tgt := 44) d_Mo_tinsThat_36 (by decide) (fun h36 => ?_) (fun h36 => ?_)
                  · first
                    | (simp (disch := omega) only [← nI_0, nI_leI, nI_ltI, nI_eq, not_true_eq_false, not_false_eq_true] at h36; done)
                    | (simp (disch := omega) only [← nI_0, nI_leI, nI_ltI, nI_eq, not_true_eq_false, not_false_eq_true] at h36; omega)
                    | contradiction
                    | exact absurd h36 (Int32.not_lt.mpr (by assumption))
                    | exact absurd h36 (Int32.not_le.mpr (by assumption))
                    | exact absurd h36 (by decide)
                    | exact absurd (by decide) h36
                    | ( try simp (disch := omega) only [← nI_0, nI_leI, nI_ltI, nI_eq, not_true_eq_false, not_false_eq_true] at h36
                        (try have h36b := zbit_n0.mp h36); (try have h36b := zbit_p0.mp h36)
                        refine z_bipush (a := nI 51) d_Mo_tinsThat_44 (by decide) ?_
                        refine z_iload_3 d_Mo_tinsThat_46 ?_
                        first | refine z_iaddN d_Mo_tinsThat_47 ?_ | refine z_iadd d_Mo_tinsThat_47 ?_
                        first | refine z_ialdNv d_Mo_tinsThat_48 (by assumption) (by omega) (by decide) (by first | assumption | ((try simp (disch := omega) only [zu_same, zu_ne, zcp_ne, zfl_ne]); first | assumption | rfl)) ?_ | refine z_iald d_Mo_tinsThat_48 (by assumption) (by assumption) ?_
                        refine z_iconst (a := nI 1) d_Mo_tinsThat_49 (by decide) ?_
                        refine z_icmp_ne (tgt := 59) d_Mo_tinsThat_50 (by decide) (fun h50 => ?_) (fun h50 => ?_)
                        · first
                          | (simp (disch := omega) only [← nI_0, nI_leI, nI_ltI, nI_eq, not_true_eq_false, not_false_eq_true] at h50; done)
                          | (simp (disch := omega) only [← nI_0, nI_leI, nI_ltI, nI_eq, not_true_eq_false, not_false_eq_true] at h50; omega)
                          | contradiction
                          | exact absurd h50 (Int32.not_lt.mpr (by assumption))
                          | exact absurd h50 (Int32.not_le.mpr (by assumption))
                          | exact absurd h50 (by decide)
                          | exact absurd (by decide) h50
                          | ( try simp (disch := omega) only [← nI_0, nI_leI, nI_ltI, nI_eq, not_true_eq_false, not_false_eq_true] at h50
                              (try have h50b := zbit_n0.mp h50); (try have h50b := zbit_p0.mp h50)
                              refine z_iconst (a := nI 0) d_Mo_tinsThat_59 (by decide) ?_
                              refine z_ior d_Mo_tinsThat_60 ?_
                              first | refine z_istore_2 d_Mo_tinsThat_61 rfl ?_ | (refine z_forget_1 ?_; refine z_istore_2 d_Mo_tinsThat_61 rfl ?_)
                              first | refine z_iinc_3 d_Mo_tinsThat_62 rfl (zi_inc _) ?_ | refine z_iinc_3 d_Mo_tinsThat_62 rfl rfl ?_
                              refine z_goto (tgt := 4) d_Mo_tinsThat_65 (by decide) ?_
                              (have q := ih (j + 1) (by omega) (by omega); rw [s_set] at q; first | (rw [if_pos (by simp only [decide_eq_true_eq]; assumption)] at q; exact q) | (rw [if_neg (by simp only [decide_eq_true_eq]; assumption)] at q; rw [zor0]; exact q)))
                        · first
                          | (simp (disch := omega) only [← nI_0, nI_leI, nI_ltI, nI_eq, not_true_eq_false, not_false_eq_true] at h50; done)
                          | (simp (disch := omega) only [← nI_0, nI_leI, nI_ltI, nI_eq, not_true_eq_false, not_false_eq_true] at h50; omega)
                          | contradiction
                          | exact absurd h50 (Int32.not_lt.mpr (by assumption))
                          | exact absurd h50 (Int32.not_le.mpr (by assumption))
                          | exact absurd h50 (by decide)
                          | exact absurd (by decide) h50
                          | ( try simp (disch := omega) only [← nI_0, nI_leI, nI_ltI, nI_eq, not_true_eq_false, not_false_eq_true] at h50
                              (try have h50b := zbit_n0.mp h50); (try have h50b := zbit_p0.mp h50)
                              refine z_iconst (a := nI 1) d_Mo_tinsThat_53 (by decide) ?_
                              refine z_iload_3 d_Mo_tinsThat_54 ?_
                              refine z_ishl d_Mo_tinsThat_55 ?_
                              refine z_goto (tgt := 60) d_Mo_tinsThat_56 (by decide) ?_
                              refine z_ior d_Mo_tinsThat_60 ?_
                              first | refine z_istore_2 d_Mo_tinsThat_61 rfl ?_ | (refine z_forget_1 ?_; refine z_istore_2 d_Mo_tinsThat_61 rfl ?_)
                              first | refine z_iinc_3 d_Mo_tinsThat_62 rfl (zi_inc _) ?_ | refine z_iinc_3 d_Mo_tinsThat_62 rfl rfl ?_
                              refine z_goto (tgt := 4) d_Mo_tinsThat_65 (by decide) ?_
                              (have q := ih (j + 1) (by omega) (by omega); rw [s_set] at q; first | (rw [if_pos (by simp only [decide_eq_true_eq]; assumption)] at q; exact q) | (rw [if_neg (by simp only [decide_eq_true_eq]; assumption)] at q; rw [zor0]; exact q))))
                  · first
                    | (simp (disch := omega) only [← nI_0, nI_leI, nI_ltI, nI_eq, not_true_eq_false, not_false_eq_true] at h36; done)
                    | (simp (disch := omega) only [← nI_0, nI_leI, nI_ltI, nI_eq, not_true_eq_false, not_false_eq_true] at h36; omega)
                    | contradiction
                    | exact absurd h36 (Int32.not_lt.mpr (by assumption))
                    | exact absurd h36 (Int32.not_le.mpr (by assumption))
                    | exact absurd h36 (by decide)
                    | exact absurd (by decide) h36
                    | ( try simp (disch := omega) only [← nI_0, nI_leI, nI_ltI, nI_eq, not_true_eq_false, not_false_eq_true] at h36
                        (try have h36b := zbit_n0.mp h36); (try have h36b := zbit_p0.mp h36)
                        refine z_bipush (a := nI 60) d_Mo_tinsThat_39 (by decide) ?_
                        refine z_goto (tgt := 46) d_Mo_tinsThat_41 (by decide) ?_
                        refine z_iload_3 d_Mo_tinsThat_46 ?_
                        first | refine z_iaddN d_Mo_tinsThat_47 ?_ | refine z_iadd d_Mo_tinsThat_47 ?_
                        first | refine z_ialdNv d_Mo_tinsThat_48 (by assumption) (by omega) (by decide) (by first | assumption | ((try simp (disch := omega) only [zu_same, zu_ne, zcp_ne, zfl_ne]); first | assumption | rfl)) ?_ | refine z_iald d_Mo_tinsThat_48 (by assumption) (by assumption) ?_
                        refine z_iconst (a := nI 1) d_Mo_tinsThat_49 (by decide) ?_
                        refine z_icmp_ne (tgt := 59) d_Mo_tinsThat_50 (by decide) (fun h50 => ?_) (fun h50 => ?_)
                        · first
                          | (simp (disch := omega) only [← nI_0, nI_leI, nI_ltI, nI_eq, not_true_eq_false, not_false_eq_true] at h50; done)
                          | (simp (disch := omega) only [← nI_0, nI_leI, nI_ltI, nI_eq, not_true_eq_false, not_false_eq_true] at h50; omega)
                          | contradiction
                          | exact absurd h50 (Int32.not_lt.mpr (by assumption))
                          | exact absurd h50 (Int32.not_le.mpr (by assumption))
                          | exact absurd h50 (by decide)
                          | exact absurd (by decide) h50
                          | ( try simp (disch := omega) only [← nI_0, nI_leI, nI_ltI, nI_eq, not_true_eq_false, not_false_eq_true] at h50
                              (try have h50b := zbit_n0.mp h50); (try have h50b := zbit_p0.mp h50)
                              refine z_iconst (a := nI 0) d_Mo_tinsThat_59 (by decide) ?_
                              refine z_ior d_Mo_tinsThat_60 ?_
                              first | refine z_istore_2 d_Mo_tinsThat_61 rfl ?_ | (refine z_forget_1 ?_; refine z_istore_2 d_Mo_tinsThat_61 rfl ?_)
                              first | refine z_iinc_3 d_Mo_tinsThat_62 rfl (zi_inc _) ?_ | refine z_iinc_3 d_Mo_tinsThat_62 rfl rfl ?_
                              refine z_goto (tgt := 4) d_Mo_tinsThat_65 (by decide) ?_
                              (have q := ih (j + 1) (by omega) (by omega); rw [s_set] at q; first | (rw [if_pos (by simp only [decide_eq_true_eq]; assumption)] at q; exact q) | (rw [if_neg (by simp only [decide_eq_true_eq]; assumption)] at q; rw [zor0]; exact q)))
                        · first
                          | (simp (disch := omega) only [← nI_0, nI_leI, nI_ltI, nI_eq, not_true_eq_false, not_false_eq_true] at h50; done)
                          | (simp (disch := omega) only [← nI_0, nI_leI, nI_ltI, nI_eq, not_true_eq_false, not_false_eq_true] at h50; omega)
                          | contradiction
                          | exact absurd h50 (Int32.not_lt.mpr (by assumption))
                          | exact absurd h50 (Int32.not_le.mpr (by assumption))
                          | exact absurd h50 (by decide)
                          | exact absurd (by decide) h50
                          | ( try simp (disch := omega) only [← nI_0, nI_leI, nI_ltI, nI_eq, not_true_eq_false, not_false_eq_true] at h50
                              (try have h50b := zbit_n0.mp h50); (try have h50b := zbit_p0.mp h50)
                              refine z_iconst (a := nI 1) d_Mo_tinsThat_53 (by decide) ?_
                              refine z_iload_3 d_Mo_tinsThat_54 ?_
                              refine z_ishl d_Mo_tinsThat_55 ?_
                              refine z_goto (tgt := 60) d_Mo_tinsThat_56 (by decide) ?_
                              refine z_ior d_Mo_tinsThat_60 ?_
                              first | refine z_istore_2 d_Mo_tinsThat_61 rfl ?_ | (refine z_forget_1 ?_; refine z_istore_2 d_Mo_tinsThat_61 rfl ?_)
                              first | refine z_iinc_3 d_Mo_tinsThat_62 rfl (zi_inc _) ?_ | refine z_iinc_3 d_Mo_tinsThat_62 rfl rfl ?_
                              refine z_goto (tgt := 4) d_Mo_tinsThat_65 (by decide) ?_
                              (have q := ih (j + 1) (by omega) (by omega); rw [s_set] at q; first | (rw [if_pos (by simp only [decide_eq_true_eq]; assumption)] at q; exact q) | (rw [if_neg (by simp only [decide_eq_true_eq]; assumption)] at q; rw [zor0]; exact q)))))
            · first
              | (simp (disch := omega) only [← nI_0, nI_leI, nI_ltI, nI_eq, not_true_eq_false, not_false_eq_true] at h16; done)
              | (simp (disch := omega) only [← nI_0, nI_leI, nI_ltI, nI_eq, not_true_eq_false, not_false_eq_true] at h16; omega)
              | contradiction
              | exact absurd h16 (Int32.not_lt.mpr (by assumption))
              | exact absurd h16 (Int32.not_le.mpr (by assumption))
              | exact absurd h16 (by decide)
              | exact absurd (by decide) h16
              | ( try simp (disch := omega) only [← nI_0, nI_leI, nI_ltI, nI_eq, not_true_eq_false, not_false_eq_true] at h16
                  (try have h16b := zbit_n0.mp h16); (try have h16b := zbit_p0.mp h16)
                  refine z_aload_0 d_Mo_tinsThat_19 ?_
                  refine z_iload_3 d_Mo_tinsThat_20 ?_
                  refine z_Vi1 d_Mo_tinsThat_21 k_Mo_310 (by assumption) (t_Mo_isGone (by assumption) (by omega)) ⟨Nat.le_of_ble_eq_true rfl, Nat.le_of_ble_eq_true rfl, Nat.le_of_ble_eq_true rfl, Nat.le_of_ble_eq_true rfl⟩ (Nat.le_of_ble_eq_true rfl) ?_
                  intro r w hq
                  rcases hq with ⟨⟨hz21, rfl⟩ | ⟨hz21, rfl⟩, rfl⟩
                  · first
                    | contradiction
                    | ( skip
                        refine z_if_eq (tgt := 59) d_Mo_tinsThat_24 (by decide) (fun h => absurd h (by decide)) (fun _ => ?_)
                        refine z_goto (tgt := 53) d_Mo_tinsThat_27 (by decide) ?_
                        refine z_iconst (a := nI 1) d_Mo_tinsThat_53 (by decide) ?_
                        refine z_iload_3 d_Mo_tinsThat_54 ?_
                        refine z_ishl d_Mo_tinsThat_55 ?_
                        refine z_goto (tgt := 60) d_Mo_tinsThat_56 (by decide) ?_
                        refine z_ior d_Mo_tinsThat_60 ?_
                        first | refine z_istore_2 d_Mo_tinsThat_61 rfl ?_ | (refine z_forget_1 ?_; refine z_istore_2 d_Mo_tinsThat_61 rfl ?_)
                        first | refine z_iinc_3 d_Mo_tinsThat_62 rfl (zi_inc _) ?_ | refine z_iinc_3 d_Mo_tinsThat_62 rfl rfl ?_
                        refine z_goto (tgt := 4) d_Mo_tinsThat_65 (by decide) ?_
                        (have q := ih (j + 1) (by omega) (by omega); rw [s_set] at q; first | (rw [if_pos (by simp only [decide_eq_true_eq]; assumption)] at q; exact q) | (rw [if_neg (by simp only [decide_eq_true_eq]; assumption)] at q; rw [zor0]; exact q)))
                  · first
                    | contradiction
                    | ( skip
                        refine z_if_eq (tgt := 59) d_Mo_tinsThat_24 (by decide) (fun _ => ?_) (fun h => absurd h (by decide))
                        refine z_iconst (a := nI 0) d_Mo_tinsThat_59 (by decide) ?_
                        refine z_ior d_Mo_tinsThat_60 ?_
                        first | refine z_istore_2 d_Mo_tinsThat_61 rfl ?_ | (refine z_forget_1 ?_; refine z_istore_2 d_Mo_tinsThat_61 rfl ?_)
                        first | refine z_iinc_3 d_Mo_tinsThat_62 rfl (zi_inc _) ?_ | refine z_iinc_3 d_Mo_tinsThat_62 rfl rfl ?_
                        refine z_goto (tgt := 4) d_Mo_tinsThat_65 (by decide) ?_
                        (have q := ih (j + 1) (by omega) (by omega); rw [s_set] at q; first | (rw [if_pos (by simp only [decide_eq_true_eq]; assumption)] at q; exact q) | (rw [if_neg (by simp only [decide_eq_true_eq]; assumption)] at q; rw [zor0]; exact q)))))
  refine z_iconst (a := nI 0) d_Mo_tinsThat_0 (by decide) ?_
  first | refine z_istore_2 d_Mo_tinsThat_1 rfl ?_ | (refine z_forget_1 ?_; refine z_istore_2 d_Mo_tinsThat_1 rfl ?_)
  refine z_iconst (a := nI 0) d_Mo_tinsThat_2 (by decide) ?_
  first | refine z_istore_3 d_Mo_tinsThat_3 rfl ?_ | (refine z_forget_2 ?_; refine z_istore_3 d_Mo_tinsThat_3 rfl ?_)
  exact loop (nn + 1) 0 (by omega) (by omega)
theorem t_Mo_tinsThat1 (M : modOk P S) (N : modIn I nt np nl nn) : zEi G y_Mo_tinsThat prog_14_method_79_code 4 (some .int) 2 [.ref 145, .int (nI 1)] (I, J, P, S) (fun r w => r = s_set (fun t => decide (I 150 (60 + t) = nI 1)) nn ∧ w = (I, J, P, S)) := by
  obtain ⟨M0, ⟨M4, M4s⟩, ⟨M5, M5s⟩, ⟨M6, M6s⟩, ⟨M7, M7s⟩, ⟨M20, M20s⟩, ⟨M21, M21s⟩, ⟨M22, M22s⟩, ⟨M26, M26s⟩, ⟨M27, M27s⟩, ⟨M28, M28s⟩, ⟨M30, M30s⟩, ⟨M34, M34s⟩, ⟨M36, M36s⟩, ⟨M37, M37s⟩⟩ := id M
  obtain ⟨⟨m0, m0b⟩, ⟨m1, m1b⟩, ⟨m2, m2b⟩, ⟨m3, m3b⟩, mof, mon⟩ := id N
  refine zEi_of (lv := [some (.ref 145), some (.int (nI 1)), none, none]) (by decide) rfl (Nat.le_of_ble_eq_true rfl) ?_
  have loop : ∀ m j, nn - j < m → j ≤ nn → zA G y_Mo_tinsThat prog_14_method_79_code 4 (some .int) (zRm 2 0 0) (zM G 0 0 (fun r w' => ∃ x, r = some (.int x) ∧ (fun r w => r = s_set (fun t => decide (I 150 (60 + t) = nI 1)) nn ∧ w = (I, J, P, S)) x w')) 4 [some (.ref 145), some (.int (nI 1)), some (.int (s_set (fun t => decide (I 150 (60 + t) = nI 1)) j)), some (.int (nI j))] [] (I, J, P, S) 0 0 := by
    intro m
    induction m with
    | zero => intro j h; omega
    | succ m ih =>
      intro j hm hj
      refine z_iload_3 d_Mo_tinsThat_4 ?_
      refine z_aload_0 d_Mo_tinsThat_5 ?_
      refine z_getR d_Mo_tinsThat_6 f_Mo_35 (by assumption) (by assumption) ?_
      refine z_iconst (a := nI 3) d_Mo_tinsThat_9 (by decide) ?_
      first | refine z_ialdNv d_Mo_tinsThat_10 (by assumption) (by omega) (by decide) (by first | assumption | ((try simp (disch := omega) only [zu_same, zu_ne, zcp_ne, zfl_ne]); first | assumption | rfl)) ?_ | refine z_iald d_Mo_tinsThat_10 (by assumption) (by assumption) ?_
      refine z_icmp_ge (tgt := 68) d_Mo_tinsThat_11 (by decide) (fun h11 => ?_) (fun h11 => ?_)
      · first
        | (simp (disch := omega) only [← nI_0, nI_leI, nI_ltI, nI_eq, not_true_eq_false, not_false_eq_true] at h11; done)
        | (simp (disch := omega) only [← nI_0, nI_leI, nI_ltI, nI_eq, not_true_eq_false, not_false_eq_true] at h11; omega)
        | contradiction
        | exact absurd h11 (Int32.not_lt.mpr (by assumption))
        | exact absurd h11 (Int32.not_le.mpr (by assumption))
        | exact absurd h11 (by decide)
        | exact absurd (by decide) h11
        | ( try simp (disch := omega) only [← nI_0, nI_leI, nI_ltI, nI_eq, not_true_eq_false, not_false_eq_true] at h11
            (try have h11b := zbit_n0.mp h11); (try have h11b := zbit_p0.mp h11)
            refine z_iload_2 d_Mo_tinsThat_68 ?_
            refine z_reti d_Mo_tinsThat_69 ?_
            (obtain rfl : j = nn := by omega); exact ⟨rfl, rfl⟩)
      · first
        | (simp (disch := omega) only [← nI_0, nI_leI, nI_ltI, nI_eq, not_true_eq_false, not_false_eq_true] at h11; done)
        | (simp (disch := omega) only [← nI_0, nI_leI, nI_ltI, nI_eq, not_true_eq_false, not_false_eq_true] at h11; omega)
        | contradiction
        | exact absurd h11 (Int32.not_lt.mpr (by assumption))
        | exact absurd h11 (Int32.not_le.mpr (by assumption))
        | exact absurd h11 (by decide)
        | exact absurd (by decide) h11
        | ( try simp (disch := omega) only [← nI_0, nI_leI, nI_ltI, nI_eq, not_true_eq_false, not_false_eq_true] at h11
            (try have h11b := zbit_n0.mp h11); (try have h11b := zbit_p0.mp h11)
            refine z_iload_2 d_Mo_tinsThat_14 ?_
            refine z_iload_1 d_Mo_tinsThat_15 ?_
            refine z_if_ne (tgt := 30) d_Mo_tinsThat_16 (by decide) (fun h16 => ?_) (fun h16 => ?_)
            · first
              | (simp (disch := omega) only [← nI_0, nI_leI, nI_ltI, nI_eq, not_true_eq_false, not_false_eq_true] at h16; done)
              | (simp (disch := omega) only [← nI_0, nI_leI, nI_ltI, nI_eq, not_true_eq_false, not_false_eq_true] at h16; omega)
              | contradiction
              | exact absurd h16 (Int32.not_lt.mpr (by assumption))
              | exact absurd h16 (Int32.not_le.mpr (by assumption))
              | exact absurd h16 (by decide)
              | exact absurd (by decide) h16
              | ( try simp (disch := omega) only [← nI_0, nI_leI, nI_ltI, nI_eq, not_true_eq_false, not_false_eq_true] at h16
                  (try have h16b := zbit_n0.mp h16); (try have h16b := zbit_p0.mp h16)
                  refine z_aload_0 d_Mo_tinsThat_30 ?_
                  refine z_getR d_Mo_tinsThat_31 f_Mo_35 (by assumption) (by assumption) ?_
                  refine z_iload_1 d_Mo_tinsThat_34 ?_
                  refine z_iconst (a := nI 1) d_Mo_tinsThat_35 (by decide) ?_
                  refine z_icmp_ne (tgt := 44) d_Mo_tinsThat_36 (by decide) (fun h36 => ?_) (fun h36 => ?_)
                  · first
                    | (simp (disch := omega) only [← nI_0, nI_leI, nI_ltI, nI_eq, not_true_eq_false, not_false_eq_true] at h36; done)
                    | (simp (disch := omega) only [← nI_0, nI_leI, nI_ltI, nI_eq, not_true_eq_false, not_false_eq_true] at h36; omega)
                    | contradiction
                    | exact absurd h36 (Int32.not_lt.mpr (by assumption))
                    | exact absurd h36 (Int32.not_le.mpr (by assumption))
                    | exact absurd h36 (by decide)
                    | exact absurd (by decide) h36
                    | ( try simp (disch := omega) only [← nI_0, nI_leI, nI_ltI, nI_eq, not_true_eq_false, not_false_eq_true] at h36
                        (try have h36b := zbit_n0.mp h36); (try have h36b := zbit_p0.mp h36)
                        refine z_bipush (a := nI 51) d_Mo_tinsThat_44 (by decide) ?_
                        refine z_iload_3 d_Mo_tinsThat_46 ?_
                        first | refine z_iaddN d_Mo_tinsThat_47 ?_ | refine z_iadd d_Mo_tinsThat_47 ?_
                        first | refine z_ialdNv d_Mo_tinsThat_48 (by assumption) (by omega) (by decide) (by first | assumption | ((try simp (disch := omega) only [zu_same, zu_ne, zcp_ne, zfl_ne]); first | assumption | rfl)) ?_ | refine z_iald d_Mo_tinsThat_48 (by assumption) (by assumption) ?_
                        refine z_iconst (a := nI 1) d_Mo_tinsThat_49 (by decide) ?_
                        refine z_icmp_ne (tgt := 59) d_Mo_tinsThat_50 (by decide) (fun h50 => ?_) (fun h50 => ?_)
                        · first
                          | (simp (disch := omega) only [← nI_0, nI_leI, nI_ltI, nI_eq, not_true_eq_false, not_false_eq_true] at h50; done)
                          | (simp (disch := omega) only [← nI_0, nI_leI, nI_ltI, nI_eq, not_true_eq_false, not_false_eq_true] at h50; omega)
                          | contradiction
                          | exact absurd h50 (Int32.not_lt.mpr (by assumption))
                          | exact absurd h50 (Int32.not_le.mpr (by assumption))
                          | exact absurd h50 (by decide)
                          | exact absurd (by decide) h50
                          | ( try simp (disch := omega) only [← nI_0, nI_leI, nI_ltI, nI_eq, not_true_eq_false, not_false_eq_true] at h50
                              (try have h50b := zbit_n0.mp h50); (try have h50b := zbit_p0.mp h50)
                              refine z_iconst (a := nI 0) d_Mo_tinsThat_59 (by decide) ?_
                              refine z_ior d_Mo_tinsThat_60 ?_
                              first | refine z_istore_2 d_Mo_tinsThat_61 rfl ?_ | (refine z_forget_1 ?_; refine z_istore_2 d_Mo_tinsThat_61 rfl ?_)
                              first | refine z_iinc_3 d_Mo_tinsThat_62 rfl (zi_inc _) ?_ | refine z_iinc_3 d_Mo_tinsThat_62 rfl rfl ?_
                              refine z_goto (tgt := 4) d_Mo_tinsThat_65 (by decide) ?_
                              (have q := ih (j + 1) (by omega) (by omega); rw [s_set] at q; first | (rw [if_pos (by simp only [decide_eq_true_eq]; assumption)] at q; exact q) | (rw [if_neg (by simp only [decide_eq_true_eq]; assumption)] at q; rw [zor0]; exact q)))
                        · first
                          | (simp (disch := omega) only [← nI_0, nI_leI, nI_ltI, nI_eq, not_true_eq_false, not_false_eq_true] at h50; done)
                          | (simp (disch := omega) only [← nI_0, nI_leI, nI_ltI, nI_eq, not_true_eq_false, not_false_eq_true] at h50; omega)
                          | contradiction
                          | exact absurd h50 (Int32.not_lt.mpr (by assumption))
                          | exact absurd h50 (Int32.not_le.mpr (by assumption))
                          | exact absurd h50 (by decide)
                          | exact absurd (by decide) h50
                          | ( try simp (disch := omega) only [← nI_0, nI_leI, nI_ltI, nI_eq, not_true_eq_false, not_false_eq_true] at h50
                              (try have h50b := zbit_n0.mp h50); (try have h50b := zbit_p0.mp h50)
                              refine z_iconst (a := nI 1) d_Mo_tinsThat_53 (by decide) ?_
                              refine z_iload_3 d_Mo_tinsThat_54 ?_
                              refine z_ishl d_Mo_tinsThat_55 ?_
                              refine z_goto (tgt := 60) d_Mo_tinsThat_56 (by decide) ?_
                              refine z_ior d_Mo_tinsThat_60 ?_
                              first | refine z_istore_2 d_Mo_tinsThat_61 rfl ?_ | (refine z_forget_1 ?_; refine z_istore_2 d_Mo_tinsThat_61 rfl ?_)
                              first | refine z_iinc_3 d_Mo_tinsThat_62 rfl (zi_inc _) ?_ | refine z_iinc_3 d_Mo_tinsThat_62 rfl rfl ?_
                              refine z_goto (tgt := 4) d_Mo_tinsThat_65 (by decide) ?_
                              (have q := ih (j + 1) (by omega) (by omega); rw [s_set] at q; first | (rw [if_pos (by simp only [decide_eq_true_eq]; assumption)] at q; exact q) | (rw [if_neg (by simp only [decide_eq_true_eq]; assumption)] at q; rw [zor0]; exact q))))
                  · first
                    | (simp (disch := omega) only [← nI_0, nI_leI, nI_ltI, nI_eq, not_true_eq_false, not_false_eq_true] at h36; done)
                    | (simp (disch := omega) only [← nI_0, nI_leI, nI_ltI, nI_eq, not_true_eq_false, not_false_eq_true] at h36; omega)
                    | contradiction
                    | exact absurd h36 (Int32.not_lt.mpr (by assumption))
                    | exact absurd h36 (Int32.not_le.mpr (by assumption))
                    | exact absurd h36 (by decide)
                    | exact absurd (by decide) h36
                    | ( try simp (disch := omega) only [← nI_0, nI_leI, nI_ltI, nI_eq, not_true_eq_false, not_false_eq_true] at h36
                        (try have h36b := zbit_n0.mp h36); (try have h36b := zbit_p0.mp h36)
                        refine z_bipush (a := nI 60) d_Mo_tinsThat_39 (by decide) ?_
                        refine z_goto (tgt := 46) d_Mo_tinsThat_41 (by decide) ?_
                        refine z_iload_3 d_Mo_tinsThat_46 ?_
                        first | refine z_iaddN d_Mo_tinsThat_47 ?_ | refine z_iadd d_Mo_tinsThat_47 ?_
                        first | refine z_ialdNv d_Mo_tinsThat_48 (by assumption) (by omega) (by decide) (by first | assumption | ((try simp (disch := omega) only [zu_same, zu_ne, zcp_ne, zfl_ne]); first | assumption | rfl)) ?_ | refine z_iald d_Mo_tinsThat_48 (by assumption) (by assumption) ?_
                        refine z_iconst (a := nI 1) d_Mo_tinsThat_49 (by decide) ?_
                        refine z_icmp_ne (tgt := 59) d_Mo_tinsThat_50 (by decide) (fun h50 => ?_) (fun h50 => ?_)
                        · first
                          | (simp (disch := omega) only [← nI_0, nI_leI, nI_ltI, nI_eq, not_true_eq_false, not_false_eq_true] at h50; done)
                          | (simp (disch := omega) only [← nI_0, nI_leI, nI_ltI, nI_eq, not_true_eq_false, not_false_eq_true] at h50; omega)
                          | contradiction
                          | exact absurd h50 (Int32.not_lt.mpr (by assumption))
                          | exact absurd h50 (Int32.not_le.mpr (by assumption))
                          | exact absurd h50 (by decide)
                          | exact absurd (by decide) h50
                          | ( try simp (disch := omega) only [← nI_0, nI_leI, nI_ltI, nI_eq, not_true_eq_false, not_false_eq_true] at h50
                              (try have h50b := zbit_n0.mp h50); (try have h50b := zbit_p0.mp h50)
                              refine z_iconst (a := nI 0) d_Mo_tinsThat_59 (by decide) ?_
                              refine z_ior d_Mo_tinsThat_60 ?_
                              first | refine z_istore_2 d_Mo_tinsThat_61 rfl ?_ | (refine z_forget_1 ?_; refine z_istore_2 d_Mo_tinsThat_61 rfl ?_)
                              first | refine z_iinc_3 d_Mo_tinsThat_62 rfl (zi_inc _) ?_ | refine z_iinc_3 d_Mo_tinsThat_62 rfl rfl ?_
                              refine z_goto (tgt := 4) d_Mo_tinsThat_65 (by decide) ?_
                              (have q := ih (j + 1) (by omega) (by omega); rw [s_set] at q; first | (rw [if_pos (by simp only [decide_eq_true_eq]; assumption)] at q; exact q) | (rw [if_neg (by simp only [decide_eq_true_eq]; assumption)] at q; rw [zor0]; exact q)))
                        · first
                          | (simp (disch := omega) only [← nI_0, nI_leI, nI_ltI, nI_eq, not_true_eq_false, not_false_eq_true] at h50; done)
                          | (simp (disch := omega) only [← nI_0, nI_leI, nI_ltI, nI_eq, not_true_eq_false, not_false_eq_true] at h50; omega)
                          | contradiction
                          | exact absurd h50 (Int32.not_lt.mpr (by assumption))
                          | exact absurd h50 (Int32.not_le.mpr (by assumption))
                          | exact absurd h50 (by decide)
                          | exact absurd (by decide) h50
                          | ( try simp (disch := omega) only [← nI_0, nI_leI, nI_ltI, nI_eq, not_true_eq_false, not_false_eq_true] at h50
                              (try have h50b := zbit_n0.mp h50); (try have h50b := zbit_p0.mp h50)
                              refine z_iconst (a := nI 1) d_Mo_tinsThat_53 (by decide) ?_
                              refine z_iload_3 d_Mo_tinsThat_54 ?_
                              refine z_ishl d_Mo_tinsThat_55 ?_
                              refine z_goto (tgt := 60) d_Mo_tinsThat_56 (by decide) ?_
                              refine z_ior d_Mo_tinsThat_60 ?_
                              first | refine z_istore_2 d_Mo_tinsThat_61 rfl ?_ | (refine z_forget_1 ?_; refine z_istore_2 d_Mo_tinsThat_61 rfl ?_)
                              first | refine z_iinc_3 d_Mo_tinsThat_62 rfl (zi_inc _) ?_ | refine z_iinc_3 d_Mo_tinsThat_62 rfl rfl ?_
                              refine z_goto (tgt := 4) d_Mo_tinsThat_65 (by decide) ?_
                              (have q := ih (j + 1) (by omega) (by omega); rw [s_set] at q; first | (rw [if_pos (by simp only [decide_eq_true_eq]; assumption)] at q; exact q) | (rw [if_neg (by simp only [decide_eq_true_eq]; assumption)] at q; rw [zor0]; exact q)))))
            · first
              | (simp (disch := omega) only [← nI_0, nI_leI, nI_ltI, nI_eq, not_true_eq_false, not_false_eq_true] at h16; done)
              | (simp (disch := omega) only [← nI_0, nI_leI, nI_ltI, nI_eq, not_true_eq_false, not_false_eq_true] at h16; omega)
              | contradiction
              | exact absurd h16 (Int32.not_lt.mpr (by assumption))
              | exact absurd h16 (Int32.not_le.mpr (by assumption))
              | exact absurd h16 (by decide)
              | exact absurd (by decide) h16
              | ( try simp (disch := omega) only [← nI_0, nI_leI, nI_ltI, nI_eq, not_true_eq_false, not_false_eq_true] at h16
                  (try have h16b := zbit_n0.mp h16); (try have h16b := zbit_p0.mp h16)
                  refine z_aload_0 d_Mo_tinsThat_19 ?_
                  refine z_iload_3 d_Mo_tinsThat_20 ?_
                  refine z_Vi1 d_Mo_tinsThat_21 k_Mo_310 (by assumption) (t_Mo_isGone (by assumption) (by omega)) ⟨Nat.le_of_ble_eq_true rfl, Nat.le_of_ble_eq_true rfl, Nat.le_of_ble_eq_true rfl, Nat.le_of_ble_eq_true rfl⟩ (Nat.le_of_ble_eq_true rfl) ?_
                  intro r w hq
                  rcases hq with ⟨⟨hz21, rfl⟩ | ⟨hz21, rfl⟩, rfl⟩
                  · first
                    | contradiction
                    | ( skip
                        refine z_if_eq (tgt := 59) d_Mo_tinsThat_24 (by decide) (fun h => absurd h (by decide)) (fun _ => ?_)
                        refine z_goto (tgt := 53) d_Mo_tinsThat_27 (by decide) ?_
                        refine z_iconst (a := nI 1) d_Mo_tinsThat_53 (by decide) ?_
                        refine z_iload_3 d_Mo_tinsThat_54 ?_
                        refine z_ishl d_Mo_tinsThat_55 ?_
                        refine z_goto (tgt := 60) d_Mo_tinsThat_56 (by decide) ?_
                        refine z_ior d_Mo_tinsThat_60 ?_
                        first | refine z_istore_2 d_Mo_tinsThat_61 rfl ?_ | (refine z_forget_1 ?_; refine z_istore_2 d_Mo_tinsThat_61 rfl ?_)
                        first | refine z_iinc_3 d_Mo_tinsThat_62 rfl (zi_inc _) ?_ | refine z_iinc_3 d_Mo_tinsThat_62 rfl rfl ?_
                        refine z_goto (tgt := 4) d_Mo_tinsThat_65 (by decide) ?_
                        (have q := ih (j + 1) (by omega) (by omega); rw [s_set] at q; first | (rw [if_pos (by simp only [decide_eq_true_eq]; assumption)] at q; exact q) | (rw [if_neg (by simp only [decide_eq_true_eq]; assumption)] at q; rw [zor0]; exact q)))
                  · first
                    | contradiction
                    | ( skip
                        refine z_if_eq (tgt := 59) d_Mo_tinsThat_24 (by decide) (fun _ => ?_) (fun h => absurd h (by decide))
                        refine z_iconst (a := nI 0) d_Mo_tinsThat_59 (by decide) ?_
                        refine z_ior d_Mo_tinsThat_60 ?_
                        first | refine z_istore_2 d_Mo_tinsThat_61 rfl ?_ | (refine z_forget_1 ?_; refine z_istore_2 d_Mo_tinsThat_61 rfl ?_)
                        first | refine z_iinc_3 d_Mo_tinsThat_62 rfl (zi_inc _) ?_ | refine z_iinc_3 d_Mo_tinsThat_62 rfl rfl ?_
                        refine z_goto (tgt := 4) d_Mo_tinsThat_65 (by decide) ?_
                        (have q := ih (j + 1) (by omega) (by omega); rw [s_set] at q; first | (rw [if_pos (by simp only [decide_eq_true_eq]; assumption)] at q; exact q) | (rw [if_neg (by simp only [decide_eq_true_eq]; assumption)] at q; rw [zor0]; exact q)))))
  refine z_iconst (a := nI 0) d_Mo_tinsThat_0 (by decide) ?_
  first | refine z_istore_2 d_Mo_tinsThat_1 rfl ?_ | (refine z_forget_1 ?_; refine z_istore_2 d_Mo_tinsThat_1 rfl ?_)
  refine z_iconst (a := nI 0) d_Mo_tinsThat_2 (by decide) ?_
  first | refine z_istore_3 d_Mo_tinsThat_3 rfl ?_ | (refine z_forget_2 ?_; refine z_istore_3 d_Mo_tinsThat_3 rfl ?_)
  exact loop (nn + 1) 0 (by omega) (by omega)
theorem t_Mo_tinsThat2 (M : modOk P S) (N : modIn I nt np nl nn) : zEi G y_Mo_tinsThat prog_14_method_79_code 4 (some .int) 2 [.ref 145, .int (nI 2)] (I, J, P, S) (fun r w => r = s_set (fun t => decide (I 150 (51 + t) = nI 1)) nn ∧ w = (I, J, P, S)) := by
  obtain ⟨M0, ⟨M4, M4s⟩, ⟨M5, M5s⟩, ⟨M6, M6s⟩, ⟨M7, M7s⟩, ⟨M20, M20s⟩, ⟨M21, M21s⟩, ⟨M22, M22s⟩, ⟨M26, M26s⟩, ⟨M27, M27s⟩, ⟨M28, M28s⟩, ⟨M30, M30s⟩, ⟨M34, M34s⟩, ⟨M36, M36s⟩, ⟨M37, M37s⟩⟩ := id M
  obtain ⟨⟨m0, m0b⟩, ⟨m1, m1b⟩, ⟨m2, m2b⟩, ⟨m3, m3b⟩, mof, mon⟩ := id N
  refine zEi_of (lv := [some (.ref 145), some (.int (nI 2)), none, none]) (by decide) rfl (Nat.le_of_ble_eq_true rfl) ?_
  have loop : ∀ m j, nn - j < m → j ≤ nn → zA G y_Mo_tinsThat prog_14_method_79_code 4 (some .int) (zRm 2 0 0) (zM G 0 0 (fun r w' => ∃ x, r = some (.int x) ∧ (fun r w => r = s_set (fun t => decide (I 150 (51 + t) = nI 1)) nn ∧ w = (I, J, P, S)) x w')) 4 [some (.ref 145), some (.int (nI 2)), some (.int (s_set (fun t => decide (I 150 (51 + t) = nI 1)) j)), some (.int (nI j))] [] (I, J, P, S) 0 0 := by
    intro m
    induction m with
    | zero => intro j h; omega
    | succ m ih =>
      intro j hm hj
      refine z_iload_3 d_Mo_tinsThat_4 ?_
      refine z_aload_0 d_Mo_tinsThat_5 ?_
      refine z_getR d_Mo_tinsThat_6 f_Mo_35 (by assumption) (by assumption) ?_
      refine z_iconst (a := nI 3) d_Mo_tinsThat_9 (by decide) ?_
      first | refine z_ialdNv d_Mo_tinsThat_10 (by assumption) (by omega) (by decide) (by first | assumption | ((try simp (disch := omega) only [zu_same, zu_ne, zcp_ne, zfl_ne]); first | assumption | rfl)) ?_ | refine z_iald d_Mo_tinsThat_10 (by assumption) (by assumption) ?_
      refine z_icmp_ge (tgt := 68) d_Mo_tinsThat_11 (by decide) (fun h11 => ?_) (fun h11 => ?_)
      · first
        | (simp (disch := omega) only [← nI_0, nI_leI, nI_ltI, nI_eq, not_true_eq_false, not_false_eq_true] at h11; done)
        | (simp (disch := omega) only [← nI_0, nI_leI, nI_ltI, nI_eq, not_true_eq_false, not_false_eq_true] at h11; omega)
        | contradiction
        | exact absurd h11 (Int32.not_lt.mpr (by assumption))
        | exact absurd h11 (Int32.not_le.mpr (by assumption))
        | exact absurd h11 (by decide)
        | exact absurd (by decide) h11
        | ( try simp (disch := omega) only [← nI_0, nI_leI, nI_ltI, nI_eq, not_true_eq_false, not_false_eq_true] at h11
            (try have h11b := zbit_n0.mp h11); (try have h11b := zbit_p0.mp h11)
            refine z_iload_2 d_Mo_tinsThat_68 ?_
            refine z_reti d_Mo_tinsThat_69 ?_
            (obtain rfl : j = nn := by omega); exact ⟨rfl, rfl⟩)
      · first
        | (simp (disch := omega) only [← nI_0, nI_leI, nI_ltI, nI_eq, not_true_eq_false, not_false_eq_true] at h11; done)
        | (simp (disch := omega) only [← nI_0, nI_leI, nI_ltI, nI_eq, not_true_eq_false, not_false_eq_true] at h11; omega)
        | contradiction
        | exact absurd h11 (Int32.not_lt.mpr (by assumption))
        | exact absurd h11 (Int32.not_le.mpr (by assumption))
        | exact absurd h11 (by decide)
        | exact absurd (by decide) h11
        | ( try simp (disch := omega) only [← nI_0, nI_leI, nI_ltI, nI_eq, not_true_eq_false, not_false_eq_true] at h11
            (try have h11b := zbit_n0.mp h11); (try have h11b := zbit_p0.mp h11)
            refine z_iload_2 d_Mo_tinsThat_14 ?_
            refine z_iload_1 d_Mo_tinsThat_15 ?_
            refine z_if_ne (tgt := 30) d_Mo_tinsThat_16 (by decide) (fun h16 => ?_) (fun h16 => ?_)
            · first
              | (simp (disch := omega) only [← nI_0, nI_leI, nI_ltI, nI_eq, not_true_eq_false, not_false_eq_true] at h16; done)
              | (simp (disch := omega) only [← nI_0, nI_leI, nI_ltI, nI_eq, not_true_eq_false, not_false_eq_true] at h16; omega)
              | contradiction
              | exact absurd h16 (Int32.not_lt.mpr (by assumption))
              | exact absurd h16 (Int32.not_le.mpr (by assumption))
              | exact absurd h16 (by decide)
              | exact absurd (by decide) h16
              | ( try simp (disch := omega) only [← nI_0, nI_leI, nI_ltI, nI_eq, not_true_eq_false, not_false_eq_true] at h16
                  (try have h16b := zbit_n0.mp h16); (try have h16b := zbit_p0.mp h16)
                  refine z_aload_0 d_Mo_tinsThat_30 ?_
                  refine z_getR d_Mo_tinsThat_31 f_Mo_35 (by assumption) (by assumption) ?_
                  refine z_iload_1 d_Mo_tinsThat_34 ?_
                  refine z_iconst (a := nI 1) d_Mo_tinsThat_35 (by decide) ?_
                  refine z_icmp_ne (tgt := 44) d_Mo_tinsThat_36 (by decide) (fun h36 => ?_) (fun h36 => ?_)
                  · first
                    | (simp (disch := omega) only [← nI_0, nI_leI, nI_ltI, nI_eq, not_true_eq_false, not_false_eq_true] at h36; done)
                    | (simp (disch := omega) only [← nI_0, nI_leI, nI_ltI, nI_eq, not_true_eq_false, not_false_eq_true] at h36; omega)
                    | contradiction
                    | exact absurd h36 (Int32.not_lt.mpr (by assumption))
                    | exact absurd h36 (Int32.not_le.mpr (by assumption))
                    | exact absurd h36 (by decide)
                    | exact absurd (by decide) h36
                    | ( try simp (disch := omega) only [← nI_0, nI_leI, nI_ltI, nI_eq, not_true_eq_false, not_false_eq_true] at h36
                        (try have h36b := zbit_n0.mp h36); (try have h36b := zbit_p0.mp h36)
                        refine z_bipush (a := nI 51) d_Mo_tinsThat_44 (by decide) ?_
                        refine z_iload_3 d_Mo_tinsThat_46 ?_
                        first | refine z_iaddN d_Mo_tinsThat_47 ?_ | refine z_iadd d_Mo_tinsThat_47 ?_
                        first | refine z_ialdNv d_Mo_tinsThat_48 (by assumption) (by omega) (by decide) (by first | assumption | ((try simp (disch := omega) only [zu_same, zu_ne, zcp_ne, zfl_ne]); first | assumption | rfl)) ?_ | refine z_iald d_Mo_tinsThat_48 (by assumption) (by assumption) ?_
                        refine z_iconst (a := nI 1) d_Mo_tinsThat_49 (by decide) ?_
                        refine z_icmp_ne (tgt := 59) d_Mo_tinsThat_50 (by decide) (fun h50 => ?_) (fun h50 => ?_)
                        · first
                          | (simp (disch := omega) only [← nI_0, nI_leI, nI_ltI, nI_eq, not_true_eq_false, not_false_eq_true] at h50; done)
                          | (simp (disch := omega) only [← nI_0, nI_leI, nI_ltI, nI_eq, not_true_eq_false, not_false_eq_true] at h50; omega)
                          | contradiction
                          | exact absurd h50 (Int32.not_lt.mpr (by assumption))
                          | exact absurd h50 (Int32.not_le.mpr (by assumption))
                          | exact absurd h50 (by decide)
                          | exact absurd (by decide) h50
                          | ( try simp (disch := omega) only [← nI_0, nI_leI, nI_ltI, nI_eq, not_true_eq_false, not_false_eq_true] at h50
                              (try have h50b := zbit_n0.mp h50); (try have h50b := zbit_p0.mp h50)
                              refine z_iconst (a := nI 0) d_Mo_tinsThat_59 (by decide) ?_
                              refine z_ior d_Mo_tinsThat_60 ?_
                              first | refine z_istore_2 d_Mo_tinsThat_61 rfl ?_ | (refine z_forget_1 ?_; refine z_istore_2 d_Mo_tinsThat_61 rfl ?_)
                              first | refine z_iinc_3 d_Mo_tinsThat_62 rfl (zi_inc _) ?_ | refine z_iinc_3 d_Mo_tinsThat_62 rfl rfl ?_
                              refine z_goto (tgt := 4) d_Mo_tinsThat_65 (by decide) ?_
                              (have q := ih (j + 1) (by omega) (by omega); rw [s_set] at q; first | (rw [if_pos (by simp only [decide_eq_true_eq]; assumption)] at q; exact q) | (rw [if_neg (by simp only [decide_eq_true_eq]; assumption)] at q; rw [zor0]; exact q)))
                        · first
                          | (simp (disch := omega) only [← nI_0, nI_leI, nI_ltI, nI_eq, not_true_eq_false, not_false_eq_true] at h50; done)
                          | (simp (disch := omega) only [← nI_0, nI_leI, nI_ltI, nI_eq, not_true_eq_false, not_false_eq_true] at h50; omega)
                          | contradiction
                          | exact absurd h50 (Int32.not_lt.mpr (by assumption))
                          | exact absurd h50 (Int32.not_le.mpr (by assumption))
                          | exact absurd h50 (by decide)
                          | exact absurd (by decide) h50
                          | ( try simp (disch := omega) only [← nI_0, nI_leI, nI_ltI, nI_eq, not_true_eq_false, not_false_eq_true] at h50
                              (try have h50b := zbit_n0.mp h50); (try have h50b := zbit_p0.mp h50)
                              refine z_iconst (a := nI 1) d_Mo_tinsThat_53 (by decide) ?_
                              refine z_iload_3 d_Mo_tinsThat_54 ?_
                              refine z_ishl d_Mo_tinsThat_55 ?_
                              refine z_goto (tgt := 60) d_Mo_tinsThat_56 (by decide) ?_
                              refine z_ior d_Mo_tinsThat_60 ?_
                              first | refine z_istore_2 d_Mo_tinsThat_61 rfl ?_ | (refine z_forget_1 ?_; refine z_istore_2 d_Mo_tinsThat_61 rfl ?_)
                              first | refine z_iinc_3 d_Mo_tinsThat_62 rfl (zi_inc _) ?_ | refine z_iinc_3 d_Mo_tinsThat_62 rfl rfl ?_
                              refine z_goto (tgt := 4) d_Mo_tinsThat_65 (by decide) ?_
                              (have q := ih (j + 1) (by omega) (by omega); rw [s_set] at q; first | (rw [if_pos (by simp only [decide_eq_true_eq]; assumption)] at q; exact q) | (rw [if_neg (by simp only [decide_eq_true_eq]; assumption)] at q; rw [zor0]; exact q))))
                  · first
                    | (simp (disch := omega) only [← nI_0, nI_leI, nI_ltI, nI_eq, not_true_eq_false, not_false_eq_true] at h36; done)
                    | (simp (disch := omega) only [← nI_0, nI_leI, nI_ltI, nI_eq, not_true_eq_false, not_false_eq_true] at h36; omega)
                    | contradiction
                    | exact absurd h36 (Int32.not_lt.mpr (by assumption))
                    | exact absurd h36 (Int32.not_le.mpr (by assumption))
                    | exact absurd h36 (by decide)
                    | exact absurd (by decide) h36
                    | ( try simp (disch := omega) only [← nI_0, nI_leI, nI_ltI, nI_eq, not_true_eq_false, not_false_eq_true] at h36
                        (try have h36b := zbit_n0.mp h36); (try have h36b := zbit_p0.mp h36)
                        refine z_bipush (a := nI 60) d_Mo_tinsThat_39 (by decide) ?_
                        refine z_goto (tgt := 46) d_Mo_tinsThat_41 (by decide) ?_
                        refine z_iload_3 d_Mo_tinsThat_46 ?_
                        first | refine z_iaddN d_Mo_tinsThat_47 ?_ | refine z_iadd d_Mo_tinsThat_47 ?_
                        first | refine z_ialdNv d_Mo_tinsThat_48 (by assumption) (by omega) (by decide) (by first | assumption | ((try simp (disch := omega) only [zu_same, zu_ne, zcp_ne, zfl_ne]); first | assumption | rfl)) ?_ | refine z_iald d_Mo_tinsThat_48 (by assumption) (by assumption) ?_
                        refine z_iconst (a := nI 1) d_Mo_tinsThat_49 (by decide) ?_
                        refine z_icmp_ne (tgt := 59) d_Mo_tinsThat_50 (by decide) (fun h50 => ?_) (fun h50 => ?_)
                        · first
                          | (simp (disch := omega) only [← nI_0, nI_leI, nI_ltI, nI_eq, not_true_eq_false, not_false_eq_true] at h50; done)
                          | (simp (disch := omega) only [← nI_0, nI_leI, nI_ltI, nI_eq, not_true_eq_false, not_false_eq_true] at h50; omega)
                          | contradiction
                          | exact absurd h50 (Int32.not_lt.mpr (by assumption))
                          | exact absurd h50 (Int32.not_le.mpr (by assumption))
                          | exact absurd h50 (by decide)
                          | exact absurd (by decide) h50
                          | ( try simp (disch := omega) only [← nI_0, nI_leI, nI_ltI, nI_eq, not_true_eq_false, not_false_eq_true] at h50
                              (try have h50b := zbit_n0.mp h50); (try have h50b := zbit_p0.mp h50)
                              refine z_iconst (a := nI 0) d_Mo_tinsThat_59 (by decide) ?_
                              refine z_ior d_Mo_tinsThat_60 ?_
                              first | refine z_istore_2 d_Mo_tinsThat_61 rfl ?_ | (refine z_forget_1 ?_; refine z_istore_2 d_Mo_tinsThat_61 rfl ?_)
                              first | refine z_iinc_3 d_Mo_tinsThat_62 rfl (zi_inc _) ?_ | refine z_iinc_3 d_Mo_tinsThat_62 rfl rfl ?_
                              refine z_goto (tgt := 4) d_Mo_tinsThat_65 (by decide) ?_
                              (have q := ih (j + 1) (by omega) (by omega); rw [s_set] at q; first | (rw [if_pos (by simp only [decide_eq_true_eq]; assumption)] at q; exact q) | (rw [if_neg (by simp only [decide_eq_true_eq]; assumption)] at q; rw [zor0]; exact q)))
                        · first
                          | (simp (disch := omega) only [← nI_0, nI_leI, nI_ltI, nI_eq, not_true_eq_false, not_false_eq_true] at h50; done)
                          | (simp (disch := omega) only [← nI_0, nI_leI, nI_ltI, nI_eq, not_true_eq_false, not_false_eq_true] at h50; omega)
                          | contradiction
                          | exact absurd h50 (Int32.not_lt.mpr (by assumption))
                          | exact absurd h50 (Int32.not_le.mpr (by assumption))
                          | exact absurd h50 (by decide)
                          | exact absurd (by decide) h50
                          | ( try simp (disch := omega) only [← nI_0, nI_leI, nI_ltI, nI_eq, not_true_eq_false, not_false_eq_true] at h50
                              (try have h50b := zbit_n0.mp h50); (try have h50b := zbit_p0.mp h50)
                              refine z_iconst (a := nI 1) d_Mo_tinsThat_53 (by decide) ?_
                              refine z_iload_3 d_Mo_tinsThat_54 ?_
                              refine z_ishl d_Mo_tinsThat_55 ?_
                              refine z_goto (tgt := 60) d_Mo_tinsThat_56 (by decide) ?_
                              refine z_ior d_Mo_tinsThat_60 ?_
                              first | refine z_istore_2 d_Mo_tinsThat_61 rfl ?_ | (refine z_forget_1 ?_; refine z_istore_2 d_Mo_tinsThat_61 rfl ?_)
                              first | refine z_iinc_3 d_Mo_tinsThat_62 rfl (zi_inc _) ?_ | refine z_iinc_3 d_Mo_tinsThat_62 rfl rfl ?_
                              refine z_goto (tgt := 4) d_Mo_tinsThat_65 (by decide) ?_
                              (have q := ih (j + 1) (by omega) (by omega); rw [s_set] at q; first | (rw [if_pos (by simp only [decide_eq_true_eq]; assumption)] at q; exact q) | (rw [if_neg (by simp only [decide_eq_true_eq]; assumption)] at q; rw [zor0]; exact q)))))
            · first
              | (simp (disch := omega) only [← nI_0, nI_leI, nI_ltI, nI_eq, not_true_eq_false, not_false_eq_true] at h16; done)
              | (simp (disch := omega) only [← nI_0, nI_leI, nI_ltI, nI_eq, not_true_eq_false, not_false_eq_true] at h16; omega)
              | contradiction
              | exact absurd h16 (Int32.not_lt.mpr (by assumption))
              | exact absurd h16 (Int32.not_le.mpr (by assumption))
              | exact absurd h16 (by decide)
              | exact absurd (by decide) h16
              | ( try simp (disch := omega) only [← nI_0, nI_leI, nI_ltI, nI_eq, not_true_eq_false, not_false_eq_true] at h16
                  (try have h16b := zbit_n0.mp h16); (try have h16b := zbit_p0.mp h16)
                  refine z_aload_0 d_Mo_tinsThat_19 ?_
                  refine z_iload_3 d_Mo_tinsThat_20 ?_
                  refine z_Vi1 d_Mo_tinsThat_21 k_Mo_310 (by assumption) (t_Mo_isGone (by assumption) (by omega)) ⟨Nat.le_of_ble_eq_true rfl, Nat.le_of_ble_eq_true rfl, Nat.le_of_ble_eq_true rfl, Nat.le_of_ble_eq_true rfl⟩ (Nat.le_of_ble_eq_true rfl) ?_
                  intro r w hq
                  rcases hq with ⟨⟨hz21, rfl⟩ | ⟨hz21, rfl⟩, rfl⟩
                  · first
                    | contradiction
                    | ( skip
                        refine z_if_eq (tgt := 59) d_Mo_tinsThat_24 (by decide) (fun h => absurd h (by decide)) (fun _ => ?_)
                        refine z_goto (tgt := 53) d_Mo_tinsThat_27 (by decide) ?_
                        refine z_iconst (a := nI 1) d_Mo_tinsThat_53 (by decide) ?_
                        refine z_iload_3 d_Mo_tinsThat_54 ?_
                        refine z_ishl d_Mo_tinsThat_55 ?_
                        refine z_goto (tgt := 60) d_Mo_tinsThat_56 (by decide) ?_
                        refine z_ior d_Mo_tinsThat_60 ?_
                        first | refine z_istore_2 d_Mo_tinsThat_61 rfl ?_ | (refine z_forget_1 ?_; refine z_istore_2 d_Mo_tinsThat_61 rfl ?_)
                        first | refine z_iinc_3 d_Mo_tinsThat_62 rfl (zi_inc _) ?_ | refine z_iinc_3 d_Mo_tinsThat_62 rfl rfl ?_
                        refine z_goto (tgt := 4) d_Mo_tinsThat_65 (by decide) ?_
                        (have q := ih (j + 1) (by omega) (by omega); rw [s_set] at q; first | (rw [if_pos (by simp only [decide_eq_true_eq]; assumption)] at q; exact q) | (rw [if_neg (by simp only [decide_eq_true_eq]; assumption)] at q; rw [zor0]; exact q)))
                  · first
                    | contradiction
                    | ( skip
                        refine z_if_eq (tgt := 59) d_Mo_tinsThat_24 (by decide) (fun _ => ?_) (fun h => absurd h (by decide))
                        refine z_iconst (a := nI 0) d_Mo_tinsThat_59 (by decide) ?_
                        refine z_ior d_Mo_tinsThat_60 ?_
                        first | refine z_istore_2 d_Mo_tinsThat_61 rfl ?_ | (refine z_forget_1 ?_; refine z_istore_2 d_Mo_tinsThat_61 rfl ?_)
                        first | refine z_iinc_3 d_Mo_tinsThat_62 rfl (zi_inc _) ?_ | refine z_iinc_3 d_Mo_tinsThat_62 rfl rfl ?_
                        refine z_goto (tgt := 4) d_Mo_tinsThat_65 (by decide) ?_
                        (have q := ih (j + 1) (by omega) (by omega); rw [s_set] at q; first | (rw [if_pos (by simp only [decide_eq_true_eq]; assumption)] at q; exact q) | (rw [if_neg (by simp only [decide_eq_true_eq]; assumption)] at q; rw [zor0]; exact q)))))
  refine z_iconst (a := nI 0) d_Mo_tinsThat_0 (by decide) ?_
  first | refine z_istore_2 d_Mo_tinsThat_1 rfl ?_ | (refine z_forget_1 ?_; refine z_istore_2 d_Mo_tinsThat_1 rfl ?_)
  refine z_iconst (a := nI 0) d_Mo_tinsThat_2 (by decide) ?_
  first | refine z_istore_3 d_Mo_tinsThat_3 rfl ?_ | (refine z_forget_2 ?_; refine z_istore_3 d_Mo_tinsThat_3 rfl ?_)
  exact loop (nn + 1) 0 (by omega) (by omega)
theorem t_Mo_tinsOn (M : modOk P S) (N : modIn I nt np nl nn) : zEi G y_Mo_tinsOn prog_14_method_80_code 4 (some .int) 1 [.ref 145, .int a] (I, J, P, S) (fun r w => r = s_set (fun t => decide (I 150 (42 + t) = a)) nn ∧ w = (I, J, P, S)) := by
  obtain ⟨M0, ⟨M4, M4s⟩, ⟨M5, M5s⟩, ⟨M6, M6s⟩, ⟨M7, M7s⟩, ⟨M20, M20s⟩, ⟨M21, M21s⟩, ⟨M22, M22s⟩, ⟨M26, M26s⟩, ⟨M27, M27s⟩, ⟨M28, M28s⟩, ⟨M30, M30s⟩, ⟨M34, M34s⟩, ⟨M36, M36s⟩, ⟨M37, M37s⟩⟩ := id M
  obtain ⟨⟨m0, m0b⟩, ⟨m1, m1b⟩, ⟨m2, m2b⟩, ⟨m3, m3b⟩, mof, mon⟩ := id N
  refine zEi_of (lv := [some (.ref 145), some (.int a), none, none]) (by decide) rfl (Nat.le_of_ble_eq_true rfl) ?_
  have loop : ∀ m j, nn - j < m → j ≤ nn → zA G y_Mo_tinsOn prog_14_method_80_code 4 (some .int) (zRm 1 0 0) (zM G 0 0 (fun r w' => ∃ x, r = some (.int x) ∧ (fun r w => r = s_set (fun t => decide (I 150 (42 + t) = a)) nn ∧ w = (I, J, P, S)) x w')) 4 [some (.ref 145), some (.int a), some (.int (s_set (fun t => decide (I 150 (42 + t) = a)) j)), some (.int (nI j))] [] (I, J, P, S) 0 0 := by
    intro m
    induction m with
    | zero => intro j h; omega
    | succ m ih =>
      intro j hm hj
      refine z_iload_3 d_Mo_tinsOn_4 ?_
      refine z_aload_0 d_Mo_tinsOn_5 ?_
      refine z_getR d_Mo_tinsOn_6 f_Mo_35 (by assumption) (by assumption) ?_
      refine z_iconst (a := nI 3) d_Mo_tinsOn_9 (by decide) ?_
      first | refine z_ialdNv d_Mo_tinsOn_10 (by assumption) (by omega) (by decide) (by first | assumption | ((try simp (disch := omega) only [zu_same, zu_ne, zcp_ne, zfl_ne]); first | assumption | rfl)) ?_ | refine z_iald d_Mo_tinsOn_10 (by assumption) (by assumption) ?_
      refine z_icmp_ge (tgt := 43) d_Mo_tinsOn_11 (by decide) (fun h11 => ?_) (fun h11 => ?_)
      · first
        | (simp (disch := omega) only [← nI_0, nI_leI, nI_ltI, nI_eq, not_true_eq_false, not_false_eq_true] at h11; done)
        | (simp (disch := omega) only [← nI_0, nI_leI, nI_ltI, nI_eq, not_true_eq_false, not_false_eq_true] at h11; omega)
        | contradiction
        | exact absurd h11 (Int32.not_lt.mpr (by assumption))
        | exact absurd h11 (Int32.not_le.mpr (by assumption))
        | exact absurd h11 (by decide)
        | exact absurd (by decide) h11
        | ( try simp (disch := omega) only [← nI_0, nI_leI, nI_ltI, nI_eq, not_true_eq_false, not_false_eq_true] at h11
            (try have h11b := zbit_n0.mp h11); (try have h11b := zbit_p0.mp h11)
            refine z_iload_2 d_Mo_tinsOn_43 ?_
            refine z_reti d_Mo_tinsOn_44 ?_
            (obtain rfl : j = nn := by omega); exact ⟨rfl, rfl⟩)
      · first
        | (simp (disch := omega) only [← nI_0, nI_leI, nI_ltI, nI_eq, not_true_eq_false, not_false_eq_true] at h11; done)
        | (simp (disch := omega) only [← nI_0, nI_leI, nI_ltI, nI_eq, not_true_eq_false, not_false_eq_true] at h11; omega)
        | contradiction
        | exact absurd h11 (Int32.not_lt.mpr (by assumption))
        | exact absurd h11 (Int32.not_le.mpr (by assumption))
        | exact absurd h11 (by decide)
        | exact absurd (by decide) h11
        | ( try simp (disch := omega) only [← nI_0, nI_leI, nI_ltI, nI_eq, not_true_eq_false, not_false_eq_true] at h11
            (try have h11b := zbit_n0.mp h11); (try have h11b := zbit_p0.mp h11)
            refine z_iload_2 d_Mo_tinsOn_14 ?_
            refine z_aload_0 d_Mo_tinsOn_15 ?_
            refine z_getR d_Mo_tinsOn_16 f_Mo_35 (by assumption) (by assumption) ?_
            refine z_bipush (a := nI 42) d_Mo_tinsOn_19 (by decide) ?_
            refine z_iload_3 d_Mo_tinsOn_21 ?_
            first | refine z_iaddN d_Mo_tinsOn_22 ?_ | refine z_iadd d_Mo_tinsOn_22 ?_
            first | refine z_ialdNv d_Mo_tinsOn_23 (by assumption) (by omega) (by decide) (by first | assumption | ((try simp (disch := omega) only [zu_same, zu_ne, zcp_ne, zfl_ne]); first | assumption | rfl)) ?_ | refine z_iald d_Mo_tinsOn_23 (by assumption) (by assumption) ?_
            refine z_iload_1 d_Mo_tinsOn_24 ?_
            refine z_icmp_ne (tgt := 34) d_Mo_tinsOn_25 (by decide) (fun h25 => ?_) (fun h25 => ?_)
            · first
              | (simp (disch := omega) only [← nI_0, nI_leI, nI_ltI, nI_eq, not_true_eq_false, not_false_eq_true] at h25; done)
              | (simp (disch := omega) only [← nI_0, nI_leI, nI_ltI, nI_eq, not_true_eq_false, not_false_eq_true] at h25; omega)
              | contradiction
              | exact absurd h25 (Int32.not_lt.mpr (by assumption))
              | exact absurd h25 (Int32.not_le.mpr (by assumption))
              | exact absurd h25 (by decide)
              | exact absurd (by decide) h25
              | ( try simp (disch := omega) only [← nI_0, nI_leI, nI_ltI, nI_eq, not_true_eq_false, not_false_eq_true] at h25
                  (try have h25b := zbit_n0.mp h25); (try have h25b := zbit_p0.mp h25)
                  refine z_iconst (a := nI 0) d_Mo_tinsOn_34 (by decide) ?_
                  refine z_ior d_Mo_tinsOn_35 ?_
                  first | refine z_istore_2 d_Mo_tinsOn_36 rfl ?_ | (refine z_forget_1 ?_; refine z_istore_2 d_Mo_tinsOn_36 rfl ?_)
                  first | refine z_iinc_3 d_Mo_tinsOn_37 rfl (zi_inc _) ?_ | refine z_iinc_3 d_Mo_tinsOn_37 rfl rfl ?_
                  refine z_goto (tgt := 4) d_Mo_tinsOn_40 (by decide) ?_
                  (have q := ih (j + 1) (by omega) (by omega); rw [s_set] at q; first | (rw [if_pos (by simp only [decide_eq_true_eq]; assumption)] at q; exact q) | (rw [if_neg (by simp only [decide_eq_true_eq]; assumption)] at q; rw [zor0]; exact q)))
            · first
              | (simp (disch := omega) only [← nI_0, nI_leI, nI_ltI, nI_eq, not_true_eq_false, not_false_eq_true] at h25; done)
              | (simp (disch := omega) only [← nI_0, nI_leI, nI_ltI, nI_eq, not_true_eq_false, not_false_eq_true] at h25; omega)
              | contradiction
              | exact absurd h25 (Int32.not_lt.mpr (by assumption))
              | exact absurd h25 (Int32.not_le.mpr (by assumption))
              | exact absurd h25 (by decide)
              | exact absurd (by decide) h25
              | ( try simp (disch := omega) only [← nI_0, nI_leI, nI_ltI, nI_eq, not_true_eq_false, not_false_eq_true] at h25
                  (try have h25b := zbit_n0.mp h25); (try have h25b := zbit_p0.mp h25)
                  refine z_iconst (a := nI 1) d_Mo_tinsOn_28 (by decide) ?_
                  refine z_iload_3 d_Mo_tinsOn_29 ?_
                  refine z_ishl d_Mo_tinsOn_30 ?_
                  refine z_goto (tgt := 35) d_Mo_tinsOn_31 (by decide) ?_
                  refine z_ior d_Mo_tinsOn_35 ?_
                  first | refine z_istore_2 d_Mo_tinsOn_36 rfl ?_ | (refine z_forget_1 ?_; refine z_istore_2 d_Mo_tinsOn_36 rfl ?_)
                  first | refine z_iinc_3 d_Mo_tinsOn_37 rfl (zi_inc _) ?_ | refine z_iinc_3 d_Mo_tinsOn_37 rfl rfl ?_
                  refine z_goto (tgt := 4) d_Mo_tinsOn_40 (by decide) ?_
                  (have q := ih (j + 1) (by omega) (by omega); rw [s_set] at q; first | (rw [if_pos (by simp only [decide_eq_true_eq]; assumption)] at q; exact q) | (rw [if_neg (by simp only [decide_eq_true_eq]; assumption)] at q; rw [zor0]; exact q))))
  refine z_iconst (a := nI 0) d_Mo_tinsOn_0 (by decide) ?_
  first | refine z_istore_2 d_Mo_tinsOn_1 rfl ?_ | (refine z_forget_1 ?_; refine z_istore_2 d_Mo_tinsOn_1 rfl ?_)
  refine z_iconst (a := nI 0) d_Mo_tinsOn_2 (by decide) ?_
  first | refine z_istore_3 d_Mo_tinsOn_3 rfl ?_ | (refine z_forget_2 ?_; refine z_istore_3 d_Mo_tinsOn_3 rfl ?_)
  exact loop (nn + 1) 0 (by omega) (by omega)
theorem t_Mo_worthAll (M : modOk P S) (N : modIn I nt np nl nn) : zEi G y_Mo_worthAll prog_14_method_81_code 4 (some .int) 2 [.ref 145, .int a] (I, J, P, S) (fun r w => r = s_sum (zB a) (fun t => I 150 (6 + (I 150 (33 + t)).toNatClampNeg)) nn ∧ w = (I, J, P, S)) := by
  obtain ⟨M0, ⟨M4, M4s⟩, ⟨M5, M5s⟩, ⟨M6, M6s⟩, ⟨M7, M7s⟩, ⟨M20, M20s⟩, ⟨M21, M21s⟩, ⟨M22, M22s⟩, ⟨M26, M26s⟩, ⟨M27, M27s⟩, ⟨M28, M28s⟩, ⟨M30, M30s⟩, ⟨M34, M34s⟩, ⟨M36, M36s⟩, ⟨M37, M37s⟩⟩ := id M
  obtain ⟨⟨m0, m0b⟩, ⟨m1, m1b⟩, ⟨m2, m2b⟩, ⟨m3, m3b⟩, mof, mon⟩ := id N
  refine zEi_of (lv := [some (.ref 145), some (.int a), none, none]) (by decide) rfl (Nat.le_of_ble_eq_true rfl) ?_
  have loop : ∀ m j, nn - j < m → j ≤ nn → zA G y_Mo_worthAll prog_14_method_81_code 4 (some .int) (zRm 2 0 0) (zM G 0 0 (fun r w' => ∃ x, r = some (.int x) ∧ (fun r w => r = s_sum (zB a) (fun t => I 150 (6 + (I 150 (33 + t)).toNatClampNeg)) nn ∧ w = (I, J, P, S)) x w')) 4 [some (.ref 145), some (.int a), some (.int (s_sum (zB a) (fun t => I 150 (6 + (I 150 (33 + t)).toNatClampNeg)) j)), some (.int (nI j))] [] (I, J, P, S) 0 0 := by
    intro m
    induction m with
    | zero => intro j h; omega
    | succ m ih =>
      intro j hm hj
      refine z_iload_3 d_Mo_worthAll_4 ?_
      refine z_aload_0 d_Mo_worthAll_5 ?_
      refine z_getR d_Mo_worthAll_6 f_Mo_35 (by assumption) (by assumption) ?_
      refine z_iconst (a := nI 3) d_Mo_worthAll_9 (by decide) ?_
      first | refine z_ialdNv d_Mo_worthAll_10 (by assumption) (by omega) (by decide) (by first | assumption | ((try simp (disch := omega) only [zu_same, zu_ne, zcp_ne, zfl_ne]); first | assumption | rfl)) ?_ | refine z_iald d_Mo_worthAll_10 (by assumption) (by assumption) ?_
      refine z_icmp_ge (tgt := 40) d_Mo_worthAll_11 (by decide) (fun hb => ?_) (fun hb => ?_)
      · have hb := (nI_leI (by omega) (by omega)).mp hb
        obtain rfl : j = nn := by omega
        refine z_iload_2 d_Mo_worthAll_40 ?_
        refine z_reti d_Mo_worthAll_41 ?_
        exact ⟨rfl, rfl⟩
      · have hb : j < nn := Nat.lt_of_not_le (fun q => hb (nI_le q (by omega)))
        obtain ⟨k, hk, hk2⟩ := mof j hb
        have hk6 : k < 6 := by omega
        have q := ih (j + 1) (by omega) (by omega)
        rw [s_sum, hk2, nI_clamp (by omega)] at q
        refine z_iload_2 d_Mo_worthAll_14 ?_
        refine z_iload_1 d_Mo_worthAll_15 ?_
        refine z_iload_3 d_Mo_worthAll_16 ?_
        refine z_Si2 d_Mo_worthAll_17 k_Mo_109 (t_Mo_has) ⟨Nat.le_of_ble_eq_true rfl, Nat.le_of_ble_eq_true rfl, Nat.le_of_ble_eq_true rfl, Nat.le_of_ble_eq_true rfl⟩ (Nat.le_of_ble_eq_true rfl) ?_
        intro r w hq
        rcases hq with ⟨⟨hz17, rfl⟩ | ⟨hz17, rfl⟩, rfl⟩
        · first
          | contradiction
          | ( skip
              refine z_if_eq (tgt := 31) d_Mo_worthAll_20 (by decide) (fun h => absurd h (by decide)) (fun _ => ?_)
              refine z_aload_0 d_Mo_worthAll_23 ?_
              refine z_iload_3 d_Mo_worthAll_24 ?_
              refine z_Vi1 d_Mo_worthAll_25 k_Mo_313 (by assumption) (t_Mo_worthOf (by assumption) (by omega) (by assumption) (by omega)) ⟨Nat.le_of_ble_eq_true rfl, Nat.le_of_ble_eq_true rfl, Nat.le_of_ble_eq_true rfl, Nat.le_of_ble_eq_true rfl⟩ (Nat.le_of_ble_eq_true rfl) ?_
              intro r w hq
              obtain ⟨rfl, rfl⟩ := hq
              refine z_goto (tgt := 32) d_Mo_worthAll_28 (by decide) ?_
              first | refine z_iaddN d_Mo_worthAll_32 ?_ | refine z_iadd d_Mo_worthAll_32 ?_
              first | refine z_istore_2 d_Mo_worthAll_33 rfl ?_ | (refine z_forget_1 ?_; refine z_istore_2 d_Mo_worthAll_33 rfl ?_)
              first | refine z_iinc_3 d_Mo_worthAll_34 rfl (zi_inc _) ?_ | refine z_iinc_3 d_Mo_worthAll_34 rfl rfl ?_
              refine z_goto (tgt := 4) d_Mo_worthAll_37 (by decide) ?_
              (first | (rw [if_pos (by assumption)] at q; exact q) | (rw [if_neg (by assumption)] at q; rw [zadd0]; exact q)))
        · first
          | contradiction
          | ( skip
              refine z_if_eq (tgt := 31) d_Mo_worthAll_20 (by decide) (fun _ => ?_) (fun h => absurd h (by decide))
              refine z_iconst (a := nI 0) d_Mo_worthAll_31 (by decide) ?_
              first | refine z_iaddN d_Mo_worthAll_32 ?_ | refine z_iadd d_Mo_worthAll_32 ?_
              first | refine z_istore_2 d_Mo_worthAll_33 rfl ?_ | (refine z_forget_1 ?_; refine z_istore_2 d_Mo_worthAll_33 rfl ?_)
              first | refine z_iinc_3 d_Mo_worthAll_34 rfl (zi_inc _) ?_ | refine z_iinc_3 d_Mo_worthAll_34 rfl rfl ?_
              refine z_goto (tgt := 4) d_Mo_worthAll_37 (by decide) ?_
              (first | (rw [if_pos (by assumption)] at q; exact q) | (rw [if_neg (by assumption)] at q; rw [zadd0]; exact q)))
  refine z_iconst (a := nI 0) d_Mo_worthAll_0 (by decide) ?_
  first | refine z_istore_2 d_Mo_worthAll_1 rfl ?_ | (refine z_forget_1 ?_; refine z_istore_2 d_Mo_worthAll_1 rfl ?_)
  refine z_iconst (a := nI 0) d_Mo_worthAll_2 (by decide) ?_
  first | refine z_istore_3 d_Mo_worthAll_3 rfl ?_ | (refine z_forget_2 ?_; refine z_istore_3 d_Mo_worthAll_3 rfl ?_)
  exact loop (nn + 1) 0 (by omega) (by omega)
theorem t_Mo_nextOf {t p k : Nat} (M : modOk P S) (N : modIn I nt np nl nn) (ht : t < 9) (hk : I 150 (33 + t) = nI k) (hp : p < 7) : zEi G y_Mo_nextOf prog_14_method_89_code 5 (some .int) 3 [.ref 145, .int (nI t), .int (nI p)] (I, J, P, S) (fun r w => r = s_set (fun q => zB (I 150 (19 + p)) q && zB (I 150 (12 + q)) k) np ∧ w = (I, J, P, S)) := by
  obtain ⟨M0, ⟨M4, M4s⟩, ⟨M5, M5s⟩, ⟨M6, M6s⟩, ⟨M7, M7s⟩, ⟨M20, M20s⟩, ⟨M21, M21s⟩, ⟨M22, M22s⟩, ⟨M26, M26s⟩, ⟨M27, M27s⟩, ⟨M28, M28s⟩, ⟨M30, M30s⟩, ⟨M34, M34s⟩, ⟨M36, M36s⟩, ⟨M37, M37s⟩⟩ := id M
  obtain ⟨⟨m0, m0b⟩, ⟨m1, m1b⟩, ⟨m2, m2b⟩, ⟨m3, m3b⟩, mof, mon⟩ := id N
  refine zEi_of (lv := [some (.ref 145), some (.int (nI t)), some (.int (nI p)), none, none]) (by decide) rfl (Nat.le_of_ble_eq_true rfl) ?_
  have loop : ∀ m j, np - j < m → j ≤ np → zA G y_Mo_nextOf prog_14_method_89_code 5 (some .int) (zRm 3 0 0) (zM G 0 0 (fun r w' => ∃ x, r = some (.int x) ∧ (fun r w => r = s_set (fun q => zB (I 150 (19 + p)) q && zB (I 150 (12 + q)) k) np ∧ w = (I, J, P, S)) x w')) 5 [some (.ref 145), some (.int (nI t)), some (.int (nI p)), some (.int (s_set (fun q => zB (I 150 (19 + p)) q && zB (I 150 (12 + q)) k) j)), some (.int (nI j))] [] (I, J, P, S) 0 0 := by
    intro m
    induction m with
    | zero => intro j h; omega
    | succ m ih =>
      intro j hm hj
      refine z_iload_4 d_Mo_nextOf_5 ?_
      refine z_aload_0 d_Mo_nextOf_7 ?_
      refine z_getR d_Mo_nextOf_8 f_Mo_35 (by assumption) (by assumption) ?_
      refine z_iconst (a := nI 1) d_Mo_nextOf_11 (by decide) ?_
      first | refine z_ialdNv d_Mo_nextOf_12 (by assumption) (by omega) (by decide) (by first | assumption | ((try simp (disch := omega) only [zu_same, zu_ne, zcp_ne, zfl_ne]); first | assumption | rfl)) ?_ | refine z_iald d_Mo_nextOf_12 (by assumption) (by assumption) ?_
      refine z_icmp_ge (tgt := 60) d_Mo_nextOf_13 (by decide) (fun h13 => ?_) (fun h13 => ?_)
      · first
        | (simp (disch := omega) only [← nI_0, nI_leI, nI_ltI, nI_eq, not_true_eq_false, not_false_eq_true] at h13; done)
        | (simp (disch := omega) only [← nI_0, nI_leI, nI_ltI, nI_eq, not_true_eq_false, not_false_eq_true] at h13; omega)
        | contradiction
        | exact absurd h13 (Int32.not_lt.mpr (by assumption))
        | exact absurd h13 (Int32.not_le.mpr (by assumption))
        | exact absurd h13 (by decide)
        | exact absurd (by decide) h13
        | ( try simp (disch := omega) only [← nI_0, nI_leI, nI_ltI, nI_eq, not_true_eq_false, not_false_eq_true] at h13
            (try have h13b := zbit_n0.mp h13); (try have h13b := zbit_p0.mp h13)
            refine z_iload_3 d_Mo_nextOf_60 ?_
            refine z_reti d_Mo_nextOf_61 ?_
            (obtain rfl : j = np := by omega); exact ⟨rfl, rfl⟩)
      · first
        | (simp (disch := omega) only [← nI_0, nI_leI, nI_ltI, nI_eq, not_true_eq_false, not_false_eq_true] at h13; done)
        | (simp (disch := omega) only [← nI_0, nI_leI, nI_ltI, nI_eq, not_true_eq_false, not_false_eq_true] at h13; omega)
        | contradiction
        | exact absurd h13 (Int32.not_lt.mpr (by assumption))
        | exact absurd h13 (Int32.not_le.mpr (by assumption))
        | exact absurd h13 (by decide)
        | exact absurd (by decide) h13
        | ( try simp (disch := omega) only [← nI_0, nI_leI, nI_ltI, nI_eq, not_true_eq_false, not_false_eq_true] at h13
            (try have h13b := zbit_n0.mp h13); (try have h13b := zbit_p0.mp h13)
            refine z_iload_3 d_Mo_nextOf_16 ?_
            refine z_aload_0 d_Mo_nextOf_17 ?_
            refine z_getR d_Mo_nextOf_18 f_Mo_35 (by assumption) (by assumption) ?_
            refine z_bipush (a := nI 19) d_Mo_nextOf_21 (by decide) ?_
            refine z_iload_2 d_Mo_nextOf_23 ?_
            first | refine z_iaddN d_Mo_nextOf_24 ?_ | refine z_iadd d_Mo_nextOf_24 ?_
            first | refine z_ialdNv d_Mo_nextOf_25 (by assumption) (by omega) (by decide) (by first | assumption | ((try simp (disch := omega) only [zu_same, zu_ne, zcp_ne, zfl_ne]); first | assumption | rfl)) ?_ | refine z_iald d_Mo_nextOf_25 (by assumption) (by assumption) ?_
            refine z_iload_4 d_Mo_nextOf_26 ?_
            refine z_Si2 d_Mo_nextOf_28 k_Mo_109 (t_Mo_has) ⟨Nat.le_of_ble_eq_true rfl, Nat.le_of_ble_eq_true rfl, Nat.le_of_ble_eq_true rfl, Nat.le_of_ble_eq_true rfl⟩ (Nat.le_of_ble_eq_true rfl) ?_
            intro r w hq
            rcases hq with ⟨⟨hz28, rfl⟩ | ⟨hz28, rfl⟩, rfl⟩
            · first
              | contradiction
              | ( skip
                  refine z_if_eq (tgt := 51) d_Mo_nextOf_31 (by decide) (fun h => absurd h (by decide)) (fun _ => ?_)
                  refine z_aload_0 d_Mo_nextOf_34 ?_
                  refine z_iload_1 d_Mo_nextOf_35 ?_
                  refine z_iload_4 d_Mo_nextOf_36 ?_
                  refine z_Vi2 d_Mo_nextOf_38 k_Mo_354 (by assumption) (t_Mo_isTrue (by assumption) (by omega) (by omega) (by assumption)) ⟨Nat.le_of_ble_eq_true rfl, Nat.le_of_ble_eq_true rfl, Nat.le_of_ble_eq_true rfl, Nat.le_of_ble_eq_true rfl⟩ (Nat.le_of_ble_eq_true rfl) ?_
                  intro r w hq
                  rcases hq with ⟨⟨hz38, rfl⟩ | ⟨hz38, rfl⟩, rfl⟩
                  · first
                    | contradiction
                    | ( skip
                        refine z_if_eq (tgt := 51) d_Mo_nextOf_41 (by decide) (fun h => absurd h (by decide)) (fun _ => ?_)
                        refine z_iconst (a := nI 1) d_Mo_nextOf_44 (by decide) ?_
                        refine z_iload_4 d_Mo_nextOf_45 ?_
                        refine z_ishl d_Mo_nextOf_47 ?_
                        refine z_goto (tgt := 52) d_Mo_nextOf_48 (by decide) ?_
                        refine z_ior d_Mo_nextOf_52 ?_
                        first | refine z_istore_3 d_Mo_nextOf_53 rfl ?_ | (refine z_forget_2 ?_; refine z_istore_3 d_Mo_nextOf_53 rfl ?_)
                        first | refine z_iinc_4 d_Mo_nextOf_54 rfl (zi_inc _) ?_ | refine z_iinc_4 d_Mo_nextOf_54 rfl rfl ?_
                        refine z_goto (tgt := 5) d_Mo_nextOf_57 (by decide) ?_
                        (have q := ih (j + 1) (by omega) (by omega); rw [s_set] at q; first | (rw [if_pos ((Bool.and_eq_true _ _).mpr ⟨by assumption, by assumption⟩)] at q; exact q) | (rw [if_neg (fun h => absurd ((Bool.and_eq_true _ _).mp h).1 (by assumption))] at q; rw [zor0]; exact q) | (rw [if_neg (fun h => absurd ((Bool.and_eq_true _ _).mp h).2 (by assumption))] at q; rw [zor0]; exact q)))
                  · first
                    | contradiction
                    | ( skip
                        refine z_if_eq (tgt := 51) d_Mo_nextOf_41 (by decide) (fun _ => ?_) (fun h => absurd h (by decide))
                        refine z_iconst (a := nI 0) d_Mo_nextOf_51 (by decide) ?_
                        refine z_ior d_Mo_nextOf_52 ?_
                        first | refine z_istore_3 d_Mo_nextOf_53 rfl ?_ | (refine z_forget_2 ?_; refine z_istore_3 d_Mo_nextOf_53 rfl ?_)
                        first | refine z_iinc_4 d_Mo_nextOf_54 rfl (zi_inc _) ?_ | refine z_iinc_4 d_Mo_nextOf_54 rfl rfl ?_
                        refine z_goto (tgt := 5) d_Mo_nextOf_57 (by decide) ?_
                        (have q := ih (j + 1) (by omega) (by omega); rw [s_set] at q; first | (rw [if_pos ((Bool.and_eq_true _ _).mpr ⟨by assumption, by assumption⟩)] at q; exact q) | (rw [if_neg (fun h => absurd ((Bool.and_eq_true _ _).mp h).1 (by assumption))] at q; rw [zor0]; exact q) | (rw [if_neg (fun h => absurd ((Bool.and_eq_true _ _).mp h).2 (by assumption))] at q; rw [zor0]; exact q))))
            · first
              | contradiction
              | ( skip
                  refine z_if_eq (tgt := 51) d_Mo_nextOf_31 (by decide) (fun _ => ?_) (fun h => absurd h (by decide))
                  refine z_iconst (a := nI 0) d_Mo_nextOf_51 (by decide) ?_
                  refine z_ior d_Mo_nextOf_52 ?_
                  first | refine z_istore_3 d_Mo_nextOf_53 rfl ?_ | (refine z_forget_2 ?_; refine z_istore_3 d_Mo_nextOf_53 rfl ?_)
                  first | refine z_iinc_4 d_Mo_nextOf_54 rfl (zi_inc _) ?_ | refine z_iinc_4 d_Mo_nextOf_54 rfl rfl ?_
                  refine z_goto (tgt := 5) d_Mo_nextOf_57 (by decide) ?_
                  (have q := ih (j + 1) (by omega) (by omega); rw [s_set] at q; first | (rw [if_pos ((Bool.and_eq_true _ _).mpr ⟨by assumption, by assumption⟩)] at q; exact q) | (rw [if_neg (fun h => absurd ((Bool.and_eq_true _ _).mp h).1 (by assumption))] at q; rw [zor0]; exact q) | (rw [if_neg (fun h => absurd ((Bool.and_eq_true _ _).mp h).2 (by assumption))] at q; rw [zor0]; exact q))))
  refine z_iconst (a := nI 0) d_Mo_nextOf_0 (by decide) ?_
  first | refine z_istore_3 d_Mo_nextOf_1 rfl ?_ | (refine z_forget_2 ?_; refine z_istore_3 d_Mo_nextOf_1 rfl ?_)
  refine z_iconst (a := nI 0) d_Mo_nextOf_2 (by decide) ?_
  first | refine z_istore_4 d_Mo_nextOf_3 rfl ?_ | (refine z_forget_3 ?_; refine z_istore_4 d_Mo_nextOf_3 rfl ?_)
  exact loop (np + 1) 0 (by omega) (by omega)
/-- how many below n -/
def s_cnt (b : Nat → Bool) : Nat → Nat
  | 0 => 0
  | n + 1 => if b n then s_cnt b n + 1 else s_cnt b n
theorem s_cnt_t {b : Nat → Bool} {n : Nat} (h : b n = true) : s_cnt b (n + 1) = s_cnt b n + 1 := by rw [s_cnt, if_pos h]
theorem s_cnt_f {b : Nat → Bool} {n : Nat} (h : ¬ b n = true) : s_cnt b (n + 1) = s_cnt b n := by rw [s_cnt, if_neg h]
theorem t_Mo_sizeOf : zEi G y_Mo_sizeOf prog_14_method_20_code 3 (some .int) 2 [.int a] (I, J, P, S) (fun r w => r = nI (s_cnt (zB a) 9) ∧ w = (I, J, P, S)) := by
  refine zEi_of (lv := [some (.int a), none, none]) (by decide) rfl (Nat.le_of_ble_eq_true rfl) ?_
  have loop : ∀ m j, 9 - j < m → j ≤ 9 → zA G y_Mo_sizeOf prog_14_method_20_code 3 (some .int) (zRm 2 0 0) (zM G 0 0 (fun r w' => ∃ x, r = some (.int x) ∧ (fun r w => r = nI (s_cnt (zB a) 9) ∧ w = (I, J, P, S)) x w')) 4 [some (.int a), some (.int (nI (s_cnt (zB a) j))), some (.int (nI j))] [] (I, J, P, S) 0 0 := by
    intro m
    induction m with
    | zero => intro j h; omega
    | succ m ih =>
      intro j hm hj
      refine z_iload_2 d_Mo_sizeOf_4 ?_
      refine z_bipush (a := nI 9) d_Mo_sizeOf_5 (by decide) ?_
      refine z_icmp_ge (tgt := 32) d_Mo_sizeOf_7 (by decide) (fun h7 => ?_) (fun h7 => ?_)
      · first
        | (simp (disch := omega) only [← nI_0, nI_leI, nI_ltI, nI_eq, not_true_eq_false, not_false_eq_true] at h7; done)
        | (simp (disch := omega) only [← nI_0, nI_leI, nI_ltI, nI_eq, not_true_eq_false, not_false_eq_true] at h7; omega)
        | contradiction
        | exact absurd h7 (Int32.not_lt.mpr (by assumption))
        | exact absurd h7 (Int32.not_le.mpr (by assumption))
        | exact absurd h7 (by decide)
        | exact absurd (by decide) h7
        | ( try simp (disch := omega) only [← nI_0, nI_leI, nI_ltI, nI_eq, not_true_eq_false, not_false_eq_true] at h7
            (try have h7b := zbit_n0.mp h7); (try have h7b := zbit_p0.mp h7)
            refine z_iload_1 d_Mo_sizeOf_32 ?_
            refine z_reti d_Mo_sizeOf_33 ?_
            (obtain rfl : j = 9 := by omega); exact ⟨rfl, rfl⟩)
      · first
        | (simp (disch := omega) only [← nI_0, nI_leI, nI_ltI, nI_eq, not_true_eq_false, not_false_eq_true] at h7; done)
        | (simp (disch := omega) only [← nI_0, nI_leI, nI_ltI, nI_eq, not_true_eq_false, not_false_eq_true] at h7; omega)
        | contradiction
        | exact absurd h7 (Int32.not_lt.mpr (by assumption))
        | exact absurd h7 (Int32.not_le.mpr (by assumption))
        | exact absurd h7 (by decide)
        | exact absurd (by decide) h7
        | ( try simp (disch := omega) only [← nI_0, nI_leI, nI_ltI, nI_eq, not_true_eq_false, not_false_eq_true] at h7
            (try have h7b := zbit_n0.mp h7); (try have h7b := zbit_p0.mp h7)
            refine z_iload_1 d_Mo_sizeOf_10 ?_
            refine z_iload_0 d_Mo_sizeOf_11 ?_
            refine z_iload_2 d_Mo_sizeOf_12 ?_
            refine z_Si2 d_Mo_sizeOf_13 k_Mo_109 (t_Mo_has) ⟨Nat.le_of_ble_eq_true rfl, Nat.le_of_ble_eq_true rfl, Nat.le_of_ble_eq_true rfl, Nat.le_of_ble_eq_true rfl⟩ (Nat.le_of_ble_eq_true rfl) ?_
            intro r w hq
            rcases hq with ⟨⟨hz13, rfl⟩ | ⟨hz13, rfl⟩, rfl⟩
            · first
              | contradiction
              | ( skip
                  refine z_if_eq (tgt := 23) d_Mo_sizeOf_16 (by decide) (fun h => absurd h (by decide)) (fun _ => ?_)
                  refine z_iconst (a := nI 1) d_Mo_sizeOf_19 (by decide) ?_
                  refine z_goto (tgt := 24) d_Mo_sizeOf_20 (by decide) ?_
                  first | refine z_iaddN d_Mo_sizeOf_24 ?_ | refine z_iadd d_Mo_sizeOf_24 ?_
                  first | refine z_istore_1 d_Mo_sizeOf_25 rfl ?_ | (refine z_forget_0 ?_; refine z_istore_1 d_Mo_sizeOf_25 rfl ?_)
                  first | refine z_iinc_2 d_Mo_sizeOf_26 rfl (zi_inc _) ?_ | refine z_iinc_2 d_Mo_sizeOf_26 rfl rfl ?_
                  refine z_goto (tgt := 4) d_Mo_sizeOf_29 (by decide) ?_
                  (have q := ih (j + 1) (by omega) (by omega); first | (rw [s_cnt_t (n := j) (by assumption)] at q; exact q) | (rw [s_cnt_f (n := j) (by assumption)] at q; exact q)))
            · first
              | contradiction
              | ( skip
                  refine z_if_eq (tgt := 23) d_Mo_sizeOf_16 (by decide) (fun _ => ?_) (fun h => absurd h (by decide))
                  refine z_iconst (a := nI 0) d_Mo_sizeOf_23 (by decide) ?_
                  first | refine z_iaddN d_Mo_sizeOf_24 ?_ | refine z_iadd d_Mo_sizeOf_24 ?_
                  first | refine z_istore_1 d_Mo_sizeOf_25 rfl ?_ | (refine z_forget_0 ?_; refine z_istore_1 d_Mo_sizeOf_25 rfl ?_)
                  first | refine z_iinc_2 d_Mo_sizeOf_26 rfl (zi_inc _) ?_ | refine z_iinc_2 d_Mo_sizeOf_26 rfl rfl ?_
                  refine z_goto (tgt := 4) d_Mo_sizeOf_29 (by decide) ?_
                  (have q := ih (j + 1) (by omega) (by omega); first | (rw [s_cnt_t (n := j) (by assumption)] at q; exact q) | (rw [s_cnt_f (n := j) (by assumption)] at q; exact q))))
  refine z_iconst (a := nI 0) d_Mo_sizeOf_0 (by decide) ?_
  first | refine z_istore_1 d_Mo_sizeOf_1 rfl ?_ | (refine z_forget_0 ?_; refine z_istore_1 d_Mo_sizeOf_1 rfl ?_)
  refine z_iconst (a := nI 0) d_Mo_sizeOf_2 (by decide) ?_
  first | refine z_istore_2 d_Mo_sizeOf_3 rfl ?_ | (refine z_forget_1 ?_; refine z_istore_2 d_Mo_sizeOf_3 rfl ?_)
  exact loop 10 0 (by omega) (by omega)
theorem t_Mo_allGot (M : modOk P S) (N : modIn I nt np nl nn) : zEi G y_Mo_allGot prog_14_method_141_code 3 (some .int) 1 [.ref 145] (I, J, P, S) (fun r w => r = s_sum (fun _ => true) (fun p => I 150 (26 + p)) np ∧ w = (I, J, P, S)) := by
  obtain ⟨M0, ⟨M4, M4s⟩, ⟨M5, M5s⟩, ⟨M6, M6s⟩, ⟨M7, M7s⟩, ⟨M20, M20s⟩, ⟨M21, M21s⟩, ⟨M22, M22s⟩, ⟨M26, M26s⟩, ⟨M27, M27s⟩, ⟨M28, M28s⟩, ⟨M30, M30s⟩, ⟨M34, M34s⟩, ⟨M36, M36s⟩, ⟨M37, M37s⟩⟩ := id M
  obtain ⟨⟨m0, m0b⟩, ⟨m1, m1b⟩, ⟨m2, m2b⟩, ⟨m3, m3b⟩, mof, mon⟩ := id N
  refine zEi_of (lv := [some (.ref 145), none, none]) (by decide) rfl (Nat.le_of_ble_eq_true rfl) ?_
  have loop : ∀ m j, np - j < m → j ≤ np → zA G y_Mo_allGot prog_14_method_141_code 3 (some .int) (zRm 1 0 0) (zM G 0 0 (fun r w' => ∃ x, r = some (.int x) ∧ (fun r w => r = s_sum (fun _ => true) (fun p => I 150 (26 + p)) np ∧ w = (I, J, P, S)) x w')) 4 [some (.ref 145), some (.int (s_sum (fun _ => true) (fun p => I 150 (26 + p)) j)), some (.int (nI j))] [] (I, J, P, S) 0 0 := by
    intro m
    induction m with
    | zero => intro j h; omega
    | succ m ih =>
      intro j hm hj
      refine z_iload_2 d_Mo_allGot_4 ?_
      refine z_aload_0 d_Mo_allGot_5 ?_
      refine z_getR d_Mo_allGot_6 f_Mo_35 (by assumption) (by assumption) ?_
      refine z_iconst (a := nI 1) d_Mo_allGot_9 (by decide) ?_
      first | refine z_ialdNv d_Mo_allGot_10 (by assumption) (by omega) (by decide) (by first | assumption | ((try simp (disch := omega) only [zu_same, zu_ne, zcp_ne, zfl_ne]); first | assumption | rfl)) ?_ | refine z_iald d_Mo_allGot_10 (by assumption) (by assumption) ?_
      refine z_icmp_ge (tgt := 32) d_Mo_allGot_11 (by decide) (fun h11 => ?_) (fun h11 => ?_)
      · first
        | (simp (disch := omega) only [← nI_0, nI_leI, nI_ltI, nI_eq, not_true_eq_false, not_false_eq_true] at h11; done)
        | (simp (disch := omega) only [← nI_0, nI_leI, nI_ltI, nI_eq, not_true_eq_false, not_false_eq_true] at h11; omega)
        | contradiction
        | exact absurd h11 (Int32.not_lt.mpr (by assumption))
        | exact absurd h11 (Int32.not_le.mpr (by assumption))
        | exact absurd h11 (by decide)
        | exact absurd (by decide) h11
        | ( try simp (disch := omega) only [← nI_0, nI_leI, nI_ltI, nI_eq, not_true_eq_false, not_false_eq_true] at h11
            (try have h11b := zbit_n0.mp h11); (try have h11b := zbit_p0.mp h11)
            refine z_iload_1 d_Mo_allGot_32 ?_
            refine z_reti d_Mo_allGot_33 ?_
            (obtain rfl : j = np := by omega); exact ⟨rfl, rfl⟩)
      · first
        | (simp (disch := omega) only [← nI_0, nI_leI, nI_ltI, nI_eq, not_true_eq_false, not_false_eq_true] at h11; done)
        | (simp (disch := omega) only [← nI_0, nI_leI, nI_ltI, nI_eq, not_true_eq_false, not_false_eq_true] at h11; omega)
        | contradiction
        | exact absurd h11 (Int32.not_lt.mpr (by assumption))
        | exact absurd h11 (Int32.not_le.mpr (by assumption))
        | exact absurd h11 (by decide)
        | exact absurd (by decide) h11
        | ( try simp (disch := omega) only [← nI_0, nI_leI, nI_ltI, nI_eq, not_true_eq_false, not_false_eq_true] at h11
            (try have h11b := zbit_n0.mp h11); (try have h11b := zbit_p0.mp h11)
            refine z_iload_1 d_Mo_allGot_14 ?_
            refine z_aload_0 d_Mo_allGot_15 ?_
            refine z_getR d_Mo_allGot_16 f_Mo_35 (by assumption) (by assumption) ?_
            refine z_bipush (a := nI 26) d_Mo_allGot_19 (by decide) ?_
            refine z_iload_2 d_Mo_allGot_21 ?_
            first | refine z_iaddN d_Mo_allGot_22 ?_ | refine z_iadd d_Mo_allGot_22 ?_
            first | refine z_ialdNv d_Mo_allGot_23 (by assumption) (by omega) (by decide) (by first | assumption | ((try simp (disch := omega) only [zu_same, zu_ne, zcp_ne, zfl_ne]); first | assumption | rfl)) ?_ | refine z_iald d_Mo_allGot_23 (by assumption) (by assumption) ?_
            first | refine z_iaddN d_Mo_allGot_24 ?_ | refine z_iadd d_Mo_allGot_24 ?_
            first | refine z_istore_1 d_Mo_allGot_25 rfl ?_ | (refine z_forget_0 ?_; refine z_istore_1 d_Mo_allGot_25 rfl ?_)
            first | refine z_iinc_2 d_Mo_allGot_26 rfl (zi_inc _) ?_ | refine z_iinc_2 d_Mo_allGot_26 rfl rfl ?_
            refine z_goto (tgt := 4) d_Mo_allGot_29 (by decide) ?_
            (have q := ih (j + 1) (by omega) (by omega); rw [s_sum, if_pos rfl] at q; exact q))
  refine z_iconst (a := nI 0) d_Mo_allGot_0 (by decide) ?_
  first | refine z_istore_1 d_Mo_allGot_1 rfl ?_ | (refine z_forget_0 ?_; refine z_istore_1 d_Mo_allGot_1 rfl ?_)
  refine z_iconst (a := nI 0) d_Mo_allGot_2 (by decide) ?_
  first | refine z_istore_2 d_Mo_allGot_3 rfl ?_ | (refine z_forget_1 ?_; refine z_istore_2 d_Mo_allGot_3 rfl ?_)
  exact loop (np + 1) 0 (by omega) (by omega)
end M2
