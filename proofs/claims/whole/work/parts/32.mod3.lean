/-! the reference: deeds, trays, draws -/
section M3
variable {G : zG} {I : Nat → Nat → Int32} {J : Nat → Nat → Int64} {P : Nat → Nat → Option Nat} {S : List (Nat × Nat)} {a b : Int32} {x lo hi : Int64} {nt np nl nn : Nat}
/-- a PASS in the reference's row -/
def m_hand (I : Nat → Nat → Int32) (t k p q : Nat) : Nat → Nat → Int32 :=
  zu (zu (zu (zu (zu I 150 (26 + p) (I 150 (26 + p) + I 150 (6 + k))) 150 (42 + t) (nI q)) 150 (69 + t) (I 150 (69 + t) ||| (nI 1 <<< (nI q &&& 31)))) 150 (78 + t) (I 150 (78 + t) + nI 1)) 150 5 (I 150 5 + nI 1)
theorem t_Mo_passes {t k p q : Nat} (M : modOk P S) (N : modIn I nt np nl nn) (ht : t < nn) (hk : I 150 (33 + t) = nI k) (hk6 : k < 6) (hp : I 150 (42 + t) = nI p) (hp2 : p < np) (hq : q < np) : zEi G y_Mo_passes prog_14_method_90_code 4 (some .boolean) 4 [.ref 145, .int (nI t), .int (nI q)] (I, J, P, S) (fun r w => ((zbit (I 150 (19 + p)) q ∧ zbit (I 150 (12 + q)) k) ∧ r = nI 1 ∧ w = (m_hand I t k p q, J, P, S)) ∨ (¬ (zbit (I 150 (19 + p)) q ∧ zbit (I 150 (12 + q)) k) ∧ r = nI 0 ∧ w = (I, J, P, S))) := by
  obtain ⟨M0, ⟨M4, M4s⟩, ⟨M5, M5s⟩, ⟨M6, M6s⟩, ⟨M7, M7s⟩, ⟨M20, M20s⟩, ⟨M21, M21s⟩, ⟨M22, M22s⟩, ⟨M26, M26s⟩, ⟨M27, M27s⟩, ⟨M28, M28s⟩, ⟨M30, M30s⟩, ⟨M34, M34s⟩, ⟨M36, M36s⟩, ⟨M37, M37s⟩⟩ := id M
  obtain ⟨⟨m0, m0b⟩, ⟨m1, m1b⟩, ⟨m2, m2b⟩, ⟨m3, m3b⟩, mof, mon⟩ := id N
  have hset : zbit (s_set (fun q => zB (I 150 (19 + p)) q && zB (I 150 (12 + q)) k) np) q ↔ zbit (I 150 (19 + p)) q ∧ zbit (I 150 (12 + q)) k := by
    rw [zbit, s_set_bit _ (by omega) (by omega), Bool.and_eq_true, Bool.and_eq_true, decide_eq_true_eq]
    exact ⟨fun h => h.2, fun h => ⟨hq, h⟩⟩
  have hk1 : zu I 150 (26 + p) (I 150 (26 + p) + I 150 (6 + k)) 150 (42 + t) = I 150 (42 + t) := zu_ne _ _ _ _ (by omega)
  refine zEi_of (lv := [some (.ref 145), some (.int (nI t)), some (.int (nI q)), none]) (by decide) rfl (Nat.le_of_ble_eq_true rfl) ?_
  refine z_aload_0 d_Mo_passes_0 ?_
  refine z_getR d_Mo_passes_1 f_Mo_35 (by assumption) (by assumption) ?_
  refine z_bipush (a := nI 42) d_Mo_passes_4 (by decide) ?_
  refine z_iload_1 d_Mo_passes_6 ?_
  first | refine z_iaddN d_Mo_passes_7 ?_ | refine z_iadd d_Mo_passes_7 ?_
  first | refine z_ialdNv d_Mo_passes_8 (by assumption) (by omega) (by decide) (by first | assumption | ((try simp (disch := omega) only [zu_same, zu_ne, zcp_ne, zfl_ne]); first | assumption | rfl)) ?_ | refine z_iald d_Mo_passes_8 (by assumption) (by assumption) ?_
  first | refine z_istore_3 d_Mo_passes_9 rfl ?_ | (refine z_forget_2 ?_; refine z_istore_3 d_Mo_passes_9 rfl ?_)
  refine z_iload_3 d_Mo_passes_10 ?_
  refine z_if_lt (tgt := 27) d_Mo_passes_11 (by decide) (fun h11 => ?_) (fun h11 => ?_)
  · first
    | (simp (disch := omega) only [← nI_0, nI_leI, nI_ltI, nI_eq, not_true_eq_false, not_false_eq_true] at h11; done)
    | (simp (disch := omega) only [← nI_0, nI_leI, nI_ltI, nI_eq, not_true_eq_false, not_false_eq_true] at h11; omega)
    | contradiction
    | exact absurd h11 (Int32.not_lt.mpr (by assumption))
    | exact absurd h11 (Int32.not_le.mpr (by assumption))
    | exact absurd h11 (by decide)
    | exact absurd (by decide) h11
    | ( try simp (disch := omega) only [← nI_0, nI_leI, nI_ltI, nI_eq, not_true_eq_false, not_false_eq_true] at h11
        (try have h11b := zbit_n0.mp h11); (try have h11b := zbit_p0.mp h11)
        refine z_iconst (a := nI 0) d_Mo_passes_27 (by decide) ?_
        refine z_retz d_Mo_passes_28 (by first | exact zb0 | exact zb1 | assumption) ?_
        first | exact Or.inl ⟨hset.mp (by assumption), rfl, by simp (disch := omega) only [m_hand, zu_ne]⟩ | exact Or.inr ⟨fun h => absurd (hset.mpr h) (by assumption), rfl, rfl⟩)
  · first
    | (simp (disch := omega) only [← nI_0, nI_leI, nI_ltI, nI_eq, not_true_eq_false, not_false_eq_true] at h11; done)
    | (simp (disch := omega) only [← nI_0, nI_leI, nI_ltI, nI_eq, not_true_eq_false, not_false_eq_true] at h11; omega)
    | contradiction
    | exact absurd h11 (Int32.not_lt.mpr (by assumption))
    | exact absurd h11 (Int32.not_le.mpr (by assumption))
    | exact absurd h11 (by decide)
    | exact absurd (by decide) h11
    | ( try simp (disch := omega) only [← nI_0, nI_leI, nI_ltI, nI_eq, not_true_eq_false, not_false_eq_true] at h11
        (try have h11b := zbit_n0.mp h11); (try have h11b := zbit_p0.mp h11)
        refine z_aload_0 d_Mo_passes_14 ?_
        refine z_iload_1 d_Mo_passes_15 ?_
        refine z_iload_3 d_Mo_passes_16 ?_
        refine z_Vi2 d_Mo_passes_17 k_Mo_357 (by assumption) (t_Mo_nextOf (by assumption) (by assumption) (by omega) (by assumption) (by omega)) ⟨Nat.le_of_ble_eq_true rfl, Nat.le_of_ble_eq_true rfl, Nat.le_of_ble_eq_true rfl, Nat.le_of_ble_eq_true rfl⟩ (Nat.le_of_ble_eq_true rfl) ?_
        intro r w hq
        obtain ⟨rfl, rfl⟩ := hq
        refine z_iload_2 d_Mo_passes_20 ?_
        refine z_Si2 d_Mo_passes_21 k_Mo_109 (t_Mo_has) ⟨Nat.le_of_ble_eq_true rfl, Nat.le_of_ble_eq_true rfl, Nat.le_of_ble_eq_true rfl, Nat.le_of_ble_eq_true rfl⟩ (Nat.le_of_ble_eq_true rfl) ?_
        intro r w hq
        rcases hq with ⟨⟨hz21, rfl⟩ | ⟨hz21, rfl⟩, rfl⟩
        · first
          | contradiction
          | ( skip
              refine z_if_ne (tgt := 29) d_Mo_passes_24 (by decide) (fun _ => ?_) (fun h => absurd h (by decide))
              refine z_aload_0 d_Mo_passes_29 ?_
              refine z_getR d_Mo_passes_30 f_Mo_35 (by assumption) (by assumption) ?_
              refine z_bipush (a := nI 26) d_Mo_passes_33 (by decide) ?_
              refine z_iload_3 d_Mo_passes_35 ?_
              first | refine z_iaddN d_Mo_passes_36 ?_ | refine z_iadd d_Mo_passes_36 ?_
              first | refine z_dup2 rfl rfl d_Mo_passes_37 ?_ | refine z_dup2l rfl d_Mo_passes_37 ?_
              first | refine z_ialdNv d_Mo_passes_38 (by assumption) (by omega) (by decide) (by first | assumption | ((try simp (disch := omega) only [zu_same, zu_ne, zcp_ne, zfl_ne]); first | assumption | rfl)) ?_ | refine z_iald d_Mo_passes_38 (by assumption) (by assumption) ?_
              refine z_aload_0 d_Mo_passes_39 ?_
              refine z_iload_1 d_Mo_passes_40 ?_
              refine z_Vi1 d_Mo_passes_41 k_Mo_313 (by assumption) (t_Mo_worthOf (by assumption) (by omega) (by assumption) (by omega)) ⟨Nat.le_of_ble_eq_true rfl, Nat.le_of_ble_eq_true rfl, Nat.le_of_ble_eq_true rfl, Nat.le_of_ble_eq_true rfl⟩ (Nat.le_of_ble_eq_true rfl) ?_
              intro r w hq
              obtain ⟨rfl, rfl⟩ := hq
              first | refine z_iaddN d_Mo_passes_44 ?_ | refine z_iadd d_Mo_passes_44 ?_
              first | refine z_iastN d_Mo_passes_45 (by assumption) (by omega) (by decide) ?_ | refine z_iast d_Mo_passes_45 (by assumption) (by assumption) ?_
              refine z_aload_0 d_Mo_passes_46 ?_
              refine z_getR d_Mo_passes_47 f_Mo_35 (by assumption) (by assumption) ?_
              refine z_bipush (a := nI 42) d_Mo_passes_50 (by decide) ?_
              refine z_iload_1 d_Mo_passes_52 ?_
              first | refine z_iaddN d_Mo_passes_53 ?_ | refine z_iadd d_Mo_passes_53 ?_
              refine z_iload_2 d_Mo_passes_54 ?_
              first | refine z_iastN d_Mo_passes_55 (by assumption) (by omega) (by decide) ?_ | refine z_iast d_Mo_passes_55 (by assumption) (by assumption) ?_
              refine z_aload_0 d_Mo_passes_56 ?_
              refine z_getR d_Mo_passes_57 f_Mo_35 (by assumption) (by assumption) ?_
              refine z_bipush (a := nI 69) d_Mo_passes_60 (by decide) ?_
              refine z_iload_1 d_Mo_passes_62 ?_
              first | refine z_iaddN d_Mo_passes_63 ?_ | refine z_iadd d_Mo_passes_63 ?_
              first | refine z_dup2 rfl rfl d_Mo_passes_64 ?_ | refine z_dup2l rfl d_Mo_passes_64 ?_
              first | refine z_ialdNv d_Mo_passes_65 (by assumption) (by omega) (by decide) (by first | assumption | ((try simp (disch := omega) only [zu_same, zu_ne, zcp_ne, zfl_ne]); first | assumption | rfl)) ?_ | refine z_iald d_Mo_passes_65 (by assumption) (by assumption) ?_
              refine z_iconst (a := nI 1) d_Mo_passes_66 (by decide) ?_
              refine z_iload_2 d_Mo_passes_67 ?_
              refine z_ishl d_Mo_passes_68 ?_
              refine z_ior d_Mo_passes_69 ?_
              first | refine z_iastN d_Mo_passes_70 (by assumption) (by omega) (by decide) ?_ | refine z_iast d_Mo_passes_70 (by assumption) (by assumption) ?_
              refine z_aload_0 d_Mo_passes_71 ?_
              refine z_getR d_Mo_passes_72 f_Mo_35 (by assumption) (by assumption) ?_
              refine z_bipush (a := nI 78) d_Mo_passes_75 (by decide) ?_
              refine z_iload_1 d_Mo_passes_77 ?_
              first | refine z_iaddN d_Mo_passes_78 ?_ | refine z_iadd d_Mo_passes_78 ?_
              first | refine z_dup2 rfl rfl d_Mo_passes_79 ?_ | refine z_dup2l rfl d_Mo_passes_79 ?_
              first | refine z_ialdNv d_Mo_passes_80 (by assumption) (by omega) (by decide) (by first | assumption | ((try simp (disch := omega) only [zu_same, zu_ne, zcp_ne, zfl_ne]); first | assumption | rfl)) ?_ | refine z_iald d_Mo_passes_80 (by assumption) (by assumption) ?_
              refine z_iconst (a := nI 1) d_Mo_passes_81 (by decide) ?_
              first | refine z_iaddN d_Mo_passes_82 ?_ | refine z_iadd d_Mo_passes_82 ?_
              first | refine z_iastN d_Mo_passes_83 (by assumption) (by omega) (by decide) ?_ | refine z_iast d_Mo_passes_83 (by assumption) (by assumption) ?_
              refine z_aload_0 d_Mo_passes_84 ?_
              refine z_getR d_Mo_passes_85 f_Mo_35 (by assumption) (by assumption) ?_
              refine z_iconst (a := nI 5) d_Mo_passes_88 (by decide) ?_
              first | refine z_dup2 rfl rfl d_Mo_passes_89 ?_ | refine z_dup2l rfl d_Mo_passes_89 ?_
              first | refine z_ialdNv d_Mo_passes_90 (by assumption) (by omega) (by decide) (by first | assumption | ((try simp (disch := omega) only [zu_same, zu_ne, zcp_ne, zfl_ne]); first | assumption | rfl)) ?_ | refine z_iald d_Mo_passes_90 (by assumption) (by assumption) ?_
              refine z_iconst (a := nI 1) d_Mo_passes_91 (by decide) ?_
              first | refine z_iaddN d_Mo_passes_92 ?_ | refine z_iadd d_Mo_passes_92 ?_
              first | refine z_iastN d_Mo_passes_93 (by assumption) (by omega) (by decide) ?_ | refine z_iast d_Mo_passes_93 (by assumption) (by assumption) ?_
              refine z_iconst (a := nI 1) d_Mo_passes_94 (by decide) ?_
              refine z_retz d_Mo_passes_95 (by first | exact zb0 | exact zb1 | assumption) ?_
              first | exact Or.inl ⟨hset.mp (by assumption), rfl, by simp (disch := omega) only [m_hand, zu_ne]⟩ | exact Or.inr ⟨fun h => absurd (hset.mpr h) (by assumption), rfl, rfl⟩)
        · first
          | contradiction
          | ( skip
              refine z_if_ne (tgt := 29) d_Mo_passes_24 (by decide) (fun h => absurd h (by decide)) (fun _ => ?_)
              refine z_iconst (a := nI 0) d_Mo_passes_27 (by decide) ?_
              refine z_retz d_Mo_passes_28 (by first | exact zb0 | exact zb1 | assumption) ?_
              first | exact Or.inl ⟨hset.mp (by assumption), rfl, by simp (disch := omega) only [m_hand, zu_ne]⟩ | exact Or.inr ⟨fun h => absurd (hset.mpr h) (by assumption), rfl, rfl⟩))
theorem t_Mo_passes0 {t q : Nat} (M : modOk P S) (N : modIn I nt np nl nn) (ht : t < nn) (hp : I 150 (42 + t) = -1) : zEi G y_Mo_passes prog_14_method_90_code 4 (some .boolean) 4 [.ref 145, .int (nI t), .int (nI q)] (I, J, P, S) (fun r w => r = nI 0 ∧ w = (I, J, P, S)) := by
  obtain ⟨M0, ⟨M4, M4s⟩, ⟨M5, M5s⟩, ⟨M6, M6s⟩, ⟨M7, M7s⟩, ⟨M20, M20s⟩, ⟨M21, M21s⟩, ⟨M22, M22s⟩, ⟨M26, M26s⟩, ⟨M27, M27s⟩, ⟨M28, M28s⟩, ⟨M30, M30s⟩, ⟨M34, M34s⟩, ⟨M36, M36s⟩, ⟨M37, M37s⟩⟩ := id M
  obtain ⟨⟨m0, m0b⟩, ⟨m1, m1b⟩, ⟨m2, m2b⟩, ⟨m3, m3b⟩, mof, mon⟩ := id N
  refine zEi_of (lv := [some (.ref 145), some (.int (nI t)), some (.int (nI q)), none]) (by decide) rfl (Nat.le_of_ble_eq_true rfl) ?_
  refine z_aload_0 d_Mo_passes_0 ?_
  refine z_getR d_Mo_passes_1 f_Mo_35 (by assumption) (by assumption) ?_
  refine z_bipush (a := nI 42) d_Mo_passes_4 (by decide) ?_
  refine z_iload_1 d_Mo_passes_6 ?_
  first | refine z_iaddN d_Mo_passes_7 ?_ | refine z_iadd d_Mo_passes_7 ?_
  first | refine z_ialdNv d_Mo_passes_8 (by assumption) (by omega) (by decide) (by first | assumption | ((try simp (disch := omega) only [zu_same, zu_ne, zcp_ne, zfl_ne]); first | assumption | rfl)) ?_ | refine z_iald d_Mo_passes_8 (by assumption) (by assumption) ?_
  first | refine z_istore_3 d_Mo_passes_9 rfl ?_ | (refine z_forget_2 ?_; refine z_istore_3 d_Mo_passes_9 rfl ?_)
  refine z_iload_3 d_Mo_passes_10 ?_
  refine z_if_lt (tgt := 27) d_Mo_passes_11 (by decide) (fun h11 => ?_) (fun h11 => ?_)
  · first
    | (simp (disch := omega) only [← nI_0, nI_leI, nI_ltI, nI_eq, not_true_eq_false, not_false_eq_true] at h11; done)
    | (simp (disch := omega) only [← nI_0, nI_leI, nI_ltI, nI_eq, not_true_eq_false, not_false_eq_true] at h11; omega)
    | contradiction
    | exact absurd h11 (Int32.not_lt.mpr (by assumption))
    | exact absurd h11 (Int32.not_le.mpr (by assumption))
    | exact absurd h11 (by decide)
    | exact absurd (by decide) h11
    | ( try simp (disch := omega) only [← nI_0, nI_leI, nI_ltI, nI_eq, not_true_eq_false, not_false_eq_true] at h11
        (try have h11b := zbit_n0.mp h11); (try have h11b := zbit_p0.mp h11)
        refine z_iconst (a := nI 0) d_Mo_passes_27 (by decide) ?_
        refine z_retz d_Mo_passes_28 (by first | exact zb0 | exact zb1 | assumption) ?_
        exact ⟨rfl, rfl⟩)
  · first
    | (simp (disch := omega) only [← nI_0, nI_leI, nI_ltI, nI_eq, not_true_eq_false, not_false_eq_true] at h11; done)
    | (simp (disch := omega) only [← nI_0, nI_leI, nI_ltI, nI_eq, not_true_eq_false, not_false_eq_true] at h11; omega)
    | contradiction
    | exact absurd h11 (Int32.not_lt.mpr (by assumption))
    | exact absurd h11 (Int32.not_le.mpr (by assumption))
    | exact absurd h11 (by decide)
    | exact absurd (by decide) h11
    | ( try simp (disch := omega) only [← nI_0, nI_leI, nI_ltI, nI_eq, not_true_eq_false, not_false_eq_true] at h11
        (try have h11b := zbit_n0.mp h11); (try have h11b := zbit_p0.mp h11)
        exact absurd (by decide) (by assumption))
theorem t_Mo_finds {t : Nat} (M : modOk P S) (ht : t < 9) : zEv G y_Mo_finds prog_14_method_93_code 2 1 0 0 [.ref 145, .int (nI t)] (I, J, P, S) (fun w => w = (zu (zu I 150 (60 + t) (nI 1)) 150 (42 + t) (-1), J, P, S)) := by
  obtain ⟨M0, ⟨M4, M4s⟩, ⟨M5, M5s⟩, ⟨M6, M6s⟩, ⟨M7, M7s⟩, ⟨M20, M20s⟩, ⟨M21, M21s⟩, ⟨M22, M22s⟩, ⟨M26, M26s⟩, ⟨M27, M27s⟩, ⟨M28, M28s⟩, ⟨M30, M30s⟩, ⟨M34, M34s⟩, ⟨M36, M36s⟩, ⟨M37, M37s⟩⟩ := id M
  refine zEv_of (lv := [some (.ref 145), some (.int (nI t))]) (by decide) rfl (Nat.le_of_ble_eq_true rfl) ?_
  refine z_aload_0 d_Mo_finds_0 ?_
  refine z_getR d_Mo_finds_1 f_Mo_35 (by assumption) (by assumption) ?_
  refine z_bipush (a := nI 60) d_Mo_finds_4 (by decide) ?_
  refine z_iload_1 d_Mo_finds_6 ?_
  first | refine z_iaddN d_Mo_finds_7 ?_ | refine z_iadd d_Mo_finds_7 ?_
  refine z_iconst (a := nI 1) d_Mo_finds_8 (by decide) ?_
  first | refine z_iastN d_Mo_finds_9 (by assumption) (by omega) (by decide) ?_ | refine z_iast d_Mo_finds_9 (by assumption) (by assumption) ?_
  refine z_aload_0 d_Mo_finds_10 ?_
  refine z_getR d_Mo_finds_11 f_Mo_35 (by assumption) (by assumption) ?_
  refine z_bipush (a := nI 42) d_Mo_finds_14 (by decide) ?_
  refine z_iload_1 d_Mo_finds_16 ?_
  first | refine z_iaddN d_Mo_finds_17 ?_ | refine z_iadd d_Mo_finds_17 ?_
  refine z_iconst (a := -1) d_Mo_finds_18 (by decide) ?_
  first | refine z_iastN d_Mo_finds_19 (by assumption) (by omega) (by decide) ?_ | refine z_iast d_Mo_finds_19 (by assumption) (by assumption) ?_
  refine z_retv d_Mo_finds_20 ?_
  exact rfl
theorem t_Mo_teaches1 {p k : Nat} (M : modOk P S) (hp : p < 7) : zEi G y_Mo_teaches prog_14_method_97_code 4 (some .boolean) 2 [.ref 145, .int (nI p), .int (nI k), .int (nI 1)] (I, J, P, S) (fun r w => (¬ zbit (I 150 (12 + p)) k ∧ r = nI 1 ∧ w = (zu I 150 (12 + p) (I 150 (12 + p) ^^^ (nI 1 <<< (nI k &&& 31))), J, P, S)) ∨ (zbit (I 150 (12 + p)) k ∧ r = nI 0 ∧ w = (I, J, P, S))) := by
  obtain ⟨M0, ⟨M4, M4s⟩, ⟨M5, M5s⟩, ⟨M6, M6s⟩, ⟨M7, M7s⟩, ⟨M20, M20s⟩, ⟨M21, M21s⟩, ⟨M22, M22s⟩, ⟨M26, M26s⟩, ⟨M27, M27s⟩, ⟨M28, M28s⟩, ⟨M30, M30s⟩, ⟨M34, M34s⟩, ⟨M36, M36s⟩, ⟨M37, M37s⟩⟩ := id M
  refine zEi_of (lv := [some (.ref 145), some (.int (nI p)), some (.int (nI k)), some (.int (nI 1))]) (by decide) rfl (Nat.le_of_ble_eq_true rfl) ?_
  refine z_aload_0 d_Mo_teaches_0 ?_
  refine z_getR d_Mo_teaches_1 f_Mo_35 (by assumption) (by assumption) ?_
  refine z_bipush (a := nI 12) d_Mo_teaches_4 (by decide) ?_
  refine z_iload_1 d_Mo_teaches_6 ?_
  first | refine z_iaddN d_Mo_teaches_7 ?_ | refine z_iadd d_Mo_teaches_7 ?_
  first | refine z_ialdNv d_Mo_teaches_8 (by assumption) (by omega) (by decide) (by first | assumption | ((try simp (disch := omega) only [zu_same, zu_ne, zcp_ne, zfl_ne]); first | assumption | rfl)) ?_ | refine z_iald d_Mo_teaches_8 (by assumption) (by assumption) ?_
  refine z_iload_2 d_Mo_teaches_9 ?_
  refine z_Si2 d_Mo_teaches_10 k_Mo_109 (t_Mo_has) ⟨Nat.le_of_ble_eq_true rfl, Nat.le_of_ble_eq_true rfl, Nat.le_of_ble_eq_true rfl, Nat.le_of_ble_eq_true rfl⟩ (Nat.le_of_ble_eq_true rfl) ?_
  intro r w hq
  rcases hq with ⟨⟨hz10, rfl⟩ | ⟨hz10, rfl⟩, rfl⟩
  · first
    | contradiction
    | ( skip
        refine z_iload_3 d_Mo_teaches_13 ?_
        refine z_icmp_ne (tgt := 19) d_Mo_teaches_14 (by decide) (fun h14 => ?_) (fun h14 => ?_)
        · first
          | (simp (disch := omega) only [← nI_0, nI_leI, nI_ltI, nI_eq, not_true_eq_false, not_false_eq_true] at h14; done)
          | (simp (disch := omega) only [← nI_0, nI_leI, nI_ltI, nI_eq, not_true_eq_false, not_false_eq_true] at h14; omega)
          | contradiction
          | exact absurd h14 (Int32.not_lt.mpr (by assumption))
          | exact absurd h14 (Int32.not_le.mpr (by assumption))
          | exact absurd h14 (by decide)
          | exact absurd (by decide) h14
          | ( try simp (disch := omega) only [← nI_0, nI_leI, nI_ltI, nI_eq, not_true_eq_false, not_false_eq_true] at h14
              (try have h14b := zbit_n0.mp h14); (try have h14b := zbit_p0.mp h14)
              refine z_aload_0 d_Mo_teaches_19 ?_
              refine z_getR d_Mo_teaches_20 f_Mo_35 (by assumption) (by assumption) ?_
              refine z_bipush (a := nI 12) d_Mo_teaches_23 (by decide) ?_
              refine z_iload_1 d_Mo_teaches_25 ?_
              first | refine z_iaddN d_Mo_teaches_26 ?_ | refine z_iadd d_Mo_teaches_26 ?_
              first | refine z_dup2 rfl rfl d_Mo_teaches_27 ?_ | refine z_dup2l rfl d_Mo_teaches_27 ?_
              first | refine z_ialdNv d_Mo_teaches_28 (by assumption) (by omega) (by decide) (by first | assumption | ((try simp (disch := omega) only [zu_same, zu_ne, zcp_ne, zfl_ne]); first | assumption | rfl)) ?_ | refine z_iald d_Mo_teaches_28 (by assumption) (by assumption) ?_
              refine z_iconst (a := nI 1) d_Mo_teaches_29 (by decide) ?_
              refine z_iload_2 d_Mo_teaches_30 ?_
              refine z_ishl d_Mo_teaches_31 ?_
              refine z_ixor d_Mo_teaches_32 ?_
              first | refine z_iastN d_Mo_teaches_33 (by assumption) (by omega) (by decide) ?_ | refine z_iast d_Mo_teaches_33 (by assumption) (by assumption) ?_
              refine z_iconst (a := nI 1) d_Mo_teaches_34 (by decide) ?_
              refine z_retz d_Mo_teaches_35 (by first | exact zb0 | exact zb1 | assumption) ?_
              first | exact Or.inl ⟨by assumption, rfl, rfl⟩ | exact Or.inr ⟨by assumption, rfl, rfl⟩)
        · first
          | (simp (disch := omega) only [← nI_0, nI_leI, nI_ltI, nI_eq, not_true_eq_false, not_false_eq_true] at h14; done)
          | (simp (disch := omega) only [← nI_0, nI_leI, nI_ltI, nI_eq, not_true_eq_false, not_false_eq_true] at h14; omega)
          | contradiction
          | exact absurd h14 (Int32.not_lt.mpr (by assumption))
          | exact absurd h14 (Int32.not_le.mpr (by assumption))
          | exact absurd h14 (by decide)
          | exact absurd (by decide) h14
          | ( try simp (disch := omega) only [← nI_0, nI_leI, nI_ltI, nI_eq, not_true_eq_false, not_false_eq_true] at h14
              (try have h14b := zbit_n0.mp h14); (try have h14b := zbit_p0.mp h14)
              refine z_iconst (a := nI 0) d_Mo_teaches_17 (by decide) ?_
              refine z_retz d_Mo_teaches_18 (by first | exact zb0 | exact zb1 | assumption) ?_
              first | exact Or.inl ⟨by assumption, rfl, rfl⟩ | exact Or.inr ⟨by assumption, rfl, rfl⟩))
  · first
    | contradiction
    | ( skip
        refine z_iload_3 d_Mo_teaches_13 ?_
        refine z_icmp_ne (tgt := 19) d_Mo_teaches_14 (by decide) (fun h14 => ?_) (fun h14 => ?_)
        · first
          | (simp (disch := omega) only [← nI_0, nI_leI, nI_ltI, nI_eq, not_true_eq_false, not_false_eq_true] at h14; done)
          | (simp (disch := omega) only [← nI_0, nI_leI, nI_ltI, nI_eq, not_true_eq_false, not_false_eq_true] at h14; omega)
          | contradiction
          | exact absurd h14 (Int32.not_lt.mpr (by assumption))
          | exact absurd h14 (Int32.not_le.mpr (by assumption))
          | exact absurd h14 (by decide)
          | exact absurd (by decide) h14
          | ( try simp (disch := omega) only [← nI_0, nI_leI, nI_ltI, nI_eq, not_true_eq_false, not_false_eq_true] at h14
              (try have h14b := zbit_n0.mp h14); (try have h14b := zbit_p0.mp h14)
              refine z_aload_0 d_Mo_teaches_19 ?_
              refine z_getR d_Mo_teaches_20 f_Mo_35 (by assumption) (by assumption) ?_
              refine z_bipush (a := nI 12) d_Mo_teaches_23 (by decide) ?_
              refine z_iload_1 d_Mo_teaches_25 ?_
              first | refine z_iaddN d_Mo_teaches_26 ?_ | refine z_iadd d_Mo_teaches_26 ?_
              first | refine z_dup2 rfl rfl d_Mo_teaches_27 ?_ | refine z_dup2l rfl d_Mo_teaches_27 ?_
              first | refine z_ialdNv d_Mo_teaches_28 (by assumption) (by omega) (by decide) (by first | assumption | ((try simp (disch := omega) only [zu_same, zu_ne, zcp_ne, zfl_ne]); first | assumption | rfl)) ?_ | refine z_iald d_Mo_teaches_28 (by assumption) (by assumption) ?_
              refine z_iconst (a := nI 1) d_Mo_teaches_29 (by decide) ?_
              refine z_iload_2 d_Mo_teaches_30 ?_
              refine z_ishl d_Mo_teaches_31 ?_
              refine z_ixor d_Mo_teaches_32 ?_
              first | refine z_iastN d_Mo_teaches_33 (by assumption) (by omega) (by decide) ?_ | refine z_iast d_Mo_teaches_33 (by assumption) (by assumption) ?_
              refine z_iconst (a := nI 1) d_Mo_teaches_34 (by decide) ?_
              refine z_retz d_Mo_teaches_35 (by first | exact zb0 | exact zb1 | assumption) ?_
              first | exact Or.inl ⟨by assumption, rfl, rfl⟩ | exact Or.inr ⟨by assumption, rfl, rfl⟩)
        · first
          | (simp (disch := omega) only [← nI_0, nI_leI, nI_ltI, nI_eq, not_true_eq_false, not_false_eq_true] at h14; done)
          | (simp (disch := omega) only [← nI_0, nI_leI, nI_ltI, nI_eq, not_true_eq_false, not_false_eq_true] at h14; omega)
          | contradiction
          | exact absurd h14 (Int32.not_lt.mpr (by assumption))
          | exact absurd h14 (Int32.not_le.mpr (by assumption))
          | exact absurd h14 (by decide)
          | exact absurd (by decide) h14
          | ( try simp (disch := omega) only [← nI_0, nI_leI, nI_ltI, nI_eq, not_true_eq_false, not_false_eq_true] at h14
              (try have h14b := zbit_n0.mp h14); (try have h14b := zbit_p0.mp h14)
              refine z_iconst (a := nI 0) d_Mo_teaches_17 (by decide) ?_
              refine z_retz d_Mo_teaches_18 (by first | exact zb0 | exact zb1 | assumption) ?_
              first | exact Or.inl ⟨by assumption, rfl, rfl⟩ | exact Or.inr ⟨by assumption, rfl, rfl⟩))
theorem t_Mo_teaches0 {p k : Nat} (M : modOk P S) (hp : p < 7) : zEi G y_Mo_teaches prog_14_method_97_code 4 (some .boolean) 2 [.ref 145, .int (nI p), .int (nI k), .int (nI 0)] (I, J, P, S) (fun r w => (zbit (I 150 (12 + p)) k ∧ r = nI 1 ∧ w = (zu I 150 (12 + p) (I 150 (12 + p) ^^^ (nI 1 <<< (nI k &&& 31))), J, P, S)) ∨ (¬ zbit (I 150 (12 + p)) k ∧ r = nI 0 ∧ w = (I, J, P, S))) := by
  obtain ⟨M0, ⟨M4, M4s⟩, ⟨M5, M5s⟩, ⟨M6, M6s⟩, ⟨M7, M7s⟩, ⟨M20, M20s⟩, ⟨M21, M21s⟩, ⟨M22, M22s⟩, ⟨M26, M26s⟩, ⟨M27, M27s⟩, ⟨M28, M28s⟩, ⟨M30, M30s⟩, ⟨M34, M34s⟩, ⟨M36, M36s⟩, ⟨M37, M37s⟩⟩ := id M
  refine zEi_of (lv := [some (.ref 145), some (.int (nI p)), some (.int (nI k)), some (.int (nI 0))]) (by decide) rfl (Nat.le_of_ble_eq_true rfl) ?_
  refine z_aload_0 d_Mo_teaches_0 ?_
  refine z_getR d_Mo_teaches_1 f_Mo_35 (by assumption) (by assumption) ?_
  refine z_bipush (a := nI 12) d_Mo_teaches_4 (by decide) ?_
  refine z_iload_1 d_Mo_teaches_6 ?_
  first | refine z_iaddN d_Mo_teaches_7 ?_ | refine z_iadd d_Mo_teaches_7 ?_
  first | refine z_ialdNv d_Mo_teaches_8 (by assumption) (by omega) (by decide) (by first | assumption | ((try simp (disch := omega) only [zu_same, zu_ne, zcp_ne, zfl_ne]); first | assumption | rfl)) ?_ | refine z_iald d_Mo_teaches_8 (by assumption) (by assumption) ?_
  refine z_iload_2 d_Mo_teaches_9 ?_
  refine z_Si2 d_Mo_teaches_10 k_Mo_109 (t_Mo_has) ⟨Nat.le_of_ble_eq_true rfl, Nat.le_of_ble_eq_true rfl, Nat.le_of_ble_eq_true rfl, Nat.le_of_ble_eq_true rfl⟩ (Nat.le_of_ble_eq_true rfl) ?_
  intro r w hq
  rcases hq with ⟨⟨hz10, rfl⟩ | ⟨hz10, rfl⟩, rfl⟩
  · first
    | contradiction
    | ( skip
        refine z_iload_3 d_Mo_teaches_13 ?_
        refine z_icmp_ne (tgt := 19) d_Mo_teaches_14 (by decide) (fun h14 => ?_) (fun h14 => ?_)
        · first
          | (simp (disch := omega) only [← nI_0, nI_leI, nI_ltI, nI_eq, not_true_eq_false, not_false_eq_true] at h14; done)
          | (simp (disch := omega) only [← nI_0, nI_leI, nI_ltI, nI_eq, not_true_eq_false, not_false_eq_true] at h14; omega)
          | contradiction
          | exact absurd h14 (Int32.not_lt.mpr (by assumption))
          | exact absurd h14 (Int32.not_le.mpr (by assumption))
          | exact absurd h14 (by decide)
          | exact absurd (by decide) h14
          | ( try simp (disch := omega) only [← nI_0, nI_leI, nI_ltI, nI_eq, not_true_eq_false, not_false_eq_true] at h14
              (try have h14b := zbit_n0.mp h14); (try have h14b := zbit_p0.mp h14)
              refine z_aload_0 d_Mo_teaches_19 ?_
              refine z_getR d_Mo_teaches_20 f_Mo_35 (by assumption) (by assumption) ?_
              refine z_bipush (a := nI 12) d_Mo_teaches_23 (by decide) ?_
              refine z_iload_1 d_Mo_teaches_25 ?_
              first | refine z_iaddN d_Mo_teaches_26 ?_ | refine z_iadd d_Mo_teaches_26 ?_
              first | refine z_dup2 rfl rfl d_Mo_teaches_27 ?_ | refine z_dup2l rfl d_Mo_teaches_27 ?_
              first | refine z_ialdNv d_Mo_teaches_28 (by assumption) (by omega) (by decide) (by first | assumption | ((try simp (disch := omega) only [zu_same, zu_ne, zcp_ne, zfl_ne]); first | assumption | rfl)) ?_ | refine z_iald d_Mo_teaches_28 (by assumption) (by assumption) ?_
              refine z_iconst (a := nI 1) d_Mo_teaches_29 (by decide) ?_
              refine z_iload_2 d_Mo_teaches_30 ?_
              refine z_ishl d_Mo_teaches_31 ?_
              refine z_ixor d_Mo_teaches_32 ?_
              first | refine z_iastN d_Mo_teaches_33 (by assumption) (by omega) (by decide) ?_ | refine z_iast d_Mo_teaches_33 (by assumption) (by assumption) ?_
              refine z_iconst (a := nI 1) d_Mo_teaches_34 (by decide) ?_
              refine z_retz d_Mo_teaches_35 (by first | exact zb0 | exact zb1 | assumption) ?_
              first | exact Or.inl ⟨by assumption, rfl, rfl⟩ | exact Or.inr ⟨by assumption, rfl, rfl⟩)
        · first
          | (simp (disch := omega) only [← nI_0, nI_leI, nI_ltI, nI_eq, not_true_eq_false, not_false_eq_true] at h14; done)
          | (simp (disch := omega) only [← nI_0, nI_leI, nI_ltI, nI_eq, not_true_eq_false, not_false_eq_true] at h14; omega)
          | contradiction
          | exact absurd h14 (Int32.not_lt.mpr (by assumption))
          | exact absurd h14 (Int32.not_le.mpr (by assumption))
          | exact absurd h14 (by decide)
          | exact absurd (by decide) h14
          | ( try simp (disch := omega) only [← nI_0, nI_leI, nI_ltI, nI_eq, not_true_eq_false, not_false_eq_true] at h14
              (try have h14b := zbit_n0.mp h14); (try have h14b := zbit_p0.mp h14)
              refine z_iconst (a := nI 0) d_Mo_teaches_17 (by decide) ?_
              refine z_retz d_Mo_teaches_18 (by first | exact zb0 | exact zb1 | assumption) ?_
              first | exact Or.inl ⟨by assumption, rfl, rfl⟩ | exact Or.inr ⟨by assumption, rfl, rfl⟩))
  · first
    | contradiction
    | ( skip
        refine z_iload_3 d_Mo_teaches_13 ?_
        refine z_icmp_ne (tgt := 19) d_Mo_teaches_14 (by decide) (fun h14 => ?_) (fun h14 => ?_)
        · first
          | (simp (disch := omega) only [← nI_0, nI_leI, nI_ltI, nI_eq, not_true_eq_false, not_false_eq_true] at h14; done)
          | (simp (disch := omega) only [← nI_0, nI_leI, nI_ltI, nI_eq, not_true_eq_false, not_false_eq_true] at h14; omega)
          | contradiction
          | exact absurd h14 (Int32.not_lt.mpr (by assumption))
          | exact absurd h14 (Int32.not_le.mpr (by assumption))
          | exact absurd h14 (by decide)
          | exact absurd (by decide) h14
          | ( try simp (disch := omega) only [← nI_0, nI_leI, nI_ltI, nI_eq, not_true_eq_false, not_false_eq_true] at h14
              (try have h14b := zbit_n0.mp h14); (try have h14b := zbit_p0.mp h14)
              refine z_aload_0 d_Mo_teaches_19 ?_
              refine z_getR d_Mo_teaches_20 f_Mo_35 (by assumption) (by assumption) ?_
              refine z_bipush (a := nI 12) d_Mo_teaches_23 (by decide) ?_
              refine z_iload_1 d_Mo_teaches_25 ?_
              first | refine z_iaddN d_Mo_teaches_26 ?_ | refine z_iadd d_Mo_teaches_26 ?_
              first | refine z_dup2 rfl rfl d_Mo_teaches_27 ?_ | refine z_dup2l rfl d_Mo_teaches_27 ?_
              first | refine z_ialdNv d_Mo_teaches_28 (by assumption) (by omega) (by decide) (by first | assumption | ((try simp (disch := omega) only [zu_same, zu_ne, zcp_ne, zfl_ne]); first | assumption | rfl)) ?_ | refine z_iald d_Mo_teaches_28 (by assumption) (by assumption) ?_
              refine z_iconst (a := nI 1) d_Mo_teaches_29 (by decide) ?_
              refine z_iload_2 d_Mo_teaches_30 ?_
              refine z_ishl d_Mo_teaches_31 ?_
              refine z_ixor d_Mo_teaches_32 ?_
              first | refine z_iastN d_Mo_teaches_33 (by assumption) (by omega) (by decide) ?_ | refine z_iast d_Mo_teaches_33 (by assumption) (by assumption) ?_
              refine z_iconst (a := nI 1) d_Mo_teaches_34 (by decide) ?_
              refine z_retz d_Mo_teaches_35 (by first | exact zb0 | exact zb1 | assumption) ?_
              first | exact Or.inl ⟨by assumption, rfl, rfl⟩ | exact Or.inr ⟨by assumption, rfl, rfl⟩)
        · first
          | (simp (disch := omega) only [← nI_0, nI_leI, nI_ltI, nI_eq, not_true_eq_false, not_false_eq_true] at h14; done)
          | (simp (disch := omega) only [← nI_0, nI_leI, nI_ltI, nI_eq, not_true_eq_false, not_false_eq_true] at h14; omega)
          | contradiction
          | exact absurd h14 (Int32.not_lt.mpr (by assumption))
          | exact absurd h14 (Int32.not_le.mpr (by assumption))
          | exact absurd h14 (by decide)
          | exact absurd (by decide) h14
          | ( try simp (disch := omega) only [← nI_0, nI_leI, nI_ltI, nI_eq, not_true_eq_false, not_false_eq_true] at h14
              (try have h14b := zbit_n0.mp h14); (try have h14b := zbit_p0.mp h14)
              refine z_iconst (a := nI 0) d_Mo_teaches_17 (by decide) ?_
              refine z_retz d_Mo_teaches_18 (by first | exact zb0 | exact zb1 | assumption) ?_
              first | exact Or.inl ⟨by assumption, rfl, rfl⟩ | exact Or.inr ⟨by assumption, rfl, rfl⟩))
theorem t_Mo_meet {c p q : Nat} (M : modOk P S) (hc : c ≤ 4) (hp : p < 7) (hq : q < 7) (hn : p ≠ q) : zEv G y_Mo_meet prog_14_method_63_code 5 1 0 0 [.ref 145, .int (nI c), .int (nI p), .int (nI q)] (I, J, P, S) (fun w => w = (zu (zu (zu I 150 (359 * c + 19 + p) (I 150 (359 * c + 19 + p) ||| (nI 1 <<< (nI q &&& 31)))) 150 (359 * c + 19 + q) (I 150 (359 * c + 19 + q) ||| (nI 1 <<< (nI p &&& 31)))) 150 (359 * c + 2) (I 150 (359 * c + 2) + nI 1), J, P, S)) := by
  obtain ⟨M0, ⟨M4, M4s⟩, ⟨M5, M5s⟩, ⟨M6, M6s⟩, ⟨M7, M7s⟩, ⟨M20, M20s⟩, ⟨M21, M21s⟩, ⟨M22, M22s⟩, ⟨M26, M26s⟩, ⟨M27, M27s⟩, ⟨M28, M28s⟩, ⟨M30, M30s⟩, ⟨M34, M34s⟩, ⟨M36, M36s⟩, ⟨M37, M37s⟩⟩ := id M
  refine zEv_of (lv := [some (.ref 145), some (.int (nI c)), some (.int (nI p)), some (.int (nI q)), none]) (by decide) rfl (Nat.le_of_ble_eq_true rfl) ?_
  refine z_sipush (a := nI 359) d_Mo_meet_0 (by decide) ?_
  refine z_iload_1 d_Mo_meet_3 ?_
  first | refine z_imulN d_Mo_meet_4 ?_ | refine z_imul d_Mo_meet_4 ?_
  first | refine z_istore_4 d_Mo_meet_5 rfl ?_ | (refine z_forget_3 ?_; refine z_istore_4 d_Mo_meet_5 rfl ?_)
  refine z_aload_0 d_Mo_meet_7 ?_
  refine z_getR d_Mo_meet_8 f_Mo_35 (by assumption) (by assumption) ?_
  refine z_iload_4 d_Mo_meet_11 ?_
  refine z_bipush (a := nI 19) d_Mo_meet_13 (by decide) ?_
  first | refine z_iaddN d_Mo_meet_15 ?_ | refine z_iadd d_Mo_meet_15 ?_
  refine z_iload_2 d_Mo_meet_16 ?_
  first | refine z_iaddN d_Mo_meet_17 ?_ | refine z_iadd d_Mo_meet_17 ?_
  first | refine z_dup2 rfl rfl d_Mo_meet_18 ?_ | refine z_dup2l rfl d_Mo_meet_18 ?_
  first | refine z_ialdNv d_Mo_meet_19 (by assumption) (by omega) (by decide) (by first | assumption | ((try simp (disch := omega) only [zu_same, zu_ne, zcp_ne, zfl_ne]); first | assumption | rfl)) ?_ | refine z_iald d_Mo_meet_19 (by assumption) (by assumption) ?_
  refine z_iconst (a := nI 1) d_Mo_meet_20 (by decide) ?_
  refine z_iload_3 d_Mo_meet_21 ?_
  refine z_ishl d_Mo_meet_22 ?_
  refine z_ior d_Mo_meet_23 ?_
  first | refine z_iastN d_Mo_meet_24 (by assumption) (by omega) (by decide) ?_ | refine z_iast d_Mo_meet_24 (by assumption) (by assumption) ?_
  refine z_aload_0 d_Mo_meet_25 ?_
  refine z_getR d_Mo_meet_26 f_Mo_35 (by assumption) (by assumption) ?_
  refine z_iload_4 d_Mo_meet_29 ?_
  refine z_bipush (a := nI 19) d_Mo_meet_31 (by decide) ?_
  first | refine z_iaddN d_Mo_meet_33 ?_ | refine z_iadd d_Mo_meet_33 ?_
  refine z_iload_3 d_Mo_meet_34 ?_
  first | refine z_iaddN d_Mo_meet_35 ?_ | refine z_iadd d_Mo_meet_35 ?_
  first | refine z_dup2 rfl rfl d_Mo_meet_36 ?_ | refine z_dup2l rfl d_Mo_meet_36 ?_
  first | refine z_ialdNv d_Mo_meet_37 (by assumption) (by omega) (by decide) (by first | assumption | ((try simp (disch := omega) only [zu_same, zu_ne, zcp_ne, zfl_ne]); first | assumption | rfl)) ?_ | refine z_iald d_Mo_meet_37 (by assumption) (by assumption) ?_
  refine z_iconst (a := nI 1) d_Mo_meet_38 (by decide) ?_
  refine z_iload_2 d_Mo_meet_39 ?_
  refine z_ishl d_Mo_meet_40 ?_
  refine z_ior d_Mo_meet_41 ?_
  first | refine z_iastN d_Mo_meet_42 (by assumption) (by omega) (by decide) ?_ | refine z_iast d_Mo_meet_42 (by assumption) (by assumption) ?_
  refine z_aload_0 d_Mo_meet_43 ?_
  refine z_getR d_Mo_meet_44 f_Mo_35 (by assumption) (by assumption) ?_
  refine z_iload_4 d_Mo_meet_47 ?_
  refine z_iconst (a := nI 2) d_Mo_meet_49 (by decide) ?_
  first | refine z_iaddN d_Mo_meet_50 ?_ | refine z_iadd d_Mo_meet_50 ?_
  first | refine z_dup2 rfl rfl d_Mo_meet_51 ?_ | refine z_dup2l rfl d_Mo_meet_51 ?_
  first | refine z_ialdNv d_Mo_meet_52 (by assumption) (by omega) (by decide) (by first | assumption | ((try simp (disch := omega) only [zu_same, zu_ne, zcp_ne, zfl_ne]); first | assumption | rfl)) ?_ | refine z_iald d_Mo_meet_52 (by assumption) (by assumption) ?_
  refine z_iconst (a := nI 1) d_Mo_meet_53 (by decide) ?_
  first | refine z_iaddN d_Mo_meet_54 ?_ | refine z_iadd d_Mo_meet_54 ?_
  first | refine z_iastN d_Mo_meet_55 (by assumption) (by omega) (by decide) ?_ | refine z_iast d_Mo_meet_55 (by assumption) (by assumption) ?_
  refine z_retv d_Mo_meet_56 ?_
  exact rfl
/-- a TIN more in the reference's row -/
def m_strikes (I : Nat → Nat → Int32) (c t : Nat) (k p l : Int32) : Nat → Nat → Int32 :=
  zu (zu (zu (zu (zu (zu (zu I 150 (359 * c + 33 + t) k) 150 (359 * c + 42 + t) p) 150 (359 * c + 51 + t) l) 150 (359 * c + 60 + t) (nI 0)) 150 (359 * c + 69 + t) (nI 1 <<< (p &&& 31))) 150 (359 * c + 78 + t) (nI 0)) 150 (359 * c + 3) (nI (t + 1))
theorem t_Mo_strikes {c t : Nat} {k p l : Int32} (M : modOk P S) (hc : c ≤ 4) (ht : t < 9) : zEv G y_Mo_strikes prog_14_method_65_code 7 1 0 0 [.ref 145, .int (nI c), .int (nI t), .int k, .int p, .int l] (I, J, P, S) (fun w => w = (m_strikes I c t k p l, J, P, S)) := by
  obtain ⟨M0, ⟨M4, M4s⟩, ⟨M5, M5s⟩, ⟨M6, M6s⟩, ⟨M7, M7s⟩, ⟨M20, M20s⟩, ⟨M21, M21s⟩, ⟨M22, M22s⟩, ⟨M26, M26s⟩, ⟨M27, M27s⟩, ⟨M28, M28s⟩, ⟨M30, M30s⟩, ⟨M34, M34s⟩, ⟨M36, M36s⟩, ⟨M37, M37s⟩⟩ := id M
  refine zEv_of (lv := [some (.ref 145), some (.int (nI c)), some (.int (nI t)), some (.int k), some (.int p), some (.int l), none]) (by decide) rfl (Nat.le_of_ble_eq_true rfl) ?_
  refine z_sipush (a := nI 359) d_Mo_strikes_0 (by decide) ?_
  refine z_iload_1 d_Mo_strikes_3 ?_
  first | refine z_imulN d_Mo_strikes_4 ?_ | refine z_imul d_Mo_strikes_4 ?_
  first | refine z_istore_6 d_Mo_strikes_5 rfl ?_ | (refine z_forget_5 ?_; refine z_istore_6 d_Mo_strikes_5 rfl ?_)
  refine z_aload_0 d_Mo_strikes_7 ?_
  refine z_getR d_Mo_strikes_8 f_Mo_35 (by assumption) (by assumption) ?_
  refine z_iload_6 d_Mo_strikes_11 ?_
  refine z_bipush (a := nI 33) d_Mo_strikes_13 (by decide) ?_
  first | refine z_iaddN d_Mo_strikes_15 ?_ | refine z_iadd d_Mo_strikes_15 ?_
  refine z_iload_2 d_Mo_strikes_16 ?_
  first | refine z_iaddN d_Mo_strikes_17 ?_ | refine z_iadd d_Mo_strikes_17 ?_
  refine z_iload_3 d_Mo_strikes_18 ?_
  first | refine z_iastN d_Mo_strikes_19 (by assumption) (by omega) (by decide) ?_ | refine z_iast d_Mo_strikes_19 (by assumption) (by assumption) ?_
  refine z_aload_0 d_Mo_strikes_20 ?_
  refine z_getR d_Mo_strikes_21 f_Mo_35 (by assumption) (by assumption) ?_
  refine z_iload_6 d_Mo_strikes_24 ?_
  refine z_bipush (a := nI 42) d_Mo_strikes_26 (by decide) ?_
  first | refine z_iaddN d_Mo_strikes_28 ?_ | refine z_iadd d_Mo_strikes_28 ?_
  refine z_iload_2 d_Mo_strikes_29 ?_
  first | refine z_iaddN d_Mo_strikes_30 ?_ | refine z_iadd d_Mo_strikes_30 ?_
  refine z_iload_4 d_Mo_strikes_31 ?_
  first | refine z_iastN d_Mo_strikes_33 (by assumption) (by omega) (by decide) ?_ | refine z_iast d_Mo_strikes_33 (by assumption) (by assumption) ?_
  refine z_aload_0 d_Mo_strikes_34 ?_
  refine z_getR d_Mo_strikes_35 f_Mo_35 (by assumption) (by assumption) ?_
  refine z_iload_6 d_Mo_strikes_38 ?_
  refine z_bipush (a := nI 51) d_Mo_strikes_40 (by decide) ?_
  first | refine z_iaddN d_Mo_strikes_42 ?_ | refine z_iadd d_Mo_strikes_42 ?_
  refine z_iload_2 d_Mo_strikes_43 ?_
  first | refine z_iaddN d_Mo_strikes_44 ?_ | refine z_iadd d_Mo_strikes_44 ?_
  refine z_iload_5 d_Mo_strikes_45 ?_
  first | refine z_iastN d_Mo_strikes_47 (by assumption) (by omega) (by decide) ?_ | refine z_iast d_Mo_strikes_47 (by assumption) (by assumption) ?_
  refine z_aload_0 d_Mo_strikes_48 ?_
  refine z_getR d_Mo_strikes_49 f_Mo_35 (by assumption) (by assumption) ?_
  refine z_iload_6 d_Mo_strikes_52 ?_
  refine z_bipush (a := nI 60) d_Mo_strikes_54 (by decide) ?_
  first | refine z_iaddN d_Mo_strikes_56 ?_ | refine z_iadd d_Mo_strikes_56 ?_
  refine z_iload_2 d_Mo_strikes_57 ?_
  first | refine z_iaddN d_Mo_strikes_58 ?_ | refine z_iadd d_Mo_strikes_58 ?_
  refine z_iconst (a := nI 0) d_Mo_strikes_59 (by decide) ?_
  first | refine z_iastN d_Mo_strikes_60 (by assumption) (by omega) (by decide) ?_ | refine z_iast d_Mo_strikes_60 (by assumption) (by assumption) ?_
  refine z_aload_0 d_Mo_strikes_61 ?_
  refine z_getR d_Mo_strikes_62 f_Mo_35 (by assumption) (by assumption) ?_
  refine z_iload_6 d_Mo_strikes_65 ?_
  refine z_bipush (a := nI 69) d_Mo_strikes_67 (by decide) ?_
  first | refine z_iaddN d_Mo_strikes_69 ?_ | refine z_iadd d_Mo_strikes_69 ?_
  refine z_iload_2 d_Mo_strikes_70 ?_
  first | refine z_iaddN d_Mo_strikes_71 ?_ | refine z_iadd d_Mo_strikes_71 ?_
  refine z_iconst (a := nI 1) d_Mo_strikes_72 (by decide) ?_
  refine z_iload_4 d_Mo_strikes_73 ?_
  refine z_ishl d_Mo_strikes_75 ?_
  first | refine z_iastN d_Mo_strikes_76 (by assumption) (by omega) (by decide) ?_ | refine z_iast d_Mo_strikes_76 (by assumption) (by assumption) ?_
  refine z_aload_0 d_Mo_strikes_77 ?_
  refine z_getR d_Mo_strikes_78 f_Mo_35 (by assumption) (by assumption) ?_
  refine z_iload_6 d_Mo_strikes_81 ?_
  refine z_bipush (a := nI 78) d_Mo_strikes_83 (by decide) ?_
  first | refine z_iaddN d_Mo_strikes_85 ?_ | refine z_iadd d_Mo_strikes_85 ?_
  refine z_iload_2 d_Mo_strikes_86 ?_
  first | refine z_iaddN d_Mo_strikes_87 ?_ | refine z_iadd d_Mo_strikes_87 ?_
  refine z_iconst (a := nI 0) d_Mo_strikes_88 (by decide) ?_
  first | refine z_iastN d_Mo_strikes_89 (by assumption) (by omega) (by decide) ?_ | refine z_iast d_Mo_strikes_89 (by assumption) (by assumption) ?_
  refine z_aload_0 d_Mo_strikes_90 ?_
  refine z_getR d_Mo_strikes_91 f_Mo_35 (by assumption) (by assumption) ?_
  refine z_iload_6 d_Mo_strikes_94 ?_
  refine z_iconst (a := nI 3) d_Mo_strikes_96 (by decide) ?_
  first | refine z_iaddN d_Mo_strikes_97 ?_ | refine z_iadd d_Mo_strikes_97 ?_
  refine z_iload_2 d_Mo_strikes_98 ?_
  refine z_iconst (a := nI 1) d_Mo_strikes_99 (by decide) ?_
  first | refine z_iaddN d_Mo_strikes_100 ?_ | refine z_iadd d_Mo_strikes_100 ?_
  first | refine z_iastN d_Mo_strikes_101 (by assumption) (by omega) (by decide) ?_ | refine z_iast d_Mo_strikes_101 (by assumption) (by assumption) ?_
  refine z_retv d_Mo_strikes_102 ?_
  exact rfl
theorem t_Mo_cut {k : Nat} (hk : k ≤ 3) : zEl G y_Mo_cut prog_14_method_10_code 3 (some .long) 1 [.int (nI k), .long x] (I, J, P, S) (fun r w => r = s_cut k x ∧ w = (I, J, P, S)) := by
  rcases (show k = 0 ∨ k = 1 ∨ k = 2 ∨ k = 3 by omega) with rfl | rfl | rfl | rfl
  · refine zEl_of (lv := [some (.int (nI 0)), some (.long x), none]) (by decide) rfl (Nat.le_of_ble_eq_true rfl) ?_
    refine z_iload_0 d_Mo_cut_0 ?_
    refine z_if_ne (tgt := 11) d_Mo_cut_1 (by decide) (fun h1 => ?_) (fun h1 => ?_)
    · first
      | (simp (disch := omega) only [← nI_0, nI_leI, nI_ltI, nI_eq, not_true_eq_false, not_false_eq_true] at h1; done)
      | (simp (disch := omega) only [← nI_0, nI_leI, nI_ltI, nI_eq, not_true_eq_false, not_false_eq_true] at h1; omega)
      | contradiction
      | exact absurd h1 (Int32.not_lt.mpr (by assumption))
      | exact absurd h1 (Int32.not_le.mpr (by assumption))
      | exact absurd h1 (by decide)
      | exact absurd (by decide) h1
      | ( try simp (disch := omega) only [← nI_0, nI_leI, nI_ltI, nI_eq, not_true_eq_false, not_false_eq_true] at h1
          (try have h1b := zbit_n0.mp h1); (try have h1b := zbit_p0.mp h1)
          refine z_iload_0 d_Mo_cut_11 ?_
          refine z_iconst (a := nI 1) d_Mo_cut_12 (by decide) ?_
          refine z_icmp_ne (tgt := 23) d_Mo_cut_13 (by decide) (fun h13 => ?_) (fun h13 => ?_)
          · first
            | (simp (disch := omega) only [← nI_0, nI_leI, nI_ltI, nI_eq, not_true_eq_false, not_false_eq_true] at h13; done)
            | (simp (disch := omega) only [← nI_0, nI_leI, nI_ltI, nI_eq, not_true_eq_false, not_false_eq_true] at h13; omega)
            | contradiction
            | exact absurd h13 (Int32.not_lt.mpr (by assumption))
            | exact absurd h13 (Int32.not_le.mpr (by assumption))
            | exact absurd h13 (by decide)
            | exact absurd (by decide) h13
            | ( try simp (disch := omega) only [← nI_0, nI_leI, nI_ltI, nI_eq, not_true_eq_false, not_false_eq_true] at h13
                (try have h13b := zbit_n0.mp h13); (try have h13b := zbit_p0.mp h13)
                refine z_iload_0 d_Mo_cut_23 ?_
                refine z_iconst (a := nI 2) d_Mo_cut_24 (by decide) ?_
                refine z_icmp_ne (tgt := 34) d_Mo_cut_25 (by decide) (fun h25 => ?_) (fun h25 => ?_)
                · first
                  | (simp (disch := omega) only [← nI_0, nI_leI, nI_ltI, nI_eq, not_true_eq_false, not_false_eq_true] at h25; done)
                  | (simp (disch := omega) only [← nI_0, nI_leI, nI_ltI, nI_eq, not_true_eq_false, not_false_eq_true] at h25; omega)
                  | contradiction
                  | exact absurd h25 (Int32.not_lt.mpr (by assumption))
                  | exact absurd h25 (Int32.not_le.mpr (by assumption))
                  | exact absurd h25 (by decide)
                  | exact absurd (by decide) h25
                  | ( try simp (disch := omega) only [← nI_0, nI_leI, nI_ltI, nI_eq, not_true_eq_false, not_false_eq_true] at h25
                      (try have h25b := zbit_n0.mp h25); (try have h25b := zbit_p0.mp h25)
                      refine z_lload_1 d_Mo_cut_34 ?_
                      refine z_retl d_Mo_cut_35 ?_
                      exact ⟨rfl, rfl⟩)
                · first
                  | (simp (disch := omega) only [← nI_0, nI_leI, nI_ltI, nI_eq, not_true_eq_false, not_false_eq_true] at h25; done)
                  | (simp (disch := omega) only [← nI_0, nI_leI, nI_ltI, nI_eq, not_true_eq_false, not_false_eq_true] at h25; omega)
                  | contradiction
                  | exact absurd h25 (Int32.not_lt.mpr (by assumption))
                  | exact absurd h25 (Int32.not_le.mpr (by assumption))
                  | exact absurd h25 (by decide)
                  | exact absurd (by decide) h25
                  | ( try simp (disch := omega) only [← nI_0, nI_leI, nI_ltI, nI_eq, not_true_eq_false, not_false_eq_true] at h25
                      (try have h25b := zbit_n0.mp h25); (try have h25b := zbit_p0.mp h25)
                      refine z_lload_1 d_Mo_cut_28 ?_
                      refine z_l2i d_Mo_cut_29 ?_
                      refine z_i2l d_Mo_cut_30 ?_
                      refine z_goto (tgt := 35) d_Mo_cut_31 (by decide) ?_
                      refine z_retl d_Mo_cut_35 ?_
                      exact ⟨rfl, rfl⟩))
          · first
            | (simp (disch := omega) only [← nI_0, nI_leI, nI_ltI, nI_eq, not_true_eq_false, not_false_eq_true] at h13; done)
            | (simp (disch := omega) only [← nI_0, nI_leI, nI_ltI, nI_eq, not_true_eq_false, not_false_eq_true] at h13; omega)
            | contradiction
            | exact absurd h13 (Int32.not_lt.mpr (by assumption))
            | exact absurd h13 (Int32.not_le.mpr (by assumption))
            | exact absurd h13 (by decide)
            | exact absurd (by decide) h13
            | ( try simp (disch := omega) only [← nI_0, nI_leI, nI_ltI, nI_eq, not_true_eq_false, not_false_eq_true] at h13
                (try have h13b := zbit_n0.mp h13); (try have h13b := zbit_p0.mp h13)
                refine z_lload_1 d_Mo_cut_16 ?_
                refine z_l2i d_Mo_cut_17 ?_
                refine z_i2s d_Mo_cut_18 ?_
                refine z_i2l d_Mo_cut_19 ?_
                refine z_goto (tgt := 35) d_Mo_cut_20 (by decide) ?_
                refine z_retl d_Mo_cut_35 ?_
                exact ⟨rfl, rfl⟩))
    · first
      | (simp (disch := omega) only [← nI_0, nI_leI, nI_ltI, nI_eq, not_true_eq_false, not_false_eq_true] at h1; done)
      | (simp (disch := omega) only [← nI_0, nI_leI, nI_ltI, nI_eq, not_true_eq_false, not_false_eq_true] at h1; omega)
      | contradiction
      | exact absurd h1 (Int32.not_lt.mpr (by assumption))
      | exact absurd h1 (Int32.not_le.mpr (by assumption))
      | exact absurd h1 (by decide)
      | exact absurd (by decide) h1
      | ( try simp (disch := omega) only [← nI_0, nI_leI, nI_ltI, nI_eq, not_true_eq_false, not_false_eq_true] at h1
          (try have h1b := zbit_n0.mp h1); (try have h1b := zbit_p0.mp h1)
          refine z_lload_1 d_Mo_cut_4 ?_
          refine z_l2i d_Mo_cut_5 ?_
          refine z_i2b d_Mo_cut_6 ?_
          refine z_i2l d_Mo_cut_7 ?_
          refine z_goto (tgt := 35) d_Mo_cut_8 (by decide) ?_
          refine z_retl d_Mo_cut_35 ?_
          exact ⟨rfl, rfl⟩)
  · refine zEl_of (lv := [some (.int (nI 1)), some (.long x), none]) (by decide) rfl (Nat.le_of_ble_eq_true rfl) ?_
    refine z_iload_0 d_Mo_cut_0 ?_
    refine z_if_ne (tgt := 11) d_Mo_cut_1 (by decide) (fun h1 => ?_) (fun h1 => ?_)
    · first
      | (simp (disch := omega) only [← nI_0, nI_leI, nI_ltI, nI_eq, not_true_eq_false, not_false_eq_true] at h1; done)
      | (simp (disch := omega) only [← nI_0, nI_leI, nI_ltI, nI_eq, not_true_eq_false, not_false_eq_true] at h1; omega)
      | contradiction
      | exact absurd h1 (Int32.not_lt.mpr (by assumption))
      | exact absurd h1 (Int32.not_le.mpr (by assumption))
      | exact absurd h1 (by decide)
      | exact absurd (by decide) h1
      | ( try simp (disch := omega) only [← nI_0, nI_leI, nI_ltI, nI_eq, not_true_eq_false, not_false_eq_true] at h1
          (try have h1b := zbit_n0.mp h1); (try have h1b := zbit_p0.mp h1)
          refine z_iload_0 d_Mo_cut_11 ?_
          refine z_iconst (a := nI 1) d_Mo_cut_12 (by decide) ?_
          refine z_icmp_ne (tgt := 23) d_Mo_cut_13 (by decide) (fun h13 => ?_) (fun h13 => ?_)
          · first
            | (simp (disch := omega) only [← nI_0, nI_leI, nI_ltI, nI_eq, not_true_eq_false, not_false_eq_true] at h13; done)
            | (simp (disch := omega) only [← nI_0, nI_leI, nI_ltI, nI_eq, not_true_eq_false, not_false_eq_true] at h13; omega)
            | contradiction
            | exact absurd h13 (Int32.not_lt.mpr (by assumption))
            | exact absurd h13 (Int32.not_le.mpr (by assumption))
            | exact absurd h13 (by decide)
            | exact absurd (by decide) h13
            | ( try simp (disch := omega) only [← nI_0, nI_leI, nI_ltI, nI_eq, not_true_eq_false, not_false_eq_true] at h13
                (try have h13b := zbit_n0.mp h13); (try have h13b := zbit_p0.mp h13)
                refine z_iload_0 d_Mo_cut_23 ?_
                refine z_iconst (a := nI 2) d_Mo_cut_24 (by decide) ?_
                refine z_icmp_ne (tgt := 34) d_Mo_cut_25 (by decide) (fun h25 => ?_) (fun h25 => ?_)
                · first
                  | (simp (disch := omega) only [← nI_0, nI_leI, nI_ltI, nI_eq, not_true_eq_false, not_false_eq_true] at h25; done)
                  | (simp (disch := omega) only [← nI_0, nI_leI, nI_ltI, nI_eq, not_true_eq_false, not_false_eq_true] at h25; omega)
                  | contradiction
                  | exact absurd h25 (Int32.not_lt.mpr (by assumption))
                  | exact absurd h25 (Int32.not_le.mpr (by assumption))
                  | exact absurd h25 (by decide)
                  | exact absurd (by decide) h25
                  | ( try simp (disch := omega) only [← nI_0, nI_leI, nI_ltI, nI_eq, not_true_eq_false, not_false_eq_true] at h25
                      (try have h25b := zbit_n0.mp h25); (try have h25b := zbit_p0.mp h25)
                      refine z_lload_1 d_Mo_cut_34 ?_
                      refine z_retl d_Mo_cut_35 ?_
                      exact ⟨rfl, rfl⟩)
                · first
                  | (simp (disch := omega) only [← nI_0, nI_leI, nI_ltI, nI_eq, not_true_eq_false, not_false_eq_true] at h25; done)
                  | (simp (disch := omega) only [← nI_0, nI_leI, nI_ltI, nI_eq, not_true_eq_false, not_false_eq_true] at h25; omega)
                  | contradiction
                  | exact absurd h25 (Int32.not_lt.mpr (by assumption))
                  | exact absurd h25 (Int32.not_le.mpr (by assumption))
                  | exact absurd h25 (by decide)
                  | exact absurd (by decide) h25
                  | ( try simp (disch := omega) only [← nI_0, nI_leI, nI_ltI, nI_eq, not_true_eq_false, not_false_eq_true] at h25
                      (try have h25b := zbit_n0.mp h25); (try have h25b := zbit_p0.mp h25)
                      refine z_lload_1 d_Mo_cut_28 ?_
                      refine z_l2i d_Mo_cut_29 ?_
                      refine z_i2l d_Mo_cut_30 ?_
                      refine z_goto (tgt := 35) d_Mo_cut_31 (by decide) ?_
                      refine z_retl d_Mo_cut_35 ?_
                      exact ⟨rfl, rfl⟩))
          · first
            | (simp (disch := omega) only [← nI_0, nI_leI, nI_ltI, nI_eq, not_true_eq_false, not_false_eq_true] at h13; done)
            | (simp (disch := omega) only [← nI_0, nI_leI, nI_ltI, nI_eq, not_true_eq_false, not_false_eq_true] at h13; omega)
            | contradiction
            | exact absurd h13 (Int32.not_lt.mpr (by assumption))
            | exact absurd h13 (Int32.not_le.mpr (by assumption))
            | exact absurd h13 (by decide)
            | exact absurd (by decide) h13
            | ( try simp (disch := omega) only [← nI_0, nI_leI, nI_ltI, nI_eq, not_true_eq_false, not_false_eq_true] at h13
                (try have h13b := zbit_n0.mp h13); (try have h13b := zbit_p0.mp h13)
                refine z_lload_1 d_Mo_cut_16 ?_
                refine z_l2i d_Mo_cut_17 ?_
                refine z_i2s d_Mo_cut_18 ?_
                refine z_i2l d_Mo_cut_19 ?_
                refine z_goto (tgt := 35) d_Mo_cut_20 (by decide) ?_
                refine z_retl d_Mo_cut_35 ?_
                exact ⟨rfl, rfl⟩))
    · first
      | (simp (disch := omega) only [← nI_0, nI_leI, nI_ltI, nI_eq, not_true_eq_false, not_false_eq_true] at h1; done)
      | (simp (disch := omega) only [← nI_0, nI_leI, nI_ltI, nI_eq, not_true_eq_false, not_false_eq_true] at h1; omega)
      | contradiction
      | exact absurd h1 (Int32.not_lt.mpr (by assumption))
      | exact absurd h1 (Int32.not_le.mpr (by assumption))
      | exact absurd h1 (by decide)
      | exact absurd (by decide) h1
      | ( try simp (disch := omega) only [← nI_0, nI_leI, nI_ltI, nI_eq, not_true_eq_false, not_false_eq_true] at h1
          (try have h1b := zbit_n0.mp h1); (try have h1b := zbit_p0.mp h1)
          refine z_lload_1 d_Mo_cut_4 ?_
          refine z_l2i d_Mo_cut_5 ?_
          refine z_i2b d_Mo_cut_6 ?_
          refine z_i2l d_Mo_cut_7 ?_
          refine z_goto (tgt := 35) d_Mo_cut_8 (by decide) ?_
          refine z_retl d_Mo_cut_35 ?_
          exact ⟨rfl, rfl⟩)
  · refine zEl_of (lv := [some (.int (nI 2)), some (.long x), none]) (by decide) rfl (Nat.le_of_ble_eq_true rfl) ?_
    refine z_iload_0 d_Mo_cut_0 ?_
    refine z_if_ne (tgt := 11) d_Mo_cut_1 (by decide) (fun h1 => ?_) (fun h1 => ?_)
    · first
      | (simp (disch := omega) only [← nI_0, nI_leI, nI_ltI, nI_eq, not_true_eq_false, not_false_eq_true] at h1; done)
      | (simp (disch := omega) only [← nI_0, nI_leI, nI_ltI, nI_eq, not_true_eq_false, not_false_eq_true] at h1; omega)
      | contradiction
      | exact absurd h1 (Int32.not_lt.mpr (by assumption))
      | exact absurd h1 (Int32.not_le.mpr (by assumption))
      | exact absurd h1 (by decide)
      | exact absurd (by decide) h1
      | ( try simp (disch := omega) only [← nI_0, nI_leI, nI_ltI, nI_eq, not_true_eq_false, not_false_eq_true] at h1
          (try have h1b := zbit_n0.mp h1); (try have h1b := zbit_p0.mp h1)
          refine z_iload_0 d_Mo_cut_11 ?_
          refine z_iconst (a := nI 1) d_Mo_cut_12 (by decide) ?_
          refine z_icmp_ne (tgt := 23) d_Mo_cut_13 (by decide) (fun h13 => ?_) (fun h13 => ?_)
          · first
            | (simp (disch := omega) only [← nI_0, nI_leI, nI_ltI, nI_eq, not_true_eq_false, not_false_eq_true] at h13; done)
            | (simp (disch := omega) only [← nI_0, nI_leI, nI_ltI, nI_eq, not_true_eq_false, not_false_eq_true] at h13; omega)
            | contradiction
            | exact absurd h13 (Int32.not_lt.mpr (by assumption))
            | exact absurd h13 (Int32.not_le.mpr (by assumption))
            | exact absurd h13 (by decide)
            | exact absurd (by decide) h13
            | ( try simp (disch := omega) only [← nI_0, nI_leI, nI_ltI, nI_eq, not_true_eq_false, not_false_eq_true] at h13
                (try have h13b := zbit_n0.mp h13); (try have h13b := zbit_p0.mp h13)
                refine z_iload_0 d_Mo_cut_23 ?_
                refine z_iconst (a := nI 2) d_Mo_cut_24 (by decide) ?_
                refine z_icmp_ne (tgt := 34) d_Mo_cut_25 (by decide) (fun h25 => ?_) (fun h25 => ?_)
                · first
                  | (simp (disch := omega) only [← nI_0, nI_leI, nI_ltI, nI_eq, not_true_eq_false, not_false_eq_true] at h25; done)
                  | (simp (disch := omega) only [← nI_0, nI_leI, nI_ltI, nI_eq, not_true_eq_false, not_false_eq_true] at h25; omega)
                  | contradiction
                  | exact absurd h25 (Int32.not_lt.mpr (by assumption))
                  | exact absurd h25 (Int32.not_le.mpr (by assumption))
                  | exact absurd h25 (by decide)
                  | exact absurd (by decide) h25
                  | ( try simp (disch := omega) only [← nI_0, nI_leI, nI_ltI, nI_eq, not_true_eq_false, not_false_eq_true] at h25
                      (try have h25b := zbit_n0.mp h25); (try have h25b := zbit_p0.mp h25)
                      refine z_lload_1 d_Mo_cut_34 ?_
                      refine z_retl d_Mo_cut_35 ?_
                      exact ⟨rfl, rfl⟩)
                · first
                  | (simp (disch := omega) only [← nI_0, nI_leI, nI_ltI, nI_eq, not_true_eq_false, not_false_eq_true] at h25; done)
                  | (simp (disch := omega) only [← nI_0, nI_leI, nI_ltI, nI_eq, not_true_eq_false, not_false_eq_true] at h25; omega)
                  | contradiction
                  | exact absurd h25 (Int32.not_lt.mpr (by assumption))
                  | exact absurd h25 (Int32.not_le.mpr (by assumption))
                  | exact absurd h25 (by decide)
                  | exact absurd (by decide) h25
                  | ( try simp (disch := omega) only [← nI_0, nI_leI, nI_ltI, nI_eq, not_true_eq_false, not_false_eq_true] at h25
                      (try have h25b := zbit_n0.mp h25); (try have h25b := zbit_p0.mp h25)
                      refine z_lload_1 d_Mo_cut_28 ?_
                      refine z_l2i d_Mo_cut_29 ?_
                      refine z_i2l d_Mo_cut_30 ?_
                      refine z_goto (tgt := 35) d_Mo_cut_31 (by decide) ?_
                      refine z_retl d_Mo_cut_35 ?_
                      exact ⟨rfl, rfl⟩))
          · first
            | (simp (disch := omega) only [← nI_0, nI_leI, nI_ltI, nI_eq, not_true_eq_false, not_false_eq_true] at h13; done)
            | (simp (disch := omega) only [← nI_0, nI_leI, nI_ltI, nI_eq, not_true_eq_false, not_false_eq_true] at h13; omega)
            | contradiction
            | exact absurd h13 (Int32.not_lt.mpr (by assumption))
            | exact absurd h13 (Int32.not_le.mpr (by assumption))
            | exact absurd h13 (by decide)
            | exact absurd (by decide) h13
            | ( try simp (disch := omega) only [← nI_0, nI_leI, nI_ltI, nI_eq, not_true_eq_false, not_false_eq_true] at h13
                (try have h13b := zbit_n0.mp h13); (try have h13b := zbit_p0.mp h13)
                refine z_lload_1 d_Mo_cut_16 ?_
                refine z_l2i d_Mo_cut_17 ?_
                refine z_i2s d_Mo_cut_18 ?_
                refine z_i2l d_Mo_cut_19 ?_
                refine z_goto (tgt := 35) d_Mo_cut_20 (by decide) ?_
                refine z_retl d_Mo_cut_35 ?_
                exact ⟨rfl, rfl⟩))
    · first
      | (simp (disch := omega) only [← nI_0, nI_leI, nI_ltI, nI_eq, not_true_eq_false, not_false_eq_true] at h1; done)
      | (simp (disch := omega) only [← nI_0, nI_leI, nI_ltI, nI_eq, not_true_eq_false, not_false_eq_true] at h1; omega)
      | contradiction
      | exact absurd h1 (Int32.not_lt.mpr (by assumption))
      | exact absurd h1 (Int32.not_le.mpr (by assumption))
      | exact absurd h1 (by decide)
      | exact absurd (by decide) h1
      | ( try simp (disch := omega) only [← nI_0, nI_leI, nI_ltI, nI_eq, not_true_eq_false, not_false_eq_true] at h1
          (try have h1b := zbit_n0.mp h1); (try have h1b := zbit_p0.mp h1)
          refine z_lload_1 d_Mo_cut_4 ?_
          refine z_l2i d_Mo_cut_5 ?_
          refine z_i2b d_Mo_cut_6 ?_
          refine z_i2l d_Mo_cut_7 ?_
          refine z_goto (tgt := 35) d_Mo_cut_8 (by decide) ?_
          refine z_retl d_Mo_cut_35 ?_
          exact ⟨rfl, rfl⟩)
  · refine zEl_of (lv := [some (.int (nI 3)), some (.long x), none]) (by decide) rfl (Nat.le_of_ble_eq_true rfl) ?_
    refine z_iload_0 d_Mo_cut_0 ?_
    refine z_if_ne (tgt := 11) d_Mo_cut_1 (by decide) (fun h1 => ?_) (fun h1 => ?_)
    · first
      | (simp (disch := omega) only [← nI_0, nI_leI, nI_ltI, nI_eq, not_true_eq_false, not_false_eq_true] at h1; done)
      | (simp (disch := omega) only [← nI_0, nI_leI, nI_ltI, nI_eq, not_true_eq_false, not_false_eq_true] at h1; omega)
      | contradiction
      | exact absurd h1 (Int32.not_lt.mpr (by assumption))
      | exact absurd h1 (Int32.not_le.mpr (by assumption))
      | exact absurd h1 (by decide)
      | exact absurd (by decide) h1
      | ( try simp (disch := omega) only [← nI_0, nI_leI, nI_ltI, nI_eq, not_true_eq_false, not_false_eq_true] at h1
          (try have h1b := zbit_n0.mp h1); (try have h1b := zbit_p0.mp h1)
          refine z_iload_0 d_Mo_cut_11 ?_
          refine z_iconst (a := nI 1) d_Mo_cut_12 (by decide) ?_
          refine z_icmp_ne (tgt := 23) d_Mo_cut_13 (by decide) (fun h13 => ?_) (fun h13 => ?_)
          · first
            | (simp (disch := omega) only [← nI_0, nI_leI, nI_ltI, nI_eq, not_true_eq_false, not_false_eq_true] at h13; done)
            | (simp (disch := omega) only [← nI_0, nI_leI, nI_ltI, nI_eq, not_true_eq_false, not_false_eq_true] at h13; omega)
            | contradiction
            | exact absurd h13 (Int32.not_lt.mpr (by assumption))
            | exact absurd h13 (Int32.not_le.mpr (by assumption))
            | exact absurd h13 (by decide)
            | exact absurd (by decide) h13
            | ( try simp (disch := omega) only [← nI_0, nI_leI, nI_ltI, nI_eq, not_true_eq_false, not_false_eq_true] at h13
                (try have h13b := zbit_n0.mp h13); (try have h13b := zbit_p0.mp h13)
                refine z_iload_0 d_Mo_cut_23 ?_
                refine z_iconst (a := nI 2) d_Mo_cut_24 (by decide) ?_
                refine z_icmp_ne (tgt := 34) d_Mo_cut_25 (by decide) (fun h25 => ?_) (fun h25 => ?_)
                · first
                  | (simp (disch := omega) only [← nI_0, nI_leI, nI_ltI, nI_eq, not_true_eq_false, not_false_eq_true] at h25; done)
                  | (simp (disch := omega) only [← nI_0, nI_leI, nI_ltI, nI_eq, not_true_eq_false, not_false_eq_true] at h25; omega)
                  | contradiction
                  | exact absurd h25 (Int32.not_lt.mpr (by assumption))
                  | exact absurd h25 (Int32.not_le.mpr (by assumption))
                  | exact absurd h25 (by decide)
                  | exact absurd (by decide) h25
                  | ( try simp (disch := omega) only [← nI_0, nI_leI, nI_ltI, nI_eq, not_true_eq_false, not_false_eq_true] at h25
                      (try have h25b := zbit_n0.mp h25); (try have h25b := zbit_p0.mp h25)
                      refine z_lload_1 d_Mo_cut_34 ?_
                      refine z_retl d_Mo_cut_35 ?_
                      exact ⟨rfl, rfl⟩)
                · first
                  | (simp (disch := omega) only [← nI_0, nI_leI, nI_ltI, nI_eq, not_true_eq_false, not_false_eq_true] at h25; done)
                  | (simp (disch := omega) only [← nI_0, nI_leI, nI_ltI, nI_eq, not_true_eq_false, not_false_eq_true] at h25; omega)
                  | contradiction
                  | exact absurd h25 (Int32.not_lt.mpr (by assumption))
                  | exact absurd h25 (Int32.not_le.mpr (by assumption))
                  | exact absurd h25 (by decide)
                  | exact absurd (by decide) h25
                  | ( try simp (disch := omega) only [← nI_0, nI_leI, nI_ltI, nI_eq, not_true_eq_false, not_false_eq_true] at h25
                      (try have h25b := zbit_n0.mp h25); (try have h25b := zbit_p0.mp h25)
                      refine z_lload_1 d_Mo_cut_28 ?_
                      refine z_l2i d_Mo_cut_29 ?_
                      refine z_i2l d_Mo_cut_30 ?_
                      refine z_goto (tgt := 35) d_Mo_cut_31 (by decide) ?_
                      refine z_retl d_Mo_cut_35 ?_
                      exact ⟨rfl, rfl⟩))
          · first
            | (simp (disch := omega) only [← nI_0, nI_leI, nI_ltI, nI_eq, not_true_eq_false, not_false_eq_true] at h13; done)
            | (simp (disch := omega) only [← nI_0, nI_leI, nI_ltI, nI_eq, not_true_eq_false, not_false_eq_true] at h13; omega)
            | contradiction
            | exact absurd h13 (Int32.not_lt.mpr (by assumption))
            | exact absurd h13 (Int32.not_le.mpr (by assumption))
            | exact absurd h13 (by decide)
            | exact absurd (by decide) h13
            | ( try simp (disch := omega) only [← nI_0, nI_leI, nI_ltI, nI_eq, not_true_eq_false, not_false_eq_true] at h13
                (try have h13b := zbit_n0.mp h13); (try have h13b := zbit_p0.mp h13)
                refine z_lload_1 d_Mo_cut_16 ?_
                refine z_l2i d_Mo_cut_17 ?_
                refine z_i2s d_Mo_cut_18 ?_
                refine z_i2l d_Mo_cut_19 ?_
                refine z_goto (tgt := 35) d_Mo_cut_20 (by decide) ?_
                refine z_retl d_Mo_cut_35 ?_
                exact ⟨rfl, rfl⟩))
    · first
      | (simp (disch := omega) only [← nI_0, nI_leI, nI_ltI, nI_eq, not_true_eq_false, not_false_eq_true] at h1; done)
      | (simp (disch := omega) only [← nI_0, nI_leI, nI_ltI, nI_eq, not_true_eq_false, not_false_eq_true] at h1; omega)
      | contradiction
      | exact absurd h1 (Int32.not_lt.mpr (by assumption))
      | exact absurd h1 (Int32.not_le.mpr (by assumption))
      | exact absurd h1 (by decide)
      | exact absurd (by decide) h1
      | ( try simp (disch := omega) only [← nI_0, nI_leI, nI_ltI, nI_eq, not_true_eq_false, not_false_eq_true] at h1
          (try have h1b := zbit_n0.mp h1); (try have h1b := zbit_p0.mp h1)
          refine z_lload_1 d_Mo_cut_4 ?_
          refine z_l2i d_Mo_cut_5 ?_
          refine z_i2b d_Mo_cut_6 ?_
          refine z_i2l d_Mo_cut_7 ?_
          refine z_goto (tgt := 35) d_Mo_cut_8 (by decide) ?_
          refine z_retl d_Mo_cut_35 ?_
          exact ⟨rfl, rfl⟩)
theorem t_Mo_isTray : zEi G y_Mo_isTray prog_14_method_18_code 2 (some .boolean) 2 [.ref 145, .int a] (I, J, P, S) (fun r w => (zin a 4 ∧ r = nI 1 ∨ ¬ zin a 4 ∧ r = nI 0) ∧ w = (I, J, P, S)) := by
  have hx : (lN 0 ≤ a.toInt64 ∧ a.toInt64 ≤ 3) ↔ zin a 4 := by
    rw [← isInI (by decide)]
    have e : (nI 4 - nI 1).toInt64 = 3 := by decide
    rw [e]
  refine zEi_of (lv := [some (.ref 145), some (.int a)]) (by decide) rfl (Nat.le_of_ble_eq_true rfl) ?_
  refine z_iload_1 d_Mo_isTray_0 ?_
  refine z_i2l d_Mo_isTray_1 ?_
  refine z_lconst (f := lN 0) d_Mo_isTray_2 rfl ?_
  refine z_ldc2 d_Mo_isTray_3 c_Mo_103 ?_
  refine z_Si3 d_Mo_isTray_6 k_Mo_105 (t_Mo_isIn) ⟨Nat.le_of_ble_eq_true rfl, Nat.le_of_ble_eq_true rfl, Nat.le_of_ble_eq_true rfl, Nat.le_of_ble_eq_true rfl⟩ (Nat.le_of_ble_eq_true rfl) ?_
  intro r w hq
  rcases hq with ⟨⟨hz6, rfl⟩ | ⟨hz6, rfl⟩, rfl⟩
  · first
    | contradiction
    | ( skip
        refine z_retz d_Mo_isTray_9 (by first | exact zb0 | exact zb1 | assumption) ?_
        first | exact ⟨Or.inl ⟨hx.mp (by assumption), rfl⟩, rfl⟩ | exact ⟨Or.inr ⟨fun q => absurd (hx.mpr q) (by assumption), rfl⟩, rfl⟩)
  · first
    | contradiction
    | ( skip
        refine z_retz d_Mo_isTray_9 (by first | exact zb0 | exact zb1 | assumption) ?_
        first | exact ⟨Or.inl ⟨hx.mp (by assumption), rfl⟩, rfl⟩ | exact ⟨Or.inr ⟨fun q => absurd (hx.mpr q) (by assumption), rfl⟩, rfl⟩)
theorem t_Mo_numberOf {t p : Nat} (M : modOk P S) (ht : t < 4) (hp : p < 60) : zEl G y_Mo_numberOf prog_14_method_17_code 3 (some .long) 1 [.ref 145, .int (nI t), .int (nI p)] (I, J, P, S) (fun r w => r = J 148 (60 * t + p) ∧ w = (I, J, P, S)) := by
  obtain ⟨M0, ⟨M4, M4s⟩, ⟨M5, M5s⟩, ⟨M6, M6s⟩, ⟨M7, M7s⟩, ⟨M20, M20s⟩, ⟨M21, M21s⟩, ⟨M22, M22s⟩, ⟨M26, M26s⟩, ⟨M27, M27s⟩, ⟨M28, M28s⟩, ⟨M30, M30s⟩, ⟨M34, M34s⟩, ⟨M36, M36s⟩, ⟨M37, M37s⟩⟩ := id M
  refine zEl_of (lv := [some (.ref 145), some (.int (nI t)), some (.int (nI p))]) (by decide) rfl (Nat.le_of_ble_eq_true rfl) ?_
  refine z_aload_0 d_Mo_numberOf_0 ?_
  refine z_getR d_Mo_numberOf_1 f_Mo_20 (by assumption) (by assumption) ?_
  refine z_bipush (a := nI 60) d_Mo_numberOf_4 (by decide) ?_
  refine z_iload_1 d_Mo_numberOf_6 ?_
  first | refine z_imulN d_Mo_numberOf_7 ?_ | refine z_imul d_Mo_numberOf_7 ?_
  refine z_iload_2 d_Mo_numberOf_8 ?_
  first | refine z_iaddN d_Mo_numberOf_9 ?_ | refine z_iadd d_Mo_numberOf_9 ?_
  first | refine z_laldNv d_Mo_numberOf_10 (by assumption) (by omega) (by decide) (by first | assumption | ((try simp (disch := omega) only [zu_same, zu_ne, zcp_ne, zfl_ne]); first | assumption | rfl)) ?_ | refine z_lald d_Mo_numberOf_10 (by assumption) (by assumption) ?_
  refine z_retl d_Mo_numberOf_11 ?_
  exact ⟨rfl, rfl⟩
/-- the draw -/
def s_rnd1 (s : Nat) : Nat := (s * 2971 + 10891) % 65536
theorem irem_N {m n : Nat} (hm : m < 2 ^ 31) (h0 : 0 < n) (hn : n < 2 ^ 31) : nI m - nI m / nI n * nI n = nI (m % n) := pk_rem hm h0 hn
theorem t_Mo_draw {s n : Nat} (M : modOk P S) (h1 : I 145 40 = nI s) (hs : s < 65536) (hn : 0 < n) (hn2 : n ≤ 16) : zEi G y_Mo_draw prog_14_method_140_code 2 (some .int) 1 [.ref 145, .int (nI n)] (I, J, P, S) (fun r w => r = nI (s_rnd1 s / 8 % n) ∧ w = (zu I 145 40 (nI (s_rnd1 s)), J, P, S)) := by
  obtain ⟨M0, ⟨M4, M4s⟩, ⟨M5, M5s⟩, ⟨M6, M6s⟩, ⟨M7, M7s⟩, ⟨M20, M20s⟩, ⟨M21, M21s⟩, ⟨M22, M22s⟩, ⟨M26, M26s⟩, ⟨M27, M27s⟩, ⟨M28, M28s⟩, ⟨M30, M30s⟩, ⟨M34, M34s⟩, ⟨M36, M36s⟩, ⟨M37, M37s⟩⟩ := id M
  have e1 : (65536 : Int32) = nI 65536 := by decide
  have hne : ¬ nI n = 0 := nI_ne0 hn (by omega)
  have hr : s_rnd1 s < 65536 := Nat.mod_lt _ (by decide)
  refine zEi_of (lv := [some (.ref 145), some (.int (nI n))]) (by decide) rfl (Nat.le_of_ble_eq_true rfl) ?_
  refine z_aload_0 d_Mo_draw_0 ?_
  refine z_aload_0 d_Mo_draw_1 ?_
  refine z_getIv d_Mo_draw_2 f_Mo_460 (by assumption) (by first | assumption | ((try simp (disch := omega) only [zu_same, zu_ne, zcp_ne, zfl_ne]); first | assumption | rfl)) ?_
  refine z_sipush (a := nI 2971) d_Mo_draw_5 (by decide) ?_
  first | refine z_imulN d_Mo_draw_8 ?_ | refine z_imul d_Mo_draw_8 ?_
  refine z_sipush (a := nI 10891) d_Mo_draw_9 (by decide) ?_
  first | refine z_iaddN d_Mo_draw_12 ?_ | refine z_iadd d_Mo_draw_12 ?_
  refine z_ldcw d_Mo_draw_13 c_Mo_463 ?_
  rw [e1]
  refine z_irem (by decide) d_Mo_draw_16 ?_
  rw [irem_N (by omega) (by decide) (by decide), show (s * 2971 + 10891) % 65536 = s_rnd1 s from rfl]
  generalize s_rnd1 s = z at hr ⊢
  refine z_putI d_Mo_draw_17 f_Mo_460 (by assumption) ?_
  refine z_aload_0 d_Mo_draw_20 ?_
  refine z_getIv d_Mo_draw_21 f_Mo_460 (by assumption) (zu_same _ _ _ _) ?_
  refine z_bipush (a := nI 8) d_Mo_draw_24 (by decide) ?_
  refine z_idiv (by decide) d_Mo_draw_26 ?_
  rw [pk_div (by omega) (by decide) (by decide)]
  refine z_iload_1 d_Mo_draw_27 ?_
  refine z_irem hne d_Mo_draw_28 ?_
  rw [irem_N (by omega) hn (by omega)]
  refine z_reti d_Mo_draw_29 ?_
  exact ⟨rfl, rfl⟩
end M3
