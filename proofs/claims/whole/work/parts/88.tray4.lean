/-! trays, both sides: copyGot, pour -/
section TY3
variable {G : zG} {I I' I2 : Nat → Nat → Int32} {J J' J2 : Nat → Nat → Int64} {P : Nat → Nat → Option Nat} {S : List (Nat × Nat)} {f d nt np nl nn n fed fed' mk st t u l k p : Nat} {a b c a' b' : Int32} {x : Int64} {w : zW}
/-- a row with so many numbers, cut, from one place on -/
def s_cg (J : Nat → Nat → Int64) (q b k : Nat) (g : Nat → Int32) : Nat → Nat → Nat → Int64
  | 0 => J
  | j + 1 => zu (s_cg J q b k g j) q (b + j) (s_cut k (g j).toInt64)
theorem s_cg_row {q bb : Nat} {g : Nat → Int32} {a : Nat} (h : a ≠ q) : ∀ j, s_cg J q bb k g j a = J a := by
  intro j
  induction j with
  | zero => rfl
  | succ j ih => rw [s_cg, zu_row _ _ _ _ h, ih]
theorem s_cg_in {q bb i : Nat} {g : Nat → Int32} : ∀ j, i < j → s_cg J q bb k g j q (bb + i) = s_cut k (g i).toInt64 := by
  intro j
  induction j with
  | zero => intro h; omega
  | succ j ih =>
    intro h
    rw [s_cg]
    by_cases e : i = j
    · subst e; exact zu_same _ _ _ _
    · rw [zu_ne _ _ _ _ (by omega)]; exact ih (by omega)
theorem s_cg_out {q bb i : Nat} {g : Nat → Int32} : ∀ j, (i < bb ∨ bb + j ≤ i) → s_cg J q bb k g j q i = J q i := by
  intro j
  induction j with
  | zero => intro _; rfl
  | succ j ih =>
    intro h
    rw [s_cg, zu_ne _ _ _ _ (by omega)]
    exact ih (by omega)
theorem t_Tf_copyGot_o (Z : clOk f d P S) (h : ¬ zin a 4) : zEi G y_Tf_copyGot prog_1_method_17_code 4 (some .int) 3 [.ref 0, .int a] (I, J, P, S) (fun r w => r = -1 ∧ cW I J P S 1 w) := by
  obtain ⟨⟨c0, c3, c1s⟩, ⟨c5, c2s, ctr⟩, ⟨c6, c11s, c11, c13s⟩, ⟨c7, c15s, c15⟩, ⟨c8, c16s, c16a, c16b, c17s⟩, ⟨c9, c10, cfd, F, Fd⟩, ⟨c11b, Ft⟩, ⟨c12, c69s, cmk⟩, ⟨c14, c121s, c121, c122s⟩, ⟨c15b, c123s, c123, c124s⟩, ⟨c16, c125s, c125, c126s⟩, ⟨c17, c127s, c127, c128s, ctb⟩, ⟨c18, c139s, c139, c140s⟩, ⟨c19, c141s, ⟨c141a, c142s⟩, ⟨c141b, c143s⟩, ⟨c141c, c144s⟩⟩, M⟩ := id Z
  refine zEi_of (lv := [some (.ref 0), some (.int a), none, none]) (by decide) rfl (Nat.le_of_ble_eq_true rfl) ?_
  refine z_aload_0 d_Tf_copyGot_0 ?_
  refine z_iload_1 d_Tf_copyGot_1 ?_
  refine z_Vi1 d_Tf_copyGot_2 k_Tf_267 (by first | assumption | exact zS0_at (by assumption) (by omega) | exact zS0_at rfl (by omega)) (t_Tf_trayStatus_o Z h) ⟨Nat.le_of_ble_eq_true rfl, Nat.le_of_ble_eq_true rfl, Nat.le_of_ble_eq_true rfl, Nat.le_of_ble_eq_true rfl⟩ (Nat.le_of_ble_eq_true rfl) ?_
  intro r w hq
  obtain ⟨rfl, rfl⟩ := hq
  first | refine z_istore_2 d_Tf_copyGot_5 rfl ?_ | (refine z_forget_1 ?_; refine z_istore_2 d_Tf_copyGot_5 rfl ?_)
  refine z_iload_2 d_Tf_copyGot_6 ?_
  refine z_if_eq (tgt := 16) d_Tf_copyGot_7 (by decide) (fun h7 => ?_) (fun h7 => ?_)
  · first
    | (simp (disch := omega) only [← nI_0, nI_leI, nI_ltI, nI_eq, not_true_eq_false, not_false_eq_true] at h7; done)
    | (simp (disch := omega) only [← nI_0, nI_leI, nI_ltI, nI_eq, not_true_eq_false, not_false_eq_true] at h7; omega)
    | contradiction
    | exact absurd h7 (Int32.not_lt.mpr (by assumption))
    | exact absurd h7 (Int32.not_le.mpr (by assumption))
    | exact absurd h7 (by decide)
    | exact absurd (by decide) h7
    | ( try simp (disch := omega) only [← nI_0, nI_leI, nI_ltI, nI_eq, not_true_eq_false, not_false_eq_true] at h7
        (try have h7b := zbit_n0.mp h7); (try have h7b := zbit_p0.mp h7)
        fail)
  · first
    | (simp (disch := omega) only [← nI_0, nI_leI, nI_ltI, nI_eq, not_true_eq_false, not_false_eq_true] at h7; done)
    | (simp (disch := omega) only [← nI_0, nI_leI, nI_ltI, nI_eq, not_true_eq_false, not_false_eq_true] at h7; omega)
    | contradiction
    | exact absurd h7 (Int32.not_lt.mpr (by assumption))
    | exact absurd h7 (Int32.not_le.mpr (by assumption))
    | exact absurd h7 (by decide)
    | exact absurd (by decide) h7
    | ( try simp (disch := omega) only [← nI_0, nI_leI, nI_ltI, nI_eq, not_true_eq_false, not_false_eq_true] at h7
        (try have h7b := zbit_n0.mp h7); (try have h7b := zbit_p0.mp h7)
        refine z_aload_0 d_Tf_copyGot_10 ?_
        refine z_iload_2 d_Tf_copyGot_11 ?_
        refine z_Vi1 d_Tf_copyGot_12 k_Tf_138 (by first | assumption | exact zS0_at (by assumption) (by omega) | exact zS0_at rfl (by omega)) (t_Tf_fail (by assumption)) ⟨Nat.le_of_ble_eq_true rfl, Nat.le_of_ble_eq_true rfl, Nat.le_of_ble_eq_true rfl, Nat.le_of_ble_eq_true rfl⟩ (Nat.le_of_ble_eq_true rfl) ?_
        intro r w hq
        obtain ⟨rfl, rfl⟩ := hq
        refine z_reti d_Tf_copyGot_15 ?_
        exact ⟨rfl, cW_0⟩)
theorem t_Tf_copyGot_m (Z : clOk f d P S) (ht : t < 4) (h0 : I (3 + 2 * t) 0 = nI 0) : zEi G y_Tf_copyGot prog_1_method_17_code 4 (some .int) 3 [.ref 0, .int (nI t)] (I, J, P, S) (fun r w => r = -1 ∧ cW I J P S 3 w) := by
  obtain ⟨⟨c0, c3, c1s⟩, ⟨c5, c2s, ctr⟩, ⟨c6, c11s, c11, c13s⟩, ⟨c7, c15s, c15⟩, ⟨c8, c16s, c16a, c16b, c17s⟩, ⟨c9, c10, cfd, F, Fd⟩, ⟨c11b, Ft⟩, ⟨c12, c69s, cmk⟩, ⟨c14, c121s, c121, c122s⟩, ⟨c15b, c123s, c123, c124s⟩, ⟨c16, c125s, c125, c126s⟩, ⟨c17, c127s, c127, c128s, ctb⟩, ⟨c18, c139s, c139, c140s⟩, ⟨c19, c141s, ⟨c141a, c142s⟩, ⟨c141b, c143s⟩, ⟨c141c, c144s⟩⟩, M⟩ := id Z
  refine zEi_of (lv := [some (.ref 0), some (.int (nI t)), none, none]) (by decide) rfl (Nat.le_of_ble_eq_true rfl) ?_
  refine z_aload_0 d_Tf_copyGot_0 ?_
  refine z_iload_1 d_Tf_copyGot_1 ?_
  refine z_Vi1 d_Tf_copyGot_2 k_Tf_267 (by first | assumption | exact zS0_at (by assumption) (by omega) | exact zS0_at rfl (by omega)) (t_Tf_trayStatus_m Z ht h0) ⟨Nat.le_of_ble_eq_true rfl, Nat.le_of_ble_eq_true rfl, Nat.le_of_ble_eq_true rfl, Nat.le_of_ble_eq_true rfl⟩ (Nat.le_of_ble_eq_true rfl) ?_
  intro r w hq
  obtain ⟨rfl, rfl⟩ := hq
  first | refine z_istore_2 d_Tf_copyGot_5 rfl ?_ | (refine z_forget_1 ?_; refine z_istore_2 d_Tf_copyGot_5 rfl ?_)
  refine z_iload_2 d_Tf_copyGot_6 ?_
  refine z_if_eq (tgt := 16) d_Tf_copyGot_7 (by decide) (fun h7 => ?_) (fun h7 => ?_)
  · first
    | (simp (disch := omega) only [← nI_0, nI_leI, nI_ltI, nI_eq, not_true_eq_false, not_false_eq_true] at h7; done)
    | (simp (disch := omega) only [← nI_0, nI_leI, nI_ltI, nI_eq, not_true_eq_false, not_false_eq_true] at h7; omega)
    | contradiction
    | exact absurd h7 (Int32.not_lt.mpr (by assumption))
    | exact absurd h7 (Int32.not_le.mpr (by assumption))
    | exact absurd h7 (by decide)
    | exact absurd (by decide) h7
    | ( try simp (disch := omega) only [← nI_0, nI_leI, nI_ltI, nI_eq, not_true_eq_false, not_false_eq_true] at h7
        (try have h7b := zbit_n0.mp h7); (try have h7b := zbit_p0.mp h7)
        fail)
  · first
    | (simp (disch := omega) only [← nI_0, nI_leI, nI_ltI, nI_eq, not_true_eq_false, not_false_eq_true] at h7; done)
    | (simp (disch := omega) only [← nI_0, nI_leI, nI_ltI, nI_eq, not_true_eq_false, not_false_eq_true] at h7; omega)
    | contradiction
    | exact absurd h7 (Int32.not_lt.mpr (by assumption))
    | exact absurd h7 (Int32.not_le.mpr (by assumption))
    | exact absurd h7 (by decide)
    | exact absurd (by decide) h7
    | ( try simp (disch := omega) only [← nI_0, nI_leI, nI_ltI, nI_eq, not_true_eq_false, not_false_eq_true] at h7
        (try have h7b := zbit_n0.mp h7); (try have h7b := zbit_p0.mp h7)
        refine z_aload_0 d_Tf_copyGot_10 ?_
        refine z_iload_2 d_Tf_copyGot_11 ?_
        refine z_Vi1 d_Tf_copyGot_12 k_Tf_138 (by first | assumption | exact zS0_at (by assumption) (by omega) | exact zS0_at rfl (by omega)) (t_Tf_fail (by assumption)) ⟨Nat.le_of_ble_eq_true rfl, Nat.le_of_ble_eq_true rfl, Nat.le_of_ble_eq_true rfl, Nat.le_of_ble_eq_true rfl⟩ (Nat.le_of_ble_eq_true rfl) ?_
        intro r w hq
        obtain ⟨rfl, rfl⟩ := hq
        refine z_reti d_Tf_copyGot_15 ?_
        exact ⟨rfl, cW_0⟩)
theorem t_Tf_copyGot_x (Z : clOk f d P S) (N : fenIn I f nt np nl nn) (ht : t < 4) (h0 : I (3 + 2 * t) 0 = nI 1) (hl : I (3 + 2 * t) 2 = nI l) (hl6 : l ≤ 60) (hp : l < np) : zEi G y_Tf_copyGot prog_1_method_17_code 4 (some .int) 3 [.ref 0, .int (nI t)] (I, J, P, S) (fun r w => r = -1 ∧ cW I J P S 4 w) := by
  obtain ⟨⟨c0, c3, c1s⟩, ⟨c5, c2s, ctr⟩, ⟨c6, c11s, c11, c13s⟩, ⟨c7, c15s, c15⟩, ⟨c8, c16s, c16a, c16b, c17s⟩, ⟨c9, c10, cfd, F, Fd⟩, ⟨c11b, Ft⟩, ⟨c12, c69s, cmk⟩, ⟨c14, c121s, c121, c122s⟩, ⟨c15b, c123s, c123, c124s⟩, ⟨c16, c125s, c125, c126s⟩, ⟨c17, c127s, c127, c128s, ctb⟩, ⟨c18, c139s, c139, c140s⟩, ⟨c19, c141s, ⟨c141a, c142s⟩, ⟨c141b, c143s⟩, ⟨c141c, c144s⟩⟩, M⟩ := id Z
  obtain ⟨F0, ⟨F8, F8s⟩, ⟨F9, F9s⟩, ⟨F10, F10s⟩, ⟨F11, F11s⟩, ⟨F12, F12s⟩, ⟨F13, F13s⟩, ⟨F14, F14s⟩, ⟨F15, F15s⟩, ⟨F16, F16s⟩, ⟨F17, F17s⟩, ⟨F18, F18s⟩, ⟨F19, F19s⟩, ⟨Y3, Y3s⟩, ⟨Y4, Y4s⟩, ⟨Y5, Y5s⟩, ⟨Y6, Y6s⟩⟩ := id F
  obtain ⟨⟨n1, n1b⟩, ⟨n2, n2b⟩, ⟨n3, n3b⟩, ⟨n4, n4b⟩, nof, non⟩ := id N
  obtain ⟨c2, T⟩ := ctr t ht
  obtain ⟨T0, T1, T2⟩ := id T
  have hr : ¬ hrun (nI 0) (nI np) l := fun q => by
    have := (hrun_int hl6).mp q
    rw [nI_int (by omega), nI_int (by omega)] at this
    omega
  refine zEi_of (lv := [some (.ref 0), some (.int (nI t)), none, none]) (by decide) rfl (Nat.le_of_ble_eq_true rfl) ?_
  refine z_aload_0 d_Tf_copyGot_0 ?_
  refine z_iload_1 d_Tf_copyGot_1 ?_
  refine z_Vi1 d_Tf_copyGot_2 k_Tf_267 (by first | assumption | exact zS0_at (by assumption) (by omega) | exact zS0_at rfl (by omega)) (t_Tf_trayStatus_p Z ht h0) ⟨Nat.le_of_ble_eq_true rfl, Nat.le_of_ble_eq_true rfl, Nat.le_of_ble_eq_true rfl, Nat.le_of_ble_eq_true rfl⟩ (Nat.le_of_ble_eq_true rfl) ?_
  intro r w hq
  obtain ⟨rfl, rfl⟩ := hq
  first | refine z_istore_2 d_Tf_copyGot_5 rfl ?_ | (refine z_forget_1 ?_; refine z_istore_2 d_Tf_copyGot_5 rfl ?_)
  refine z_iload_2 d_Tf_copyGot_6 ?_
  refine z_if_eq (tgt := 16) d_Tf_copyGot_7 (by decide) (fun h7 => ?_) (fun h7 => ?_)
  · first
    | (simp (disch := omega) only [← nI_0, nI_leI, nI_ltI, nI_eq, not_true_eq_false, not_false_eq_true] at h7; done)
    | (simp (disch := omega) only [← nI_0, nI_leI, nI_ltI, nI_eq, not_true_eq_false, not_false_eq_true] at h7; omega)
    | contradiction
    | exact absurd h7 (Int32.not_lt.mpr (by assumption))
    | exact absurd h7 (Int32.not_le.mpr (by assumption))
    | exact absurd h7 (by decide)
    | exact absurd (by decide) h7
    | ( try simp (disch := omega) only [← nI_0, nI_leI, nI_ltI, nI_eq, not_true_eq_false, not_false_eq_true] at h7
        (try have h7b := zbit_n0.mp h7); (try have h7b := zbit_p0.mp h7)
        refine z_aload_0 d_Tf_copyGot_16 ?_
        refine z_getR d_Tf_copyGot_17 f_Tf_29 (by first | assumption | exact zS0_at (by assumption) (by omega) | exact zS0_at rfl (by omega)) (by first | assumption | exact zS0_at (by assumption) (by omega) | exact zS0_at rfl (by omega)) ?_
        refine z_iload_1 d_Tf_copyGot_20 ?_
        first | refine z_ald4N d_Tf_copyGot_21 (by first | assumption | exact zS0_at (by assumption) (by omega) | exact zS0_at rfl (by omega)) (by omega) (by first | decide | omega) (by first | assumption | exact zS0_at (by assumption) (by omega) | exact zS0_at rfl (by omega)) ?_ | refine z_ald5N d_Tf_copyGot_21 (by first | assumption | exact zS0_at (by assumption) (by omega) | exact zS0_at rfl (by omega)) (by omega) (by first | decide | omega) (by first | assumption | exact zS0_at (by assumption) (by omega) | exact zS0_at rfl (by omega)) ?_ | refine z_ald6N d_Tf_copyGot_21 (by first | assumption | exact zS0_at (by assumption) (by omega) | exact zS0_at rfl (by omega)) (by omega) (by first | decide | omega) (by first | assumption | exact zS0_at (by assumption) (by omega) | exact zS0_at rfl (by omega)) ?_
        refine z_iconst (a := nI 0) d_Tf_copyGot_22 (by decide) ?_
        refine z_aload_0 d_Tf_copyGot_23 ?_
        refine z_getR d_Tf_copyGot_24 f_Tf_60 (by first | assumption | exact zS0_at (by assumption) (by omega) | exact zS0_at rfl (by omega)) (by first | assumption | exact zS0_at (by assumption) (by omega) | exact zS0_at rfl (by omega)) ?_
        refine z_getIv d_Tf_copyGot_27 f_Tf_202 (by first | assumption | exact zS0_at (by assumption) (by omega) | exact zS0_at rfl (by omega)) (by first | assumption | ((try simp (disch := omega) only [zu_same, zu_ne, zcp_ne, zfl_ne]); first | assumption | rfl)) ?_
        refine z_Vi2 d_Tf_copyGot_30 k_Tf_153 (by first | assumption | exact zS0_at (by assumption) (by omega) | exact zS0_at rfl (by omega)) (t_Tray_hasRunG T hl hl6) ⟨Nat.le_of_ble_eq_true rfl, Nat.le_of_ble_eq_true rfl, Nat.le_of_ble_eq_true rfl, Nat.le_of_ble_eq_true rfl⟩ (Nat.le_of_ble_eq_true rfl) ?_
        intro r w hq
        rcases hq with ⟨⟨hz30, rfl⟩ | ⟨hz30, rfl⟩, rfl⟩
        · first
          | contradiction
          | ( skip
              refine z_if_ne (tgt := 42) d_Tf_copyGot_33 (by decide) (fun _ => ?_) (fun h => absurd h (by decide))
              fail)
        · first
          | contradiction
          | ( skip
              refine z_if_ne (tgt := 42) d_Tf_copyGot_33 (by decide) (fun h => absurd h (by decide)) (fun _ => ?_)
              refine z_aload_0 d_Tf_copyGot_36 ?_
              refine z_iconst (a := nI 4) d_Tf_copyGot_37 (by decide) ?_
              refine z_Vi1 d_Tf_copyGot_38 k_Tf_138 (by first | assumption | exact zS0_at (by assumption) (by omega) | exact zS0_at rfl (by omega)) (t_Tf_fail (by assumption)) ⟨Nat.le_of_ble_eq_true rfl, Nat.le_of_ble_eq_true rfl, Nat.le_of_ble_eq_true rfl, Nat.le_of_ble_eq_true rfl⟩ (Nat.le_of_ble_eq_true rfl) ?_
              intro r w hq
              obtain ⟨rfl, rfl⟩ := hq
              refine z_reti d_Tf_copyGot_41 ?_
              exact ⟨rfl, cW_0⟩))
  · first
    | (simp (disch := omega) only [← nI_0, nI_leI, nI_ltI, nI_eq, not_true_eq_false, not_false_eq_true] at h7; done)
    | (simp (disch := omega) only [← nI_0, nI_leI, nI_ltI, nI_eq, not_true_eq_false, not_false_eq_true] at h7; omega)
    | contradiction
    | exact absurd h7 (Int32.not_lt.mpr (by assumption))
    | exact absurd h7 (Int32.not_le.mpr (by assumption))
    | exact absurd h7 (by decide)
    | exact absurd (by decide) h7
    | ( try simp (disch := omega) only [← nI_0, nI_leI, nI_ltI, nI_eq, not_true_eq_false, not_false_eq_true] at h7
        (try have h7b := zbit_n0.mp h7); (try have h7b := zbit_p0.mp h7)
        refine z_aload_0 d_Tf_copyGot_10 ?_
        refine z_iload_2 d_Tf_copyGot_11 ?_
        refine z_Vi1 d_Tf_copyGot_12 k_Tf_138 (by first | assumption | exact zS0_at (by assumption) (by omega) | exact zS0_at rfl (by omega)) (t_Tf_fail (by assumption)) ⟨Nat.le_of_ble_eq_true rfl, Nat.le_of_ble_eq_true rfl, Nat.le_of_ble_eq_true rfl, Nat.le_of_ble_eq_true rfl⟩ (Nat.le_of_ble_eq_true rfl) ?_
        intro r w hq
        obtain ⟨rfl, rfl⟩ := hq
        refine z_reti d_Tf_copyGot_15 ?_
        exact ⟨rfl, cW_0⟩)
theorem t_Tf_copyGot (Z : clOk f d P S) (N : fenIn I f nt np nl nn) (ht : t < 4) (h0 : I (3 + 2 * t) 0 = nI 1) (hl : I (3 + 2 * t) 2 = nI l) (hl6 : l ≤ 60) (hp : np ≤ l) (hk : I (3 + 2 * t) 1 = nI k) (hk3 : k ≤ 3) : zEi G y_Tf_copyGot prog_1_method_17_code 4 (some .int) 3 [.ref 0, .int (nI t)] (I, J, P, S) (fun r w => r = nI np ∧ w = (zu I 0 0 (nI 0), s_cg J (3 + 2 * t + 1) 0 k (I (f + 4)) np, P, S)) := by
  obtain ⟨⟨c0, c3, c1s⟩, ⟨c5, c2s, ctr⟩, ⟨c6, c11s, c11, c13s⟩, ⟨c7, c15s, c15⟩, ⟨c8, c16s, c16a, c16b, c17s⟩, ⟨c9, c10, cfd, F, Fd⟩, ⟨c11b, Ft⟩, ⟨c12, c69s, cmk⟩, ⟨c14, c121s, c121, c122s⟩, ⟨c15b, c123s, c123, c124s⟩, ⟨c16, c125s, c125, c126s⟩, ⟨c17, c127s, c127, c128s, ctb⟩, ⟨c18, c139s, c139, c140s⟩, ⟨c19, c141s, ⟨c141a, c142s⟩, ⟨c141b, c143s⟩, ⟨c141c, c144s⟩⟩, M⟩ := id Z
  obtain ⟨F0, ⟨F8, F8s⟩, ⟨F9, F9s⟩, ⟨F10, F10s⟩, ⟨F11, F11s⟩, ⟨F12, F12s⟩, ⟨F13, F13s⟩, ⟨F14, F14s⟩, ⟨F15, F15s⟩, ⟨F16, F16s⟩, ⟨F17, F17s⟩, ⟨F18, F18s⟩, ⟨F19, F19s⟩, ⟨Y3, Y3s⟩, ⟨Y4, Y4s⟩, ⟨Y5, Y5s⟩, ⟨Y6, Y6s⟩⟩ := id F
  obtain ⟨⟨n1, n1b⟩, ⟨n2, n2b⟩, ⟨n3, n3b⟩, ⟨n4, n4b⟩, nof, non⟩ := id N
  obtain ⟨c2, T⟩ := ctr t ht
  obtain ⟨T0, T1, T2⟩ := id T
  have hr : hrun (nI 0) (nI np) l := by
    refine (hrun_int hl6).mpr ?_
    rw [nI_int (by omega), nI_int (by omega)]
    omega
  refine zEi_of (lv := [some (.ref 0), some (.int (nI t)), none, none]) (by decide) rfl (Nat.le_of_ble_eq_true rfl) ?_
  have loop : ∀ m j, np - j < m → j ≤ np → zA G y_Tf_copyGot prog_1_method_17_code 4 (some .int) (zRm 3 0 0) (zM G 0 0 (fun r w' => ∃ x, r = some (.int x) ∧ (fun r w => r = nI np ∧ w = (zu I 0 0 (nI 0), s_cg J (3 + 2 * t + 1) 0 k (I (f + 4)) np, P, S)) x w')) 44 [some (.ref 0), some (.int (nI t)), some (.int (nI 0)), some (.int (nI j))] [] (I, s_cg J (3 + 2 * t + 1) 0 k (I (f + 4)) j, P, S) 0 0 := by
    intro m
    induction m with
    | zero => intro j h; omega
    | succ m ih =>
      intro j hm hj
      refine z_iload_3 d_Tf_copyGot_44 ?_
      refine z_aload_0 d_Tf_copyGot_45 ?_
      refine z_getR d_Tf_copyGot_46 f_Tf_60 (by first | assumption | exact zS0_at (by assumption) (by omega) | exact zS0_at rfl (by omega)) (by first | assumption | exact zS0_at (by assumption) (by omega) | exact zS0_at rfl (by omega)) ?_
      refine z_getIv d_Tf_copyGot_49 f_Tf_202 (by first | assumption | exact zS0_at (by assumption) (by omega) | exact zS0_at rfl (by omega)) (by first | assumption | ((try simp (disch := omega) only [zu_same, zu_ne, zcp_ne, zfl_ne]); first | assumption | rfl)) ?_
      refine z_icmp_ge (tgt := 81) d_Tf_copyGot_52 (by decide) (fun hb => ?_) (fun hb => ?_)
      · have hb := (nI_leI (by omega) (by omega)).mp hb
        obtain rfl : j = np := by omega
        refine z_aload_0 d_Tf_copyGot_81 ?_
        refine z_aload_0 d_Tf_copyGot_82 ?_
        refine z_getR d_Tf_copyGot_83 f_Tf_60 (by first | assumption | exact zS0_at (by assumption) (by omega) | exact zS0_at rfl (by omega)) (by first | assumption | exact zS0_at (by assumption) (by omega) | exact zS0_at rfl (by omega)) ?_
        refine z_getIv d_Tf_copyGot_86 f_Tf_202 (by first | assumption | exact zS0_at (by assumption) (by omega) | exact zS0_at rfl (by omega)) (by first | assumption | ((try simp (disch := omega) only [zu_same, zu_ne, zcp_ne, zfl_ne]); first | assumption | rfl)) ?_
        refine z_Vi1 d_Tf_copyGot_89 k_Tf_174 (by first | assumption | exact zS0_at (by assumption) (by omega) | exact zS0_at rfl (by omega)) (t_Tf_give (by assumption)) ⟨Nat.le_of_ble_eq_true rfl, Nat.le_of_ble_eq_true rfl, Nat.le_of_ble_eq_true rfl, Nat.le_of_ble_eq_true rfl⟩ (Nat.le_of_ble_eq_true rfl) ?_
        intro r w hq
        obtain ⟨rfl, rfl⟩ := hq
        refine z_reti d_Tf_copyGot_92 ?_
        exact ⟨rfl, rfl⟩
      · have hb : j < np := Nat.lt_of_not_le (fun q => hb (nI_le q (by omega)))
        have q := ih (j + 1) (by omega) (by omega)
        rw [s_cg, Nat.zero_add] at q
        refine z_aload_0 d_Tf_copyGot_55 ?_
        refine z_getR d_Tf_copyGot_56 f_Tf_29 (by first | assumption | exact zS0_at (by assumption) (by omega) | exact zS0_at rfl (by omega)) (by first | assumption | exact zS0_at (by assumption) (by omega) | exact zS0_at rfl (by omega)) ?_
        refine z_iload_1 d_Tf_copyGot_59 ?_
        first | refine z_ald4N d_Tf_copyGot_60 (by first | assumption | exact zS0_at (by assumption) (by omega) | exact zS0_at rfl (by omega)) (by omega) (by first | decide | omega) (by first | assumption | exact zS0_at (by assumption) (by omega) | exact zS0_at rfl (by omega)) ?_ | refine z_ald5N d_Tf_copyGot_60 (by first | assumption | exact zS0_at (by assumption) (by omega) | exact zS0_at rfl (by omega)) (by omega) (by first | decide | omega) (by first | assumption | exact zS0_at (by assumption) (by omega) | exact zS0_at rfl (by omega)) ?_ | refine z_ald6N d_Tf_copyGot_60 (by first | assumption | exact zS0_at (by assumption) (by omega) | exact zS0_at rfl (by omega)) (by omega) (by first | decide | omega) (by first | assumption | exact zS0_at (by assumption) (by omega) | exact zS0_at rfl (by omega)) ?_
        refine z_iload_3 d_Tf_copyGot_61 ?_
        refine z_aload_0 d_Tf_copyGot_62 ?_
        refine z_getR d_Tf_copyGot_63 f_Tf_60 (by first | assumption | exact zS0_at (by assumption) (by omega) | exact zS0_at rfl (by omega)) (by first | assumption | exact zS0_at (by assumption) (by omega) | exact zS0_at rfl (by omega)) ?_
        refine z_getR d_Tf_copyGot_66 f_Tf_243 (by first | assumption | exact zS0_at (by assumption) (by omega) | exact zS0_at rfl (by omega)) (by first | assumption | exact zS0_at (by assumption) (by omega) | exact zS0_at rfl (by omega)) ?_
        refine z_iload_3 d_Tf_copyGot_69 ?_
        first | refine z_ialdNv d_Tf_copyGot_70 (by first | assumption | exact zS0_at (by assumption) (by omega) | exact zS0_at rfl (by omega)) (by omega) (by first | decide | omega) (by first | assumption | ((try simp (disch := omega) only [zu_same, zu_ne, zcp_ne, zfl_ne]); first | assumption | rfl)) ?_ | refine z_iald d_Tf_copyGot_70 (by first | assumption | exact zS0_at (by assumption) (by omega) | exact zS0_at rfl (by omega)) (by first | assumption | exact zS0_at (by assumption) (by omega) | exact zS0_at rfl (by omega)) ?_
        refine z_i2l d_Tf_copyGot_71 ?_
        refine z_Vv2 d_Tf_copyGot_72 k_Tf_134 (by first | assumption | exact zS0_at (by assumption) (by omega) | exact zS0_at rfl (by omega)) (t_Tray_put T hk hk3 (by omega)) ⟨Nat.le_of_ble_eq_true rfl, Nat.le_of_ble_eq_true rfl, Nat.le_of_ble_eq_true rfl, Nat.le_of_ble_eq_true rfl⟩ (Nat.le_of_ble_eq_true rfl) ?_
        intro w hq
        obtain rfl := hq
        first | refine z_iinc_3 d_Tf_copyGot_75 rfl (zi_inc _) ?_ | refine z_iinc_3 d_Tf_copyGot_75 rfl rfl ?_
        refine z_goto (tgt := 44) d_Tf_copyGot_78 (by decide) ?_
        exact q
  refine z_aload_0 d_Tf_copyGot_0 ?_
  refine z_iload_1 d_Tf_copyGot_1 ?_
  refine z_Vi1 d_Tf_copyGot_2 k_Tf_267 (by first | assumption | exact zS0_at (by assumption) (by omega) | exact zS0_at rfl (by omega)) (t_Tf_trayStatus_p Z ht h0) ⟨Nat.le_of_ble_eq_true rfl, Nat.le_of_ble_eq_true rfl, Nat.le_of_ble_eq_true rfl, Nat.le_of_ble_eq_true rfl⟩ (Nat.le_of_ble_eq_true rfl) ?_
  intro r w hq
  obtain ⟨rfl, rfl⟩ := hq
  first | refine z_istore_2 d_Tf_copyGot_5 rfl ?_ | (refine z_forget_1 ?_; refine z_istore_2 d_Tf_copyGot_5 rfl ?_)
  refine z_iload_2 d_Tf_copyGot_6 ?_
  refine z_if_eq (tgt := 16) d_Tf_copyGot_7 (by decide) (fun h7 => ?_) (fun h7 => ?_)
  · first
    | (simp (disch := omega) only [← nI_0, nI_leI, nI_ltI, nI_eq, not_true_eq_false, not_false_eq_true] at h7; done)
    | (simp (disch := omega) only [← nI_0, nI_leI, nI_ltI, nI_eq, not_true_eq_false, not_false_eq_true] at h7; omega)
    | contradiction
    | exact absurd h7 (Int32.not_lt.mpr (by assumption))
    | exact absurd h7 (Int32.not_le.mpr (by assumption))
    | exact absurd h7 (by decide)
    | exact absurd (by decide) h7
    | ( try simp (disch := omega) only [← nI_0, nI_leI, nI_ltI, nI_eq, not_true_eq_false, not_false_eq_true] at h7
        (try have h7b := zbit_n0.mp h7); (try have h7b := zbit_p0.mp h7)
        refine z_aload_0 d_Tf_copyGot_16 ?_
        refine z_getR d_Tf_copyGot_17 f_Tf_29 (by first | assumption | exact zS0_at (by assumption) (by omega) | exact zS0_at rfl (by omega)) (by first | assumption | exact zS0_at (by assumption) (by omega) | exact zS0_at rfl (by omega)) ?_
        refine z_iload_1 d_Tf_copyGot_20 ?_
        first | refine z_ald4N d_Tf_copyGot_21 (by first | assumption | exact zS0_at (by assumption) (by omega) | exact zS0_at rfl (by omega)) (by omega) (by first | decide | omega) (by first | assumption | exact zS0_at (by assumption) (by omega) | exact zS0_at rfl (by omega)) ?_ | refine z_ald5N d_Tf_copyGot_21 (by first | assumption | exact zS0_at (by assumption) (by omega) | exact zS0_at rfl (by omega)) (by omega) (by first | decide | omega) (by first | assumption | exact zS0_at (by assumption) (by omega) | exact zS0_at rfl (by omega)) ?_ | refine z_ald6N d_Tf_copyGot_21 (by first | assumption | exact zS0_at (by assumption) (by omega) | exact zS0_at rfl (by omega)) (by omega) (by first | decide | omega) (by first | assumption | exact zS0_at (by assumption) (by omega) | exact zS0_at rfl (by omega)) ?_
        refine z_iconst (a := nI 0) d_Tf_copyGot_22 (by decide) ?_
        refine z_aload_0 d_Tf_copyGot_23 ?_
        refine z_getR d_Tf_copyGot_24 f_Tf_60 (by first | assumption | exact zS0_at (by assumption) (by omega) | exact zS0_at rfl (by omega)) (by first | assumption | exact zS0_at (by assumption) (by omega) | exact zS0_at rfl (by omega)) ?_
        refine z_getIv d_Tf_copyGot_27 f_Tf_202 (by first | assumption | exact zS0_at (by assumption) (by omega) | exact zS0_at rfl (by omega)) (by first | assumption | ((try simp (disch := omega) only [zu_same, zu_ne, zcp_ne, zfl_ne]); first | assumption | rfl)) ?_
        refine z_Vi2 d_Tf_copyGot_30 k_Tf_153 (by first | assumption | exact zS0_at (by assumption) (by omega) | exact zS0_at rfl (by omega)) (t_Tray_hasRunG T hl hl6) ⟨Nat.le_of_ble_eq_true rfl, Nat.le_of_ble_eq_true rfl, Nat.le_of_ble_eq_true rfl, Nat.le_of_ble_eq_true rfl⟩ (Nat.le_of_ble_eq_true rfl) ?_
        intro r w hq
        rcases hq with ⟨⟨hz30, rfl⟩ | ⟨hz30, rfl⟩, rfl⟩
        · first
          | contradiction
          | ( skip
              refine z_if_ne (tgt := 42) d_Tf_copyGot_33 (by decide) (fun _ => ?_) (fun h => absurd h (by decide))
              refine z_iconst (a := nI 0) d_Tf_copyGot_42 (by decide) ?_
              first | refine z_istore_3 d_Tf_copyGot_43 rfl ?_ | (refine z_forget_2 ?_; refine z_istore_3 d_Tf_copyGot_43 rfl ?_)
              exact loop (np + 1) 0 (by omega) (by omega))
        · first
          | contradiction
          | ( skip
              refine z_if_ne (tgt := 42) d_Tf_copyGot_33 (by decide) (fun h => absurd h (by decide)) (fun _ => ?_)
              refine z_aload_0 d_Tf_copyGot_36 ?_
              refine z_iconst (a := nI 4) d_Tf_copyGot_37 (by decide) ?_
              refine z_Vi1 d_Tf_copyGot_38 k_Tf_138 (by first | assumption | exact zS0_at (by assumption) (by omega) | exact zS0_at rfl (by omega)) (t_Tf_fail (by assumption)) ⟨Nat.le_of_ble_eq_true rfl, Nat.le_of_ble_eq_true rfl, Nat.le_of_ble_eq_true rfl, Nat.le_of_ble_eq_true rfl⟩ (Nat.le_of_ble_eq_true rfl) ?_
              intro r w hq
              obtain ⟨rfl, rfl⟩ := hq
              refine z_reti d_Tf_copyGot_41 ?_
              exact ⟨rfl, rfl⟩))
  · first
    | (simp (disch := omega) only [← nI_0, nI_leI, nI_ltI, nI_eq, not_true_eq_false, not_false_eq_true] at h7; done)
    | (simp (disch := omega) only [← nI_0, nI_leI, nI_ltI, nI_eq, not_true_eq_false, not_false_eq_true] at h7; omega)
    | contradiction
    | exact absurd h7 (Int32.not_lt.mpr (by assumption))
    | exact absurd h7 (Int32.not_le.mpr (by assumption))
    | exact absurd h7 (by decide)
    | exact absurd (by decide) h7
    | ( try simp (disch := omega) only [← nI_0, nI_leI, nI_ltI, nI_eq, not_true_eq_false, not_false_eq_true] at h7
        (try have h7b := zbit_n0.mp h7); (try have h7b := zbit_p0.mp h7)
        refine z_aload_0 d_Tf_copyGot_10 ?_
        refine z_iload_2 d_Tf_copyGot_11 ?_
        refine z_Vi1 d_Tf_copyGot_12 k_Tf_138 (by first | assumption | exact zS0_at (by assumption) (by omega) | exact zS0_at rfl (by omega)) (t_Tf_fail (by assumption)) ⟨Nat.le_of_ble_eq_true rfl, Nat.le_of_ble_eq_true rfl, Nat.le_of_ble_eq_true rfl, Nat.le_of_ble_eq_true rfl⟩ (Nat.le_of_ble_eq_true rfl) ?_
        intro r w hq
        obtain ⟨rfl, rfl⟩ := hq
        refine z_reti d_Tf_copyGot_15 ?_
        exact ⟨rfl, rfl⟩)
theorem t_Mo_copyGot_o (M : modOk P S) (N : modIn I nt np nl nn) (h : ¬ zin a 4) : zEi G y_Mo_copyGot prog_14_method_88_code 3 (some .int) 4 [.ref 145, .int a] (I, J, P, S) (fun r w => r = -1 ∧ mW I J P S 1 w) := by
  obtain ⟨M0, ⟨M4, M4s⟩, ⟨M5, M5s⟩, ⟨M6, M6s⟩, ⟨M7, M7s⟩, ⟨M20, M20s⟩, ⟨M21, M21s⟩, ⟨M22, M22s⟩, ⟨M26, M26s⟩, ⟨M27, M27s⟩, ⟨M28, M28s⟩, ⟨M30, M30s⟩, ⟨M34, M34s⟩, ⟨M36, M36s⟩, ⟨M37, M37s⟩⟩ := id M
  obtain ⟨I1, hI1, N1, h1, h0, e150, er, ek⟩ := mo_beg N
  refine zEi_of (lv := [some (.ref 145), some (.int a), none]) (by decide) rfl (Nat.le_of_ble_eq_true rfl) ?_
  refine z_aload_0 d_Mo_copyGot_0 ?_
  refine z_iconst (a := nI 0) d_Mo_copyGot_1 (by decide) ?_
  refine z_putI d_Mo_copyGot_2 f_Mo_70 (by first | assumption | exact zS0_at (by assumption) (by omega) | exact zS0_at rfl (by omega)) ?_
  refine z_aload_0 d_Mo_copyGot_5 ?_
  refine z_iconst (a := nI 0) d_Mo_copyGot_6 (by decide) ?_
  refine z_putI d_Mo_copyGot_7 f_Mo_73 (by first | assumption | exact zS0_at (by assumption) (by omega) | exact zS0_at rfl (by omega)) ?_
  rw [← hI1]
  refine z_aload_0 d_Mo_copyGot_10 ?_
  refine z_iload_1 d_Mo_copyGot_11 ?_
  refine z_Vi1 d_Mo_copyGot_12 k_Mo_347 (by first | assumption | exact zS0_at (by assumption) (by omega) | exact zS0_at rfl (by omega)) (t_Mo_isTray) ⟨Nat.le_of_ble_eq_true rfl, Nat.le_of_ble_eq_true rfl, Nat.le_of_ble_eq_true rfl, Nat.le_of_ble_eq_true rfl⟩ (Nat.le_of_ble_eq_true rfl) ?_
  intro r w hq
  rcases hq with ⟨⟨hz12, rfl⟩ | ⟨hz12, rfl⟩, rfl⟩
  · first
    | contradiction
    | ( skip
        refine z_if_ne (tgt := 24) d_Mo_copyGot_15 (by decide) (fun _ => ?_) (fun h => absurd h (by decide))
        contradiction)
  · first
    | contradiction
    | ( skip
        refine z_if_ne (tgt := 24) d_Mo_copyGot_15 (by decide) (fun h => absurd h (by decide)) (fun _ => ?_)
        refine z_aload_0 d_Mo_copyGot_18 ?_
        refine z_iconst (a := nI 1) d_Mo_copyGot_19 (by decide) ?_
        refine z_Vi1 d_Mo_copyGot_20 k_Mo_327 (by first | assumption | exact zS0_at (by assumption) (by omega) | exact zS0_at rfl (by omega)) (t_Mo_refuse (by assumption)) ⟨Nat.le_of_ble_eq_true rfl, Nat.le_of_ble_eq_true rfl, Nat.le_of_ble_eq_true rfl, Nat.le_of_ble_eq_true rfl⟩ (Nat.le_of_ble_eq_true rfl) ?_
        intro r w hq
        obtain ⟨rfl, rfl⟩ := hq
        refine z_reti d_Mo_copyGot_23 ?_
        exact ⟨rfl, _, _, rfl, mqF_z h1 (by decide), mqJ_r, zu_same _ _ _ _⟩)
theorem t_Mo_copyGot_m (M : modOk P S) (N : modIn I nt np nl nn) (ht : t < 4) (hm : I 147 t = -1) : zEi G y_Mo_copyGot prog_14_method_88_code 3 (some .int) 4 [.ref 145, .int (nI t)] (I, J, P, S) (fun r w => r = -1 ∧ mW I J P S 3 w) := by
  obtain ⟨M0, ⟨M4, M4s⟩, ⟨M5, M5s⟩, ⟨M6, M6s⟩, ⟨M7, M7s⟩, ⟨M20, M20s⟩, ⟨M21, M21s⟩, ⟨M22, M22s⟩, ⟨M26, M26s⟩, ⟨M27, M27s⟩, ⟨M28, M28s⟩, ⟨M30, M30s⟩, ⟨M34, M34s⟩, ⟨M36, M36s⟩, ⟨M37, M37s⟩⟩ := id M
  obtain ⟨I1, hI1, N1, h1, h0, e150, er, ek⟩ := mo_beg N
  have hz : zin (nI t) 4 := ⟨t, ht, rfl⟩
  have hm1 : I1 147 t = -1 := by rw [er 147 (by decide)]; exact hm
  refine zEi_of (lv := [some (.ref 145), some (.int (nI t)), none]) (by decide) rfl (Nat.le_of_ble_eq_true rfl) ?_
  refine z_aload_0 d_Mo_copyGot_0 ?_
  refine z_iconst (a := nI 0) d_Mo_copyGot_1 (by decide) ?_
  refine z_putI d_Mo_copyGot_2 f_Mo_70 (by first | assumption | exact zS0_at (by assumption) (by omega) | exact zS0_at rfl (by omega)) ?_
  refine z_aload_0 d_Mo_copyGot_5 ?_
  refine z_iconst (a := nI 0) d_Mo_copyGot_6 (by decide) ?_
  refine z_putI d_Mo_copyGot_7 f_Mo_73 (by first | assumption | exact zS0_at (by assumption) (by omega) | exact zS0_at rfl (by omega)) ?_
  rw [← hI1]
  refine z_aload_0 d_Mo_copyGot_10 ?_
  refine z_iload_1 d_Mo_copyGot_11 ?_
  refine z_Vi1 d_Mo_copyGot_12 k_Mo_347 (by first | assumption | exact zS0_at (by assumption) (by omega) | exact zS0_at rfl (by omega)) (t_Mo_isTray) ⟨Nat.le_of_ble_eq_true rfl, Nat.le_of_ble_eq_true rfl, Nat.le_of_ble_eq_true rfl, Nat.le_of_ble_eq_true rfl⟩ (Nat.le_of_ble_eq_true rfl) ?_
  intro r w hq
  rcases hq with ⟨⟨hz12, rfl⟩ | ⟨hz12, rfl⟩, rfl⟩
  · first
    | contradiction
    | ( skip
        refine z_if_ne (tgt := 24) d_Mo_copyGot_15 (by decide) (fun _ => ?_) (fun h => absurd h (by decide))
        refine z_aload_0 d_Mo_copyGot_24 ?_
        refine z_getR d_Mo_copyGot_25 f_Mo_17 (by first | assumption | exact zS0_at (by assumption) (by omega) | exact zS0_at rfl (by omega)) (by first | assumption | exact zS0_at (by assumption) (by omega) | exact zS0_at rfl (by omega)) ?_
        refine z_iload_1 d_Mo_copyGot_28 ?_
        first | refine z_ialdNv d_Mo_copyGot_29 (by first | assumption | exact zS0_at (by assumption) (by omega) | exact zS0_at rfl (by omega)) (by omega) (by first | decide | omega) (by first | assumption | ((try simp (disch := omega) only [zu_same, zu_ne, zcp_ne, zfl_ne]); first | assumption | rfl)) ?_ | refine z_iald d_Mo_copyGot_29 (by first | assumption | exact zS0_at (by assumption) (by omega) | exact zS0_at rfl (by omega)) (by first | assumption | exact zS0_at (by assumption) (by omega) | exact zS0_at rfl (by omega)) ?_
        refine z_if_ge (tgt := 39) d_Mo_copyGot_30 (by decide) (fun h30 => ?_) (fun h30 => ?_)
        · first
          | (simp (disch := omega) only [← nI_0, nI_leI, nI_ltI, nI_eq, not_true_eq_false, not_false_eq_true] at h30; done)
          | (simp (disch := omega) only [← nI_0, nI_leI, nI_ltI, nI_eq, not_true_eq_false, not_false_eq_true] at h30; omega)
          | contradiction
          | exact absurd h30 (Int32.not_lt.mpr (by assumption))
          | exact absurd h30 (Int32.not_le.mpr (by assumption))
          | exact absurd h30 (by decide)
          | exact absurd (by decide) h30
          | ( try simp (disch := omega) only [← nI_0, nI_leI, nI_ltI, nI_eq, not_true_eq_false, not_false_eq_true] at h30
              (try have h30b := zbit_n0.mp h30); (try have h30b := zbit_p0.mp h30)
              fail)
        · first
          | (simp (disch := omega) only [← nI_0, nI_leI, nI_ltI, nI_eq, not_true_eq_false, not_false_eq_true] at h30; done)
          | (simp (disch := omega) only [← nI_0, nI_leI, nI_ltI, nI_eq, not_true_eq_false, not_false_eq_true] at h30; omega)
          | contradiction
          | exact absurd h30 (Int32.not_lt.mpr (by assumption))
          | exact absurd h30 (Int32.not_le.mpr (by assumption))
          | exact absurd h30 (by decide)
          | exact absurd (by decide) h30
          | ( try simp (disch := omega) only [← nI_0, nI_leI, nI_ltI, nI_eq, not_true_eq_false, not_false_eq_true] at h30
              (try have h30b := zbit_n0.mp h30); (try have h30b := zbit_p0.mp h30)
              refine z_aload_0 d_Mo_copyGot_33 ?_
              refine z_iconst (a := nI 3) d_Mo_copyGot_34 (by decide) ?_
              refine z_Vi1 d_Mo_copyGot_35 k_Mo_327 (by first | assumption | exact zS0_at (by assumption) (by omega) | exact zS0_at rfl (by omega)) (t_Mo_refuse (by assumption)) ⟨Nat.le_of_ble_eq_true rfl, Nat.le_of_ble_eq_true rfl, Nat.le_of_ble_eq_true rfl, Nat.le_of_ble_eq_true rfl⟩ (Nat.le_of_ble_eq_true rfl) ?_
              intro r w hq
              obtain ⟨rfl, rfl⟩ := hq
              refine z_reti d_Mo_copyGot_38 ?_
              exact ⟨rfl, _, _, rfl, mqF_z h1 (by decide), mqJ_r, zu_same _ _ _ _⟩))
  · first
    | contradiction
    | ( skip
        refine z_if_ne (tgt := 24) d_Mo_copyGot_15 (by decide) (fun h => absurd h (by decide)) (fun _ => ?_)
        refine z_aload_0 d_Mo_copyGot_18 ?_
        refine z_iconst (a := nI 1) d_Mo_copyGot_19 (by decide) ?_
        refine z_Vi1 d_Mo_copyGot_20 k_Mo_327 (by first | assumption | exact zS0_at (by assumption) (by omega) | exact zS0_at rfl (by omega)) (t_Mo_refuse (by assumption)) ⟨Nat.le_of_ble_eq_true rfl, Nat.le_of_ble_eq_true rfl, Nat.le_of_ble_eq_true rfl, Nat.le_of_ble_eq_true rfl⟩ (Nat.le_of_ble_eq_true rfl) ?_
        intro r w hq
        obtain ⟨rfl, rfl⟩ := hq
        refine z_reti d_Mo_copyGot_23 ?_
        exact ⟨rfl, _, _, rfl, mqF_z h1 (by decide), mqJ_r, zu_same _ _ _ _⟩)
theorem t_Mo_copyGot_x (M : modOk P S) (N : modIn I nt np nl nn) (ht : t < 4) (hm : I 147 t = nI l) (hl6 : l ≤ 60) (hp : l < np) : zEi G y_Mo_copyGot prog_14_method_88_code 3 (some .int) 4 [.ref 145, .int (nI t)] (I, J, P, S) (fun r w => r = -1 ∧ mW I J P S 4 w) := by
  obtain ⟨M0, ⟨M4, M4s⟩, ⟨M5, M5s⟩, ⟨M6, M6s⟩, ⟨M7, M7s⟩, ⟨M20, M20s⟩, ⟨M21, M21s⟩, ⟨M22, M22s⟩, ⟨M26, M26s⟩, ⟨M27, M27s⟩, ⟨M28, M28s⟩, ⟨M30, M30s⟩, ⟨M34, M34s⟩, ⟨M36, M36s⟩, ⟨M37, M37s⟩⟩ := id M
  obtain ⟨I1, hI1, N1, h1, h0, e150, er, ek⟩ := mo_beg N
  obtain ⟨⟨m0, m0b⟩, ⟨m1, m1b⟩, ⟨m2, m2b⟩, ⟨m3, m3b⟩, mof, mon⟩ := id N1
  have hz : zin (nI t) 4 := ⟨t, ht, rfl⟩
  have hm1 : I1 147 t = nI l := by rw [er 147 (by decide)]; exact hm
  refine zEi_of (lv := [some (.ref 145), some (.int (nI t)), none]) (by decide) rfl (Nat.le_of_ble_eq_true rfl) ?_
  refine z_aload_0 d_Mo_copyGot_0 ?_
  refine z_iconst (a := nI 0) d_Mo_copyGot_1 (by decide) ?_
  refine z_putI d_Mo_copyGot_2 f_Mo_70 (by first | assumption | exact zS0_at (by assumption) (by omega) | exact zS0_at rfl (by omega)) ?_
  refine z_aload_0 d_Mo_copyGot_5 ?_
  refine z_iconst (a := nI 0) d_Mo_copyGot_6 (by decide) ?_
  refine z_putI d_Mo_copyGot_7 f_Mo_73 (by first | assumption | exact zS0_at (by assumption) (by omega) | exact zS0_at rfl (by omega)) ?_
  rw [← hI1]
  refine z_aload_0 d_Mo_copyGot_10 ?_
  refine z_iload_1 d_Mo_copyGot_11 ?_
  refine z_Vi1 d_Mo_copyGot_12 k_Mo_347 (by first | assumption | exact zS0_at (by assumption) (by omega) | exact zS0_at rfl (by omega)) (t_Mo_isTray) ⟨Nat.le_of_ble_eq_true rfl, Nat.le_of_ble_eq_true rfl, Nat.le_of_ble_eq_true rfl, Nat.le_of_ble_eq_true rfl⟩ (Nat.le_of_ble_eq_true rfl) ?_
  intro r w hq
  rcases hq with ⟨⟨hz12, rfl⟩ | ⟨hz12, rfl⟩, rfl⟩
  · first
    | contradiction
    | ( skip
        refine z_if_ne (tgt := 24) d_Mo_copyGot_15 (by decide) (fun _ => ?_) (fun h => absurd h (by decide))
        refine z_aload_0 d_Mo_copyGot_24 ?_
        refine z_getR d_Mo_copyGot_25 f_Mo_17 (by first | assumption | exact zS0_at (by assumption) (by omega) | exact zS0_at rfl (by omega)) (by first | assumption | exact zS0_at (by assumption) (by omega) | exact zS0_at rfl (by omega)) ?_
        refine z_iload_1 d_Mo_copyGot_28 ?_
        first | refine z_ialdNv d_Mo_copyGot_29 (by first | assumption | exact zS0_at (by assumption) (by omega) | exact zS0_at rfl (by omega)) (by omega) (by first | decide | omega) (by first | assumption | ((try simp (disch := omega) only [zu_same, zu_ne, zcp_ne, zfl_ne]); first | assumption | rfl)) ?_ | refine z_iald d_Mo_copyGot_29 (by first | assumption | exact zS0_at (by assumption) (by omega) | exact zS0_at rfl (by omega)) (by first | assumption | exact zS0_at (by assumption) (by omega) | exact zS0_at rfl (by omega)) ?_
        refine z_if_ge (tgt := 39) d_Mo_copyGot_30 (by decide) (fun h30 => ?_) (fun h30 => ?_)
        · first
          | (simp (disch := omega) only [← nI_0, nI_leI, nI_ltI, nI_eq, not_true_eq_false, not_false_eq_true] at h30; done)
          | (simp (disch := omega) only [← nI_0, nI_leI, nI_ltI, nI_eq, not_true_eq_false, not_false_eq_true] at h30; omega)
          | contradiction
          | exact absurd h30 (Int32.not_lt.mpr (by assumption))
          | exact absurd h30 (Int32.not_le.mpr (by assumption))
          | exact absurd h30 (by decide)
          | exact absurd (by decide) h30
          | ( try simp (disch := omega) only [← nI_0, nI_leI, nI_ltI, nI_eq, not_true_eq_false, not_false_eq_true] at h30
              (try have h30b := zbit_n0.mp h30); (try have h30b := zbit_p0.mp h30)
              refine z_aload_0 d_Mo_copyGot_39 ?_
              refine z_getR d_Mo_copyGot_40 f_Mo_17 (by first | assumption | exact zS0_at (by assumption) (by omega) | exact zS0_at rfl (by omega)) (by first | assumption | exact zS0_at (by assumption) (by omega) | exact zS0_at rfl (by omega)) ?_
              refine z_iload_1 d_Mo_copyGot_43 ?_
              first | refine z_ialdNv d_Mo_copyGot_44 (by first | assumption | exact zS0_at (by assumption) (by omega) | exact zS0_at rfl (by omega)) (by omega) (by first | decide | omega) (by first | assumption | ((try simp (disch := omega) only [zu_same, zu_ne, zcp_ne, zfl_ne]); first | assumption | rfl)) ?_ | refine z_iald d_Mo_copyGot_44 (by first | assumption | exact zS0_at (by assumption) (by omega) | exact zS0_at rfl (by omega)) (by first | assumption | exact zS0_at (by assumption) (by omega) | exact zS0_at rfl (by omega)) ?_
              refine z_aload_0 d_Mo_copyGot_45 ?_
              refine z_getR d_Mo_copyGot_46 f_Mo_35 (by first | assumption | exact zS0_at (by assumption) (by omega) | exact zS0_at rfl (by omega)) (by first | assumption | exact zS0_at (by assumption) (by omega) | exact zS0_at rfl (by omega)) ?_
              refine z_iconst (a := nI 1) d_Mo_copyGot_49 (by decide) ?_
              first | refine z_ialdNv d_Mo_copyGot_50 (by first | assumption | exact zS0_at (by assumption) (by omega) | exact zS0_at rfl (by omega)) (by omega) (by first | decide | omega) (by first | assumption | ((try simp (disch := omega) only [zu_same, zu_ne, zcp_ne, zfl_ne]); first | assumption | rfl)) ?_ | refine z_iald d_Mo_copyGot_50 (by first | assumption | exact zS0_at (by assumption) (by omega) | exact zS0_at rfl (by omega)) (by first | assumption | exact zS0_at (by assumption) (by omega) | exact zS0_at rfl (by omega)) ?_
              refine z_icmp_ge (tgt := 60) d_Mo_copyGot_51 (by decide) (fun h51 => ?_) (fun h51 => ?_)
              · first
                | (simp (disch := omega) only [← nI_0, nI_leI, nI_ltI, nI_eq, not_true_eq_false, not_false_eq_true] at h51; done)
                | (simp (disch := omega) only [← nI_0, nI_leI, nI_ltI, nI_eq, not_true_eq_false, not_false_eq_true] at h51; omega)
                | contradiction
                | exact absurd h51 (Int32.not_lt.mpr (by assumption))
                | exact absurd h51 (Int32.not_le.mpr (by assumption))
                | exact absurd h51 (by decide)
                | exact absurd (by decide) h51
                | ( try simp (disch := omega) only [← nI_0, nI_leI, nI_ltI, nI_eq, not_true_eq_false, not_false_eq_true] at h51
                    (try have h51b := zbit_n0.mp h51); (try have h51b := zbit_p0.mp h51)
                    fail)
              · first
                | (simp (disch := omega) only [← nI_0, nI_leI, nI_ltI, nI_eq, not_true_eq_false, not_false_eq_true] at h51; done)
                | (simp (disch := omega) only [← nI_0, nI_leI, nI_ltI, nI_eq, not_true_eq_false, not_false_eq_true] at h51; omega)
                | contradiction
                | exact absurd h51 (Int32.not_lt.mpr (by assumption))
                | exact absurd h51 (Int32.not_le.mpr (by assumption))
                | exact absurd h51 (by decide)
                | exact absurd (by decide) h51
                | ( try simp (disch := omega) only [← nI_0, nI_leI, nI_ltI, nI_eq, not_true_eq_false, not_false_eq_true] at h51
                    (try have h51b := zbit_n0.mp h51); (try have h51b := zbit_p0.mp h51)
                    refine z_aload_0 d_Mo_copyGot_54 ?_
                    refine z_iconst (a := nI 4) d_Mo_copyGot_55 (by decide) ?_
                    refine z_Vi1 d_Mo_copyGot_56 k_Mo_327 (by first | assumption | exact zS0_at (by assumption) (by omega) | exact zS0_at rfl (by omega)) (t_Mo_refuse (by assumption)) ⟨Nat.le_of_ble_eq_true rfl, Nat.le_of_ble_eq_true rfl, Nat.le_of_ble_eq_true rfl, Nat.le_of_ble_eq_true rfl⟩ (Nat.le_of_ble_eq_true rfl) ?_
                    intro r w hq
                    obtain ⟨rfl, rfl⟩ := hq
                    refine z_reti d_Mo_copyGot_59 ?_
                    exact ⟨rfl, _, _, rfl, mqF_z h1 (by decide), mqJ_r, zu_same _ _ _ _⟩))
        · first
          | (simp (disch := omega) only [← nI_0, nI_leI, nI_ltI, nI_eq, not_true_eq_false, not_false_eq_true] at h30; done)
          | (simp (disch := omega) only [← nI_0, nI_leI, nI_ltI, nI_eq, not_true_eq_false, not_false_eq_true] at h30; omega)
          | contradiction
          | exact absurd h30 (Int32.not_lt.mpr (by assumption))
          | exact absurd h30 (Int32.not_le.mpr (by assumption))
          | exact absurd h30 (by decide)
          | exact absurd (by decide) h30
          | ( try simp (disch := omega) only [← nI_0, nI_leI, nI_ltI, nI_eq, not_true_eq_false, not_false_eq_true] at h30
              (try have h30b := zbit_n0.mp h30); (try have h30b := zbit_p0.mp h30)
              refine z_aload_0 d_Mo_copyGot_33 ?_
              refine z_iconst (a := nI 3) d_Mo_copyGot_34 (by decide) ?_
              refine z_Vi1 d_Mo_copyGot_35 k_Mo_327 (by first | assumption | exact zS0_at (by assumption) (by omega) | exact zS0_at rfl (by omega)) (t_Mo_refuse (by assumption)) ⟨Nat.le_of_ble_eq_true rfl, Nat.le_of_ble_eq_true rfl, Nat.le_of_ble_eq_true rfl, Nat.le_of_ble_eq_true rfl⟩ (Nat.le_of_ble_eq_true rfl) ?_
              intro r w hq
              obtain ⟨rfl, rfl⟩ := hq
              refine z_reti d_Mo_copyGot_38 ?_
              exact ⟨rfl, _, _, rfl, mqF_z h1 (by decide), mqJ_r, zu_same _ _ _ _⟩))
  · first
    | contradiction
    | ( skip
        refine z_if_ne (tgt := 24) d_Mo_copyGot_15 (by decide) (fun h => absurd h (by decide)) (fun _ => ?_)
        refine z_aload_0 d_Mo_copyGot_18 ?_
        refine z_iconst (a := nI 1) d_Mo_copyGot_19 (by decide) ?_
        refine z_Vi1 d_Mo_copyGot_20 k_Mo_327 (by first | assumption | exact zS0_at (by assumption) (by omega) | exact zS0_at rfl (by omega)) (t_Mo_refuse (by assumption)) ⟨Nat.le_of_ble_eq_true rfl, Nat.le_of_ble_eq_true rfl, Nat.le_of_ble_eq_true rfl, Nat.le_of_ble_eq_true rfl⟩ (Nat.le_of_ble_eq_true rfl) ?_
        intro r w hq
        obtain ⟨rfl, rfl⟩ := hq
        refine z_reti d_Mo_copyGot_23 ?_
        exact ⟨rfl, _, _, rfl, mqF_z h1 (by decide), mqJ_r, zu_same _ _ _ _⟩)
theorem t_Mo_copyGot (M : modOk P S) (N : modIn I nt np nl nn) (ht : t < 4) (hm : I 147 t = nI l) (hl6 : l ≤ 60) (hp : np ≤ l) (hk : I 146 t = nI k) (hk3 : k ≤ 3) : zEi G y_Mo_copyGot prog_14_method_88_code 3 (some .int) 4 [.ref 145, .int (nI t)] (I, J, P, S) (fun r w => r = nI np ∧ ∃ I1, mD I I1 ∧ w = (I1, s_cg J 148 (60 * t) k (fun p => I 150 (26 + p)) np, P, S)) := by
  obtain ⟨M0, ⟨M4, M4s⟩, ⟨M5, M5s⟩, ⟨M6, M6s⟩, ⟨M7, M7s⟩, ⟨M20, M20s⟩, ⟨M21, M21s⟩, ⟨M22, M22s⟩, ⟨M26, M26s⟩, ⟨M27, M27s⟩, ⟨M28, M28s⟩, ⟨M30, M30s⟩, ⟨M34, M34s⟩, ⟨M36, M36s⟩, ⟨M37, M37s⟩⟩ := id M
  obtain ⟨I1, hI1, N1, h1, h0, e150, er, ek⟩ := mo_beg N
  have hz : zin (nI t) 4 := ⟨t, ht, rfl⟩
  have nb : np ≤ 7 := N.2.1.2
  have m1 : I1 150 1 = nI np := N1.2.1.1
  have hm1 : I1 147 t = nI l := by rw [er 147 (by decide)]; exact hm
  have hk1 : I1 146 t = nI k := by rw [er 146 (by decide)]; exact hk
  have hDD : ∀ Ia, mD I Ia → mD I (zu (zu Ia 145 1 (nI 0)) 145 0 (nI 0)) := fun Ia h => ⟨mqF_z (mqF_z h.1 (by decide)) (by decide), zu_same _ _ _ _, by rw [zu_row _ _ _ _ (by decide), zu_row _ _ _ _ (by decide)]; exact h.2.2.1, fun a ha => by rw [zu_row _ _ _ _ ha, zu_row _ _ _ _ ha]; exact h.2.2.2 a ha⟩
  refine zEi_of (lv := [some (.ref 145), some (.int (nI t)), none]) (by decide) rfl (Nat.le_of_ble_eq_true rfl) ?_
  have loop : ∀ m j, np - j < m → j ≤ np → ∀ Ia, mD I Ia → zA G y_Mo_copyGot prog_14_method_88_code 3 (some .int) (zRm 4 0 0) (zM G 0 0 (fun r w' => ∃ x, r = some (.int x) ∧ (fun r w => r = nI np ∧ ∃ I1, mD I I1 ∧ w = (I1, s_cg J 148 (60 * t) k (fun p => I 150 (26 + p)) np, P, S)) x w')) 62 [some (.ref 145), some (.int (nI t)), some (.int (nI j))] [] (Ia, s_cg J 148 (60 * t) k (fun p => I 150 (26 + p)) j, P, S) 0 0 := by
    intro m
    induction m with
    | zero => intro j h; omega
    | succ m ih =>
      intro j hm' hj Ia hD
      have p1 : Ia 150 1 = nI np := by rw [hD.2.2.1]; exact N.2.1.1
      have p26 : Ia 150 (26 + j) = I 150 (26 + j) := by rw [hD.2.2.1]
      have p147 : Ia 147 t = nI l := by rw [hD.2.2.2 147 (by decide)]; exact hm
      have p146 : Ia 146 t = nI k := by rw [hD.2.2.2 146 (by decide)]; exact hk
      refine z_iload_2 d_Mo_copyGot_62 ?_
      refine z_aload_0 d_Mo_copyGot_63 ?_
      refine z_getR d_Mo_copyGot_64 f_Mo_35 (by first | assumption | exact zS0_at (by assumption) (by omega) | exact zS0_at rfl (by omega)) (by first | assumption | exact zS0_at (by assumption) (by omega) | exact zS0_at rfl (by omega)) ?_
      refine z_iconst (a := nI 1) d_Mo_copyGot_67 (by decide) ?_
      first | refine z_ialdNv d_Mo_copyGot_68 (by first | assumption | exact zS0_at (by assumption) (by omega) | exact zS0_at rfl (by omega)) (by omega) (by first | decide | omega) (by first | assumption | ((try simp (disch := omega) only [zu_same, zu_ne, zcp_ne, zfl_ne]); first | assumption | rfl)) ?_ | refine z_iald d_Mo_copyGot_68 (by first | assumption | exact zS0_at (by assumption) (by omega) | exact zS0_at rfl (by omega)) (by first | assumption | exact zS0_at (by assumption) (by omega) | exact zS0_at rfl (by omega)) ?_
      refine z_icmp_ge (tgt := 95) d_Mo_copyGot_69 (by decide) (fun hb => ?_) (fun hb => ?_)
      · have hb := (nI_leI (by omega) (by omega)).mp hb
        obtain rfl : j = np := by omega
        refine z_aload_0 d_Mo_copyGot_95 ?_
        refine z_getR d_Mo_copyGot_96 f_Mo_35 (by first | assumption | exact zS0_at (by assumption) (by omega) | exact zS0_at rfl (by omega)) (by first | assumption | exact zS0_at (by assumption) (by omega) | exact zS0_at rfl (by omega)) ?_
        refine z_iconst (a := nI 1) d_Mo_copyGot_99 (by decide) ?_
        first | refine z_ialdNv d_Mo_copyGot_100 (by first | assumption | exact zS0_at (by assumption) (by omega) | exact zS0_at rfl (by omega)) (by omega) (by first | decide | omega) (by first | assumption | ((try simp (disch := omega) only [zu_same, zu_ne, zcp_ne, zfl_ne]); first | assumption | rfl)) ?_ | refine z_iald d_Mo_copyGot_100 (by first | assumption | exact zS0_at (by assumption) (by omega) | exact zS0_at rfl (by omega)) (by first | assumption | exact zS0_at (by assumption) (by omega) | exact zS0_at rfl (by omega)) ?_
        refine z_reti d_Mo_copyGot_101 ?_
        exact ⟨rfl, Ia, hD, rfl⟩
      · have hb : j < np := Nat.lt_of_not_le (fun q => hb (nI_le q (by omega)))
        have q := ih (j + 1) (by omega) (by omega) _ (hDD Ia hD)
        rw [s_cg] at q
        refine z_aload_0 d_Mo_copyGot_72 ?_
        refine z_iload_1 d_Mo_copyGot_73 ?_
        refine z_iload_2 d_Mo_copyGot_74 ?_
        refine z_aload_0 d_Mo_copyGot_75 ?_
        refine z_getR d_Mo_copyGot_76 f_Mo_35 (by first | assumption | exact zS0_at (by assumption) (by omega) | exact zS0_at rfl (by omega)) (by first | assumption | exact zS0_at (by assumption) (by omega) | exact zS0_at rfl (by omega)) ?_
        refine z_bipush (a := nI 26) d_Mo_copyGot_79 (by decide) ?_
        refine z_iload_2 d_Mo_copyGot_81 ?_
        first | refine z_iaddN d_Mo_copyGot_82 ?_ | refine z_iadd d_Mo_copyGot_82 ?_
        first | refine z_ialdNv d_Mo_copyGot_83 (by first | assumption | exact zS0_at (by assumption) (by omega) | exact zS0_at rfl (by omega)) (by omega) (by first | decide | omega) (by first | assumption | ((try simp (disch := omega) only [zu_same, zu_ne, zcp_ne, zfl_ne]); first | assumption | rfl)) ?_ | refine z_iald d_Mo_copyGot_83 (by first | assumption | exact zS0_at (by assumption) (by omega) | exact zS0_at rfl (by omega)) (by first | assumption | exact zS0_at (by assumption) (by omega) | exact zS0_at rfl (by omega)) ?_
        refine z_i2l d_Mo_copyGot_84 ?_
        refine z_Vi3 d_Mo_copyGot_85 k_Mo_350 (by first | assumption | exact zS0_at (by assumption) (by omega) | exact zS0_at rfl (by omega)) (t_Mo_write M ht p147 hl6 (by omega) p146 hk3) ⟨Nat.le_of_ble_eq_true rfl, Nat.le_of_ble_eq_true rfl, Nat.le_of_ble_eq_true rfl, Nat.le_of_ble_eq_true rfl⟩ (Nat.le_of_ble_eq_true rfl) ?_
        intro r w hq
        obtain ⟨rfl, rfl⟩ := hq
        refine z_pop rfl d_Mo_copyGot_88 ?_
        first | refine z_iinc_2 d_Mo_copyGot_89 rfl (zi_inc _) ?_ | refine z_iinc_2 d_Mo_copyGot_89 rfl rfl ?_
        refine z_goto (tgt := 62) d_Mo_copyGot_92 (by decide) ?_
        exact q
  refine z_aload_0 d_Mo_copyGot_0 ?_
  refine z_iconst (a := nI 0) d_Mo_copyGot_1 (by decide) ?_
  refine z_putI d_Mo_copyGot_2 f_Mo_70 (by first | assumption | exact zS0_at (by assumption) (by omega) | exact zS0_at rfl (by omega)) ?_
  refine z_aload_0 d_Mo_copyGot_5 ?_
  refine z_iconst (a := nI 0) d_Mo_copyGot_6 (by decide) ?_
  refine z_putI d_Mo_copyGot_7 f_Mo_73 (by first | assumption | exact zS0_at (by assumption) (by omega) | exact zS0_at rfl (by omega)) ?_
  rw [← hI1]
  refine z_aload_0 d_Mo_copyGot_10 ?_
  refine z_iload_1 d_Mo_copyGot_11 ?_
  refine z_Vi1 d_Mo_copyGot_12 k_Mo_347 (by first | assumption | exact zS0_at (by assumption) (by omega) | exact zS0_at rfl (by omega)) (t_Mo_isTray) ⟨Nat.le_of_ble_eq_true rfl, Nat.le_of_ble_eq_true rfl, Nat.le_of_ble_eq_true rfl, Nat.le_of_ble_eq_true rfl⟩ (Nat.le_of_ble_eq_true rfl) ?_
  intro r w hq
  rcases hq with ⟨⟨hz12, rfl⟩ | ⟨hz12, rfl⟩, rfl⟩
  · first
    | contradiction
    | ( skip
        refine z_if_ne (tgt := 24) d_Mo_copyGot_15 (by decide) (fun _ => ?_) (fun h => absurd h (by decide))
        refine z_aload_0 d_Mo_copyGot_24 ?_
        refine z_getR d_Mo_copyGot_25 f_Mo_17 (by first | assumption | exact zS0_at (by assumption) (by omega) | exact zS0_at rfl (by omega)) (by first | assumption | exact zS0_at (by assumption) (by omega) | exact zS0_at rfl (by omega)) ?_
        refine z_iload_1 d_Mo_copyGot_28 ?_
        first | refine z_ialdNv d_Mo_copyGot_29 (by first | assumption | exact zS0_at (by assumption) (by omega) | exact zS0_at rfl (by omega)) (by omega) (by first | decide | omega) (by first | assumption | ((try simp (disch := omega) only [zu_same, zu_ne, zcp_ne, zfl_ne]); first | assumption | rfl)) ?_ | refine z_iald d_Mo_copyGot_29 (by first | assumption | exact zS0_at (by assumption) (by omega) | exact zS0_at rfl (by omega)) (by first | assumption | exact zS0_at (by assumption) (by omega) | exact zS0_at rfl (by omega)) ?_
        refine z_if_ge (tgt := 39) d_Mo_copyGot_30 (by decide) (fun h30 => ?_) (fun h30 => ?_)
        · first
          | (simp (disch := omega) only [← nI_0, nI_leI, nI_ltI, nI_eq, not_true_eq_false, not_false_eq_true] at h30; done)
          | (simp (disch := omega) only [← nI_0, nI_leI, nI_ltI, nI_eq, not_true_eq_false, not_false_eq_true] at h30; omega)
          | contradiction
          | exact absurd h30 (Int32.not_lt.mpr (by assumption))
          | exact absurd h30 (Int32.not_le.mpr (by assumption))
          | exact absurd h30 (by decide)
          | exact absurd (by decide) h30
          | ( try simp (disch := omega) only [← nI_0, nI_leI, nI_ltI, nI_eq, not_true_eq_false, not_false_eq_true] at h30
              (try have h30b := zbit_n0.mp h30); (try have h30b := zbit_p0.mp h30)
              refine z_aload_0 d_Mo_copyGot_39 ?_
              refine z_getR d_Mo_copyGot_40 f_Mo_17 (by first | assumption | exact zS0_at (by assumption) (by omega) | exact zS0_at rfl (by omega)) (by first | assumption | exact zS0_at (by assumption) (by omega) | exact zS0_at rfl (by omega)) ?_
              refine z_iload_1 d_Mo_copyGot_43 ?_
              first | refine z_ialdNv d_Mo_copyGot_44 (by first | assumption | exact zS0_at (by assumption) (by omega) | exact zS0_at rfl (by omega)) (by omega) (by first | decide | omega) (by first | assumption | ((try simp (disch := omega) only [zu_same, zu_ne, zcp_ne, zfl_ne]); first | assumption | rfl)) ?_ | refine z_iald d_Mo_copyGot_44 (by first | assumption | exact zS0_at (by assumption) (by omega) | exact zS0_at rfl (by omega)) (by first | assumption | exact zS0_at (by assumption) (by omega) | exact zS0_at rfl (by omega)) ?_
              refine z_aload_0 d_Mo_copyGot_45 ?_
              refine z_getR d_Mo_copyGot_46 f_Mo_35 (by first | assumption | exact zS0_at (by assumption) (by omega) | exact zS0_at rfl (by omega)) (by first | assumption | exact zS0_at (by assumption) (by omega) | exact zS0_at rfl (by omega)) ?_
              refine z_iconst (a := nI 1) d_Mo_copyGot_49 (by decide) ?_
              first | refine z_ialdNv d_Mo_copyGot_50 (by first | assumption | exact zS0_at (by assumption) (by omega) | exact zS0_at rfl (by omega)) (by omega) (by first | decide | omega) (by first | assumption | ((try simp (disch := omega) only [zu_same, zu_ne, zcp_ne, zfl_ne]); first | assumption | rfl)) ?_ | refine z_iald d_Mo_copyGot_50 (by first | assumption | exact zS0_at (by assumption) (by omega) | exact zS0_at rfl (by omega)) (by first | assumption | exact zS0_at (by assumption) (by omega) | exact zS0_at rfl (by omega)) ?_
              refine z_icmp_ge (tgt := 60) d_Mo_copyGot_51 (by decide) (fun h51 => ?_) (fun h51 => ?_)
              · first
                | (simp (disch := omega) only [← nI_0, nI_leI, nI_ltI, nI_eq, not_true_eq_false, not_false_eq_true] at h51; done)
                | (simp (disch := omega) only [← nI_0, nI_leI, nI_ltI, nI_eq, not_true_eq_false, not_false_eq_true] at h51; omega)
                | contradiction
                | exact absurd h51 (Int32.not_lt.mpr (by assumption))
                | exact absurd h51 (Int32.not_le.mpr (by assumption))
                | exact absurd h51 (by decide)
                | exact absurd (by decide) h51
                | ( try simp (disch := omega) only [← nI_0, nI_leI, nI_ltI, nI_eq, not_true_eq_false, not_false_eq_true] at h51
                    (try have h51b := zbit_n0.mp h51); (try have h51b := zbit_p0.mp h51)
                    refine z_iconst (a := nI 0) d_Mo_copyGot_60 (by decide) ?_
                    first | refine z_istore_2 d_Mo_copyGot_61 rfl ?_ | (refine z_forget_1 ?_; refine z_istore_2 d_Mo_copyGot_61 rfl ?_)
                    exact loop (np + 1) 0 (by omega) (by omega) I1 ⟨h1, h0, e150, er⟩)
              · first
                | (simp (disch := omega) only [← nI_0, nI_leI, nI_ltI, nI_eq, not_true_eq_false, not_false_eq_true] at h51; done)
                | (simp (disch := omega) only [← nI_0, nI_leI, nI_ltI, nI_eq, not_true_eq_false, not_false_eq_true] at h51; omega)
                | contradiction
                | exact absurd h51 (Int32.not_lt.mpr (by assumption))
                | exact absurd h51 (Int32.not_le.mpr (by assumption))
                | exact absurd h51 (by decide)
                | exact absurd (by decide) h51
                | ( try simp (disch := omega) only [← nI_0, nI_leI, nI_ltI, nI_eq, not_true_eq_false, not_false_eq_true] at h51
                    (try have h51b := zbit_n0.mp h51); (try have h51b := zbit_p0.mp h51)
                    refine z_aload_0 d_Mo_copyGot_54 ?_
                    refine z_iconst (a := nI 4) d_Mo_copyGot_55 (by decide) ?_
                    refine z_Vi1 d_Mo_copyGot_56 k_Mo_327 (by first | assumption | exact zS0_at (by assumption) (by omega) | exact zS0_at rfl (by omega)) (t_Mo_refuse (by assumption)) ⟨Nat.le_of_ble_eq_true rfl, Nat.le_of_ble_eq_true rfl, Nat.le_of_ble_eq_true rfl, Nat.le_of_ble_eq_true rfl⟩ (Nat.le_of_ble_eq_true rfl) ?_
                    intro r w hq
                    obtain ⟨rfl, rfl⟩ := hq
                    refine z_reti d_Mo_copyGot_59 ?_
                    exact ⟨rfl, rfl⟩))
        · first
          | (simp (disch := omega) only [← nI_0, nI_leI, nI_ltI, nI_eq, not_true_eq_false, not_false_eq_true] at h30; done)
          | (simp (disch := omega) only [← nI_0, nI_leI, nI_ltI, nI_eq, not_true_eq_false, not_false_eq_true] at h30; omega)
          | contradiction
          | exact absurd h30 (Int32.not_lt.mpr (by assumption))
          | exact absurd h30 (Int32.not_le.mpr (by assumption))
          | exact absurd h30 (by decide)
          | exact absurd (by decide) h30
          | ( try simp (disch := omega) only [← nI_0, nI_leI, nI_ltI, nI_eq, not_true_eq_false, not_false_eq_true] at h30
              (try have h30b := zbit_n0.mp h30); (try have h30b := zbit_p0.mp h30)
              refine z_aload_0 d_Mo_copyGot_33 ?_
              refine z_iconst (a := nI 3) d_Mo_copyGot_34 (by decide) ?_
              refine z_Vi1 d_Mo_copyGot_35 k_Mo_327 (by first | assumption | exact zS0_at (by assumption) (by omega) | exact zS0_at rfl (by omega)) (t_Mo_refuse (by assumption)) ⟨Nat.le_of_ble_eq_true rfl, Nat.le_of_ble_eq_true rfl, Nat.le_of_ble_eq_true rfl, Nat.le_of_ble_eq_true rfl⟩ (Nat.le_of_ble_eq_true rfl) ?_
              intro r w hq
              obtain ⟨rfl, rfl⟩ := hq
              refine z_reti d_Mo_copyGot_38 ?_
              exact ⟨rfl, rfl⟩))
  · first
    | contradiction
    | ( skip
        refine z_if_ne (tgt := 24) d_Mo_copyGot_15 (by decide) (fun h => absurd h (by decide)) (fun _ => ?_)
        refine z_aload_0 d_Mo_copyGot_18 ?_
        refine z_iconst (a := nI 1) d_Mo_copyGot_19 (by decide) ?_
        refine z_Vi1 d_Mo_copyGot_20 k_Mo_327 (by first | assumption | exact zS0_at (by assumption) (by omega) | exact zS0_at rfl (by omega)) (t_Mo_refuse (by assumption)) ⟨Nat.le_of_ble_eq_true rfl, Nat.le_of_ble_eq_true rfl, Nat.le_of_ble_eq_true rfl, Nat.le_of_ble_eq_true rfl⟩ (Nat.le_of_ble_eq_true rfl) ?_
        intro r w hq
        obtain ⟨rfl, rfl⟩ := hq
        refine z_reti d_Mo_copyGot_23 ?_
        exact ⟨rfl, rfl⟩)
theorem L_copyGot (h : zInv n w) : zEi G y_Tf_copyGot prog_1_method_17_code 4 (some .int) 3 [.ref 0, .int a] w (fun r w1 => w1.2.2.2 = w.2.2.2 ∧ zEi G y_Mo_copyGot prog_14_method_88_code 3 (some .int) 4 [.ref 145, .int a] w1 (fun r' w2 => r' = r ∧ zInv (n + 1) w2)) := by
  obtain ⟨f, d, nt, np, nl, nn, fed, mk, I, J, P, S, rfl, Z, X⟩ := h
  have M := clOk_M Z
  have hf := clOk_f Z
  have N := stR_fen X
  have N0 := stR_mod X
  have fm := stR_fm X
  obtain ⟨⟨⟨a1, r1, b1⟩, ⟨a2, r2, b2⟩, ⟨a3, r3, b3⟩, ⟨a4, r4, b4⟩⟩, ⟨⟨o, ob, ao, ro⟩, r5⟩, fw, fp, ft, fz⟩ := id fm
  by_cases ha : zin a 4
  rotate_left
  · exact L_q Z X (t_Tf_copyGot_o Z ha) (fun I' J' e _ => ⟨_, rfl, t_Mo_copyGot_o M (modIn_c N0 (e 150 (by decide))) ha⟩)
  obtain ⟨t, ht, rfl⟩ := ha
  rcases X.2.1 t ht with ⟨h1, h2⟩ | ⟨k, l, hk3, hl6, q1, ⟨q2, q3⟩, ⟨q4, q5⟩, q6⟩
  · exact L_q Z X (t_Tf_copyGot_m Z ht h1) (fun I' J' e _ => ⟨_, rfl, t_Mo_copyGot_m M (modIn_c N0 (e 150 (by decide))) ht (by rw [e 147 (by decide)]; exact h2)⟩)
  by_cases hp : l < np
  · exact L_q Z X (t_Tf_copyGot_x Z N ht q1 q4 hl6 hp) (fun I' J' e _ => ⟨_, rfl, t_Mo_copyGot_x M (modIn_c N0 (e 150 (by decide))) ht (by rw [e 147 (by decide)]; exact q5) hl6 hp⟩)
  have hp : np ≤ l := by omega
  refine zEi_mono (t_Tf_copyGot Z N ht q1 q4 hl6 hp q2 hk3) ?_
  rintro r w ⟨rfl, rfl⟩
  refine ⟨rfl, zEi_mono (t_Mo_copyGot M (modIn_c N0 (zu_row _ _ _ _ (by decide))) ht (by rw [zu_row _ _ _ _ (by decide)]; exact q5) hl6 hp (by rw [zu_row _ _ _ _ (by decide)]; exact q3) hk3) ?_⟩
  rintro r w ⟨rfl, I1, hD, rfl⟩
  have er : ∀ a, a ≠ 145 → a ≠ 0 → I1 a = I a := fun a g1 g2 => by rw [hD.2.2.2 a g1, zu_row _ _ _ _ g2]
  refine ⟨rfl, L_tr (t := t) (Ic := I) Z X ht (fun _ _ => rfl) hD (fun _ _ _ => rfl) (fun v hv => by rw [er 146 (by decide) (by decide), er 147 (by decide) (by decide)]; exact ⟨rfl, rfl⟩) (fun a g1 g2 => by rw [s_cg_row g2, s_cg_row (by omega)]) (fun v p' hv h4 hp' => by rw [s_cg_out _ (by omega), s_cg_row (by omega)]) (Or.inr ⟨k, l, hk3, hl6, ?_, ⟨?_, ?_⟩, ⟨?_, ?_⟩, fun p' hp' => ?_⟩)⟩
  · rw [er _ (by omega) (by omega)]; exact q1
  · rw [er _ (by omega) (by omega)]; exact q2
  · rw [er _ (by omega) (by omega)]; exact q3
  · rw [er _ (by omega) (by omega)]; exact q4
  · rw [er _ (by omega) (by omega)]; exact q5
  · rw [show 4 + 2 * t = 3 + 2 * t + 1 by omega, s_cg_row (a := 3 + 2 * t + 1) (q := 148) (by omega)]
    by_cases e : p' < np
    · rw [s_cg_in np e]
      have := s_cg_in (J := J) (q := 3 + 2 * t + 1) (bb := 0) (k := k) (g := I (f + 4)) (i := p') np e
      rw [Nat.zero_add] at this
      rw [this, zu_row _ _ _ _ (by decide)]
      obtain ⟨-, -, v, -, v1, v2⟩ := fp p' e
      have v1 : I (f + 4) p' = nI v := v1
      rw [v1, v2]
    · rw [s_cg_out np (by omega), s_cg_out np (by omega), s_cg_row (by omega)]
      have := q6 p' hp'
      rw [show 4 + 2 * t = 3 + 2 * t + 1 by omega] at this
      exact this
end TY3
