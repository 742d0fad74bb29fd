/-! round, roundAt: together -/
section RE0
variable {G : zG} {I I' I1 I2 I3 : Nat → Nat → Int32} {J J' J2 : Nat → Nat → Int64} {P : Nat → Nat → Option Nat} {S : List (Nat × Nat)} {f d nt np nl nn n fed mk t k p q who s bl L j kk most : Nat} {a c x : Int32} {w : zW} {mt mt' : Nat → Int32} {tk : Int32} {b : Nat → Bool} {v v' : Nat → Nat} {T : Nat → Int32}
theorem mx_c (h : ∀ i, i < n → v' i = v i) : s_mx b v' n = s_mx b v n ∧ s_am b v' n = s_am b v n := by
  have : ∀ m, m ≤ n → s_mx b v' m = s_mx b v m ∧ s_am b v' m = s_am b v m := by
    intro m
    induction m with
    | zero => intro _; exact ⟨rfl, rfl⟩
    | succ m ih =>
      intro hm
      obtain ⟨h1, h2⟩ := ih (by omega)
      rw [s_mx, s_mx, s_am, s_am, h1, h2, h m (by omega)]
      exact ⟨rfl, rfl⟩
  exact this n (Nat.le_refl _)
theorem am_lt (hn : 0 < n) : s_am b v n < n := by
  have : ∀ m, s_am b v m < m ∨ s_am b v m = 0 := by
    intro m
    induction m with
    | zero => exact Or.inr rfl
    | succ m ih =>
      rw [s_am]
      split
      · exact Or.inl (by omega)
      · omega
  have := this n
  omega
theorem lg_c (h : ∀ i, i < np → mt' i = mt i) : ∀ D who s, who < np → s_lg mt' tk np D who s = s_lg mt tk np D who s := by
  intro D
  induction D with
  | zero => intro who s _; rfl
  | succ D ih =>
    intro who s hw
    rw [s_lg, s_lg, h who hw, (mx_c (fun i hi => ih i _ hi)).1]
theorem ch_c (h : ∀ i, i < np → mt' i = mt i) : ∀ i D who s, who < np → s_ch mt' tk np i D who s = s_ch mt tk np i D who s := by
  intro i
  induction i with
  | zero => intro D who s _; rfl
  | succ i ih =>
    intro D who s hw
    have e : s_am (lgB mt' tk who s) (lgV mt' tk np D s) np = s_am (lgB mt tk who s) (lgV mt tk np D s) np := by
      rw [show lgB mt' tk who s = lgB mt tk who s by unfold lgB; rw [h who hw]]
      exact (mx_c (fun i hi => lg_c h D i _ hi)).2
    rw [s_ch, s_ch, e]
    exact ih _ _ _ (am_lt (by omega))
theorem t_Tf_round_o (Z : clOk f d P S) (N : fenIn I f nt np nl nn) (h : ¬ zin a nn) : zEi G y_Tf_round prog_1_method_31_code 3 (some .int) 11 [.ref 0, .int a] (I, J, P, S) (fun r w => r = -1 ∧ cW I J P S 2 w) := by
  obtain ⟨⟨c0, c3, c1s⟩, ⟨c5, c2s, ctr⟩, ⟨c6, c11s, c11, c13s⟩, ⟨c7, c15s, c15⟩, ⟨c8, c16s, c16a, c16b, c17s⟩, ⟨c9, c10, cfd, F, Fd⟩, ⟨c11b, Ft⟩, ⟨c12, c69s, cmk⟩, ⟨c14, c121s, c121, c122s⟩, ⟨c15b, c123s, c123, c124s⟩, ⟨c16, c125s, c125, c126s⟩, ⟨c17, c127s, c127, c128s, ctb⟩, ⟨c18, c139s, c139, c140s⟩, ⟨c19, c141s, ⟨c141a, c142s⟩, ⟨c141b, c143s⟩, ⟨c141c, c144s⟩⟩, M⟩ := id Z
  refine zEi_of (lv := [some (.ref 0), some (.int a), none]) (by decide) rfl (Nat.le_of_ble_eq_true rfl) ?_
  refine z_aload_0 d_Tf_round_0 ?_
  refine z_iload_1 d_Tf_round_1 ?_
  refine z_Vi1 d_Tf_round_2 k_Tf_276 (by first | assumption | exact zS0_at (by assumption) (by omega) | exact zS0_at rfl (by omega)) (t_Tf_tinStatus_o Z N h) ⟨Nat.le_of_ble_eq_true rfl, Nat.le_of_ble_eq_true rfl, Nat.le_of_ble_eq_true rfl, Nat.le_of_ble_eq_true rfl⟩ (Nat.le_of_ble_eq_true rfl) ?_
  intro r w hq
  obtain ⟨rfl, rfl⟩ := hq
  first | refine z_istore_2 d_Tf_round_5 rfl ?_ | (refine z_forget_1 ?_; refine z_istore_2 d_Tf_round_5 rfl ?_)
  refine z_iload_2 d_Tf_round_6 ?_
  refine z_if_eq (tgt := 16) d_Tf_round_7 (by decide) (fun h7 => ?_) (fun h7 => ?_)
  · first
    | (simp (disch := omega) only [← nI_0, nI_leI, nI_ltI, nI_eq, not_true_eq_false, not_false_eq_true] at h7; done)
    | (simp (disch := omega) only [← nI_0, nI_leI, nI_ltI, nI_eq, not_true_eq_false, not_false_eq_true] at h7; omega)
    | contradiction
    | exact absurd h7 (Int32.not_lt.mpr (by assumption))
    | exact absurd h7 (Int32.not_le.mpr (by assumption))
    | exact absurd h7 (by decide)
    | exact absurd (by decide) h7
    | ( try simp (disch := omega) only [← nI_0, nI_leI, nI_ltI, nI_eq, not_true_eq_false, not_false_eq_true] at h7
        (try have h7b := zbit_n0.mp h7); (try have h7b := zbit_p0.mp h7)
        fail)
  · first
    | (simp (disch := omega) only [← nI_0, nI_leI, nI_ltI, nI_eq, not_true_eq_false, not_false_eq_true] at h7; done)
    | (simp (disch := omega) only [← nI_0, nI_leI, nI_ltI, nI_eq, not_true_eq_false, not_false_eq_true] at h7; omega)
    | contradiction
    | exact absurd h7 (Int32.not_lt.mpr (by assumption))
    | exact absurd h7 (Int32.not_le.mpr (by assumption))
    | exact absurd h7 (by decide)
    | exact absurd (by decide) h7
    | ( try simp (disch := omega) only [← nI_0, nI_leI, nI_ltI, nI_eq, not_true_eq_false, not_false_eq_true] at h7
        (try have h7b := zbit_n0.mp h7); (try have h7b := zbit_p0.mp h7)
        refine z_aload_0 d_Tf_round_10 ?_
        refine z_iload_2 d_Tf_round_11 ?_
        refine z_Vi1 d_Tf_round_12 k_Tf_138 (by first | assumption | exact zS0_at (by assumption) (by omega) | exact zS0_at rfl (by omega)) (t_Tf_fail (by assumption)) ⟨Nat.le_of_ble_eq_true rfl, Nat.le_of_ble_eq_true rfl, Nat.le_of_ble_eq_true rfl, Nat.le_of_ble_eq_true rfl⟩ (Nat.le_of_ble_eq_true rfl) ?_
        intro r w hq
        obtain ⟨rfl, rfl⟩ := hq
        refine z_reti d_Tf_round_15 ?_
        exact ⟨rfl, cW_0⟩)
theorem t_Tf_round_g (Z : clOk f d P S) (N : fenIn I f nt np nl nn) (ht : t < nn) (hg : I (f + 6) t = -1) : zEi G y_Tf_round prog_1_method_31_code 3 (some .int) 11 [.ref 0, .int (nI t)] (I, J, P, S) (fun r w => r = -1 ∧ cW I J P S 9 w) := by
  obtain ⟨⟨c0, c3, c1s⟩, ⟨c5, c2s, ctr⟩, ⟨c6, c11s, c11, c13s⟩, ⟨c7, c15s, c15⟩, ⟨c8, c16s, c16a, c16b, c17s⟩, ⟨c9, c10, cfd, F, Fd⟩, ⟨c11b, Ft⟩, ⟨c12, c69s, cmk⟩, ⟨c14, c121s, c121, c122s⟩, ⟨c15b, c123s, c123, c124s⟩, ⟨c16, c125s, c125, c126s⟩, ⟨c17, c127s, c127, c128s, ctb⟩, ⟨c18, c139s, c139, c140s⟩, ⟨c19, c141s, ⟨c141a, c142s⟩, ⟨c141b, c143s⟩, ⟨c141c, c144s⟩⟩, M⟩ := id Z
  refine zEi_of (lv := [some (.ref 0), some (.int (nI t)), none]) (by decide) rfl (Nat.le_of_ble_eq_true rfl) ?_
  refine z_aload_0 d_Tf_round_0 ?_
  refine z_iload_1 d_Tf_round_1 ?_
  refine z_Vi1 d_Tf_round_2 k_Tf_276 (by first | assumption | exact zS0_at (by assumption) (by omega) | exact zS0_at rfl (by omega)) (t_Tf_tinStatus_g Z N ht hg) ⟨Nat.le_of_ble_eq_true rfl, Nat.le_of_ble_eq_true rfl, Nat.le_of_ble_eq_true rfl, Nat.le_of_ble_eq_true rfl⟩ (Nat.le_of_ble_eq_true rfl) ?_
  intro r w hq
  obtain ⟨rfl, rfl⟩ := hq
  first | refine z_istore_2 d_Tf_round_5 rfl ?_ | (refine z_forget_1 ?_; refine z_istore_2 d_Tf_round_5 rfl ?_)
  refine z_iload_2 d_Tf_round_6 ?_
  refine z_if_eq (tgt := 16) d_Tf_round_7 (by decide) (fun h7 => ?_) (fun h7 => ?_)
  · first
    | (simp (disch := omega) only [← nI_0, nI_leI, nI_ltI, nI_eq, not_true_eq_false, not_false_eq_true] at h7; done)
    | (simp (disch := omega) only [← nI_0, nI_leI, nI_ltI, nI_eq, not_true_eq_false, not_false_eq_true] at h7; omega)
    | contradiction
    | exact absurd h7 (Int32.not_lt.mpr (by assumption))
    | exact absurd h7 (Int32.not_le.mpr (by assumption))
    | exact absurd h7 (by decide)
    | exact absurd (by decide) h7
    | ( try simp (disch := omega) only [← nI_0, nI_leI, nI_ltI, nI_eq, not_true_eq_false, not_false_eq_true] at h7
        (try have h7b := zbit_n0.mp h7); (try have h7b := zbit_p0.mp h7)
        fail)
  · first
    | (simp (disch := omega) only [← nI_0, nI_leI, nI_ltI, nI_eq, not_true_eq_false, not_false_eq_true] at h7; done)
    | (simp (disch := omega) only [← nI_0, nI_leI, nI_ltI, nI_eq, not_true_eq_false, not_false_eq_true] at h7; omega)
    | contradiction
    | exact absurd h7 (Int32.not_lt.mpr (by assumption))
    | exact absurd h7 (Int32.not_le.mpr (by assumption))
    | exact absurd h7 (by decide)
    | exact absurd (by decide) h7
    | ( try simp (disch := omega) only [← nI_0, nI_leI, nI_ltI, nI_eq, not_true_eq_false, not_false_eq_true] at h7
        (try have h7b := zbit_n0.mp h7); (try have h7b := zbit_p0.mp h7)
        refine z_aload_0 d_Tf_round_10 ?_
        refine z_iload_2 d_Tf_round_11 ?_
        refine z_Vi1 d_Tf_round_12 k_Tf_138 (by first | assumption | exact zS0_at (by assumption) (by omega) | exact zS0_at rfl (by omega)) (t_Tf_fail (by assumption)) ⟨Nat.le_of_ble_eq_true rfl, Nat.le_of_ble_eq_true rfl, Nat.le_of_ble_eq_true rfl, Nat.le_of_ble_eq_true rfl⟩ (Nat.le_of_ble_eq_true rfl) ?_
        intro r w hq
        obtain ⟨rfl, rfl⟩ := hq
        refine z_reti d_Tf_round_15 ?_
        exact ⟨rfl, cW_0⟩)
theorem t_Tf_round (Z : clOk f d P S) (N : fenIn I f nt np nl nn) (ht : t < nn) (hk : I (f + 5) t = nI k) (hp : I (f + 6) t = nI p) (hp2 : p < np) : zEi G y_Tf_round prog_1_method_31_code 3 (some .int) 11 [.ref 0, .int (nI t)] (I, J, P, S) (fun r w => r = nI (s_lg (I (f + 3)) (s_set (fun p => zB (I (f + 2) p) k) np) np 7 p (2 ^ p)) ∧ cW I J P S 0 w) := by
  obtain ⟨⟨c0, c3, c1s⟩, ⟨c5, c2s, ctr⟩, ⟨c6, c11s, c11, c13s⟩, ⟨c7, c15s, c15⟩, ⟨c8, c16s, c16a, c16b, c17s⟩, ⟨c9, c10, cfd, F, Fd⟩, ⟨c11b, Ft⟩, ⟨c12, c69s, cmk⟩, ⟨c14, c121s, c121, c122s⟩, ⟨c15b, c123s, c123, c124s⟩, ⟨c16, c125s, c125, c126s⟩, ⟨c17, c127s, c127, c128s, ctb⟩, ⟨c18, c139s, c139, c140s⟩, ⟨c19, c141s, ⟨c141a, c142s⟩, ⟨c141b, c143s⟩, ⟨c141c, c144s⟩⟩, M⟩ := id Z
  obtain ⟨F0, ⟨F8, F8s⟩, ⟨F9, F9s⟩, ⟨F10, F10s⟩, ⟨F11, F11s⟩, ⟨F12, F12s⟩, ⟨F13, F13s⟩, ⟨F14, F14s⟩, ⟨F15, F15s⟩, ⟨F16, F16s⟩, ⟨F17, F17s⟩, ⟨F18, F18s⟩, ⟨F19, F19s⟩, ⟨Y3, Y3s⟩, ⟨Y4, Y4s⟩, ⟨Y5, Y5s⟩, ⟨Y6, Y6s⟩⟩ := id F
  refine zEi_of (lv := [some (.ref 0), some (.int (nI t)), none]) (by decide) rfl (Nat.le_of_ble_eq_true rfl) ?_
  refine z_aload_0 d_Tf_round_0 ?_
  refine z_iload_1 d_Tf_round_1 ?_
  refine z_Vi1 d_Tf_round_2 k_Tf_276 (by first | assumption | exact zS0_at (by assumption) (by omega) | exact zS0_at rfl (by omega)) (t_Tf_tinStatus_p Z N ht hp hp2) ⟨Nat.le_of_ble_eq_true rfl, Nat.le_of_ble_eq_true rfl, Nat.le_of_ble_eq_true rfl, Nat.le_of_ble_eq_true rfl⟩ (Nat.le_of_ble_eq_true rfl) ?_
  intro r w hq
  obtain ⟨rfl, rfl⟩ := hq
  first | refine z_istore_2 d_Tf_round_5 rfl ?_ | (refine z_forget_1 ?_; refine z_istore_2 d_Tf_round_5 rfl ?_)
  refine z_iload_2 d_Tf_round_6 ?_
  refine z_if_eq (tgt := 16) d_Tf_round_7 (by decide) (fun h7 => ?_) (fun h7 => ?_)
  · first
    | (simp (disch := omega) only [← nI_0, nI_leI, nI_ltI, nI_eq, not_true_eq_false, not_false_eq_true] at h7; done)
    | (simp (disch := omega) only [← nI_0, nI_leI, nI_ltI, nI_eq, not_true_eq_false, not_false_eq_true] at h7; omega)
    | contradiction
    | exact absurd h7 (Int32.not_lt.mpr (by assumption))
    | exact absurd h7 (Int32.not_le.mpr (by assumption))
    | exact absurd h7 (by decide)
    | exact absurd (by decide) h7
    | ( try simp (disch := omega) only [← nI_0, nI_leI, nI_ltI, nI_eq, not_true_eq_false, not_false_eq_true] at h7
        (try have h7b := zbit_n0.mp h7); (try have h7b := zbit_p0.mp h7)
        refine z_aload_0 d_Tf_round_16 ?_
        refine z_aload_0 d_Tf_round_17 ?_
        refine z_getR d_Tf_round_18 f_Tf_60 (by first | assumption | exact zS0_at (by assumption) (by omega) | exact zS0_at rfl (by omega)) (by first | assumption | exact zS0_at (by assumption) (by omega) | exact zS0_at rfl (by omega)) ?_
        refine z_iload_1 d_Tf_round_21 ?_
        refine z_Si2 d_Tf_round_22 k_Tf_321 (t_Rows_mostOnRound F N ht hk hp hp2) ⟨Nat.le_of_ble_eq_true rfl, Nat.le_of_ble_eq_true rfl, Nat.le_of_ble_eq_true rfl, Nat.le_of_ble_eq_true rfl⟩ (Nat.le_of_ble_eq_true rfl) ?_
        intro r w hq
        obtain ⟨rfl, rfl⟩ := hq
        refine z_Vi1 d_Tf_round_25 k_Tf_174 (by first | assumption | exact zS0_at (by assumption) (by omega) | exact zS0_at rfl (by omega)) (t_Tf_give (by assumption)) ⟨Nat.le_of_ble_eq_true rfl, Nat.le_of_ble_eq_true rfl, Nat.le_of_ble_eq_true rfl, Nat.le_of_ble_eq_true rfl⟩ (Nat.le_of_ble_eq_true rfl) ?_
        intro r w hq
        obtain ⟨rfl, rfl⟩ := hq
        refine z_reti d_Tf_round_28 ?_
        exact ⟨rfl, cW_0⟩)
  · first
    | (simp (disch := omega) only [← nI_0, nI_leI, nI_ltI, nI_eq, not_true_eq_false, not_false_eq_true] at h7; done)
    | (simp (disch := omega) only [← nI_0, nI_leI, nI_ltI, nI_eq, not_true_eq_false, not_false_eq_true] at h7; omega)
    | contradiction
    | exact absurd h7 (Int32.not_lt.mpr (by assumption))
    | exact absurd h7 (Int32.not_le.mpr (by assumption))
    | exact absurd h7 (by decide)
    | exact absurd (by decide) h7
    | ( try simp (disch := omega) only [← nI_0, nI_leI, nI_ltI, nI_eq, not_true_eq_false, not_false_eq_true] at h7
        (try have h7b := zbit_n0.mp h7); (try have h7b := zbit_p0.mp h7)
        refine z_aload_0 d_Tf_round_10 ?_
        refine z_iload_2 d_Tf_round_11 ?_
        refine z_Vi1 d_Tf_round_12 k_Tf_138 (by first | assumption | exact zS0_at (by assumption) (by omega) | exact zS0_at rfl (by omega)) (t_Tf_fail (by assumption)) ⟨Nat.le_of_ble_eq_true rfl, Nat.le_of_ble_eq_true rfl, Nat.le_of_ble_eq_true rfl, Nat.le_of_ble_eq_true rfl⟩ (Nat.le_of_ble_eq_true rfl) ?_
        intro r w hq
        obtain ⟨rfl, rfl⟩ := hq
        refine z_reti d_Tf_round_15 ?_
        exact ⟨rfl, cW_0⟩)
theorem t_Tf_roundAt_o (Z : clOk f d P S) (N : fenIn I f nt np nl nn) (h : ¬ zin a nn) : zEi G y_Tf_roundAt prog_1_method_32_code 5 (some .int) 12 [.ref 0, .int a, .int c] (I, J, P, S) (fun r w => r = -1 ∧ cW I J P S 2 w) := by
  obtain ⟨⟨c0, c3, c1s⟩, ⟨c5, c2s, ctr⟩, ⟨c6, c11s, c11, c13s⟩, ⟨c7, c15s, c15⟩, ⟨c8, c16s, c16a, c16b, c17s⟩, ⟨c9, c10, cfd, F, Fd⟩, ⟨c11b, Ft⟩, ⟨c12, c69s, cmk⟩, ⟨c14, c121s, c121, c122s⟩, ⟨c15b, c123s, c123, c124s⟩, ⟨c16, c125s, c125, c126s⟩, ⟨c17, c127s, c127, c128s, ctb⟩, ⟨c18, c139s, c139, c140s⟩, ⟨c19, c141s, ⟨c141a, c142s⟩, ⟨c141b, c143s⟩, ⟨c141c, c144s⟩⟩, M⟩ := id Z
  refine zEi_of (lv := [some (.ref 0), some (.int a), some (.int c), none, none]) (by decide) rfl (Nat.le_of_ble_eq_true rfl) ?_
  refine z_aload_0 d_Tf_roundAt_0 ?_
  refine z_iload_1 d_Tf_roundAt_1 ?_
  refine z_Vi1 d_Tf_roundAt_2 k_Tf_276 (by first | assumption | exact zS0_at (by assumption) (by omega) | exact zS0_at rfl (by omega)) (t_Tf_tinStatus_o Z N h) ⟨Nat.le_of_ble_eq_true rfl, Nat.le_of_ble_eq_true rfl, Nat.le_of_ble_eq_true rfl, Nat.le_of_ble_eq_true rfl⟩ (Nat.le_of_ble_eq_true rfl) ?_
  intro r w hq
  obtain ⟨rfl, rfl⟩ := hq
  first | refine z_istore_3 d_Tf_roundAt_5 rfl ?_ | (refine z_forget_2 ?_; refine z_istore_3 d_Tf_roundAt_5 rfl ?_)
  refine z_iload_3 d_Tf_roundAt_6 ?_
  refine z_if_eq (tgt := 16) d_Tf_roundAt_7 (by decide) (fun h7 => ?_) (fun h7 => ?_)
  · first
    | (simp (disch := omega) only [← nI_0, nI_leI, nI_ltI, nI_eq, not_true_eq_false, not_false_eq_true] at h7; done)
    | (simp (disch := omega) only [← nI_0, nI_leI, nI_ltI, nI_eq, not_true_eq_false, not_false_eq_true] at h7; omega)
    | contradiction
    | exact absurd h7 (Int32.not_lt.mpr (by assumption))
    | exact absurd h7 (Int32.not_le.mpr (by assumption))
    | exact absurd h7 (by decide)
    | exact absurd (by decide) h7
    | ( try simp (disch := omega) only [← nI_0, nI_leI, nI_ltI, nI_eq, not_true_eq_false, not_false_eq_true] at h7
        (try have h7b := zbit_n0.mp h7); (try have h7b := zbit_p0.mp h7)
        fail)
  · first
    | (simp (disch := omega) only [← nI_0, nI_leI, nI_ltI, nI_eq, not_true_eq_false, not_false_eq_true] at h7; done)
    | (simp (disch := omega) only [← nI_0, nI_leI, nI_ltI, nI_eq, not_true_eq_false, not_false_eq_true] at h7; omega)
    | contradiction
    | exact absurd h7 (Int32.not_lt.mpr (by assumption))
    | exact absurd h7 (Int32.not_le.mpr (by assumption))
    | exact absurd h7 (by decide)
    | exact absurd (by decide) h7
    | ( try simp (disch := omega) only [← nI_0, nI_leI, nI_ltI, nI_eq, not_true_eq_false, not_false_eq_true] at h7
        (try have h7b := zbit_n0.mp h7); (try have h7b := zbit_p0.mp h7)
        refine z_aload_0 d_Tf_roundAt_10 ?_
        refine z_iload_3 d_Tf_roundAt_11 ?_
        refine z_Vi1 d_Tf_roundAt_12 k_Tf_138 (by first | assumption | exact zS0_at (by assumption) (by omega) | exact zS0_at rfl (by omega)) (t_Tf_fail (by assumption)) ⟨Nat.le_of_ble_eq_true rfl, Nat.le_of_ble_eq_true rfl, Nat.le_of_ble_eq_true rfl, Nat.le_of_ble_eq_true rfl⟩ (Nat.le_of_ble_eq_true rfl) ?_
        intro r w hq
        obtain ⟨rfl, rfl⟩ := hq
        refine z_reti d_Tf_roundAt_15 ?_
        exact ⟨rfl, cW_0⟩)
theorem t_Tf_roundAt_g (Z : clOk f d P S) (N : fenIn I f nt np nl nn) (ht : t < nn) (hg : I (f + 6) t = -1) : zEi G y_Tf_roundAt prog_1_method_32_code 5 (some .int) 12 [.ref 0, .int (nI t), .int c] (I, J, P, S) (fun r w => r = -1 ∧ cW I J P S 9 w) := by
  obtain ⟨⟨c0, c3, c1s⟩, ⟨c5, c2s, ctr⟩, ⟨c6, c11s, c11, c13s⟩, ⟨c7, c15s, c15⟩, ⟨c8, c16s, c16a, c16b, c17s⟩, ⟨c9, c10, cfd, F, Fd⟩, ⟨c11b, Ft⟩, ⟨c12, c69s, cmk⟩, ⟨c14, c121s, c121, c122s⟩, ⟨c15b, c123s, c123, c124s⟩, ⟨c16, c125s, c125, c126s⟩, ⟨c17, c127s, c127, c128s, ctb⟩, ⟨c18, c139s, c139, c140s⟩, ⟨c19, c141s, ⟨c141a, c142s⟩, ⟨c141b, c143s⟩, ⟨c141c, c144s⟩⟩, M⟩ := id Z
  refine zEi_of (lv := [some (.ref 0), some (.int (nI t)), some (.int c), none, none]) (by decide) rfl (Nat.le_of_ble_eq_true rfl) ?_
  refine z_aload_0 d_Tf_roundAt_0 ?_
  refine z_iload_1 d_Tf_roundAt_1 ?_
  refine z_Vi1 d_Tf_roundAt_2 k_Tf_276 (by first | assumption | exact zS0_at (by assumption) (by omega) | exact zS0_at rfl (by omega)) (t_Tf_tinStatus_g Z N ht hg) ⟨Nat.le_of_ble_eq_true rfl, Nat.le_of_ble_eq_true rfl, Nat.le_of_ble_eq_true rfl, Nat.le_of_ble_eq_true rfl⟩ (Nat.le_of_ble_eq_true rfl) ?_
  intro r w hq
  obtain ⟨rfl, rfl⟩ := hq
  first | refine z_istore_3 d_Tf_roundAt_5 rfl ?_ | (refine z_forget_2 ?_; refine z_istore_3 d_Tf_roundAt_5 rfl ?_)
  refine z_iload_3 d_Tf_roundAt_6 ?_
  refine z_if_eq (tgt := 16) d_Tf_roundAt_7 (by decide) (fun h7 => ?_) (fun h7 => ?_)
  · first
    | (simp (disch := omega) only [← nI_0, nI_leI, nI_ltI, nI_eq, not_true_eq_false, not_false_eq_true] at h7; done)
    | (simp (disch := omega) only [← nI_0, nI_leI, nI_ltI, nI_eq, not_true_eq_false, not_false_eq_true] at h7; omega)
    | contradiction
    | exact absurd h7 (Int32.not_lt.mpr (by assumption))
    | exact absurd h7 (Int32.not_le.mpr (by assumption))
    | exact absurd h7 (by decide)
    | exact absurd (by decide) h7
    | ( try simp (disch := omega) only [← nI_0, nI_leI, nI_ltI, nI_eq, not_true_eq_false, not_false_eq_true] at h7
        (try have h7b := zbit_n0.mp h7); (try have h7b := zbit_p0.mp h7)
        fail)
  · first
    | (simp (disch := omega) only [← nI_0, nI_leI, nI_ltI, nI_eq, not_true_eq_false, not_false_eq_true] at h7; done)
    | (simp (disch := omega) only [← nI_0, nI_leI, nI_ltI, nI_eq, not_true_eq_false, not_false_eq_true] at h7; omega)
    | contradiction
    | exact absurd h7 (Int32.not_lt.mpr (by assumption))
    | exact absurd h7 (Int32.not_le.mpr (by assumption))
    | exact absurd h7 (by decide)
    | exact absurd (by decide) h7
    | ( try simp (disch := omega) only [← nI_0, nI_leI, nI_ltI, nI_eq, not_true_eq_false, not_false_eq_true] at h7
        (try have h7b := zbit_n0.mp h7); (try have h7b := zbit_p0.mp h7)
        refine z_aload_0 d_Tf_roundAt_10 ?_
        refine z_iload_3 d_Tf_roundAt_11 ?_
        refine z_Vi1 d_Tf_roundAt_12 k_Tf_138 (by first | assumption | exact zS0_at (by assumption) (by omega) | exact zS0_at rfl (by omega)) (t_Tf_fail (by assumption)) ⟨Nat.le_of_ble_eq_true rfl, Nat.le_of_ble_eq_true rfl, Nat.le_of_ble_eq_true rfl, Nat.le_of_ble_eq_true rfl⟩ (Nat.le_of_ble_eq_true rfl) ?_
        intro r w hq
        obtain ⟨rfl, rfl⟩ := hq
        refine z_reti d_Tf_roundAt_15 ?_
        exact ⟨rfl, cW_0⟩)
theorem t_Tf_roundAt_n (Z : clOk f d P S) (N : fenIn I f nt np nl nn) (ht : t < nn) (hk : I (f + 5) t = nI k) (hp : I (f + 6) t = nI p) (hp2 : p < np) (hm : most = s_lg (I (f + 3)) (s_set (fun p => zB (I (f + 2) p) k) np) np 7 p (2 ^ p)) (hkk : c < 0 ∨ nI most ≤ c) : zEi G y_Tf_roundAt prog_1_method_32_code 5 (some .int) 12 [.ref 0, .int (nI t), .int c] (I, J, P, S) (fun r w => r = -1 ∧ cW I J P S 8 w) := by
  obtain ⟨⟨c0, c3, c1s⟩, ⟨c5, c2s, ctr⟩, ⟨c6, c11s, c11, c13s⟩, ⟨c7, c15s, c15⟩, ⟨c8, c16s, c16a, c16b, c17s⟩, ⟨c9, c10, cfd, F, Fd⟩, ⟨c11b, Ft⟩, ⟨c12, c69s, cmk⟩, ⟨c14, c121s, c121, c122s⟩, ⟨c15b, c123s, c123, c124s⟩, ⟨c16, c125s, c125, c126s⟩, ⟨c17, c127s, c127, c128s, ctb⟩, ⟨c18, c139s, c139, c140s⟩, ⟨c19, c141s, ⟨c141a, c142s⟩, ⟨c141b, c143s⟩, ⟨c141c, c144s⟩⟩, M⟩ := id Z
  obtain ⟨F0, ⟨F8, F8s⟩, ⟨F9, F9s⟩, ⟨F10, F10s⟩, ⟨F11, F11s⟩, ⟨F12, F12s⟩, ⟨F13, F13s⟩, ⟨F14, F14s⟩, ⟨F15, F15s⟩, ⟨F16, F16s⟩, ⟨F17, F17s⟩, ⟨F18, F18s⟩, ⟨F19, F19s⟩, ⟨Y3, Y3s⟩, ⟨Y4, Y4s⟩, ⟨Y5, Y5s⟩, ⟨Y6, Y6s⟩⟩ := id F
  have hlt : (-1 : Int32) < 0 := by decide
  refine zEi_of (lv := [some (.ref 0), some (.int (nI t)), some (.int c), none, none]) (by decide) rfl (Nat.le_of_ble_eq_true rfl) ?_
  refine z_aload_0 d_Tf_roundAt_0 ?_
  refine z_iload_1 d_Tf_roundAt_1 ?_
  refine z_Vi1 d_Tf_roundAt_2 k_Tf_276 (by first | assumption | exact zS0_at (by assumption) (by omega) | exact zS0_at rfl (by omega)) (t_Tf_tinStatus_p Z N ht hp hp2) ⟨Nat.le_of_ble_eq_true rfl, Nat.le_of_ble_eq_true rfl, Nat.le_of_ble_eq_true rfl, Nat.le_of_ble_eq_true rfl⟩ (Nat.le_of_ble_eq_true rfl) ?_
  intro r w hq
  obtain ⟨rfl, rfl⟩ := hq
  first | refine z_istore_3 d_Tf_roundAt_5 rfl ?_ | (refine z_forget_2 ?_; refine z_istore_3 d_Tf_roundAt_5 rfl ?_)
  refine z_iload_3 d_Tf_roundAt_6 ?_
  refine z_if_eq (tgt := 16) d_Tf_roundAt_7 (by decide) (fun h7 => ?_) (fun h7 => ?_)
  · first
    | (simp (disch := omega) only [← nI_0, nI_leI, nI_ltI, nI_eq, not_true_eq_false, not_false_eq_true] at h7; done)
    | (simp (disch := omega) only [← nI_0, nI_leI, nI_ltI, nI_eq, not_true_eq_false, not_false_eq_true] at h7; omega)
    | contradiction
    | exact absurd h7 (Int32.not_lt.mpr (by assumption))
    | exact absurd h7 (Int32.not_le.mpr (by assumption))
    | exact absurd h7 (by decide)
    | exact absurd (by decide) h7
    | ( try simp (disch := omega) only [← nI_0, nI_leI, nI_ltI, nI_eq, not_true_eq_false, not_false_eq_true] at h7
        (try have h7b := zbit_n0.mp h7); (try have h7b := zbit_p0.mp h7)
        refine z_aload_0 d_Tf_roundAt_16 ?_
        refine z_getR d_Tf_roundAt_17 f_Tf_60 (by first | assumption | exact zS0_at (by assumption) (by omega) | exact zS0_at rfl (by omega)) (by first | assumption | exact zS0_at (by assumption) (by omega) | exact zS0_at rfl (by omega)) ?_
        refine z_iload_1 d_Tf_roundAt_20 ?_
        refine z_iload_2 d_Tf_roundAt_21 ?_
        refine z_Si3 d_Tf_roundAt_22 k_Tf_324 (t_Rows_onRound0 F N ht hk hp hp2 hm hkk) ⟨Nat.le_of_ble_eq_true rfl, Nat.le_of_ble_eq_true rfl, Nat.le_of_ble_eq_true rfl, Nat.le_of_ble_eq_true rfl⟩ (Nat.le_of_ble_eq_true rfl) ?_
        intro r w hq
        obtain ⟨rfl, rfl⟩ := hq
        first | refine z_istore_4 d_Tf_roundAt_25 rfl ?_ | (refine z_forget_3 ?_; refine z_istore_4 d_Tf_roundAt_25 rfl ?_)
        refine z_iload_4 d_Tf_roundAt_27 ?_
        refine z_if_ge (tgt := 41) d_Tf_roundAt_29 (by decide) (fun h29 => ?_) (fun h29 => ?_)
        · first
          | (simp (disch := omega) only [← nI_0, nI_leI, nI_ltI, nI_eq, not_true_eq_false, not_false_eq_true] at h29; done)
          | (simp (disch := omega) only [← nI_0, nI_leI, nI_ltI, nI_eq, not_true_eq_false, not_false_eq_true] at h29; omega)
          | contradiction
          | exact absurd h29 (Int32.not_lt.mpr (by assumption))
          | exact absurd h29 (Int32.not_le.mpr (by assumption))
          | exact absurd h29 (by decide)
          | exact absurd (by decide) h29
          | ( try simp (disch := omega) only [← nI_0, nI_leI, nI_ltI, nI_eq, not_true_eq_false, not_false_eq_true] at h29
              (try have h29b := zbit_n0.mp h29); (try have h29b := zbit_p0.mp h29)
              refine z_aload_0 d_Tf_roundAt_41 ?_
              refine z_iload_4 d_Tf_roundAt_42 ?_
              refine z_Vi1 d_Tf_roundAt_44 k_Tf_174 (by first | assumption | exact zS0_at (by assumption) (by omega) | exact zS0_at rfl (by omega)) (t_Tf_give (by assumption)) ⟨Nat.le_of_ble_eq_true rfl, Nat.le_of_ble_eq_true rfl, Nat.le_of_ble_eq_true rfl, Nat.le_of_ble_eq_true rfl⟩ (Nat.le_of_ble_eq_true rfl) ?_
              intro r w hq
              obtain ⟨rfl, rfl⟩ := hq
              refine z_reti d_Tf_roundAt_47 ?_
              exact ⟨rfl, cW_0⟩)
        · first
          | (simp (disch := omega) only [← nI_0, nI_leI, nI_ltI, nI_eq, not_true_eq_false, not_false_eq_true] at h29; done)
          | (simp (disch := omega) only [← nI_0, nI_leI, nI_ltI, nI_eq, not_true_eq_false, not_false_eq_true] at h29; omega)
          | contradiction
          | exact absurd h29 (Int32.not_lt.mpr (by assumption))
          | exact absurd h29 (Int32.not_le.mpr (by assumption))
          | exact absurd h29 (by decide)
          | exact absurd (by decide) h29
          | ( try simp (disch := omega) only [← nI_0, nI_leI, nI_ltI, nI_eq, not_true_eq_false, not_false_eq_true] at h29
              (try have h29b := zbit_n0.mp h29); (try have h29b := zbit_p0.mp h29)
              refine z_aload_0 d_Tf_roundAt_32 ?_
              refine z_bipush (a := nI 8) d_Tf_roundAt_33 (by decide) ?_
              refine z_Vi1 d_Tf_roundAt_35 k_Tf_138 (by first | assumption | exact zS0_at (by assumption) (by omega) | exact zS0_at rfl (by omega)) (t_Tf_fail (by assumption)) ⟨Nat.le_of_ble_eq_true rfl, Nat.le_of_ble_eq_true rfl, Nat.le_of_ble_eq_true rfl, Nat.le_of_ble_eq_true rfl⟩ (Nat.le_of_ble_eq_true rfl) ?_
              intro r w hq
              obtain ⟨rfl, rfl⟩ := hq
              refine z_goto (tgt := 47) d_Tf_roundAt_38 (by decide) ?_
              refine z_reti d_Tf_roundAt_47 ?_
              exact ⟨rfl, cW_0⟩))
  · first
    | (simp (disch := omega) only [← nI_0, nI_leI, nI_ltI, nI_eq, not_true_eq_false, not_false_eq_true] at h7; done)
    | (simp (disch := omega) only [← nI_0, nI_leI, nI_ltI, nI_eq, not_true_eq_false, not_false_eq_true] at h7; omega)
    | contradiction
    | exact absurd h7 (Int32.not_lt.mpr (by assumption))
    | exact absurd h7 (Int32.not_le.mpr (by assumption))
    | exact absurd h7 (by decide)
    | exact absurd (by decide) h7
    | ( try simp (disch := omega) only [← nI_0, nI_leI, nI_ltI, nI_eq, not_true_eq_false, not_false_eq_true] at h7
        (try have h7b := zbit_n0.mp h7); (try have h7b := zbit_p0.mp h7)
        refine z_aload_0 d_Tf_roundAt_10 ?_
        refine z_iload_3 d_Tf_roundAt_11 ?_
        refine z_Vi1 d_Tf_roundAt_12 k_Tf_138 (by first | assumption | exact zS0_at (by assumption) (by omega) | exact zS0_at rfl (by omega)) (t_Tf_fail (by assumption)) ⟨Nat.le_of_ble_eq_true rfl, Nat.le_of_ble_eq_true rfl, Nat.le_of_ble_eq_true rfl, Nat.le_of_ble_eq_true rfl⟩ (Nat.le_of_ble_eq_true rfl) ?_
        intro r w hq
        obtain ⟨rfl, rfl⟩ := hq
        refine z_reti d_Tf_roundAt_15 ?_
        exact ⟨rfl, cW_0⟩)
theorem t_Tf_roundAt (Z : clOk f d P S) (N : fenIn I f nt np nl nn) (ht : t < nn) (hk : I (f + 5) t = nI k) (hp : I (f + 6) t = nI p) (hp2 : p < np) (hm : most = s_lg (I (f + 3)) (s_set (fun p => zB (I (f + 2) p) k) np) np 7 p (2 ^ p)) (hkk : kk < most) {z : Nat} (hz : z < 7) (hw : (s_rnd (I (f + 3)) (s_set (fun p => zB (I (f + 2) p) k) np) np p most kk).1 = z) : zEi G y_Tf_roundAt prog_1_method_32_code 5 (some .int) 12 [.ref 0, .int (nI t), .int (nI kk)] (I, J, P, S) (fun r w => r = nI z ∧ cW I J P S 0 w) := by
  obtain ⟨⟨c0, c3, c1s⟩, ⟨c5, c2s, ctr⟩, ⟨c6, c11s, c11, c13s⟩, ⟨c7, c15s, c15⟩, ⟨c8, c16s, c16a, c16b, c17s⟩, ⟨c9, c10, cfd, F, Fd⟩, ⟨c11b, Ft⟩, ⟨c12, c69s, cmk⟩, ⟨c14, c121s, c121, c122s⟩, ⟨c15b, c123s, c123, c124s⟩, ⟨c16, c125s, c125, c126s⟩, ⟨c17, c127s, c127, c128s, ctb⟩, ⟨c18, c139s, c139, c140s⟩, ⟨c19, c141s, ⟨c141a, c142s⟩, ⟨c141b, c143s⟩, ⟨c141c, c144s⟩⟩, M⟩ := id Z
  obtain ⟨F0, ⟨F8, F8s⟩, ⟨F9, F9s⟩, ⟨F10, F10s⟩, ⟨F11, F11s⟩, ⟨F12, F12s⟩, ⟨F13, F13s⟩, ⟨F14, F14s⟩, ⟨F15, F15s⟩, ⟨F16, F16s⟩, ⟨F17, F17s⟩, ⟨F18, F18s⟩, ⟨F19, F19s⟩, ⟨Y3, Y3s⟩, ⟨Y4, Y4s⟩, ⟨Y5, Y5s⟩, ⟨Y6, Y6s⟩⟩ := id F
  have hlt : ¬ nI z < 0 := nI_pos (by omega)
  refine zEi_of (lv := [some (.ref 0), some (.int (nI t)), some (.int (nI kk)), none, none]) (by decide) rfl (Nat.le_of_ble_eq_true rfl) ?_
  refine z_aload_0 d_Tf_roundAt_0 ?_
  refine z_iload_1 d_Tf_roundAt_1 ?_
  refine z_Vi1 d_Tf_roundAt_2 k_Tf_276 (by first | assumption | exact zS0_at (by assumption) (by omega) | exact zS0_at rfl (by omega)) (t_Tf_tinStatus_p Z N ht hp hp2) ⟨Nat.le_of_ble_eq_true rfl, Nat.le_of_ble_eq_true rfl, Nat.le_of_ble_eq_true rfl, Nat.le_of_ble_eq_true rfl⟩ (Nat.le_of_ble_eq_true rfl) ?_
  intro r w hq
  obtain ⟨rfl, rfl⟩ := hq
  first | refine z_istore_3 d_Tf_roundAt_5 rfl ?_ | (refine z_forget_2 ?_; refine z_istore_3 d_Tf_roundAt_5 rfl ?_)
  refine z_iload_3 d_Tf_roundAt_6 ?_
  refine z_if_eq (tgt := 16) d_Tf_roundAt_7 (by decide) (fun h7 => ?_) (fun h7 => ?_)
  · first
    | (simp (disch := omega) only [← nI_0, nI_leI, nI_ltI, nI_eq, not_true_eq_false, not_false_eq_true] at h7; done)
    | (simp (disch := omega) only [← nI_0, nI_leI, nI_ltI, nI_eq, not_true_eq_false, not_false_eq_true] at h7; omega)
    | contradiction
    | exact absurd h7 (Int32.not_lt.mpr (by assumption))
    | exact absurd h7 (Int32.not_le.mpr (by assumption))
    | exact absurd h7 (by decide)
    | exact absurd (by decide) h7
    | ( try simp (disch := omega) only [← nI_0, nI_leI, nI_ltI, nI_eq, not_true_eq_false, not_false_eq_true] at h7
        (try have h7b := zbit_n0.mp h7); (try have h7b := zbit_p0.mp h7)
        refine z_aload_0 d_Tf_roundAt_16 ?_
        refine z_getR d_Tf_roundAt_17 f_Tf_60 (by first | assumption | exact zS0_at (by assumption) (by omega) | exact zS0_at rfl (by omega)) (by first | assumption | exact zS0_at (by assumption) (by omega) | exact zS0_at rfl (by omega)) ?_
        refine z_iload_1 d_Tf_roundAt_20 ?_
        refine z_iload_2 d_Tf_roundAt_21 ?_
        refine z_Si3 d_Tf_roundAt_22 k_Tf_324 (t_Rows_onRound F N ht hk hp hp2 hm hkk) ⟨Nat.le_of_ble_eq_true rfl, Nat.le_of_ble_eq_true rfl, Nat.le_of_ble_eq_true rfl, Nat.le_of_ble_eq_true rfl⟩ (Nat.le_of_ble_eq_true rfl) ?_
        intro r w hq
        obtain ⟨rfl, rfl⟩ := hq
        rw [hw]
        first | refine z_istore_4 d_Tf_roundAt_25 rfl ?_ | (refine z_forget_3 ?_; refine z_istore_4 d_Tf_roundAt_25 rfl ?_)
        refine z_iload_4 d_Tf_roundAt_27 ?_
        refine z_if_ge (tgt := 41) d_Tf_roundAt_29 (by decide) (fun h29 => ?_) (fun h29 => ?_)
        · first
          | (simp (disch := omega) only [← nI_0, nI_leI, nI_ltI, nI_eq, not_true_eq_false, not_false_eq_true] at h29; done)
          | (simp (disch := omega) only [← nI_0, nI_leI, nI_ltI, nI_eq, not_true_eq_false, not_false_eq_true] at h29; omega)
          | contradiction
          | exact absurd h29 (Int32.not_lt.mpr (by assumption))
          | exact absurd h29 (Int32.not_le.mpr (by assumption))
          | exact absurd h29 (by decide)
          | exact absurd (by decide) h29
          | ( try simp (disch := omega) only [← nI_0, nI_leI, nI_ltI, nI_eq, not_true_eq_false, not_false_eq_true] at h29
              (try have h29b := zbit_n0.mp h29); (try have h29b := zbit_p0.mp h29)
              refine z_aload_0 d_Tf_roundAt_41 ?_
              refine z_iload_4 d_Tf_roundAt_42 ?_
              refine z_Vi1 d_Tf_roundAt_44 k_Tf_174 (by first | assumption | exact zS0_at (by assumption) (by omega) | exact zS0_at rfl (by omega)) (t_Tf_give (by assumption)) ⟨Nat.le_of_ble_eq_true rfl, Nat.le_of_ble_eq_true rfl, Nat.le_of_ble_eq_true rfl, Nat.le_of_ble_eq_true rfl⟩ (Nat.le_of_ble_eq_true rfl) ?_
              intro r w hq
              obtain ⟨rfl, rfl⟩ := hq
              refine z_reti d_Tf_roundAt_47 ?_
              exact ⟨rfl, cW_0⟩)
        · first
          | (simp (disch := omega) only [← nI_0, nI_leI, nI_ltI, nI_eq, not_true_eq_false, not_false_eq_true] at h29; done)
          | (simp (disch := omega) only [← nI_0, nI_leI, nI_ltI, nI_eq, not_true_eq_false, not_false_eq_true] at h29; omega)
          | contradiction
          | exact absurd h29 (Int32.not_lt.mpr (by assumption))
          | exact absurd h29 (Int32.not_le.mpr (by assumption))
          | exact absurd h29 (by decide)
          | exact absurd (by decide) h29
          | ( try simp (disch := omega) only [← nI_0, nI_leI, nI_ltI, nI_eq, not_true_eq_false, not_false_eq_true] at h29
              (try have h29b := zbit_n0.mp h29); (try have h29b := zbit_p0.mp h29)
              refine z_aload_0 d_Tf_roundAt_32 ?_
              refine z_bipush (a := nI 8) d_Tf_roundAt_33 (by decide) ?_
              refine z_Vi1 d_Tf_roundAt_35 k_Tf_138 (by first | assumption | exact zS0_at (by assumption) (by omega) | exact zS0_at rfl (by omega)) (t_Tf_fail (by assumption)) ⟨Nat.le_of_ble_eq_true rfl, Nat.le_of_ble_eq_true rfl, Nat.le_of_ble_eq_true rfl, Nat.le_of_ble_eq_true rfl⟩ (Nat.le_of_ble_eq_true rfl) ?_
              intro r w hq
              obtain ⟨rfl, rfl⟩ := hq
              refine z_goto (tgt := 47) d_Tf_roundAt_38 (by decide) ?_
              refine z_reti d_Tf_roundAt_47 ?_
              exact ⟨rfl, cW_0⟩))
  · first
    | (simp (disch := omega) only [← nI_0, nI_leI, nI_ltI, nI_eq, not_true_eq_false, not_false_eq_true] at h7; done)
    | (simp (disch := omega) only [← nI_0, nI_leI, nI_ltI, nI_eq, not_true_eq_false, not_false_eq_true] at h7; omega)
    | contradiction
    | exact absurd h7 (Int32.not_lt.mpr (by assumption))
    | exact absurd h7 (Int32.not_le.mpr (by assumption))
    | exact absurd h7 (by decide)
    | exact absurd (by decide) h7
    | ( try simp (disch := omega) only [← nI_0, nI_leI, nI_ltI, nI_eq, not_true_eq_false, not_false_eq_true] at h7
        (try have h7b := zbit_n0.mp h7); (try have h7b := zbit_p0.mp h7)
        refine z_aload_0 d_Tf_roundAt_10 ?_
        refine z_iload_3 d_Tf_roundAt_11 ?_
        refine z_Vi1 d_Tf_roundAt_12 k_Tf_138 (by first | assumption | exact zS0_at (by assumption) (by omega) | exact zS0_at rfl (by omega)) (t_Tf_fail (by assumption)) ⟨Nat.le_of_ble_eq_true rfl, Nat.le_of_ble_eq_true rfl, Nat.le_of_ble_eq_true rfl, Nat.le_of_ble_eq_true rfl⟩ (Nat.le_of_ble_eq_true rfl) ?_
        intro r w hq
        obtain ⟨rfl, rfl⟩ := hq
        refine z_reti d_Tf_roundAt_15 ?_
        exact ⟨rfl, cW_0⟩)
theorem t_Mo_round_o (M : modOk P S) (N : modIn I nt np nl nn) (h : ¬ zin a nn) : zEi G y_Mo_round prog_14_method_111_code 2 (some .int) 12 [.ref 145, .int a] (I, J, P, S) (fun r w => r = -1 ∧ mW I J P S 2 w) := by
  obtain ⟨M0, ⟨M4, M4s⟩, ⟨M5, M5s⟩, ⟨M6, M6s⟩, ⟨M7, M7s⟩, ⟨M20, M20s⟩, ⟨M21, M21s⟩, ⟨M22, M22s⟩, ⟨M26, M26s⟩, ⟨M27, M27s⟩, ⟨M28, M28s⟩, ⟨M30, M30s⟩, ⟨M34, M34s⟩, ⟨M36, M36s⟩, ⟨M37, M37s⟩⟩ := id M
  refine zEi_of (lv := [some (.ref 145), some (.int a)]) (by decide) rfl (Nat.le_of_ble_eq_true rfl) ?_
  refine z_aload_0 d_Mo_round_0 ?_
  refine z_iconst (a := nI 0) d_Mo_round_1 (by decide) ?_
  refine z_putI d_Mo_round_2 f_Mo_70 (by first | assumption | exact zS0_at (by assumption) (by omega) | exact zS0_at rfl (by omega)) ?_
  refine z_aload_0 d_Mo_round_5 ?_
  refine z_aload_0 d_Mo_round_6 ?_
  refine z_iload_1 d_Mo_round_7 ?_
  refine z_Vi1 d_Mo_round_8 k_Mo_380 (by first | assumption | exact zS0_at (by assumption) (by omega) | exact zS0_at rfl (by omega)) (t_Mo_whyNoTin_o M (modIn_z N) h) ⟨Nat.le_of_ble_eq_true rfl, Nat.le_of_ble_eq_true rfl, Nat.le_of_ble_eq_true rfl, Nat.le_of_ble_eq_true rfl⟩ (Nat.le_of_ble_eq_true rfl) ?_
  intro r w hq
  obtain ⟨rfl, rfl⟩ := hq
  refine z_putI d_Mo_round_11 f_Mo_73 (by first | assumption | exact zS0_at (by assumption) (by omega) | exact zS0_at rfl (by omega)) ?_
  refine z_aload_0 d_Mo_round_14 ?_
  refine z_getIv d_Mo_round_15 f_Mo_73 (by first | assumption | exact zS0_at (by assumption) (by omega) | exact zS0_at rfl (by omega)) (by first | assumption | ((try simp (disch := omega) only [zu_same, zu_ne, zcp_ne, zfl_ne]); first | assumption | rfl)) ?_
  refine z_if_le (tgt := 23) d_Mo_round_18 (by decide) (fun h18 => ?_) (fun h18 => ?_)
  · first
    | (simp (disch := omega) only [← nI_0, nI_leI, nI_ltI, nI_eq, not_true_eq_false, not_false_eq_true] at h18; done)
    | (simp (disch := omega) only [← nI_0, nI_leI, nI_ltI, nI_eq, not_true_eq_false, not_false_eq_true] at h18; omega)
    | contradiction
    | exact absurd h18 (Int32.not_lt.mpr (by assumption))
    | exact absurd h18 (Int32.not_le.mpr (by assumption))
    | exact absurd h18 (by decide)
    | exact absurd (by decide) h18
    | ( try simp (disch := omega) only [← nI_0, nI_leI, nI_ltI, nI_eq, not_true_eq_false, not_false_eq_true] at h18
        (try have h18b := zbit_n0.mp h18); (try have h18b := zbit_p0.mp h18)
        fail)
  · first
    | (simp (disch := omega) only [← nI_0, nI_leI, nI_ltI, nI_eq, not_true_eq_false, not_false_eq_true] at h18; done)
    | (simp (disch := omega) only [← nI_0, nI_leI, nI_ltI, nI_eq, not_true_eq_false, not_false_eq_true] at h18; omega)
    | contradiction
    | exact absurd h18 (Int32.not_lt.mpr (by assumption))
    | exact absurd h18 (Int32.not_le.mpr (by assumption))
    | exact absurd h18 (by decide)
    | exact absurd (by decide) h18
    | ( try simp (disch := omega) only [← nI_0, nI_leI, nI_ltI, nI_eq, not_true_eq_false, not_false_eq_true] at h18
        (try have h18b := zbit_n0.mp h18); (try have h18b := zbit_p0.mp h18)
        refine z_iconst (a := -1) d_Mo_round_21 (by decide) ?_
        refine z_reti d_Mo_round_22 ?_
        exact ⟨rfl, _, _, rfl, mqF_z (mqF_z mqF_r (by decide)) (by decide), mqJ_r, zu_same _ _ _ _⟩)
theorem t_Mo_round_g (M : modOk P S) (N : modIn I nt np nl nn) (ht : t < nn) (hg : I 150 (42 + t) = -1) : zEi G y_Mo_round prog_14_method_111_code 2 (some .int) 12 [.ref 145, .int (nI t)] (I, J, P, S) (fun r w => r = -1 ∧ mW I J P S 9 w) := by
  obtain ⟨M0, ⟨M4, M4s⟩, ⟨M5, M5s⟩, ⟨M6, M6s⟩, ⟨M7, M7s⟩, ⟨M20, M20s⟩, ⟨M21, M21s⟩, ⟨M22, M22s⟩, ⟨M26, M26s⟩, ⟨M27, M27s⟩, ⟨M28, M28s⟩, ⟨M30, M30s⟩, ⟨M34, M34s⟩, ⟨M36, M36s⟩, ⟨M37, M37s⟩⟩ := id M
  have hg' : zu I 145 1 (nI 0) 150 (42 + t) = -1 := by rw [zu_row _ _ _ _ (by decide)]; exact hg
  refine zEi_of (lv := [some (.ref 145), some (.int (nI t))]) (by decide) rfl (Nat.le_of_ble_eq_true rfl) ?_
  refine z_aload_0 d_Mo_round_0 ?_
  refine z_iconst (a := nI 0) d_Mo_round_1 (by decide) ?_
  refine z_putI d_Mo_round_2 f_Mo_70 (by first | assumption | exact zS0_at (by assumption) (by omega) | exact zS0_at rfl (by omega)) ?_
  refine z_aload_0 d_Mo_round_5 ?_
  refine z_aload_0 d_Mo_round_6 ?_
  refine z_iload_1 d_Mo_round_7 ?_
  refine z_Vi1 d_Mo_round_8 k_Mo_380 (by first | assumption | exact zS0_at (by assumption) (by omega) | exact zS0_at rfl (by omega)) (t_Mo_whyNoTin_g M (modIn_z N) ht hg') ⟨Nat.le_of_ble_eq_true rfl, Nat.le_of_ble_eq_true rfl, Nat.le_of_ble_eq_true rfl, Nat.le_of_ble_eq_true rfl⟩ (Nat.le_of_ble_eq_true rfl) ?_
  intro r w hq
  obtain ⟨rfl, rfl⟩ := hq
  refine z_putI d_Mo_round_11 f_Mo_73 (by first | assumption | exact zS0_at (by assumption) (by omega) | exact zS0_at rfl (by omega)) ?_
  refine z_aload_0 d_Mo_round_14 ?_
  refine z_getIv d_Mo_round_15 f_Mo_73 (by first | assumption | exact zS0_at (by assumption) (by omega) | exact zS0_at rfl (by omega)) (by first | assumption | ((try simp (disch := omega) only [zu_same, zu_ne, zcp_ne, zfl_ne]); first | assumption | rfl)) ?_
  refine z_if_le (tgt := 23) d_Mo_round_18 (by decide) (fun h18 => ?_) (fun h18 => ?_)
  · first
    | (simp (disch := omega) only [← nI_0, nI_leI, nI_ltI, nI_eq, not_true_eq_false, not_false_eq_true] at h18; done)
    | (simp (disch := omega) only [← nI_0, nI_leI, nI_ltI, nI_eq, not_true_eq_false, not_false_eq_true] at h18; omega)
    | contradiction
    | exact absurd h18 (Int32.not_lt.mpr (by assumption))
    | exact absurd h18 (Int32.not_le.mpr (by assumption))
    | exact absurd h18 (by decide)
    | exact absurd (by decide) h18
    | ( try simp (disch := omega) only [← nI_0, nI_leI, nI_ltI, nI_eq, not_true_eq_false, not_false_eq_true] at h18
        (try have h18b := zbit_n0.mp h18); (try have h18b := zbit_p0.mp h18)
        fail)
  · first
    | (simp (disch := omega) only [← nI_0, nI_leI, nI_ltI, nI_eq, not_true_eq_false, not_false_eq_true] at h18; done)
    | (simp (disch := omega) only [← nI_0, nI_leI, nI_ltI, nI_eq, not_true_eq_false, not_false_eq_true] at h18; omega)
    | contradiction
    | exact absurd h18 (Int32.not_lt.mpr (by assumption))
    | exact absurd h18 (Int32.not_le.mpr (by assumption))
    | exact absurd h18 (by decide)
    | exact absurd (by decide) h18
    | ( try simp (disch := omega) only [← nI_0, nI_leI, nI_ltI, nI_eq, not_true_eq_false, not_false_eq_true] at h18
        (try have h18b := zbit_n0.mp h18); (try have h18b := zbit_p0.mp h18)
        refine z_iconst (a := -1) d_Mo_round_21 (by decide) ?_
        refine z_reti d_Mo_round_22 ?_
        exact ⟨rfl, _, _, rfl, mqF_z (mqF_z mqF_r (by decide)) (by decide), mqJ_r, zu_same _ _ _ _⟩)
theorem t_Mo_round (M : modOk P S) (N : modIn I nt np nl nn) (ht : t < nn) (hk : I 150 (33 + t) = nI k) (hp : I 150 (42 + t) = nI p) (hp2 : p < np) : zEi G y_Mo_round prog_14_method_111_code 2 (some .int) 12 [.ref 145, .int (nI t)] (I, J, P, S) (fun r w => r = nI (s_lg (mMt I) (mTk I np k) np 7 p (2 ^ p)) ∧ mW I J P S 0 w) := by
  obtain ⟨M0, ⟨M4, M4s⟩, ⟨M5, M5s⟩, ⟨M6, M6s⟩, ⟨M7, M7s⟩, ⟨M20, M20s⟩, ⟨M21, M21s⟩, ⟨M22, M22s⟩, ⟨M26, M26s⟩, ⟨M27, M27s⟩, ⟨M28, M28s⟩, ⟨M30, M30s⟩, ⟨M34, M34s⟩, ⟨M36, M36s⟩, ⟨M37, M37s⟩⟩ := id M
  obtain ⟨I1, hI1, N1, h1, h0, e150, er, ek⟩ := mo_beg N
  have hp' : zu I 145 1 (nI 0) 150 (42 + t) = nI p := by rw [zu_row _ _ _ _ (by decide)]; exact hp
  have hp1 : I1 150 (42 + t) = nI p := by rw [e150]; exact hp
  have hk1 : I1 150 (33 + t) = nI k := by rw [e150]; exact hk
  refine zEi_of (lv := [some (.ref 145), some (.int (nI t))]) (by decide) rfl (Nat.le_of_ble_eq_true rfl) ?_
  refine z_aload_0 d_Mo_round_0 ?_
  refine z_iconst (a := nI 0) d_Mo_round_1 (by decide) ?_
  refine z_putI d_Mo_round_2 f_Mo_70 (by first | assumption | exact zS0_at (by assumption) (by omega) | exact zS0_at rfl (by omega)) ?_
  refine z_aload_0 d_Mo_round_5 ?_
  refine z_aload_0 d_Mo_round_6 ?_
  refine z_iload_1 d_Mo_round_7 ?_
  refine z_Vi1 d_Mo_round_8 k_Mo_380 (by first | assumption | exact zS0_at (by assumption) (by omega) | exact zS0_at rfl (by omega)) (t_Mo_whyNoTin_p M (modIn_z N) ht hp' hp2) ⟨Nat.le_of_ble_eq_true rfl, Nat.le_of_ble_eq_true rfl, Nat.le_of_ble_eq_true rfl, Nat.le_of_ble_eq_true rfl⟩ (Nat.le_of_ble_eq_true rfl) ?_
  intro r w hq
  obtain ⟨rfl, rfl⟩ := hq
  refine z_putI d_Mo_round_11 f_Mo_73 (by first | assumption | exact zS0_at (by assumption) (by omega) | exact zS0_at rfl (by omega)) ?_
  rw [← hI1]
  refine z_aload_0 d_Mo_round_14 ?_
  refine z_getIv d_Mo_round_15 f_Mo_73 (by first | assumption | exact zS0_at (by assumption) (by omega) | exact zS0_at rfl (by omega)) (by first | assumption | ((try simp (disch := omega) only [zu_same, zu_ne, zcp_ne, zfl_ne]); first | assumption | rfl)) ?_
  refine z_if_le (tgt := 23) d_Mo_round_18 (by decide) (fun _ => ?_) (fun h => absurd (by decide) h)
  refine z_aload_0 d_Mo_round_23 ?_
  refine z_iload_1 d_Mo_round_24 ?_
  refine z_Vv1 d_Mo_round_25 k_Mo_389 (by first | assumption | exact zS0_at (by assumption) (by omega) | exact zS0_at rfl (by omega)) (t_Mo_laysRound M N1 ht hk1 hp1 hp2 rfl) ⟨Nat.le_of_ble_eq_true rfl, Nat.le_of_ble_eq_true rfl, Nat.le_of_ble_eq_true rfl, Nat.le_of_ble_eq_true rfl⟩ (Nat.le_of_ble_eq_true rfl) ?_
  rintro w ⟨I2, rfl, g1, g2, g3, g4⟩
  rw [mMt_c e150, mTk_c e150] at g3
  refine z_aload_0 d_Mo_round_28 ?_
  refine z_getIv d_Mo_round_29 f_Mo_383 (by first | assumption | exact zS0_at (by assumption) (by omega) | exact zS0_at rfl (by omega)) (by first | assumption | ((try simp (disch := omega) only [zu_same, zu_ne, zcp_ne, zfl_ne]); first | assumption | rfl)) ?_
  refine z_reti d_Mo_round_32 ?_
  exact ⟨rfl, _, _, rfl, mqF_t h1 g1, mqJ_r, g2.trans h0⟩
theorem t_Mo_roundAt_o (M : modOk P S) (N : modIn I nt np nl nn) (h : ¬ zin a nn) : zEi G y_Mo_roundAt prog_14_method_112_code 3 (some .int) 12 [.ref 145, .int a, .int c] (I, J, P, S) (fun r w => r = -1 ∧ mW I J P S 2 w) := by
  obtain ⟨M0, ⟨M4, M4s⟩, ⟨M5, M5s⟩, ⟨M6, M6s⟩, ⟨M7, M7s⟩, ⟨M20, M20s⟩, ⟨M21, M21s⟩, ⟨M22, M22s⟩, ⟨M26, M26s⟩, ⟨M27, M27s⟩, ⟨M28, M28s⟩, ⟨M30, M30s⟩, ⟨M34, M34s⟩, ⟨M36, M36s⟩, ⟨M37, M37s⟩⟩ := id M
  refine zEi_of (lv := [some (.ref 145), some (.int a), some (.int c)]) (by decide) rfl (Nat.le_of_ble_eq_true rfl) ?_
  refine z_aload_0 d_Mo_roundAt_0 ?_
  refine z_iconst (a := nI 0) d_Mo_roundAt_1 (by decide) ?_
  refine z_putI d_Mo_roundAt_2 f_Mo_70 (by first | assumption | exact zS0_at (by assumption) (by omega) | exact zS0_at rfl (by omega)) ?_
  refine z_aload_0 d_Mo_roundAt_5 ?_
  refine z_aload_0 d_Mo_roundAt_6 ?_
  refine z_iload_1 d_Mo_roundAt_7 ?_
  refine z_Vi1 d_Mo_roundAt_8 k_Mo_380 (by first | assumption | exact zS0_at (by assumption) (by omega) | exact zS0_at rfl (by omega)) (t_Mo_whyNoTin_o M (modIn_z N) h) ⟨Nat.le_of_ble_eq_true rfl, Nat.le_of_ble_eq_true rfl, Nat.le_of_ble_eq_true rfl, Nat.le_of_ble_eq_true rfl⟩ (Nat.le_of_ble_eq_true rfl) ?_
  intro r w hq
  obtain ⟨rfl, rfl⟩ := hq
  refine z_putI d_Mo_roundAt_11 f_Mo_73 (by first | assumption | exact zS0_at (by assumption) (by omega) | exact zS0_at rfl (by omega)) ?_
  refine z_aload_0 d_Mo_roundAt_14 ?_
  refine z_getIv d_Mo_roundAt_15 f_Mo_73 (by first | assumption | exact zS0_at (by assumption) (by omega) | exact zS0_at rfl (by omega)) (by first | assumption | ((try simp (disch := omega) only [zu_same, zu_ne, zcp_ne, zfl_ne]); first | assumption | rfl)) ?_
  refine z_if_le (tgt := 23) d_Mo_roundAt_18 (by decide) (fun h18 => ?_) (fun h18 => ?_)
  · first
    | (simp (disch := omega) only [← nI_0, nI_leI, nI_ltI, nI_eq, not_true_eq_false, not_false_eq_true] at h18; done)
    | (simp (disch := omega) only [← nI_0, nI_leI, nI_ltI, nI_eq, not_true_eq_false, not_false_eq_true] at h18; omega)
    | contradiction
    | exact absurd h18 (Int32.not_lt.mpr (by assumption))
    | exact absurd h18 (Int32.not_le.mpr (by assumption))
    | exact absurd h18 (by decide)
    | exact absurd (by decide) h18
    | ( try simp (disch := omega) only [← nI_0, nI_leI, nI_ltI, nI_eq, not_true_eq_false, not_false_eq_true] at h18
        (try have h18b := zbit_n0.mp h18); (try have h18b := zbit_p0.mp h18)
        fail)
  · first
    | (simp (disch := omega) only [← nI_0, nI_leI, nI_ltI, nI_eq, not_true_eq_false, not_false_eq_true] at h18; done)
    | (simp (disch := omega) only [← nI_0, nI_leI, nI_ltI, nI_eq, not_true_eq_false, not_false_eq_true] at h18; omega)
    | contradiction
    | exact absurd h18 (Int32.not_lt.mpr (by assumption))
    | exact absurd h18 (Int32.not_le.mpr (by assumption))
    | exact absurd h18 (by decide)
    | exact absurd (by decide) h18
    | ( try simp (disch := omega) only [← nI_0, nI_leI, nI_ltI, nI_eq, not_true_eq_false, not_false_eq_true] at h18
        (try have h18b := zbit_n0.mp h18); (try have h18b := zbit_p0.mp h18)
        refine z_iconst (a := -1) d_Mo_roundAt_21 (by decide) ?_
        refine z_reti d_Mo_roundAt_22 ?_
        exact ⟨rfl, _, _, rfl, mqF_z (mqF_z mqF_r (by decide)) (by decide), mqJ_r, zu_same _ _ _ _⟩)
theorem t_Mo_roundAt_g (M : modOk P S) (N : modIn I nt np nl nn) (ht : t < nn) (hg : I 150 (42 + t) = -1) : zEi G y_Mo_roundAt prog_14_method_112_code 3 (some .int) 12 [.ref 145, .int (nI t), .int c] (I, J, P, S) (fun r w => r = -1 ∧ mW I J P S 9 w) := by
  obtain ⟨M0, ⟨M4, M4s⟩, ⟨M5, M5s⟩, ⟨M6, M6s⟩, ⟨M7, M7s⟩, ⟨M20, M20s⟩, ⟨M21, M21s⟩, ⟨M22, M22s⟩, ⟨M26, M26s⟩, ⟨M27, M27s⟩, ⟨M28, M28s⟩, ⟨M30, M30s⟩, ⟨M34, M34s⟩, ⟨M36, M36s⟩, ⟨M37, M37s⟩⟩ := id M
  have hg' : zu I 145 1 (nI 0) 150 (42 + t) = -1 := by rw [zu_row _ _ _ _ (by decide)]; exact hg
  refine zEi_of (lv := [some (.ref 145), some (.int (nI t)), some (.int c)]) (by decide) rfl (Nat.le_of_ble_eq_true rfl) ?_
  refine z_aload_0 d_Mo_roundAt_0 ?_
  refine z_iconst (a := nI 0) d_Mo_roundAt_1 (by decide) ?_
  refine z_putI d_Mo_roundAt_2 f_Mo_70 (by first | assumption | exact zS0_at (by assumption) (by omega) | exact zS0_at rfl (by omega)) ?_
  refine z_aload_0 d_Mo_roundAt_5 ?_
  refine z_aload_0 d_Mo_roundAt_6 ?_
  refine z_iload_1 d_Mo_roundAt_7 ?_
  refine z_Vi1 d_Mo_roundAt_8 k_Mo_380 (by first | assumption | exact zS0_at (by assumption) (by omega) | exact zS0_at rfl (by omega)) (t_Mo_whyNoTin_g M (modIn_z N) ht hg') ⟨Nat.le_of_ble_eq_true rfl, Nat.le_of_ble_eq_true rfl, Nat.le_of_ble_eq_true rfl, Nat.le_of_ble_eq_true rfl⟩ (Nat.le_of_ble_eq_true rfl) ?_
  intro r w hq
  obtain ⟨rfl, rfl⟩ := hq
  refine z_putI d_Mo_roundAt_11 f_Mo_73 (by first | assumption | exact zS0_at (by assumption) (by omega) | exact zS0_at rfl (by omega)) ?_
  refine z_aload_0 d_Mo_roundAt_14 ?_
  refine z_getIv d_Mo_roundAt_15 f_Mo_73 (by first | assumption | exact zS0_at (by assumption) (by omega) | exact zS0_at rfl (by omega)) (by first | assumption | ((try simp (disch := omega) only [zu_same, zu_ne, zcp_ne, zfl_ne]); first | assumption | rfl)) ?_
  refine z_if_le (tgt := 23) d_Mo_roundAt_18 (by decide) (fun h18 => ?_) (fun h18 => ?_)
  · first
    | (simp (disch := omega) only [← nI_0, nI_leI, nI_ltI, nI_eq, not_true_eq_false, not_false_eq_true] at h18; done)
    | (simp (disch := omega) only [← nI_0, nI_leI, nI_ltI, nI_eq, not_true_eq_false, not_false_eq_true] at h18; omega)
    | contradiction
    | exact absurd h18 (Int32.not_lt.mpr (by assumption))
    | exact absurd h18 (Int32.not_le.mpr (by assumption))
    | exact absurd h18 (by decide)
    | exact absurd (by decide) h18
    | ( try simp (disch := omega) only [← nI_0, nI_leI, nI_ltI, nI_eq, not_true_eq_false, not_false_eq_true] at h18
        (try have h18b := zbit_n0.mp h18); (try have h18b := zbit_p0.mp h18)
        fail)
  · first
    | (simp (disch := omega) only [← nI_0, nI_leI, nI_ltI, nI_eq, not_true_eq_false, not_false_eq_true] at h18; done)
    | (simp (disch := omega) only [← nI_0, nI_leI, nI_ltI, nI_eq, not_true_eq_false, not_false_eq_true] at h18; omega)
    | contradiction
    | exact absurd h18 (Int32.not_lt.mpr (by assumption))
    | exact absurd h18 (Int32.not_le.mpr (by assumption))
    | exact absurd h18 (by decide)
    | exact absurd (by decide) h18
    | ( try simp (disch := omega) only [← nI_0, nI_leI, nI_ltI, nI_eq, not_true_eq_false, not_false_eq_true] at h18
        (try have h18b := zbit_n0.mp h18); (try have h18b := zbit_p0.mp h18)
        refine z_iconst (a := -1) d_Mo_roundAt_21 (by decide) ?_
        refine z_reti d_Mo_roundAt_22 ?_
        exact ⟨rfl, _, _, rfl, mqF_z (mqF_z mqF_r (by decide)) (by decide), mqJ_r, zu_same _ _ _ _⟩)
theorem t_Mo_roundAt_n (M : modOk P S) (N : modIn I nt np nl nn) (ht : t < nn) (hk : I 150 (33 + t) = nI k) (hp : I 150 (42 + t) = nI p) (hp2 : p < np) (hm : s_lg (mMt I) (mTk I np k) np 7 p (2 ^ p) = most) (hc : ¬ zin c most) : zEi G y_Mo_roundAt prog_14_method_112_code 3 (some .int) 12 [.ref 145, .int (nI t), .int c] (I, J, P, S) (fun r w => r = -1 ∧ mW I J P S 8 w) := by
  obtain ⟨M0, ⟨M4, M4s⟩, ⟨M5, M5s⟩, ⟨M6, M6s⟩, ⟨M7, M7s⟩, ⟨M20, M20s⟩, ⟨M21, M21s⟩, ⟨M22, M22s⟩, ⟨M26, M26s⟩, ⟨M27, M27s⟩, ⟨M28, M28s⟩, ⟨M30, M30s⟩, ⟨M34, M34s⟩, ⟨M36, M36s⟩, ⟨M37, M37s⟩⟩ := id M
  obtain ⟨I1, hI1, N1, h1, h0, e150, er, ek⟩ := mo_beg N
  have hp' : zu I 145 1 (nI 0) 150 (42 + t) = nI p := by rw [zu_row _ _ _ _ (by decide)]; exact hp
  have hp1 : I1 150 (42 + t) = nI p := by rw [e150]; exact hp
  have hk1 : I1 150 (33 + t) = nI k := by rw [e150]; exact hk
  have m8 : most ≤ 8 := by rw [← hm]; exact s_lg_le _ _ _
  have m1' : 1 ≤ most := by rw [← hm]; exact lg_1 _ _ _
  refine zEi_of (lv := [some (.ref 145), some (.int (nI t)), some (.int c)]) (by decide) rfl (Nat.le_of_ble_eq_true rfl) ?_
  refine z_aload_0 d_Mo_roundAt_0 ?_
  refine z_iconst (a := nI 0) d_Mo_roundAt_1 (by decide) ?_
  refine z_putI d_Mo_roundAt_2 f_Mo_70 (by first | assumption | exact zS0_at (by assumption) (by omega) | exact zS0_at rfl (by omega)) ?_
  refine z_aload_0 d_Mo_roundAt_5 ?_
  refine z_aload_0 d_Mo_roundAt_6 ?_
  refine z_iload_1 d_Mo_roundAt_7 ?_
  refine z_Vi1 d_Mo_roundAt_8 k_Mo_380 (by first | assumption | exact zS0_at (by assumption) (by omega) | exact zS0_at rfl (by omega)) (t_Mo_whyNoTin_p M (modIn_z N) ht hp' hp2) ⟨Nat.le_of_ble_eq_true rfl, Nat.le_of_ble_eq_true rfl, Nat.le_of_ble_eq_true rfl, Nat.le_of_ble_eq_true rfl⟩ (Nat.le_of_ble_eq_true rfl) ?_
  intro r w hq
  obtain ⟨rfl, rfl⟩ := hq
  refine z_putI d_Mo_roundAt_11 f_Mo_73 (by first | assumption | exact zS0_at (by assumption) (by omega) | exact zS0_at rfl (by omega)) ?_
  rw [← hI1]
  refine z_aload_0 d_Mo_roundAt_14 ?_
  refine z_getIv d_Mo_roundAt_15 f_Mo_73 (by first | assumption | exact zS0_at (by assumption) (by omega) | exact zS0_at rfl (by omega)) (by first | assumption | ((try simp (disch := omega) only [zu_same, zu_ne, zcp_ne, zfl_ne]); first | assumption | rfl)) ?_
  refine z_if_le (tgt := 23) d_Mo_roundAt_18 (by decide) (fun _ => ?_) (fun h => absurd (by decide) h)
  refine z_aload_0 d_Mo_roundAt_23 ?_
  refine z_iload_1 d_Mo_roundAt_24 ?_
  refine z_Vv1 d_Mo_roundAt_25 k_Mo_389 (by first | assumption | exact zS0_at (by assumption) (by omega) | exact zS0_at rfl (by omega)) (t_Mo_laysRound (most := most) M N1 ht hk1 hp1 hp2 (by rw [mMt_c e150, mTk_c e150]; exact hm)) ⟨Nat.le_of_ble_eq_true rfl, Nat.le_of_ble_eq_true rfl, Nat.le_of_ble_eq_true rfl, Nat.le_of_ble_eq_true rfl⟩ (Nat.le_of_ble_eq_true rfl) ?_
  rintro w ⟨I2, rfl, g1, g2, g3, g4⟩
  refine z_iload_2 d_Mo_roundAt_28 ?_
  refine z_i2l d_Mo_roundAt_29 ?_
  refine z_lconst (f := lN 0) d_Mo_roundAt_30 rfl ?_
  refine z_aload_0 d_Mo_roundAt_31 ?_
  refine z_getIv d_Mo_roundAt_32 f_Mo_383 (by first | assumption | exact zS0_at (by assumption) (by omega) | exact zS0_at rfl (by omega)) (by first | assumption | ((try simp (disch := omega) only [zu_same, zu_ne, zcp_ne, zfl_ne]); first | assumption | rfl)) ?_
  refine z_iconst (a := nI 1) d_Mo_roundAt_35 (by decide) ?_
  first | refine z_isubN d_Mo_roundAt_36 (by omega) ?_ | refine z_isub d_Mo_roundAt_36 ?_
  refine z_i2l d_Mo_roundAt_37 ?_
  refine z_Si3 d_Mo_roundAt_38 k_Mo_105 (t_Mo_isInZ (m := most) (by omega) (by rw [Int32.toInt_toInt64, nI_int (by omega)]; omega)) ⟨Nat.le_of_ble_eq_true rfl, Nat.le_of_ble_eq_true rfl, Nat.le_of_ble_eq_true rfl, Nat.le_of_ble_eq_true rfl⟩ (Nat.le_of_ble_eq_true rfl) ?_
  intro r w hq
  rcases hq with ⟨⟨hz, rfl⟩ | ⟨hz, rfl⟩, rfl⟩
  · exact absurd hz hc
  · refine z_if_eq (tgt := 53) d_Mo_roundAt_41 (by decide) (fun _ => ?_) (fun h => absurd (by decide) h)
    refine z_aload_0 d_Mo_roundAt_53 ?_
    refine z_bipush (a := nI 8) d_Mo_roundAt_54 (by decide) ?_
    refine z_Vi1 d_Mo_roundAt_56 k_Mo_327 (by first | assumption | exact zS0_at (by assumption) (by omega) | exact zS0_at rfl (by omega)) (t_Mo_refuse (by assumption)) ⟨Nat.le_of_ble_eq_true rfl, Nat.le_of_ble_eq_true rfl, Nat.le_of_ble_eq_true rfl, Nat.le_of_ble_eq_true rfl⟩ (Nat.le_of_ble_eq_true rfl) ?_
    intro r w hq
    obtain ⟨rfl, rfl⟩ := hq
    refine z_reti d_Mo_roundAt_59 ?_
    exact ⟨rfl, _, _, rfl, mqF_z (mqF_t h1 g1) (by decide), mqJ_r, zu_same _ _ _ _⟩
theorem t_Mo_roundAt (M : modOk P S) (N : modIn I nt np nl nn) (ht : t < nn) (hk : I 150 (33 + t) = nI k) (hp : I 150 (42 + t) = nI p) (hp2 : p < np) (hm : s_lg (mMt I) (mTk I np k) np 7 p (2 ^ p) = most) (hkk : kk < most) (h7 : kk < 7) : zEi G y_Mo_roundAt prog_14_method_112_code 3 (some .int) 12 [.ref 145, .int (nI t), .int (nI kk)] (I, J, P, S) (fun r w => r = nI (s_ch (mMt I) (mTk I np k) np kk 6 p (2 ^ p)) ∧ mW I J P S 0 w) := by
  obtain ⟨M0, ⟨M4, M4s⟩, ⟨M5, M5s⟩, ⟨M6, M6s⟩, ⟨M7, M7s⟩, ⟨M20, M20s⟩, ⟨M21, M21s⟩, ⟨M22, M22s⟩, ⟨M26, M26s⟩, ⟨M27, M27s⟩, ⟨M28, M28s⟩, ⟨M30, M30s⟩, ⟨M34, M34s⟩, ⟨M36, M36s⟩, ⟨M37, M37s⟩⟩ := id M
  obtain ⟨I1, hI1, N1, h1, h0, e150, er, ek⟩ := mo_beg N
  have hp' : zu I 145 1 (nI 0) 150 (42 + t) = nI p := by rw [zu_row _ _ _ _ (by decide)]; exact hp
  have hp1 : I1 150 (42 + t) = nI p := by rw [e150]; exact hp
  have hk1 : I1 150 (33 + t) = nI k := by rw [e150]; exact hk
  have m8 : most ≤ 8 := by rw [← hm]; exact s_lg_le _ _ _
  refine zEi_of (lv := [some (.ref 145), some (.int (nI t)), some (.int (nI kk))]) (by decide) rfl (Nat.le_of_ble_eq_true rfl) ?_
  refine z_aload_0 d_Mo_roundAt_0 ?_
  refine z_iconst (a := nI 0) d_Mo_roundAt_1 (by decide) ?_
  refine z_putI d_Mo_roundAt_2 f_Mo_70 (by first | assumption | exact zS0_at (by assumption) (by omega) | exact zS0_at rfl (by omega)) ?_
  refine z_aload_0 d_Mo_roundAt_5 ?_
  refine z_aload_0 d_Mo_roundAt_6 ?_
  refine z_iload_1 d_Mo_roundAt_7 ?_
  refine z_Vi1 d_Mo_roundAt_8 k_Mo_380 (by first | assumption | exact zS0_at (by assumption) (by omega) | exact zS0_at rfl (by omega)) (t_Mo_whyNoTin_p M (modIn_z N) ht hp' hp2) ⟨Nat.le_of_ble_eq_true rfl, Nat.le_of_ble_eq_true rfl, Nat.le_of_ble_eq_true rfl, Nat.le_of_ble_eq_true rfl⟩ (Nat.le_of_ble_eq_true rfl) ?_
  intro r w hq
  obtain ⟨rfl, rfl⟩ := hq
  refine z_putI d_Mo_roundAt_11 f_Mo_73 (by first | assumption | exact zS0_at (by assumption) (by omega) | exact zS0_at rfl (by omega)) ?_
  rw [← hI1]
  refine z_aload_0 d_Mo_roundAt_14 ?_
  refine z_getIv d_Mo_roundAt_15 f_Mo_73 (by first | assumption | exact zS0_at (by assumption) (by omega) | exact zS0_at rfl (by omega)) (by first | assumption | ((try simp (disch := omega) only [zu_same, zu_ne, zcp_ne, zfl_ne]); first | assumption | rfl)) ?_
  refine z_if_le (tgt := 23) d_Mo_roundAt_18 (by decide) (fun _ => ?_) (fun h => absurd (by decide) h)
  refine z_aload_0 d_Mo_roundAt_23 ?_
  refine z_iload_1 d_Mo_roundAt_24 ?_
  refine z_Vv1 d_Mo_roundAt_25 k_Mo_389 (by first | assumption | exact zS0_at (by assumption) (by omega) | exact zS0_at rfl (by omega)) (t_Mo_laysRound (most := most) M N1 ht hk1 hp1 hp2 (by rw [mMt_c e150, mTk_c e150]; exact hm)) ⟨Nat.le_of_ble_eq_true rfl, Nat.le_of_ble_eq_true rfl, Nat.le_of_ble_eq_true rfl, Nat.le_of_ble_eq_true rfl⟩ (Nat.le_of_ble_eq_true rfl) ?_
  rintro w ⟨I2, rfl, g1, g2, g3, g4⟩
  have hv := g4 kk hkk
  rw [mMt_c e150, mTk_c e150] at hv
  refine z_iload_2 d_Mo_roundAt_28 ?_
  refine z_i2l d_Mo_roundAt_29 ?_
  refine z_lconst (f := lN 0) d_Mo_roundAt_30 rfl ?_
  refine z_aload_0 d_Mo_roundAt_31 ?_
  refine z_getIv d_Mo_roundAt_32 f_Mo_383 (by first | assumption | exact zS0_at (by assumption) (by omega) | exact zS0_at rfl (by omega)) (by first | assumption | ((try simp (disch := omega) only [zu_same, zu_ne, zcp_ne, zfl_ne]); first | assumption | rfl)) ?_
  refine z_iconst (a := nI 1) d_Mo_roundAt_35 (by decide) ?_
  first | refine z_isubN d_Mo_roundAt_36 (by omega) ?_ | refine z_isub d_Mo_roundAt_36 ?_
  refine z_i2l d_Mo_roundAt_37 ?_
  refine z_Si3 d_Mo_roundAt_38 k_Mo_105 (t_Mo_isInZ (m := most) (by omega) (by rw [Int32.toInt_toInt64, nI_int (by omega)]; omega)) ⟨Nat.le_of_ble_eq_true rfl, Nat.le_of_ble_eq_true rfl, Nat.le_of_ble_eq_true rfl, Nat.le_of_ble_eq_true rfl⟩ (Nat.le_of_ble_eq_true rfl) ?_
  intro r w hq
  rcases hq with ⟨⟨hz, rfl⟩ | ⟨hz, rfl⟩, rfl⟩
  · refine z_if_eq (tgt := 53) d_Mo_roundAt_41 (by decide) (fun h => absurd h (by decide)) (fun _ => ?_)
    refine z_aload_0 d_Mo_roundAt_44 ?_
    refine z_getR d_Mo_roundAt_45 f_Mo_50 (by first | assumption | exact zS0_at (by assumption) (by omega) | exact zS0_at rfl (by omega)) (by first | assumption | exact zS0_at (by assumption) (by omega) | exact zS0_at rfl (by omega)) ?_
    refine z_iload_2 d_Mo_roundAt_48 ?_
    first | refine z_ialdNv d_Mo_roundAt_49 (by first | assumption | exact zS0_at (by assumption) (by omega) | exact zS0_at rfl (by omega)) (by omega) (by first | decide | omega) (by first | assumption | ((try simp (disch := omega) only [zu_same, zu_ne, zcp_ne, zfl_ne]); first | assumption | rfl)) ?_ | refine z_iald d_Mo_roundAt_49 (by first | assumption | exact zS0_at (by assumption) (by omega) | exact zS0_at rfl (by omega)) (by first | assumption | exact zS0_at (by assumption) (by omega) | exact zS0_at rfl (by omega)) ?_
    refine z_goto (tgt := 59) d_Mo_roundAt_50 (by decide) ?_
    refine z_reti d_Mo_roundAt_59 ?_
    exact ⟨rfl, _, _, rfl, mqF_t h1 g1, mqJ_r, g2.trans h0⟩
  · exact absurd ⟨kk, hkk, rfl⟩ hz
theorem L_round (h : zInv n w) : zEi G y_Tf_round prog_1_method_31_code 3 (some .int) 11 [.ref 0, .int a] w (fun r w1 => w1.2.2.2 = w.2.2.2 ∧ zEi G y_Mo_round prog_14_method_111_code 2 (some .int) 12 [.ref 145, .int a] w1 (fun r' w2 => r' = r ∧ zInv (n + 1) w2)) := by
  obtain ⟨f, d, nt, np, nl, nn, fed, mk, I, J, P, S, rfl, Z, X⟩ := h
  have M := clOk_M Z
  have hf := clOk_f Z
  have N := stR_fen X
  have N0 := stR_mod X
  have fm := stR_fm X
  obtain ⟨⟨⟨a1, r1, b1⟩, ⟨a2, r2, b2⟩, ⟨a3, r3, b3⟩, ⟨a4, r4, b4⟩⟩, ⟨⟨o, ob, ao, ro⟩, r5⟩, fw, fp, ft, fz⟩ := id fm
  rcases zin_or a nn (by omega) with ⟨-, h⟩ | ⟨t, ht, rfl⟩
  · exact L_q Z X (t_Tf_round_o Z N h) (fun I' J' e _ => ⟨_, rfl, t_Mo_round_o M (modIn_c N0 (e 150 (by decide))) h⟩)
  obtain ⟨⟨k, hk, k1, k2⟩, ⟨g1, g2⟩, -⟩ := ft t ht
  rcases g1 with g1 | ⟨p, hp, g1⟩
  · exact L_q Z X (t_Tf_round_g Z N ht g1) (fun I' J' e _ => ⟨_, rfl, t_Mo_round_g M (modIn_c N0 (e 150 (by decide))) ht (by rw [e 150 (by decide)]; exact g2.trans g1)⟩)
  have etk : mTk I np k = s_set (fun p => zB (I (f + 2) p) k) np := s_set_congr np (fun q hq => by rw [(fp q hq).1]; rfl)
  have emt : ∀ i, i < np → mMt I i = I (f + 3) i := fun i hi => (fp i hi).2.1
  exact L_q Z X (t_Tf_round Z N ht k1 g1 hp) (fun I' J' e _ => ⟨_, by
      rw [mMt_c (e 150 (by decide)), mTk_c (k := k) (e 150 (by decide)), etk, lg_c emt 7 p _ hp], t_Mo_round (k := k) M (modIn_c N0 (e 150 (by decide))) ht (by rw [e 150 (by decide)]; exact k2) (by rw [e 150 (by decide)]; exact g2.trans g1) hp⟩)
theorem L_roundAt (h : zInv n w) : zEi G y_Tf_roundAt prog_1_method_32_code 5 (some .int) 12 [.ref 0, .int a, .int c] w (fun r w1 => w1.2.2.2 = w.2.2.2 ∧ zEi G y_Mo_roundAt prog_14_method_112_code 3 (some .int) 12 [.ref 145, .int a, .int c] w1 (fun r' w2 => r' = r ∧ zInv (n + 1) w2)) := by
  obtain ⟨f, d, nt, np, nl, nn, fed, mk, I, J, P, S, rfl, Z, X⟩ := h
  have M := clOk_M Z
  have hf := clOk_f Z
  have N := stR_fen X
  have N0 := stR_mod X
  have fm := stR_fm X
  obtain ⟨⟨⟨a1, r1, b1⟩, ⟨a2, r2, b2⟩, ⟨a3, r3, b3⟩, ⟨a4, r4, b4⟩⟩, ⟨⟨o, ob, ao, ro⟩, r5⟩, fw, fp, ft, fz⟩ := id fm
  rcases zin_or a nn (by omega) with ⟨-, h⟩ | ⟨t, ht, rfl⟩
  · exact L_q Z X (t_Tf_roundAt_o Z N h) (fun I' J' e _ => ⟨_, rfl, t_Mo_roundAt_o M (modIn_c N0 (e 150 (by decide))) h⟩)
  obtain ⟨⟨k, hk, k1, k2⟩, ⟨g1, g2⟩, -⟩ := ft t ht
  rcases g1 with g1 | ⟨p, hp, g1⟩
  · exact L_q Z X (t_Tf_roundAt_g Z N ht g1) (fun I' J' e _ => ⟨_, rfl, t_Mo_roundAt_g M (modIn_c N0 (e 150 (by decide))) ht (by rw [e 150 (by decide)]; exact g2.trans g1)⟩)
  have etk : mTk I np k = s_set (fun p => zB (I (f + 2) p) k) np := s_set_congr np (fun q hq => by rw [(fp q hq).1]; rfl)
  have emt : ∀ i, i < np → mMt I i = I (f + 3) i := fun i hi => (fp i hi).2.1
  obtain ⟨most, hm⟩ : ∃ most, most = s_lg (I (f + 3)) (s_set (fun p => zB (I (f + 2) p) k) np) np 7 p (2 ^ p) := ⟨_, rfl⟩
  have m8 : most ≤ 8 := by rw [hm]; exact s_lg_le _ _ _
  have hm' : ∀ I', I' 150 = I 150 → s_lg (mMt I') (mTk I' np k) np 7 p (2 ^ p) = most := fun I' e => by
    rw [mMt_c e, mTk_c (k := k) e, etk, lg_c emt 7 p _ hp, ← hm]
  rcases zin_or c most (by omega) with ⟨hc, hc2⟩ | ⟨kk, hkk, rfl⟩
  · exact L_q Z X (t_Tf_roundAt_n Z N ht k1 g1 hp hm hc) (fun I' J' e _ => ⟨_, rfl, t_Mo_roundAt_n (k := k) M (modIn_c N0 (e 150 (by decide))) ht (by rw [e 150 (by decide)]; exact k2) (by rw [e 150 (by decide)]; exact g2.trans g1) hp (hm' I' (e 150 (by decide))) hc2⟩)
  · obtain ⟨⟨y1, -, -, -, y5⟩, -⟩ := s_rnd_ok b2 hp hm kk hkk
    exact L_q Z X (t_Tf_roundAt Z N ht k1 g1 hp hm hkk (by omega) rfl) (fun I' J' e _ => ⟨_, by
      rw [mMt_c (e 150 (by decide)), mTk_c (k := k) (e 150 (by decide)), etk, ch_c emt _ _ _ _ hp, ch_rnd' b2 (set_lt b2) hp hm hkk], t_Mo_roundAt (k := k) M (modIn_c N0 (e 150 (by decide))) ht (by rw [e 150 (by decide)]; exact k2) (by rw [e 150 (by decide)]; exact g2.trans g1) hp (hm' I' (e 150 (by decide))) hkk y5⟩)
end RE0
