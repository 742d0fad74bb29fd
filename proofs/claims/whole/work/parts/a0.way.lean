/-! next, reach, way, wayAt: both sides -/
section WY0
variable {G : zG} {I I' I1 I2 : Nat → Nat → Int32} {J J' J2 : Nat → Nat → Int64} {P : Nat → Nat → Option Nat} {S : List (Nat × Nat)} {f d nt np nl nn n fed mk t k p q to : Nat} {a b c : Int32} {w : zW}
abbrev mTk (I : Nat → Nat → Int32) (np k : Nat) : Int32 := s_set (fun q => zB (I 150 (12 + q)) k) np
abbrev mMt (I : Nat → Nat → Int32) : Nat → Int32 := fun p => I 150 (19 + p)
theorem mMt_c (h : I' 150 = I 150) : mMt I' = mMt I := by unfold mMt; rw [h]
theorem mTk_c (h : I' 150 = I 150) : mTk I' np k = mTk I np k := by unfold mTk; rw [h]
theorem t_Mo_nextOf' (M : modOk P S) (N : modIn I nt np nl nn) (ht : t < 9) (hk : I 150 (33 + t) = nI k) (hp : p < 7) : zEi G y_Mo_nextOf prog_14_method_89_code 5 (some .int) 3 [.ref 145, .int (nI t), .int (nI p)] (I, J, P, S) (fun r w => r = mMt I p &&& mTk I np k ∧ w = (I, J, P, S)) := by
  have b := N.2.1.2
  refine zEi_mono (t_Mo_nextOf M N ht hk hp) ?_
  rintro r w ⟨rfl, rfl⟩
  exact ⟨set_next b, rfl⟩
/-- the reference's beginning of a call that asks for a TIN -/
theorem t_Tf_next_o (Z : clOk f d P S) (N : fenIn I f nt np nl nn) (h : ¬ zin a nn) : zEi G y_Tf_next prog_1_method_30_code 3 (some .int) 4 [.ref 0, .int a] (I, J, P, S) (fun r w => r = -1 ∧ cW I J P S 2 w) := by
  obtain ⟨⟨c0, c3, c1s⟩, ⟨c5, c2s, ctr⟩, ⟨c6, c11s, c11, c13s⟩, ⟨c7, c15s, c15⟩, ⟨c8, c16s, c16a, c16b, c17s⟩, ⟨c9, c10, cfd, F, Fd⟩, ⟨c11b, Ft⟩, ⟨c12, c69s, cmk⟩, ⟨c14, c121s, c121, c122s⟩, ⟨c15b, c123s, c123, c124s⟩, ⟨c16, c125s, c125, c126s⟩, ⟨c17, c127s, c127, c128s, ctb⟩, ⟨c18, c139s, c139, c140s⟩, ⟨c19, c141s, ⟨c141a, c142s⟩, ⟨c141b, c143s⟩, ⟨c141c, c144s⟩⟩, M⟩ := id Z
  refine zEi_of (lv := [some (.ref 0), some (.int a), none]) (by decide) rfl (Nat.le_of_ble_eq_true rfl) ?_
  refine z_aload_0 d_Tf_next_0 ?_
  refine z_iload_1 d_Tf_next_1 ?_
  refine z_Vi1 d_Tf_next_2 k_Tf_276 (by first | assumption | exact zS0_at (by assumption) (by omega) | exact zS0_at rfl (by omega)) (t_Tf_tinStatus_o Z N h) ⟨Nat.le_of_ble_eq_true rfl, Nat.le_of_ble_eq_true rfl, Nat.le_of_ble_eq_true rfl, Nat.le_of_ble_eq_true rfl⟩ (Nat.le_of_ble_eq_true rfl) ?_
  intro r w hq
  obtain ⟨rfl, rfl⟩ := hq
  first | refine z_istore_2 d_Tf_next_5 rfl ?_ | (refine z_forget_1 ?_; refine z_istore_2 d_Tf_next_5 rfl ?_)
  refine z_iload_2 d_Tf_next_6 ?_
  refine z_if_eq (tgt := 18) d_Tf_next_7 (by decide) (fun h7 => ?_) (fun h7 => ?_)
  · first
    | (simp (disch := omega) only [← nI_0, nI_leI, nI_ltI, nI_eq, not_true_eq_false, not_false_eq_true] at h7; done)
    | (simp (disch := omega) only [← nI_0, nI_leI, nI_ltI, nI_eq, not_true_eq_false, not_false_eq_true] at h7; omega)
    | contradiction
    | exact absurd h7 (Int32.not_lt.mpr (by assumption))
    | exact absurd h7 (Int32.not_le.mpr (by assumption))
    | exact absurd h7 (by decide)
    | exact absurd (by decide) h7
    | ( try simp (disch := omega) only [← nI_0, nI_leI, nI_ltI, nI_eq, not_true_eq_false, not_false_eq_true] at h7
        (try have h7b := zbit_n0.mp h7); (try have h7b := zbit_p0.mp h7)
        refine z_aload_0 d_Tf_next_18 ?_
        refine z_aload_0 d_Tf_next_19 ?_
        refine z_getR d_Tf_next_20 f_Tf_60 (by first | assumption | exact zS0_at (by assumption) (by omega) | exact zS0_at rfl (by omega)) (by first | assumption | exact zS0_at (by assumption) (by omega) | exact zS0_at rfl (by omega)) ?_
        refine z_iload_1 d_Tf_next_23 ?_
        refine z_Vi1 d_Tf_next_24 k_Tf_318 (by first | assumption | exact zS0_at (by assumption) (by omega) | exact zS0_at rfl (by omega)) (t_Fen_takers (by assumption) (by assumption) (by omega) (by assumption) (by assumption) (by omega)) ⟨Nat.le_of_ble_eq_true rfl, Nat.le_of_ble_eq_true rfl, Nat.le_of_ble_eq_true rfl, Nat.le_of_ble_eq_true rfl⟩ (Nat.le_of_ble_eq_true rfl) ?_
        intro r w hq
        obtain ⟨rfl, rfl⟩ := hq
        refine z_Vi1 d_Tf_next_27 k_Tf_174 (by first | assumption | exact zS0_at (by assumption) (by omega) | exact zS0_at rfl (by omega)) (t_Tf_give (by assumption)) ⟨Nat.le_of_ble_eq_true rfl, Nat.le_of_ble_eq_true rfl, Nat.le_of_ble_eq_true rfl, Nat.le_of_ble_eq_true rfl⟩ (Nat.le_of_ble_eq_true rfl) ?_
        intro r w hq
        obtain ⟨rfl, rfl⟩ := hq
        refine z_reti d_Tf_next_30 ?_
        exact ⟨rfl, cW_0⟩)
  · first
    | (simp (disch := omega) only [← nI_0, nI_leI, nI_ltI, nI_eq, not_true_eq_false, not_false_eq_true] at h7; done)
    | (simp (disch := omega) only [← nI_0, nI_leI, nI_ltI, nI_eq, not_true_eq_false, not_false_eq_true] at h7; omega)
    | contradiction
    | exact absurd h7 (Int32.not_lt.mpr (by assumption))
    | exact absurd h7 (Int32.not_le.mpr (by assumption))
    | exact absurd h7 (by decide)
    | exact absurd (by decide) h7
    | ( try simp (disch := omega) only [← nI_0, nI_leI, nI_ltI, nI_eq, not_true_eq_false, not_false_eq_true] at h7
        (try have h7b := zbit_n0.mp h7); (try have h7b := zbit_p0.mp h7)
        refine z_aload_0 d_Tf_next_10 ?_
        refine z_iload_2 d_Tf_next_11 ?_
        refine z_Vi1 d_Tf_next_12 k_Tf_138 (by first | assumption | exact zS0_at (by assumption) (by omega) | exact zS0_at rfl (by omega)) (t_Tf_fail (by assumption)) ⟨Nat.le_of_ble_eq_true rfl, Nat.le_of_ble_eq_true rfl, Nat.le_of_ble_eq_true rfl, Nat.le_of_ble_eq_true rfl⟩ (Nat.le_of_ble_eq_true rfl) ?_
        intro r w hq
        obtain ⟨rfl, rfl⟩ := hq
        refine z_goto (tgt := 30) d_Tf_next_15 (by decide) ?_
        refine z_reti d_Tf_next_30 ?_
        exact ⟨rfl, cW_0⟩)
theorem t_Tf_next_g (Z : clOk f d P S) (N : fenIn I f nt np nl nn) (ht : t < nn) (hg : I (f + 6) t = -1) : zEi G y_Tf_next prog_1_method_30_code 3 (some .int) 4 [.ref 0, .int (nI t)] (I, J, P, S) (fun r w => r = -1 ∧ cW I J P S 9 w) := by
  obtain ⟨⟨c0, c3, c1s⟩, ⟨c5, c2s, ctr⟩, ⟨c6, c11s, c11, c13s⟩, ⟨c7, c15s, c15⟩, ⟨c8, c16s, c16a, c16b, c17s⟩, ⟨c9, c10, cfd, F, Fd⟩, ⟨c11b, Ft⟩, ⟨c12, c69s, cmk⟩, ⟨c14, c121s, c121, c122s⟩, ⟨c15b, c123s, c123, c124s⟩, ⟨c16, c125s, c125, c126s⟩, ⟨c17, c127s, c127, c128s, ctb⟩, ⟨c18, c139s, c139, c140s⟩, ⟨c19, c141s, ⟨c141a, c142s⟩, ⟨c141b, c143s⟩, ⟨c141c, c144s⟩⟩, M⟩ := id Z
  refine zEi_of (lv := [some (.ref 0), some (.int (nI t)), none]) (by decide) rfl (Nat.le_of_ble_eq_true rfl) ?_
  refine z_aload_0 d_Tf_next_0 ?_
  refine z_iload_1 d_Tf_next_1 ?_
  refine z_Vi1 d_Tf_next_2 k_Tf_276 (by first | assumption | exact zS0_at (by assumption) (by omega) | exact zS0_at rfl (by omega)) (t_Tf_tinStatus_g Z N ht hg) ⟨Nat.le_of_ble_eq_true rfl, Nat.le_of_ble_eq_true rfl, Nat.le_of_ble_eq_true rfl, Nat.le_of_ble_eq_true rfl⟩ (Nat.le_of_ble_eq_true rfl) ?_
  intro r w hq
  obtain ⟨rfl, rfl⟩ := hq
  first | refine z_istore_2 d_Tf_next_5 rfl ?_ | (refine z_forget_1 ?_; refine z_istore_2 d_Tf_next_5 rfl ?_)
  refine z_iload_2 d_Tf_next_6 ?_
  refine z_if_eq (tgt := 18) d_Tf_next_7 (by decide) (fun h7 => ?_) (fun h7 => ?_)
  · first
    | (simp (disch := omega) only [← nI_0, nI_leI, nI_ltI, nI_eq, not_true_eq_false, not_false_eq_true] at h7; done)
    | (simp (disch := omega) only [← nI_0, nI_leI, nI_ltI, nI_eq, not_true_eq_false, not_false_eq_true] at h7; omega)
    | contradiction
    | exact absurd h7 (Int32.not_lt.mpr (by assumption))
    | exact absurd h7 (Int32.not_le.mpr (by assumption))
    | exact absurd h7 (by decide)
    | exact absurd (by decide) h7
    | ( try simp (disch := omega) only [← nI_0, nI_leI, nI_ltI, nI_eq, not_true_eq_false, not_false_eq_true] at h7
        (try have h7b := zbit_n0.mp h7); (try have h7b := zbit_p0.mp h7)
        refine z_aload_0 d_Tf_next_18 ?_
        refine z_aload_0 d_Tf_next_19 ?_
        refine z_getR d_Tf_next_20 f_Tf_60 (by first | assumption | exact zS0_at (by assumption) (by omega) | exact zS0_at rfl (by omega)) (by first | assumption | exact zS0_at (by assumption) (by omega) | exact zS0_at rfl (by omega)) ?_
        refine z_iload_1 d_Tf_next_23 ?_
        refine z_Vi1 d_Tf_next_24 k_Tf_318 (by first | assumption | exact zS0_at (by assumption) (by omega) | exact zS0_at rfl (by omega)) (t_Fen_takers (by assumption) (by assumption) (by omega) (by assumption) (by assumption) (by omega)) ⟨Nat.le_of_ble_eq_true rfl, Nat.le_of_ble_eq_true rfl, Nat.le_of_ble_eq_true rfl, Nat.le_of_ble_eq_true rfl⟩ (Nat.le_of_ble_eq_true rfl) ?_
        intro r w hq
        obtain ⟨rfl, rfl⟩ := hq
        refine z_Vi1 d_Tf_next_27 k_Tf_174 (by first | assumption | exact zS0_at (by assumption) (by omega) | exact zS0_at rfl (by omega)) (t_Tf_give (by assumption)) ⟨Nat.le_of_ble_eq_true rfl, Nat.le_of_ble_eq_true rfl, Nat.le_of_ble_eq_true rfl, Nat.le_of_ble_eq_true rfl⟩ (Nat.le_of_ble_eq_true rfl) ?_
        intro r w hq
        obtain ⟨rfl, rfl⟩ := hq
        refine z_reti d_Tf_next_30 ?_
        exact ⟨rfl, cW_0⟩)
  · first
    | (simp (disch := omega) only [← nI_0, nI_leI, nI_ltI, nI_eq, not_true_eq_false, not_false_eq_true] at h7; done)
    | (simp (disch := omega) only [← nI_0, nI_leI, nI_ltI, nI_eq, not_true_eq_false, not_false_eq_true] at h7; omega)
    | contradiction
    | exact absurd h7 (Int32.not_lt.mpr (by assumption))
    | exact absurd h7 (Int32.not_le.mpr (by assumption))
    | exact absurd h7 (by decide)
    | exact absurd (by decide) h7
    | ( try simp (disch := omega) only [← nI_0, nI_leI, nI_ltI, nI_eq, not_true_eq_false, not_false_eq_true] at h7
        (try have h7b := zbit_n0.mp h7); (try have h7b := zbit_p0.mp h7)
        refine z_aload_0 d_Tf_next_10 ?_
        refine z_iload_2 d_Tf_next_11 ?_
        refine z_Vi1 d_Tf_next_12 k_Tf_138 (by first | assumption | exact zS0_at (by assumption) (by omega) | exact zS0_at rfl (by omega)) (t_Tf_fail (by assumption)) ⟨Nat.le_of_ble_eq_true rfl, Nat.le_of_ble_eq_true rfl, Nat.le_of_ble_eq_true rfl, Nat.le_of_ble_eq_true rfl⟩ (Nat.le_of_ble_eq_true rfl) ?_
        intro r w hq
        obtain ⟨rfl, rfl⟩ := hq
        refine z_goto (tgt := 30) d_Tf_next_15 (by decide) ?_
        refine z_reti d_Tf_next_30 ?_
        exact ⟨rfl, cW_0⟩)
theorem t_Tf_next (Z : clOk f d P S) (N : fenIn I f nt np nl nn) (ht : t < nn) (hk : I (f + 5) t = nI k) (hp : I (f + 6) t = nI p) (hp2 : p < np) : zEi G y_Tf_next prog_1_method_30_code 3 (some .int) 4 [.ref 0, .int (nI t)] (I, J, P, S) (fun r w => r = I (f + 3) p &&& s_set (fun p => zB (I (f + 2) p) k) np ∧ cW I J P S 0 w) := by
  obtain ⟨⟨c0, c3, c1s⟩, ⟨c5, c2s, ctr⟩, ⟨c6, c11s, c11, c13s⟩, ⟨c7, c15s, c15⟩, ⟨c8, c16s, c16a, c16b, c17s⟩, ⟨c9, c10, cfd, F, Fd⟩, ⟨c11b, Ft⟩, ⟨c12, c69s, cmk⟩, ⟨c14, c121s, c121, c122s⟩, ⟨c15b, c123s, c123, c124s⟩, ⟨c16, c125s, c125, c126s⟩, ⟨c17, c127s, c127, c128s, ctb⟩, ⟨c18, c139s, c139, c140s⟩, ⟨c19, c141s, ⟨c141a, c142s⟩, ⟨c141b, c143s⟩, ⟨c141c, c144s⟩⟩, M⟩ := id Z
  obtain ⟨F0, ⟨F8, F8s⟩, ⟨F9, F9s⟩, ⟨F10, F10s⟩, ⟨F11, F11s⟩, ⟨F12, F12s⟩, ⟨F13, F13s⟩, ⟨F14, F14s⟩, ⟨F15, F15s⟩, ⟨F16, F16s⟩, ⟨F17, F17s⟩, ⟨F18, F18s⟩, ⟨F19, F19s⟩, ⟨Y3, Y3s⟩, ⟨Y4, Y4s⟩, ⟨Y5, Y5s⟩, ⟨Y6, Y6s⟩⟩ := id F
  refine zEi_of (lv := [some (.ref 0), some (.int (nI t)), none]) (by decide) rfl (Nat.le_of_ble_eq_true rfl) ?_
  refine z_aload_0 d_Tf_next_0 ?_
  refine z_iload_1 d_Tf_next_1 ?_
  refine z_Vi1 d_Tf_next_2 k_Tf_276 (by first | assumption | exact zS0_at (by assumption) (by omega) | exact zS0_at rfl (by omega)) (t_Tf_tinStatus_p Z N ht hp hp2) ⟨Nat.le_of_ble_eq_true rfl, Nat.le_of_ble_eq_true rfl, Nat.le_of_ble_eq_true rfl, Nat.le_of_ble_eq_true rfl⟩ (Nat.le_of_ble_eq_true rfl) ?_
  intro r w hq
  obtain ⟨rfl, rfl⟩ := hq
  first | refine z_istore_2 d_Tf_next_5 rfl ?_ | (refine z_forget_1 ?_; refine z_istore_2 d_Tf_next_5 rfl ?_)
  refine z_iload_2 d_Tf_next_6 ?_
  refine z_if_eq (tgt := 18) d_Tf_next_7 (by decide) (fun h7 => ?_) (fun h7 => ?_)
  · first
    | (simp (disch := omega) only [← nI_0, nI_leI, nI_ltI, nI_eq, not_true_eq_false, not_false_eq_true] at h7; done)
    | (simp (disch := omega) only [← nI_0, nI_leI, nI_ltI, nI_eq, not_true_eq_false, not_false_eq_true] at h7; omega)
    | contradiction
    | exact absurd h7 (Int32.not_lt.mpr (by assumption))
    | exact absurd h7 (Int32.not_le.mpr (by assumption))
    | exact absurd h7 (by decide)
    | exact absurd (by decide) h7
    | ( try simp (disch := omega) only [← nI_0, nI_leI, nI_ltI, nI_eq, not_true_eq_false, not_false_eq_true] at h7
        (try have h7b := zbit_n0.mp h7); (try have h7b := zbit_p0.mp h7)
        refine z_aload_0 d_Tf_next_18 ?_
        refine z_aload_0 d_Tf_next_19 ?_
        refine z_getR d_Tf_next_20 f_Tf_60 (by first | assumption | exact zS0_at (by assumption) (by omega) | exact zS0_at rfl (by omega)) (by first | assumption | exact zS0_at (by assumption) (by omega) | exact zS0_at rfl (by omega)) ?_
        refine z_iload_1 d_Tf_next_23 ?_
        refine z_Vi1 d_Tf_next_24 k_Tf_318 (by first | assumption | exact zS0_at (by assumption) (by omega) | exact zS0_at rfl (by omega)) (t_Fen_takers F N ht hk hp hp2) ⟨Nat.le_of_ble_eq_true rfl, Nat.le_of_ble_eq_true rfl, Nat.le_of_ble_eq_true rfl, Nat.le_of_ble_eq_true rfl⟩ (Nat.le_of_ble_eq_true rfl) ?_
        intro r w hq
        obtain ⟨rfl, rfl⟩ := hq
        refine z_Vi1 d_Tf_next_27 k_Tf_174 (by first | assumption | exact zS0_at (by assumption) (by omega) | exact zS0_at rfl (by omega)) (t_Tf_give (by assumption)) ⟨Nat.le_of_ble_eq_true rfl, Nat.le_of_ble_eq_true rfl, Nat.le_of_ble_eq_true rfl, Nat.le_of_ble_eq_true rfl⟩ (Nat.le_of_ble_eq_true rfl) ?_
        intro r w hq
        obtain ⟨rfl, rfl⟩ := hq
        refine z_reti d_Tf_next_30 ?_
        exact ⟨rfl, cW_0⟩)
  · first
    | (simp (disch := omega) only [← nI_0, nI_leI, nI_ltI, nI_eq, not_true_eq_false, not_false_eq_true] at h7; done)
    | (simp (disch := omega) only [← nI_0, nI_leI, nI_ltI, nI_eq, not_true_eq_false, not_false_eq_true] at h7; omega)
    | contradiction
    | exact absurd h7 (Int32.not_lt.mpr (by assumption))
    | exact absurd h7 (Int32.not_le.mpr (by assumption))
    | exact absurd h7 (by decide)
    | exact absurd (by decide) h7
    | ( try simp (disch := omega) only [← nI_0, nI_leI, nI_ltI, nI_eq, not_true_eq_false, not_false_eq_true] at h7
        (try have h7b := zbit_n0.mp h7); (try have h7b := zbit_p0.mp h7)
        refine z_aload_0 d_Tf_next_10 ?_
        refine z_iload_2 d_Tf_next_11 ?_
        refine z_Vi1 d_Tf_next_12 k_Tf_138 (by first | assumption | exact zS0_at (by assumption) (by omega) | exact zS0_at rfl (by omega)) (t_Tf_fail (by assumption)) ⟨Nat.le_of_ble_eq_true rfl, Nat.le_of_ble_eq_true rfl, Nat.le_of_ble_eq_true rfl, Nat.le_of_ble_eq_true rfl⟩ (Nat.le_of_ble_eq_true rfl) ?_
        intro r w hq
        obtain ⟨rfl, rfl⟩ := hq
        refine z_goto (tgt := 30) d_Tf_next_15 (by decide) ?_
        refine z_reti d_Tf_next_30 ?_
        exact ⟨rfl, cW_0⟩)
theorem t_Tf_reach_o (Z : clOk f d P S) (N : fenIn I f nt np nl nn) (h : ¬ zin a nn) : zEi G y_Tf_reach prog_1_method_29_code 3 (some .int) 4 [.ref 0, .int a] (I, J, P, S) (fun r w => r = -1 ∧ cW I J P S 2 w) := by
  obtain ⟨⟨c0, c3, c1s⟩, ⟨c5, c2s, ctr⟩, ⟨c6, c11s, c11, c13s⟩, ⟨c7, c15s, c15⟩, ⟨c8, c16s, c16a, c16b, c17s⟩, ⟨c9, c10, cfd, F, Fd⟩, ⟨c11b, Ft⟩, ⟨c12, c69s, cmk⟩, ⟨c14, c121s, c121, c122s⟩, ⟨c15b, c123s, c123, c124s⟩, ⟨c16, c125s, c125, c126s⟩, ⟨c17, c127s, c127, c128s, ctb⟩, ⟨c18, c139s, c139, c140s⟩, ⟨c19, c141s, ⟨c141a, c142s⟩, ⟨c141b, c143s⟩, ⟨c141c, c144s⟩⟩, M⟩ := id Z
  refine zEi_of (lv := [some (.ref 0), some (.int a), none]) (by decide) rfl (Nat.le_of_ble_eq_true rfl) ?_
  refine z_aload_0 d_Tf_reach_0 ?_
  refine z_iload_1 d_Tf_reach_1 ?_
  refine z_Vi1 d_Tf_reach_2 k_Tf_276 (by first | assumption | exact zS0_at (by assumption) (by omega) | exact zS0_at rfl (by omega)) (t_Tf_tinStatus_o Z N h) ⟨Nat.le_of_ble_eq_true rfl, Nat.le_of_ble_eq_true rfl, Nat.le_of_ble_eq_true rfl, Nat.le_of_ble_eq_true rfl⟩ (Nat.le_of_ble_eq_true rfl) ?_
  intro r w hq
  obtain ⟨rfl, rfl⟩ := hq
  first | refine z_istore_2 d_Tf_reach_5 rfl ?_ | (refine z_forget_1 ?_; refine z_istore_2 d_Tf_reach_5 rfl ?_)
  refine z_iload_2 d_Tf_reach_6 ?_
  refine z_if_eq (tgt := 18) d_Tf_reach_7 (by decide) (fun h7 => ?_) (fun h7 => ?_)
  · first
    | (simp (disch := omega) only [← nI_0, nI_leI, nI_ltI, nI_eq, not_true_eq_false, not_false_eq_true] at h7; done)
    | (simp (disch := omega) only [← nI_0, nI_leI, nI_ltI, nI_eq, not_true_eq_false, not_false_eq_true] at h7; omega)
    | contradiction
    | exact absurd h7 (Int32.not_lt.mpr (by assumption))
    | exact absurd h7 (Int32.not_le.mpr (by assumption))
    | exact absurd h7 (by decide)
    | exact absurd (by decide) h7
    | ( try simp (disch := omega) only [← nI_0, nI_leI, nI_ltI, nI_eq, not_true_eq_false, not_false_eq_true] at h7
        (try have h7b := zbit_n0.mp h7); (try have h7b := zbit_p0.mp h7)
        refine z_aload_0 d_Tf_reach_18 ?_
        refine z_aload_0 d_Tf_reach_19 ?_
        refine z_getR d_Tf_reach_20 f_Tf_60 (by first | assumption | exact zS0_at (by assumption) (by omega) | exact zS0_at rfl (by omega)) (by first | assumption | exact zS0_at (by assumption) (by omega) | exact zS0_at rfl (by omega)) ?_
        refine z_iload_1 d_Tf_reach_23 ?_
        fail)
  · first
    | (simp (disch := omega) only [← nI_0, nI_leI, nI_ltI, nI_eq, not_true_eq_false, not_false_eq_true] at h7; done)
    | (simp (disch := omega) only [← nI_0, nI_leI, nI_ltI, nI_eq, not_true_eq_false, not_false_eq_true] at h7; omega)
    | contradiction
    | exact absurd h7 (Int32.not_lt.mpr (by assumption))
    | exact absurd h7 (Int32.not_le.mpr (by assumption))
    | exact absurd h7 (by decide)
    | exact absurd (by decide) h7
    | ( try simp (disch := omega) only [← nI_0, nI_leI, nI_ltI, nI_eq, not_true_eq_false, not_false_eq_true] at h7
        (try have h7b := zbit_n0.mp h7); (try have h7b := zbit_p0.mp h7)
        refine z_aload_0 d_Tf_reach_10 ?_
        refine z_iload_2 d_Tf_reach_11 ?_
        refine z_Vi1 d_Tf_reach_12 k_Tf_138 (by first | assumption | exact zS0_at (by assumption) (by omega) | exact zS0_at rfl (by omega)) (t_Tf_fail (by assumption)) ⟨Nat.le_of_ble_eq_true rfl, Nat.le_of_ble_eq_true rfl, Nat.le_of_ble_eq_true rfl, Nat.le_of_ble_eq_true rfl⟩ (Nat.le_of_ble_eq_true rfl) ?_
        intro r w hq
        obtain ⟨rfl, rfl⟩ := hq
        refine z_goto (tgt := 30) d_Tf_reach_15 (by decide) ?_
        refine z_reti d_Tf_reach_30 ?_
        exact ⟨rfl, cW_0⟩)
theorem t_Tf_reach_g (Z : clOk f d P S) (N : fenIn I f nt np nl nn) (ht : t < nn) (hg : I (f + 6) t = -1) : zEi G y_Tf_reach prog_1_method_29_code 3 (some .int) 4 [.ref 0, .int (nI t)] (I, J, P, S) (fun r w => r = -1 ∧ cW I J P S 9 w) := by
  obtain ⟨⟨c0, c3, c1s⟩, ⟨c5, c2s, ctr⟩, ⟨c6, c11s, c11, c13s⟩, ⟨c7, c15s, c15⟩, ⟨c8, c16s, c16a, c16b, c17s⟩, ⟨c9, c10, cfd, F, Fd⟩, ⟨c11b, Ft⟩, ⟨c12, c69s, cmk⟩, ⟨c14, c121s, c121, c122s⟩, ⟨c15b, c123s, c123, c124s⟩, ⟨c16, c125s, c125, c126s⟩, ⟨c17, c127s, c127, c128s, ctb⟩, ⟨c18, c139s, c139, c140s⟩, ⟨c19, c141s, ⟨c141a, c142s⟩, ⟨c141b, c143s⟩, ⟨c141c, c144s⟩⟩, M⟩ := id Z
  refine zEi_of (lv := [some (.ref 0), some (.int (nI t)), none]) (by decide) rfl (Nat.le_of_ble_eq_true rfl) ?_
  refine z_aload_0 d_Tf_reach_0 ?_
  refine z_iload_1 d_Tf_reach_1 ?_
  refine z_Vi1 d_Tf_reach_2 k_Tf_276 (by first | assumption | exact zS0_at (by assumption) (by omega) | exact zS0_at rfl (by omega)) (t_Tf_tinStatus_g Z N ht hg) ⟨Nat.le_of_ble_eq_true rfl, Nat.le_of_ble_eq_true rfl, Nat.le_of_ble_eq_true rfl, Nat.le_of_ble_eq_true rfl⟩ (Nat.le_of_ble_eq_true rfl) ?_
  intro r w hq
  obtain ⟨rfl, rfl⟩ := hq
  first | refine z_istore_2 d_Tf_reach_5 rfl ?_ | (refine z_forget_1 ?_; refine z_istore_2 d_Tf_reach_5 rfl ?_)
  refine z_iload_2 d_Tf_reach_6 ?_
  refine z_if_eq (tgt := 18) d_Tf_reach_7 (by decide) (fun h7 => ?_) (fun h7 => ?_)
  · first
    | (simp (disch := omega) only [← nI_0, nI_leI, nI_ltI, nI_eq, not_true_eq_false, not_false_eq_true] at h7; done)
    | (simp (disch := omega) only [← nI_0, nI_leI, nI_ltI, nI_eq, not_true_eq_false, not_false_eq_true] at h7; omega)
    | contradiction
    | exact absurd h7 (Int32.not_lt.mpr (by assumption))
    | exact absurd h7 (Int32.not_le.mpr (by assumption))
    | exact absurd h7 (by decide)
    | exact absurd (by decide) h7
    | ( try simp (disch := omega) only [← nI_0, nI_leI, nI_ltI, nI_eq, not_true_eq_false, not_false_eq_true] at h7
        (try have h7b := zbit_n0.mp h7); (try have h7b := zbit_p0.mp h7)
        refine z_aload_0 d_Tf_reach_18 ?_
        refine z_aload_0 d_Tf_reach_19 ?_
        refine z_getR d_Tf_reach_20 f_Tf_60 (by first | assumption | exact zS0_at (by assumption) (by omega) | exact zS0_at rfl (by omega)) (by first | assumption | exact zS0_at (by assumption) (by omega) | exact zS0_at rfl (by omega)) ?_
        refine z_iload_1 d_Tf_reach_23 ?_
        fail)
  · first
    | (simp (disch := omega) only [← nI_0, nI_leI, nI_ltI, nI_eq, not_true_eq_false, not_false_eq_true] at h7; done)
    | (simp (disch := omega) only [← nI_0, nI_leI, nI_ltI, nI_eq, not_true_eq_false, not_false_eq_true] at h7; omega)
    | contradiction
    | exact absurd h7 (Int32.not_lt.mpr (by assumption))
    | exact absurd h7 (Int32.not_le.mpr (by assumption))
    | exact absurd h7 (by decide)
    | exact absurd (by decide) h7
    | ( try simp (disch := omega) only [← nI_0, nI_leI, nI_ltI, nI_eq, not_true_eq_false, not_false_eq_true] at h7
        (try have h7b := zbit_n0.mp h7); (try have h7b := zbit_p0.mp h7)
        refine z_aload_0 d_Tf_reach_10 ?_
        refine z_iload_2 d_Tf_reach_11 ?_
        refine z_Vi1 d_Tf_reach_12 k_Tf_138 (by first | assumption | exact zS0_at (by assumption) (by omega) | exact zS0_at rfl (by omega)) (t_Tf_fail (by assumption)) ⟨Nat.le_of_ble_eq_true rfl, Nat.le_of_ble_eq_true rfl, Nat.le_of_ble_eq_true rfl, Nat.le_of_ble_eq_true rfl⟩ (Nat.le_of_ble_eq_true rfl) ?_
        intro r w hq
        obtain ⟨rfl, rfl⟩ := hq
        refine z_goto (tgt := 30) d_Tf_reach_15 (by decide) ?_
        refine z_reti d_Tf_reach_30 ?_
        exact ⟨rfl, cW_0⟩)
theorem t_Tf_reach (Z : clOk f d P S) (N : fenIn I f nt np nl nn) (ht : t < nn) (hk : I (f + 5) t = nI k) (hp : I (f + 6) t = nI p) (hp2 : p < np) : zEi G y_Tf_reach prog_1_method_29_code 3 (some .int) 4 [.ref 0, .int (nI t)] (I, J, P, S) (fun r w => r = s_rch (I (f + 3)) np (s_set (fun p => zB (I (f + 2) p) k) np) (nI 1 <<< (nI p &&& 31)) 7 ∧ cW I J P S 0 w) := by
  obtain ⟨⟨c0, c3, c1s⟩, ⟨c5, c2s, ctr⟩, ⟨c6, c11s, c11, c13s⟩, ⟨c7, c15s, c15⟩, ⟨c8, c16s, c16a, c16b, c17s⟩, ⟨c9, c10, cfd, F, Fd⟩, ⟨c11b, Ft⟩, ⟨c12, c69s, cmk⟩, ⟨c14, c121s, c121, c122s⟩, ⟨c15b, c123s, c123, c124s⟩, ⟨c16, c125s, c125, c126s⟩, ⟨c17, c127s, c127, c128s, ctb⟩, ⟨c18, c139s, c139, c140s⟩, ⟨c19, c141s, ⟨c141a, c142s⟩, ⟨c141b, c143s⟩, ⟨c141c, c144s⟩⟩, M⟩ := id Z
  obtain ⟨F0, ⟨F8, F8s⟩, ⟨F9, F9s⟩, ⟨F10, F10s⟩, ⟨F11, F11s⟩, ⟨F12, F12s⟩, ⟨F13, F13s⟩, ⟨F14, F14s⟩, ⟨F15, F15s⟩, ⟨F16, F16s⟩, ⟨F17, F17s⟩, ⟨F18, F18s⟩, ⟨F19, F19s⟩, ⟨Y3, Y3s⟩, ⟨Y4, Y4s⟩, ⟨Y5, Y5s⟩, ⟨Y6, Y6s⟩⟩ := id F
  refine zEi_of (lv := [some (.ref 0), some (.int (nI t)), none]) (by decide) rfl (Nat.le_of_ble_eq_true rfl) ?_
  refine z_aload_0 d_Tf_reach_0 ?_
  refine z_iload_1 d_Tf_reach_1 ?_
  refine z_Vi1 d_Tf_reach_2 k_Tf_276 (by first | assumption | exact zS0_at (by assumption) (by omega) | exact zS0_at rfl (by omega)) (t_Tf_tinStatus_p Z N ht hp hp2) ⟨Nat.le_of_ble_eq_true rfl, Nat.le_of_ble_eq_true rfl, Nat.le_of_ble_eq_true rfl, Nat.le_of_ble_eq_true rfl⟩ (Nat.le_of_ble_eq_true rfl) ?_
  intro r w hq
  obtain ⟨rfl, rfl⟩ := hq
  first | refine z_istore_2 d_Tf_reach_5 rfl ?_ | (refine z_forget_1 ?_; refine z_istore_2 d_Tf_reach_5 rfl ?_)
  refine z_iload_2 d_Tf_reach_6 ?_
  refine z_if_eq (tgt := 18) d_Tf_reach_7 (by decide) (fun h7 => ?_) (fun h7 => ?_)
  · first
    | (simp (disch := omega) only [← nI_0, nI_leI, nI_ltI, nI_eq, not_true_eq_false, not_false_eq_true] at h7; done)
    | (simp (disch := omega) only [← nI_0, nI_leI, nI_ltI, nI_eq, not_true_eq_false, not_false_eq_true] at h7; omega)
    | contradiction
    | exact absurd h7 (Int32.not_lt.mpr (by assumption))
    | exact absurd h7 (Int32.not_le.mpr (by assumption))
    | exact absurd h7 (by decide)
    | exact absurd (by decide) h7
    | ( try simp (disch := omega) only [← nI_0, nI_leI, nI_ltI, nI_eq, not_true_eq_false, not_false_eq_true] at h7
        (try have h7b := zbit_n0.mp h7); (try have h7b := zbit_p0.mp h7)
        refine z_aload_0 d_Tf_reach_18 ?_
        refine z_aload_0 d_Tf_reach_19 ?_
        refine z_getR d_Tf_reach_20 f_Tf_60 (by first | assumption | exact zS0_at (by assumption) (by omega) | exact zS0_at rfl (by omega)) (by first | assumption | exact zS0_at (by assumption) (by omega) | exact zS0_at rfl (by omega)) ?_
        refine z_iload_1 d_Tf_reach_23 ?_
        refine z_Si2 d_Tf_reach_24 k_Tf_314 (t_Rows_reached F N ht hk hp) ⟨Nat.le_of_ble_eq_true rfl, Nat.le_of_ble_eq_true rfl, Nat.le_of_ble_eq_true rfl, Nat.le_of_ble_eq_true rfl⟩ (Nat.le_of_ble_eq_true rfl) ?_
        intro r w hq
        obtain ⟨rfl, rfl⟩ := hq
        refine z_Vi1 d_Tf_reach_27 k_Tf_174 (by first | assumption | exact zS0_at (by assumption) (by omega) | exact zS0_at rfl (by omega)) (t_Tf_give (by assumption)) ⟨Nat.le_of_ble_eq_true rfl, Nat.le_of_ble_eq_true rfl, Nat.le_of_ble_eq_true rfl, Nat.le_of_ble_eq_true rfl⟩ (Nat.le_of_ble_eq_true rfl) ?_
        intro r w hq
        obtain ⟨rfl, rfl⟩ := hq
        refine z_reti d_Tf_reach_30 ?_
        exact ⟨rfl, cW_0⟩)
  · first
    | (simp (disch := omega) only [← nI_0, nI_leI, nI_ltI, nI_eq, not_true_eq_false, not_false_eq_true] at h7; done)
    | (simp (disch := omega) only [← nI_0, nI_leI, nI_ltI, nI_eq, not_true_eq_false, not_false_eq_true] at h7; omega)
    | contradiction
    | exact absurd h7 (Int32.not_lt.mpr (by assumption))
    | exact absurd h7 (Int32.not_le.mpr (by assumption))
    | exact absurd h7 (by decide)
    | exact absurd (by decide) h7
    | ( try simp (disch := omega) only [← nI_0, nI_leI, nI_ltI, nI_eq, not_true_eq_false, not_false_eq_true] at h7
        (try have h7b := zbit_n0.mp h7); (try have h7b := zbit_p0.mp h7)
        refine z_aload_0 d_Tf_reach_10 ?_
        refine z_iload_2 d_Tf_reach_11 ?_
        refine z_Vi1 d_Tf_reach_12 k_Tf_138 (by first | assumption | exact zS0_at (by assumption) (by omega) | exact zS0_at rfl (by omega)) (t_Tf_fail (by assumption)) ⟨Nat.le_of_ble_eq_true rfl, Nat.le_of_ble_eq_true rfl, Nat.le_of_ble_eq_true rfl, Nat.le_of_ble_eq_true rfl⟩ (Nat.le_of_ble_eq_true rfl) ?_
        intro r w hq
        obtain ⟨rfl, rfl⟩ := hq
        refine z_goto (tgt := 30) d_Tf_reach_15 (by decide) ?_
        refine z_reti d_Tf_reach_30 ?_
        exact ⟨rfl, cW_0⟩)
theorem t_Mo_next_o (M : modOk P S) (N : modIn I nt np nl nn) (h : ¬ zin a nn) : zEi G y_Mo_next prog_14_method_108_code 2 (some .int) 4 [.ref 145, .int a] (I, J, P, S) (fun r w => r = -1 ∧ mW I J P S 2 w) := by
  obtain ⟨M0, ⟨M4, M4s⟩, ⟨M5, M5s⟩, ⟨M6, M6s⟩, ⟨M7, M7s⟩, ⟨M20, M20s⟩, ⟨M21, M21s⟩, ⟨M22, M22s⟩, ⟨M26, M26s⟩, ⟨M27, M27s⟩, ⟨M28, M28s⟩, ⟨M30, M30s⟩, ⟨M34, M34s⟩, ⟨M36, M36s⟩, ⟨M37, M37s⟩⟩ := id M
  refine zEi_of (lv := [some (.ref 145), some (.int a)]) (by decide) rfl (Nat.le_of_ble_eq_true rfl) ?_
  refine z_aload_0 d_Mo_next_0 ?_
  refine z_iconst (a := nI 0) d_Mo_next_1 (by decide) ?_
  refine z_putI d_Mo_next_2 f_Mo_70 (by first | assumption | exact zS0_at (by assumption) (by omega) | exact zS0_at rfl (by omega)) ?_
  refine z_aload_0 d_Mo_next_5 ?_
  refine z_aload_0 d_Mo_next_6 ?_
  refine z_iload_1 d_Mo_next_7 ?_
  refine z_Vi1 d_Mo_next_8 k_Mo_380 (by first | assumption | exact zS0_at (by assumption) (by omega) | exact zS0_at rfl (by omega)) (t_Mo_whyNoTin_o M (modIn_z N) h) ⟨Nat.le_of_ble_eq_true rfl, Nat.le_of_ble_eq_true rfl, Nat.le_of_ble_eq_true rfl, Nat.le_of_ble_eq_true rfl⟩ (Nat.le_of_ble_eq_true rfl) ?_
  intro r w hq
  obtain ⟨rfl, rfl⟩ := hq
  refine z_putI d_Mo_next_11 f_Mo_73 (by first | assumption | exact zS0_at (by assumption) (by omega) | exact zS0_at rfl (by omega)) ?_
  refine z_aload_0 d_Mo_next_14 ?_
  refine z_getIv d_Mo_next_15 f_Mo_73 (by first | assumption | exact zS0_at (by assumption) (by omega) | exact zS0_at rfl (by omega)) (by first | assumption | ((try simp (disch := omega) only [zu_same, zu_ne, zcp_ne, zfl_ne]); first | assumption | rfl)) ?_
  refine z_if_le (tgt := 25) d_Mo_next_18 (by decide) (fun h18 => ?_) (fun h18 => ?_)
  · first
    | (simp (disch := omega) only [← nI_0, nI_leI, nI_ltI, nI_eq, not_true_eq_false, not_false_eq_true] at h18; done)
    | (simp (disch := omega) only [← nI_0, nI_leI, nI_ltI, nI_eq, not_true_eq_false, not_false_eq_true] at h18; omega)
    | contradiction
    | exact absurd h18 (Int32.not_lt.mpr (by assumption))
    | exact absurd h18 (Int32.not_le.mpr (by assumption))
    | exact absurd h18 (by decide)
    | exact absurd (by decide) h18
    | ( try simp (disch := omega) only [← nI_0, nI_leI, nI_ltI, nI_eq, not_true_eq_false, not_false_eq_true] at h18
        (try have h18b := zbit_n0.mp h18); (try have h18b := zbit_p0.mp h18)
        refine z_aload_0 d_Mo_next_25 ?_
        refine z_iload_1 d_Mo_next_26 ?_
        refine z_aload_0 d_Mo_next_27 ?_
        refine z_getR d_Mo_next_28 f_Mo_35 (by first | assumption | exact zS0_at (by assumption) (by omega) | exact zS0_at rfl (by omega)) (by first | assumption | exact zS0_at (by assumption) (by omega) | exact zS0_at rfl (by omega)) ?_
        refine z_bipush (a := nI 42) d_Mo_next_31 (by decide) ?_
        refine z_iload_1 d_Mo_next_33 ?_
        first | refine z_iaddN d_Mo_next_34 ?_ | refine z_iadd d_Mo_next_34 ?_
        first | refine z_ialdNv d_Mo_next_35 (by first | assumption | exact zS0_at (by assumption) (by omega) | exact zS0_at rfl (by omega)) (by omega) (by first | decide | omega) (by first | assumption | ((try simp (disch := omega) only [zu_same, zu_ne, zcp_ne, zfl_ne]); first | assumption | rfl)) ?_ | refine z_iald d_Mo_next_35 (by first | assumption | exact zS0_at (by assumption) (by omega) | exact zS0_at rfl (by omega)) (by first | assumption | exact zS0_at (by assumption) (by omega) | exact zS0_at rfl (by omega)) ?_
        refine z_Vi2 d_Mo_next_36 k_Mo_357 (by first | assumption | exact zS0_at (by assumption) (by omega) | exact zS0_at rfl (by omega)) (t_Mo_nextOf (by assumption) (by assumption) (by omega) (by assumption) (by omega)) ⟨Nat.le_of_ble_eq_true rfl, Nat.le_of_ble_eq_true rfl, Nat.le_of_ble_eq_true rfl, Nat.le_of_ble_eq_true rfl⟩ (Nat.le_of_ble_eq_true rfl) ?_
        intro r w hq
        obtain ⟨rfl, rfl⟩ := hq
        refine z_reti d_Mo_next_39 ?_
        exact ⟨rfl, _, _, rfl, mqF_z (mqF_z mqF_r (by decide)) (by decide), mqJ_r, zu_same _ _ _ _⟩)
  · first
    | (simp (disch := omega) only [← nI_0, nI_leI, nI_ltI, nI_eq, not_true_eq_false, not_false_eq_true] at h18; done)
    | (simp (disch := omega) only [← nI_0, nI_leI, nI_ltI, nI_eq, not_true_eq_false, not_false_eq_true] at h18; omega)
    | contradiction
    | exact absurd h18 (Int32.not_lt.mpr (by assumption))
    | exact absurd h18 (Int32.not_le.mpr (by assumption))
    | exact absurd h18 (by decide)
    | exact absurd (by decide) h18
    | ( try simp (disch := omega) only [← nI_0, nI_leI, nI_ltI, nI_eq, not_true_eq_false, not_false_eq_true] at h18
        (try have h18b := zbit_n0.mp h18); (try have h18b := zbit_p0.mp h18)
        refine z_iconst (a := -1) d_Mo_next_21 (by decide) ?_
        refine z_goto (tgt := 39) d_Mo_next_22 (by decide) ?_
        refine z_reti d_Mo_next_39 ?_
        exact ⟨rfl, _, _, rfl, mqF_z (mqF_z mqF_r (by decide)) (by decide), mqJ_r, zu_same _ _ _ _⟩)
theorem t_Mo_next_g (M : modOk P S) (N : modIn I nt np nl nn) (ht : t < nn) (hg : I 150 (42 + t) = -1) : zEi G y_Mo_next prog_14_method_108_code 2 (some .int) 4 [.ref 145, .int (nI t)] (I, J, P, S) (fun r w => r = -1 ∧ mW I J P S 9 w) := by
  obtain ⟨M0, ⟨M4, M4s⟩, ⟨M5, M5s⟩, ⟨M6, M6s⟩, ⟨M7, M7s⟩, ⟨M20, M20s⟩, ⟨M21, M21s⟩, ⟨M22, M22s⟩, ⟨M26, M26s⟩, ⟨M27, M27s⟩, ⟨M28, M28s⟩, ⟨M30, M30s⟩, ⟨M34, M34s⟩, ⟨M36, M36s⟩, ⟨M37, M37s⟩⟩ := id M
  have hg' : zu I 145 1 (nI 0) 150 (42 + t) = -1 := by rw [zu_row _ _ _ _ (by decide)]; exact hg
  refine zEi_of (lv := [some (.ref 145), some (.int (nI t))]) (by decide) rfl (Nat.le_of_ble_eq_true rfl) ?_
  refine z_aload_0 d_Mo_next_0 ?_
  refine z_iconst (a := nI 0) d_Mo_next_1 (by decide) ?_
  refine z_putI d_Mo_next_2 f_Mo_70 (by first | assumption | exact zS0_at (by assumption) (by omega) | exact zS0_at rfl (by omega)) ?_
  refine z_aload_0 d_Mo_next_5 ?_
  refine z_aload_0 d_Mo_next_6 ?_
  refine z_iload_1 d_Mo_next_7 ?_
  refine z_Vi1 d_Mo_next_8 k_Mo_380 (by first | assumption | exact zS0_at (by assumption) (by omega) | exact zS0_at rfl (by omega)) (t_Mo_whyNoTin_g M (modIn_z N) ht hg') ⟨Nat.le_of_ble_eq_true rfl, Nat.le_of_ble_eq_true rfl, Nat.le_of_ble_eq_true rfl, Nat.le_of_ble_eq_true rfl⟩ (Nat.le_of_ble_eq_true rfl) ?_
  intro r w hq
  obtain ⟨rfl, rfl⟩ := hq
  refine z_putI d_Mo_next_11 f_Mo_73 (by first | assumption | exact zS0_at (by assumption) (by omega) | exact zS0_at rfl (by omega)) ?_
  refine z_aload_0 d_Mo_next_14 ?_
  refine z_getIv d_Mo_next_15 f_Mo_73 (by first | assumption | exact zS0_at (by assumption) (by omega) | exact zS0_at rfl (by omega)) (by first | assumption | ((try simp (disch := omega) only [zu_same, zu_ne, zcp_ne, zfl_ne]); first | assumption | rfl)) ?_
  refine z_if_le (tgt := 25) d_Mo_next_18 (by decide) (fun h18 => ?_) (fun h18 => ?_)
  · first
    | (simp (disch := omega) only [← nI_0, nI_leI, nI_ltI, nI_eq, not_true_eq_false, not_false_eq_true] at h18; done)
    | (simp (disch := omega) only [← nI_0, nI_leI, nI_ltI, nI_eq, not_true_eq_false, not_false_eq_true] at h18; omega)
    | contradiction
    | exact absurd h18 (Int32.not_lt.mpr (by assumption))
    | exact absurd h18 (Int32.not_le.mpr (by assumption))
    | exact absurd h18 (by decide)
    | exact absurd (by decide) h18
    | ( try simp (disch := omega) only [← nI_0, nI_leI, nI_ltI, nI_eq, not_true_eq_false, not_false_eq_true] at h18
        (try have h18b := zbit_n0.mp h18); (try have h18b := zbit_p0.mp h18)
        refine z_aload_0 d_Mo_next_25 ?_
        refine z_iload_1 d_Mo_next_26 ?_
        refine z_aload_0 d_Mo_next_27 ?_
        refine z_getR d_Mo_next_28 f_Mo_35 (by first | assumption | exact zS0_at (by assumption) (by omega) | exact zS0_at rfl (by omega)) (by first | assumption | exact zS0_at (by assumption) (by omega) | exact zS0_at rfl (by omega)) ?_
        refine z_bipush (a := nI 42) d_Mo_next_31 (by decide) ?_
        refine z_iload_1 d_Mo_next_33 ?_
        first | refine z_iaddN d_Mo_next_34 ?_ | refine z_iadd d_Mo_next_34 ?_
        first | refine z_ialdNv d_Mo_next_35 (by first | assumption | exact zS0_at (by assumption) (by omega) | exact zS0_at rfl (by omega)) (by omega) (by first | decide | omega) (by first | assumption | ((try simp (disch := omega) only [zu_same, zu_ne, zcp_ne, zfl_ne]); first | assumption | rfl)) ?_ | refine z_iald d_Mo_next_35 (by first | assumption | exact zS0_at (by assumption) (by omega) | exact zS0_at rfl (by omega)) (by first | assumption | exact zS0_at (by assumption) (by omega) | exact zS0_at rfl (by omega)) ?_
        refine z_Vi2 d_Mo_next_36 k_Mo_357 (by first | assumption | exact zS0_at (by assumption) (by omega) | exact zS0_at rfl (by omega)) (t_Mo_nextOf (by assumption) (by assumption) (by omega) (by assumption) (by omega)) ⟨Nat.le_of_ble_eq_true rfl, Nat.le_of_ble_eq_true rfl, Nat.le_of_ble_eq_true rfl, Nat.le_of_ble_eq_true rfl⟩ (Nat.le_of_ble_eq_true rfl) ?_
        intro r w hq
        obtain ⟨rfl, rfl⟩ := hq
        refine z_reti d_Mo_next_39 ?_
        exact ⟨rfl, _, _, rfl, mqF_z (mqF_z mqF_r (by decide)) (by decide), mqJ_r, zu_same _ _ _ _⟩)
  · first
    | (simp (disch := omega) only [← nI_0, nI_leI, nI_ltI, nI_eq, not_true_eq_false, not_false_eq_true] at h18; done)
    | (simp (disch := omega) only [← nI_0, nI_leI, nI_ltI, nI_eq, not_true_eq_false, not_false_eq_true] at h18; omega)
    | contradiction
    | exact absurd h18 (Int32.not_lt.mpr (by assumption))
    | exact absurd h18 (Int32.not_le.mpr (by assumption))
    | exact absurd h18 (by decide)
    | exact absurd (by decide) h18
    | ( try simp (disch := omega) only [← nI_0, nI_leI, nI_ltI, nI_eq, not_true_eq_false, not_false_eq_true] at h18
        (try have h18b := zbit_n0.mp h18); (try have h18b := zbit_p0.mp h18)
        refine z_iconst (a := -1) d_Mo_next_21 (by decide) ?_
        refine z_goto (tgt := 39) d_Mo_next_22 (by decide) ?_
        refine z_reti d_Mo_next_39 ?_
        exact ⟨rfl, _, _, rfl, mqF_z (mqF_z mqF_r (by decide)) (by decide), mqJ_r, zu_same _ _ _ _⟩)
theorem t_Mo_next (M : modOk P S) (N : modIn I nt np nl nn) (ht : t < nn) (hk : I 150 (33 + t) = nI k) (hp : I 150 (42 + t) = nI p) (hp2 : p < np) : zEi G y_Mo_next prog_14_method_108_code 2 (some .int) 4 [.ref 145, .int (nI t)] (I, J, P, S) (fun r w => r = mMt I p &&& mTk I np k ∧ mW I J P S 0 w) := by
  obtain ⟨M0, ⟨M4, M4s⟩, ⟨M5, M5s⟩, ⟨M6, M6s⟩, ⟨M7, M7s⟩, ⟨M20, M20s⟩, ⟨M21, M21s⟩, ⟨M22, M22s⟩, ⟨M26, M26s⟩, ⟨M27, M27s⟩, ⟨M28, M28s⟩, ⟨M30, M30s⟩, ⟨M34, M34s⟩, ⟨M36, M36s⟩, ⟨M37, M37s⟩⟩ := id M
  obtain ⟨I1, hI1, N1, h1, h0, e150, er, ek⟩ := mo_beg N
  obtain ⟨⟨m0, m0b⟩, ⟨m1, m1b⟩, ⟨m2, m2b⟩, ⟨m3, m3b⟩, mof, mon⟩ := id N
  have hp' : zu I 145 1 (nI 0) 150 (42 + t) = nI p := by rw [zu_row _ _ _ _ (by decide)]; exact hp
  have hp1 : I1 150 (42 + t) = nI p := by rw [e150]; exact hp
  have hk1 : I1 150 (33 + t) = nI k := by rw [e150]; exact hk
  refine zEi_of (lv := [some (.ref 145), some (.int (nI t))]) (by decide) rfl (Nat.le_of_ble_eq_true rfl) ?_
  refine z_aload_0 d_Mo_next_0 ?_
  refine z_iconst (a := nI 0) d_Mo_next_1 (by decide) ?_
  refine z_putI d_Mo_next_2 f_Mo_70 (by first | assumption | exact zS0_at (by assumption) (by omega) | exact zS0_at rfl (by omega)) ?_
  refine z_aload_0 d_Mo_next_5 ?_
  refine z_aload_0 d_Mo_next_6 ?_
  refine z_iload_1 d_Mo_next_7 ?_
  refine z_Vi1 d_Mo_next_8 k_Mo_380 (by first | assumption | exact zS0_at (by assumption) (by omega) | exact zS0_at rfl (by omega)) (t_Mo_whyNoTin_p M (modIn_z N) ht hp' hp2) ⟨Nat.le_of_ble_eq_true rfl, Nat.le_of_ble_eq_true rfl, Nat.le_of_ble_eq_true rfl, Nat.le_of_ble_eq_true rfl⟩ (Nat.le_of_ble_eq_true rfl) ?_
  intro r w hq
  obtain ⟨rfl, rfl⟩ := hq
  refine z_putI d_Mo_next_11 f_Mo_73 (by first | assumption | exact zS0_at (by assumption) (by omega) | exact zS0_at rfl (by omega)) ?_
  rw [← hI1]
  refine z_aload_0 d_Mo_next_14 ?_
  refine z_getIv d_Mo_next_15 f_Mo_73 (by first | assumption | exact zS0_at (by assumption) (by omega) | exact zS0_at rfl (by omega)) (by first | assumption | ((try simp (disch := omega) only [zu_same, zu_ne, zcp_ne, zfl_ne]); first | assumption | rfl)) ?_
  refine z_if_le (tgt := 25) d_Mo_next_18 (by decide) (fun h18 => ?_) (fun h18 => ?_)
  · first
    | (simp (disch := omega) only [← nI_0, nI_leI, nI_ltI, nI_eq, not_true_eq_false, not_false_eq_true] at h18; done)
    | (simp (disch := omega) only [← nI_0, nI_leI, nI_ltI, nI_eq, not_true_eq_false, not_false_eq_true] at h18; omega)
    | contradiction
    | exact absurd h18 (Int32.not_lt.mpr (by assumption))
    | exact absurd h18 (Int32.not_le.mpr (by assumption))
    | exact absurd h18 (by decide)
    | exact absurd (by decide) h18
    | ( try simp (disch := omega) only [← nI_0, nI_leI, nI_ltI, nI_eq, not_true_eq_false, not_false_eq_true] at h18
        (try have h18b := zbit_n0.mp h18); (try have h18b := zbit_p0.mp h18)
        refine z_aload_0 d_Mo_next_25 ?_
        refine z_iload_1 d_Mo_next_26 ?_
        refine z_aload_0 d_Mo_next_27 ?_
        refine z_getR d_Mo_next_28 f_Mo_35 (by first | assumption | exact zS0_at (by assumption) (by omega) | exact zS0_at rfl (by omega)) (by first | assumption | exact zS0_at (by assumption) (by omega) | exact zS0_at rfl (by omega)) ?_
        refine z_bipush (a := nI 42) d_Mo_next_31 (by decide) ?_
        refine z_iload_1 d_Mo_next_33 ?_
        first | refine z_iaddN d_Mo_next_34 ?_ | refine z_iadd d_Mo_next_34 ?_
        first | refine z_ialdNv d_Mo_next_35 (by first | assumption | exact zS0_at (by assumption) (by omega) | exact zS0_at rfl (by omega)) (by omega) (by first | decide | omega) (by first | assumption | ((try simp (disch := omega) only [zu_same, zu_ne, zcp_ne, zfl_ne]); first | assumption | rfl)) ?_ | refine z_iald d_Mo_next_35 (by first | assumption | exact zS0_at (by assumption) (by omega) | exact zS0_at rfl (by omega)) (by first | assumption | exact zS0_at (by assumption) (by omega) | exact zS0_at rfl (by omega)) ?_
        refine z_Vi2 d_Mo_next_36 k_Mo_357 (by first | assumption | exact zS0_at (by assumption) (by omega) | exact zS0_at rfl (by omega)) (t_Mo_nextOf' M N1 (by omega) hk1 (by omega)) ⟨Nat.le_of_ble_eq_true rfl, Nat.le_of_ble_eq_true rfl, Nat.le_of_ble_eq_true rfl, Nat.le_of_ble_eq_true rfl⟩ (Nat.le_of_ble_eq_true rfl) ?_
        intro r w hq
        obtain ⟨rfl, rfl⟩ := hq
        refine z_reti d_Mo_next_39 ?_
        exact ⟨by rw [mMt_c e150, mTk_c e150], _, _, rfl, h1, mqJ_r, h0⟩)
  · first
    | (simp (disch := omega) only [← nI_0, nI_leI, nI_ltI, nI_eq, not_true_eq_false, not_false_eq_true] at h18; done)
    | (simp (disch := omega) only [← nI_0, nI_leI, nI_ltI, nI_eq, not_true_eq_false, not_false_eq_true] at h18; omega)
    | contradiction
    | exact absurd h18 (Int32.not_lt.mpr (by assumption))
    | exact absurd h18 (Int32.not_le.mpr (by assumption))
    | exact absurd h18 (by decide)
    | exact absurd (by decide) h18
    | ( try simp (disch := omega) only [← nI_0, nI_leI, nI_ltI, nI_eq, not_true_eq_false, not_false_eq_true] at h18
        (try have h18b := zbit_n0.mp h18); (try have h18b := zbit_p0.mp h18)
        refine z_iconst (a := -1) d_Mo_next_21 (by decide) ?_
        refine z_goto (tgt := 39) d_Mo_next_22 (by decide) ?_
        refine z_reti d_Mo_next_39 ?_
        exact ⟨by rw [mMt_c e150, mTk_c e150], _, _, rfl, h1, mqJ_r, h0⟩)
theorem L_next (h : zInv n w) : zEi G y_Tf_next prog_1_method_30_code 3 (some .int) 4 [.ref 0, .int a] w (fun r w1 => w1.2.2.2 = w.2.2.2 ∧ zEi G y_Mo_next prog_14_method_108_code 2 (some .int) 4 [.ref 145, .int a] w1 (fun r' w2 => r' = r ∧ zInv (n + 1) w2)) := by
  obtain ⟨f, d, nt, np, nl, nn, fed, mk, I, J, P, S, rfl, Z, X⟩ := h
  have M := clOk_M Z
  have hf := clOk_f Z
  have N := stR_fen X
  have N0 := stR_mod X
  have fm := stR_fm X
  obtain ⟨⟨⟨a1, r1, b1⟩, ⟨a2, r2, b2⟩, ⟨a3, r3, b3⟩, ⟨a4, r4, b4⟩⟩, ⟨⟨o, ob, ao, ro⟩, r5⟩, fw, fp, ft, fz⟩ := id fm
  rcases zin_or a nn (by omega) with ⟨-, h⟩ | ⟨t, ht, rfl⟩
  · exact L_q Z X (t_Tf_next_o Z N h) (fun I' J' e _ => ⟨_, rfl, t_Mo_next_o M (modIn_c N0 (e 150 (by decide))) h⟩)
  obtain ⟨⟨k, hk, k1, k2⟩, ⟨g1, g2⟩, -⟩ := ft t ht
  rcases g1 with g1 | ⟨p, hp, g1⟩
  · exact L_q Z X (t_Tf_next_g Z N ht g1) (fun I' J' e _ => ⟨_, rfl, t_Mo_next_g M (modIn_c N0 (e 150 (by decide))) ht (by rw [e 150 (by decide)]; exact g2.trans g1)⟩)
  · exact L_q Z X (t_Tf_next Z N ht k1 g1 hp) (fun I' J' e _ => ⟨_, by
      rw [mMt_c (e 150 (by decide)), mTk_c (k := k) (e 150 (by decide))]
      show I 150 (19 + p) &&& s_set (fun q => zB (I 150 (12 + q)) k) np = I (f + 3) p &&& s_set (fun p => zB (I (f + 2) p) k) np
      rw [(fp p hp).2.1, s_set_congr np (fun q hq => by rw [(fp q hq).1])]
      rfl, t_Mo_next (k := k) M (modIn_c N0 (e 150 (by decide))) ht (by rw [e 150 (by decide)]; exact k2) (by rw [e 150 (by decide)]; exact g2.trans g1) hp⟩)
theorem t_Mo_reach_o (M : modOk P S) (N : modIn I nt np nl nn) (h : ¬ zin a nn) : zEi G y_Mo_reach prog_14_method_107_code 5 (some .int) 4 [.ref 145, .int a] (I, J, P, S) (fun r w => r = -1 ∧ mW I J P S 2 w) := by
  obtain ⟨M0, ⟨M4, M4s⟩, ⟨M5, M5s⟩, ⟨M6, M6s⟩, ⟨M7, M7s⟩, ⟨M20, M20s⟩, ⟨M21, M21s⟩, ⟨M22, M22s⟩, ⟨M26, M26s⟩, ⟨M27, M27s⟩, ⟨M28, M28s⟩, ⟨M30, M30s⟩, ⟨M34, M34s⟩, ⟨M36, M36s⟩, ⟨M37, M37s⟩⟩ := id M
  refine zEi_of (lv := [some (.ref 145), some (.int a), none, none, none]) (by decide) rfl (Nat.le_of_ble_eq_true rfl) ?_
  refine z_aload_0 d_Mo_reach_0 ?_
  refine z_iconst (a := nI 0) d_Mo_reach_1 (by decide) ?_
  refine z_putI d_Mo_reach_2 f_Mo_70 (by first | assumption | exact zS0_at (by assumption) (by omega) | exact zS0_at rfl (by omega)) ?_
  refine z_aload_0 d_Mo_reach_5 ?_
  refine z_aload_0 d_Mo_reach_6 ?_
  refine z_iload_1 d_Mo_reach_7 ?_
  refine z_Vi1 d_Mo_reach_8 k_Mo_380 (by first | assumption | exact zS0_at (by assumption) (by omega) | exact zS0_at rfl (by omega)) (t_Mo_whyNoTin_o M (modIn_z N) h) ⟨Nat.le_of_ble_eq_true rfl, Nat.le_of_ble_eq_true rfl, Nat.le_of_ble_eq_true rfl, Nat.le_of_ble_eq_true rfl⟩ (Nat.le_of_ble_eq_true rfl) ?_
  intro r w hq
  obtain ⟨rfl, rfl⟩ := hq
  refine z_putI d_Mo_reach_11 f_Mo_73 (by first | assumption | exact zS0_at (by assumption) (by omega) | exact zS0_at rfl (by omega)) ?_
  refine z_aload_0 d_Mo_reach_14 ?_
  refine z_getIv d_Mo_reach_15 f_Mo_73 (by first | assumption | exact zS0_at (by assumption) (by omega) | exact zS0_at rfl (by omega)) (by first | assumption | ((try simp (disch := omega) only [zu_same, zu_ne, zcp_ne, zfl_ne]); first | assumption | rfl)) ?_
  refine z_if_le (tgt := 23) d_Mo_reach_18 (by decide) (fun h18 => ?_) (fun h18 => ?_)
  · first
    | (simp (disch := omega) only [← nI_0, nI_leI, nI_ltI, nI_eq, not_true_eq_false, not_false_eq_true] at h18; done)
    | (simp (disch := omega) only [← nI_0, nI_leI, nI_ltI, nI_eq, not_true_eq_false, not_false_eq_true] at h18; omega)
    | contradiction
    | exact absurd h18 (Int32.not_lt.mpr (by assumption))
    | exact absurd h18 (Int32.not_le.mpr (by assumption))
    | exact absurd h18 (by decide)
    | exact absurd (by decide) h18
    | ( try simp (disch := omega) only [← nI_0, nI_leI, nI_ltI, nI_eq, not_true_eq_false, not_false_eq_true] at h18
        (try have h18b := zbit_n0.mp h18); (try have h18b := zbit_p0.mp h18)
        fail)
  · first
    | (simp (disch := omega) only [← nI_0, nI_leI, nI_ltI, nI_eq, not_true_eq_false, not_false_eq_true] at h18; done)
    | (simp (disch := omega) only [← nI_0, nI_leI, nI_ltI, nI_eq, not_true_eq_false, not_false_eq_true] at h18; omega)
    | contradiction
    | exact absurd h18 (Int32.not_lt.mpr (by assumption))
    | exact absurd h18 (Int32.not_le.mpr (by assumption))
    | exact absurd h18 (by decide)
    | exact absurd (by decide) h18
    | ( try simp (disch := omega) only [← nI_0, nI_leI, nI_ltI, nI_eq, not_true_eq_false, not_false_eq_true] at h18
        (try have h18b := zbit_n0.mp h18); (try have h18b := zbit_p0.mp h18)
        refine z_iconst (a := -1) d_Mo_reach_21 (by decide) ?_
        refine z_reti d_Mo_reach_22 ?_
        exact ⟨rfl, _, _, rfl, mqF_z (mqF_z mqF_r (by decide)) (by decide), mqJ_r, zu_same _ _ _ _⟩)
theorem t_Mo_reach_g (M : modOk P S) (N : modIn I nt np nl nn) (ht : t < nn) (hg : I 150 (42 + t) = -1) : zEi G y_Mo_reach prog_14_method_107_code 5 (some .int) 4 [.ref 145, .int (nI t)] (I, J, P, S) (fun r w => r = -1 ∧ mW I J P S 9 w) := by
  obtain ⟨M0, ⟨M4, M4s⟩, ⟨M5, M5s⟩, ⟨M6, M6s⟩, ⟨M7, M7s⟩, ⟨M20, M20s⟩, ⟨M21, M21s⟩, ⟨M22, M22s⟩, ⟨M26, M26s⟩, ⟨M27, M27s⟩, ⟨M28, M28s⟩, ⟨M30, M30s⟩, ⟨M34, M34s⟩, ⟨M36, M36s⟩, ⟨M37, M37s⟩⟩ := id M
  have hg' : zu I 145 1 (nI 0) 150 (42 + t) = -1 := by rw [zu_row _ _ _ _ (by decide)]; exact hg
  refine zEi_of (lv := [some (.ref 145), some (.int (nI t)), none, none, none]) (by decide) rfl (Nat.le_of_ble_eq_true rfl) ?_
  refine z_aload_0 d_Mo_reach_0 ?_
  refine z_iconst (a := nI 0) d_Mo_reach_1 (by decide) ?_
  refine z_putI d_Mo_reach_2 f_Mo_70 (by first | assumption | exact zS0_at (by assumption) (by omega) | exact zS0_at rfl (by omega)) ?_
  refine z_aload_0 d_Mo_reach_5 ?_
  refine z_aload_0 d_Mo_reach_6 ?_
  refine z_iload_1 d_Mo_reach_7 ?_
  refine z_Vi1 d_Mo_reach_8 k_Mo_380 (by first | assumption | exact zS0_at (by assumption) (by omega) | exact zS0_at rfl (by omega)) (t_Mo_whyNoTin_g M (modIn_z N) ht hg') ⟨Nat.le_of_ble_eq_true rfl, Nat.le_of_ble_eq_true rfl, Nat.le_of_ble_eq_true rfl, Nat.le_of_ble_eq_true rfl⟩ (Nat.le_of_ble_eq_true rfl) ?_
  intro r w hq
  obtain ⟨rfl, rfl⟩ := hq
  refine z_putI d_Mo_reach_11 f_Mo_73 (by first | assumption | exact zS0_at (by assumption) (by omega) | exact zS0_at rfl (by omega)) ?_
  refine z_aload_0 d_Mo_reach_14 ?_
  refine z_getIv d_Mo_reach_15 f_Mo_73 (by first | assumption | exact zS0_at (by assumption) (by omega) | exact zS0_at rfl (by omega)) (by first | assumption | ((try simp (disch := omega) only [zu_same, zu_ne, zcp_ne, zfl_ne]); first | assumption | rfl)) ?_
  refine z_if_le (tgt := 23) d_Mo_reach_18 (by decide) (fun h18 => ?_) (fun h18 => ?_)
  · first
    | (simp (disch := omega) only [← nI_0, nI_leI, nI_ltI, nI_eq, not_true_eq_false, not_false_eq_true] at h18; done)
    | (simp (disch := omega) only [← nI_0, nI_leI, nI_ltI, nI_eq, not_true_eq_false, not_false_eq_true] at h18; omega)
    | contradiction
    | exact absurd h18 (Int32.not_lt.mpr (by assumption))
    | exact absurd h18 (Int32.not_le.mpr (by assumption))
    | exact absurd h18 (by decide)
    | exact absurd (by decide) h18
    | ( try simp (disch := omega) only [← nI_0, nI_leI, nI_ltI, nI_eq, not_true_eq_false, not_false_eq_true] at h18
        (try have h18b := zbit_n0.mp h18); (try have h18b := zbit_p0.mp h18)
        fail)
  · first
    | (simp (disch := omega) only [← nI_0, nI_leI, nI_ltI, nI_eq, not_true_eq_false, not_false_eq_true] at h18; done)
    | (simp (disch := omega) only [← nI_0, nI_leI, nI_ltI, nI_eq, not_true_eq_false, not_false_eq_true] at h18; omega)
    | contradiction
    | exact absurd h18 (Int32.not_lt.mpr (by assumption))
    | exact absurd h18 (Int32.not_le.mpr (by assumption))
    | exact absurd h18 (by decide)
    | exact absurd (by decide) h18
    | ( try simp (disch := omega) only [← nI_0, nI_leI, nI_ltI, nI_eq, not_true_eq_false, not_false_eq_true] at h18
        (try have h18b := zbit_n0.mp h18); (try have h18b := zbit_p0.mp h18)
        refine z_iconst (a := -1) d_Mo_reach_21 (by decide) ?_
        refine z_reti d_Mo_reach_22 ?_
        exact ⟨rfl, _, _, rfl, mqF_z (mqF_z mqF_r (by decide)) (by decide), mqJ_r, zu_same _ _ _ _⟩)
theorem t_Mo_reach (M : modOk P S) (N : modIn I nt np nl nn) (ht : t < nn) (hk : I 150 (33 + t) = nI k) (hp : I 150 (42 + t) = nI p) (hp2 : p < np) : zEi G y_Mo_reach prog_14_method_107_code 5 (some .int) 4 [.ref 145, .int (nI t)] (I, J, P, S) (fun r w => r = g_rd (mMt I) (mTk I np k) np 7 (nI 1 <<< (nI p &&& 31)) ∧ mW I J P S 0 w) := by
  obtain ⟨M0, ⟨M4, M4s⟩, ⟨M5, M5s⟩, ⟨M6, M6s⟩, ⟨M7, M7s⟩, ⟨M20, M20s⟩, ⟨M21, M21s⟩, ⟨M22, M22s⟩, ⟨M26, M26s⟩, ⟨M27, M27s⟩, ⟨M28, M28s⟩, ⟨M30, M30s⟩, ⟨M34, M34s⟩, ⟨M36, M36s⟩, ⟨M37, M37s⟩⟩ := id M
  obtain ⟨I1, hI1, N1, h1, h0, e150, er, ek⟩ := mo_beg N
  obtain ⟨⟨m0, m0b⟩, ⟨m1, m1b⟩, ⟨m2, m2b⟩, ⟨m3, m3b⟩, mof, mon⟩ := id N
  have m1' : I1 150 1 = nI np := by rw [e150]; exact m1
  have hp' : zu I 145 1 (nI 0) 150 (42 + t) = nI p := by rw [zu_row _ _ _ _ (by decide)]; exact hp
  have hp1 : I1 150 (42 + t) = nI p := by rw [e150]; exact hp
  have hk1 : I1 150 (33 + t) = nI k := by rw [e150]; exact hk
  refine zEi_of (lv := [some (.ref 145), some (.int (nI t)), none, none, none]) (by decide) rfl (Nat.le_of_ble_eq_true rfl) ?_
  have loop : ∀ m j, 7 - j < m → j ≤ 7 → zA G y_Mo_reach prog_14_method_107_code 5 (some .int) (zRm 4 0 0) (zM G 0 0 (fun r w' => ∃ x, r = some (.int x) ∧ (fun r w => r = g_rd (mMt I) (mTk I np k) np 7 (nI 1 <<< (nI p &&& 31)) ∧ mW I J P S 0 w) x w')) 37 [some (.ref 145), some (.int (nI t)), some (.int (g_rd (mMt I) (mTk I np k) np j (nI 1 <<< (nI p &&& 31)))), some (.int (nI j)), none] [] (I1, J, P, S) 0 0 := by
    intro m
    induction m with
    | zero => intro j h; omega
    | succ m ih =>
      intro j hm hj
      refine z_iload_3 d_Mo_reach_37 ?_
      refine z_bipush (a := nI 7) d_Mo_reach_38 (by decide) ?_
      refine z_icmp_ge (tgt := 92) d_Mo_reach_40 (by decide) (fun hb => ?_) (fun hb => ?_)
      · have hb := (nI_leI (by omega) (by omega)).mp hb
        obtain rfl : j = 7 := by omega
        refine z_iload_2 d_Mo_reach_92 ?_
        refine z_reti d_Mo_reach_93 ?_
        exact ⟨rfl, _, _, rfl, h1, mqJ_r, h0⟩
      · have hb : j < 7 := Nat.lt_of_not_le (fun q => hb (nI_le q (by omega)))
        have q0 := ih (j + 1) (by omega) (by omega)
        rw [show g_rd (mMt I) (mTk I np k) np (j + 1) (nI 1 <<< (nI p &&& 31)) = g_in (mMt I) (mTk I np k) np (g_rd (mMt I) (mTk I np k) np j (nI 1 <<< (nI p &&& 31))) from rfl] at q0
        generalize g_rd (mMt I) (mTk I np k) np j (nI 1 <<< (nI p &&& 31)) = s at q0 ⊢
        have inn : ∀ z i, np - i < z → i ≤ np → zA G y_Mo_reach prog_14_method_107_code 5 (some .int) (zRm 4 0 0) (zM G 0 0 (fun r w' => ∃ x, r = some (.int x) ∧ (fun r w => r = g_rd (mMt I) (mTk I np k) np 7 (nI 1 <<< (nI p &&& 31)) ∧ mW I J P S 0 w) x w')) 46 [some (.ref 145), some (.int (nI t)), some (.int (g_in (mMt I) (mTk I np k) i s)), some (.int (nI j)), some (.int (nI i))] [] (I1, J, P, S) 0 0 := by
          intro z
          induction z with
          | zero => intro i h; exact absurd h (Nat.not_lt_zero _)
          | succ z ihz =>
            intro i hz hi
            refine z_iload_4 d_Mo_reach_46 ?_
            refine z_aload_0 d_Mo_reach_48 ?_
            refine z_getR d_Mo_reach_49 f_Mo_35 (by first | assumption | exact zS0_at (by assumption) (by omega) | exact zS0_at rfl (by omega)) (by first | assumption | exact zS0_at (by assumption) (by omega) | exact zS0_at rfl (by omega)) ?_
            refine z_iconst (a := nI 1) d_Mo_reach_52 (by decide) ?_
            first | refine z_ialdNv d_Mo_reach_53 (by first | assumption | exact zS0_at (by assumption) (by omega) | exact zS0_at rfl (by omega)) (by omega) (by first | decide | omega) (by first | assumption | ((try simp (disch := omega) only [zu_same, zu_ne, zcp_ne, zfl_ne]); first | assumption | rfl)) ?_ | refine z_iald d_Mo_reach_53 (by first | assumption | exact zS0_at (by assumption) (by omega) | exact zS0_at rfl (by omega)) (by first | assumption | exact zS0_at (by assumption) (by omega) | exact zS0_at rfl (by omega)) ?_
            refine z_icmp_ge (tgt := 86) d_Mo_reach_54 (by decide) (fun hb2 => ?_) (fun hb2 => ?_)
            · have hb2 := (nI_leI (by omega) (by omega)).mp hb2
              obtain rfl : i = np := by omega
              first | refine z_iinc_3 d_Mo_reach_86 rfl (zi_inc _) ?_ | refine z_iinc_3 d_Mo_reach_86 rfl rfl ?_
              refine z_goto (tgt := 37) d_Mo_reach_89 (by decide) ?_
              refine z_forget_4 ?_
              exact q0
            · have hb2 : i < np := Nat.lt_of_not_le (fun q => hb2 (nI_le q (by omega)))
              have q1 := ihz (i + 1) (by omega) (by omega)
              rw [g_in] at q1
              refine z_iload_2 d_Mo_reach_57 ?_
              refine z_iload_2 d_Mo_reach_58 ?_
              refine z_iload_4 d_Mo_reach_59 ?_
              refine z_Si2 d_Mo_reach_61 k_Mo_109 (t_Mo_has) ⟨Nat.le_of_ble_eq_true rfl, Nat.le_of_ble_eq_true rfl, Nat.le_of_ble_eq_true rfl, Nat.le_of_ble_eq_true rfl⟩ (Nat.le_of_ble_eq_true rfl) ?_
              intro r w hq
              rcases hq with ⟨⟨hz1, rfl⟩ | ⟨hz1, rfl⟩, rfl⟩
              · rw [if_pos hz1] at q1
                refine z_if_eq (tgt := 77) d_Mo_reach_64 (by decide) (fun h => absurd h (by decide)) (fun _ => ?_)
                refine z_aload_0 d_Mo_reach_67 ?_
                refine z_iload_1 d_Mo_reach_68 ?_
                refine z_iload_4 d_Mo_reach_69 ?_
                refine z_Vi2 d_Mo_reach_71 k_Mo_357 (by first | assumption | exact zS0_at (by assumption) (by omega) | exact zS0_at rfl (by omega)) (t_Mo_nextOf' M N1 (by omega) hk1 (by omega)) ⟨Nat.le_of_ble_eq_true rfl, Nat.le_of_ble_eq_true rfl, Nat.le_of_ble_eq_true rfl, Nat.le_of_ble_eq_true rfl⟩ (Nat.le_of_ble_eq_true rfl) ?_
                intro r w hq
                obtain ⟨rfl, rfl⟩ := hq
                rw [mMt_c e150, mTk_c e150]
                refine z_goto (tgt := 78) d_Mo_reach_74 (by decide) ?_
                refine z_ior d_Mo_reach_78 ?_
                first | refine z_istore_2 d_Mo_reach_79 rfl ?_ | (refine z_forget_1 ?_; refine z_istore_2 d_Mo_reach_79 rfl ?_)
                first | refine z_iinc_4 d_Mo_reach_80 rfl (zi_inc _) ?_ | refine z_iinc_4 d_Mo_reach_80 rfl rfl ?_
                refine z_goto (tgt := 46) d_Mo_reach_83 (by decide) ?_
                exact q1
              · rw [if_neg hz1] at q1
                refine z_if_eq (tgt := 77) d_Mo_reach_64 (by decide) (fun _ => ?_) (fun h => absurd (by decide) h)
                refine z_iconst (a := nI 0) d_Mo_reach_77 (by decide) ?_
                refine z_ior d_Mo_reach_78 ?_
                rw [zor0]
                first | refine z_istore_2 d_Mo_reach_79 rfl ?_ | (refine z_forget_1 ?_; refine z_istore_2 d_Mo_reach_79 rfl ?_)
                first | refine z_iinc_4 d_Mo_reach_80 rfl (zi_inc _) ?_ | refine z_iinc_4 d_Mo_reach_80 rfl rfl ?_
                refine z_goto (tgt := 46) d_Mo_reach_83 (by decide) ?_
                exact q1
        refine z_iconst (a := nI 0) d_Mo_reach_43 (by decide) ?_
        first | refine z_istore_4 d_Mo_reach_44 rfl ?_ | (refine z_forget_3 ?_; refine z_istore_4 d_Mo_reach_44 rfl ?_)
        exact inn (np + 1) 0 (by omega) (by omega)
  refine z_aload_0 d_Mo_reach_0 ?_
  refine z_iconst (a := nI 0) d_Mo_reach_1 (by decide) ?_
  refine z_putI d_Mo_reach_2 f_Mo_70 (by first | assumption | exact zS0_at (by assumption) (by omega) | exact zS0_at rfl (by omega)) ?_
  refine z_aload_0 d_Mo_reach_5 ?_
  refine z_aload_0 d_Mo_reach_6 ?_
  refine z_iload_1 d_Mo_reach_7 ?_
  refine z_Vi1 d_Mo_reach_8 k_Mo_380 (by first | assumption | exact zS0_at (by assumption) (by omega) | exact zS0_at rfl (by omega)) (t_Mo_whyNoTin_p M (modIn_z N) ht hp' hp2) ⟨Nat.le_of_ble_eq_true rfl, Nat.le_of_ble_eq_true rfl, Nat.le_of_ble_eq_true rfl, Nat.le_of_ble_eq_true rfl⟩ (Nat.le_of_ble_eq_true rfl) ?_
  intro r w hq
  obtain ⟨rfl, rfl⟩ := hq
  refine z_putI d_Mo_reach_11 f_Mo_73 (by first | assumption | exact zS0_at (by assumption) (by omega) | exact zS0_at rfl (by omega)) ?_
  rw [← hI1]
  refine z_aload_0 d_Mo_reach_14 ?_
  refine z_getIv d_Mo_reach_15 f_Mo_73 (by first | assumption | exact zS0_at (by assumption) (by omega) | exact zS0_at rfl (by omega)) (by first | assumption | ((try simp (disch := omega) only [zu_same, zu_ne, zcp_ne, zfl_ne]); first | assumption | rfl)) ?_
  refine z_if_le (tgt := 23) d_Mo_reach_18 (by decide) (fun _ => ?_) (fun h => absurd (by decide) h)
  refine z_iconst (a := nI 1) d_Mo_reach_23 (by decide) ?_
  refine z_aload_0 d_Mo_reach_24 ?_
  refine z_getR d_Mo_reach_25 f_Mo_35 (by first | assumption | exact zS0_at (by assumption) (by omega) | exact zS0_at rfl (by omega)) (by first | assumption | exact zS0_at (by assumption) (by omega) | exact zS0_at rfl (by omega)) ?_
  refine z_bipush (a := nI 42) d_Mo_reach_28 (by decide) ?_
  refine z_iload_1 d_Mo_reach_30 ?_
  first | refine z_iaddN d_Mo_reach_31 ?_ | refine z_iadd d_Mo_reach_31 ?_
  first | refine z_ialdNv d_Mo_reach_32 (by first | assumption | exact zS0_at (by assumption) (by omega) | exact zS0_at rfl (by omega)) (by omega) (by first | decide | omega) (by first | assumption | ((try simp (disch := omega) only [zu_same, zu_ne, zcp_ne, zfl_ne]); first | assumption | rfl)) ?_ | refine z_iald d_Mo_reach_32 (by first | assumption | exact zS0_at (by assumption) (by omega) | exact zS0_at rfl (by omega)) (by first | assumption | exact zS0_at (by assumption) (by omega) | exact zS0_at rfl (by omega)) ?_
  refine z_ishl d_Mo_reach_33 ?_
  first | refine z_istore_2 d_Mo_reach_34 rfl ?_ | (refine z_forget_1 ?_; refine z_istore_2 d_Mo_reach_34 rfl ?_)
  refine z_iconst (a := nI 0) d_Mo_reach_35 (by decide) ?_
  first | refine z_istore_3 d_Mo_reach_36 rfl ?_ | (refine z_forget_2 ?_; refine z_istore_3 d_Mo_reach_36 rfl ?_)
  exact loop 8 0 (by omega) (by omega)
theorem grd_c {mt mt' : Nat → Int32} {tk s : Int32} (h : ∀ i, i < np → mt' i = mt i) : ∀ n, g_rd mt' tk np n s = g_rd mt tk np n s := by
  have e : ∀ m s, m ≤ np → g_in mt' tk m s = g_in mt tk m s := by
    intro m
    induction m with
    | zero => intro s _; rfl
    | succ m ih => intro s hm; rw [g_in, g_in, ih s (by omega), h m (by omega)]
  intro n
  induction n with
  | zero => rfl
  | succ n ih => rw [g_rd, g_rd, ih, e np _ (Nat.le_refl _)]
theorem L_reach (h : zInv n w) : zEi G y_Tf_reach prog_1_method_29_code 3 (some .int) 4 [.ref 0, .int a] w (fun r w1 => w1.2.2.2 = w.2.2.2 ∧ zEi G y_Mo_reach prog_14_method_107_code 5 (some .int) 4 [.ref 145, .int a] w1 (fun r' w2 => r' = r ∧ zInv (n + 1) w2)) := by
  obtain ⟨f, d, nt, np, nl, nn, fed, mk, I, J, P, S, rfl, Z, X⟩ := h
  have M := clOk_M Z
  have hf := clOk_f Z
  have N := stR_fen X
  have N0 := stR_mod X
  have fm := stR_fm X
  obtain ⟨⟨⟨a1, r1, b1⟩, ⟨a2, r2, b2⟩, ⟨a3, r3, b3⟩, ⟨a4, r4, b4⟩⟩, ⟨⟨o, ob, ao, ro⟩, r5⟩, fw, fp, ft, fz⟩ := id fm
  rcases zin_or a nn (by omega) with ⟨-, h⟩ | ⟨t, ht, rfl⟩
  · exact L_q Z X (t_Tf_reach_o Z N h) (fun I' J' e _ => ⟨_, rfl, t_Mo_reach_o M (modIn_c N0 (e 150 (by decide))) h⟩)
  obtain ⟨⟨k, hk, k1, k2⟩, ⟨g1, g2⟩, -⟩ := ft t ht
  rcases g1 with g1 | ⟨p, hp, g1⟩
  · exact L_q Z X (t_Tf_reach_g Z N ht g1) (fun I' J' e _ => ⟨_, rfl, t_Mo_reach_g M (modIn_c N0 (e 150 (by decide))) ht (by rw [e 150 (by decide)]; exact g2.trans g1)⟩)
  · have etk : mTk I np k = s_set (fun p => zB (I (f + 2) p) k) np := s_set_congr np (fun q hq => by rw [(fp q hq).1]; rfl)
    exact L_q Z X (t_Tf_reach Z N ht k1 g1 hp) (fun I' J' e _ => ⟨_, by
      rw [mMt_c (e 150 (by decide)), mTk_c (k := k) (e 150 (by decide)), etk, grd_c (mt := I (f + 3)) (fun i hi => (fp i hi).2.1)]
      exact reach_eq hp b2 (in7_set b2), t_Mo_reach (k := k) M (modIn_c N0 (e 150 (by decide))) ht (by rw [e 150 (by decide)]; exact k2) (by rw [e 150 (by decide)]; exact g2.trans g1) hp⟩)
end WY0
