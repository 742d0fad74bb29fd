/-! mean: both sides -/
section ME0
variable {G : zG} {I I' I1 I2 : Nat → Nat → Int32} {J J' J2 : Nat → Nat → Int64} {P : Nat → Nat → Option Nat} {S : List (Nat × Nat)} {f d nt np nl nn n fed mk g sz s m ns mm : Nat} {a b : Int32} {w : zW}
theorem zcp_s2 {α : Type} {f : Nat → Nat → α} {q0 q1 s d n : Nat} : zu (zcp f q0 q1 s d n) q1 (d + n) (f q0 (s + n)) = zcp f q0 q1 s d (n + 1) := by
  funext x y
  by_cases h : x = q1
  · subst h
    by_cases h1 : y = d + n
    · subst h1
      rw [zu_same, zcp_in (by omega) (by omega), show s + (d + n - d) = s + n by omega]
    · rw [zu_ne _ _ _ _ (by omega)]
      by_cases h2 : d ≤ y ∧ y < d + n
      · rw [zcp_in h2.1 h2.2, zcp_in h2.1 (by omega)]
      · rw [zcp_out h2, zcp_out (by omega)]
  · rw [zu_row _ _ _ _ h, zcp_ne h, zcp_ne h]
def vsum (vs : Nat → Nat) : Nat → Nat
  | 0 => 0
  | j + 1 => vsum vs j + vs j
theorem vsum_c {vs vs' : Nat → Nat} : ∀ j, (∀ i, i < j → vs' i = vs i) → vsum vs' j = vsum vs j := by
  intro j
  induction j with
  | zero => intro _; rfl
  | succ j ih => intro h; rw [vsum, vsum, ih (fun i hi => h i (by omega)), h j (by omega)]
theorem vsum_le {vs : Nat → Nat} {B : Nat} : ∀ j, (∀ i, i < j → vs i ≤ B) → vsum vs j ≤ j * B := by
  intro j
  induction j with
  | zero => intro _; exact Nat.zero_le _
  | succ j ih =>
    intro h
    have h1 := ih (fun i hi => h i (by omega))
    have h2 := h j (by omega)
    rw [vsum, Nat.succ_mul]
    omega
/-- a run's beginning, and what all have got at its end -/
def mG (nt np nl nn g sz m ns : Nat) (I : Nat → Nat → Int32) (sd V : Nat) (T : Nat → Nat → Int32) : Prop := fmR g (sf 52 T) (I 150) nt np nl nn ∧ yb (n3 nt np nn) (sf (52 + 12) T) (fun c k => I 150 (89 + 9 * c + k)) m 0 ns 0 sz ∧ T (52 + 12) 2 = nI sz ∧ V ≤ 7 * (g + 29700) ∧ s_sum (fun _ => true) (c_its 52 123 1000000 (c_start T 123 (nI sd)) (52 + 4)) np = nI V
theorem mean_bad (h : ¬ ∃ m s, 1 ≤ m ∧ m ≤ 20 ∧ s + m ≤ 10000 ∧ a = nI s ∧ b = nI m) : b < nI 1 ∨ nI 20 < b ∨ (∃ m, 1 ≤ m ∧ m ≤ 20 ∧ b = nI m ∧ (a < 0 ∨ nI 9999 < a ∨ ∃ s, s < 10000 ∧ a = nI s ∧ 10000 < s + m)) := by
  by_cases hb : zin b 21
  · obtain ⟨m, hm, rfl⟩ := hb
    by_cases h0 : m = 0
    · subst h0; exact Or.inl (by decide)
    · refine Or.inr (Or.inr ⟨m, by omega, by omega, rfl, ?_⟩)
      by_cases ha : zin a 10000
      · obtain ⟨s, hs, rfl⟩ := ha
        refine Or.inr (Or.inr ⟨s, hs, rfl, ?_⟩)
        rcases Nat.lt_or_ge 10000 (s + m) with q | q
        · exact q
        · exact absurd ⟨m, s, by omega, by omega, q, rfl, rfl⟩ h
      · rcases zin_not (m := 9999) (by decide) ha with q | q
        · exact Or.inl q
        · exact Or.inr (Or.inl q)
  · rcases zin_not (m := 20) (by decide) hb with q | q
    · exact Or.inl (Int32.lt_trans q (by decide))
    · exact Or.inr (Or.inl q)
theorem t_Tf_mean_b (Z : clOk f d P S) (h : ¬ ∃ m s, 1 ≤ m ∧ m ≤ 20 ∧ s + m ≤ 10000 ∧ a = nI s ∧ b = nI m) : zEi G y_Tf_mean prog_1_method_50_code 7 (some .boolean) 8 [.ref 0, .int a, .int b] (I, J, P, S) (fun r w => r = nI 0 ∧ cW I J P S 5 w) := by
  obtain ⟨⟨c0, c3, c1s⟩, ⟨c5, c2s, ctr⟩, ⟨c6, c11s, c11, c13s⟩, ⟨c7, c15s, c15⟩, ⟨c8, c16s, c16a, c16b, c17s⟩, ⟨c9, c10, cfd, F, Fd⟩, ⟨c11b, Ft⟩, ⟨c12, c69s, cmk⟩, ⟨c14, c121s, c121, c122s⟩, ⟨c15b, c123s, c123, c124s⟩, ⟨c16, c125s, c125, c126s⟩, ⟨c17, c127s, c127, c128s, ctb⟩, ⟨c18, c139s, c139, c140s⟩, ⟨c19, c141s, ⟨c141a, c142s⟩, ⟨c141b, c143s⟩, ⟨c141c, c144s⟩⟩, M⟩ := id Z
  have h := mean_bad h
  refine zEi_of (lv := [some (.ref 0), some (.int a), some (.int b), none, none, none, none]) (by decide) rfl (Nat.le_of_ble_eq_true rfl) ?_
  rcases h with h | h | ⟨m, h1, h2, rfl, h | h | ⟨s, h3, rfl, h4⟩⟩
  · refine z_iload_2 d_Tf_mean_0 ?_
    refine z_iconst (a := nI 1) d_Tf_mean_1 (by decide) ?_
    refine z_icmp_lt (tgt := 11) d_Tf_mean_2 (by decide) (fun h2 => ?_) (fun h2 => ?_)
    · first
      | (simp (disch := omega) only [← nI_0, nI_leI, nI_ltI, nI_eq, not_true_eq_false, not_false_eq_true] at h2; done)
      | (simp (disch := omega) only [← nI_0, nI_leI, nI_ltI, nI_eq, not_true_eq_false, not_false_eq_true] at h2; omega)
      | contradiction
      | exact absurd h2 (Int32.not_lt.mpr (by assumption))
      | exact absurd h2 (Int32.not_le.mpr (by assumption))
      | exact absurd h2 (by decide)
      | exact absurd (by decide) h2
      | ( try simp (disch := omega) only [← nI_0, nI_leI, nI_ltI, nI_eq, not_true_eq_false, not_false_eq_true] at h2
          (try have h2b := zbit_n0.mp h2); (try have h2b := zbit_p0.mp h2)
          refine z_iconst (a := nI 1) d_Tf_mean_11 (by decide) ?_
          refine z_goto (tgt := 16) d_Tf_mean_12 (by decide) ?_
          first | refine z_istore_3 d_Tf_mean_16 rfl ?_ | (refine z_forget_2 ?_; refine z_istore_3 d_Tf_mean_16 rfl ?_)
          refine z_iload_3 d_Tf_mean_17 ?_
          refine z_if_ne (tgt := 43) d_Tf_mean_18 (by decide) (fun h18 => ?_) (fun h18 => ?_)
          · first
            | (simp (disch := omega) only [← nI_0, nI_leI, nI_ltI, nI_eq, not_true_eq_false, not_false_eq_true] at h18; done)
            | (simp (disch := omega) only [← nI_0, nI_leI, nI_ltI, nI_eq, not_true_eq_false, not_false_eq_true] at h18; omega)
            | contradiction
            | exact absurd h18 (Int32.not_lt.mpr (by assumption))
            | exact absurd h18 (Int32.not_le.mpr (by assumption))
            | exact absurd h18 (by decide)
            | exact absurd (by decide) h18
            | ( try simp (disch := omega) only [← nI_0, nI_leI, nI_ltI, nI_eq, not_true_eq_false, not_false_eq_true] at h18
                (try have h18b := zbit_n0.mp h18); (try have h18b := zbit_p0.mp h18)
                refine z_aload_0 d_Tf_mean_43 ?_
                refine z_iconst (a := nI 5) d_Tf_mean_44 (by decide) ?_
                refine z_Vi1 d_Tf_mean_45 k_Tf_119 (by first | assumption | exact zS0_at (by assumption) (by omega) | exact zS0_at rfl (by omega)) (t_Tf_refuse (by assumption)) ⟨Nat.le_of_ble_eq_true rfl, Nat.le_of_ble_eq_true rfl, Nat.le_of_ble_eq_true rfl, Nat.le_of_ble_eq_true rfl⟩ (Nat.le_of_ble_eq_true rfl) ?_
                intro r w hq
                obtain ⟨rfl, rfl⟩ := hq
                refine z_retz d_Tf_mean_48 (by first | exact zb0 | exact zb1 | assumption) ?_
                exact ⟨rfl, cW_0⟩)
          · first
            | (simp (disch := omega) only [← nI_0, nI_leI, nI_ltI, nI_eq, not_true_eq_false, not_false_eq_true] at h18; done)
            | (simp (disch := omega) only [← nI_0, nI_leI, nI_ltI, nI_eq, not_true_eq_false, not_false_eq_true] at h18; omega)
            | contradiction
            | exact absurd h18 (Int32.not_lt.mpr (by assumption))
            | exact absurd h18 (Int32.not_le.mpr (by assumption))
            | exact absurd h18 (by decide)
            | exact absurd (by decide) h18
            | ( try simp (disch := omega) only [← nI_0, nI_leI, nI_ltI, nI_eq, not_true_eq_false, not_false_eq_true] at h18
                (try have h18b := zbit_n0.mp h18); (try have h18b := zbit_p0.mp h18)
                refine z_iload_1 d_Tf_mean_21 ?_
                refine z_if_lt (tgt := 43) d_Tf_mean_22 (by decide) (fun h22 => ?_) (fun h22 => ?_)
                · first
                  | (simp (disch := omega) only [← nI_0, nI_leI, nI_ltI, nI_eq, not_true_eq_false, not_false_eq_true] at h22; done)
                  | (simp (disch := omega) only [← nI_0, nI_leI, nI_ltI, nI_eq, not_true_eq_false, not_false_eq_true] at h22; omega)
                  | contradiction
                  | exact absurd h22 (Int32.not_lt.mpr (by assumption))
                  | exact absurd h22 (Int32.not_le.mpr (by assumption))
                  | exact absurd h22 (by decide)
                  | exact absurd (by decide) h22
                  | ( try simp (disch := omega) only [← nI_0, nI_leI, nI_ltI, nI_eq, not_true_eq_false, not_false_eq_true] at h22
                      (try have h22b := zbit_n0.mp h22); (try have h22b := zbit_p0.mp h22)
                      refine z_aload_0 d_Tf_mean_43 ?_
                      refine z_iconst (a := nI 5) d_Tf_mean_44 (by decide) ?_
                      refine z_Vi1 d_Tf_mean_45 k_Tf_119 (by first | assumption | exact zS0_at (by assumption) (by omega) | exact zS0_at rfl (by omega)) (t_Tf_refuse (by assumption)) ⟨Nat.le_of_ble_eq_true rfl, Nat.le_of_ble_eq_true rfl, Nat.le_of_ble_eq_true rfl, Nat.le_of_ble_eq_true rfl⟩ (Nat.le_of_ble_eq_true rfl) ?_
                      intro r w hq
                      obtain ⟨rfl, rfl⟩ := hq
                      refine z_retz d_Tf_mean_48 (by first | exact zb0 | exact zb1 | assumption) ?_
                      exact ⟨rfl, cW_0⟩)
                · first
                  | (simp (disch := omega) only [← nI_0, nI_leI, nI_ltI, nI_eq, not_true_eq_false, not_false_eq_true] at h22; done)
                  | (simp (disch := omega) only [← nI_0, nI_leI, nI_ltI, nI_eq, not_true_eq_false, not_false_eq_true] at h22; omega)
                  | contradiction
                  | exact absurd h22 (Int32.not_lt.mpr (by assumption))
                  | exact absurd h22 (Int32.not_le.mpr (by assumption))
                  | exact absurd h22 (by decide)
                  | exact absurd (by decide) h22
                  | ( try simp (disch := omega) only [← nI_0, nI_leI, nI_ltI, nI_eq, not_true_eq_false, not_false_eq_true] at h22
                      (try have h22b := zbit_n0.mp h22); (try have h22b := zbit_p0.mp h22)
                      refine z_iload_1 d_Tf_mean_25 ?_
                      refine z_sipush (a := nI 9999) d_Tf_mean_26 (by decide) ?_
                      refine z_icmp_gt (tgt := 43) d_Tf_mean_29 (by decide) (fun h29 => ?_) (fun h29 => ?_)
                      · first
                        | (simp (disch := omega) only [← nI_0, nI_leI, nI_ltI, nI_eq, not_true_eq_false, not_false_eq_true] at h29; done)
                        | (simp (disch := omega) only [← nI_0, nI_leI, nI_ltI, nI_eq, not_true_eq_false, not_false_eq_true] at h29; omega)
                        | contradiction
                        | exact absurd h29 (Int32.not_lt.mpr (by assumption))
                        | exact absurd h29 (Int32.not_le.mpr (by assumption))
                        | exact absurd h29 (by decide)
                        | exact absurd (by decide) h29
                        | ( try simp (disch := omega) only [← nI_0, nI_leI, nI_ltI, nI_eq, not_true_eq_false, not_false_eq_true] at h29
                            (try have h29b := zbit_n0.mp h29); (try have h29b := zbit_p0.mp h29)
                            refine z_aload_0 d_Tf_mean_43 ?_
                            refine z_iconst (a := nI 5) d_Tf_mean_44 (by decide) ?_
                            refine z_Vi1 d_Tf_mean_45 k_Tf_119 (by first | assumption | exact zS0_at (by assumption) (by omega) | exact zS0_at rfl (by omega)) (t_Tf_refuse (by assumption)) ⟨Nat.le_of_ble_eq_true rfl, Nat.le_of_ble_eq_true rfl, Nat.le_of_ble_eq_true rfl, Nat.le_of_ble_eq_true rfl⟩ (Nat.le_of_ble_eq_true rfl) ?_
                            intro r w hq
                            obtain ⟨rfl, rfl⟩ := hq
                            refine z_retz d_Tf_mean_48 (by first | exact zb0 | exact zb1 | assumption) ?_
                            exact ⟨rfl, cW_0⟩)
                      · first
                        | (simp (disch := omega) only [← nI_0, nI_leI, nI_ltI, nI_eq, not_true_eq_false, not_false_eq_true] at h29; done)
                        | (simp (disch := omega) only [← nI_0, nI_leI, nI_ltI, nI_eq, not_true_eq_false, not_false_eq_true] at h29; omega)
                        | contradiction
                        | exact absurd h29 (Int32.not_lt.mpr (by assumption))
                        | exact absurd h29 (Int32.not_le.mpr (by assumption))
                        | exact absurd h29 (by decide)
                        | exact absurd (by decide) h29
                        | ( try simp (disch := omega) only [← nI_0, nI_leI, nI_ltI, nI_eq, not_true_eq_false, not_false_eq_true] at h29
                            (try have h29b := zbit_n0.mp h29); (try have h29b := zbit_p0.mp h29)
                            refine z_iload_1 d_Tf_mean_32 ?_
                            refine z_iload_2 d_Tf_mean_33 ?_
                            first | refine z_iaddN d_Tf_mean_34 ?_ | refine z_iadd d_Tf_mean_34 ?_
                            refine z_iconst (a := nI 1) d_Tf_mean_35 (by decide) ?_
                            first | refine z_isubN d_Tf_mean_36 (by omega) ?_ | refine z_isub d_Tf_mean_36 ?_
                            refine z_sipush (a := nI 9999) d_Tf_mean_37 (by decide) ?_
                            refine z_icmp_le (tgt := 49) d_Tf_mean_40 (by decide) (fun h40 => ?_) (fun h40 => ?_)
                            · first
                              | (simp (disch := omega) only [← nI_0, nI_leI, nI_ltI, nI_eq, not_true_eq_false, not_false_eq_true] at h40; done)
                              | (simp (disch := omega) only [← nI_0, nI_leI, nI_ltI, nI_eq, not_true_eq_false, not_false_eq_true] at h40; omega)
                              | contradiction
                              | exact absurd h40 (Int32.not_lt.mpr (by assumption))
                              | exact absurd h40 (Int32.not_le.mpr (by assumption))
                              | exact absurd h40 (by decide)
                              | exact absurd (by decide) h40
                              | ( try simp (disch := omega) only [← nI_0, nI_leI, nI_ltI, nI_eq, not_true_eq_false, not_false_eq_true] at h40
                                  (try have h40b := zbit_n0.mp h40); (try have h40b := zbit_p0.mp h40)
                                  fail)
                            · first
                              | (simp (disch := omega) only [← nI_0, nI_leI, nI_ltI, nI_eq, not_true_eq_false, not_false_eq_true] at h40; done)
                              | (simp (disch := omega) only [← nI_0, nI_leI, nI_ltI, nI_eq, not_true_eq_false, not_false_eq_true] at h40; omega)
                              | contradiction
                              | exact absurd h40 (Int32.not_lt.mpr (by assumption))
                              | exact absurd h40 (Int32.not_le.mpr (by assumption))
                              | exact absurd h40 (by decide)
                              | exact absurd (by decide) h40
                              | ( try simp (disch := omega) only [← nI_0, nI_leI, nI_ltI, nI_eq, not_true_eq_false, not_false_eq_true] at h40
                                  (try have h40b := zbit_n0.mp h40); (try have h40b := zbit_p0.mp h40)
                                  refine z_aload_0 d_Tf_mean_43 ?_
                                  refine z_iconst (a := nI 5) d_Tf_mean_44 (by decide) ?_
                                  refine z_Vi1 d_Tf_mean_45 k_Tf_119 (by first | assumption | exact zS0_at (by assumption) (by omega) | exact zS0_at rfl (by omega)) (t_Tf_refuse (by assumption)) ⟨Nat.le_of_ble_eq_true rfl, Nat.le_of_ble_eq_true rfl, Nat.le_of_ble_eq_true rfl, Nat.le_of_ble_eq_true rfl⟩ (Nat.le_of_ble_eq_true rfl) ?_
                                  intro r w hq
                                  obtain ⟨rfl, rfl⟩ := hq
                                  refine z_retz d_Tf_mean_48 (by first | exact zb0 | exact zb1 | assumption) ?_
                                  exact ⟨rfl, cW_0⟩)))))
    · first
      | (simp (disch := omega) only [← nI_0, nI_leI, nI_ltI, nI_eq, not_true_eq_false, not_false_eq_true] at h2; done)
      | (simp (disch := omega) only [← nI_0, nI_leI, nI_ltI, nI_eq, not_true_eq_false, not_false_eq_true] at h2; omega)
      | contradiction
      | exact absurd h2 (Int32.not_lt.mpr (by assumption))
      | exact absurd h2 (Int32.not_le.mpr (by assumption))
      | exact absurd h2 (by decide)
      | exact absurd (by decide) h2
      | ( try simp (disch := omega) only [← nI_0, nI_leI, nI_ltI, nI_eq, not_true_eq_false, not_false_eq_true] at h2
          (try have h2b := zbit_n0.mp h2); (try have h2b := zbit_p0.mp h2)
          refine z_iload_2 d_Tf_mean_5 ?_
          refine z_bipush (a := nI 20) d_Tf_mean_6 (by decide) ?_
          refine z_icmp_le (tgt := 15) d_Tf_mean_8 (by decide) (fun h8 => ?_) (fun h8 => ?_)
          · first
            | (simp (disch := omega) only [← nI_0, nI_leI, nI_ltI, nI_eq, not_true_eq_false, not_false_eq_true] at h8; done)
            | (simp (disch := omega) only [← nI_0, nI_leI, nI_ltI, nI_eq, not_true_eq_false, not_false_eq_true] at h8; omega)
            | contradiction
            | exact absurd h8 (Int32.not_lt.mpr (by assumption))
            | exact absurd h8 (Int32.not_le.mpr (by assumption))
            | exact absurd h8 (by decide)
            | exact absurd (by decide) h8
            | ( try simp (disch := omega) only [← nI_0, nI_leI, nI_ltI, nI_eq, not_true_eq_false, not_false_eq_true] at h8
                (try have h8b := zbit_n0.mp h8); (try have h8b := zbit_p0.mp h8)
                refine z_iconst (a := nI 0) d_Tf_mean_15 (by decide) ?_
                first | refine z_istore_3 d_Tf_mean_16 rfl ?_ | (refine z_forget_2 ?_; refine z_istore_3 d_Tf_mean_16 rfl ?_)
                refine z_iload_3 d_Tf_mean_17 ?_
                refine z_if_ne (tgt := 43) d_Tf_mean_18 (by decide) (fun h18 => ?_) (fun h18 => ?_)
                · first
                  | (simp (disch := omega) only [← nI_0, nI_leI, nI_ltI, nI_eq, not_true_eq_false, not_false_eq_true] at h18; done)
                  | (simp (disch := omega) only [← nI_0, nI_leI, nI_ltI, nI_eq, not_true_eq_false, not_false_eq_true] at h18; omega)
                  | contradiction
                  | exact absurd h18 (Int32.not_lt.mpr (by assumption))
                  | exact absurd h18 (Int32.not_le.mpr (by assumption))
                  | exact absurd h18 (by decide)
                  | exact absurd (by decide) h18
                  | ( try simp (disch := omega) only [← nI_0, nI_leI, nI_ltI, nI_eq, not_true_eq_false, not_false_eq_true] at h18
                      (try have h18b := zbit_n0.mp h18); (try have h18b := zbit_p0.mp h18)
                      refine z_aload_0 d_Tf_mean_43 ?_
                      refine z_iconst (a := nI 5) d_Tf_mean_44 (by decide) ?_
                      refine z_Vi1 d_Tf_mean_45 k_Tf_119 (by first | assumption | exact zS0_at (by assumption) (by omega) | exact zS0_at rfl (by omega)) (t_Tf_refuse (by assumption)) ⟨Nat.le_of_ble_eq_true rfl, Nat.le_of_ble_eq_true rfl, Nat.le_of_ble_eq_true rfl, Nat.le_of_ble_eq_true rfl⟩ (Nat.le_of_ble_eq_true rfl) ?_
                      intro r w hq
                      obtain ⟨rfl, rfl⟩ := hq
                      refine z_retz d_Tf_mean_48 (by first | exact zb0 | exact zb1 | assumption) ?_
                      exact ⟨rfl, cW_0⟩)
                · first
                  | (simp (disch := omega) only [← nI_0, nI_leI, nI_ltI, nI_eq, not_true_eq_false, not_false_eq_true] at h18; done)
                  | (simp (disch := omega) only [← nI_0, nI_leI, nI_ltI, nI_eq, not_true_eq_false, not_false_eq_true] at h18; omega)
                  | contradiction
                  | exact absurd h18 (Int32.not_lt.mpr (by assumption))
                  | exact absurd h18 (Int32.not_le.mpr (by assumption))
                  | exact absurd h18 (by decide)
                  | exact absurd (by decide) h18
                  | ( try simp (disch := omega) only [← nI_0, nI_leI, nI_ltI, nI_eq, not_true_eq_false, not_false_eq_true] at h18
                      (try have h18b := zbit_n0.mp h18); (try have h18b := zbit_p0.mp h18)
                      refine z_iload_1 d_Tf_mean_21 ?_
                      refine z_if_lt (tgt := 43) d_Tf_mean_22 (by decide) (fun h22 => ?_) (fun h22 => ?_)
                      · first
                        | (simp (disch := omega) only [← nI_0, nI_leI, nI_ltI, nI_eq, not_true_eq_false, not_false_eq_true] at h22; done)
                        | (simp (disch := omega) only [← nI_0, nI_leI, nI_ltI, nI_eq, not_true_eq_false, not_false_eq_true] at h22; omega)
                        | contradiction
                        | exact absurd h22 (Int32.not_lt.mpr (by assumption))
                        | exact absurd h22 (Int32.not_le.mpr (by assumption))
                        | exact absurd h22 (by decide)
                        | exact absurd (by decide) h22
                        | ( try simp (disch := omega) only [← nI_0, nI_leI, nI_ltI, nI_eq, not_true_eq_false, not_false_eq_true] at h22
                            (try have h22b := zbit_n0.mp h22); (try have h22b := zbit_p0.mp h22)
                            refine z_aload_0 d_Tf_mean_43 ?_
                            refine z_iconst (a := nI 5) d_Tf_mean_44 (by decide) ?_
                            refine z_Vi1 d_Tf_mean_45 k_Tf_119 (by first | assumption | exact zS0_at (by assumption) (by omega) | exact zS0_at rfl (by omega)) (t_Tf_refuse (by assumption)) ⟨Nat.le_of_ble_eq_true rfl, Nat.le_of_ble_eq_true rfl, Nat.le_of_ble_eq_true rfl, Nat.le_of_ble_eq_true rfl⟩ (Nat.le_of_ble_eq_true rfl) ?_
                            intro r w hq
                            obtain ⟨rfl, rfl⟩ := hq
                            refine z_retz d_Tf_mean_48 (by first | exact zb0 | exact zb1 | assumption) ?_
                            exact ⟨rfl, cW_0⟩)
                      · first
                        | (simp (disch := omega) only [← nI_0, nI_leI, nI_ltI, nI_eq, not_true_eq_false, not_false_eq_true] at h22; done)
                        | (simp (disch := omega) only [← nI_0, nI_leI, nI_ltI, nI_eq, not_true_eq_false, not_false_eq_true] at h22; omega)
                        | contradiction
                        | exact absurd h22 (Int32.not_lt.mpr (by assumption))
                        | exact absurd h22 (Int32.not_le.mpr (by assumption))
                        | exact absurd h22 (by decide)
                        | exact absurd (by decide) h22
                        | ( try simp (disch := omega) only [← nI_0, nI_leI, nI_ltI, nI_eq, not_true_eq_false, not_false_eq_true] at h22
                            (try have h22b := zbit_n0.mp h22); (try have h22b := zbit_p0.mp h22)
                            refine z_iload_1 d_Tf_mean_25 ?_
                            refine z_sipush (a := nI 9999) d_Tf_mean_26 (by decide) ?_
                            refine z_icmp_gt (tgt := 43) d_Tf_mean_29 (by decide) (fun h29 => ?_) (fun h29 => ?_)
                            · first
                              | (simp (disch := omega) only [← nI_0, nI_leI, nI_ltI, nI_eq, not_true_eq_false, not_false_eq_true] at h29; done)
                              | (simp (disch := omega) only [← nI_0, nI_leI, nI_ltI, nI_eq, not_true_eq_false, not_false_eq_true] at h29; omega)
                              | contradiction
                              | exact absurd h29 (Int32.not_lt.mpr (by assumption))
                              | exact absurd h29 (Int32.not_le.mpr (by assumption))
                              | exact absurd h29 (by decide)
                              | exact absurd (by decide) h29
                              | ( try simp (disch := omega) only [← nI_0, nI_leI, nI_ltI, nI_eq, not_true_eq_false, not_false_eq_true] at h29
                                  (try have h29b := zbit_n0.mp h29); (try have h29b := zbit_p0.mp h29)
                                  refine z_aload_0 d_Tf_mean_43 ?_
                                  refine z_iconst (a := nI 5) d_Tf_mean_44 (by decide) ?_
                                  refine z_Vi1 d_Tf_mean_45 k_Tf_119 (by first | assumption | exact zS0_at (by assumption) (by omega) | exact zS0_at rfl (by omega)) (t_Tf_refuse (by assumption)) ⟨Nat.le_of_ble_eq_true rfl, Nat.le_of_ble_eq_true rfl, Nat.le_of_ble_eq_true rfl, Nat.le_of_ble_eq_true rfl⟩ (Nat.le_of_ble_eq_true rfl) ?_
                                  intro r w hq
                                  obtain ⟨rfl, rfl⟩ := hq
                                  refine z_retz d_Tf_mean_48 (by first | exact zb0 | exact zb1 | assumption) ?_
                                  exact ⟨rfl, cW_0⟩)
                            · first
                              | (simp (disch := omega) only [← nI_0, nI_leI, nI_ltI, nI_eq, not_true_eq_false, not_false_eq_true] at h29; done)
                              | (simp (disch := omega) only [← nI_0, nI_leI, nI_ltI, nI_eq, not_true_eq_false, not_false_eq_true] at h29; omega)
                              | contradiction
                              | exact absurd h29 (Int32.not_lt.mpr (by assumption))
                              | exact absurd h29 (Int32.not_le.mpr (by assumption))
                              | exact absurd h29 (by decide)
                              | exact absurd (by decide) h29
                              | ( try simp (disch := omega) only [← nI_0, nI_leI, nI_ltI, nI_eq, not_true_eq_false, not_false_eq_true] at h29
                                  (try have h29b := zbit_n0.mp h29); (try have h29b := zbit_p0.mp h29)
                                  refine z_iload_1 d_Tf_mean_32 ?_
                                  refine z_iload_2 d_Tf_mean_33 ?_
                                  first | refine z_iaddN d_Tf_mean_34 ?_ | refine z_iadd d_Tf_mean_34 ?_
                                  refine z_iconst (a := nI 1) d_Tf_mean_35 (by decide) ?_
                                  first | refine z_isubN d_Tf_mean_36 (by omega) ?_ | refine z_isub d_Tf_mean_36 ?_
                                  refine z_sipush (a := nI 9999) d_Tf_mean_37 (by decide) ?_
                                  refine z_icmp_le (tgt := 49) d_Tf_mean_40 (by decide) (fun h40 => ?_) (fun h40 => ?_)
                                  · first
                                    | (simp (disch := omega) only [← nI_0, nI_leI, nI_ltI, nI_eq, not_true_eq_false, not_false_eq_true] at h40; done)
                                    | (simp (disch := omega) only [← nI_0, nI_leI, nI_ltI, nI_eq, not_true_eq_false, not_false_eq_true] at h40; omega)
                                    | contradiction
                                    | exact absurd h40 (Int32.not_lt.mpr (by assumption))
                                    | exact absurd h40 (Int32.not_le.mpr (by assumption))
                                    | exact absurd h40 (by decide)
                                    | exact absurd (by decide) h40
                                    | ( try simp (disch := omega) only [← nI_0, nI_leI, nI_ltI, nI_eq, not_true_eq_false, not_false_eq_true] at h40
                                        (try have h40b := zbit_n0.mp h40); (try have h40b := zbit_p0.mp h40)
                                        fail)
                                  · first
                                    | (simp (disch := omega) only [← nI_0, nI_leI, nI_ltI, nI_eq, not_true_eq_false, not_false_eq_true] at h40; done)
                                    | (simp (disch := omega) only [← nI_0, nI_leI, nI_ltI, nI_eq, not_true_eq_false, not_false_eq_true] at h40; omega)
                                    | contradiction
                                    | exact absurd h40 (Int32.not_lt.mpr (by assumption))
                                    | exact absurd h40 (Int32.not_le.mpr (by assumption))
                                    | exact absurd h40 (by decide)
                                    | exact absurd (by decide) h40
                                    | ( try simp (disch := omega) only [← nI_0, nI_leI, nI_ltI, nI_eq, not_true_eq_false, not_false_eq_true] at h40
                                        (try have h40b := zbit_n0.mp h40); (try have h40b := zbit_p0.mp h40)
                                        refine z_aload_0 d_Tf_mean_43 ?_
                                        refine z_iconst (a := nI 5) d_Tf_mean_44 (by decide) ?_
                                        refine z_Vi1 d_Tf_mean_45 k_Tf_119 (by first | assumption | exact zS0_at (by assumption) (by omega) | exact zS0_at rfl (by omega)) (t_Tf_refuse (by assumption)) ⟨Nat.le_of_ble_eq_true rfl, Nat.le_of_ble_eq_true rfl, Nat.le_of_ble_eq_true rfl, Nat.le_of_ble_eq_true rfl⟩ (Nat.le_of_ble_eq_true rfl) ?_
                                        intro r w hq
                                        obtain ⟨rfl, rfl⟩ := hq
                                        refine z_retz d_Tf_mean_48 (by first | exact zb0 | exact zb1 | assumption) ?_
                                        exact ⟨rfl, cW_0⟩)))))
          · first
            | (simp (disch := omega) only [← nI_0, nI_leI, nI_ltI, nI_eq, not_true_eq_false, not_false_eq_true] at h8; done)
            | (simp (disch := omega) only [← nI_0, nI_leI, nI_ltI, nI_eq, not_true_eq_false, not_false_eq_true] at h8; omega)
            | contradiction
            | exact absurd h8 (Int32.not_lt.mpr (by assumption))
            | exact absurd h8 (Int32.not_le.mpr (by assumption))
            | exact absurd h8 (by decide)
            | exact absurd (by decide) h8
            | ( try simp (disch := omega) only [← nI_0, nI_leI, nI_ltI, nI_eq, not_true_eq_false, not_false_eq_true] at h8
                (try have h8b := zbit_n0.mp h8); (try have h8b := zbit_p0.mp h8)
                refine z_iconst (a := nI 1) d_Tf_mean_11 (by decide) ?_
                refine z_goto (tgt := 16) d_Tf_mean_12 (by decide) ?_
                first | refine z_istore_3 d_Tf_mean_16 rfl ?_ | (refine z_forget_2 ?_; refine z_istore_3 d_Tf_mean_16 rfl ?_)
                refine z_iload_3 d_Tf_mean_17 ?_
                refine z_if_ne (tgt := 43) d_Tf_mean_18 (by decide) (fun h18 => ?_) (fun h18 => ?_)
                · first
                  | (simp (disch := omega) only [← nI_0, nI_leI, nI_ltI, nI_eq, not_true_eq_false, not_false_eq_true] at h18; done)
                  | (simp (disch := omega) only [← nI_0, nI_leI, nI_ltI, nI_eq, not_true_eq_false, not_false_eq_true] at h18; omega)
                  | contradiction
                  | exact absurd h18 (Int32.not_lt.mpr (by assumption))
                  | exact absurd h18 (Int32.not_le.mpr (by assumption))
                  | exact absurd h18 (by decide)
                  | exact absurd (by decide) h18
                  | ( try simp (disch := omega) only [← nI_0, nI_leI, nI_ltI, nI_eq, not_true_eq_false, not_false_eq_true] at h18
                      (try have h18b := zbit_n0.mp h18); (try have h18b := zbit_p0.mp h18)
                      refine z_aload_0 d_Tf_mean_43 ?_
                      refine z_iconst (a := nI 5) d_Tf_mean_44 (by decide) ?_
                      refine z_Vi1 d_Tf_mean_45 k_Tf_119 (by first | assumption | exact zS0_at (by assumption) (by omega) | exact zS0_at rfl (by omega)) (t_Tf_refuse (by assumption)) ⟨Nat.le_of_ble_eq_true rfl, Nat.le_of_ble_eq_true rfl, Nat.le_of_ble_eq_true rfl, Nat.le_of_ble_eq_true rfl⟩ (Nat.le_of_ble_eq_true rfl) ?_
                      intro r w hq
                      obtain ⟨rfl, rfl⟩ := hq
                      refine z_retz d_Tf_mean_48 (by first | exact zb0 | exact zb1 | assumption) ?_
                      exact ⟨rfl, cW_0⟩)
                · first
                  | (simp (disch := omega) only [← nI_0, nI_leI, nI_ltI, nI_eq, not_true_eq_false, not_false_eq_true] at h18; done)
                  | (simp (disch := omega) only [← nI_0, nI_leI, nI_ltI, nI_eq, not_true_eq_false, not_false_eq_true] at h18; omega)
                  | contradiction
                  | exact absurd h18 (Int32.not_lt.mpr (by assumption))
                  | exact absurd h18 (Int32.not_le.mpr (by assumption))
                  | exact absurd h18 (by decide)
                  | exact absurd (by decide) h18
                  | ( try simp (disch := omega) only [← nI_0, nI_leI, nI_ltI, nI_eq, not_true_eq_false, not_false_eq_true] at h18
                      (try have h18b := zbit_n0.mp h18); (try have h18b := zbit_p0.mp h18)
                      refine z_iload_1 d_Tf_mean_21 ?_
                      refine z_if_lt (tgt := 43) d_Tf_mean_22 (by decide) (fun h22 => ?_) (fun h22 => ?_)
                      · first
                        | (simp (disch := omega) only [← nI_0, nI_leI, nI_ltI, nI_eq, not_true_eq_false, not_false_eq_true] at h22; done)
                        | (simp (disch := omega) only [← nI_0, nI_leI, nI_ltI, nI_eq, not_true_eq_false, not_false_eq_true] at h22; omega)
                        | contradiction
                        | exact absurd h22 (Int32.not_lt.mpr (by assumption))
                        | exact absurd h22 (Int32.not_le.mpr (by assumption))
                        | exact absurd h22 (by decide)
                        | exact absurd (by decide) h22
                        | ( try simp (disch := omega) only [← nI_0, nI_leI, nI_ltI, nI_eq, not_true_eq_false, not_false_eq_true] at h22
                            (try have h22b := zbit_n0.mp h22); (try have h22b := zbit_p0.mp h22)
                            refine z_aload_0 d_Tf_mean_43 ?_
                            refine z_iconst (a := nI 5) d_Tf_mean_44 (by decide) ?_
                            refine z_Vi1 d_Tf_mean_45 k_Tf_119 (by first | assumption | exact zS0_at (by assumption) (by omega) | exact zS0_at rfl (by omega)) (t_Tf_refuse (by assumption)) ⟨Nat.le_of_ble_eq_true rfl, Nat.le_of_ble_eq_true rfl, Nat.le_of_ble_eq_true rfl, Nat.le_of_ble_eq_true rfl⟩ (Nat.le_of_ble_eq_true rfl) ?_
                            intro r w hq
                            obtain ⟨rfl, rfl⟩ := hq
                            refine z_retz d_Tf_mean_48 (by first | exact zb0 | exact zb1 | assumption) ?_
                            exact ⟨rfl, cW_0⟩)
                      · first
                        | (simp (disch := omega) only [← nI_0, nI_leI, nI_ltI, nI_eq, not_true_eq_false, not_false_eq_true] at h22; done)
                        | (simp (disch := omega) only [← nI_0, nI_leI, nI_ltI, nI_eq, not_true_eq_false, not_false_eq_true] at h22; omega)
                        | contradiction
                        | exact absurd h22 (Int32.not_lt.mpr (by assumption))
                        | exact absurd h22 (Int32.not_le.mpr (by assumption))
                        | exact absurd h22 (by decide)
                        | exact absurd (by decide) h22
                        | ( try simp (disch := omega) only [← nI_0, nI_leI, nI_ltI, nI_eq, not_true_eq_false, not_false_eq_true] at h22
                            (try have h22b := zbit_n0.mp h22); (try have h22b := zbit_p0.mp h22)
                            refine z_iload_1 d_Tf_mean_25 ?_
                            refine z_sipush (a := nI 9999) d_Tf_mean_26 (by decide) ?_
                            refine z_icmp_gt (tgt := 43) d_Tf_mean_29 (by decide) (fun h29 => ?_) (fun h29 => ?_)
                            · first
                              | (simp (disch := omega) only [← nI_0, nI_leI, nI_ltI, nI_eq, not_true_eq_false, not_false_eq_true] at h29; done)
                              | (simp (disch := omega) only [← nI_0, nI_leI, nI_ltI, nI_eq, not_true_eq_false, not_false_eq_true] at h29; omega)
                              | contradiction
                              | exact absurd h29 (Int32.not_lt.mpr (by assumption))
                              | exact absurd h29 (Int32.not_le.mpr (by assumption))
                              | exact absurd h29 (by decide)
                              | exact absurd (by decide) h29
                              | ( try simp (disch := omega) only [← nI_0, nI_leI, nI_ltI, nI_eq, not_true_eq_false, not_false_eq_true] at h29
                                  (try have h29b := zbit_n0.mp h29); (try have h29b := zbit_p0.mp h29)
                                  refine z_aload_0 d_Tf_mean_43 ?_
                                  refine z_iconst (a := nI 5) d_Tf_mean_44 (by decide) ?_
                                  refine z_Vi1 d_Tf_mean_45 k_Tf_119 (by first | assumption | exact zS0_at (by assumption) (by omega) | exact zS0_at rfl (by omega)) (t_Tf_refuse (by assumption)) ⟨Nat.le_of_ble_eq_true rfl, Nat.le_of_ble_eq_true rfl, Nat.le_of_ble_eq_true rfl, Nat.le_of_ble_eq_true rfl⟩ (Nat.le_of_ble_eq_true rfl) ?_
                                  intro r w hq
                                  obtain ⟨rfl, rfl⟩ := hq
                                  refine z_retz d_Tf_mean_48 (by first | exact zb0 | exact zb1 | assumption) ?_
                                  exact ⟨rfl, cW_0⟩)
                            · first
                              | (simp (disch := omega) only [← nI_0, nI_leI, nI_ltI, nI_eq, not_true_eq_false, not_false_eq_true] at h29; done)
                              | (simp (disch := omega) only [← nI_0, nI_leI, nI_ltI, nI_eq, not_true_eq_false, not_false_eq_true] at h29; omega)
                              | contradiction
                              | exact absurd h29 (Int32.not_lt.mpr (by assumption))
                              | exact absurd h29 (Int32.not_le.mpr (by assumption))
                              | exact absurd h29 (by decide)
                              | exact absurd (by decide) h29
                              | ( try simp (disch := omega) only [← nI_0, nI_leI, nI_ltI, nI_eq, not_true_eq_false, not_false_eq_true] at h29
                                  (try have h29b := zbit_n0.mp h29); (try have h29b := zbit_p0.mp h29)
                                  refine z_iload_1 d_Tf_mean_32 ?_
                                  refine z_iload_2 d_Tf_mean_33 ?_
                                  first | refine z_iaddN d_Tf_mean_34 ?_ | refine z_iadd d_Tf_mean_34 ?_
                                  refine z_iconst (a := nI 1) d_Tf_mean_35 (by decide) ?_
                                  first | refine z_isubN d_Tf_mean_36 (by omega) ?_ | refine z_isub d_Tf_mean_36 ?_
                                  refine z_sipush (a := nI 9999) d_Tf_mean_37 (by decide) ?_
                                  refine z_icmp_le (tgt := 49) d_Tf_mean_40 (by decide) (fun h40 => ?_) (fun h40 => ?_)
                                  · first
                                    | (simp (disch := omega) only [← nI_0, nI_leI, nI_ltI, nI_eq, not_true_eq_false, not_false_eq_true] at h40; done)
                                    | (simp (disch := omega) only [← nI_0, nI_leI, nI_ltI, nI_eq, not_true_eq_false, not_false_eq_true] at h40; omega)
                                    | contradiction
                                    | exact absurd h40 (Int32.not_lt.mpr (by assumption))
                                    | exact absurd h40 (Int32.not_le.mpr (by assumption))
                                    | exact absurd h40 (by decide)
                                    | exact absurd (by decide) h40
                                    | ( try simp (disch := omega) only [← nI_0, nI_leI, nI_ltI, nI_eq, not_true_eq_false, not_false_eq_true] at h40
                                        (try have h40b := zbit_n0.mp h40); (try have h40b := zbit_p0.mp h40)
                                        fail)
                                  · first
                                    | (simp (disch := omega) only [← nI_0, nI_leI, nI_ltI, nI_eq, not_true_eq_false, not_false_eq_true] at h40; done)
                                    | (simp (disch := omega) only [← nI_0, nI_leI, nI_ltI, nI_eq, not_true_eq_false, not_false_eq_true] at h40; omega)
                                    | contradiction
                                    | exact absurd h40 (Int32.not_lt.mpr (by assumption))
                                    | exact absurd h40 (Int32.not_le.mpr (by assumption))
                                    | exact absurd h40 (by decide)
                                    | exact absurd (by decide) h40
                                    | ( try simp (disch := omega) only [← nI_0, nI_leI, nI_ltI, nI_eq, not_true_eq_false, not_false_eq_true] at h40
                                        (try have h40b := zbit_n0.mp h40); (try have h40b := zbit_p0.mp h40)
                                        refine z_aload_0 d_Tf_mean_43 ?_
                                        refine z_iconst (a := nI 5) d_Tf_mean_44 (by decide) ?_
                                        refine z_Vi1 d_Tf_mean_45 k_Tf_119 (by first | assumption | exact zS0_at (by assumption) (by omega) | exact zS0_at rfl (by omega)) (t_Tf_refuse (by assumption)) ⟨Nat.le_of_ble_eq_true rfl, Nat.le_of_ble_eq_true rfl, Nat.le_of_ble_eq_true rfl, Nat.le_of_ble_eq_true rfl⟩ (Nat.le_of_ble_eq_true rfl) ?_
                                        intro r w hq
                                        obtain ⟨rfl, rfl⟩ := hq
                                        refine z_retz d_Tf_mean_48 (by first | exact zb0 | exact zb1 | assumption) ?_
                                        exact ⟨rfl, cW_0⟩))))))
  · refine z_iload_2 d_Tf_mean_0 ?_
    refine z_iconst (a := nI 1) d_Tf_mean_1 (by decide) ?_
    refine z_icmp_lt (tgt := 11) d_Tf_mean_2 (by decide) (fun h2 => ?_) (fun h2 => ?_)
    · first
      | (simp (disch := omega) only [← nI_0, nI_leI, nI_ltI, nI_eq, not_true_eq_false, not_false_eq_true] at h2; done)
      | (simp (disch := omega) only [← nI_0, nI_leI, nI_ltI, nI_eq, not_true_eq_false, not_false_eq_true] at h2; omega)
      | contradiction
      | exact absurd h2 (Int32.not_lt.mpr (by assumption))
      | exact absurd h2 (Int32.not_le.mpr (by assumption))
      | exact absurd h2 (by decide)
      | exact absurd (by decide) h2
      | ( try simp (disch := omega) only [← nI_0, nI_leI, nI_ltI, nI_eq, not_true_eq_false, not_false_eq_true] at h2
          (try have h2b := zbit_n0.mp h2); (try have h2b := zbit_p0.mp h2)
          refine z_iconst (a := nI 1) d_Tf_mean_11 (by decide) ?_
          refine z_goto (tgt := 16) d_Tf_mean_12 (by decide) ?_
          first | refine z_istore_3 d_Tf_mean_16 rfl ?_ | (refine z_forget_2 ?_; refine z_istore_3 d_Tf_mean_16 rfl ?_)
          refine z_iload_3 d_Tf_mean_17 ?_
          refine z_if_ne (tgt := 43) d_Tf_mean_18 (by decide) (fun h18 => ?_) (fun h18 => ?_)
          · first
            | (simp (disch := omega) only [← nI_0, nI_leI, nI_ltI, nI_eq, not_true_eq_false, not_false_eq_true] at h18; done)
            | (simp (disch := omega) only [← nI_0, nI_leI, nI_ltI, nI_eq, not_true_eq_false, not_false_eq_true] at h18; omega)
            | contradiction
            | exact absurd h18 (Int32.not_lt.mpr (by assumption))
            | exact absurd h18 (Int32.not_le.mpr (by assumption))
            | exact absurd h18 (by decide)
            | exact absurd (by decide) h18
            | ( try simp (disch := omega) only [← nI_0, nI_leI, nI_ltI, nI_eq, not_true_eq_false, not_false_eq_true] at h18
                (try have h18b := zbit_n0.mp h18); (try have h18b := zbit_p0.mp h18)
                refine z_aload_0 d_Tf_mean_43 ?_
                refine z_iconst (a := nI 5) d_Tf_mean_44 (by decide) ?_
                refine z_Vi1 d_Tf_mean_45 k_Tf_119 (by first | assumption | exact zS0_at (by assumption) (by omega) | exact zS0_at rfl (by omega)) (t_Tf_refuse (by assumption)) ⟨Nat.le_of_ble_eq_true rfl, Nat.le_of_ble_eq_true rfl, Nat.le_of_ble_eq_true rfl, Nat.le_of_ble_eq_true rfl⟩ (Nat.le_of_ble_eq_true rfl) ?_
                intro r w hq
                obtain ⟨rfl, rfl⟩ := hq
                refine z_retz d_Tf_mean_48 (by first | exact zb0 | exact zb1 | assumption) ?_
                exact ⟨rfl, cW_0⟩)
          · first
            | (simp (disch := omega) only [← nI_0, nI_leI, nI_ltI, nI_eq, not_true_eq_false, not_false_eq_true] at h18; done)
            | (simp (disch := omega) only [← nI_0, nI_leI, nI_ltI, nI_eq, not_true_eq_false, not_false_eq_true] at h18; omega)
            | contradiction
            | exact absurd h18 (Int32.not_lt.mpr (by assumption))
            | exact absurd h18 (Int32.not_le.mpr (by assumption))
            | exact absurd h18 (by decide)
            | exact absurd (by decide) h18
            | ( try simp (disch := omega) only [← nI_0, nI_leI, nI_ltI, nI_eq, not_true_eq_false, not_false_eq_true] at h18
                (try have h18b := zbit_n0.mp h18); (try have h18b := zbit_p0.mp h18)
                refine z_iload_1 d_Tf_mean_21 ?_
                refine z_if_lt (tgt := 43) d_Tf_mean_22 (by decide) (fun h22 => ?_) (fun h22 => ?_)
                · first
                  | (simp (disch := omega) only [← nI_0, nI_leI, nI_ltI, nI_eq, not_true_eq_false, not_false_eq_true] at h22; done)
                  | (simp (disch := omega) only [← nI_0, nI_leI, nI_ltI, nI_eq, not_true_eq_false, not_false_eq_true] at h22; omega)
                  | contradiction
                  | exact absurd h22 (Int32.not_lt.mpr (by assumption))
                  | exact absurd h22 (Int32.not_le.mpr (by assumption))
                  | exact absurd h22 (by decide)
                  | exact absurd (by decide) h22
                  | ( try simp (disch := omega) only [← nI_0, nI_leI, nI_ltI, nI_eq, not_true_eq_false, not_false_eq_true] at h22
                      (try have h22b := zbit_n0.mp h22); (try have h22b := zbit_p0.mp h22)
                      refine z_aload_0 d_Tf_mean_43 ?_
                      refine z_iconst (a := nI 5) d_Tf_mean_44 (by decide) ?_
                      refine z_Vi1 d_Tf_mean_45 k_Tf_119 (by first | assumption | exact zS0_at (by assumption) (by omega) | exact zS0_at rfl (by omega)) (t_Tf_refuse (by assumption)) ⟨Nat.le_of_ble_eq_true rfl, Nat.le_of_ble_eq_true rfl, Nat.le_of_ble_eq_true rfl, Nat.le_of_ble_eq_true rfl⟩ (Nat.le_of_ble_eq_true rfl) ?_
                      intro r w hq
                      obtain ⟨rfl, rfl⟩ := hq
                      refine z_retz d_Tf_mean_48 (by first | exact zb0 | exact zb1 | assumption) ?_
                      exact ⟨rfl, cW_0⟩)
                · first
                  | (simp (disch := omega) only [← nI_0, nI_leI, nI_ltI, nI_eq, not_true_eq_false, not_false_eq_true] at h22; done)
                  | (simp (disch := omega) only [← nI_0, nI_leI, nI_ltI, nI_eq, not_true_eq_false, not_false_eq_true] at h22; omega)
                  | contradiction
                  | exact absurd h22 (Int32.not_lt.mpr (by assumption))
                  | exact absurd h22 (Int32.not_le.mpr (by assumption))
                  | exact absurd h22 (by decide)
                  | exact absurd (by decide) h22
                  | ( try simp (disch := omega) only [← nI_0, nI_leI, nI_ltI, nI_eq, not_true_eq_false, not_false_eq_true] at h22
                      (try have h22b := zbit_n0.mp h22); (try have h22b := zbit_p0.mp h22)
                      refine z_iload_1 d_Tf_mean_25 ?_
                      refine z_sipush (a := nI 9999) d_Tf_mean_26 (by decide) ?_
                      refine z_icmp_gt (tgt := 43) d_Tf_mean_29 (by decide) (fun h29 => ?_) (fun h29 => ?_)
                      · first
                        | (simp (disch := omega) only [← nI_0, nI_leI, nI_ltI, nI_eq, not_true_eq_false, not_false_eq_true] at h29; done)
                        | (simp (disch := omega) only [← nI_0, nI_leI, nI_ltI, nI_eq, not_true_eq_false, not_false_eq_true] at h29; omega)
                        | contradiction
                        | exact absurd h29 (Int32.not_lt.mpr (by assumption))
                        | exact absurd h29 (Int32.not_le.mpr (by assumption))
                        | exact absurd h29 (by decide)
                        | exact absurd (by decide) h29
                        | ( try simp (disch := omega) only [← nI_0, nI_leI, nI_ltI, nI_eq, not_true_eq_false, not_false_eq_true] at h29
                            (try have h29b := zbit_n0.mp h29); (try have h29b := zbit_p0.mp h29)
                            refine z_aload_0 d_Tf_mean_43 ?_
                            refine z_iconst (a := nI 5) d_Tf_mean_44 (by decide) ?_
                            refine z_Vi1 d_Tf_mean_45 k_Tf_119 (by first | assumption | exact zS0_at (by assumption) (by omega) | exact zS0_at rfl (by omega)) (t_Tf_refuse (by assumption)) ⟨Nat.le_of_ble_eq_true rfl, Nat.le_of_ble_eq_true rfl, Nat.le_of_ble_eq_true rfl, Nat.le_of_ble_eq_true rfl⟩ (Nat.le_of_ble_eq_true rfl) ?_
                            intro r w hq
                            obtain ⟨rfl, rfl⟩ := hq
                            refine z_retz d_Tf_mean_48 (by first | exact zb0 | exact zb1 | assumption) ?_
                            exact ⟨rfl, cW_0⟩)
                      · first
                        | (simp (disch := omega) only [← nI_0, nI_leI, nI_ltI, nI_eq, not_true_eq_false, not_false_eq_true] at h29; done)
                        | (simp (disch := omega) only [← nI_0, nI_leI, nI_ltI, nI_eq, not_true_eq_false, not_false_eq_true] at h29; omega)
                        | contradiction
                        | exact absurd h29 (Int32.not_lt.mpr (by assumption))
                        | exact absurd h29 (Int32.not_le.mpr (by assumption))
                        | exact absurd h29 (by decide)
                        | exact absurd (by decide) h29
                        | ( try simp (disch := omega) only [← nI_0, nI_leI, nI_ltI, nI_eq, not_true_eq_false, not_false_eq_true] at h29
                            (try have h29b := zbit_n0.mp h29); (try have h29b := zbit_p0.mp h29)
                            refine z_iload_1 d_Tf_mean_32 ?_
                            refine z_iload_2 d_Tf_mean_33 ?_
                            first | refine z_iaddN d_Tf_mean_34 ?_ | refine z_iadd d_Tf_mean_34 ?_
                            refine z_iconst (a := nI 1) d_Tf_mean_35 (by decide) ?_
                            first | refine z_isubN d_Tf_mean_36 (by omega) ?_ | refine z_isub d_Tf_mean_36 ?_
                            refine z_sipush (a := nI 9999) d_Tf_mean_37 (by decide) ?_
                            refine z_icmp_le (tgt := 49) d_Tf_mean_40 (by decide) (fun h40 => ?_) (fun h40 => ?_)
                            · first
                              | (simp (disch := omega) only [← nI_0, nI_leI, nI_ltI, nI_eq, not_true_eq_false, not_false_eq_true] at h40; done)
                              | (simp (disch := omega) only [← nI_0, nI_leI, nI_ltI, nI_eq, not_true_eq_false, not_false_eq_true] at h40; omega)
                              | contradiction
                              | exact absurd h40 (Int32.not_lt.mpr (by assumption))
                              | exact absurd h40 (Int32.not_le.mpr (by assumption))
                              | exact absurd h40 (by decide)
                              | exact absurd (by decide) h40
                              | ( try simp (disch := omega) only [← nI_0, nI_leI, nI_ltI, nI_eq, not_true_eq_false, not_false_eq_true] at h40
                                  (try have h40b := zbit_n0.mp h40); (try have h40b := zbit_p0.mp h40)
                                  fail)
                            · first
                              | (simp (disch := omega) only [← nI_0, nI_leI, nI_ltI, nI_eq, not_true_eq_false, not_false_eq_true] at h40; done)
                              | (simp (disch := omega) only [← nI_0, nI_leI, nI_ltI, nI_eq, not_true_eq_false, not_false_eq_true] at h40; omega)
                              | contradiction
                              | exact absurd h40 (Int32.not_lt.mpr (by assumption))
                              | exact absurd h40 (Int32.not_le.mpr (by assumption))
                              | exact absurd h40 (by decide)
                              | exact absurd (by decide) h40
                              | ( try simp (disch := omega) only [← nI_0, nI_leI, nI_ltI, nI_eq, not_true_eq_false, not_false_eq_true] at h40
                                  (try have h40b := zbit_n0.mp h40); (try have h40b := zbit_p0.mp h40)
                                  refine z_aload_0 d_Tf_mean_43 ?_
                                  refine z_iconst (a := nI 5) d_Tf_mean_44 (by decide) ?_
                                  refine z_Vi1 d_Tf_mean_45 k_Tf_119 (by first | assumption | exact zS0_at (by assumption) (by omega) | exact zS0_at rfl (by omega)) (t_Tf_refuse (by assumption)) ⟨Nat.le_of_ble_eq_true rfl, Nat.le_of_ble_eq_true rfl, Nat.le_of_ble_eq_true rfl, Nat.le_of_ble_eq_true rfl⟩ (Nat.le_of_ble_eq_true rfl) ?_
                                  intro r w hq
                                  obtain ⟨rfl, rfl⟩ := hq
                                  refine z_retz d_Tf_mean_48 (by first | exact zb0 | exact zb1 | assumption) ?_
                                  exact ⟨rfl, cW_0⟩)))))
    · first
      | (simp (disch := omega) only [← nI_0, nI_leI, nI_ltI, nI_eq, not_true_eq_false, not_false_eq_true] at h2; done)
      | (simp (disch := omega) only [← nI_0, nI_leI, nI_ltI, nI_eq, not_true_eq_false, not_false_eq_true] at h2; omega)
      | contradiction
      | exact absurd h2 (Int32.not_lt.mpr (by assumption))
      | exact absurd h2 (Int32.not_le.mpr (by assumption))
      | exact absurd h2 (by decide)
      | exact absurd (by decide) h2
      | ( try simp (disch := omega) only [← nI_0, nI_leI, nI_ltI, nI_eq, not_true_eq_false, not_false_eq_true] at h2
          (try have h2b := zbit_n0.mp h2); (try have h2b := zbit_p0.mp h2)
          refine z_iload_2 d_Tf_mean_5 ?_
          refine z_bipush (a := nI 20) d_Tf_mean_6 (by decide) ?_
          refine z_icmp_le (tgt := 15) d_Tf_mean_8 (by decide) (fun h8 => ?_) (fun h8 => ?_)
          · first
            | (simp (disch := omega) only [← nI_0, nI_leI, nI_ltI, nI_eq, not_true_eq_false, not_false_eq_true] at h8; done)
            | (simp (disch := omega) only [← nI_0, nI_leI, nI_ltI, nI_eq, not_true_eq_false, not_false_eq_true] at h8; omega)
            | contradiction
            | exact absurd h8 (Int32.not_lt.mpr (by assumption))
            | exact absurd h8 (Int32.not_le.mpr (by assumption))
            | exact absurd h8 (by decide)
            | exact absurd (by decide) h8
            | ( try simp (disch := omega) only [← nI_0, nI_leI, nI_ltI, nI_eq, not_true_eq_false, not_false_eq_true] at h8
                (try have h8b := zbit_n0.mp h8); (try have h8b := zbit_p0.mp h8)
                refine z_iconst (a := nI 0) d_Tf_mean_15 (by decide) ?_
                first | refine z_istore_3 d_Tf_mean_16 rfl ?_ | (refine z_forget_2 ?_; refine z_istore_3 d_Tf_mean_16 rfl ?_)
                refine z_iload_3 d_Tf_mean_17 ?_
                refine z_if_ne (tgt := 43) d_Tf_mean_18 (by decide) (fun h18 => ?_) (fun h18 => ?_)
                · first
                  | (simp (disch := omega) only [← nI_0, nI_leI, nI_ltI, nI_eq, not_true_eq_false, not_false_eq_true] at h18; done)
                  | (simp (disch := omega) only [← nI_0, nI_leI, nI_ltI, nI_eq, not_true_eq_false, not_false_eq_true] at h18; omega)
                  | contradiction
                  | exact absurd h18 (Int32.not_lt.mpr (by assumption))
                  | exact absurd h18 (Int32.not_le.mpr (by assumption))
                  | exact absurd h18 (by decide)
                  | exact absurd (by decide) h18
                  | ( try simp (disch := omega) only [← nI_0, nI_leI, nI_ltI, nI_eq, not_true_eq_false, not_false_eq_true] at h18
                      (try have h18b := zbit_n0.mp h18); (try have h18b := zbit_p0.mp h18)
                      refine z_aload_0 d_Tf_mean_43 ?_
                      refine z_iconst (a := nI 5) d_Tf_mean_44 (by decide) ?_
                      refine z_Vi1 d_Tf_mean_45 k_Tf_119 (by first | assumption | exact zS0_at (by assumption) (by omega) | exact zS0_at rfl (by omega)) (t_Tf_refuse (by assumption)) ⟨Nat.le_of_ble_eq_true rfl, Nat.le_of_ble_eq_true rfl, Nat.le_of_ble_eq_true rfl, Nat.le_of_ble_eq_true rfl⟩ (Nat.le_of_ble_eq_true rfl) ?_
                      intro r w hq
                      obtain ⟨rfl, rfl⟩ := hq
                      refine z_retz d_Tf_mean_48 (by first | exact zb0 | exact zb1 | assumption) ?_
                      exact ⟨rfl, cW_0⟩)
                · first
                  | (simp (disch := omega) only [← nI_0, nI_leI, nI_ltI, nI_eq, not_true_eq_false, not_false_eq_true] at h18; done)
                  | (simp (disch := omega) only [← nI_0, nI_leI, nI_ltI, nI_eq, not_true_eq_false, not_false_eq_true] at h18; omega)
                  | contradiction
                  | exact absurd h18 (Int32.not_lt.mpr (by assumption))
                  | exact absurd h18 (Int32.not_le.mpr (by assumption))
                  | exact absurd h18 (by decide)
                  | exact absurd (by decide) h18
                  | ( try simp (disch := omega) only [← nI_0, nI_leI, nI_ltI, nI_eq, not_true_eq_false, not_false_eq_true] at h18
                      (try have h18b := zbit_n0.mp h18); (try have h18b := zbit_p0.mp h18)
                      refine z_iload_1 d_Tf_mean_21 ?_
                      refine z_if_lt (tgt := 43) d_Tf_mean_22 (by decide) (fun h22 => ?_) (fun h22 => ?_)
                      · first
                        | (simp (disch := omega) only [← nI_0, nI_leI, nI_ltI, nI_eq, not_true_eq_false, not_false_eq_true] at h22; done)
                        | (simp (disch := omega) only [← nI_0, nI_leI, nI_ltI, nI_eq, not_true_eq_false, not_false_eq_true] at h22; omega)
                        | contradiction
                        | exact absurd h22 (Int32.not_lt.mpr (by assumption))
                        | exact absurd h22 (Int32.not_le.mpr (by assumption))
                        | exact absurd h22 (by decide)
                        | exact absurd (by decide) h22
                        | ( try simp (disch := omega) only [← nI_0, nI_leI, nI_ltI, nI_eq, not_true_eq_false, not_false_eq_true] at h22
                            (try have h22b := zbit_n0.mp h22); (try have h22b := zbit_p0.mp h22)
                            refine z_aload_0 d_Tf_mean_43 ?_
                            refine z_iconst (a := nI 5) d_Tf_mean_44 (by decide) ?_
                            refine z_Vi1 d_Tf_mean_45 k_Tf_119 (by first | assumption | exact zS0_at (by assumption) (by omega) | exact zS0_at rfl (by omega)) (t_Tf_refuse (by assumption)) ⟨Nat.le_of_ble_eq_true rfl, Nat.le_of_ble_eq_true rfl, Nat.le_of_ble_eq_true rfl, Nat.le_of_ble_eq_true rfl⟩ (Nat.le_of_ble_eq_true rfl) ?_
                            intro r w hq
                            obtain ⟨rfl, rfl⟩ := hq
                            refine z_retz d_Tf_mean_48 (by first | exact zb0 | exact zb1 | assumption) ?_
                            exact ⟨rfl, cW_0⟩)
                      · first
                        | (simp (disch := omega) only [← nI_0, nI_leI, nI_ltI, nI_eq, not_true_eq_false, not_false_eq_true] at h22; done)
                        | (simp (disch := omega) only [← nI_0, nI_leI, nI_ltI, nI_eq, not_true_eq_false, not_false_eq_true] at h22; omega)
                        | contradiction
                        | exact absurd h22 (Int32.not_lt.mpr (by assumption))
                        | exact absurd h22 (Int32.not_le.mpr (by assumption))
                        | exact absurd h22 (by decide)
                        | exact absurd (by decide) h22
                        | ( try simp (disch := omega) only [← nI_0, nI_leI, nI_ltI, nI_eq, not_true_eq_false, not_false_eq_true] at h22
                            (try have h22b := zbit_n0.mp h22); (try have h22b := zbit_p0.mp h22)
                            refine z_iload_1 d_Tf_mean_25 ?_
                            refine z_sipush (a := nI 9999) d_Tf_mean_26 (by decide) ?_
                            refine z_icmp_gt (tgt := 43) d_Tf_mean_29 (by decide) (fun h29 => ?_) (fun h29 => ?_)
                            · first
                              | (simp (disch := omega) only [← nI_0, nI_leI, nI_ltI, nI_eq, not_true_eq_false, not_false_eq_true] at h29; done)
                              | (simp (disch := omega) only [← nI_0, nI_leI, nI_ltI, nI_eq, not_true_eq_false, not_false_eq_true] at h29; omega)
                              | contradiction
                              | exact absurd h29 (Int32.not_lt.mpr (by assumption))
                              | exact absurd h29 (Int32.not_le.mpr (by assumption))
                              | exact absurd h29 (by decide)
                              | exact absurd (by decide) h29
                              | ( try simp (disch := omega) only [← nI_0, nI_leI, nI_ltI, nI_eq, not_true_eq_false, not_false_eq_true] at h29
                                  (try have h29b := zbit_n0.mp h29); (try have h29b := zbit_p0.mp h29)
                                  refine z_aload_0 d_Tf_mean_43 ?_
                                  refine z_iconst (a := nI 5) d_Tf_mean_44 (by decide) ?_
                                  refine z_Vi1 d_Tf_mean_45 k_Tf_119 (by first | assumption | exact zS0_at (by assumption) (by omega) | exact zS0_at rfl (by omega)) (t_Tf_refuse (by assumption)) ⟨Nat.le_of_ble_eq_true rfl, Nat.le_of_ble_eq_true rfl, Nat.le_of_ble_eq_true rfl, Nat.le_of_ble_eq_true rfl⟩ (Nat.le_of_ble_eq_true rfl) ?_
                                  intro r w hq
                                  obtain ⟨rfl, rfl⟩ := hq
                                  refine z_retz d_Tf_mean_48 (by first | exact zb0 | exact zb1 | assumption) ?_
                                  exact ⟨rfl, cW_0⟩)
                            · first
                              | (simp (disch := omega) only [← nI_0, nI_leI, nI_ltI, nI_eq, not_true_eq_false, not_false_eq_true] at h29; done)
                              | (simp (disch := omega) only [← nI_0, nI_leI, nI_ltI, nI_eq, not_true_eq_false, not_false_eq_true] at h29; omega)
                              | contradiction
                              | exact absurd h29 (Int32.not_lt.mpr (by assumption))
                              | exact absurd h29 (Int32.not_le.mpr (by assumption))
                              | exact absurd h29 (by decide)
                              | exact absurd (by decide) h29
                              | ( try simp (disch := omega) only [← nI_0, nI_leI, nI_ltI, nI_eq, not_true_eq_false, not_false_eq_true] at h29
                                  (try have h29b := zbit_n0.mp h29); (try have h29b := zbit_p0.mp h29)
                                  refine z_iload_1 d_Tf_mean_32 ?_
                                  refine z_iload_2 d_Tf_mean_33 ?_
                                  first | refine z_iaddN d_Tf_mean_34 ?_ | refine z_iadd d_Tf_mean_34 ?_
                                  refine z_iconst (a := nI 1) d_Tf_mean_35 (by decide) ?_
                                  first | refine z_isubN d_Tf_mean_36 (by omega) ?_ | refine z_isub d_Tf_mean_36 ?_
                                  refine z_sipush (a := nI 9999) d_Tf_mean_37 (by decide) ?_
                                  refine z_icmp_le (tgt := 49) d_Tf_mean_40 (by decide) (fun h40 => ?_) (fun h40 => ?_)
                                  · first
                                    | (simp (disch := omega) only [← nI_0, nI_leI, nI_ltI, nI_eq, not_true_eq_false, not_false_eq_true] at h40; done)
                                    | (simp (disch := omega) only [← nI_0, nI_leI, nI_ltI, nI_eq, not_true_eq_false, not_false_eq_true] at h40; omega)
                                    | contradiction
                                    | exact absurd h40 (Int32.not_lt.mpr (by assumption))
                                    | exact absurd h40 (Int32.not_le.mpr (by assumption))
                                    | exact absurd h40 (by decide)
                                    | exact absurd (by decide) h40
                                    | ( try simp (disch := omega) only [← nI_0, nI_leI, nI_ltI, nI_eq, not_true_eq_false, not_false_eq_true] at h40
                                        (try have h40b := zbit_n0.mp h40); (try have h40b := zbit_p0.mp h40)
                                        fail)
                                  · first
                                    | (simp (disch := omega) only [← nI_0, nI_leI, nI_ltI, nI_eq, not_true_eq_false, not_false_eq_true] at h40; done)
                                    | (simp (disch := omega) only [← nI_0, nI_leI, nI_ltI, nI_eq, not_true_eq_false, not_false_eq_true] at h40; omega)
                                    | contradiction
                                    | exact absurd h40 (Int32.not_lt.mpr (by assumption))
                                    | exact absurd h40 (Int32.not_le.mpr (by assumption))
                                    | exact absurd h40 (by decide)
                                    | exact absurd (by decide) h40
                                    | ( try simp (disch := omega) only [← nI_0, nI_leI, nI_ltI, nI_eq, not_true_eq_false, not_false_eq_true] at h40
                                        (try have h40b := zbit_n0.mp h40); (try have h40b := zbit_p0.mp h40)
                                        refine z_aload_0 d_Tf_mean_43 ?_
                                        refine z_iconst (a := nI 5) d_Tf_mean_44 (by decide) ?_
                                        refine z_Vi1 d_Tf_mean_45 k_Tf_119 (by first | assumption | exact zS0_at (by assumption) (by omega) | exact zS0_at rfl (by omega)) (t_Tf_refuse (by assumption)) ⟨Nat.le_of_ble_eq_true rfl, Nat.le_of_ble_eq_true rfl, Nat.le_of_ble_eq_true rfl, Nat.le_of_ble_eq_true rfl⟩ (Nat.le_of_ble_eq_true rfl) ?_
                                        intro r w hq
                                        obtain ⟨rfl, rfl⟩ := hq
                                        refine z_retz d_Tf_mean_48 (by first | exact zb0 | exact zb1 | assumption) ?_
                                        exact ⟨rfl, cW_0⟩)))))
          · first
            | (simp (disch := omega) only [← nI_0, nI_leI, nI_ltI, nI_eq, not_true_eq_false, not_false_eq_true] at h8; done)
            | (simp (disch := omega) only [← nI_0, nI_leI, nI_ltI, nI_eq, not_true_eq_false, not_false_eq_true] at h8; omega)
            | contradiction
            | exact absurd h8 (Int32.not_lt.mpr (by assumption))
            | exact absurd h8 (Int32.not_le.mpr (by assumption))
            | exact absurd h8 (by decide)
            | exact absurd (by decide) h8
            | ( try simp (disch := omega) only [← nI_0, nI_leI, nI_ltI, nI_eq, not_true_eq_false, not_false_eq_true] at h8
                (try have h8b := zbit_n0.mp h8); (try have h8b := zbit_p0.mp h8)
                refine z_iconst (a := nI 1) d_Tf_mean_11 (by decide) ?_
                refine z_goto (tgt := 16) d_Tf_mean_12 (by decide) ?_
                first | refine z_istore_3 d_Tf_mean_16 rfl ?_ | (refine z_forget_2 ?_; refine z_istore_3 d_Tf_mean_16 rfl ?_)
                refine z_iload_3 d_Tf_mean_17 ?_
                refine z_if_ne (tgt := 43) d_Tf_mean_18 (by decide) (fun h18 => ?_) (fun h18 => ?_)
                · first
                  | (simp (disch := omega) only [← nI_0, nI_leI, nI_ltI, nI_eq, not_true_eq_false, not_false_eq_true] at h18; done)
                  | (simp (disch := omega) only [← nI_0, nI_leI, nI_ltI, nI_eq, not_true_eq_false, not_false_eq_true] at h18; omega)
                  | contradiction
                  | exact absurd h18 (Int32.not_lt.mpr (by assumption))
                  | exact absurd h18 (Int32.not_le.mpr (by assumption))
                  | exact absurd h18 (by decide)
                  | exact absurd (by decide) h18
                  | ( try simp (disch := omega) only [← nI_0, nI_leI, nI_ltI, nI_eq, not_true_eq_false, not_false_eq_true] at h18
                      (try have h18b := zbit_n0.mp h18); (try have h18b := zbit_p0.mp h18)
                      refine z_aload_0 d_Tf_mean_43 ?_
                      refine z_iconst (a := nI 5) d_Tf_mean_44 (by decide) ?_
                      refine z_Vi1 d_Tf_mean_45 k_Tf_119 (by first | assumption | exact zS0_at (by assumption) (by omega) | exact zS0_at rfl (by omega)) (t_Tf_refuse (by assumption)) ⟨Nat.le_of_ble_eq_true rfl, Nat.le_of_ble_eq_true rfl, Nat.le_of_ble_eq_true rfl, Nat.le_of_ble_eq_true rfl⟩ (Nat.le_of_ble_eq_true rfl) ?_
                      intro r w hq
                      obtain ⟨rfl, rfl⟩ := hq
                      refine z_retz d_Tf_mean_48 (by first | exact zb0 | exact zb1 | assumption) ?_
                      exact ⟨rfl, cW_0⟩)
                · first
                  | (simp (disch := omega) only [← nI_0, nI_leI, nI_ltI, nI_eq, not_true_eq_false, not_false_eq_true] at h18; done)
                  | (simp (disch := omega) only [← nI_0, nI_leI, nI_ltI, nI_eq, not_true_eq_false, not_false_eq_true] at h18; omega)
                  | contradiction
                  | exact absurd h18 (Int32.not_lt.mpr (by assumption))
                  | exact absurd h18 (Int32.not_le.mpr (by assumption))
                  | exact absurd h18 (by decide)
                  | exact absurd (by decide) h18
                  | ( try simp (disch := omega) only [← nI_0, nI_leI, nI_ltI, nI_eq, not_true_eq_false, not_false_eq_true] at h18
                      (try have h18b := zbit_n0.mp h18); (try have h18b := zbit_p0.mp h18)
                      refine z_iload_1 d_Tf_mean_21 ?_
                      refine z_if_lt (tgt := 43) d_Tf_mean_22 (by decide) (fun h22 => ?_) (fun h22 => ?_)
                      · first
                        | (simp (disch := omega) only [← nI_0, nI_leI, nI_ltI, nI_eq, not_true_eq_false, not_false_eq_true] at h22; done)
                        | (simp (disch := omega) only [← nI_0, nI_leI, nI_ltI, nI_eq, not_true_eq_false, not_false_eq_true] at h22; omega)
                        | contradiction
                        | exact absurd h22 (Int32.not_lt.mpr (by assumption))
                        | exact absurd h22 (Int32.not_le.mpr (by assumption))
                        | exact absurd h22 (by decide)
                        | exact absurd (by decide) h22
                        | ( try simp (disch := omega) only [← nI_0, nI_leI, nI_ltI, nI_eq, not_true_eq_false, not_false_eq_true] at h22
                            (try have h22b := zbit_n0.mp h22); (try have h22b := zbit_p0.mp h22)
                            refine z_aload_0 d_Tf_mean_43 ?_
                            refine z_iconst (a := nI 5) d_Tf_mean_44 (by decide) ?_
                            refine z_Vi1 d_Tf_mean_45 k_Tf_119 (by first | assumption | exact zS0_at (by assumption) (by omega) | exact zS0_at rfl (by omega)) (t_Tf_refuse (by assumption)) ⟨Nat.le_of_ble_eq_true rfl, Nat.le_of_ble_eq_true rfl, Nat.le_of_ble_eq_true rfl, Nat.le_of_ble_eq_true rfl⟩ (Nat.le_of_ble_eq_true rfl) ?_
                            intro r w hq
                            obtain ⟨rfl, rfl⟩ := hq
                            refine z_retz d_Tf_mean_48 (by first | exact zb0 | exact zb1 | assumption) ?_
                            exact ⟨rfl, cW_0⟩)
                      · first
                        | (simp (disch := omega) only [← nI_0, nI_leI, nI_ltI, nI_eq, not_true_eq_false, not_false_eq_true] at h22; done)
                        | (simp (disch := omega) only [← nI_0, nI_leI, nI_ltI, nI_eq, not_true_eq_false, not_false_eq_true] at h22; omega)
                        | contradiction
                        | exact absurd h22 (Int32.not_lt.mpr (by assumption))
                        | exact absurd h22 (Int32.not_le.mpr (by assumption))
                        | exact absurd h22 (by decide)
                        | exact absurd (by decide) h22
                        | ( try simp (disch := omega) only [← nI_0, nI_leI, nI_ltI, nI_eq, not_true_eq_false, not_false_eq_true] at h22
                            (try have h22b := zbit_n0.mp h22); (try have h22b := zbit_p0.mp h22)
                            refine z_iload_1 d_Tf_mean_25 ?_
                            refine z_sipush (a := nI 9999) d_Tf_mean_26 (by decide) ?_
                            refine z_icmp_gt (tgt := 43) d_Tf_mean_29 (by decide) (fun h29 => ?_) (fun h29 => ?_)
                            · first
                              | (simp (disch := omega) only [← nI_0, nI_leI, nI_ltI, nI_eq, not_true_eq_false, not_false_eq_true] at h29; done)
                              | (simp (disch := omega) only [← nI_0, nI_leI, nI_ltI, nI_eq, not_true_eq_false, not_false_eq_true] at h29; omega)
                              | contradiction
                              | exact absurd h29 (Int32.not_lt.mpr (by assumption))
                              | exact absurd h29 (Int32.not_le.mpr (by assumption))
                              | exact absurd h29 (by decide)
                              | exact absurd (by decide) h29
                              | ( try simp (disch := omega) only [← nI_0, nI_leI, nI_ltI, nI_eq, not_true_eq_false, not_false_eq_true] at h29
                                  (try have h29b := zbit_n0.mp h29); (try have h29b := zbit_p0.mp h29)
                                  refine z_aload_0 d_Tf_mean_43 ?_
                                  refine z_iconst (a := nI 5) d_Tf_mean_44 (by decide) ?_
                                  refine z_Vi1 d_Tf_mean_45 k_Tf_119 (by first | assumption | exact zS0_at (by assumption) (by omega) | exact zS0_at rfl (by omega)) (t_Tf_refuse (by assumption)) ⟨Nat.le_of_ble_eq_true rfl, Nat.le_of_ble_eq_true rfl, Nat.le_of_ble_eq_true rfl, Nat.le_of_ble_eq_true rfl⟩ (Nat.le_of_ble_eq_true rfl) ?_
                                  intro r w hq
                                  obtain ⟨rfl, rfl⟩ := hq
                                  refine z_retz d_Tf_mean_48 (by first | exact zb0 | exact zb1 | assumption) ?_
                                  exact ⟨rfl, cW_0⟩)
                            · first
                              | (simp (disch := omega) only [← nI_0, nI_leI, nI_ltI, nI_eq, not_true_eq_false, not_false_eq_true] at h29; done)
                              | (simp (disch := omega) only [← nI_0, nI_leI, nI_ltI, nI_eq, not_true_eq_false, not_false_eq_true] at h29; omega)
                              | contradiction
                              | exact absurd h29 (Int32.not_lt.mpr (by assumption))
                              | exact absurd h29 (Int32.not_le.mpr (by assumption))
                              | exact absurd h29 (by decide)
                              | exact absurd (by decide) h29
                              | ( try simp (disch := omega) only [← nI_0, nI_leI, nI_ltI, nI_eq, not_true_eq_false, not_false_eq_true] at h29
                                  (try have h29b := zbit_n0.mp h29); (try have h29b := zbit_p0.mp h29)
                                  refine z_iload_1 d_Tf_mean_32 ?_
                                  refine z_iload_2 d_Tf_mean_33 ?_
                                  first | refine z_iaddN d_Tf_mean_34 ?_ | refine z_iadd d_Tf_mean_34 ?_
                                  refine z_iconst (a := nI 1) d_Tf_mean_35 (by decide) ?_
                                  first | refine z_isubN d_Tf_mean_36 (by omega) ?_ | refine z_isub d_Tf_mean_36 ?_
                                  refine z_sipush (a := nI 9999) d_Tf_mean_37 (by decide) ?_
                                  refine z_icmp_le (tgt := 49) d_Tf_mean_40 (by decide) (fun h40 => ?_) (fun h40 => ?_)
                                  · first
                                    | (simp (disch := omega) only [← nI_0, nI_leI, nI_ltI, nI_eq, not_true_eq_false, not_false_eq_true] at h40; done)
                                    | (simp (disch := omega) only [← nI_0, nI_leI, nI_ltI, nI_eq, not_true_eq_false, not_false_eq_true] at h40; omega)
                                    | contradiction
                                    | exact absurd h40 (Int32.not_lt.mpr (by assumption))
                                    | exact absurd h40 (Int32.not_le.mpr (by assumption))
                                    | exact absurd h40 (by decide)
                                    | exact absurd (by decide) h40
                                    | ( try simp (disch := omega) only [← nI_0, nI_leI, nI_ltI, nI_eq, not_true_eq_false, not_false_eq_true] at h40
                                        (try have h40b := zbit_n0.mp h40); (try have h40b := zbit_p0.mp h40)
                                        fail)
                                  · first
                                    | (simp (disch := omega) only [← nI_0, nI_leI, nI_ltI, nI_eq, not_true_eq_false, not_false_eq_true] at h40; done)
                                    | (simp (disch := omega) only [← nI_0, nI_leI, nI_ltI, nI_eq, not_true_eq_false, not_false_eq_true] at h40; omega)
                                    | contradiction
                                    | exact absurd h40 (Int32.not_lt.mpr (by assumption))
                                    | exact absurd h40 (Int32.not_le.mpr (by assumption))
                                    | exact absurd h40 (by decide)
                                    | exact absurd (by decide) h40
                                    | ( try simp (disch := omega) only [← nI_0, nI_leI, nI_ltI, nI_eq, not_true_eq_false, not_false_eq_true] at h40
                                        (try have h40b := zbit_n0.mp h40); (try have h40b := zbit_p0.mp h40)
                                        refine z_aload_0 d_Tf_mean_43 ?_
                                        refine z_iconst (a := nI 5) d_Tf_mean_44 (by decide) ?_
                                        refine z_Vi1 d_Tf_mean_45 k_Tf_119 (by first | assumption | exact zS0_at (by assumption) (by omega) | exact zS0_at rfl (by omega)) (t_Tf_refuse (by assumption)) ⟨Nat.le_of_ble_eq_true rfl, Nat.le_of_ble_eq_true rfl, Nat.le_of_ble_eq_true rfl, Nat.le_of_ble_eq_true rfl⟩ (Nat.le_of_ble_eq_true rfl) ?_
                                        intro r w hq
                                        obtain ⟨rfl, rfl⟩ := hq
                                        refine z_retz d_Tf_mean_48 (by first | exact zb0 | exact zb1 | assumption) ?_
                                        exact ⟨rfl, cW_0⟩))))))
  · refine z_iload_2 d_Tf_mean_0 ?_
    refine z_iconst (a := nI 1) d_Tf_mean_1 (by decide) ?_
    refine z_icmp_lt (tgt := 11) d_Tf_mean_2 (by decide) (fun h2 => ?_) (fun h2 => ?_)
    · first
      | (simp (disch := omega) only [← nI_0, nI_leI, nI_ltI, nI_eq, not_true_eq_false, not_false_eq_true] at h2; done)
      | (simp (disch := omega) only [← nI_0, nI_leI, nI_ltI, nI_eq, not_true_eq_false, not_false_eq_true] at h2; omega)
      | contradiction
      | exact absurd h2 (Int32.not_lt.mpr (by assumption))
      | exact absurd h2 (Int32.not_le.mpr (by assumption))
      | exact absurd h2 (by decide)
      | exact absurd (by decide) h2
      | ( try simp (disch := omega) only [← nI_0, nI_leI, nI_ltI, nI_eq, not_true_eq_false, not_false_eq_true] at h2
          (try have h2b := zbit_n0.mp h2); (try have h2b := zbit_p0.mp h2)
          refine z_iconst (a := nI 1) d_Tf_mean_11 (by decide) ?_
          refine z_goto (tgt := 16) d_Tf_mean_12 (by decide) ?_
          first | refine z_istore_3 d_Tf_mean_16 rfl ?_ | (refine z_forget_2 ?_; refine z_istore_3 d_Tf_mean_16 rfl ?_)
          refine z_iload_3 d_Tf_mean_17 ?_
          refine z_if_ne (tgt := 43) d_Tf_mean_18 (by decide) (fun h18 => ?_) (fun h18 => ?_)
          · first
            | (simp (disch := omega) only [← nI_0, nI_leI, nI_ltI, nI_eq, not_true_eq_false, not_false_eq_true] at h18; done)
            | (simp (disch := omega) only [← nI_0, nI_leI, nI_ltI, nI_eq, not_true_eq_false, not_false_eq_true] at h18; omega)
            | contradiction
            | exact absurd h18 (Int32.not_lt.mpr (by assumption))
            | exact absurd h18 (Int32.not_le.mpr (by assumption))
            | exact absurd h18 (by decide)
            | exact absurd (by decide) h18
            | ( try simp (disch := omega) only [← nI_0, nI_leI, nI_ltI, nI_eq, not_true_eq_false, not_false_eq_true] at h18
                (try have h18b := zbit_n0.mp h18); (try have h18b := zbit_p0.mp h18)
                refine z_aload_0 d_Tf_mean_43 ?_
                refine z_iconst (a := nI 5) d_Tf_mean_44 (by decide) ?_
                refine z_Vi1 d_Tf_mean_45 k_Tf_119 (by first | assumption | exact zS0_at (by assumption) (by omega) | exact zS0_at rfl (by omega)) (t_Tf_refuse (by assumption)) ⟨Nat.le_of_ble_eq_true rfl, Nat.le_of_ble_eq_true rfl, Nat.le_of_ble_eq_true rfl, Nat.le_of_ble_eq_true rfl⟩ (Nat.le_of_ble_eq_true rfl) ?_
                intro r w hq
                obtain ⟨rfl, rfl⟩ := hq
                refine z_retz d_Tf_mean_48 (by first | exact zb0 | exact zb1 | assumption) ?_
                exact ⟨rfl, cW_0⟩)
          · first
            | (simp (disch := omega) only [← nI_0, nI_leI, nI_ltI, nI_eq, not_true_eq_false, not_false_eq_true] at h18; done)
            | (simp (disch := omega) only [← nI_0, nI_leI, nI_ltI, nI_eq, not_true_eq_false, not_false_eq_true] at h18; omega)
            | contradiction
            | exact absurd h18 (Int32.not_lt.mpr (by assumption))
            | exact absurd h18 (Int32.not_le.mpr (by assumption))
            | exact absurd h18 (by decide)
            | exact absurd (by decide) h18
            | ( try simp (disch := omega) only [← nI_0, nI_leI, nI_ltI, nI_eq, not_true_eq_false, not_false_eq_true] at h18
                (try have h18b := zbit_n0.mp h18); (try have h18b := zbit_p0.mp h18)
                refine z_iload_1 d_Tf_mean_21 ?_
                refine z_if_lt (tgt := 43) d_Tf_mean_22 (by decide) (fun h22 => ?_) (fun h22 => ?_)
                · first
                  | (simp (disch := omega) only [← nI_0, nI_leI, nI_ltI, nI_eq, not_true_eq_false, not_false_eq_true] at h22; done)
                  | (simp (disch := omega) only [← nI_0, nI_leI, nI_ltI, nI_eq, not_true_eq_false, not_false_eq_true] at h22; omega)
                  | contradiction
                  | exact absurd h22 (Int32.not_lt.mpr (by assumption))
                  | exact absurd h22 (Int32.not_le.mpr (by assumption))
                  | exact absurd h22 (by decide)
                  | exact absurd (by decide) h22
                  | ( try simp (disch := omega) only [← nI_0, nI_leI, nI_ltI, nI_eq, not_true_eq_false, not_false_eq_true] at h22
                      (try have h22b := zbit_n0.mp h22); (try have h22b := zbit_p0.mp h22)
                      refine z_aload_0 d_Tf_mean_43 ?_
                      refine z_iconst (a := nI 5) d_Tf_mean_44 (by decide) ?_
                      refine z_Vi1 d_Tf_mean_45 k_Tf_119 (by first | assumption | exact zS0_at (by assumption) (by omega) | exact zS0_at rfl (by omega)) (t_Tf_refuse (by assumption)) ⟨Nat.le_of_ble_eq_true rfl, Nat.le_of_ble_eq_true rfl, Nat.le_of_ble_eq_true rfl, Nat.le_of_ble_eq_true rfl⟩ (Nat.le_of_ble_eq_true rfl) ?_
                      intro r w hq
                      obtain ⟨rfl, rfl⟩ := hq
                      refine z_retz d_Tf_mean_48 (by first | exact zb0 | exact zb1 | assumption) ?_
                      exact ⟨rfl, cW_0⟩)
                · first
                  | (simp (disch := omega) only [← nI_0, nI_leI, nI_ltI, nI_eq, not_true_eq_false, not_false_eq_true] at h22; done)
                  | (simp (disch := omega) only [← nI_0, nI_leI, nI_ltI, nI_eq, not_true_eq_false, not_false_eq_true] at h22; omega)
                  | contradiction
                  | exact absurd h22 (Int32.not_lt.mpr (by assumption))
                  | exact absurd h22 (Int32.not_le.mpr (by assumption))
                  | exact absurd h22 (by decide)
                  | exact absurd (by decide) h22
                  | ( try simp (disch := omega) only [← nI_0, nI_leI, nI_ltI, nI_eq, not_true_eq_false, not_false_eq_true] at h22
                      (try have h22b := zbit_n0.mp h22); (try have h22b := zbit_p0.mp h22)
                      refine z_iload_1 d_Tf_mean_25 ?_
                      refine z_sipush (a := nI 9999) d_Tf_mean_26 (by decide) ?_
                      refine z_icmp_gt (tgt := 43) d_Tf_mean_29 (by decide) (fun h29 => ?_) (fun h29 => ?_)
                      · first
                        | (simp (disch := omega) only [← nI_0, nI_leI, nI_ltI, nI_eq, not_true_eq_false, not_false_eq_true] at h29; done)
                        | (simp (disch := omega) only [← nI_0, nI_leI, nI_ltI, nI_eq, not_true_eq_false, not_false_eq_true] at h29; omega)
                        | contradiction
                        | exact absurd h29 (Int32.not_lt.mpr (by assumption))
                        | exact absurd h29 (Int32.not_le.mpr (by assumption))
                        | exact absurd h29 (by decide)
                        | exact absurd (by decide) h29
                        | ( try simp (disch := omega) only [← nI_0, nI_leI, nI_ltI, nI_eq, not_true_eq_false, not_false_eq_true] at h29
                            (try have h29b := zbit_n0.mp h29); (try have h29b := zbit_p0.mp h29)
                            refine z_aload_0 d_Tf_mean_43 ?_
                            refine z_iconst (a := nI 5) d_Tf_mean_44 (by decide) ?_
                            refine z_Vi1 d_Tf_mean_45 k_Tf_119 (by first | assumption | exact zS0_at (by assumption) (by omega) | exact zS0_at rfl (by omega)) (t_Tf_refuse (by assumption)) ⟨Nat.le_of_ble_eq_true rfl, Nat.le_of_ble_eq_true rfl, Nat.le_of_ble_eq_true rfl, Nat.le_of_ble_eq_true rfl⟩ (Nat.le_of_ble_eq_true rfl) ?_
                            intro r w hq
                            obtain ⟨rfl, rfl⟩ := hq
                            refine z_retz d_Tf_mean_48 (by first | exact zb0 | exact zb1 | assumption) ?_
                            exact ⟨rfl, cW_0⟩)
                      · first
                        | (simp (disch := omega) only [← nI_0, nI_leI, nI_ltI, nI_eq, not_true_eq_false, not_false_eq_true] at h29; done)
                        | (simp (disch := omega) only [← nI_0, nI_leI, nI_ltI, nI_eq, not_true_eq_false, not_false_eq_true] at h29; omega)
                        | contradiction
                        | exact absurd h29 (Int32.not_lt.mpr (by assumption))
                        | exact absurd h29 (Int32.not_le.mpr (by assumption))
                        | exact absurd h29 (by decide)
                        | exact absurd (by decide) h29
                        | ( try simp (disch := omega) only [← nI_0, nI_leI, nI_ltI, nI_eq, not_true_eq_false, not_false_eq_true] at h29
                            (try have h29b := zbit_n0.mp h29); (try have h29b := zbit_p0.mp h29)
                            refine z_iload_1 d_Tf_mean_32 ?_
                            refine z_iload_2 d_Tf_mean_33 ?_
                            first | refine z_iaddN d_Tf_mean_34 ?_ | refine z_iadd d_Tf_mean_34 ?_
                            refine z_iconst (a := nI 1) d_Tf_mean_35 (by decide) ?_
                            first | refine z_isubN d_Tf_mean_36 (by omega) ?_ | refine z_isub d_Tf_mean_36 ?_
                            refine z_sipush (a := nI 9999) d_Tf_mean_37 (by decide) ?_
                            refine z_icmp_le (tgt := 49) d_Tf_mean_40 (by decide) (fun h40 => ?_) (fun h40 => ?_)
                            · first
                              | (simp (disch := omega) only [← nI_0, nI_leI, nI_ltI, nI_eq, not_true_eq_false, not_false_eq_true] at h40; done)
                              | (simp (disch := omega) only [← nI_0, nI_leI, nI_ltI, nI_eq, not_true_eq_false, not_false_eq_true] at h40; omega)
                              | contradiction
                              | exact absurd h40 (Int32.not_lt.mpr (by assumption))
                              | exact absurd h40 (Int32.not_le.mpr (by assumption))
                              | exact absurd h40 (by decide)
                              | exact absurd (by decide) h40
                              | ( try simp (disch := omega) only [← nI_0, nI_leI, nI_ltI, nI_eq, not_true_eq_false, not_false_eq_true] at h40
                                  (try have h40b := zbit_n0.mp h40); (try have h40b := zbit_p0.mp h40)
                                  fail)
                            · first
                              | (simp (disch := omega) only [← nI_0, nI_leI, nI_ltI, nI_eq, not_true_eq_false, not_false_eq_true] at h40; done)
                              | (simp (disch := omega) only [← nI_0, nI_leI, nI_ltI, nI_eq, not_true_eq_false, not_false_eq_true] at h40; omega)
                              | contradiction
                              | exact absurd h40 (Int32.not_lt.mpr (by assumption))
                              | exact absurd h40 (Int32.not_le.mpr (by assumption))
                              | exact absurd h40 (by decide)
                              | exact absurd (by decide) h40
                              | ( try simp (disch := omega) only [← nI_0, nI_leI, nI_ltI, nI_eq, not_true_eq_false, not_false_eq_true] at h40
                                  (try have h40b := zbit_n0.mp h40); (try have h40b := zbit_p0.mp h40)
                                  refine z_aload_0 d_Tf_mean_43 ?_
                                  refine z_iconst (a := nI 5) d_Tf_mean_44 (by decide) ?_
                                  refine z_Vi1 d_Tf_mean_45 k_Tf_119 (by first | assumption | exact zS0_at (by assumption) (by omega) | exact zS0_at rfl (by omega)) (t_Tf_refuse (by assumption)) ⟨Nat.le_of_ble_eq_true rfl, Nat.le_of_ble_eq_true rfl, Nat.le_of_ble_eq_true rfl, Nat.le_of_ble_eq_true rfl⟩ (Nat.le_of_ble_eq_true rfl) ?_
                                  intro r w hq
                                  obtain ⟨rfl, rfl⟩ := hq
                                  refine z_retz d_Tf_mean_48 (by first | exact zb0 | exact zb1 | assumption) ?_
                                  exact ⟨rfl, cW_0⟩)))))
    · first
      | (simp (disch := omega) only [← nI_0, nI_leI, nI_ltI, nI_eq, not_true_eq_false, not_false_eq_true] at h2; done)
      | (simp (disch := omega) only [← nI_0, nI_leI, nI_ltI, nI_eq, not_true_eq_false, not_false_eq_true] at h2; omega)
      | contradiction
      | exact absurd h2 (Int32.not_lt.mpr (by assumption))
      | exact absurd h2 (Int32.not_le.mpr (by assumption))
      | exact absurd h2 (by decide)
      | exact absurd (by decide) h2
      | ( try simp (disch := omega) only [← nI_0, nI_leI, nI_ltI, nI_eq, not_true_eq_false, not_false_eq_true] at h2
          (try have h2b := zbit_n0.mp h2); (try have h2b := zbit_p0.mp h2)
          refine z_iload_2 d_Tf_mean_5 ?_
          refine z_bipush (a := nI 20) d_Tf_mean_6 (by decide) ?_
          refine z_icmp_le (tgt := 15) d_Tf_mean_8 (by decide) (fun h8 => ?_) (fun h8 => ?_)
          · first
            | (simp (disch := omega) only [← nI_0, nI_leI, nI_ltI, nI_eq, not_true_eq_false, not_false_eq_true] at h8; done)
            | (simp (disch := omega) only [← nI_0, nI_leI, nI_ltI, nI_eq, not_true_eq_false, not_false_eq_true] at h8; omega)
            | contradiction
            | exact absurd h8 (Int32.not_lt.mpr (by assumption))
            | exact absurd h8 (Int32.not_le.mpr (by assumption))
            | exact absurd h8 (by decide)
            | exact absurd (by decide) h8
            | ( try simp (disch := omega) only [← nI_0, nI_leI, nI_ltI, nI_eq, not_true_eq_false, not_false_eq_true] at h8
                (try have h8b := zbit_n0.mp h8); (try have h8b := zbit_p0.mp h8)
                refine z_iconst (a := nI 0) d_Tf_mean_15 (by decide) ?_
                first | refine z_istore_3 d_Tf_mean_16 rfl ?_ | (refine z_forget_2 ?_; refine z_istore_3 d_Tf_mean_16 rfl ?_)
                refine z_iload_3 d_Tf_mean_17 ?_
                refine z_if_ne (tgt := 43) d_Tf_mean_18 (by decide) (fun h18 => ?_) (fun h18 => ?_)
                · first
                  | (simp (disch := omega) only [← nI_0, nI_leI, nI_ltI, nI_eq, not_true_eq_false, not_false_eq_true] at h18; done)
                  | (simp (disch := omega) only [← nI_0, nI_leI, nI_ltI, nI_eq, not_true_eq_false, not_false_eq_true] at h18; omega)
                  | contradiction
                  | exact absurd h18 (Int32.not_lt.mpr (by assumption))
                  | exact absurd h18 (Int32.not_le.mpr (by assumption))
                  | exact absurd h18 (by decide)
                  | exact absurd (by decide) h18
                  | ( try simp (disch := omega) only [← nI_0, nI_leI, nI_ltI, nI_eq, not_true_eq_false, not_false_eq_true] at h18
                      (try have h18b := zbit_n0.mp h18); (try have h18b := zbit_p0.mp h18)
                      refine z_aload_0 d_Tf_mean_43 ?_
                      refine z_iconst (a := nI 5) d_Tf_mean_44 (by decide) ?_
                      refine z_Vi1 d_Tf_mean_45 k_Tf_119 (by first | assumption | exact zS0_at (by assumption) (by omega) | exact zS0_at rfl (by omega)) (t_Tf_refuse (by assumption)) ⟨Nat.le_of_ble_eq_true rfl, Nat.le_of_ble_eq_true rfl, Nat.le_of_ble_eq_true rfl, Nat.le_of_ble_eq_true rfl⟩ (Nat.le_of_ble_eq_true rfl) ?_
                      intro r w hq
                      obtain ⟨rfl, rfl⟩ := hq
                      refine z_retz d_Tf_mean_48 (by first | exact zb0 | exact zb1 | assumption) ?_
                      exact ⟨rfl, cW_0⟩)
                · first
                  | (simp (disch := omega) only [← nI_0, nI_leI, nI_ltI, nI_eq, not_true_eq_false, not_false_eq_true] at h18; done)
                  | (simp (disch := omega) only [← nI_0, nI_leI, nI_ltI, nI_eq, not_true_eq_false, not_false_eq_true] at h18; omega)
                  | contradiction
                  | exact absurd h18 (Int32.not_lt.mpr (by assumption))
                  | exact absurd h18 (Int32.not_le.mpr (by assumption))
                  | exact absurd h18 (by decide)
                  | exact absurd (by decide) h18
                  | ( try simp (disch := omega) only [← nI_0, nI_leI, nI_ltI, nI_eq, not_true_eq_false, not_false_eq_true] at h18
                      (try have h18b := zbit_n0.mp h18); (try have h18b := zbit_p0.mp h18)
                      refine z_iload_1 d_Tf_mean_21 ?_
                      refine z_if_lt (tgt := 43) d_Tf_mean_22 (by decide) (fun h22 => ?_) (fun h22 => ?_)
                      · first
                        | (simp (disch := omega) only [← nI_0, nI_leI, nI_ltI, nI_eq, not_true_eq_false, not_false_eq_true] at h22; done)
                        | (simp (disch := omega) only [← nI_0, nI_leI, nI_ltI, nI_eq, not_true_eq_false, not_false_eq_true] at h22; omega)
                        | contradiction
                        | exact absurd h22 (Int32.not_lt.mpr (by assumption))
                        | exact absurd h22 (Int32.not_le.mpr (by assumption))
                        | exact absurd h22 (by decide)
                        | exact absurd (by decide) h22
                        | ( try simp (disch := omega) only [← nI_0, nI_leI, nI_ltI, nI_eq, not_true_eq_false, not_false_eq_true] at h22
                            (try have h22b := zbit_n0.mp h22); (try have h22b := zbit_p0.mp h22)
                            refine z_aload_0 d_Tf_mean_43 ?_
                            refine z_iconst (a := nI 5) d_Tf_mean_44 (by decide) ?_
                            refine z_Vi1 d_Tf_mean_45 k_Tf_119 (by first | assumption | exact zS0_at (by assumption) (by omega) | exact zS0_at rfl (by omega)) (t_Tf_refuse (by assumption)) ⟨Nat.le_of_ble_eq_true rfl, Nat.le_of_ble_eq_true rfl, Nat.le_of_ble_eq_true rfl, Nat.le_of_ble_eq_true rfl⟩ (Nat.le_of_ble_eq_true rfl) ?_
                            intro r w hq
                            obtain ⟨rfl, rfl⟩ := hq
                            refine z_retz d_Tf_mean_48 (by first | exact zb0 | exact zb1 | assumption) ?_
                            exact ⟨rfl, cW_0⟩)
                      · first
                        | (simp (disch := omega) only [← nI_0, nI_leI, nI_ltI, nI_eq, not_true_eq_false, not_false_eq_true] at h22; done)
                        | (simp (disch := omega) only [← nI_0, nI_leI, nI_ltI, nI_eq, not_true_eq_false, not_false_eq_true] at h22; omega)
                        | contradiction
                        | exact absurd h22 (Int32.not_lt.mpr (by assumption))
                        | exact absurd h22 (Int32.not_le.mpr (by assumption))
                        | exact absurd h22 (by decide)
                        | exact absurd (by decide) h22
                        | ( try simp (disch := omega) only [← nI_0, nI_leI, nI_ltI, nI_eq, not_true_eq_false, not_false_eq_true] at h22
                            (try have h22b := zbit_n0.mp h22); (try have h22b := zbit_p0.mp h22)
                            refine z_iload_1 d_Tf_mean_25 ?_
                            refine z_sipush (a := nI 9999) d_Tf_mean_26 (by decide) ?_
                            refine z_icmp_gt (tgt := 43) d_Tf_mean_29 (by decide) (fun h29 => ?_) (fun h29 => ?_)
                            · first
                              | (simp (disch := omega) only [← nI_0, nI_leI, nI_ltI, nI_eq, not_true_eq_false, not_false_eq_true] at h29; done)
                              | (simp (disch := omega) only [← nI_0, nI_leI, nI_ltI, nI_eq, not_true_eq_false, not_false_eq_true] at h29; omega)
                              | contradiction
                              | exact absurd h29 (Int32.not_lt.mpr (by assumption))
                              | exact absurd h29 (Int32.not_le.mpr (by assumption))
                              | exact absurd h29 (by decide)
                              | exact absurd (by decide) h29
                              | ( try simp (disch := omega) only [← nI_0, nI_leI, nI_ltI, nI_eq, not_true_eq_false, not_false_eq_true] at h29
                                  (try have h29b := zbit_n0.mp h29); (try have h29b := zbit_p0.mp h29)
                                  refine z_aload_0 d_Tf_mean_43 ?_
                                  refine z_iconst (a := nI 5) d_Tf_mean_44 (by decide) ?_
                                  refine z_Vi1 d_Tf_mean_45 k_Tf_119 (by first | assumption | exact zS0_at (by assumption) (by omega) | exact zS0_at rfl (by omega)) (t_Tf_refuse (by assumption)) ⟨Nat.le_of_ble_eq_true rfl, Nat.le_of_ble_eq_true rfl, Nat.le_of_ble_eq_true rfl, Nat.le_of_ble_eq_true rfl⟩ (Nat.le_of_ble_eq_true rfl) ?_
                                  intro r w hq
                                  obtain ⟨rfl, rfl⟩ := hq
                                  refine z_retz d_Tf_mean_48 (by first | exact zb0 | exact zb1 | assumption) ?_
                                  exact ⟨rfl, cW_0⟩)
                            · first
                              | (simp (disch := omega) only [← nI_0, nI_leI, nI_ltI, nI_eq, not_true_eq_false, not_false_eq_true] at h29; done)
                              | (simp (disch := omega) only [← nI_0, nI_leI, nI_ltI, nI_eq, not_true_eq_false, not_false_eq_true] at h29; omega)
                              | contradiction
                              | exact absurd h29 (Int32.not_lt.mpr (by assumption))
                              | exact absurd h29 (Int32.not_le.mpr (by assumption))
                              | exact absurd h29 (by decide)
                              | exact absurd (by decide) h29
                              | ( try simp (disch := omega) only [← nI_0, nI_leI, nI_ltI, nI_eq, not_true_eq_false, not_false_eq_true] at h29
                                  (try have h29b := zbit_n0.mp h29); (try have h29b := zbit_p0.mp h29)
                                  refine z_iload_1 d_Tf_mean_32 ?_
                                  refine z_iload_2 d_Tf_mean_33 ?_
                                  first | refine z_iaddN d_Tf_mean_34 ?_ | refine z_iadd d_Tf_mean_34 ?_
                                  refine z_iconst (a := nI 1) d_Tf_mean_35 (by decide) ?_
                                  first | refine z_isubN d_Tf_mean_36 (by omega) ?_ | refine z_isub d_Tf_mean_36 ?_
                                  refine z_sipush (a := nI 9999) d_Tf_mean_37 (by decide) ?_
                                  refine z_icmp_le (tgt := 49) d_Tf_mean_40 (by decide) (fun h40 => ?_) (fun h40 => ?_)
                                  · first
                                    | (simp (disch := omega) only [← nI_0, nI_leI, nI_ltI, nI_eq, not_true_eq_false, not_false_eq_true] at h40; done)
                                    | (simp (disch := omega) only [← nI_0, nI_leI, nI_ltI, nI_eq, not_true_eq_false, not_false_eq_true] at h40; omega)
                                    | contradiction
                                    | exact absurd h40 (Int32.not_lt.mpr (by assumption))
                                    | exact absurd h40 (Int32.not_le.mpr (by assumption))
                                    | exact absurd h40 (by decide)
                                    | exact absurd (by decide) h40
                                    | ( try simp (disch := omega) only [← nI_0, nI_leI, nI_ltI, nI_eq, not_true_eq_false, not_false_eq_true] at h40
                                        (try have h40b := zbit_n0.mp h40); (try have h40b := zbit_p0.mp h40)
                                        fail)
                                  · first
                                    | (simp (disch := omega) only [← nI_0, nI_leI, nI_ltI, nI_eq, not_true_eq_false, not_false_eq_true] at h40; done)
                                    | (simp (disch := omega) only [← nI_0, nI_leI, nI_ltI, nI_eq, not_true_eq_false, not_false_eq_true] at h40; omega)
                                    | contradiction
                                    | exact absurd h40 (Int32.not_lt.mpr (by assumption))
                                    | exact absurd h40 (Int32.not_le.mpr (by assumption))
                                    | exact absurd h40 (by decide)
                                    | exact absurd (by decide) h40
                                    | ( try simp (disch := omega) only [← nI_0, nI_leI, nI_ltI, nI_eq, not_true_eq_false, not_false_eq_true] at h40
                                        (try have h40b := zbit_n0.mp h40); (try have h40b := zbit_p0.mp h40)
                                        refine z_aload_0 d_Tf_mean_43 ?_
                                        refine z_iconst (a := nI 5) d_Tf_mean_44 (by decide) ?_
                                        refine z_Vi1 d_Tf_mean_45 k_Tf_119 (by first | assumption | exact zS0_at (by assumption) (by omega) | exact zS0_at rfl (by omega)) (t_Tf_refuse (by assumption)) ⟨Nat.le_of_ble_eq_true rfl, Nat.le_of_ble_eq_true rfl, Nat.le_of_ble_eq_true rfl, Nat.le_of_ble_eq_true rfl⟩ (Nat.le_of_ble_eq_true rfl) ?_
                                        intro r w hq
                                        obtain ⟨rfl, rfl⟩ := hq
                                        refine z_retz d_Tf_mean_48 (by first | exact zb0 | exact zb1 | assumption) ?_
                                        exact ⟨rfl, cW_0⟩)))))
          · first
            | (simp (disch := omega) only [← nI_0, nI_leI, nI_ltI, nI_eq, not_true_eq_false, not_false_eq_true] at h8; done)
            | (simp (disch := omega) only [← nI_0, nI_leI, nI_ltI, nI_eq, not_true_eq_false, not_false_eq_true] at h8; omega)
            | contradiction
            | exact absurd h8 (Int32.not_lt.mpr (by assumption))
            | exact absurd h8 (Int32.not_le.mpr (by assumption))
            | exact absurd h8 (by decide)
            | exact absurd (by decide) h8
            | ( try simp (disch := omega) only [← nI_0, nI_leI, nI_ltI, nI_eq, not_true_eq_false, not_false_eq_true] at h8
                (try have h8b := zbit_n0.mp h8); (try have h8b := zbit_p0.mp h8)
                refine z_iconst (a := nI 1) d_Tf_mean_11 (by decide) ?_
                refine z_goto (tgt := 16) d_Tf_mean_12 (by decide) ?_
                first | refine z_istore_3 d_Tf_mean_16 rfl ?_ | (refine z_forget_2 ?_; refine z_istore_3 d_Tf_mean_16 rfl ?_)
                refine z_iload_3 d_Tf_mean_17 ?_
                refine z_if_ne (tgt := 43) d_Tf_mean_18 (by decide) (fun h18 => ?_) (fun h18 => ?_)
                · first
                  | (simp (disch := omega) only [← nI_0, nI_leI, nI_ltI, nI_eq, not_true_eq_false, not_false_eq_true] at h18; done)
                  | (simp (disch := omega) only [← nI_0, nI_leI, nI_ltI, nI_eq, not_true_eq_false, not_false_eq_true] at h18; omega)
                  | contradiction
                  | exact absurd h18 (Int32.not_lt.mpr (by assumption))
                  | exact absurd h18 (Int32.not_le.mpr (by assumption))
                  | exact absurd h18 (by decide)
                  | exact absurd (by decide) h18
                  | ( try simp (disch := omega) only [← nI_0, nI_leI, nI_ltI, nI_eq, not_true_eq_false, not_false_eq_true] at h18
                      (try have h18b := zbit_n0.mp h18); (try have h18b := zbit_p0.mp h18)
                      refine z_aload_0 d_Tf_mean_43 ?_
                      refine z_iconst (a := nI 5) d_Tf_mean_44 (by decide) ?_
                      refine z_Vi1 d_Tf_mean_45 k_Tf_119 (by first | assumption | exact zS0_at (by assumption) (by omega) | exact zS0_at rfl (by omega)) (t_Tf_refuse (by assumption)) ⟨Nat.le_of_ble_eq_true rfl, Nat.le_of_ble_eq_true rfl, Nat.le_of_ble_eq_true rfl, Nat.le_of_ble_eq_true rfl⟩ (Nat.le_of_ble_eq_true rfl) ?_
                      intro r w hq
                      obtain ⟨rfl, rfl⟩ := hq
                      refine z_retz d_Tf_mean_48 (by first | exact zb0 | exact zb1 | assumption) ?_
                      exact ⟨rfl, cW_0⟩)
                · first
                  | (simp (disch := omega) only [← nI_0, nI_leI, nI_ltI, nI_eq, not_true_eq_false, not_false_eq_true] at h18; done)
                  | (simp (disch := omega) only [← nI_0, nI_leI, nI_ltI, nI_eq, not_true_eq_false, not_false_eq_true] at h18; omega)
                  | contradiction
                  | exact absurd h18 (Int32.not_lt.mpr (by assumption))
                  | exact absurd h18 (Int32.not_le.mpr (by assumption))
                  | exact absurd h18 (by decide)
                  | exact absurd (by decide) h18
                  | ( try simp (disch := omega) only [← nI_0, nI_leI, nI_ltI, nI_eq, not_true_eq_false, not_false_eq_true] at h18
                      (try have h18b := zbit_n0.mp h18); (try have h18b := zbit_p0.mp h18)
                      refine z_iload_1 d_Tf_mean_21 ?_
                      refine z_if_lt (tgt := 43) d_Tf_mean_22 (by decide) (fun h22 => ?_) (fun h22 => ?_)
                      · first
                        | (simp (disch := omega) only [← nI_0, nI_leI, nI_ltI, nI_eq, not_true_eq_false, not_false_eq_true] at h22; done)
                        | (simp (disch := omega) only [← nI_0, nI_leI, nI_ltI, nI_eq, not_true_eq_false, not_false_eq_true] at h22; omega)
                        | contradiction
                        | exact absurd h22 (Int32.not_lt.mpr (by assumption))
                        | exact absurd h22 (Int32.not_le.mpr (by assumption))
                        | exact absurd h22 (by decide)
                        | exact absurd (by decide) h22
                        | ( try simp (disch := omega) only [← nI_0, nI_leI, nI_ltI, nI_eq, not_true_eq_false, not_false_eq_true] at h22
                            (try have h22b := zbit_n0.mp h22); (try have h22b := zbit_p0.mp h22)
                            refine z_aload_0 d_Tf_mean_43 ?_
                            refine z_iconst (a := nI 5) d_Tf_mean_44 (by decide) ?_
                            refine z_Vi1 d_Tf_mean_45 k_Tf_119 (by first | assumption | exact zS0_at (by assumption) (by omega) | exact zS0_at rfl (by omega)) (t_Tf_refuse (by assumption)) ⟨Nat.le_of_ble_eq_true rfl, Nat.le_of_ble_eq_true rfl, Nat.le_of_ble_eq_true rfl, Nat.le_of_ble_eq_true rfl⟩ (Nat.le_of_ble_eq_true rfl) ?_
                            intro r w hq
                            obtain ⟨rfl, rfl⟩ := hq
                            refine z_retz d_Tf_mean_48 (by first | exact zb0 | exact zb1 | assumption) ?_
                            exact ⟨rfl, cW_0⟩)
                      · first
                        | (simp (disch := omega) only [← nI_0, nI_leI, nI_ltI, nI_eq, not_true_eq_false, not_false_eq_true] at h22; done)
                        | (simp (disch := omega) only [← nI_0, nI_leI, nI_ltI, nI_eq, not_true_eq_false, not_false_eq_true] at h22; omega)
                        | contradiction
                        | exact absurd h22 (Int32.not_lt.mpr (by assumption))
                        | exact absurd h22 (Int32.not_le.mpr (by assumption))
                        | exact absurd h22 (by decide)
                        | exact absurd (by decide) h22
                        | ( try simp (disch := omega) only [← nI_0, nI_leI, nI_ltI, nI_eq, not_true_eq_false, not_false_eq_true] at h22
                            (try have h22b := zbit_n0.mp h22); (try have h22b := zbit_p0.mp h22)
                            refine z_iload_1 d_Tf_mean_25 ?_
                            refine z_sipush (a := nI 9999) d_Tf_mean_26 (by decide) ?_
                            refine z_icmp_gt (tgt := 43) d_Tf_mean_29 (by decide) (fun h29 => ?_) (fun h29 => ?_)
                            · first
                              | (simp (disch := omega) only [← nI_0, nI_leI, nI_ltI, nI_eq, not_true_eq_false, not_false_eq_true] at h29; done)
                              | (simp (disch := omega) only [← nI_0, nI_leI, nI_ltI, nI_eq, not_true_eq_false, not_false_eq_true] at h29; omega)
                              | contradiction
                              | exact absurd h29 (Int32.not_lt.mpr (by assumption))
                              | exact absurd h29 (Int32.not_le.mpr (by assumption))
                              | exact absurd h29 (by decide)
                              | exact absurd (by decide) h29
                              | ( try simp (disch := omega) only [← nI_0, nI_leI, nI_ltI, nI_eq, not_true_eq_false, not_false_eq_true] at h29
                                  (try have h29b := zbit_n0.mp h29); (try have h29b := zbit_p0.mp h29)
                                  refine z_aload_0 d_Tf_mean_43 ?_
                                  refine z_iconst (a := nI 5) d_Tf_mean_44 (by decide) ?_
                                  refine z_Vi1 d_Tf_mean_45 k_Tf_119 (by first | assumption | exact zS0_at (by assumption) (by omega) | exact zS0_at rfl (by omega)) (t_Tf_refuse (by assumption)) ⟨Nat.le_of_ble_eq_true rfl, Nat.le_of_ble_eq_true rfl, Nat.le_of_ble_eq_true rfl, Nat.le_of_ble_eq_true rfl⟩ (Nat.le_of_ble_eq_true rfl) ?_
                                  intro r w hq
                                  obtain ⟨rfl, rfl⟩ := hq
                                  refine z_retz d_Tf_mean_48 (by first | exact zb0 | exact zb1 | assumption) ?_
                                  exact ⟨rfl, cW_0⟩)
                            · first
                              | (simp (disch := omega) only [← nI_0, nI_leI, nI_ltI, nI_eq, not_true_eq_false, not_false_eq_true] at h29; done)
                              | (simp (disch := omega) only [← nI_0, nI_leI, nI_ltI, nI_eq, not_true_eq_false, not_false_eq_true] at h29; omega)
                              | contradiction
                              | exact absurd h29 (Int32.not_lt.mpr (by assumption))
                              | exact absurd h29 (Int32.not_le.mpr (by assumption))
                              | exact absurd h29 (by decide)
                              | exact absurd (by decide) h29
                              | ( try simp (disch := omega) only [← nI_0, nI_leI, nI_ltI, nI_eq, not_true_eq_false, not_false_eq_true] at h29
                                  (try have h29b := zbit_n0.mp h29); (try have h29b := zbit_p0.mp h29)
                                  refine z_iload_1 d_Tf_mean_32 ?_
                                  refine z_iload_2 d_Tf_mean_33 ?_
                                  first | refine z_iaddN d_Tf_mean_34 ?_ | refine z_iadd d_Tf_mean_34 ?_
                                  refine z_iconst (a := nI 1) d_Tf_mean_35 (by decide) ?_
                                  first | refine z_isubN d_Tf_mean_36 (by omega) ?_ | refine z_isub d_Tf_mean_36 ?_
                                  refine z_sipush (a := nI 9999) d_Tf_mean_37 (by decide) ?_
                                  refine z_icmp_le (tgt := 49) d_Tf_mean_40 (by decide) (fun h40 => ?_) (fun h40 => ?_)
                                  · first
                                    | (simp (disch := omega) only [← nI_0, nI_leI, nI_ltI, nI_eq, not_true_eq_false, not_false_eq_true] at h40; done)
                                    | (simp (disch := omega) only [← nI_0, nI_leI, nI_ltI, nI_eq, not_true_eq_false, not_false_eq_true] at h40; omega)
                                    | contradiction
                                    | exact absurd h40 (Int32.not_lt.mpr (by assumption))
                                    | exact absurd h40 (Int32.not_le.mpr (by assumption))
                                    | exact absurd h40 (by decide)
                                    | exact absurd (by decide) h40
                                    | ( try simp (disch := omega) only [← nI_0, nI_leI, nI_ltI, nI_eq, not_true_eq_false, not_false_eq_true] at h40
                                        (try have h40b := zbit_n0.mp h40); (try have h40b := zbit_p0.mp h40)
                                        fail)
                                  · first
                                    | (simp (disch := omega) only [← nI_0, nI_leI, nI_ltI, nI_eq, not_true_eq_false, not_false_eq_true] at h40; done)
                                    | (simp (disch := omega) only [← nI_0, nI_leI, nI_ltI, nI_eq, not_true_eq_false, not_false_eq_true] at h40; omega)
                                    | contradiction
                                    | exact absurd h40 (Int32.not_lt.mpr (by assumption))
                                    | exact absurd h40 (Int32.not_le.mpr (by assumption))
                                    | exact absurd h40 (by decide)
                                    | exact absurd (by decide) h40
                                    | ( try simp (disch := omega) only [← nI_0, nI_leI, nI_ltI, nI_eq, not_true_eq_false, not_false_eq_true] at h40
                                        (try have h40b := zbit_n0.mp h40); (try have h40b := zbit_p0.mp h40)
                                        refine z_aload_0 d_Tf_mean_43 ?_
                                        refine z_iconst (a := nI 5) d_Tf_mean_44 (by decide) ?_
                                        refine z_Vi1 d_Tf_mean_45 k_Tf_119 (by first | assumption | exact zS0_at (by assumption) (by omega) | exact zS0_at rfl (by omega)) (t_Tf_refuse (by assumption)) ⟨Nat.le_of_ble_eq_true rfl, Nat.le_of_ble_eq_true rfl, Nat.le_of_ble_eq_true rfl, Nat.le_of_ble_eq_true rfl⟩ (Nat.le_of_ble_eq_true rfl) ?_
                                        intro r w hq
                                        obtain ⟨rfl, rfl⟩ := hq
                                        refine z_retz d_Tf_mean_48 (by first | exact zb0 | exact zb1 | assumption) ?_
                                        exact ⟨rfl, cW_0⟩))))))
  · refine z_iload_2 d_Tf_mean_0 ?_
    refine z_iconst (a := nI 1) d_Tf_mean_1 (by decide) ?_
    refine z_icmp_lt (tgt := 11) d_Tf_mean_2 (by decide) (fun h2 => ?_) (fun h2 => ?_)
    · first
      | (simp (disch := omega) only [← nI_0, nI_leI, nI_ltI, nI_eq, not_true_eq_false, not_false_eq_true] at h2; done)
      | (simp (disch := omega) only [← nI_0, nI_leI, nI_ltI, nI_eq, not_true_eq_false, not_false_eq_true] at h2; omega)
      | contradiction
      | exact absurd h2 (Int32.not_lt.mpr (by assumption))
      | exact absurd h2 (Int32.not_le.mpr (by assumption))
      | exact absurd h2 (by decide)
      | exact absurd (by decide) h2
      | ( try simp (disch := omega) only [← nI_0, nI_leI, nI_ltI, nI_eq, not_true_eq_false, not_false_eq_true] at h2
          (try have h2b := zbit_n0.mp h2); (try have h2b := zbit_p0.mp h2)
          refine z_iconst (a := nI 1) d_Tf_mean_11 (by decide) ?_
          refine z_goto (tgt := 16) d_Tf_mean_12 (by decide) ?_
          first | refine z_istore_3 d_Tf_mean_16 rfl ?_ | (refine z_forget_2 ?_; refine z_istore_3 d_Tf_mean_16 rfl ?_)
          refine z_iload_3 d_Tf_mean_17 ?_
          refine z_if_ne (tgt := 43) d_Tf_mean_18 (by decide) (fun h18 => ?_) (fun h18 => ?_)
          · first
            | (simp (disch := omega) only [← nI_0, nI_leI, nI_ltI, nI_eq, not_true_eq_false, not_false_eq_true] at h18; done)
            | (simp (disch := omega) only [← nI_0, nI_leI, nI_ltI, nI_eq, not_true_eq_false, not_false_eq_true] at h18; omega)
            | contradiction
            | exact absurd h18 (Int32.not_lt.mpr (by assumption))
            | exact absurd h18 (Int32.not_le.mpr (by assumption))
            | exact absurd h18 (by decide)
            | exact absurd (by decide) h18
            | ( try simp (disch := omega) only [← nI_0, nI_leI, nI_ltI, nI_eq, not_true_eq_false, not_false_eq_true] at h18
                (try have h18b := zbit_n0.mp h18); (try have h18b := zbit_p0.mp h18)
                refine z_aload_0 d_Tf_mean_43 ?_
                refine z_iconst (a := nI 5) d_Tf_mean_44 (by decide) ?_
                refine z_Vi1 d_Tf_mean_45 k_Tf_119 (by first | assumption | exact zS0_at (by assumption) (by omega) | exact zS0_at rfl (by omega)) (t_Tf_refuse (by assumption)) ⟨Nat.le_of_ble_eq_true rfl, Nat.le_of_ble_eq_true rfl, Nat.le_of_ble_eq_true rfl, Nat.le_of_ble_eq_true rfl⟩ (Nat.le_of_ble_eq_true rfl) ?_
                intro r w hq
                obtain ⟨rfl, rfl⟩ := hq
                refine z_retz d_Tf_mean_48 (by first | exact zb0 | exact zb1 | assumption) ?_
                exact ⟨rfl, cW_0⟩)
          · first
            | (simp (disch := omega) only [← nI_0, nI_leI, nI_ltI, nI_eq, not_true_eq_false, not_false_eq_true] at h18; done)
            | (simp (disch := omega) only [← nI_0, nI_leI, nI_ltI, nI_eq, not_true_eq_false, not_false_eq_true] at h18; omega)
            | contradiction
            | exact absurd h18 (Int32.not_lt.mpr (by assumption))
            | exact absurd h18 (Int32.not_le.mpr (by assumption))
            | exact absurd h18 (by decide)
            | exact absurd (by decide) h18
            | ( try simp (disch := omega) only [← nI_0, nI_leI, nI_ltI, nI_eq, not_true_eq_false, not_false_eq_true] at h18
                (try have h18b := zbit_n0.mp h18); (try have h18b := zbit_p0.mp h18)
                refine z_iload_1 d_Tf_mean_21 ?_
                refine z_if_lt (tgt := 43) d_Tf_mean_22 (by decide) (fun h22 => ?_) (fun h22 => ?_)
                · first
                  | (simp (disch := omega) only [← nI_0, nI_leI, nI_ltI, nI_eq, not_true_eq_false, not_false_eq_true] at h22; done)
                  | (simp (disch := omega) only [← nI_0, nI_leI, nI_ltI, nI_eq, not_true_eq_false, not_false_eq_true] at h22; omega)
                  | contradiction
                  | exact absurd h22 (Int32.not_lt.mpr (by assumption))
                  | exact absurd h22 (Int32.not_le.mpr (by assumption))
                  | exact absurd h22 (by decide)
                  | exact absurd (by decide) h22
                  | ( try simp (disch := omega) only [← nI_0, nI_leI, nI_ltI, nI_eq, not_true_eq_false, not_false_eq_true] at h22
                      (try have h22b := zbit_n0.mp h22); (try have h22b := zbit_p0.mp h22)
                      refine z_aload_0 d_Tf_mean_43 ?_
                      refine z_iconst (a := nI 5) d_Tf_mean_44 (by decide) ?_
                      refine z_Vi1 d_Tf_mean_45 k_Tf_119 (by first | assumption | exact zS0_at (by assumption) (by omega) | exact zS0_at rfl (by omega)) (t_Tf_refuse (by assumption)) ⟨Nat.le_of_ble_eq_true rfl, Nat.le_of_ble_eq_true rfl, Nat.le_of_ble_eq_true rfl, Nat.le_of_ble_eq_true rfl⟩ (Nat.le_of_ble_eq_true rfl) ?_
                      intro r w hq
                      obtain ⟨rfl, rfl⟩ := hq
                      refine z_retz d_Tf_mean_48 (by first | exact zb0 | exact zb1 | assumption) ?_
                      exact ⟨rfl, cW_0⟩)
                · first
                  | (simp (disch := omega) only [← nI_0, nI_leI, nI_ltI, nI_eq, not_true_eq_false, not_false_eq_true] at h22; done)
                  | (simp (disch := omega) only [← nI_0, nI_leI, nI_ltI, nI_eq, not_true_eq_false, not_false_eq_true] at h22; omega)
                  | contradiction
                  | exact absurd h22 (Int32.not_lt.mpr (by assumption))
                  | exact absurd h22 (Int32.not_le.mpr (by assumption))
                  | exact absurd h22 (by decide)
                  | exact absurd (by decide) h22
                  | ( try simp (disch := omega) only [← nI_0, nI_leI, nI_ltI, nI_eq, not_true_eq_false, not_false_eq_true] at h22
                      (try have h22b := zbit_n0.mp h22); (try have h22b := zbit_p0.mp h22)
                      refine z_iload_1 d_Tf_mean_25 ?_
                      refine z_sipush (a := nI 9999) d_Tf_mean_26 (by decide) ?_
                      refine z_icmp_gt (tgt := 43) d_Tf_mean_29 (by decide) (fun h29 => ?_) (fun h29 => ?_)
                      · first
                        | (simp (disch := omega) only [← nI_0, nI_leI, nI_ltI, nI_eq, not_true_eq_false, not_false_eq_true] at h29; done)
                        | (simp (disch := omega) only [← nI_0, nI_leI, nI_ltI, nI_eq, not_true_eq_false, not_false_eq_true] at h29; omega)
                        | contradiction
                        | exact absurd h29 (Int32.not_lt.mpr (by assumption))
                        | exact absurd h29 (Int32.not_le.mpr (by assumption))
                        | exact absurd h29 (by decide)
                        | exact absurd (by decide) h29
                        | ( try simp (disch := omega) only [← nI_0, nI_leI, nI_ltI, nI_eq, not_true_eq_false, not_false_eq_true] at h29
                            (try have h29b := zbit_n0.mp h29); (try have h29b := zbit_p0.mp h29)
                            refine z_aload_0 d_Tf_mean_43 ?_
                            refine z_iconst (a := nI 5) d_Tf_mean_44 (by decide) ?_
                            refine z_Vi1 d_Tf_mean_45 k_Tf_119 (by first | assumption | exact zS0_at (by assumption) (by omega) | exact zS0_at rfl (by omega)) (t_Tf_refuse (by assumption)) ⟨Nat.le_of_ble_eq_true rfl, Nat.le_of_ble_eq_true rfl, Nat.le_of_ble_eq_true rfl, Nat.le_of_ble_eq_true rfl⟩ (Nat.le_of_ble_eq_true rfl) ?_
                            intro r w hq
                            obtain ⟨rfl, rfl⟩ := hq
                            refine z_retz d_Tf_mean_48 (by first | exact zb0 | exact zb1 | assumption) ?_
                            exact ⟨rfl, cW_0⟩)
                      · first
                        | (simp (disch := omega) only [← nI_0, nI_leI, nI_ltI, nI_eq, not_true_eq_false, not_false_eq_true] at h29; done)
                        | (simp (disch := omega) only [← nI_0, nI_leI, nI_ltI, nI_eq, not_true_eq_false, not_false_eq_true] at h29; omega)
                        | contradiction
                        | exact absurd h29 (Int32.not_lt.mpr (by assumption))
                        | exact absurd h29 (Int32.not_le.mpr (by assumption))
                        | exact absurd h29 (by decide)
                        | exact absurd (by decide) h29
                        | ( try simp (disch := omega) only [← nI_0, nI_leI, nI_ltI, nI_eq, not_true_eq_false, not_false_eq_true] at h29
                            (try have h29b := zbit_n0.mp h29); (try have h29b := zbit_p0.mp h29)
                            refine z_iload_1 d_Tf_mean_32 ?_
                            refine z_iload_2 d_Tf_mean_33 ?_
                            first | refine z_iaddN d_Tf_mean_34 ?_ | refine z_iadd d_Tf_mean_34 ?_
                            refine z_iconst (a := nI 1) d_Tf_mean_35 (by decide) ?_
                            first | refine z_isubN d_Tf_mean_36 (by omega) ?_ | refine z_isub d_Tf_mean_36 ?_
                            refine z_sipush (a := nI 9999) d_Tf_mean_37 (by decide) ?_
                            refine z_icmp_le (tgt := 49) d_Tf_mean_40 (by decide) (fun h40 => ?_) (fun h40 => ?_)
                            · first
                              | (simp (disch := omega) only [← nI_0, nI_leI, nI_ltI, nI_eq, not_true_eq_false, not_false_eq_true] at h40; done)
                              | (simp (disch := omega) only [← nI_0, nI_leI, nI_ltI, nI_eq, not_true_eq_false, not_false_eq_true] at h40; omega)
                              | contradiction
                              | exact absurd h40 (Int32.not_lt.mpr (by assumption))
                              | exact absurd h40 (Int32.not_le.mpr (by assumption))
                              | exact absurd h40 (by decide)
                              | exact absurd (by decide) h40
                              | ( try simp (disch := omega) only [← nI_0, nI_leI, nI_ltI, nI_eq, not_true_eq_false, not_false_eq_true] at h40
                                  (try have h40b := zbit_n0.mp h40); (try have h40b := zbit_p0.mp h40)
                                  fail)
                            · first
                              | (simp (disch := omega) only [← nI_0, nI_leI, nI_ltI, nI_eq, not_true_eq_false, not_false_eq_true] at h40; done)
                              | (simp (disch := omega) only [← nI_0, nI_leI, nI_ltI, nI_eq, not_true_eq_false, not_false_eq_true] at h40; omega)
                              | contradiction
                              | exact absurd h40 (Int32.not_lt.mpr (by assumption))
                              | exact absurd h40 (Int32.not_le.mpr (by assumption))
                              | exact absurd h40 (by decide)
                              | exact absurd (by decide) h40
                              | ( try simp (disch := omega) only [← nI_0, nI_leI, nI_ltI, nI_eq, not_true_eq_false, not_false_eq_true] at h40
                                  (try have h40b := zbit_n0.mp h40); (try have h40b := zbit_p0.mp h40)
                                  refine z_aload_0 d_Tf_mean_43 ?_
                                  refine z_iconst (a := nI 5) d_Tf_mean_44 (by decide) ?_
                                  refine z_Vi1 d_Tf_mean_45 k_Tf_119 (by first | assumption | exact zS0_at (by assumption) (by omega) | exact zS0_at rfl (by omega)) (t_Tf_refuse (by assumption)) ⟨Nat.le_of_ble_eq_true rfl, Nat.le_of_ble_eq_true rfl, Nat.le_of_ble_eq_true rfl, Nat.le_of_ble_eq_true rfl⟩ (Nat.le_of_ble_eq_true rfl) ?_
                                  intro r w hq
                                  obtain ⟨rfl, rfl⟩ := hq
                                  refine z_retz d_Tf_mean_48 (by first | exact zb0 | exact zb1 | assumption) ?_
                                  exact ⟨rfl, cW_0⟩)))))
    · first
      | (simp (disch := omega) only [← nI_0, nI_leI, nI_ltI, nI_eq, not_true_eq_false, not_false_eq_true] at h2; done)
      | (simp (disch := omega) only [← nI_0, nI_leI, nI_ltI, nI_eq, not_true_eq_false, not_false_eq_true] at h2; omega)
      | contradiction
      | exact absurd h2 (Int32.not_lt.mpr (by assumption))
      | exact absurd h2 (Int32.not_le.mpr (by assumption))
      | exact absurd h2 (by decide)
      | exact absurd (by decide) h2
      | ( try simp (disch := omega) only [← nI_0, nI_leI, nI_ltI, nI_eq, not_true_eq_false, not_false_eq_true] at h2
          (try have h2b := zbit_n0.mp h2); (try have h2b := zbit_p0.mp h2)
          refine z_iload_2 d_Tf_mean_5 ?_
          refine z_bipush (a := nI 20) d_Tf_mean_6 (by decide) ?_
          refine z_icmp_le (tgt := 15) d_Tf_mean_8 (by decide) (fun h8 => ?_) (fun h8 => ?_)
          · first
            | (simp (disch := omega) only [← nI_0, nI_leI, nI_ltI, nI_eq, not_true_eq_false, not_false_eq_true] at h8; done)
            | (simp (disch := omega) only [← nI_0, nI_leI, nI_ltI, nI_eq, not_true_eq_false, not_false_eq_true] at h8; omega)
            | contradiction
            | exact absurd h8 (Int32.not_lt.mpr (by assumption))
            | exact absurd h8 (Int32.not_le.mpr (by assumption))
            | exact absurd h8 (by decide)
            | exact absurd (by decide) h8
            | ( try simp (disch := omega) only [← nI_0, nI_leI, nI_ltI, nI_eq, not_true_eq_false, not_false_eq_true] at h8
                (try have h8b := zbit_n0.mp h8); (try have h8b := zbit_p0.mp h8)
                refine z_iconst (a := nI 0) d_Tf_mean_15 (by decide) ?_
                first | refine z_istore_3 d_Tf_mean_16 rfl ?_ | (refine z_forget_2 ?_; refine z_istore_3 d_Tf_mean_16 rfl ?_)
                refine z_iload_3 d_Tf_mean_17 ?_
                refine z_if_ne (tgt := 43) d_Tf_mean_18 (by decide) (fun h18 => ?_) (fun h18 => ?_)
                · first
                  | (simp (disch := omega) only [← nI_0, nI_leI, nI_ltI, nI_eq, not_true_eq_false, not_false_eq_true] at h18; done)
                  | (simp (disch := omega) only [← nI_0, nI_leI, nI_ltI, nI_eq, not_true_eq_false, not_false_eq_true] at h18; omega)
                  | contradiction
                  | exact absurd h18 (Int32.not_lt.mpr (by assumption))
                  | exact absurd h18 (Int32.not_le.mpr (by assumption))
                  | exact absurd h18 (by decide)
                  | exact absurd (by decide) h18
                  | ( try simp (disch := omega) only [← nI_0, nI_leI, nI_ltI, nI_eq, not_true_eq_false, not_false_eq_true] at h18
                      (try have h18b := zbit_n0.mp h18); (try have h18b := zbit_p0.mp h18)
                      refine z_aload_0 d_Tf_mean_43 ?_
                      refine z_iconst (a := nI 5) d_Tf_mean_44 (by decide) ?_
                      refine z_Vi1 d_Tf_mean_45 k_Tf_119 (by first | assumption | exact zS0_at (by assumption) (by omega) | exact zS0_at rfl (by omega)) (t_Tf_refuse (by assumption)) ⟨Nat.le_of_ble_eq_true rfl, Nat.le_of_ble_eq_true rfl, Nat.le_of_ble_eq_true rfl, Nat.le_of_ble_eq_true rfl⟩ (Nat.le_of_ble_eq_true rfl) ?_
                      intro r w hq
                      obtain ⟨rfl, rfl⟩ := hq
                      refine z_retz d_Tf_mean_48 (by first | exact zb0 | exact zb1 | assumption) ?_
                      exact ⟨rfl, cW_0⟩)
                · first
                  | (simp (disch := omega) only [← nI_0, nI_leI, nI_ltI, nI_eq, not_true_eq_false, not_false_eq_true] at h18; done)
                  | (simp (disch := omega) only [← nI_0, nI_leI, nI_ltI, nI_eq, not_true_eq_false, not_false_eq_true] at h18; omega)
                  | contradiction
                  | exact absurd h18 (Int32.not_lt.mpr (by assumption))
                  | exact absurd h18 (Int32.not_le.mpr (by assumption))
                  | exact absurd h18 (by decide)
                  | exact absurd (by decide) h18
                  | ( try simp (disch := omega) only [← nI_0, nI_leI, nI_ltI, nI_eq, not_true_eq_false, not_false_eq_true] at h18
                      (try have h18b := zbit_n0.mp h18); (try have h18b := zbit_p0.mp h18)
                      refine z_iload_1 d_Tf_mean_21 ?_
                      refine z_if_lt (tgt := 43) d_Tf_mean_22 (by decide) (fun h22 => ?_) (fun h22 => ?_)
                      · first
                        | (simp (disch := omega) only [← nI_0, nI_leI, nI_ltI, nI_eq, not_true_eq_false, not_false_eq_true] at h22; done)
                        | (simp (disch := omega) only [← nI_0, nI_leI, nI_ltI, nI_eq, not_true_eq_false, not_false_eq_true] at h22; omega)
                        | contradiction
                        | exact absurd h22 (Int32.not_lt.mpr (by assumption))
                        | exact absurd h22 (Int32.not_le.mpr (by assumption))
                        | exact absurd h22 (by decide)
                        | exact absurd (by decide) h22
                        | ( try simp (disch := omega) only [← nI_0, nI_leI, nI_ltI, nI_eq, not_true_eq_false, not_false_eq_true] at h22
                            (try have h22b := zbit_n0.mp h22); (try have h22b := zbit_p0.mp h22)
                            refine z_aload_0 d_Tf_mean_43 ?_
                            refine z_iconst (a := nI 5) d_Tf_mean_44 (by decide) ?_
                            refine z_Vi1 d_Tf_mean_45 k_Tf_119 (by first | assumption | exact zS0_at (by assumption) (by omega) | exact zS0_at rfl (by omega)) (t_Tf_refuse (by assumption)) ⟨Nat.le_of_ble_eq_true rfl, Nat.le_of_ble_eq_true rfl, Nat.le_of_ble_eq_true rfl, Nat.le_of_ble_eq_true rfl⟩ (Nat.le_of_ble_eq_true rfl) ?_
                            intro r w hq
                            obtain ⟨rfl, rfl⟩ := hq
                            refine z_retz d_Tf_mean_48 (by first | exact zb0 | exact zb1 | assumption) ?_
                            exact ⟨rfl, cW_0⟩)
                      · first
                        | (simp (disch := omega) only [← nI_0, nI_leI, nI_ltI, nI_eq, not_true_eq_false, not_false_eq_true] at h22; done)
                        | (simp (disch := omega) only [← nI_0, nI_leI, nI_ltI, nI_eq, not_true_eq_false, not_false_eq_true] at h22; omega)
                        | contradiction
                        | exact absurd h22 (Int32.not_lt.mpr (by assumption))
                        | exact absurd h22 (Int32.not_le.mpr (by assumption))
                        | exact absurd h22 (by decide)
                        | exact absurd (by decide) h22
                        | ( try simp (disch := omega) only [← nI_0, nI_leI, nI_ltI, nI_eq, not_true_eq_false, not_false_eq_true] at h22
                            (try have h22b := zbit_n0.mp h22); (try have h22b := zbit_p0.mp h22)
                            refine z_iload_1 d_Tf_mean_25 ?_
                            refine z_sipush (a := nI 9999) d_Tf_mean_26 (by decide) ?_
                            refine z_icmp_gt (tgt := 43) d_Tf_mean_29 (by decide) (fun h29 => ?_) (fun h29 => ?_)
                            · first
                              | (simp (disch := omega) only [← nI_0, nI_leI, nI_ltI, nI_eq, not_true_eq_false, not_false_eq_true] at h29; done)
                              | (simp (disch := omega) only [← nI_0, nI_leI, nI_ltI, nI_eq, not_true_eq_false, not_false_eq_true] at h29; omega)
                              | contradiction
                              | exact absurd h29 (Int32.not_lt.mpr (by assumption))
                              | exact absurd h29 (Int32.not_le.mpr (by assumption))
                              | exact absurd h29 (by decide)
                              | exact absurd (by decide) h29
                              | ( try simp (disch := omega) only [← nI_0, nI_leI, nI_ltI, nI_eq, not_true_eq_false, not_false_eq_true] at h29
                                  (try have h29b := zbit_n0.mp h29); (try have h29b := zbit_p0.mp h29)
                                  refine z_aload_0 d_Tf_mean_43 ?_
                                  refine z_iconst (a := nI 5) d_Tf_mean_44 (by decide) ?_
                                  refine z_Vi1 d_Tf_mean_45 k_Tf_119 (by first | assumption | exact zS0_at (by assumption) (by omega) | exact zS0_at rfl (by omega)) (t_Tf_refuse (by assumption)) ⟨Nat.le_of_ble_eq_true rfl, Nat.le_of_ble_eq_true rfl, Nat.le_of_ble_eq_true rfl, Nat.le_of_ble_eq_true rfl⟩ (Nat.le_of_ble_eq_true rfl) ?_
                                  intro r w hq
                                  obtain ⟨rfl, rfl⟩ := hq
                                  refine z_retz d_Tf_mean_48 (by first | exact zb0 | exact zb1 | assumption) ?_
                                  exact ⟨rfl, cW_0⟩)
                            · first
                              | (simp (disch := omega) only [← nI_0, nI_leI, nI_ltI, nI_eq, not_true_eq_false, not_false_eq_true] at h29; done)
                              | (simp (disch := omega) only [← nI_0, nI_leI, nI_ltI, nI_eq, not_true_eq_false, not_false_eq_true] at h29; omega)
                              | contradiction
                              | exact absurd h29 (Int32.not_lt.mpr (by assumption))
                              | exact absurd h29 (Int32.not_le.mpr (by assumption))
                              | exact absurd h29 (by decide)
                              | exact absurd (by decide) h29
                              | ( try simp (disch := omega) only [← nI_0, nI_leI, nI_ltI, nI_eq, not_true_eq_false, not_false_eq_true] at h29
                                  (try have h29b := zbit_n0.mp h29); (try have h29b := zbit_p0.mp h29)
                                  refine z_iload_1 d_Tf_mean_32 ?_
                                  refine z_iload_2 d_Tf_mean_33 ?_
                                  first | refine z_iaddN d_Tf_mean_34 ?_ | refine z_iadd d_Tf_mean_34 ?_
                                  refine z_iconst (a := nI 1) d_Tf_mean_35 (by decide) ?_
                                  first | refine z_isubN d_Tf_mean_36 (by omega) ?_ | refine z_isub d_Tf_mean_36 ?_
                                  refine z_sipush (a := nI 9999) d_Tf_mean_37 (by decide) ?_
                                  refine z_icmp_le (tgt := 49) d_Tf_mean_40 (by decide) (fun h40 => ?_) (fun h40 => ?_)
                                  · first
                                    | (simp (disch := omega) only [← nI_0, nI_leI, nI_ltI, nI_eq, not_true_eq_false, not_false_eq_true] at h40; done)
                                    | (simp (disch := omega) only [← nI_0, nI_leI, nI_ltI, nI_eq, not_true_eq_false, not_false_eq_true] at h40; omega)
                                    | contradiction
                                    | exact absurd h40 (Int32.not_lt.mpr (by assumption))
                                    | exact absurd h40 (Int32.not_le.mpr (by assumption))
                                    | exact absurd h40 (by decide)
                                    | exact absurd (by decide) h40
                                    | ( try simp (disch := omega) only [← nI_0, nI_leI, nI_ltI, nI_eq, not_true_eq_false, not_false_eq_true] at h40
                                        (try have h40b := zbit_n0.mp h40); (try have h40b := zbit_p0.mp h40)
                                        fail)
                                  · first
                                    | (simp (disch := omega) only [← nI_0, nI_leI, nI_ltI, nI_eq, not_true_eq_false, not_false_eq_true] at h40; done)
                                    | (simp (disch := omega) only [← nI_0, nI_leI, nI_ltI, nI_eq, not_true_eq_false, not_false_eq_true] at h40; omega)
                                    | contradiction
                                    | exact absurd h40 (Int32.not_lt.mpr (by assumption))
                                    | exact absurd h40 (Int32.not_le.mpr (by assumption))
                                    | exact absurd h40 (by decide)
                                    | exact absurd (by decide) h40
                                    | ( try simp (disch := omega) only [← nI_0, nI_leI, nI_ltI, nI_eq, not_true_eq_false, not_false_eq_true] at h40
                                        (try have h40b := zbit_n0.mp h40); (try have h40b := zbit_p0.mp h40)
                                        refine z_aload_0 d_Tf_mean_43 ?_
                                        refine z_iconst (a := nI 5) d_Tf_mean_44 (by decide) ?_
                                        refine z_Vi1 d_Tf_mean_45 k_Tf_119 (by first | assumption | exact zS0_at (by assumption) (by omega) | exact zS0_at rfl (by omega)) (t_Tf_refuse (by assumption)) ⟨Nat.le_of_ble_eq_true rfl, Nat.le_of_ble_eq_true rfl, Nat.le_of_ble_eq_true rfl, Nat.le_of_ble_eq_true rfl⟩ (Nat.le_of_ble_eq_true rfl) ?_
                                        intro r w hq
                                        obtain ⟨rfl, rfl⟩ := hq
                                        refine z_retz d_Tf_mean_48 (by first | exact zb0 | exact zb1 | assumption) ?_
                                        exact ⟨rfl, cW_0⟩)))))
          · first
            | (simp (disch := omega) only [← nI_0, nI_leI, nI_ltI, nI_eq, not_true_eq_false, not_false_eq_true] at h8; done)
            | (simp (disch := omega) only [← nI_0, nI_leI, nI_ltI, nI_eq, not_true_eq_false, not_false_eq_true] at h8; omega)
            | contradiction
            | exact absurd h8 (Int32.not_lt.mpr (by assumption))
            | exact absurd h8 (Int32.not_le.mpr (by assumption))
            | exact absurd h8 (by decide)
            | exact absurd (by decide) h8
            | ( try simp (disch := omega) only [← nI_0, nI_leI, nI_ltI, nI_eq, not_true_eq_false, not_false_eq_true] at h8
                (try have h8b := zbit_n0.mp h8); (try have h8b := zbit_p0.mp h8)
                refine z_iconst (a := nI 1) d_Tf_mean_11 (by decide) ?_
                refine z_goto (tgt := 16) d_Tf_mean_12 (by decide) ?_
                first | refine z_istore_3 d_Tf_mean_16 rfl ?_ | (refine z_forget_2 ?_; refine z_istore_3 d_Tf_mean_16 rfl ?_)
                refine z_iload_3 d_Tf_mean_17 ?_
                refine z_if_ne (tgt := 43) d_Tf_mean_18 (by decide) (fun h18 => ?_) (fun h18 => ?_)
                · first
                  | (simp (disch := omega) only [← nI_0, nI_leI, nI_ltI, nI_eq, not_true_eq_false, not_false_eq_true] at h18; done)
                  | (simp (disch := omega) only [← nI_0, nI_leI, nI_ltI, nI_eq, not_true_eq_false, not_false_eq_true] at h18; omega)
                  | contradiction
                  | exact absurd h18 (Int32.not_lt.mpr (by assumption))
                  | exact absurd h18 (Int32.not_le.mpr (by assumption))
                  | exact absurd h18 (by decide)
                  | exact absurd (by decide) h18
                  | ( try simp (disch := omega) only [← nI_0, nI_leI, nI_ltI, nI_eq, not_true_eq_false, not_false_eq_true] at h18
                      (try have h18b := zbit_n0.mp h18); (try have h18b := zbit_p0.mp h18)
                      refine z_aload_0 d_Tf_mean_43 ?_
                      refine z_iconst (a := nI 5) d_Tf_mean_44 (by decide) ?_
                      refine z_Vi1 d_Tf_mean_45 k_Tf_119 (by first | assumption | exact zS0_at (by assumption) (by omega) | exact zS0_at rfl (by omega)) (t_Tf_refuse (by assumption)) ⟨Nat.le_of_ble_eq_true rfl, Nat.le_of_ble_eq_true rfl, Nat.le_of_ble_eq_true rfl, Nat.le_of_ble_eq_true rfl⟩ (Nat.le_of_ble_eq_true rfl) ?_
                      intro r w hq
                      obtain ⟨rfl, rfl⟩ := hq
                      refine z_retz d_Tf_mean_48 (by first | exact zb0 | exact zb1 | assumption) ?_
                      exact ⟨rfl, cW_0⟩)
                · first
                  | (simp (disch := omega) only [← nI_0, nI_leI, nI_ltI, nI_eq, not_true_eq_false, not_false_eq_true] at h18; done)
                  | (simp (disch := omega) only [← nI_0, nI_leI, nI_ltI, nI_eq, not_true_eq_false, not_false_eq_true] at h18; omega)
                  | contradiction
                  | exact absurd h18 (Int32.not_lt.mpr (by assumption))
                  | exact absurd h18 (Int32.not_le.mpr (by assumption))
                  | exact absurd h18 (by decide)
                  | exact absurd (by decide) h18
                  | ( try simp (disch := omega) only [← nI_0, nI_leI, nI_ltI, nI_eq, not_true_eq_false, not_false_eq_true] at h18
                      (try have h18b := zbit_n0.mp h18); (try have h18b := zbit_p0.mp h18)
                      refine z_iload_1 d_Tf_mean_21 ?_
                      refine z_if_lt (tgt := 43) d_Tf_mean_22 (by decide) (fun h22 => ?_) (fun h22 => ?_)
                      · first
                        | (simp (disch := omega) only [← nI_0, nI_leI, nI_ltI, nI_eq, not_true_eq_false, not_false_eq_true] at h22; done)
                        | (simp (disch := omega) only [← nI_0, nI_leI, nI_ltI, nI_eq, not_true_eq_false, not_false_eq_true] at h22; omega)
                        | contradiction
                        | exact absurd h22 (Int32.not_lt.mpr (by assumption))
                        | exact absurd h22 (Int32.not_le.mpr (by assumption))
                        | exact absurd h22 (by decide)
                        | exact absurd (by decide) h22
                        | ( try simp (disch := omega) only [← nI_0, nI_leI, nI_ltI, nI_eq, not_true_eq_false, not_false_eq_true] at h22
                            (try have h22b := zbit_n0.mp h22); (try have h22b := zbit_p0.mp h22)
                            refine z_aload_0 d_Tf_mean_43 ?_
                            refine z_iconst (a := nI 5) d_Tf_mean_44 (by decide) ?_
                            refine z_Vi1 d_Tf_mean_45 k_Tf_119 (by first | assumption | exact zS0_at (by assumption) (by omega) | exact zS0_at rfl (by omega)) (t_Tf_refuse (by assumption)) ⟨Nat.le_of_ble_eq_true rfl, Nat.le_of_ble_eq_true rfl, Nat.le_of_ble_eq_true rfl, Nat.le_of_ble_eq_true rfl⟩ (Nat.le_of_ble_eq_true rfl) ?_
                            intro r w hq
                            obtain ⟨rfl, rfl⟩ := hq
                            refine z_retz d_Tf_mean_48 (by first | exact zb0 | exact zb1 | assumption) ?_
                            exact ⟨rfl, cW_0⟩)
                      · first
                        | (simp (disch := omega) only [← nI_0, nI_leI, nI_ltI, nI_eq, not_true_eq_false, not_false_eq_true] at h22; done)
                        | (simp (disch := omega) only [← nI_0, nI_leI, nI_ltI, nI_eq, not_true_eq_false, not_false_eq_true] at h22; omega)
                        | contradiction
                        | exact absurd h22 (Int32.not_lt.mpr (by assumption))
                        | exact absurd h22 (Int32.not_le.mpr (by assumption))
                        | exact absurd h22 (by decide)
                        | exact absurd (by decide) h22
                        | ( try simp (disch := omega) only [← nI_0, nI_leI, nI_ltI, nI_eq, not_true_eq_false, not_false_eq_true] at h22
                            (try have h22b := zbit_n0.mp h22); (try have h22b := zbit_p0.mp h22)
                            refine z_iload_1 d_Tf_mean_25 ?_
                            refine z_sipush (a := nI 9999) d_Tf_mean_26 (by decide) ?_
                            refine z_icmp_gt (tgt := 43) d_Tf_mean_29 (by decide) (fun h29 => ?_) (fun h29 => ?_)
                            · first
                              | (simp (disch := omega) only [← nI_0, nI_leI, nI_ltI, nI_eq, not_true_eq_false, not_false_eq_true] at h29; done)
                              | (simp (disch := omega) only [← nI_0, nI_leI, nI_ltI, nI_eq, not_true_eq_false, not_false_eq_true] at h29; omega)
                              | contradiction
                              | exact absurd h29 (Int32.not_lt.mpr (by assumption))
                              | exact absurd h29 (Int32.not_le.mpr (by assumption))
                              | exact absurd h29 (by decide)
                              | exact absurd (by decide) h29
                              | ( try simp (disch := omega) only [← nI_0, nI_leI, nI_ltI, nI_eq, not_true_eq_false, not_false_eq_true] at h29
                                  (try have h29b := zbit_n0.mp h29); (try have h29b := zbit_p0.mp h29)
                                  refine z_aload_0 d_Tf_mean_43 ?_
                                  refine z_iconst (a := nI 5) d_Tf_mean_44 (by decide) ?_
                                  refine z_Vi1 d_Tf_mean_45 k_Tf_119 (by first | assumption | exact zS0_at (by assumption) (by omega) | exact zS0_at rfl (by omega)) (t_Tf_refuse (by assumption)) ⟨Nat.le_of_ble_eq_true rfl, Nat.le_of_ble_eq_true rfl, Nat.le_of_ble_eq_true rfl, Nat.le_of_ble_eq_true rfl⟩ (Nat.le_of_ble_eq_true rfl) ?_
                                  intro r w hq
                                  obtain ⟨rfl, rfl⟩ := hq
                                  refine z_retz d_Tf_mean_48 (by first | exact zb0 | exact zb1 | assumption) ?_
                                  exact ⟨rfl, cW_0⟩)
                            · first
                              | (simp (disch := omega) only [← nI_0, nI_leI, nI_ltI, nI_eq, not_true_eq_false, not_false_eq_true] at h29; done)
                              | (simp (disch := omega) only [← nI_0, nI_leI, nI_ltI, nI_eq, not_true_eq_false, not_false_eq_true] at h29; omega)
                              | contradiction
                              | exact absurd h29 (Int32.not_lt.mpr (by assumption))
                              | exact absurd h29 (Int32.not_le.mpr (by assumption))
                              | exact absurd h29 (by decide)
                              | exact absurd (by decide) h29
                              | ( try simp (disch := omega) only [← nI_0, nI_leI, nI_ltI, nI_eq, not_true_eq_false, not_false_eq_true] at h29
                                  (try have h29b := zbit_n0.mp h29); (try have h29b := zbit_p0.mp h29)
                                  refine z_iload_1 d_Tf_mean_32 ?_
                                  refine z_iload_2 d_Tf_mean_33 ?_
                                  first | refine z_iaddN d_Tf_mean_34 ?_ | refine z_iadd d_Tf_mean_34 ?_
                                  refine z_iconst (a := nI 1) d_Tf_mean_35 (by decide) ?_
                                  first | refine z_isubN d_Tf_mean_36 (by omega) ?_ | refine z_isub d_Tf_mean_36 ?_
                                  refine z_sipush (a := nI 9999) d_Tf_mean_37 (by decide) ?_
                                  refine z_icmp_le (tgt := 49) d_Tf_mean_40 (by decide) (fun h40 => ?_) (fun h40 => ?_)
                                  · first
                                    | (simp (disch := omega) only [← nI_0, nI_leI, nI_ltI, nI_eq, not_true_eq_false, not_false_eq_true] at h40; done)
                                    | (simp (disch := omega) only [← nI_0, nI_leI, nI_ltI, nI_eq, not_true_eq_false, not_false_eq_true] at h40; omega)
                                    | contradiction
                                    | exact absurd h40 (Int32.not_lt.mpr (by assumption))
                                    | exact absurd h40 (Int32.not_le.mpr (by assumption))
                                    | exact absurd h40 (by decide)
                                    | exact absurd (by decide) h40
                                    | ( try simp (disch := omega) only [← nI_0, nI_leI, nI_ltI, nI_eq, not_true_eq_false, not_false_eq_true] at h40
                                        (try have h40b := zbit_n0.mp h40); (try have h40b := zbit_p0.mp h40)
                                        fail)
                                  · first
                                    | (simp (disch := omega) only [← nI_0, nI_leI, nI_ltI, nI_eq, not_true_eq_false, not_false_eq_true] at h40; done)
                                    | (simp (disch := omega) only [← nI_0, nI_leI, nI_ltI, nI_eq, not_true_eq_false, not_false_eq_true] at h40; omega)
                                    | contradiction
                                    | exact absurd h40 (Int32.not_lt.mpr (by assumption))
                                    | exact absurd h40 (Int32.not_le.mpr (by assumption))
                                    | exact absurd h40 (by decide)
                                    | exact absurd (by decide) h40
                                    | ( try simp (disch := omega) only [← nI_0, nI_leI, nI_ltI, nI_eq, not_true_eq_false, not_false_eq_true] at h40
                                        (try have h40b := zbit_n0.mp h40); (try have h40b := zbit_p0.mp h40)
                                        refine z_aload_0 d_Tf_mean_43 ?_
                                        refine z_iconst (a := nI 5) d_Tf_mean_44 (by decide) ?_
                                        refine z_Vi1 d_Tf_mean_45 k_Tf_119 (by first | assumption | exact zS0_at (by assumption) (by omega) | exact zS0_at rfl (by omega)) (t_Tf_refuse (by assumption)) ⟨Nat.le_of_ble_eq_true rfl, Nat.le_of_ble_eq_true rfl, Nat.le_of_ble_eq_true rfl, Nat.le_of_ble_eq_true rfl⟩ (Nat.le_of_ble_eq_true rfl) ?_
                                        intro r w hq
                                        obtain ⟨rfl, rfl⟩ := hq
                                        refine z_retz d_Tf_mean_48 (by first | exact zb0 | exact zb1 | assumption) ?_
                                        exact ⟨rfl, cW_0⟩))))))
  · refine z_iload_2 d_Tf_mean_0 ?_
    refine z_iconst (a := nI 1) d_Tf_mean_1 (by decide) ?_
    refine z_icmp_lt (tgt := 11) d_Tf_mean_2 (by decide) (fun h2 => ?_) (fun h2 => ?_)
    · first
      | (simp (disch := omega) only [← nI_0, nI_leI, nI_ltI, nI_eq, not_true_eq_false, not_false_eq_true] at h2; done)
      | (simp (disch := omega) only [← nI_0, nI_leI, nI_ltI, nI_eq, not_true_eq_false, not_false_eq_true] at h2; omega)
      | contradiction
      | exact absurd h2 (Int32.not_lt.mpr (by assumption))
      | exact absurd h2 (Int32.not_le.mpr (by assumption))
      | exact absurd h2 (by decide)
      | exact absurd (by decide) h2
      | ( try simp (disch := omega) only [← nI_0, nI_leI, nI_ltI, nI_eq, not_true_eq_false, not_false_eq_true] at h2
          (try have h2b := zbit_n0.mp h2); (try have h2b := zbit_p0.mp h2)
          refine z_iconst (a := nI 1) d_Tf_mean_11 (by decide) ?_
          refine z_goto (tgt := 16) d_Tf_mean_12 (by decide) ?_
          first | refine z_istore_3 d_Tf_mean_16 rfl ?_ | (refine z_forget_2 ?_; refine z_istore_3 d_Tf_mean_16 rfl ?_)
          refine z_iload_3 d_Tf_mean_17 ?_
          refine z_if_ne (tgt := 43) d_Tf_mean_18 (by decide) (fun h18 => ?_) (fun h18 => ?_)
          · first
            | (simp (disch := omega) only [← nI_0, nI_leI, nI_ltI, nI_eq, not_true_eq_false, not_false_eq_true] at h18; done)
            | (simp (disch := omega) only [← nI_0, nI_leI, nI_ltI, nI_eq, not_true_eq_false, not_false_eq_true] at h18; omega)
            | contradiction
            | exact absurd h18 (Int32.not_lt.mpr (by assumption))
            | exact absurd h18 (Int32.not_le.mpr (by assumption))
            | exact absurd h18 (by decide)
            | exact absurd (by decide) h18
            | ( try simp (disch := omega) only [← nI_0, nI_leI, nI_ltI, nI_eq, not_true_eq_false, not_false_eq_true] at h18
                (try have h18b := zbit_n0.mp h18); (try have h18b := zbit_p0.mp h18)
                refine z_aload_0 d_Tf_mean_43 ?_
                refine z_iconst (a := nI 5) d_Tf_mean_44 (by decide) ?_
                refine z_Vi1 d_Tf_mean_45 k_Tf_119 (by first | assumption | exact zS0_at (by assumption) (by omega) | exact zS0_at rfl (by omega)) (t_Tf_refuse (by assumption)) ⟨Nat.le_of_ble_eq_true rfl, Nat.le_of_ble_eq_true rfl, Nat.le_of_ble_eq_true rfl, Nat.le_of_ble_eq_true rfl⟩ (Nat.le_of_ble_eq_true rfl) ?_
                intro r w hq
                obtain ⟨rfl, rfl⟩ := hq
                refine z_retz d_Tf_mean_48 (by first | exact zb0 | exact zb1 | assumption) ?_
                exact ⟨rfl, cW_0⟩)
          · first
            | (simp (disch := omega) only [← nI_0, nI_leI, nI_ltI, nI_eq, not_true_eq_false, not_false_eq_true] at h18; done)
            | (simp (disch := omega) only [← nI_0, nI_leI, nI_ltI, nI_eq, not_true_eq_false, not_false_eq_true] at h18; omega)
            | contradiction
            | exact absurd h18 (Int32.not_lt.mpr (by assumption))
            | exact absurd h18 (Int32.not_le.mpr (by assumption))
            | exact absurd h18 (by decide)
            | exact absurd (by decide) h18
            | ( try simp (disch := omega) only [← nI_0, nI_leI, nI_ltI, nI_eq, not_true_eq_false, not_false_eq_true] at h18
                (try have h18b := zbit_n0.mp h18); (try have h18b := zbit_p0.mp h18)
                refine z_iload_1 d_Tf_mean_21 ?_
                refine z_if_lt (tgt := 43) d_Tf_mean_22 (by decide) (fun h22 => ?_) (fun h22 => ?_)
                · first
                  | (simp (disch := omega) only [← nI_0, nI_leI, nI_ltI, nI_eq, not_true_eq_false, not_false_eq_true] at h22; done)
                  | (simp (disch := omega) only [← nI_0, nI_leI, nI_ltI, nI_eq, not_true_eq_false, not_false_eq_true] at h22; omega)
                  | contradiction
                  | exact absurd h22 (Int32.not_lt.mpr (by assumption))
                  | exact absurd h22 (Int32.not_le.mpr (by assumption))
                  | exact absurd h22 (by decide)
                  | exact absurd (by decide) h22
                  | ( try simp (disch := omega) only [← nI_0, nI_leI, nI_ltI, nI_eq, not_true_eq_false, not_false_eq_true] at h22
                      (try have h22b := zbit_n0.mp h22); (try have h22b := zbit_p0.mp h22)
                      refine z_aload_0 d_Tf_mean_43 ?_
                      refine z_iconst (a := nI 5) d_Tf_mean_44 (by decide) ?_
                      refine z_Vi1 d_Tf_mean_45 k_Tf_119 (by first | assumption | exact zS0_at (by assumption) (by omega) | exact zS0_at rfl (by omega)) (t_Tf_refuse (by assumption)) ⟨Nat.le_of_ble_eq_true rfl, Nat.le_of_ble_eq_true rfl, Nat.le_of_ble_eq_true rfl, Nat.le_of_ble_eq_true rfl⟩ (Nat.le_of_ble_eq_true rfl) ?_
                      intro r w hq
                      obtain ⟨rfl, rfl⟩ := hq
                      refine z_retz d_Tf_mean_48 (by first | exact zb0 | exact zb1 | assumption) ?_
                      exact ⟨rfl, cW_0⟩)
                · first
                  | (simp (disch := omega) only [← nI_0, nI_leI, nI_ltI, nI_eq, not_true_eq_false, not_false_eq_true] at h22; done)
                  | (simp (disch := omega) only [← nI_0, nI_leI, nI_ltI, nI_eq, not_true_eq_false, not_false_eq_true] at h22; omega)
                  | contradiction
                  | exact absurd h22 (Int32.not_lt.mpr (by assumption))
                  | exact absurd h22 (Int32.not_le.mpr (by assumption))
                  | exact absurd h22 (by decide)
                  | exact absurd (by decide) h22
                  | ( try simp (disch := omega) only [← nI_0, nI_leI, nI_ltI, nI_eq, not_true_eq_false, not_false_eq_true] at h22
                      (try have h22b := zbit_n0.mp h22); (try have h22b := zbit_p0.mp h22)
                      refine z_iload_1 d_Tf_mean_25 ?_
                      refine z_sipush (a := nI 9999) d_Tf_mean_26 (by decide) ?_
                      refine z_icmp_gt (tgt := 43) d_Tf_mean_29 (by decide) (fun h29 => ?_) (fun h29 => ?_)
                      · first
                        | (simp (disch := omega) only [← nI_0, nI_leI, nI_ltI, nI_eq, not_true_eq_false, not_false_eq_true] at h29; done)
                        | (simp (disch := omega) only [← nI_0, nI_leI, nI_ltI, nI_eq, not_true_eq_false, not_false_eq_true] at h29; omega)
                        | contradiction
                        | exact absurd h29 (Int32.not_lt.mpr (by assumption))
                        | exact absurd h29 (Int32.not_le.mpr (by assumption))
                        | exact absurd h29 (by decide)
                        | exact absurd (by decide) h29
                        | ( try simp (disch := omega) only [← nI_0, nI_leI, nI_ltI, nI_eq, not_true_eq_false, not_false_eq_true] at h29
                            (try have h29b := zbit_n0.mp h29); (try have h29b := zbit_p0.mp h29)
                            refine z_aload_0 d_Tf_mean_43 ?_
                            refine z_iconst (a := nI 5) d_Tf_mean_44 (by decide) ?_
                            refine z_Vi1 d_Tf_mean_45 k_Tf_119 (by first | assumption | exact zS0_at (by assumption) (by omega) | exact zS0_at rfl (by omega)) (t_Tf_refuse (by assumption)) ⟨Nat.le_of_ble_eq_true rfl, Nat.le_of_ble_eq_true rfl, Nat.le_of_ble_eq_true rfl, Nat.le_of_ble_eq_true rfl⟩ (Nat.le_of_ble_eq_true rfl) ?_
                            intro r w hq
                            obtain ⟨rfl, rfl⟩ := hq
                            refine z_retz d_Tf_mean_48 (by first | exact zb0 | exact zb1 | assumption) ?_
                            exact ⟨rfl, cW_0⟩)
                      · first
                        | (simp (disch := omega) only [← nI_0, nI_leI, nI_ltI, nI_eq, not_true_eq_false, not_false_eq_true] at h29; done)
                        | (simp (disch := omega) only [← nI_0, nI_leI, nI_ltI, nI_eq, not_true_eq_false, not_false_eq_true] at h29; omega)
                        | contradiction
                        | exact absurd h29 (Int32.not_lt.mpr (by assumption))
                        | exact absurd h29 (Int32.not_le.mpr (by assumption))
                        | exact absurd h29 (by decide)
                        | exact absurd (by decide) h29
                        | ( try simp (disch := omega) only [← nI_0, nI_leI, nI_ltI, nI_eq, not_true_eq_false, not_false_eq_true] at h29
                            (try have h29b := zbit_n0.mp h29); (try have h29b := zbit_p0.mp h29)
                            refine z_iload_1 d_Tf_mean_32 ?_
                            refine z_iload_2 d_Tf_mean_33 ?_
                            first | refine z_iaddN d_Tf_mean_34 ?_ | refine z_iadd d_Tf_mean_34 ?_
                            refine z_iconst (a := nI 1) d_Tf_mean_35 (by decide) ?_
                            first | refine z_isubN d_Tf_mean_36 (by omega) ?_ | refine z_isub d_Tf_mean_36 ?_
                            refine z_sipush (a := nI 9999) d_Tf_mean_37 (by decide) ?_
                            refine z_icmp_le (tgt := 49) d_Tf_mean_40 (by decide) (fun h40 => ?_) (fun h40 => ?_)
                            · first
                              | (simp (disch := omega) only [← nI_0, nI_leI, nI_ltI, nI_eq, not_true_eq_false, not_false_eq_true] at h40; done)
                              | (simp (disch := omega) only [← nI_0, nI_leI, nI_ltI, nI_eq, not_true_eq_false, not_false_eq_true] at h40; omega)
                              | contradiction
                              | exact absurd h40 (Int32.not_lt.mpr (by assumption))
                              | exact absurd h40 (Int32.not_le.mpr (by assumption))
                              | exact absurd h40 (by decide)
                              | exact absurd (by decide) h40
                              | ( try simp (disch := omega) only [← nI_0, nI_leI, nI_ltI, nI_eq, not_true_eq_false, not_false_eq_true] at h40
                                  (try have h40b := zbit_n0.mp h40); (try have h40b := zbit_p0.mp h40)
                                  fail)
                            · first
                              | (simp (disch := omega) only [← nI_0, nI_leI, nI_ltI, nI_eq, not_true_eq_false, not_false_eq_true] at h40; done)
                              | (simp (disch := omega) only [← nI_0, nI_leI, nI_ltI, nI_eq, not_true_eq_false, not_false_eq_true] at h40; omega)
                              | contradiction
                              | exact absurd h40 (Int32.not_lt.mpr (by assumption))
                              | exact absurd h40 (Int32.not_le.mpr (by assumption))
                              | exact absurd h40 (by decide)
                              | exact absurd (by decide) h40
                              | ( try simp (disch := omega) only [← nI_0, nI_leI, nI_ltI, nI_eq, not_true_eq_false, not_false_eq_true] at h40
                                  (try have h40b := zbit_n0.mp h40); (try have h40b := zbit_p0.mp h40)
                                  refine z_aload_0 d_Tf_mean_43 ?_
                                  refine z_iconst (a := nI 5) d_Tf_mean_44 (by decide) ?_
                                  refine z_Vi1 d_Tf_mean_45 k_Tf_119 (by first | assumption | exact zS0_at (by assumption) (by omega) | exact zS0_at rfl (by omega)) (t_Tf_refuse (by assumption)) ⟨Nat.le_of_ble_eq_true rfl, Nat.le_of_ble_eq_true rfl, Nat.le_of_ble_eq_true rfl, Nat.le_of_ble_eq_true rfl⟩ (Nat.le_of_ble_eq_true rfl) ?_
                                  intro r w hq
                                  obtain ⟨rfl, rfl⟩ := hq
                                  refine z_retz d_Tf_mean_48 (by first | exact zb0 | exact zb1 | assumption) ?_
                                  exact ⟨rfl, cW_0⟩)))))
    · first
      | (simp (disch := omega) only [← nI_0, nI_leI, nI_ltI, nI_eq, not_true_eq_false, not_false_eq_true] at h2; done)
      | (simp (disch := omega) only [← nI_0, nI_leI, nI_ltI, nI_eq, not_true_eq_false, not_false_eq_true] at h2; omega)
      | contradiction
      | exact absurd h2 (Int32.not_lt.mpr (by assumption))
      | exact absurd h2 (Int32.not_le.mpr (by assumption))
      | exact absurd h2 (by decide)
      | exact absurd (by decide) h2
      | ( try simp (disch := omega) only [← nI_0, nI_leI, nI_ltI, nI_eq, not_true_eq_false, not_false_eq_true] at h2
          (try have h2b := zbit_n0.mp h2); (try have h2b := zbit_p0.mp h2)
          refine z_iload_2 d_Tf_mean_5 ?_
          refine z_bipush (a := nI 20) d_Tf_mean_6 (by decide) ?_
          refine z_icmp_le (tgt := 15) d_Tf_mean_8 (by decide) (fun h8 => ?_) (fun h8 => ?_)
          · first
            | (simp (disch := omega) only [← nI_0, nI_leI, nI_ltI, nI_eq, not_true_eq_false, not_false_eq_true] at h8; done)
            | (simp (disch := omega) only [← nI_0, nI_leI, nI_ltI, nI_eq, not_true_eq_false, not_false_eq_true] at h8; omega)
            | contradiction
            | exact absurd h8 (Int32.not_lt.mpr (by assumption))
            | exact absurd h8 (Int32.not_le.mpr (by assumption))
            | exact absurd h8 (by decide)
            | exact absurd (by decide) h8
            | ( try simp (disch := omega) only [← nI_0, nI_leI, nI_ltI, nI_eq, not_true_eq_false, not_false_eq_true] at h8
                (try have h8b := zbit_n0.mp h8); (try have h8b := zbit_p0.mp h8)
                refine z_iconst (a := nI 0) d_Tf_mean_15 (by decide) ?_
                first | refine z_istore_3 d_Tf_mean_16 rfl ?_ | (refine z_forget_2 ?_; refine z_istore_3 d_Tf_mean_16 rfl ?_)
                refine z_iload_3 d_Tf_mean_17 ?_
                refine z_if_ne (tgt := 43) d_Tf_mean_18 (by decide) (fun h18 => ?_) (fun h18 => ?_)
                · first
                  | (simp (disch := omega) only [← nI_0, nI_leI, nI_ltI, nI_eq, not_true_eq_false, not_false_eq_true] at h18; done)
                  | (simp (disch := omega) only [← nI_0, nI_leI, nI_ltI, nI_eq, not_true_eq_false, not_false_eq_true] at h18; omega)
                  | contradiction
                  | exact absurd h18 (Int32.not_lt.mpr (by assumption))
                  | exact absurd h18 (Int32.not_le.mpr (by assumption))
                  | exact absurd h18 (by decide)
                  | exact absurd (by decide) h18
                  | ( try simp (disch := omega) only [← nI_0, nI_leI, nI_ltI, nI_eq, not_true_eq_false, not_false_eq_true] at h18
                      (try have h18b := zbit_n0.mp h18); (try have h18b := zbit_p0.mp h18)
                      refine z_aload_0 d_Tf_mean_43 ?_
                      refine z_iconst (a := nI 5) d_Tf_mean_44 (by decide) ?_
                      refine z_Vi1 d_Tf_mean_45 k_Tf_119 (by first | assumption | exact zS0_at (by assumption) (by omega) | exact zS0_at rfl (by omega)) (t_Tf_refuse (by assumption)) ⟨Nat.le_of_ble_eq_true rfl, Nat.le_of_ble_eq_true rfl, Nat.le_of_ble_eq_true rfl, Nat.le_of_ble_eq_true rfl⟩ (Nat.le_of_ble_eq_true rfl) ?_
                      intro r w hq
                      obtain ⟨rfl, rfl⟩ := hq
                      refine z_retz d_Tf_mean_48 (by first | exact zb0 | exact zb1 | assumption) ?_
                      exact ⟨rfl, cW_0⟩)
                · first
                  | (simp (disch := omega) only [← nI_0, nI_leI, nI_ltI, nI_eq, not_true_eq_false, not_false_eq_true] at h18; done)
                  | (simp (disch := omega) only [← nI_0, nI_leI, nI_ltI, nI_eq, not_true_eq_false, not_false_eq_true] at h18; omega)
                  | contradiction
                  | exact absurd h18 (Int32.not_lt.mpr (by assumption))
                  | exact absurd h18 (Int32.not_le.mpr (by assumption))
                  | exact absurd h18 (by decide)
                  | exact absurd (by decide) h18
                  | ( try simp (disch := omega) only [← nI_0, nI_leI, nI_ltI, nI_eq, not_true_eq_false, not_false_eq_true] at h18
                      (try have h18b := zbit_n0.mp h18); (try have h18b := zbit_p0.mp h18)
                      refine z_iload_1 d_Tf_mean_21 ?_
                      refine z_if_lt (tgt := 43) d_Tf_mean_22 (by decide) (fun h22 => ?_) (fun h22 => ?_)
                      · first
                        | (simp (disch := omega) only [← nI_0, nI_leI, nI_ltI, nI_eq, not_true_eq_false, not_false_eq_true] at h22; done)
                        | (simp (disch := omega) only [← nI_0, nI_leI, nI_ltI, nI_eq, not_true_eq_false, not_false_eq_true] at h22; omega)
                        | contradiction
                        | exact absurd h22 (Int32.not_lt.mpr (by assumption))
                        | exact absurd h22 (Int32.not_le.mpr (by assumption))
                        | exact absurd h22 (by decide)
                        | exact absurd (by decide) h22
                        | ( try simp (disch := omega) only [← nI_0, nI_leI, nI_ltI, nI_eq, not_true_eq_false, not_false_eq_true] at h22
                            (try have h22b := zbit_n0.mp h22); (try have h22b := zbit_p0.mp h22)
                            refine z_aload_0 d_Tf_mean_43 ?_
                            refine z_iconst (a := nI 5) d_Tf_mean_44 (by decide) ?_
                            refine z_Vi1 d_Tf_mean_45 k_Tf_119 (by first | assumption | exact zS0_at (by assumption) (by omega) | exact zS0_at rfl (by omega)) (t_Tf_refuse (by assumption)) ⟨Nat.le_of_ble_eq_true rfl, Nat.le_of_ble_eq_true rfl, Nat.le_of_ble_eq_true rfl, Nat.le_of_ble_eq_true rfl⟩ (Nat.le_of_ble_eq_true rfl) ?_
                            intro r w hq
                            obtain ⟨rfl, rfl⟩ := hq
                            refine z_retz d_Tf_mean_48 (by first | exact zb0 | exact zb1 | assumption) ?_
                            exact ⟨rfl, cW_0⟩)
                      · first
                        | (simp (disch := omega) only [← nI_0, nI_leI, nI_ltI, nI_eq, not_true_eq_false, not_false_eq_true] at h22; done)
                        | (simp (disch := omega) only [← nI_0, nI_leI, nI_ltI, nI_eq, not_true_eq_false, not_false_eq_true] at h22; omega)
                        | contradiction
                        | exact absurd h22 (Int32.not_lt.mpr (by assumption))
                        | exact absurd h22 (Int32.not_le.mpr (by assumption))
                        | exact absurd h22 (by decide)
                        | exact absurd (by decide) h22
                        | ( try simp (disch := omega) only [← nI_0, nI_leI, nI_ltI, nI_eq, not_true_eq_false, not_false_eq_true] at h22
                            (try have h22b := zbit_n0.mp h22); (try have h22b := zbit_p0.mp h22)
                            refine z_iload_1 d_Tf_mean_25 ?_
                            refine z_sipush (a := nI 9999) d_Tf_mean_26 (by decide) ?_
                            refine z_icmp_gt (tgt := 43) d_Tf_mean_29 (by decide) (fun h29 => ?_) (fun h29 => ?_)
                            · first
                              | (simp (disch := omega) only [← nI_0, nI_leI, nI_ltI, nI_eq, not_true_eq_false, not_false_eq_true] at h29; done)
                              | (simp (disch := omega) only [← nI_0, nI_leI, nI_ltI, nI_eq, not_true_eq_false, not_false_eq_true] at h29; omega)
                              | contradiction
                              | exact absurd h29 (Int32.not_lt.mpr (by assumption))
                              | exact absurd h29 (Int32.not_le.mpr (by assumption))
                              | exact absurd h29 (by decide)
                              | exact absurd (by decide) h29
                              | ( try simp (disch := omega) only [← nI_0, nI_leI, nI_ltI, nI_eq, not_true_eq_false, not_false_eq_true] at h29
                                  (try have h29b := zbit_n0.mp h29); (try have h29b := zbit_p0.mp h29)
                                  refine z_aload_0 d_Tf_mean_43 ?_
                                  refine z_iconst (a := nI 5) d_Tf_mean_44 (by decide) ?_
                                  refine z_Vi1 d_Tf_mean_45 k_Tf_119 (by first | assumption | exact zS0_at (by assumption) (by omega) | exact zS0_at rfl (by omega)) (t_Tf_refuse (by assumption)) ⟨Nat.le_of_ble_eq_true rfl, Nat.le_of_ble_eq_true rfl, Nat.le_of_ble_eq_true rfl, Nat.le_of_ble_eq_true rfl⟩ (Nat.le_of_ble_eq_true rfl) ?_
                                  intro r w hq
                                  obtain ⟨rfl, rfl⟩ := hq
                                  refine z_retz d_Tf_mean_48 (by first | exact zb0 | exact zb1 | assumption) ?_
                                  exact ⟨rfl, cW_0⟩)
                            · first
                              | (simp (disch := omega) only [← nI_0, nI_leI, nI_ltI, nI_eq, not_true_eq_false, not_false_eq_true] at h29; done)
                              | (simp (disch := omega) only [← nI_0, nI_leI, nI_ltI, nI_eq, not_true_eq_false, not_false_eq_true] at h29; omega)
                              | contradiction
                              | exact absurd h29 (Int32.not_lt.mpr (by assumption))
                              | exact absurd h29 (Int32.not_le.mpr (by assumption))
                              | exact absurd h29 (by decide)
                              | exact absurd (by decide) h29
                              | ( try simp (disch := omega) only [← nI_0, nI_leI, nI_ltI, nI_eq, not_true_eq_false, not_false_eq_true] at h29
                                  (try have h29b := zbit_n0.mp h29); (try have h29b := zbit_p0.mp h29)
                                  refine z_iload_1 d_Tf_mean_32 ?_
                                  refine z_iload_2 d_Tf_mean_33 ?_
                                  first | refine z_iaddN d_Tf_mean_34 ?_ | refine z_iadd d_Tf_mean_34 ?_
                                  refine z_iconst (a := nI 1) d_Tf_mean_35 (by decide) ?_
                                  first | refine z_isubN d_Tf_mean_36 (by omega) ?_ | refine z_isub d_Tf_mean_36 ?_
                                  refine z_sipush (a := nI 9999) d_Tf_mean_37 (by decide) ?_
                                  refine z_icmp_le (tgt := 49) d_Tf_mean_40 (by decide) (fun h40 => ?_) (fun h40 => ?_)
                                  · first
                                    | (simp (disch := omega) only [← nI_0, nI_leI, nI_ltI, nI_eq, not_true_eq_false, not_false_eq_true] at h40; done)
                                    | (simp (disch := omega) only [← nI_0, nI_leI, nI_ltI, nI_eq, not_true_eq_false, not_false_eq_true] at h40; omega)
                                    | contradiction
                                    | exact absurd h40 (Int32.not_lt.mpr (by assumption))
                                    | exact absurd h40 (Int32.not_le.mpr (by assumption))
                                    | exact absurd h40 (by decide)
                                    | exact absurd (by decide) h40
                                    | ( try simp (disch := omega) only [← nI_0, nI_leI, nI_ltI, nI_eq, not_true_eq_false, not_false_eq_true] at h40
                                        (try have h40b := zbit_n0.mp h40); (try have h40b := zbit_p0.mp h40)
                                        fail)
                                  · first
                                    | (simp (disch := omega) only [← nI_0, nI_leI, nI_ltI, nI_eq, not_true_eq_false, not_false_eq_true] at h40; done)
                                    | (simp (disch := omega) only [← nI_0, nI_leI, nI_ltI, nI_eq, not_true_eq_false, not_false_eq_true] at h40; omega)
                                    | contradiction
                                    | exact absurd h40 (Int32.not_lt.mpr (by assumption))
                                    | exact absurd h40 (Int32.not_le.mpr (by assumption))
                                    | exact absurd h40 (by decide)
                                    | exact absurd (by decide) h40
                                    | ( try simp (disch := omega) only [← nI_0, nI_leI, nI_ltI, nI_eq, not_true_eq_false, not_false_eq_true] at h40
                                        (try have h40b := zbit_n0.mp h40); (try have h40b := zbit_p0.mp h40)
                                        refine z_aload_0 d_Tf_mean_43 ?_
                                        refine z_iconst (a := nI 5) d_Tf_mean_44 (by decide) ?_
                                        refine z_Vi1 d_Tf_mean_45 k_Tf_119 (by first | assumption | exact zS0_at (by assumption) (by omega) | exact zS0_at rfl (by omega)) (t_Tf_refuse (by assumption)) ⟨Nat.le_of_ble_eq_true rfl, Nat.le_of_ble_eq_true rfl, Nat.le_of_ble_eq_true rfl, Nat.le_of_ble_eq_true rfl⟩ (Nat.le_of_ble_eq_true rfl) ?_
                                        intro r w hq
                                        obtain ⟨rfl, rfl⟩ := hq
                                        refine z_retz d_Tf_mean_48 (by first | exact zb0 | exact zb1 | assumption) ?_
                                        exact ⟨rfl, cW_0⟩)))))
          · first
            | (simp (disch := omega) only [← nI_0, nI_leI, nI_ltI, nI_eq, not_true_eq_false, not_false_eq_true] at h8; done)
            | (simp (disch := omega) only [← nI_0, nI_leI, nI_ltI, nI_eq, not_true_eq_false, not_false_eq_true] at h8; omega)
            | contradiction
            | exact absurd h8 (Int32.not_lt.mpr (by assumption))
            | exact absurd h8 (Int32.not_le.mpr (by assumption))
            | exact absurd h8 (by decide)
            | exact absurd (by decide) h8
            | ( try simp (disch := omega) only [← nI_0, nI_leI, nI_ltI, nI_eq, not_true_eq_false, not_false_eq_true] at h8
                (try have h8b := zbit_n0.mp h8); (try have h8b := zbit_p0.mp h8)
                refine z_iconst (a := nI 1) d_Tf_mean_11 (by decide) ?_
                refine z_goto (tgt := 16) d_Tf_mean_12 (by decide) ?_
                first | refine z_istore_3 d_Tf_mean_16 rfl ?_ | (refine z_forget_2 ?_; refine z_istore_3 d_Tf_mean_16 rfl ?_)
                refine z_iload_3 d_Tf_mean_17 ?_
                refine z_if_ne (tgt := 43) d_Tf_mean_18 (by decide) (fun h18 => ?_) (fun h18 => ?_)
                · first
                  | (simp (disch := omega) only [← nI_0, nI_leI, nI_ltI, nI_eq, not_true_eq_false, not_false_eq_true] at h18; done)
                  | (simp (disch := omega) only [← nI_0, nI_leI, nI_ltI, nI_eq, not_true_eq_false, not_false_eq_true] at h18; omega)
                  | contradiction
                  | exact absurd h18 (Int32.not_lt.mpr (by assumption))
                  | exact absurd h18 (Int32.not_le.mpr (by assumption))
                  | exact absurd h18 (by decide)
                  | exact absurd (by decide) h18
                  | ( try simp (disch := omega) only [← nI_0, nI_leI, nI_ltI, nI_eq, not_true_eq_false, not_false_eq_true] at h18
                      (try have h18b := zbit_n0.mp h18); (try have h18b := zbit_p0.mp h18)
                      refine z_aload_0 d_Tf_mean_43 ?_
                      refine z_iconst (a := nI 5) d_Tf_mean_44 (by decide) ?_
                      refine z_Vi1 d_Tf_mean_45 k_Tf_119 (by first | assumption | exact zS0_at (by assumption) (by omega) | exact zS0_at rfl (by omega)) (t_Tf_refuse (by assumption)) ⟨Nat.le_of_ble_eq_true rfl, Nat.le_of_ble_eq_true rfl, Nat.le_of_ble_eq_true rfl, Nat.le_of_ble_eq_true rfl⟩ (Nat.le_of_ble_eq_true rfl) ?_
                      intro r w hq
                      obtain ⟨rfl, rfl⟩ := hq
                      refine z_retz d_Tf_mean_48 (by first | exact zb0 | exact zb1 | assumption) ?_
                      exact ⟨rfl, cW_0⟩)
                · first
                  | (simp (disch := omega) only [← nI_0, nI_leI, nI_ltI, nI_eq, not_true_eq_false, not_false_eq_true] at h18; done)
                  | (simp (disch := omega) only [← nI_0, nI_leI, nI_ltI, nI_eq, not_true_eq_false, not_false_eq_true] at h18; omega)
                  | contradiction
                  | exact absurd h18 (Int32.not_lt.mpr (by assumption))
                  | exact absurd h18 (Int32.not_le.mpr (by assumption))
                  | exact absurd h18 (by decide)
                  | exact absurd (by decide) h18
                  | ( try simp (disch := omega) only [← nI_0, nI_leI, nI_ltI, nI_eq, not_true_eq_false, not_false_eq_true] at h18
                      (try have h18b := zbit_n0.mp h18); (try have h18b := zbit_p0.mp h18)
                      refine z_iload_1 d_Tf_mean_21 ?_
                      refine z_if_lt (tgt := 43) d_Tf_mean_22 (by decide) (fun h22 => ?_) (fun h22 => ?_)
                      · first
                        | (simp (disch := omega) only [← nI_0, nI_leI, nI_ltI, nI_eq, not_true_eq_false, not_false_eq_true] at h22; done)
                        | (simp (disch := omega) only [← nI_0, nI_leI, nI_ltI, nI_eq, not_true_eq_false, not_false_eq_true] at h22; omega)
                        | contradiction
                        | exact absurd h22 (Int32.not_lt.mpr (by assumption))
                        | exact absurd h22 (Int32.not_le.mpr (by assumption))
                        | exact absurd h22 (by decide)
                        | exact absurd (by decide) h22
                        | ( try simp (disch := omega) only [← nI_0, nI_leI, nI_ltI, nI_eq, not_true_eq_false, not_false_eq_true] at h22
                            (try have h22b := zbit_n0.mp h22); (try have h22b := zbit_p0.mp h22)
                            refine z_aload_0 d_Tf_mean_43 ?_
                            refine z_iconst (a := nI 5) d_Tf_mean_44 (by decide) ?_
                            refine z_Vi1 d_Tf_mean_45 k_Tf_119 (by first | assumption | exact zS0_at (by assumption) (by omega) | exact zS0_at rfl (by omega)) (t_Tf_refuse (by assumption)) ⟨Nat.le_of_ble_eq_true rfl, Nat.le_of_ble_eq_true rfl, Nat.le_of_ble_eq_true rfl, Nat.le_of_ble_eq_true rfl⟩ (Nat.le_of_ble_eq_true rfl) ?_
                            intro r w hq
                            obtain ⟨rfl, rfl⟩ := hq
                            refine z_retz d_Tf_mean_48 (by first | exact zb0 | exact zb1 | assumption) ?_
                            exact ⟨rfl, cW_0⟩)
                      · first
                        | (simp (disch := omega) only [← nI_0, nI_leI, nI_ltI, nI_eq, not_true_eq_false, not_false_eq_true] at h22; done)
                        | (simp (disch := omega) only [← nI_0, nI_leI, nI_ltI, nI_eq, not_true_eq_false, not_false_eq_true] at h22; omega)
                        | contradiction
                        | exact absurd h22 (Int32.not_lt.mpr (by assumption))
                        | exact absurd h22 (Int32.not_le.mpr (by assumption))
                        | exact absurd h22 (by decide)
                        | exact absurd (by decide) h22
                        | ( try simp (disch := omega) only [← nI_0, nI_leI, nI_ltI, nI_eq, not_true_eq_false, not_false_eq_true] at h22
                            (try have h22b := zbit_n0.mp h22); (try have h22b := zbit_p0.mp h22)
                            refine z_iload_1 d_Tf_mean_25 ?_
                            refine z_sipush (a := nI 9999) d_Tf_mean_26 (by decide) ?_
                            refine z_icmp_gt (tgt := 43) d_Tf_mean_29 (by decide) (fun h29 => ?_) (fun h29 => ?_)
                            · first
                              | (simp (disch := omega) only [← nI_0, nI_leI, nI_ltI, nI_eq, not_true_eq_false, not_false_eq_true] at h29; done)
                              | (simp (disch := omega) only [← nI_0, nI_leI, nI_ltI, nI_eq, not_true_eq_false, not_false_eq_true] at h29; omega)
                              | contradiction
                              | exact absurd h29 (Int32.not_lt.mpr (by assumption))
                              | exact absurd h29 (Int32.not_le.mpr (by assumption))
                              | exact absurd h29 (by decide)
                              | exact absurd (by decide) h29
                              | ( try simp (disch := omega) only [← nI_0, nI_leI, nI_ltI, nI_eq, not_true_eq_false, not_false_eq_true] at h29
                                  (try have h29b := zbit_n0.mp h29); (try have h29b := zbit_p0.mp h29)
                                  refine z_aload_0 d_Tf_mean_43 ?_
                                  refine z_iconst (a := nI 5) d_Tf_mean_44 (by decide) ?_
                                  refine z_Vi1 d_Tf_mean_45 k_Tf_119 (by first | assumption | exact zS0_at (by assumption) (by omega) | exact zS0_at rfl (by omega)) (t_Tf_refuse (by assumption)) ⟨Nat.le_of_ble_eq_true rfl, Nat.le_of_ble_eq_true rfl, Nat.le_of_ble_eq_true rfl, Nat.le_of_ble_eq_true rfl⟩ (Nat.le_of_ble_eq_true rfl) ?_
                                  intro r w hq
                                  obtain ⟨rfl, rfl⟩ := hq
                                  refine z_retz d_Tf_mean_48 (by first | exact zb0 | exact zb1 | assumption) ?_
                                  exact ⟨rfl, cW_0⟩)
                            · first
                              | (simp (disch := omega) only [← nI_0, nI_leI, nI_ltI, nI_eq, not_true_eq_false, not_false_eq_true] at h29; done)
                              | (simp (disch := omega) only [← nI_0, nI_leI, nI_ltI, nI_eq, not_true_eq_false, not_false_eq_true] at h29; omega)
                              | contradiction
                              | exact absurd h29 (Int32.not_lt.mpr (by assumption))
                              | exact absurd h29 (Int32.not_le.mpr (by assumption))
                              | exact absurd h29 (by decide)
                              | exact absurd (by decide) h29
                              | ( try simp (disch := omega) only [← nI_0, nI_leI, nI_ltI, nI_eq, not_true_eq_false, not_false_eq_true] at h29
                                  (try have h29b := zbit_n0.mp h29); (try have h29b := zbit_p0.mp h29)
                                  refine z_iload_1 d_Tf_mean_32 ?_
                                  refine z_iload_2 d_Tf_mean_33 ?_
                                  first | refine z_iaddN d_Tf_mean_34 ?_ | refine z_iadd d_Tf_mean_34 ?_
                                  refine z_iconst (a := nI 1) d_Tf_mean_35 (by decide) ?_
                                  first | refine z_isubN d_Tf_mean_36 (by omega) ?_ | refine z_isub d_Tf_mean_36 ?_
                                  refine z_sipush (a := nI 9999) d_Tf_mean_37 (by decide) ?_
                                  refine z_icmp_le (tgt := 49) d_Tf_mean_40 (by decide) (fun h40 => ?_) (fun h40 => ?_)
                                  · first
                                    | (simp (disch := omega) only [← nI_0, nI_leI, nI_ltI, nI_eq, not_true_eq_false, not_false_eq_true] at h40; done)
                                    | (simp (disch := omega) only [← nI_0, nI_leI, nI_ltI, nI_eq, not_true_eq_false, not_false_eq_true] at h40; omega)
                                    | contradiction
                                    | exact absurd h40 (Int32.not_lt.mpr (by assumption))
                                    | exact absurd h40 (Int32.not_le.mpr (by assumption))
                                    | exact absurd h40 (by decide)
                                    | exact absurd (by decide) h40
                                    | ( try simp (disch := omega) only [← nI_0, nI_leI, nI_ltI, nI_eq, not_true_eq_false, not_false_eq_true] at h40
                                        (try have h40b := zbit_n0.mp h40); (try have h40b := zbit_p0.mp h40)
                                        fail)
                                  · first
                                    | (simp (disch := omega) only [← nI_0, nI_leI, nI_ltI, nI_eq, not_true_eq_false, not_false_eq_true] at h40; done)
                                    | (simp (disch := omega) only [← nI_0, nI_leI, nI_ltI, nI_eq, not_true_eq_false, not_false_eq_true] at h40; omega)
                                    | contradiction
                                    | exact absurd h40 (Int32.not_lt.mpr (by assumption))
                                    | exact absurd h40 (Int32.not_le.mpr (by assumption))
                                    | exact absurd h40 (by decide)
                                    | exact absurd (by decide) h40
                                    | ( try simp (disch := omega) only [← nI_0, nI_leI, nI_ltI, nI_eq, not_true_eq_false, not_false_eq_true] at h40
                                        (try have h40b := zbit_n0.mp h40); (try have h40b := zbit_p0.mp h40)
                                        refine z_aload_0 d_Tf_mean_43 ?_
                                        refine z_iconst (a := nI 5) d_Tf_mean_44 (by decide) ?_
                                        refine z_Vi1 d_Tf_mean_45 k_Tf_119 (by first | assumption | exact zS0_at (by assumption) (by omega) | exact zS0_at rfl (by omega)) (t_Tf_refuse (by assumption)) ⟨Nat.le_of_ble_eq_true rfl, Nat.le_of_ble_eq_true rfl, Nat.le_of_ble_eq_true rfl, Nat.le_of_ble_eq_true rfl⟩ (Nat.le_of_ble_eq_true rfl) ?_
                                        intro r w hq
                                        obtain ⟨rfl, rfl⟩ := hq
                                        refine z_retz d_Tf_mean_48 (by first | exact zb0 | exact zb1 | assumption) ?_
                                        exact ⟨rfl, cW_0⟩))))))
theorem t_Tf_mean_n (Z : clOk f d P S) (h1 : 1 ≤ mm) (h2 : mm ≤ 20) (h3 : s + mm ≤ 10000) (h0 : I (f + 12) 0 = nI 0) : zEi G y_Tf_mean prog_1_method_50_code 7 (some .boolean) 8 [.ref 0, .int (nI s), .int (nI mm)] (I, J, P, S) (fun r w => r = nI 0 ∧ cW I J P S 8 w) := by
  obtain ⟨⟨c0, c3, c1s⟩, ⟨c5, c2s, ctr⟩, ⟨c6, c11s, c11, c13s⟩, ⟨c7, c15s, c15⟩, ⟨c8, c16s, c16a, c16b, c17s⟩, ⟨c9, c10, cfd, F, Fd⟩, ⟨c11b, Ft⟩, ⟨c12, c69s, cmk⟩, ⟨c14, c121s, c121, c122s⟩, ⟨c15b, c123s, c123, c124s⟩, ⟨c16, c125s, c125, c126s⟩, ⟨c17, c127s, c127, c128s, ctb⟩, ⟨c18, c139s, c139, c140s⟩, ⟨c19, c141s, ⟨c141a, c142s⟩, ⟨c141b, c143s⟩, ⟨c141c, c144s⟩⟩, M⟩ := id Z
  obtain ⟨F0, ⟨F8, F8s⟩, ⟨F9, F9s⟩, ⟨F10, F10s⟩, ⟨F11, F11s⟩, ⟨F12, F12s⟩, ⟨F13, F13s⟩, ⟨F14, F14s⟩, ⟨F15, F15s⟩, ⟨F16, F16s⟩, ⟨F17, F17s⟩, ⟨F18, F18s⟩, ⟨F19, F19s⟩, ⟨Y3, Y3s⟩, ⟨Y4, Y4s⟩, ⟨Y5, Y5s⟩, ⟨Y6, Y6s⟩⟩ := id F
  refine zEi_of (lv := [some (.ref 0), some (.int (nI s)), some (.int (nI mm)), none, none, none, none]) (by decide) rfl (Nat.le_of_ble_eq_true rfl) ?_
  refine z_iload_2 d_Tf_mean_0 ?_
  refine z_iconst (a := nI 1) d_Tf_mean_1 (by decide) ?_
  refine z_icmp_lt (tgt := 11) d_Tf_mean_2 (by decide) (fun h2 => ?_) (fun h2 => ?_)
  · first
    | (simp (disch := omega) only [← nI_0, nI_leI, nI_ltI, nI_eq, not_true_eq_false, not_false_eq_true] at h2; done)
    | (simp (disch := omega) only [← nI_0, nI_leI, nI_ltI, nI_eq, not_true_eq_false, not_false_eq_true] at h2; omega)
    | contradiction
    | exact absurd h2 (Int32.not_lt.mpr (by assumption))
    | exact absurd h2 (Int32.not_le.mpr (by assumption))
    | exact absurd h2 (by decide)
    | exact absurd (by decide) h2
    | ( try simp (disch := omega) only [← nI_0, nI_leI, nI_ltI, nI_eq, not_true_eq_false, not_false_eq_true] at h2
        (try have h2b := zbit_n0.mp h2); (try have h2b := zbit_p0.mp h2)
        refine z_iconst (a := nI 1) d_Tf_mean_11 (by decide) ?_
        refine z_goto (tgt := 16) d_Tf_mean_12 (by decide) ?_
        first | refine z_istore_3 d_Tf_mean_16 rfl ?_ | (refine z_forget_2 ?_; refine z_istore_3 d_Tf_mean_16 rfl ?_)
        refine z_iload_3 d_Tf_mean_17 ?_
        refine z_if_ne (tgt := 43) d_Tf_mean_18 (by decide) (fun h18 => ?_) (fun h18 => ?_)
        · first
          | (simp (disch := omega) only [← nI_0, nI_leI, nI_ltI, nI_eq, not_true_eq_false, not_false_eq_true] at h18; done)
          | (simp (disch := omega) only [← nI_0, nI_leI, nI_ltI, nI_eq, not_true_eq_false, not_false_eq_true] at h18; omega)
          | contradiction
          | exact absurd h18 (Int32.not_lt.mpr (by assumption))
          | exact absurd h18 (Int32.not_le.mpr (by assumption))
          | exact absurd h18 (by decide)
          | exact absurd (by decide) h18
          | ( try simp (disch := omega) only [← nI_0, nI_leI, nI_ltI, nI_eq, not_true_eq_false, not_false_eq_true] at h18
              (try have h18b := zbit_n0.mp h18); (try have h18b := zbit_p0.mp h18)
              refine z_aload_0 d_Tf_mean_43 ?_
              refine z_iconst (a := nI 5) d_Tf_mean_44 (by decide) ?_
              refine z_Vi1 d_Tf_mean_45 k_Tf_119 (by first | assumption | exact zS0_at (by assumption) (by omega) | exact zS0_at rfl (by omega)) (t_Tf_refuse (by assumption)) ⟨Nat.le_of_ble_eq_true rfl, Nat.le_of_ble_eq_true rfl, Nat.le_of_ble_eq_true rfl, Nat.le_of_ble_eq_true rfl⟩ (Nat.le_of_ble_eq_true rfl) ?_
              intro r w hq
              obtain ⟨rfl, rfl⟩ := hq
              refine z_retz d_Tf_mean_48 (by first | exact zb0 | exact zb1 | assumption) ?_
              exact ⟨rfl, cW_0⟩)
        · first
          | (simp (disch := omega) only [← nI_0, nI_leI, nI_ltI, nI_eq, not_true_eq_false, not_false_eq_true] at h18; done)
          | (simp (disch := omega) only [← nI_0, nI_leI, nI_ltI, nI_eq, not_true_eq_false, not_false_eq_true] at h18; omega)
          | contradiction
          | exact absurd h18 (Int32.not_lt.mpr (by assumption))
          | exact absurd h18 (Int32.not_le.mpr (by assumption))
          | exact absurd h18 (by decide)
          | exact absurd (by decide) h18
          | ( try simp (disch := omega) only [← nI_0, nI_leI, nI_ltI, nI_eq, not_true_eq_false, not_false_eq_true] at h18
              (try have h18b := zbit_n0.mp h18); (try have h18b := zbit_p0.mp h18)
              refine z_iload_1 d_Tf_mean_21 ?_
              refine z_if_lt (tgt := 43) d_Tf_mean_22 (by decide) (fun h22 => ?_) (fun h22 => ?_)
              · first
                | (simp (disch := omega) only [← nI_0, nI_leI, nI_ltI, nI_eq, not_true_eq_false, not_false_eq_true] at h22; done)
                | (simp (disch := omega) only [← nI_0, nI_leI, nI_ltI, nI_eq, not_true_eq_false, not_false_eq_true] at h22; omega)
                | contradiction
                | exact absurd h22 (Int32.not_lt.mpr (by assumption))
                | exact absurd h22 (Int32.not_le.mpr (by assumption))
                | exact absurd h22 (by decide)
                | exact absurd (by decide) h22
                | ( try simp (disch := omega) only [← nI_0, nI_leI, nI_ltI, nI_eq, not_true_eq_false, not_false_eq_true] at h22
                    (try have h22b := zbit_n0.mp h22); (try have h22b := zbit_p0.mp h22)
                    refine z_aload_0 d_Tf_mean_43 ?_
                    refine z_iconst (a := nI 5) d_Tf_mean_44 (by decide) ?_
                    refine z_Vi1 d_Tf_mean_45 k_Tf_119 (by first | assumption | exact zS0_at (by assumption) (by omega) | exact zS0_at rfl (by omega)) (t_Tf_refuse (by assumption)) ⟨Nat.le_of_ble_eq_true rfl, Nat.le_of_ble_eq_true rfl, Nat.le_of_ble_eq_true rfl, Nat.le_of_ble_eq_true rfl⟩ (Nat.le_of_ble_eq_true rfl) ?_
                    intro r w hq
                    obtain ⟨rfl, rfl⟩ := hq
                    refine z_retz d_Tf_mean_48 (by first | exact zb0 | exact zb1 | assumption) ?_
                    exact ⟨rfl, cW_0⟩)
              · first
                | (simp (disch := omega) only [← nI_0, nI_leI, nI_ltI, nI_eq, not_true_eq_false, not_false_eq_true] at h22; done)
                | (simp (disch := omega) only [← nI_0, nI_leI, nI_ltI, nI_eq, not_true_eq_false, not_false_eq_true] at h22; omega)
                | contradiction
                | exact absurd h22 (Int32.not_lt.mpr (by assumption))
                | exact absurd h22 (Int32.not_le.mpr (by assumption))
                | exact absurd h22 (by decide)
                | exact absurd (by decide) h22
                | ( try simp (disch := omega) only [← nI_0, nI_leI, nI_ltI, nI_eq, not_true_eq_false, not_false_eq_true] at h22
                    (try have h22b := zbit_n0.mp h22); (try have h22b := zbit_p0.mp h22)
                    refine z_iload_1 d_Tf_mean_25 ?_
                    refine z_sipush (a := nI 9999) d_Tf_mean_26 (by decide) ?_
                    refine z_icmp_gt (tgt := 43) d_Tf_mean_29 (by decide) (fun h29 => ?_) (fun h29 => ?_)
                    · first
                      | (simp (disch := omega) only [← nI_0, nI_leI, nI_ltI, nI_eq, not_true_eq_false, not_false_eq_true] at h29; done)
                      | (simp (disch := omega) only [← nI_0, nI_leI, nI_ltI, nI_eq, not_true_eq_false, not_false_eq_true] at h29; omega)
                      | contradiction
                      | exact absurd h29 (Int32.not_lt.mpr (by assumption))
                      | exact absurd h29 (Int32.not_le.mpr (by assumption))
                      | exact absurd h29 (by decide)
                      | exact absurd (by decide) h29
                      | ( try simp (disch := omega) only [← nI_0, nI_leI, nI_ltI, nI_eq, not_true_eq_false, not_false_eq_true] at h29
                          (try have h29b := zbit_n0.mp h29); (try have h29b := zbit_p0.mp h29)
                          refine z_aload_0 d_Tf_mean_43 ?_
                          refine z_iconst (a := nI 5) d_Tf_mean_44 (by decide) ?_
                          refine z_Vi1 d_Tf_mean_45 k_Tf_119 (by first | assumption | exact zS0_at (by assumption) (by omega) | exact zS0_at rfl (by omega)) (t_Tf_refuse (by assumption)) ⟨Nat.le_of_ble_eq_true rfl, Nat.le_of_ble_eq_true rfl, Nat.le_of_ble_eq_true rfl, Nat.le_of_ble_eq_true rfl⟩ (Nat.le_of_ble_eq_true rfl) ?_
                          intro r w hq
                          obtain ⟨rfl, rfl⟩ := hq
                          refine z_retz d_Tf_mean_48 (by first | exact zb0 | exact zb1 | assumption) ?_
                          exact ⟨rfl, cW_0⟩)
                    · first
                      | (simp (disch := omega) only [← nI_0, nI_leI, nI_ltI, nI_eq, not_true_eq_false, not_false_eq_true] at h29; done)
                      | (simp (disch := omega) only [← nI_0, nI_leI, nI_ltI, nI_eq, not_true_eq_false, not_false_eq_true] at h29; omega)
                      | contradiction
                      | exact absurd h29 (Int32.not_lt.mpr (by assumption))
                      | exact absurd h29 (Int32.not_le.mpr (by assumption))
                      | exact absurd h29 (by decide)
                      | exact absurd (by decide) h29
                      | ( try simp (disch := omega) only [← nI_0, nI_leI, nI_ltI, nI_eq, not_true_eq_false, not_false_eq_true] at h29
                          (try have h29b := zbit_n0.mp h29); (try have h29b := zbit_p0.mp h29)
                          refine z_iload_1 d_Tf_mean_32 ?_
                          refine z_iload_2 d_Tf_mean_33 ?_
                          first | refine z_iaddN d_Tf_mean_34 ?_ | refine z_iadd d_Tf_mean_34 ?_
                          refine z_iconst (a := nI 1) d_Tf_mean_35 (by decide) ?_
                          first | refine z_isubN d_Tf_mean_36 (by omega) ?_ | refine z_isub d_Tf_mean_36 ?_
                          refine z_sipush (a := nI 9999) d_Tf_mean_37 (by decide) ?_
                          refine z_icmp_le (tgt := 49) d_Tf_mean_40 (by decide) (fun h40 => ?_) (fun h40 => ?_)
                          · first
                            | (simp (disch := omega) only [← nI_0, nI_leI, nI_ltI, nI_eq, not_true_eq_false, not_false_eq_true] at h40; done)
                            | (simp (disch := omega) only [← nI_0, nI_leI, nI_ltI, nI_eq, not_true_eq_false, not_false_eq_true] at h40; omega)
                            | contradiction
                            | exact absurd h40 (Int32.not_lt.mpr (by assumption))
                            | exact absurd h40 (Int32.not_le.mpr (by assumption))
                            | exact absurd h40 (by decide)
                            | exact absurd (by decide) h40
                            | ( try simp (disch := omega) only [← nI_0, nI_leI, nI_ltI, nI_eq, not_true_eq_false, not_false_eq_true] at h40
                                (try have h40b := zbit_n0.mp h40); (try have h40b := zbit_p0.mp h40)
                                refine z_aload_0 d_Tf_mean_49 ?_
                                refine z_getR d_Tf_mean_50 f_Tf_60 (by first | assumption | exact zS0_at (by assumption) (by omega) | exact zS0_at rfl (by omega)) (by first | assumption | exact zS0_at (by assumption) (by omega) | exact zS0_at rfl (by omega)) ?_
                                refine z_getR d_Tf_mean_53 f_Tf_177 (by first | assumption | exact zS0_at (by assumption) (by omega) | exact zS0_at rfl (by omega)) (by first | assumption | exact zS0_at (by assumption) (by omega) | exact zS0_at rfl (by omega)) ?_
                                refine z_getIv d_Tf_mean_56 f_Tf_388 (by first | assumption | exact zS0_at (by assumption) (by omega) | exact zS0_at rfl (by omega)) (by first | assumption | ((try simp (disch := omega) only [zu_same, zu_ne, zcp_ne, zfl_ne]); first | assumption | rfl)) ?_
                                refine z_if_ne (tgt := 69) d_Tf_mean_59 (by decide) (fun h59 => ?_) (fun h59 => ?_)
                                · first
                                  | (simp (disch := omega) only [← nI_0, nI_leI, nI_ltI, nI_eq, not_true_eq_false, not_false_eq_true] at h59; done)
                                  | (simp (disch := omega) only [← nI_0, nI_leI, nI_ltI, nI_eq, not_true_eq_false, not_false_eq_true] at h59; omega)
                                  | contradiction
                                  | exact absurd h59 (Int32.not_lt.mpr (by assumption))
                                  | exact absurd h59 (Int32.not_le.mpr (by assumption))
                                  | exact absurd h59 (by decide)
                                  | exact absurd (by decide) h59
                                  | ( try simp (disch := omega) only [← nI_0, nI_leI, nI_ltI, nI_eq, not_true_eq_false, not_false_eq_true] at h59
                                      (try have h59b := zbit_n0.mp h59); (try have h59b := zbit_p0.mp h59)
                                      fail)
                                · first
                                  | (simp (disch := omega) only [← nI_0, nI_leI, nI_ltI, nI_eq, not_true_eq_false, not_false_eq_true] at h59; done)
                                  | (simp (disch := omega) only [← nI_0, nI_leI, nI_ltI, nI_eq, not_true_eq_false, not_false_eq_true] at h59; omega)
                                  | contradiction
                                  | exact absurd h59 (Int32.not_lt.mpr (by assumption))
                                  | exact absurd h59 (Int32.not_le.mpr (by assumption))
                                  | exact absurd h59 (by decide)
                                  | exact absurd (by decide) h59
                                  | ( try simp (disch := omega) only [← nI_0, nI_leI, nI_ltI, nI_eq, not_true_eq_false, not_false_eq_true] at h59
                                      (try have h59b := zbit_n0.mp h59); (try have h59b := zbit_p0.mp h59)
                                      refine z_aload_0 d_Tf_mean_62 ?_
                                      refine z_bipush (a := nI 8) d_Tf_mean_63 (by decide) ?_
                                      refine z_Vi1 d_Tf_mean_65 k_Tf_119 (by first | assumption | exact zS0_at (by assumption) (by omega) | exact zS0_at rfl (by omega)) (t_Tf_refuse (by assumption)) ⟨Nat.le_of_ble_eq_true rfl, Nat.le_of_ble_eq_true rfl, Nat.le_of_ble_eq_true rfl, Nat.le_of_ble_eq_true rfl⟩ (Nat.le_of_ble_eq_true rfl) ?_
                                      intro r w hq
                                      obtain ⟨rfl, rfl⟩ := hq
                                      refine z_retz d_Tf_mean_68 (by first | exact zb0 | exact zb1 | assumption) ?_
                                      exact ⟨rfl, cW_0⟩))
                          · first
                            | (simp (disch := omega) only [← nI_0, nI_leI, nI_ltI, nI_eq, not_true_eq_false, not_false_eq_true] at h40; done)
                            | (simp (disch := omega) only [← nI_0, nI_leI, nI_ltI, nI_eq, not_true_eq_false, not_false_eq_true] at h40; omega)
                            | contradiction
                            | exact absurd h40 (Int32.not_lt.mpr (by assumption))
                            | exact absurd h40 (Int32.not_le.mpr (by assumption))
                            | exact absurd h40 (by decide)
                            | exact absurd (by decide) h40
                            | ( try simp (disch := omega) only [← nI_0, nI_leI, nI_ltI, nI_eq, not_true_eq_false, not_false_eq_true] at h40
                                (try have h40b := zbit_n0.mp h40); (try have h40b := zbit_p0.mp h40)
                                refine z_aload_0 d_Tf_mean_43 ?_
                                refine z_iconst (a := nI 5) d_Tf_mean_44 (by decide) ?_
                                refine z_Vi1 d_Tf_mean_45 k_Tf_119 (by first | assumption | exact zS0_at (by assumption) (by omega) | exact zS0_at rfl (by omega)) (t_Tf_refuse (by assumption)) ⟨Nat.le_of_ble_eq_true rfl, Nat.le_of_ble_eq_true rfl, Nat.le_of_ble_eq_true rfl, Nat.le_of_ble_eq_true rfl⟩ (Nat.le_of_ble_eq_true rfl) ?_
                                intro r w hq
                                obtain ⟨rfl, rfl⟩ := hq
                                refine z_retz d_Tf_mean_48 (by first | exact zb0 | exact zb1 | assumption) ?_
                                exact ⟨rfl, cW_0⟩)))))
  · first
    | (simp (disch := omega) only [← nI_0, nI_leI, nI_ltI, nI_eq, not_true_eq_false, not_false_eq_true] at h2; done)
    | (simp (disch := omega) only [← nI_0, nI_leI, nI_ltI, nI_eq, not_true_eq_false, not_false_eq_true] at h2; omega)
    | contradiction
    | exact absurd h2 (Int32.not_lt.mpr (by assumption))
    | exact absurd h2 (Int32.not_le.mpr (by assumption))
    | exact absurd h2 (by decide)
    | exact absurd (by decide) h2
    | ( try simp (disch := omega) only [← nI_0, nI_leI, nI_ltI, nI_eq, not_true_eq_false, not_false_eq_true] at h2
        (try have h2b := zbit_n0.mp h2); (try have h2b := zbit_p0.mp h2)
        refine z_iload_2 d_Tf_mean_5 ?_
        refine z_bipush (a := nI 20) d_Tf_mean_6 (by decide) ?_
        refine z_icmp_le (tgt := 15) d_Tf_mean_8 (by decide) (fun h8 => ?_) (fun h8 => ?_)
        · first
          | (simp (disch := omega) only [← nI_0, nI_leI, nI_ltI, nI_eq, not_true_eq_false, not_false_eq_true] at h8; done)
          | (simp (disch := omega) only [← nI_0, nI_leI, nI_ltI, nI_eq, not_true_eq_false, not_false_eq_true] at h8; omega)
          | contradiction
          | exact absurd h8 (Int32.not_lt.mpr (by assumption))
          | exact absurd h8 (Int32.not_le.mpr (by assumption))
          | exact absurd h8 (by decide)
          | exact absurd (by decide) h8
          | ( try simp (disch := omega) only [← nI_0, nI_leI, nI_ltI, nI_eq, not_true_eq_false, not_false_eq_true] at h8
              (try have h8b := zbit_n0.mp h8); (try have h8b := zbit_p0.mp h8)
              refine z_iconst (a := nI 0) d_Tf_mean_15 (by decide) ?_
              first | refine z_istore_3 d_Tf_mean_16 rfl ?_ | (refine z_forget_2 ?_; refine z_istore_3 d_Tf_mean_16 rfl ?_)
              refine z_iload_3 d_Tf_mean_17 ?_
              refine z_if_ne (tgt := 43) d_Tf_mean_18 (by decide) (fun h18 => ?_) (fun h18 => ?_)
              · first
                | (simp (disch := omega) only [← nI_0, nI_leI, nI_ltI, nI_eq, not_true_eq_false, not_false_eq_true] at h18; done)
                | (simp (disch := omega) only [← nI_0, nI_leI, nI_ltI, nI_eq, not_true_eq_false, not_false_eq_true] at h18; omega)
                | contradiction
                | exact absurd h18 (Int32.not_lt.mpr (by assumption))
                | exact absurd h18 (Int32.not_le.mpr (by assumption))
                | exact absurd h18 (by decide)
                | exact absurd (by decide) h18
                | ( try simp (disch := omega) only [← nI_0, nI_leI, nI_ltI, nI_eq, not_true_eq_false, not_false_eq_true] at h18
                    (try have h18b := zbit_n0.mp h18); (try have h18b := zbit_p0.mp h18)
                    refine z_aload_0 d_Tf_mean_43 ?_
                    refine z_iconst (a := nI 5) d_Tf_mean_44 (by decide) ?_
                    refine z_Vi1 d_Tf_mean_45 k_Tf_119 (by first | assumption | exact zS0_at (by assumption) (by omega) | exact zS0_at rfl (by omega)) (t_Tf_refuse (by assumption)) ⟨Nat.le_of_ble_eq_true rfl, Nat.le_of_ble_eq_true rfl, Nat.le_of_ble_eq_true rfl, Nat.le_of_ble_eq_true rfl⟩ (Nat.le_of_ble_eq_true rfl) ?_
                    intro r w hq
                    obtain ⟨rfl, rfl⟩ := hq
                    refine z_retz d_Tf_mean_48 (by first | exact zb0 | exact zb1 | assumption) ?_
                    exact ⟨rfl, cW_0⟩)
              · first
                | (simp (disch := omega) only [← nI_0, nI_leI, nI_ltI, nI_eq, not_true_eq_false, not_false_eq_true] at h18; done)
                | (simp (disch := omega) only [← nI_0, nI_leI, nI_ltI, nI_eq, not_true_eq_false, not_false_eq_true] at h18; omega)
                | contradiction
                | exact absurd h18 (Int32.not_lt.mpr (by assumption))
                | exact absurd h18 (Int32.not_le.mpr (by assumption))
                | exact absurd h18 (by decide)
                | exact absurd (by decide) h18
                | ( try simp (disch := omega) only [← nI_0, nI_leI, nI_ltI, nI_eq, not_true_eq_false, not_false_eq_true] at h18
                    (try have h18b := zbit_n0.mp h18); (try have h18b := zbit_p0.mp h18)
                    refine z_iload_1 d_Tf_mean_21 ?_
                    refine z_if_lt (tgt := 43) d_Tf_mean_22 (by decide) (fun h22 => ?_) (fun h22 => ?_)
                    · first
                      | (simp (disch := omega) only [← nI_0, nI_leI, nI_ltI, nI_eq, not_true_eq_false, not_false_eq_true] at h22; done)
                      | (simp (disch := omega) only [← nI_0, nI_leI, nI_ltI, nI_eq, not_true_eq_false, not_false_eq_true] at h22; omega)
                      | contradiction
                      | exact absurd h22 (Int32.not_lt.mpr (by assumption))
                      | exact absurd h22 (Int32.not_le.mpr (by assumption))
                      | exact absurd h22 (by decide)
                      | exact absurd (by decide) h22
                      | ( try simp (disch := omega) only [← nI_0, nI_leI, nI_ltI, nI_eq, not_true_eq_false, not_false_eq_true] at h22
                          (try have h22b := zbit_n0.mp h22); (try have h22b := zbit_p0.mp h22)
                          refine z_aload_0 d_Tf_mean_43 ?_
                          refine z_iconst (a := nI 5) d_Tf_mean_44 (by decide) ?_
                          refine z_Vi1 d_Tf_mean_45 k_Tf_119 (by first | assumption | exact zS0_at (by assumption) (by omega) | exact zS0_at rfl (by omega)) (t_Tf_refuse (by assumption)) ⟨Nat.le_of_ble_eq_true rfl, Nat.le_of_ble_eq_true rfl, Nat.le_of_ble_eq_true rfl, Nat.le_of_ble_eq_true rfl⟩ (Nat.le_of_ble_eq_true rfl) ?_
                          intro r w hq
                          obtain ⟨rfl, rfl⟩ := hq
                          refine z_retz d_Tf_mean_48 (by first | exact zb0 | exact zb1 | assumption) ?_
                          exact ⟨rfl, cW_0⟩)
                    · first
                      | (simp (disch := omega) only [← nI_0, nI_leI, nI_ltI, nI_eq, not_true_eq_false, not_false_eq_true] at h22; done)
                      | (simp (disch := omega) only [← nI_0, nI_leI, nI_ltI, nI_eq, not_true_eq_false, not_false_eq_true] at h22; omega)
                      | contradiction
                      | exact absurd h22 (Int32.not_lt.mpr (by assumption))
                      | exact absurd h22 (Int32.not_le.mpr (by assumption))
                      | exact absurd h22 (by decide)
                      | exact absurd (by decide) h22
                      | ( try simp (disch := omega) only [← nI_0, nI_leI, nI_ltI, nI_eq, not_true_eq_false, not_false_eq_true] at h22
                          (try have h22b := zbit_n0.mp h22); (try have h22b := zbit_p0.mp h22)
                          refine z_iload_1 d_Tf_mean_25 ?_
                          refine z_sipush (a := nI 9999) d_Tf_mean_26 (by decide) ?_
                          refine z_icmp_gt (tgt := 43) d_Tf_mean_29 (by decide) (fun h29 => ?_) (fun h29 => ?_)
                          · first
                            | (simp (disch := omega) only [← nI_0, nI_leI, nI_ltI, nI_eq, not_true_eq_false, not_false_eq_true] at h29; done)
                            | (simp (disch := omega) only [← nI_0, nI_leI, nI_ltI, nI_eq, not_true_eq_false, not_false_eq_true] at h29; omega)
                            | contradiction
                            | exact absurd h29 (Int32.not_lt.mpr (by assumption))
                            | exact absurd h29 (Int32.not_le.mpr (by assumption))
                            | exact absurd h29 (by decide)
                            | exact absurd (by decide) h29
                            | ( try simp (disch := omega) only [← nI_0, nI_leI, nI_ltI, nI_eq, not_true_eq_false, not_false_eq_true] at h29
                                (try have h29b := zbit_n0.mp h29); (try have h29b := zbit_p0.mp h29)
                                refine z_aload_0 d_Tf_mean_43 ?_
                                refine z_iconst (a := nI 5) d_Tf_mean_44 (by decide) ?_
                                refine z_Vi1 d_Tf_mean_45 k_Tf_119 (by first | assumption | exact zS0_at (by assumption) (by omega) | exact zS0_at rfl (by omega)) (t_Tf_refuse (by assumption)) ⟨Nat.le_of_ble_eq_true rfl, Nat.le_of_ble_eq_true rfl, Nat.le_of_ble_eq_true rfl, Nat.le_of_ble_eq_true rfl⟩ (Nat.le_of_ble_eq_true rfl) ?_
                                intro r w hq
                                obtain ⟨rfl, rfl⟩ := hq
                                refine z_retz d_Tf_mean_48 (by first | exact zb0 | exact zb1 | assumption) ?_
                                exact ⟨rfl, cW_0⟩)
                          · first
                            | (simp (disch := omega) only [← nI_0, nI_leI, nI_ltI, nI_eq, not_true_eq_false, not_false_eq_true] at h29; done)
                            | (simp (disch := omega) only [← nI_0, nI_leI, nI_ltI, nI_eq, not_true_eq_false, not_false_eq_true] at h29; omega)
                            | contradiction
                            | exact absurd h29 (Int32.not_lt.mpr (by assumption))
                            | exact absurd h29 (Int32.not_le.mpr (by assumption))
                            | exact absurd h29 (by decide)
                            | exact absurd (by decide) h29
                            | ( try simp (disch := omega) only [← nI_0, nI_leI, nI_ltI, nI_eq, not_true_eq_false, not_false_eq_true] at h29
                                (try have h29b := zbit_n0.mp h29); (try have h29b := zbit_p0.mp h29)
                                refine z_iload_1 d_Tf_mean_32 ?_
                                refine z_iload_2 d_Tf_mean_33 ?_
                                first | refine z_iaddN d_Tf_mean_34 ?_ | refine z_iadd d_Tf_mean_34 ?_
                                refine z_iconst (a := nI 1) d_Tf_mean_35 (by decide) ?_
                                first | refine z_isubN d_Tf_mean_36 (by omega) ?_ | refine z_isub d_Tf_mean_36 ?_
                                refine z_sipush (a := nI 9999) d_Tf_mean_37 (by decide) ?_
                                refine z_icmp_le (tgt := 49) d_Tf_mean_40 (by decide) (fun h40 => ?_) (fun h40 => ?_)
                                · first
                                  | (simp (disch := omega) only [← nI_0, nI_leI, nI_ltI, nI_eq, not_true_eq_false, not_false_eq_true] at h40; done)
                                  | (simp (disch := omega) only [← nI_0, nI_leI, nI_ltI, nI_eq, not_true_eq_false, not_false_eq_true] at h40; omega)
                                  | contradiction
                                  | exact absurd h40 (Int32.not_lt.mpr (by assumption))
                                  | exact absurd h40 (Int32.not_le.mpr (by assumption))
                                  | exact absurd h40 (by decide)
                                  | exact absurd (by decide) h40
                                  | ( try simp (disch := omega) only [← nI_0, nI_leI, nI_ltI, nI_eq, not_true_eq_false, not_false_eq_true] at h40
                                      (try have h40b := zbit_n0.mp h40); (try have h40b := zbit_p0.mp h40)
                                      refine z_aload_0 d_Tf_mean_49 ?_
                                      refine z_getR d_Tf_mean_50 f_Tf_60 (by first | assumption | exact zS0_at (by assumption) (by omega) | exact zS0_at rfl (by omega)) (by first | assumption | exact zS0_at (by assumption) (by omega) | exact zS0_at rfl (by omega)) ?_
                                      refine z_getR d_Tf_mean_53 f_Tf_177 (by first | assumption | exact zS0_at (by assumption) (by omega) | exact zS0_at rfl (by omega)) (by first | assumption | exact zS0_at (by assumption) (by omega) | exact zS0_at rfl (by omega)) ?_
                                      refine z_getIv d_Tf_mean_56 f_Tf_388 (by first | assumption | exact zS0_at (by assumption) (by omega) | exact zS0_at rfl (by omega)) (by first | assumption | ((try simp (disch := omega) only [zu_same, zu_ne, zcp_ne, zfl_ne]); first | assumption | rfl)) ?_
                                      refine z_if_ne (tgt := 69) d_Tf_mean_59 (by decide) (fun h59 => ?_) (fun h59 => ?_)
                                      · first
                                        | (simp (disch := omega) only [← nI_0, nI_leI, nI_ltI, nI_eq, not_true_eq_false, not_false_eq_true] at h59; done)
                                        | (simp (disch := omega) only [← nI_0, nI_leI, nI_ltI, nI_eq, not_true_eq_false, not_false_eq_true] at h59; omega)
                                        | contradiction
                                        | exact absurd h59 (Int32.not_lt.mpr (by assumption))
                                        | exact absurd h59 (Int32.not_le.mpr (by assumption))
                                        | exact absurd h59 (by decide)
                                        | exact absurd (by decide) h59
                                        | ( try simp (disch := omega) only [← nI_0, nI_leI, nI_ltI, nI_eq, not_true_eq_false, not_false_eq_true] at h59
                                            (try have h59b := zbit_n0.mp h59); (try have h59b := zbit_p0.mp h59)
                                            fail)
                                      · first
                                        | (simp (disch := omega) only [← nI_0, nI_leI, nI_ltI, nI_eq, not_true_eq_false, not_false_eq_true] at h59; done)
                                        | (simp (disch := omega) only [← nI_0, nI_leI, nI_ltI, nI_eq, not_true_eq_false, not_false_eq_true] at h59; omega)
                                        | contradiction
                                        | exact absurd h59 (Int32.not_lt.mpr (by assumption))
                                        | exact absurd h59 (Int32.not_le.mpr (by assumption))
                                        | exact absurd h59 (by decide)
                                        | exact absurd (by decide) h59
                                        | ( try simp (disch := omega) only [← nI_0, nI_leI, nI_ltI, nI_eq, not_true_eq_false, not_false_eq_true] at h59
                                            (try have h59b := zbit_n0.mp h59); (try have h59b := zbit_p0.mp h59)
                                            refine z_aload_0 d_Tf_mean_62 ?_
                                            refine z_bipush (a := nI 8) d_Tf_mean_63 (by decide) ?_
                                            refine z_Vi1 d_Tf_mean_65 k_Tf_119 (by first | assumption | exact zS0_at (by assumption) (by omega) | exact zS0_at rfl (by omega)) (t_Tf_refuse (by assumption)) ⟨Nat.le_of_ble_eq_true rfl, Nat.le_of_ble_eq_true rfl, Nat.le_of_ble_eq_true rfl, Nat.le_of_ble_eq_true rfl⟩ (Nat.le_of_ble_eq_true rfl) ?_
                                            intro r w hq
                                            obtain ⟨rfl, rfl⟩ := hq
                                            refine z_retz d_Tf_mean_68 (by first | exact zb0 | exact zb1 | assumption) ?_
                                            exact ⟨rfl, cW_0⟩))
                                · first
                                  | (simp (disch := omega) only [← nI_0, nI_leI, nI_ltI, nI_eq, not_true_eq_false, not_false_eq_true] at h40; done)
                                  | (simp (disch := omega) only [← nI_0, nI_leI, nI_ltI, nI_eq, not_true_eq_false, not_false_eq_true] at h40; omega)
                                  | contradiction
                                  | exact absurd h40 (Int32.not_lt.mpr (by assumption))
                                  | exact absurd h40 (Int32.not_le.mpr (by assumption))
                                  | exact absurd h40 (by decide)
                                  | exact absurd (by decide) h40
                                  | ( try simp (disch := omega) only [← nI_0, nI_leI, nI_ltI, nI_eq, not_true_eq_false, not_false_eq_true] at h40
                                      (try have h40b := zbit_n0.mp h40); (try have h40b := zbit_p0.mp h40)
                                      refine z_aload_0 d_Tf_mean_43 ?_
                                      refine z_iconst (a := nI 5) d_Tf_mean_44 (by decide) ?_
                                      refine z_Vi1 d_Tf_mean_45 k_Tf_119 (by first | assumption | exact zS0_at (by assumption) (by omega) | exact zS0_at rfl (by omega)) (t_Tf_refuse (by assumption)) ⟨Nat.le_of_ble_eq_true rfl, Nat.le_of_ble_eq_true rfl, Nat.le_of_ble_eq_true rfl, Nat.le_of_ble_eq_true rfl⟩ (Nat.le_of_ble_eq_true rfl) ?_
                                      intro r w hq
                                      obtain ⟨rfl, rfl⟩ := hq
                                      refine z_retz d_Tf_mean_48 (by first | exact zb0 | exact zb1 | assumption) ?_
                                      exact ⟨rfl, cW_0⟩)))))
        · first
          | (simp (disch := omega) only [← nI_0, nI_leI, nI_ltI, nI_eq, not_true_eq_false, not_false_eq_true] at h8; done)
          | (simp (disch := omega) only [← nI_0, nI_leI, nI_ltI, nI_eq, not_true_eq_false, not_false_eq_true] at h8; omega)
          | contradiction
          | exact absurd h8 (Int32.not_lt.mpr (by assumption))
          | exact absurd h8 (Int32.not_le.mpr (by assumption))
          | exact absurd h8 (by decide)
          | exact absurd (by decide) h8
          | ( try simp (disch := omega) only [← nI_0, nI_leI, nI_ltI, nI_eq, not_true_eq_false, not_false_eq_true] at h8
              (try have h8b := zbit_n0.mp h8); (try have h8b := zbit_p0.mp h8)
              refine z_iconst (a := nI 1) d_Tf_mean_11 (by decide) ?_
              refine z_goto (tgt := 16) d_Tf_mean_12 (by decide) ?_
              first | refine z_istore_3 d_Tf_mean_16 rfl ?_ | (refine z_forget_2 ?_; refine z_istore_3 d_Tf_mean_16 rfl ?_)
              refine z_iload_3 d_Tf_mean_17 ?_
              refine z_if_ne (tgt := 43) d_Tf_mean_18 (by decide) (fun h18 => ?_) (fun h18 => ?_)
              · first
                | (simp (disch := omega) only [← nI_0, nI_leI, nI_ltI, nI_eq, not_true_eq_false, not_false_eq_true] at h18; done)
                | (simp (disch := omega) only [← nI_0, nI_leI, nI_ltI, nI_eq, not_true_eq_false, not_false_eq_true] at h18; omega)
                | contradiction
                | exact absurd h18 (Int32.not_lt.mpr (by assumption))
                | exact absurd h18 (Int32.not_le.mpr (by assumption))
                | exact absurd h18 (by decide)
                | exact absurd (by decide) h18
                | ( try simp (disch := omega) only [← nI_0, nI_leI, nI_ltI, nI_eq, not_true_eq_false, not_false_eq_true] at h18
                    (try have h18b := zbit_n0.mp h18); (try have h18b := zbit_p0.mp h18)
                    refine z_aload_0 d_Tf_mean_43 ?_
                    refine z_iconst (a := nI 5) d_Tf_mean_44 (by decide) ?_
                    refine z_Vi1 d_Tf_mean_45 k_Tf_119 (by first | assumption | exact zS0_at (by assumption) (by omega) | exact zS0_at rfl (by omega)) (t_Tf_refuse (by assumption)) ⟨Nat.le_of_ble_eq_true rfl, Nat.le_of_ble_eq_true rfl, Nat.le_of_ble_eq_true rfl, Nat.le_of_ble_eq_true rfl⟩ (Nat.le_of_ble_eq_true rfl) ?_
                    intro r w hq
                    obtain ⟨rfl, rfl⟩ := hq
                    refine z_retz d_Tf_mean_48 (by first | exact zb0 | exact zb1 | assumption) ?_
                    exact ⟨rfl, cW_0⟩)
              · first
                | (simp (disch := omega) only [← nI_0, nI_leI, nI_ltI, nI_eq, not_true_eq_false, not_false_eq_true] at h18; done)
                | (simp (disch := omega) only [← nI_0, nI_leI, nI_ltI, nI_eq, not_true_eq_false, not_false_eq_true] at h18; omega)
                | contradiction
                | exact absurd h18 (Int32.not_lt.mpr (by assumption))
                | exact absurd h18 (Int32.not_le.mpr (by assumption))
                | exact absurd h18 (by decide)
                | exact absurd (by decide) h18
                | ( try simp (disch := omega) only [← nI_0, nI_leI, nI_ltI, nI_eq, not_true_eq_false, not_false_eq_true] at h18
                    (try have h18b := zbit_n0.mp h18); (try have h18b := zbit_p0.mp h18)
                    refine z_iload_1 d_Tf_mean_21 ?_
                    refine z_if_lt (tgt := 43) d_Tf_mean_22 (by decide) (fun h22 => ?_) (fun h22 => ?_)
                    · first
                      | (simp (disch := omega) only [← nI_0, nI_leI, nI_ltI, nI_eq, not_true_eq_false, not_false_eq_true] at h22; done)
                      | (simp (disch := omega) only [← nI_0, nI_leI, nI_ltI, nI_eq, not_true_eq_false, not_false_eq_true] at h22; omega)
                      | contradiction
                      | exact absurd h22 (Int32.not_lt.mpr (by assumption))
                      | exact absurd h22 (Int32.not_le.mpr (by assumption))
                      | exact absurd h22 (by decide)
                      | exact absurd (by decide) h22
                      | ( try simp (disch := omega) only [← nI_0, nI_leI, nI_ltI, nI_eq, not_true_eq_false, not_false_eq_true] at h22
                          (try have h22b := zbit_n0.mp h22); (try have h22b := zbit_p0.mp h22)
                          refine z_aload_0 d_Tf_mean_43 ?_
                          refine z_iconst (a := nI 5) d_Tf_mean_44 (by decide) ?_
                          refine z_Vi1 d_Tf_mean_45 k_Tf_119 (by first | assumption | exact zS0_at (by assumption) (by omega) | exact zS0_at rfl (by omega)) (t_Tf_refuse (by assumption)) ⟨Nat.le_of_ble_eq_true rfl, Nat.le_of_ble_eq_true rfl, Nat.le_of_ble_eq_true rfl, Nat.le_of_ble_eq_true rfl⟩ (Nat.le_of_ble_eq_true rfl) ?_
                          intro r w hq
                          obtain ⟨rfl, rfl⟩ := hq
                          refine z_retz d_Tf_mean_48 (by first | exact zb0 | exact zb1 | assumption) ?_
                          exact ⟨rfl, cW_0⟩)
                    · first
                      | (simp (disch := omega) only [← nI_0, nI_leI, nI_ltI, nI_eq, not_true_eq_false, not_false_eq_true] at h22; done)
                      | (simp (disch := omega) only [← nI_0, nI_leI, nI_ltI, nI_eq, not_true_eq_false, not_false_eq_true] at h22; omega)
                      | contradiction
                      | exact absurd h22 (Int32.not_lt.mpr (by assumption))
                      | exact absurd h22 (Int32.not_le.mpr (by assumption))
                      | exact absurd h22 (by decide)
                      | exact absurd (by decide) h22
                      | ( try simp (disch := omega) only [← nI_0, nI_leI, nI_ltI, nI_eq, not_true_eq_false, not_false_eq_true] at h22
                          (try have h22b := zbit_n0.mp h22); (try have h22b := zbit_p0.mp h22)
                          refine z_iload_1 d_Tf_mean_25 ?_
                          refine z_sipush (a := nI 9999) d_Tf_mean_26 (by decide) ?_
                          refine z_icmp_gt (tgt := 43) d_Tf_mean_29 (by decide) (fun h29 => ?_) (fun h29 => ?_)
                          · first
                            | (simp (disch := omega) only [← nI_0, nI_leI, nI_ltI, nI_eq, not_true_eq_false, not_false_eq_true] at h29; done)
                            | (simp (disch := omega) only [← nI_0, nI_leI, nI_ltI, nI_eq, not_true_eq_false, not_false_eq_true] at h29; omega)
                            | contradiction
                            | exact absurd h29 (Int32.not_lt.mpr (by assumption))
                            | exact absurd h29 (Int32.not_le.mpr (by assumption))
                            | exact absurd h29 (by decide)
                            | exact absurd (by decide) h29
                            | ( try simp (disch := omega) only [← nI_0, nI_leI, nI_ltI, nI_eq, not_true_eq_false, not_false_eq_true] at h29
                                (try have h29b := zbit_n0.mp h29); (try have h29b := zbit_p0.mp h29)
                                refine z_aload_0 d_Tf_mean_43 ?_
                                refine z_iconst (a := nI 5) d_Tf_mean_44 (by decide) ?_
                                refine z_Vi1 d_Tf_mean_45 k_Tf_119 (by first | assumption | exact zS0_at (by assumption) (by omega) | exact zS0_at rfl (by omega)) (t_Tf_refuse (by assumption)) ⟨Nat.le_of_ble_eq_true rfl, Nat.le_of_ble_eq_true rfl, Nat.le_of_ble_eq_true rfl, Nat.le_of_ble_eq_true rfl⟩ (Nat.le_of_ble_eq_true rfl) ?_
                                intro r w hq
                                obtain ⟨rfl, rfl⟩ := hq
                                refine z_retz d_Tf_mean_48 (by first | exact zb0 | exact zb1 | assumption) ?_
                                exact ⟨rfl, cW_0⟩)
                          · first
                            | (simp (disch := omega) only [← nI_0, nI_leI, nI_ltI, nI_eq, not_true_eq_false, not_false_eq_true] at h29; done)
                            | (simp (disch := omega) only [← nI_0, nI_leI, nI_ltI, nI_eq, not_true_eq_false, not_false_eq_true] at h29; omega)
                            | contradiction
                            | exact absurd h29 (Int32.not_lt.mpr (by assumption))
                            | exact absurd h29 (Int32.not_le.mpr (by assumption))
                            | exact absurd h29 (by decide)
                            | exact absurd (by decide) h29
                            | ( try simp (disch := omega) only [← nI_0, nI_leI, nI_ltI, nI_eq, not_true_eq_false, not_false_eq_true] at h29
                                (try have h29b := zbit_n0.mp h29); (try have h29b := zbit_p0.mp h29)
                                refine z_iload_1 d_Tf_mean_32 ?_
                                refine z_iload_2 d_Tf_mean_33 ?_
                                first | refine z_iaddN d_Tf_mean_34 ?_ | refine z_iadd d_Tf_mean_34 ?_
                                refine z_iconst (a := nI 1) d_Tf_mean_35 (by decide) ?_
                                first | refine z_isubN d_Tf_mean_36 (by omega) ?_ | refine z_isub d_Tf_mean_36 ?_
                                refine z_sipush (a := nI 9999) d_Tf_mean_37 (by decide) ?_
                                refine z_icmp_le (tgt := 49) d_Tf_mean_40 (by decide) (fun h40 => ?_) (fun h40 => ?_)
                                · first
                                  | (simp (disch := omega) only [← nI_0, nI_leI, nI_ltI, nI_eq, not_true_eq_false, not_false_eq_true] at h40; done)
                                  | (simp (disch := omega) only [← nI_0, nI_leI, nI_ltI, nI_eq, not_true_eq_false, not_false_eq_true] at h40; omega)
                                  | contradiction
                                  | exact absurd h40 (Int32.not_lt.mpr (by assumption))
                                  | exact absurd h40 (Int32.not_le.mpr (by assumption))
                                  | exact absurd h40 (by decide)
                                  | exact absurd (by decide) h40
                                  | ( try simp (disch := omega) only [← nI_0, nI_leI, nI_ltI, nI_eq, not_true_eq_false, not_false_eq_true] at h40
                                      (try have h40b := zbit_n0.mp h40); (try have h40b := zbit_p0.mp h40)
                                      refine z_aload_0 d_Tf_mean_49 ?_
                                      refine z_getR d_Tf_mean_50 f_Tf_60 (by first | assumption | exact zS0_at (by assumption) (by omega) | exact zS0_at rfl (by omega)) (by first | assumption | exact zS0_at (by assumption) (by omega) | exact zS0_at rfl (by omega)) ?_
                                      refine z_getR d_Tf_mean_53 f_Tf_177 (by first | assumption | exact zS0_at (by assumption) (by omega) | exact zS0_at rfl (by omega)) (by first | assumption | exact zS0_at (by assumption) (by omega) | exact zS0_at rfl (by omega)) ?_
                                      refine z_getIv d_Tf_mean_56 f_Tf_388 (by first | assumption | exact zS0_at (by assumption) (by omega) | exact zS0_at rfl (by omega)) (by first | assumption | ((try simp (disch := omega) only [zu_same, zu_ne, zcp_ne, zfl_ne]); first | assumption | rfl)) ?_
                                      refine z_if_ne (tgt := 69) d_Tf_mean_59 (by decide) (fun h59 => ?_) (fun h59 => ?_)
                                      · first
                                        | (simp (disch := omega) only [← nI_0, nI_leI, nI_ltI, nI_eq, not_true_eq_false, not_false_eq_true] at h59; done)
                                        | (simp (disch := omega) only [← nI_0, nI_leI, nI_ltI, nI_eq, not_true_eq_false, not_false_eq_true] at h59; omega)
                                        | contradiction
                                        | exact absurd h59 (Int32.not_lt.mpr (by assumption))
                                        | exact absurd h59 (Int32.not_le.mpr (by assumption))
                                        | exact absurd h59 (by decide)
                                        | exact absurd (by decide) h59
                                        | ( try simp (disch := omega) only [← nI_0, nI_leI, nI_ltI, nI_eq, not_true_eq_false, not_false_eq_true] at h59
                                            (try have h59b := zbit_n0.mp h59); (try have h59b := zbit_p0.mp h59)
                                            fail)
                                      · first
                                        | (simp (disch := omega) only [← nI_0, nI_leI, nI_ltI, nI_eq, not_true_eq_false, not_false_eq_true] at h59; done)
                                        | (simp (disch := omega) only [← nI_0, nI_leI, nI_ltI, nI_eq, not_true_eq_false, not_false_eq_true] at h59; omega)
                                        | contradiction
                                        | exact absurd h59 (Int32.not_lt.mpr (by assumption))
                                        | exact absurd h59 (Int32.not_le.mpr (by assumption))
                                        | exact absurd h59 (by decide)
                                        | exact absurd (by decide) h59
                                        | ( try simp (disch := omega) only [← nI_0, nI_leI, nI_ltI, nI_eq, not_true_eq_false, not_false_eq_true] at h59
                                            (try have h59b := zbit_n0.mp h59); (try have h59b := zbit_p0.mp h59)
                                            refine z_aload_0 d_Tf_mean_62 ?_
                                            refine z_bipush (a := nI 8) d_Tf_mean_63 (by decide) ?_
                                            refine z_Vi1 d_Tf_mean_65 k_Tf_119 (by first | assumption | exact zS0_at (by assumption) (by omega) | exact zS0_at rfl (by omega)) (t_Tf_refuse (by assumption)) ⟨Nat.le_of_ble_eq_true rfl, Nat.le_of_ble_eq_true rfl, Nat.le_of_ble_eq_true rfl, Nat.le_of_ble_eq_true rfl⟩ (Nat.le_of_ble_eq_true rfl) ?_
                                            intro r w hq
                                            obtain ⟨rfl, rfl⟩ := hq
                                            refine z_retz d_Tf_mean_68 (by first | exact zb0 | exact zb1 | assumption) ?_
                                            exact ⟨rfl, cW_0⟩))
                                · first
                                  | (simp (disch := omega) only [← nI_0, nI_leI, nI_ltI, nI_eq, not_true_eq_false, not_false_eq_true] at h40; done)
                                  | (simp (disch := omega) only [← nI_0, nI_leI, nI_ltI, nI_eq, not_true_eq_false, not_false_eq_true] at h40; omega)
                                  | contradiction
                                  | exact absurd h40 (Int32.not_lt.mpr (by assumption))
                                  | exact absurd h40 (Int32.not_le.mpr (by assumption))
                                  | exact absurd h40 (by decide)
                                  | exact absurd (by decide) h40
                                  | ( try simp (disch := omega) only [← nI_0, nI_leI, nI_ltI, nI_eq, not_true_eq_false, not_false_eq_true] at h40
                                      (try have h40b := zbit_n0.mp h40); (try have h40b := zbit_p0.mp h40)
                                      refine z_aload_0 d_Tf_mean_43 ?_
                                      refine z_iconst (a := nI 5) d_Tf_mean_44 (by decide) ?_
                                      refine z_Vi1 d_Tf_mean_45 k_Tf_119 (by first | assumption | exact zS0_at (by assumption) (by omega) | exact zS0_at rfl (by omega)) (t_Tf_refuse (by assumption)) ⟨Nat.le_of_ble_eq_true rfl, Nat.le_of_ble_eq_true rfl, Nat.le_of_ble_eq_true rfl, Nat.le_of_ble_eq_true rfl⟩ (Nat.le_of_ble_eq_true rfl) ?_
                                      intro r w hq
                                      obtain ⟨rfl, rfl⟩ := hq
                                      refine z_retz d_Tf_mean_48 (by first | exact zb0 | exact zb1 | assumption) ?_
                                      exact ⟨rfl, cW_0⟩))))))
theorem t_Tf_mean (Z : clOk f d P S) (h1 : 1 ≤ mm) (h2 : mm ≤ 20) (h3 : s + mm ≤ 10000) (h0 : I (f + 12) 0 = nI 1) (hg : g ≤ 20000000) (fm : fmR g (sf f I) (I 150) nt np nl nn) (hy : yb (n3 nt np nn) (sf (f + 12) I) (fun c k => I 150 (89 + 9 * c + k)) m 0 ns 0 sz) (hsz : I (f + 12) 2 = nI sz) (hz : sz ≤ 60) : zEi G y_Tf_mean prog_1_method_50_code 7 (some .boolean) 8 [.ref 0, .int (nI s), .int (nI mm)] (I, J, P, S) (fun r w => r = nI 1 ∧ ∃ (tb : Nat → Nat → Nat → Int32) (vs : Nat → Nat) (I' : Nat → Nat → Int32) (J' : Nat → Nat → Int64), w = (zu I' 0 0 (nI 0), zu (zu J' 0 1 (lN (vsum vs mm / Nat.gcd (vsum vs mm) mm))) 0 2 (lN (mm / Nat.gcd (vsum vs mm) mm)), P, S) ∧ (∀ i, i < mm → mG nt np nl nn g sz m ns I (s + i) (vs i) (tb i)) ∧ (∀ a, ¬ (52 ≤ a ∧ a ≤ 68) → a ≠ 123 → a ≠ 124 → I' a = I a) ∧ (∀ a, ¬ (61 ≤ a ∧ a ≤ 63) → J' a = J a)) := by
  obtain ⟨⟨c0, c3, c1s⟩, ⟨c5, c2s, ctr⟩, ⟨c6, c11s, c11, c13s⟩, ⟨c7, c15s, c15⟩, ⟨c8, c16s, c16a, c16b, c17s⟩, ⟨c9, c10, cfd, F, Fd⟩, ⟨c11b, Ft⟩, ⟨c12, c69s, cmk⟩, ⟨c14, c121s, c121, c122s⟩, ⟨c15b, c123s, c123, c124s⟩, ⟨c16, c125s, c125, c126s⟩, ⟨c17, c127s, c127, c128s, ctb⟩, ⟨c18, c139s, c139, c140s⟩, ⟨c19, c141s, ⟨c141a, c142s⟩, ⟨c141b, c143s⟩, ⟨c141c, c144s⟩⟩, M⟩ := id Z
  obtain ⟨F0, ⟨F8, F8s⟩, ⟨F9, F9s⟩, ⟨F10, F10s⟩, ⟨F11, F11s⟩, ⟨F12, F12s⟩, ⟨F13, F13s⟩, ⟨F14, F14s⟩, ⟨F15, F15s⟩, ⟨F16, F16s⟩, ⟨F17, F17s⟩, ⟨F18, F18s⟩, ⟨F19, F19s⟩, ⟨Y3, Y3s⟩, ⟨Y4, Y4s⟩, ⟨Y5, Y5s⟩, ⟨Y6, Y6s⟩⟩ := id F
  have Ft0 := Ft.1
  have b := fm.1
  refine zEi_of (lv := [some (.ref 0), some (.int (nI s)), some (.int (nI mm)), none, none, none, none]) (by decide) rfl (Nat.le_of_ble_eq_true rfl) ?_
  have loop : ∀ z j, mm - j < z → j ≤ mm → ∀ (tb : Nat → Nat → Nat → Int32) (vs : Nat → Nat) (I' : Nat → Nat → Int32) (J' : Nat → Nat → Int64), (∀ i, i < j → mG nt np nl nn g sz m ns I (s + i) (vs i) (tb i)) → (∀ a, ¬ (52 ≤ a ∧ a ≤ 68) → a ≠ 123 → a ≠ 124 → I' a = I a) → (∀ a, ¬ (61 ≤ a ∧ a ≤ 63) → J' a = J a) → zA G y_Tf_mean prog_1_method_50_code 7 (some .boolean) (zRm 8 0 0) (zM G 0 0 (fun r w' => ∃ x, r = some (.int x) ∧ (fun r w => r = nI 1 ∧ ∃ (tb : Nat → Nat → Nat → Int32) (vs : Nat → Nat) (I' : Nat → Nat → Int32) (J' : Nat → Nat → Int64), w = (zu I' 0 0 (nI 0), zu (zu J' 0 1 (lN (vsum vs mm / Nat.gcd (vsum vs mm) mm))) 0 2 (lN (mm / Nat.gcd (vsum vs mm) mm)), P, S) ∧ (∀ i, i < mm → mG nt np nl nn g sz m ns I (s + i) (vs i) (tb i)) ∧ (∀ a, ¬ (52 ≤ a ∧ a ≤ 68) → a ≠ 123 → a ≠ 124 → I' a = I a) ∧ (∀ a, ¬ (61 ≤ a ∧ a ≤ 63) → J' a = J a)) x w')) 75 [some (.ref 0), some (.int (nI s)), some (.int (nI mm)), some (.int (nI 0)), some (.long (lN (vsum vs j))), none, some (.int (nI j))] [] (I', J', P, S) 0 0 := by
    intro z
    induction z with
    | zero => intro j h; exact absurd h (Nat.not_lt_zero _)
    | succ z ih =>
      intro j hm hj tb vs I' J' hG hI hJ
      have hle := vsum_le (vs := vs) (B := 7 * (g + 29700)) j (fun i hi => (hG i hi).2.2.2.1)
      have hle2 : j * (7 * (g + 29700)) ≤ 20 * (7 * (g + 29700)) := Nat.mul_le_mul_right _ (by omega)
      refine z_iload_6 d_Tf_mean_75 ?_
      refine z_iload_2 d_Tf_mean_77 ?_
      refine z_icmp_ge (tgt := 126) d_Tf_mean_78 (by decide) (fun hb => ?_) (fun hb => ?_)
      · have hb := (nI_leI (by omega) (by omega)).mp hb
        obtain rfl : j = mm := by omega
        refine z_aload_0 d_Tf_mean_126 ?_
        refine z_lload_4 d_Tf_mean_127 ?_
        refine z_iload_2 d_Tf_mean_129 ?_
        refine z_i2l d_Tf_mean_130 ?_
        rw [nI_l (by omega)]
        refine z_Vi2 d_Tf_mean_131 k_Tf_384 (by first | assumption | exact zS0_at (by assumption) (by omega) | exact zS0_at rfl (by omega)) (t_Tf_tell c0 (by omega) (by omega) (by omega)) ⟨Nat.le_of_ble_eq_true rfl, Nat.le_of_ble_eq_true rfl, Nat.le_of_ble_eq_true rfl, Nat.le_of_ble_eq_true rfl⟩ (Nat.le_of_ble_eq_true rfl) ?_
        intro r w hq
        obtain ⟨rfl, rfl⟩ := hq
        refine z_retz d_Tf_mean_134 (by first | exact zb0 | exact zb1 | assumption) ?_
        exact ⟨rfl, tb, vs, I', J', rfl, hG, hI, hJ⟩
      · have hb : j < mm := Nat.lt_of_not_le (fun q => hb (nI_le q (by omega)))
        have hs' : I' (f + 12) 2 = nI sz := by rw [hI _ (by omega) (by omega) (by omega)]; exact hsz
        obtain ⟨c1, c2, c3, c4, c5, c6⟩ := cpF_all (I := I') (g := f) (f := 52) (sz := sz) (by omega) hs'
        have fT : fmR g (sf 52 (s_cpF I' f 52 sz)) (I 150) nt np nl nn := fmR_P fm (fun k hk => by show s_cpF I' f 52 sz 52 k = I f k; rw [c1 k hk, hI _ (by omega) (by omega) (by omega)]) (fun k hk => by show s_cpF I' f 52 sz (52 + 1) k = I (f + 1) k; rw [c2 k hk, hI _ (by omega) (by omega) (by omega)]) (fun r k g1 g2 hk => by show s_cpF I' f 52 sz (52 + r) k = I (f + r) k; rw [c3 r k g1 g2 hk, hI _ (by omega) (by omega) (by omega)]) (fun r k g1 g2 hk => by show s_cpF I' f 52 sz (52 + r) k = I (f + r) k; rw [c4 r k g1 g2 hk, hI _ (by omega) (by omega) (by omega)])
        have yT : yb (n3 nt np nn) (sf (52 + 12) (s_cpF I' f 52 sz)) (fun c k => I 150 (89 + 9 * c + k)) m 0 ns 0 sz := yb_c _ _ _ _ _ (fun r k g1 g2 _ hk => by show s_cpF I' f 52 sz (52 + 12 + r) k = I (f + 12 + r) k; rw [c6 r k g1 g2 hk, hI _ (by omega) (by omega) (by omega)]) (fun _ _ _ _ _ => rfl) hy
        have sT : s_cpF I' f 52 sz (52 + 12) 2 = nI sz := by rw [c5 2 (by omega)]; exact hs'
        have V := lifeV_start (l := 123) (sd := s + j) (by omega) fT yT sT hz (by omega)
        have hB : lifeB g 52 123 nt np nl nn (c_its 52 123 1000000 (c_start (s_cpF I' f 52 sz) 123 (nI (s + j)))) := (its_cK (by omega) 1000000 _ V).2 ⟨0, start_l.2.1, by omega, I, by rw [Nat.mul_zero, Nat.add_zero]; exact fmR_A fT (fun r hr => start_row (by omega))⟩
        obtain ⟨s', -, hs3, Ix, hFx⟩ := hB
        obtain ⟨Vj, v1, v2⟩ := s_sum_N (X := c_its 52 123 1000000 (c_start (s_cpF I' f 52 sz) 123 (nI (s + j))) (52 + 4)) (B := g + 29700) np (fun p hp => by obtain ⟨-, -, v, q1, q2, -⟩ := hFx.2.2.2.1 p hp; exact ⟨v, by omega, q2⟩)
        have hVj : Vj ≤ 7 * (g + 29700) := Nat.le_trans v1 (Nat.mul_le_mul_right _ (by omega))
        have hGj : mG nt np nl nn g sz m ns I (s + j) Vj (s_cpF I' f 52 sz) := ⟨fT, yT, sT, hVj, v2⟩
        refine z_aload_0 d_Tf_mean_81 ?_
        refine z_getR d_Tf_mean_82 f_Tf_67 (by first | assumption | exact zS0_at (by assumption) (by omega) | exact zS0_at rfl (by omega)) (by first | assumption | exact zS0_at (by assumption) (by omega) | exact zS0_at rfl (by omega)) ?_
        refine z_aload_0 d_Tf_mean_85 ?_
        refine z_getR d_Tf_mean_86 f_Tf_60 (by first | assumption | exact zS0_at (by assumption) (by omega) | exact zS0_at rfl (by omega)) (by first | assumption | exact zS0_at (by assumption) (by omega) | exact zS0_at rfl (by omega)) ?_
        refine z_Vv1 d_Tf_mean_89 k_Tf_406 (by first | assumption | exact zS0_at (by assumption) (by omega) | exact zS0_at rfl (by omega)) (t_Fen_copyFrom Ft F (by omega) (by rw [hI _ (by omega) (by omega) (by omega)]; exact Or.inr h0) hs' hz) ⟨Nat.le_of_ble_eq_true rfl, Nat.le_of_ble_eq_true rfl, Nat.le_of_ble_eq_true rfl, Nat.le_of_ble_eq_true rfl⟩ (Nat.le_of_ble_eq_true rfl) ?_
        intro w hq
        obtain rfl := hq
        refine z_aload_0 d_Tf_mean_92 ?_
        refine z_getR d_Tf_mean_93 f_Tf_84 (by first | assumption | exact zS0_at (by assumption) (by omega) | exact zS0_at rfl (by omega)) (by first | assumption | exact zS0_at (by assumption) (by omega) | exact zS0_at rfl (by omega)) ?_
        refine z_aload_0 d_Tf_mean_96 ?_
        refine z_getR d_Tf_mean_97 f_Tf_67 (by first | assumption | exact zS0_at (by assumption) (by omega) | exact zS0_at rfl (by omega)) (by first | assumption | exact zS0_at (by assumption) (by omega) | exact zS0_at rfl (by omega)) ?_
        refine z_iload_1 d_Tf_mean_100 ?_
        refine z_iload_6 d_Tf_mean_101 ?_
        first | refine z_iaddN d_Tf_mean_103 ?_ | refine z_iadd d_Tf_mean_103 ?_
        refine z_Vv2 d_Tf_mean_104 k_Tf_389 (by first | assumption | exact zS0_at (by assumption) (by omega) | exact zS0_at rfl (by omega)) (t_Life_run c123s c123 c124s Ft (by omega) V) ⟨Nat.le_of_ble_eq_true rfl, Nat.le_of_ble_eq_true rfl, Nat.le_of_ble_eq_true rfl, Nat.le_of_ble_eq_true rfl⟩ (Nat.le_of_ble_eq_true rfl) ?_
        intro w hq
        obtain ⟨rfl, hV2⟩ := hq
        obtain ⟨g2, Iy, hy2⟩ := hV2.1
        generalize hC : c_its 52 123 1000000 (c_start (s_cpF I' f 52 sz) 123 (nI (s + j))) = C at v2 hy2
        have hstp : ∀ a, a ≠ 123 → c_stop (s_cpF I' f 52 sz) C 52 123 np a = C a := fun a ha => by
          unfold c_stop
          rw [zu_row _ _ _ _ ha, zu_row _ _ _ _ ha, zu_row _ _ _ _ ha]
        have hCa : ∀ a, ¬ (52 ≤ a ∧ a ≤ 68) → a ≠ 123 → a ≠ 124 → C a = I a := fun a g1 g2 g3 => by
          rw [← hC, (its_cK (g := 0) (by omega) 1000000 _ V).1 a (by omega) g2 g3, start_row g2, cpF_o (by omega)]
          exact hI a g1 g2 g3
        refine z_lload_4 d_Tf_mean_107 ?_
        refine z_aload_0 d_Tf_mean_109 ?_
        refine z_getR d_Tf_mean_110 f_Tf_67 (by first | assumption | exact zS0_at (by assumption) (by omega) | exact zS0_at rfl (by omega)) (by first | assumption | exact zS0_at (by assumption) (by omega) | exact zS0_at rfl (by omega)) ?_
        refine z_Vi0 d_Tf_mean_113 k_Tf_409 (by first | assumption | exact zS0_at (by assumption) (by omega) | exact zS0_at rfl (by omega)) (t_Fen_gotByAll Ft (fenIn_c (fmR_in hy2) (fun a g1 g2 => hstp a (by omega)))) ⟨Nat.le_of_ble_eq_true rfl, Nat.le_of_ble_eq_true rfl, Nat.le_of_ble_eq_true rfl, Nat.le_of_ble_eq_true rfl⟩ (Nat.le_of_ble_eq_true rfl) ?_
        intro r w hq
        obtain ⟨rfl, rfl⟩ := hq
        rw [hstp (52 + 4) (by omega), v2]
        refine z_i2l d_Tf_mean_116 ?_
        rw [nI_l (by omega)]
        refine z_ladd d_Tf_mean_117 ?_
        rw [lN_add]
        first | refine z_lstore_4 d_Tf_mean_118 rfl ?_ | (refine z_forget_3 ?_; refine z_lstore_4 d_Tf_mean_118 rfl ?_)
        first | refine z_iinc_6 d_Tf_mean_120 rfl (zi_inc _) ?_ | refine z_iinc_6 d_Tf_mean_120 rfl rfl ?_
        refine z_goto (tgt := 75) d_Tf_mean_123 (by decide) ?_
        have q := ih (j + 1) (by omega) (by omega) (fun i => if i = j then s_cpF I' f 52 sz else tb i) (fun i => if i = j then Vj else vs i) (c_stop (s_cpF I' f 52 sz) C 52 123 np) (s_cpN J' f 52) (fun i hi => ?_) (fun a g1 g2 g3 => by rw [hstp a g2]; exact hCa a g1 g2 g3) (fun a g1 => by rw [cpN_o (by omega)]; exact hJ a g1)
        · rw [vsum, vsum_c (vs := vs) j (fun i hi => if_neg (by omega)), if_pos rfl] at q
          exact q
        · by_cases e : i = j
          · subst e; rw [if_pos rfl, if_pos rfl]; exact hGj
          · rw [if_neg e, if_neg e]; exact hG i (by omega)
  refine z_iload_2 d_Tf_mean_0 ?_
  refine z_iconst (a := nI 1) d_Tf_mean_1 (by decide) ?_
  refine z_icmp_lt (tgt := 11) d_Tf_mean_2 (by decide) (fun h => absurd h (nI_nlt h1 (by omega))) (fun _ => ?_)
  refine z_iload_2 d_Tf_mean_5 ?_
  refine z_bipush (a := nI 20) d_Tf_mean_6 (by decide) ?_
  refine z_icmp_le (tgt := 15) d_Tf_mean_8 (by decide) (fun _ => ?_) (fun h => absurd (nI_le h2 (by omega)) h)
  refine z_iconst (a := nI 0) d_Tf_mean_15 (by decide) ?_
  first | refine z_istore_3 d_Tf_mean_16 rfl ?_ | (refine z_forget_2 ?_; refine z_istore_3 d_Tf_mean_16 rfl ?_)
  refine z_iload_3 d_Tf_mean_17 ?_
  refine z_if_ne (tgt := 43) d_Tf_mean_18 (by decide) (fun h => absurd (by decide) h) (fun _ => ?_)
  refine z_iload_1 d_Tf_mean_21 ?_
  refine z_if_lt (tgt := 43) d_Tf_mean_22 (by decide) (fun h => absurd h (nI_pos (by omega))) (fun _ => ?_)
  refine z_iload_1 d_Tf_mean_25 ?_
  refine z_sipush (a := nI 9999) d_Tf_mean_26 (by decide) ?_
  refine z_icmp_gt (tgt := 43) d_Tf_mean_29 (by decide) (fun h => absurd h (nI_nlt (by omega) (by omega))) (fun _ => ?_)
  refine z_iload_1 d_Tf_mean_32 ?_
  refine z_iload_2 d_Tf_mean_33 ?_
  first | refine z_iaddN d_Tf_mean_34 ?_ | refine z_iadd d_Tf_mean_34 ?_
  refine z_iconst (a := nI 1) d_Tf_mean_35 (by decide) ?_
  first | refine z_isubN d_Tf_mean_36 (by omega) ?_ | refine z_isub d_Tf_mean_36 ?_
  refine z_sipush (a := nI 9999) d_Tf_mean_37 (by decide) ?_
  refine z_icmp_le (tgt := 49) d_Tf_mean_40 (by decide) (fun _ => ?_) (fun h => absurd (nI_le (by omega) (by omega)) h)
  refine z_aload_0 d_Tf_mean_49 ?_
  refine z_getR d_Tf_mean_50 f_Tf_60 (by first | assumption | exact zS0_at (by assumption) (by omega) | exact zS0_at rfl (by omega)) (by first | assumption | exact zS0_at (by assumption) (by omega) | exact zS0_at rfl (by omega)) ?_
  refine z_getR d_Tf_mean_53 f_Tf_177 (by first | assumption | exact zS0_at (by assumption) (by omega) | exact zS0_at rfl (by omega)) (by first | assumption | exact zS0_at (by assumption) (by omega) | exact zS0_at rfl (by omega)) ?_
  refine z_getIv d_Tf_mean_56 f_Tf_388 (by first | assumption | exact zS0_at (by assumption) (by omega) | exact zS0_at rfl (by omega)) (by first | assumption | ((try simp (disch := omega) only [zu_same, zu_ne, zcp_ne, zfl_ne]); first | assumption | rfl)) ?_
  refine z_if_ne (tgt := 69) d_Tf_mean_59 (by decide) (fun _ => ?_) (fun h => absurd h (by decide))
  refine z_lconst (f := lN 0) d_Tf_mean_69 rfl ?_
  first | refine z_lstore_4 d_Tf_mean_70 rfl ?_ | (refine z_forget_3 ?_; refine z_lstore_4 d_Tf_mean_70 rfl ?_)
  refine z_iconst (a := nI 0) d_Tf_mean_72 (by decide) ?_
  first | refine z_istore_6 d_Tf_mean_73 rfl ?_ | (refine z_forget_5 ?_; refine z_istore_6 d_Tf_mean_73 rfl ?_)
  exact loop (mm + 1) 0 (by omega) (by omega) (fun _ => I) (fun _ => 0) I J (fun i hi => absurd hi (Nat.not_lt_zero _)) (fun _ _ _ _ => rfl) (fun _ _ => rfl)
end ME0
