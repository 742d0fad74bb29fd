/-! the call years, both sides -/
section YC0
variable {G : zG} {I I' I1 I2 : Nat → Nat → Int32} {J J' J1 J2 : Nat → Nat → Int64} {P P' : Nat → Nat → Option Nat} {S : List (Nat × Nat)} {f d nt np nl nn n fed mk m : Nat} {w : zW} {a : Int32} {aa : tk → tk} {yn : yN}
theorem y_it_00 {s : yS} {t : tk} {x : yS × tk} (hx : y_it aa yn s t = .inr x) : x.1.2.2 0 0 = s.2.2 0 0 := by
  unfold y_it at hx
  split at hx
  · unfold y_end at hx
    split at hx
    · cases hx
    · obtain ⟨t1, -, hx⟩ := pb_r hx
      cases hx
      simp [s_addOp, zu]
  · obtain ⟨z, -, hx⟩ := pb_r hx
    unfold y_step at hx
    obtain ⟨o, -, hx⟩ := pb_r hx
    obtain ⟨fi, -, hx⟩ := pb_r hx
    obtain ⟨c, -, hx⟩ := pb_r hx
    obtain ⟨g, -, hx⟩ := pb_r hx
    obtain ⟨t1, -, hx⟩ := pb_r hx
    cases hx
    simp [y_add, s_addOp, zu]
theorem y_parts_00 {s' : yS} : ∀ (m : Nat) (s : yS) (t : tk), y_parts aa yn m s t = .inr s' → s'.2.2 0 0 = s.2.2 0 0 := by
  intro m
  induction m with
  | zero =>
    intro s t hx
    rw [y_parts] at hx
    split at hx
    · cases hx; rfl
    · cases hx
  | succ m ih =>
    intro s t hx
    rw [y_parts] at hx
    split at hx
    · split at hx
      · cases hx; rfl
      · cases hx
    · obtain ⟨v, hv, hx⟩ := pb_r hx
      exact (ih v.1 v.2 hx).trans (y_it_00 hv)
theorem y_all_00 {T : Nat → Int32} {L : Nat} {K : Nat → Int64} {A : Nat → Nat → Int32} {s : yS} (hx : y_all T L K yn A = .inr s) : s.2.2 0 0 = nI 1 := by
  unfold y_all at hx
  rw [y_parts_00 _ _ _ hx]
  simp [y_clear, zu]
theorem t_Tf_years_x (Z : clOk f d P S) (h4 : I 0 4 = nI fed) (hf9 : fed ≤ 900) (h : ¬ ∃ m, m ≤ fed ∧ m ≤ 300 ∧ a = nI m) : zEi G y_Tf_years prog_1_method_11_code 3 (some .int) 9 [.ref 0, .int a] (I, J, P, S) (fun r w => r = -1 ∧ cW I J P S 5 w) := by
  obtain ⟨⟨c0, c3, c1s⟩, ⟨c5, c2s, ctr⟩, ⟨c6, c11s, c11, c13s⟩, ⟨c7, c15s, c15⟩, ⟨c8, c16s, c16a, c16b, c17s⟩, ⟨c9, c10, cfd, F, Fd⟩, ⟨c11b, Ft⟩, ⟨c12, c69s, cmk⟩, ⟨c14, c121s, c121, c122s⟩, ⟨c15b, c123s, c123, c124s⟩, ⟨c16, c125s, c125, c126s⟩, ⟨c17, c127s, c127, c128s, ctb⟩, ⟨c18, c139s, c139, c140s⟩, ⟨c19, c141s, ⟨c141a, c142s⟩, ⟨c141b, c143s⟩, ⟨c141c, c144s⟩⟩, M⟩ := id Z
  have h : a < 0 ∨ nI fed < a ∨ nI 300 < a := by
    by_cases h1 : zin a (fed + 1)
    · obtain ⟨k, hk, rfl⟩ := h1
      right; right
      refine nI_lt ?_ (by omega)
      rcases Nat.lt_or_ge 300 k with q | q
      · exact q
      · exact absurd ⟨k, by omega, q, rfl⟩ h
    · rcases zin_not (by omega) h1 with q | q
      · exact Or.inl q
      · exact Or.inr (Or.inl q)
  refine zEi_of (lv := [some (.ref 0), some (.int a), none]) (by decide) rfl (Nat.le_of_ble_eq_true rfl) ?_
  rcases h with h | h | h
  · refine z_iload_1 d_Tf_years_0 ?_
    refine z_if_lt (tgt := 19) d_Tf_years_1 (by decide) (fun h1 => ?_) (fun h1 => ?_)
    · first
      | (simp (disch := omega) only [← nI_0, nI_leI, nI_ltI, nI_eq, not_true_eq_false, not_false_eq_true] at h1; done)
      | (simp (disch := omega) only [← nI_0, nI_leI, nI_ltI, nI_eq, not_true_eq_false, not_false_eq_true] at h1; omega)
      | contradiction
      | exact absurd h1 (Int32.not_lt.mpr (by assumption))
      | exact absurd h1 (Int32.not_le.mpr (by assumption))
      | exact absurd h1 (by decide)
      | exact absurd (by decide) h1
      | ( try simp (disch := omega) only [← nI_0, nI_leI, nI_ltI, nI_eq, not_true_eq_false, not_false_eq_true] at h1
          (try have h1b := zbit_n0.mp h1); (try have h1b := zbit_p0.mp h1)
          refine z_aload_0 d_Tf_years_19 ?_
          refine z_iconst (a := nI 5) d_Tf_years_20 (by decide) ?_
          refine z_Vi1 d_Tf_years_21 k_Tf_138 (by first | assumption | exact zS0_at (by assumption) (by omega) | exact zS0_at rfl (by omega)) (t_Tf_fail (by assumption)) ⟨Nat.le_of_ble_eq_true rfl, Nat.le_of_ble_eq_true rfl, Nat.le_of_ble_eq_true rfl, Nat.le_of_ble_eq_true rfl⟩ (Nat.le_of_ble_eq_true rfl) ?_
          intro r w hq
          obtain ⟨rfl, rfl⟩ := hq
          refine z_reti d_Tf_years_24 ?_
          exact ⟨rfl, cW_0⟩)
    · first
      | (simp (disch := omega) only [← nI_0, nI_leI, nI_ltI, nI_eq, not_true_eq_false, not_false_eq_true] at h1; done)
      | (simp (disch := omega) only [← nI_0, nI_leI, nI_ltI, nI_eq, not_true_eq_false, not_false_eq_true] at h1; omega)
      | contradiction
      | exact absurd h1 (Int32.not_lt.mpr (by assumption))
      | exact absurd h1 (Int32.not_le.mpr (by assumption))
      | exact absurd h1 (by decide)
      | exact absurd (by decide) h1
      | ( try simp (disch := omega) only [← nI_0, nI_leI, nI_ltI, nI_eq, not_true_eq_false, not_false_eq_true] at h1
          (try have h1b := zbit_n0.mp h1); (try have h1b := zbit_p0.mp h1)
          refine z_iload_1 d_Tf_years_4 ?_
          refine z_aload_0 d_Tf_years_5 ?_
          refine z_getIv d_Tf_years_6 f_Tf_24 (by first | assumption | exact zS0_at (by assumption) (by omega) | exact zS0_at rfl (by omega)) (by first | assumption | ((try simp (disch := omega) only [zu_same, zu_ne, zcp_ne, zfl_ne]); first | assumption | rfl)) ?_
          refine z_icmp_gt (tgt := 19) d_Tf_years_9 (by decide) (fun h9 => ?_) (fun h9 => ?_)
          · first
            | (simp (disch := omega) only [← nI_0, nI_leI, nI_ltI, nI_eq, not_true_eq_false, not_false_eq_true] at h9; done)
            | (simp (disch := omega) only [← nI_0, nI_leI, nI_ltI, nI_eq, not_true_eq_false, not_false_eq_true] at h9; omega)
            | contradiction
            | exact absurd h9 (Int32.not_lt.mpr (by assumption))
            | exact absurd h9 (Int32.not_le.mpr (by assumption))
            | exact absurd h9 (by decide)
            | exact absurd (by decide) h9
            | ( try simp (disch := omega) only [← nI_0, nI_leI, nI_ltI, nI_eq, not_true_eq_false, not_false_eq_true] at h9
                (try have h9b := zbit_n0.mp h9); (try have h9b := zbit_p0.mp h9)
                refine z_aload_0 d_Tf_years_19 ?_
                refine z_iconst (a := nI 5) d_Tf_years_20 (by decide) ?_
                refine z_Vi1 d_Tf_years_21 k_Tf_138 (by first | assumption | exact zS0_at (by assumption) (by omega) | exact zS0_at rfl (by omega)) (t_Tf_fail (by assumption)) ⟨Nat.le_of_ble_eq_true rfl, Nat.le_of_ble_eq_true rfl, Nat.le_of_ble_eq_true rfl, Nat.le_of_ble_eq_true rfl⟩ (Nat.le_of_ble_eq_true rfl) ?_
                intro r w hq
                obtain ⟨rfl, rfl⟩ := hq
                refine z_reti d_Tf_years_24 ?_
                exact ⟨rfl, cW_0⟩)
          · first
            | (simp (disch := omega) only [← nI_0, nI_leI, nI_ltI, nI_eq, not_true_eq_false, not_false_eq_true] at h9; done)
            | (simp (disch := omega) only [← nI_0, nI_leI, nI_ltI, nI_eq, not_true_eq_false, not_false_eq_true] at h9; omega)
            | contradiction
            | exact absurd h9 (Int32.not_lt.mpr (by assumption))
            | exact absurd h9 (Int32.not_le.mpr (by assumption))
            | exact absurd h9 (by decide)
            | exact absurd (by decide) h9
            | ( try simp (disch := omega) only [← nI_0, nI_leI, nI_ltI, nI_eq, not_true_eq_false, not_false_eq_true] at h9
                (try have h9b := zbit_n0.mp h9); (try have h9b := zbit_p0.mp h9)
                refine z_iload_1 d_Tf_years_12 ?_
                refine z_sipush (a := nI 300) d_Tf_years_13 (by decide) ?_
                refine z_icmp_le (tgt := 25) d_Tf_years_16 (by decide) (fun h16 => ?_) (fun h16 => ?_)
                · first
                  | (simp (disch := omega) only [← nI_0, nI_leI, nI_ltI, nI_eq, not_true_eq_false, not_false_eq_true] at h16; done)
                  | (simp (disch := omega) only [← nI_0, nI_leI, nI_ltI, nI_eq, not_true_eq_false, not_false_eq_true] at h16; omega)
                  | contradiction
                  | exact absurd h16 (Int32.not_lt.mpr (by assumption))
                  | exact absurd h16 (Int32.not_le.mpr (by assumption))
                  | exact absurd h16 (by decide)
                  | exact absurd (by decide) h16
                  | ( try simp (disch := omega) only [← nI_0, nI_leI, nI_ltI, nI_eq, not_true_eq_false, not_false_eq_true] at h16
                      (try have h16b := zbit_n0.mp h16); (try have h16b := zbit_p0.mp h16)
                      fail)
                · first
                  | (simp (disch := omega) only [← nI_0, nI_leI, nI_ltI, nI_eq, not_true_eq_false, not_false_eq_true] at h16; done)
                  | (simp (disch := omega) only [← nI_0, nI_leI, nI_ltI, nI_eq, not_true_eq_false, not_false_eq_true] at h16; omega)
                  | contradiction
                  | exact absurd h16 (Int32.not_lt.mpr (by assumption))
                  | exact absurd h16 (Int32.not_le.mpr (by assumption))
                  | exact absurd h16 (by decide)
                  | exact absurd (by decide) h16
                  | ( try simp (disch := omega) only [← nI_0, nI_leI, nI_ltI, nI_eq, not_true_eq_false, not_false_eq_true] at h16
                      (try have h16b := zbit_n0.mp h16); (try have h16b := zbit_p0.mp h16)
                      refine z_aload_0 d_Tf_years_19 ?_
                      refine z_iconst (a := nI 5) d_Tf_years_20 (by decide) ?_
                      refine z_Vi1 d_Tf_years_21 k_Tf_138 (by first | assumption | exact zS0_at (by assumption) (by omega) | exact zS0_at rfl (by omega)) (t_Tf_fail (by assumption)) ⟨Nat.le_of_ble_eq_true rfl, Nat.le_of_ble_eq_true rfl, Nat.le_of_ble_eq_true rfl, Nat.le_of_ble_eq_true rfl⟩ (Nat.le_of_ble_eq_true rfl) ?_
                      intro r w hq
                      obtain ⟨rfl, rfl⟩ := hq
                      refine z_reti d_Tf_years_24 ?_
                      exact ⟨rfl, cW_0⟩)))
  · refine z_iload_1 d_Tf_years_0 ?_
    refine z_if_lt (tgt := 19) d_Tf_years_1 (by decide) (fun h1 => ?_) (fun h1 => ?_)
    · first
      | (simp (disch := omega) only [← nI_0, nI_leI, nI_ltI, nI_eq, not_true_eq_false, not_false_eq_true] at h1; done)
      | (simp (disch := omega) only [← nI_0, nI_leI, nI_ltI, nI_eq, not_true_eq_false, not_false_eq_true] at h1; omega)
      | contradiction
      | exact absurd h1 (Int32.not_lt.mpr (by assumption))
      | exact absurd h1 (Int32.not_le.mpr (by assumption))
      | exact absurd h1 (by decide)
      | exact absurd (by decide) h1
      | ( try simp (disch := omega) only [← nI_0, nI_leI, nI_ltI, nI_eq, not_true_eq_false, not_false_eq_true] at h1
          (try have h1b := zbit_n0.mp h1); (try have h1b := zbit_p0.mp h1)
          refine z_aload_0 d_Tf_years_19 ?_
          refine z_iconst (a := nI 5) d_Tf_years_20 (by decide) ?_
          refine z_Vi1 d_Tf_years_21 k_Tf_138 (by first | assumption | exact zS0_at (by assumption) (by omega) | exact zS0_at rfl (by omega)) (t_Tf_fail (by assumption)) ⟨Nat.le_of_ble_eq_true rfl, Nat.le_of_ble_eq_true rfl, Nat.le_of_ble_eq_true rfl, Nat.le_of_ble_eq_true rfl⟩ (Nat.le_of_ble_eq_true rfl) ?_
          intro r w hq
          obtain ⟨rfl, rfl⟩ := hq
          refine z_reti d_Tf_years_24 ?_
          exact ⟨rfl, cW_0⟩)
    · first
      | (simp (disch := omega) only [← nI_0, nI_leI, nI_ltI, nI_eq, not_true_eq_false, not_false_eq_true] at h1; done)
      | (simp (disch := omega) only [← nI_0, nI_leI, nI_ltI, nI_eq, not_true_eq_false, not_false_eq_true] at h1; omega)
      | contradiction
      | exact absurd h1 (Int32.not_lt.mpr (by assumption))
      | exact absurd h1 (Int32.not_le.mpr (by assumption))
      | exact absurd h1 (by decide)
      | exact absurd (by decide) h1
      | ( try simp (disch := omega) only [← nI_0, nI_leI, nI_ltI, nI_eq, not_true_eq_false, not_false_eq_true] at h1
          (try have h1b := zbit_n0.mp h1); (try have h1b := zbit_p0.mp h1)
          refine z_iload_1 d_Tf_years_4 ?_
          refine z_aload_0 d_Tf_years_5 ?_
          refine z_getIv d_Tf_years_6 f_Tf_24 (by first | assumption | exact zS0_at (by assumption) (by omega) | exact zS0_at rfl (by omega)) (by first | assumption | ((try simp (disch := omega) only [zu_same, zu_ne, zcp_ne, zfl_ne]); first | assumption | rfl)) ?_
          refine z_icmp_gt (tgt := 19) d_Tf_years_9 (by decide) (fun h9 => ?_) (fun h9 => ?_)
          · first
            | (simp (disch := omega) only [← nI_0, nI_leI, nI_ltI, nI_eq, not_true_eq_false, not_false_eq_true] at h9; done)
            | (simp (disch := omega) only [← nI_0, nI_leI, nI_ltI, nI_eq, not_true_eq_false, not_false_eq_true] at h9; omega)
            | contradiction
            | exact absurd h9 (Int32.not_lt.mpr (by assumption))
            | exact absurd h9 (Int32.not_le.mpr (by assumption))
            | exact absurd h9 (by decide)
            | exact absurd (by decide) h9
            | ( try simp (disch := omega) only [← nI_0, nI_leI, nI_ltI, nI_eq, not_true_eq_false, not_false_eq_true] at h9
                (try have h9b := zbit_n0.mp h9); (try have h9b := zbit_p0.mp h9)
                refine z_aload_0 d_Tf_years_19 ?_
                refine z_iconst (a := nI 5) d_Tf_years_20 (by decide) ?_
                refine z_Vi1 d_Tf_years_21 k_Tf_138 (by first | assumption | exact zS0_at (by assumption) (by omega) | exact zS0_at rfl (by omega)) (t_Tf_fail (by assumption)) ⟨Nat.le_of_ble_eq_true rfl, Nat.le_of_ble_eq_true rfl, Nat.le_of_ble_eq_true rfl, Nat.le_of_ble_eq_true rfl⟩ (Nat.le_of_ble_eq_true rfl) ?_
                intro r w hq
                obtain ⟨rfl, rfl⟩ := hq
                refine z_reti d_Tf_years_24 ?_
                exact ⟨rfl, cW_0⟩)
          · first
            | (simp (disch := omega) only [← nI_0, nI_leI, nI_ltI, nI_eq, not_true_eq_false, not_false_eq_true] at h9; done)
            | (simp (disch := omega) only [← nI_0, nI_leI, nI_ltI, nI_eq, not_true_eq_false, not_false_eq_true] at h9; omega)
            | contradiction
            | exact absurd h9 (Int32.not_lt.mpr (by assumption))
            | exact absurd h9 (Int32.not_le.mpr (by assumption))
            | exact absurd h9 (by decide)
            | exact absurd (by decide) h9
            | ( try simp (disch := omega) only [← nI_0, nI_leI, nI_ltI, nI_eq, not_true_eq_false, not_false_eq_true] at h9
                (try have h9b := zbit_n0.mp h9); (try have h9b := zbit_p0.mp h9)
                refine z_iload_1 d_Tf_years_12 ?_
                refine z_sipush (a := nI 300) d_Tf_years_13 (by decide) ?_
                refine z_icmp_le (tgt := 25) d_Tf_years_16 (by decide) (fun h16 => ?_) (fun h16 => ?_)
                · first
                  | (simp (disch := omega) only [← nI_0, nI_leI, nI_ltI, nI_eq, not_true_eq_false, not_false_eq_true] at h16; done)
                  | (simp (disch := omega) only [← nI_0, nI_leI, nI_ltI, nI_eq, not_true_eq_false, not_false_eq_true] at h16; omega)
                  | contradiction
                  | exact absurd h16 (Int32.not_lt.mpr (by assumption))
                  | exact absurd h16 (Int32.not_le.mpr (by assumption))
                  | exact absurd h16 (by decide)
                  | exact absurd (by decide) h16
                  | ( try simp (disch := omega) only [← nI_0, nI_leI, nI_ltI, nI_eq, not_true_eq_false, not_false_eq_true] at h16
                      (try have h16b := zbit_n0.mp h16); (try have h16b := zbit_p0.mp h16)
                      fail)
                · first
                  | (simp (disch := omega) only [← nI_0, nI_leI, nI_ltI, nI_eq, not_true_eq_false, not_false_eq_true] at h16; done)
                  | (simp (disch := omega) only [← nI_0, nI_leI, nI_ltI, nI_eq, not_true_eq_false, not_false_eq_true] at h16; omega)
                  | contradiction
                  | exact absurd h16 (Int32.not_lt.mpr (by assumption))
                  | exact absurd h16 (Int32.not_le.mpr (by assumption))
                  | exact absurd h16 (by decide)
                  | exact absurd (by decide) h16
                  | ( try simp (disch := omega) only [← nI_0, nI_leI, nI_ltI, nI_eq, not_true_eq_false, not_false_eq_true] at h16
                      (try have h16b := zbit_n0.mp h16); (try have h16b := zbit_p0.mp h16)
                      refine z_aload_0 d_Tf_years_19 ?_
                      refine z_iconst (a := nI 5) d_Tf_years_20 (by decide) ?_
                      refine z_Vi1 d_Tf_years_21 k_Tf_138 (by first | assumption | exact zS0_at (by assumption) (by omega) | exact zS0_at rfl (by omega)) (t_Tf_fail (by assumption)) ⟨Nat.le_of_ble_eq_true rfl, Nat.le_of_ble_eq_true rfl, Nat.le_of_ble_eq_true rfl, Nat.le_of_ble_eq_true rfl⟩ (Nat.le_of_ble_eq_true rfl) ?_
                      intro r w hq
                      obtain ⟨rfl, rfl⟩ := hq
                      refine z_reti d_Tf_years_24 ?_
                      exact ⟨rfl, cW_0⟩)))
  · refine z_iload_1 d_Tf_years_0 ?_
    refine z_if_lt (tgt := 19) d_Tf_years_1 (by decide) (fun h1 => ?_) (fun h1 => ?_)
    · first
      | (simp (disch := omega) only [← nI_0, nI_leI, nI_ltI, nI_eq, not_true_eq_false, not_false_eq_true] at h1; done)
      | (simp (disch := omega) only [← nI_0, nI_leI, nI_ltI, nI_eq, not_true_eq_false, not_false_eq_true] at h1; omega)
      | contradiction
      | exact absurd h1 (Int32.not_lt.mpr (by assumption))
      | exact absurd h1 (Int32.not_le.mpr (by assumption))
      | exact absurd h1 (by decide)
      | exact absurd (by decide) h1
      | ( try simp (disch := omega) only [← nI_0, nI_leI, nI_ltI, nI_eq, not_true_eq_false, not_false_eq_true] at h1
          (try have h1b := zbit_n0.mp h1); (try have h1b := zbit_p0.mp h1)
          refine z_aload_0 d_Tf_years_19 ?_
          refine z_iconst (a := nI 5) d_Tf_years_20 (by decide) ?_
          refine z_Vi1 d_Tf_years_21 k_Tf_138 (by first | assumption | exact zS0_at (by assumption) (by omega) | exact zS0_at rfl (by omega)) (t_Tf_fail (by assumption)) ⟨Nat.le_of_ble_eq_true rfl, Nat.le_of_ble_eq_true rfl, Nat.le_of_ble_eq_true rfl, Nat.le_of_ble_eq_true rfl⟩ (Nat.le_of_ble_eq_true rfl) ?_
          intro r w hq
          obtain ⟨rfl, rfl⟩ := hq
          refine z_reti d_Tf_years_24 ?_
          exact ⟨rfl, cW_0⟩)
    · first
      | (simp (disch := omega) only [← nI_0, nI_leI, nI_ltI, nI_eq, not_true_eq_false, not_false_eq_true] at h1; done)
      | (simp (disch := omega) only [← nI_0, nI_leI, nI_ltI, nI_eq, not_true_eq_false, not_false_eq_true] at h1; omega)
      | contradiction
      | exact absurd h1 (Int32.not_lt.mpr (by assumption))
      | exact absurd h1 (Int32.not_le.mpr (by assumption))
      | exact absurd h1 (by decide)
      | exact absurd (by decide) h1
      | ( try simp (disch := omega) only [← nI_0, nI_leI, nI_ltI, nI_eq, not_true_eq_false, not_false_eq_true] at h1
          (try have h1b := zbit_n0.mp h1); (try have h1b := zbit_p0.mp h1)
          refine z_iload_1 d_Tf_years_4 ?_
          refine z_aload_0 d_Tf_years_5 ?_
          refine z_getIv d_Tf_years_6 f_Tf_24 (by first | assumption | exact zS0_at (by assumption) (by omega) | exact zS0_at rfl (by omega)) (by first | assumption | ((try simp (disch := omega) only [zu_same, zu_ne, zcp_ne, zfl_ne]); first | assumption | rfl)) ?_
          refine z_icmp_gt (tgt := 19) d_Tf_years_9 (by decide) (fun h9 => ?_) (fun h9 => ?_)
          · first
            | (simp (disch := omega) only [← nI_0, nI_leI, nI_ltI, nI_eq, not_true_eq_false, not_false_eq_true] at h9; done)
            | (simp (disch := omega) only [← nI_0, nI_leI, nI_ltI, nI_eq, not_true_eq_false, not_false_eq_true] at h9; omega)
            | contradiction
            | exact absurd h9 (Int32.not_lt.mpr (by assumption))
            | exact absurd h9 (Int32.not_le.mpr (by assumption))
            | exact absurd h9 (by decide)
            | exact absurd (by decide) h9
            | ( try simp (disch := omega) only [← nI_0, nI_leI, nI_ltI, nI_eq, not_true_eq_false, not_false_eq_true] at h9
                (try have h9b := zbit_n0.mp h9); (try have h9b := zbit_p0.mp h9)
                refine z_aload_0 d_Tf_years_19 ?_
                refine z_iconst (a := nI 5) d_Tf_years_20 (by decide) ?_
                refine z_Vi1 d_Tf_years_21 k_Tf_138 (by first | assumption | exact zS0_at (by assumption) (by omega) | exact zS0_at rfl (by omega)) (t_Tf_fail (by assumption)) ⟨Nat.le_of_ble_eq_true rfl, Nat.le_of_ble_eq_true rfl, Nat.le_of_ble_eq_true rfl, Nat.le_of_ble_eq_true rfl⟩ (Nat.le_of_ble_eq_true rfl) ?_
                intro r w hq
                obtain ⟨rfl, rfl⟩ := hq
                refine z_reti d_Tf_years_24 ?_
                exact ⟨rfl, cW_0⟩)
          · first
            | (simp (disch := omega) only [← nI_0, nI_leI, nI_ltI, nI_eq, not_true_eq_false, not_false_eq_true] at h9; done)
            | (simp (disch := omega) only [← nI_0, nI_leI, nI_ltI, nI_eq, not_true_eq_false, not_false_eq_true] at h9; omega)
            | contradiction
            | exact absurd h9 (Int32.not_lt.mpr (by assumption))
            | exact absurd h9 (Int32.not_le.mpr (by assumption))
            | exact absurd h9 (by decide)
            | exact absurd (by decide) h9
            | ( try simp (disch := omega) only [← nI_0, nI_leI, nI_ltI, nI_eq, not_true_eq_false, not_false_eq_true] at h9
                (try have h9b := zbit_n0.mp h9); (try have h9b := zbit_p0.mp h9)
                refine z_iload_1 d_Tf_years_12 ?_
                refine z_sipush (a := nI 300) d_Tf_years_13 (by decide) ?_
                refine z_icmp_le (tgt := 25) d_Tf_years_16 (by decide) (fun h16 => ?_) (fun h16 => ?_)
                · first
                  | (simp (disch := omega) only [← nI_0, nI_leI, nI_ltI, nI_eq, not_true_eq_false, not_false_eq_true] at h16; done)
                  | (simp (disch := omega) only [← nI_0, nI_leI, nI_ltI, nI_eq, not_true_eq_false, not_false_eq_true] at h16; omega)
                  | contradiction
                  | exact absurd h16 (Int32.not_lt.mpr (by assumption))
                  | exact absurd h16 (Int32.not_le.mpr (by assumption))
                  | exact absurd h16 (by decide)
                  | exact absurd (by decide) h16
                  | ( try simp (disch := omega) only [← nI_0, nI_leI, nI_ltI, nI_eq, not_true_eq_false, not_false_eq_true] at h16
                      (try have h16b := zbit_n0.mp h16); (try have h16b := zbit_p0.mp h16)
                      fail)
                · first
                  | (simp (disch := omega) only [← nI_0, nI_leI, nI_ltI, nI_eq, not_true_eq_false, not_false_eq_true] at h16; done)
                  | (simp (disch := omega) only [← nI_0, nI_leI, nI_ltI, nI_eq, not_true_eq_false, not_false_eq_true] at h16; omega)
                  | contradiction
                  | exact absurd h16 (Int32.not_lt.mpr (by assumption))
                  | exact absurd h16 (Int32.not_le.mpr (by assumption))
                  | exact absurd h16 (by decide)
                  | exact absurd (by decide) h16
                  | ( try simp (disch := omega) only [← nI_0, nI_leI, nI_ltI, nI_eq, not_true_eq_false, not_false_eq_true] at h16
                      (try have h16b := zbit_n0.mp h16); (try have h16b := zbit_p0.mp h16)
                      refine z_aload_0 d_Tf_years_19 ?_
                      refine z_iconst (a := nI 5) d_Tf_years_20 (by decide) ?_
                      refine z_Vi1 d_Tf_years_21 k_Tf_138 (by first | assumption | exact zS0_at (by assumption) (by omega) | exact zS0_at rfl (by omega)) (t_Tf_fail (by assumption)) ⟨Nat.le_of_ble_eq_true rfl, Nat.le_of_ble_eq_true rfl, Nat.le_of_ble_eq_true rfl, Nat.le_of_ble_eq_true rfl⟩ (Nat.le_of_ble_eq_true rfl) ?_
                      intro r w hq
                      obtain ⟨rfl, rfl⟩ := hq
                      refine z_reti d_Tf_years_24 ?_
                      exact ⟨rfl, cW_0⟩)))
theorem t_Tf_years (Z : clOk f d P S) (N : yfN f I J yn) (h4 : I 0 4 = nI fed) (hf9 : fed ≤ 900) (hm : m ≤ fed) (hm3 : m ≤ 300) : zEi G y_Tf_years prog_1_method_11_code 3 (some .int) 9 [.ref 0, .int (nI m)] (I, J, P, S) (fun r w => pQ (y_all (I 1) m (J 13) yn (sf (d + 12) I)) (fun e => r = -1 ∧ ∃ I1 J1, w = (zu (zu I1 0 4 (nI 0)) 0 0 (nI 10), J1, zu P 11 0 (some 1), S) ∧ yrF (d + 12) I I1 ∧ yrF (d + 12) J J1 ∧ I1 11 10 = nI e.1 ∧ I1 11 11 = nI e.2) (fun s => r = nI s.1.1 ∧ ∃ I1 J1, w = (zu (s_cpY (zu I1 0 4 (nI 0)) (d + 12) (f + 12) s.1.2.1) 0 0 (nI 0), J1, zu P 11 0 (some 1), S) ∧ yrF (d + 12) I I1 ∧ yrF (d + 12) J J1 ∧ I1 11 10 = nI 0 ∧ I1 11 11 = -1 ∧ sf (d + 12) I1 = s.2.2 ∧ I1 (d + 12) 1 = nI s.1.1 ∧ I1 (d + 12) 2 = nI s.1.2.1 ∧ s.1.1 ≤ 30 ∧ s.1.2.1 ≤ 60 ∧ I1 (d + 12) 0 = nI 1)) := by
  obtain ⟨⟨c0, c3, c1s⟩, ⟨c5, c2s, ctr⟩, ⟨c6, c11s, c11, c13s⟩, ⟨c7, c15s, c15⟩, ⟨c8, c16s, c16a, c16b, c17s⟩, ⟨c9, c10, cfd, F, Fd⟩, ⟨c11b, Ft⟩, ⟨c12, c69s, cmk⟩, ⟨c14, c121s, c121, c122s⟩, ⟨c15b, c123s, c123, c124s⟩, ⟨c16, c125s, c125, c126s⟩, ⟨c17, c127s, c127, c128s, ctb⟩, ⟨c18, c139s, c139, c140s⟩, ⟨c19, c141s, ⟨c141a, c142s⟩, ⟨c141b, c143s⟩, ⟨c141c, c144s⟩⟩, M⟩ := id Z
  have F0 := F.1
  have Fd0 := Fd.1
  have Fy := F.yr
  have Dy := Fd.yr
  have p9 : zu P 11 0 (some 1) 0 9 = some f := by rw [zu_row _ _ _ _ (by decide)]; exact c9
  have p10 : zu P 11 0 (some 1) 0 10 = some d := by rw [zu_row _ _ _ _ (by decide)]; exact c10
  have hPr : ∀ a, 12 ≤ a → zu P 11 0 (some 1) a = P a := fun a ha => zu_row _ _ _ _ (by omega)
  have F' : fenOk (zu P 11 0 (some 1)) S f := fenOk_P F (fun a ha => hPr a (by omega))
  have Fd' : fenOk (zu P 11 0 (some 1)) S d := fenOk_P Fd (fun a ha => hPr a (by omega))
  have Fy' := F'.yr
  have Dy' := Fd'.yr
  have y0 := Fy.1
  have y0d := Dy.1
  obtain ⟨-, -, -, -, -, -, -, -, -, -, -, -, ⟨F19, F19s⟩, -⟩ := id F
  obtain ⟨-, -, -, -, -, -, -, -, -, -, -, -, ⟨D19, D19s⟩, -⟩ := id Fd
  obtain ⟨-, -, -, -, -, -, -, -, -, -, -, -, ⟨F19', -⟩, -⟩ := id F'
  obtain ⟨-, -, -, -, -, -, -, -, -, -, -, -, ⟨D19', -⟩, -⟩ := id Fd'
  refine zEi_of (lv := [some (.ref 0), some (.int (nI m)), none]) (by decide) rfl (Nat.le_of_ble_eq_true rfl) ?_
  refine z_iload_1 d_Tf_years_0 ?_
  refine z_if_lt (tgt := 19) d_Tf_years_1 (by decide) (fun h => absurd h (nI_pos (by omega))) (fun _ => ?_)
  refine z_iload_1 d_Tf_years_4 ?_
  refine z_aload_0 d_Tf_years_5 ?_
  refine z_getIv d_Tf_years_6 f_Tf_24 (by first | assumption | exact zS0_at (by assumption) (by omega) | exact zS0_at rfl (by omega)) (by first | assumption | ((try simp (disch := omega) only [zu_same, zu_ne, zcp_ne, zfl_ne]); first | assumption | rfl)) ?_
  refine z_icmp_gt (tgt := 19) d_Tf_years_9 (by decide) (fun h => absurd h (nI_nlt hm (by omega))) (fun _ => ?_)
  refine z_iload_1 d_Tf_years_12 ?_
  refine z_sipush (a := nI 300) d_Tf_years_13 (by decide) ?_
  refine z_icmp_le (tgt := 25) d_Tf_years_16 (by decide) (fun _ => ?_) (fun h => absurd (nI_le hm3 (by omega)) h)
  refine z_aload_0 d_Tf_years_25 ?_
  refine z_getR d_Tf_years_26 f_Tf_53 (by first | assumption | exact zS0_at (by assumption) (by omega) | exact zS0_at rfl (by omega)) (by first | assumption | exact zS0_at (by assumption) (by omega) | exact zS0_at rfl (by omega)) ?_
  refine z_aload_0 d_Tf_years_29 ?_
  refine z_getR d_Tf_years_30 f_Tf_64 (by first | assumption | exact zS0_at (by assumption) (by omega) | exact zS0_at rfl (by omega)) (by first | assumption | exact zS0_at (by assumption) (by omega) | exact zS0_at rfl (by omega)) ?_
  refine z_getR d_Tf_years_33 f_Tf_177 (by first | assumption | exact zS0_at (by assumption) (by omega) | exact zS0_at rfl (by omega)) (by first | assumption | exact zS0_at (by assumption) (by omega) | exact zS0_at rfl (by omega)) ?_
  refine z_aload_0 d_Tf_years_36 ?_
  refine z_getR d_Tf_years_37 f_Tf_60 (by first | assumption | exact zS0_at (by assumption) (by omega) | exact zS0_at rfl (by omega)) (by first | assumption | exact zS0_at (by assumption) (by omega) | exact zS0_at rfl (by omega)) ?_
  refine z_aload_0 d_Tf_years_40 ?_
  refine z_getR d_Tf_years_41 f_Tf_20 (by first | assumption | exact zS0_at (by assumption) (by omega) | exact zS0_at rfl (by omega)) (by first | assumption | exact zS0_at (by assumption) (by omega) | exact zS0_at rfl (by omega)) ?_
  refine z_iload_1 d_Tf_years_44 ?_
  refine z_Vi4 d_Tf_years_45 k_Tf_181 (by first | assumption | exact zS0_at (by assumption) (by omega) | exact zS0_at rfl (by omega)) (t_YearsR_readInto F Dy ⟨c16s, c16a, c16b, c17s⟩ (by omega) N c11s c11 c13s c1s (by omega)) ⟨Nat.le_of_ble_eq_true rfl, Nat.le_of_ble_eq_true rfl, Nat.le_of_ble_eq_true rfl, Nat.le_of_ble_eq_true rfl⟩ (Nat.le_of_ble_eq_true rfl) ?_
  intro r w hq
  generalize hx : y_all (I 1) m (J 13) yn (sf (d + 12) I) = x at hq ⊢
  cases x with
  | inl e =>
    obtain ⟨rfl, I1, J1, rfl, g1, g2, g3, g4⟩ := hq
    first | refine z_istore_2 d_Tf_years_48 rfl ?_ | (refine z_forget_1 ?_; refine z_istore_2 d_Tf_years_48 rfl ?_)
    refine z_aload_0 d_Tf_years_49 ?_
    refine z_iconst (a := nI 0) d_Tf_years_50 (by decide) ?_
    refine z_putI d_Tf_years_51 f_Tf_24 (by first | assumption | exact zS0_at (by assumption) (by omega) | exact zS0_at rfl (by omega)) ?_
    refine z_iload_2 d_Tf_years_54 ?_
    refine z_if_ne (tgt := 65) d_Tf_years_55 (by decide) (fun h => absurd (by decide) h) (fun _ => ?_)
    refine z_aload_0 d_Tf_years_58 ?_
    refine z_bipush (a := nI 10) d_Tf_years_59 (by decide) ?_
    refine z_Vi1 d_Tf_years_61 k_Tf_138 (by first | assumption | exact zS0_at (by assumption) (by omega) | exact zS0_at rfl (by omega)) (t_Tf_fail c0) ⟨Nat.le_of_ble_eq_true rfl, Nat.le_of_ble_eq_true rfl, Nat.le_of_ble_eq_true rfl, Nat.le_of_ble_eq_true rfl⟩ (Nat.le_of_ble_eq_true rfl) ?_
    intro r w hq
    obtain ⟨rfl, rfl⟩ := hq
    refine z_reti d_Tf_years_64 ?_
    exact ⟨rfl, I1, J1, rfl, g1, g2, g3, g4⟩
  | inr s =>
    obtain ⟨rfl, hdp, t, I1, J1, rfl, g1, g2, C⟩ := hq
    obtain ⟨-, -, -, -, -, -, h1, ⟨h2, h3⟩, h4', ⟨-, -⟩, h5, -, h6, h7⟩ := C
    have h1 : sf (d + 12) I1 = s.2.2 := h1
    have h00 : I1 (d + 12) 0 = nI 1 := by
      have q := y_all_00 hx
      rw [← h1] at q
      exact q
    have hsz : s.1.2.1 ≤ 60 := by
      dsimp only at h5 h3
      omega
    have t1 : s_cpY (zu I1 0 4 (nI 0)) (d + 12) (f + 12) s.1.2.1 (f + 12) 1 = nI s.1.1 := by
      rw [cpY_0 (by rw [zu_row _ _ _ _ (by omega)]; exact h4') (by omega), zu_row _ _ _ _ (by omega)]; exact h2
    first | refine z_istore_2 d_Tf_years_48 rfl ?_ | (refine z_forget_1 ?_; refine z_istore_2 d_Tf_years_48 rfl ?_)
    refine z_aload_0 d_Tf_years_49 ?_
    refine z_iconst (a := nI 0) d_Tf_years_50 (by decide) ?_
    refine z_putI d_Tf_years_51 f_Tf_24 (by first | assumption | exact zS0_at (by assumption) (by omega) | exact zS0_at rfl (by omega)) ?_
    refine z_iload_2 d_Tf_years_54 ?_
    refine z_if_ne (tgt := 65) d_Tf_years_55 (by decide) (fun _ => ?_) (fun h => absurd h (by decide))
    refine z_aload_0 d_Tf_years_65 ?_
    refine z_getR d_Tf_years_66 f_Tf_60 (by first | assumption | exact zS0_at (by assumption) (by omega) | exact zS0_at rfl (by omega)) (by first | assumption | exact zS0_at (by assumption) (by omega) | exact zS0_at rfl (by omega)) ?_
    refine z_getR d_Tf_years_69 f_Tf_177 (by first | assumption | exact zS0_at (by assumption) (by omega) | exact zS0_at rfl (by omega)) (by first | assumption | exact zS0_at (by assumption) (by omega) | exact zS0_at rfl (by omega)) ?_
    refine z_aload_0 d_Tf_years_72 ?_
    refine z_getR d_Tf_years_73 f_Tf_64 (by first | assumption | exact zS0_at (by assumption) (by omega) | exact zS0_at rfl (by omega)) (by first | assumption | exact zS0_at (by assumption) (by omega) | exact zS0_at rfl (by omega)) ?_
    refine z_getR d_Tf_years_76 f_Tf_177 (by first | assumption | exact zS0_at (by assumption) (by omega) | exact zS0_at rfl (by omega)) (by first | assumption | exact zS0_at (by assumption) (by omega) | exact zS0_at rfl (by omega)) ?_
    refine z_Vv1 d_Tf_years_79 k_Tf_184 (by first | assumption | exact zS0_at (by assumption) (by omega) | exact zS0_at rfl (by omega)) (t_Years_copyFrom Fy' Dy' (by omega) (by rw [zu_row _ _ _ _ (by omega)]; exact Or.inr h00) (by rw [zu_row _ _ _ _ (by omega)]; exact h4') hsz) ⟨Nat.le_of_ble_eq_true rfl, Nat.le_of_ble_eq_true rfl, Nat.le_of_ble_eq_true rfl, Nat.le_of_ble_eq_true rfl⟩ (Nat.le_of_ble_eq_true rfl) ?_
    intro w hq
    obtain rfl := hq
    refine z_aload_0 d_Tf_years_82 ?_
    refine z_aload_0 d_Tf_years_83 ?_
    refine z_getR d_Tf_years_84 f_Tf_60 (by first | assumption | exact zS0_at (by assumption) (by omega) | exact zS0_at rfl (by omega)) (by first | assumption | exact zS0_at (by assumption) (by omega) | exact zS0_at rfl (by omega)) ?_
    refine z_getR d_Tf_years_87 f_Tf_177 (by first | assumption | exact zS0_at (by assumption) (by omega) | exact zS0_at rfl (by omega)) (by first | assumption | exact zS0_at (by assumption) (by omega) | exact zS0_at rfl (by omega)) ?_
    refine z_getIv d_Tf_years_90 f_Tf_190 (by first | assumption | exact zS0_at (by assumption) (by omega) | exact zS0_at rfl (by omega)) (by first | assumption | ((try simp (disch := omega) only [zu_same, zu_ne, zcp_ne, zfl_ne]); first | assumption | rfl)) ?_
    refine z_Vi1 d_Tf_years_93 k_Tf_174 (by first | assumption | exact zS0_at (by assumption) (by omega) | exact zS0_at rfl (by omega)) (t_Tf_give c0) ⟨Nat.le_of_ble_eq_true rfl, Nat.le_of_ble_eq_true rfl, Nat.le_of_ble_eq_true rfl, Nat.le_of_ble_eq_true rfl⟩ (Nat.le_of_ble_eq_true rfl) ?_
    intro r w hq
    obtain ⟨rfl, rfl⟩ := hq
    refine z_reti d_Tf_years_96 ?_
    exact ⟨rfl, I1, J1, rfl, g1, g2, h6, h7, h1, h2, h4', h3, hsz, h00⟩
theorem L_years (h : zInv n w) : zEi G y_Tf_years prog_1_method_11_code 3 (some .int) 9 [.ref 0, .int a] w (fun r w1 => w1.2.2.2 = w.2.2.2 ∧ zEi G y_Mo_years prog_14_method_72_code 3 (some .int) 15 [.ref 145, .int a] w1 (fun r' w2 => r' = r ∧ zInv (n + 1) w2)) := by
  obtain ⟨f, d, nt, np, nl, nn, fed, mk, I, J, P, S, rfl, Z, X⟩ := h
  have M := clOk_M Z
  have hf := clOk_f Z
  have N := stR_fen X
  have N0 := stR_mod X
  have fm := stR_fm X
  obtain ⟨⟨⟨a1, r1, b1⟩, ⟨a2, r2, b2⟩, ⟨a3, r3, b3⟩, ⟨a4, r4, b4⟩⟩, ⟨⟨o, ob, ao, ro⟩, r5⟩, fw, fp, ft, fz⟩ := id fm
  obtain ⟨⟨x1, x2, x3⟩, x4, ⟨⟨x5, x6, x7⟩, x8, x9⟩, ⟨x10, x11⟩, x12, x13, ⟨⟨x14, x15, x16⟩, x17⟩, x18⟩ := id X
  have hd : d = 18 ∨ d = 35 := by have := Z.2.2.2.2.2.1.2.2.1; omega
  have hfd : f = 18 ∧ d = 35 ∨ f = 35 ∧ d = 18 := Z.2.2.2.2.2.1.2.2.1
  by_cases ha : ∃ m, m ≤ fed ∧ m ≤ 300 ∧ a = nI m
  rotate_left
  · exact L_q Z X (t_Tf_years_x Z x5 x7 ha) (fun I' J' e _ => ⟨_, rfl, zEi_mono (m_years0 M (by rw [e 145 (by decide)]; exact x6) x7 ha) (fun r w h => ⟨h.1, _, _, h.2, mqF_z (mqF_z (mqF_z mqF_r (by decide)) (by decide)) (by decide), mqJ_r, zu_same _ _ _ _⟩)⟩)
  obtain ⟨m, hm, hm3, rfl⟩ := ha
  have x13' := id x13
  obtain ⟨y1, ⟨y2, y3, y4⟩, y5⟩ := x13'
  have hr0 := r1
  have Ny : yfN f I J (sf f J, nt, np, nn) := ⟨rfl, rfl, rfl, ⟨a1, b1⟩, ⟨a2, b2⟩, ⟨a4, b4⟩⟩
  refine zEi_mono (t_Tf_years Z Ny x5 x7 hm hm3) ?_
  intro r w hq
  have mf : ∀ (Ia : Nat → Nat → Int32) (Ja : Nat → Nat → Int64) (Pa : Nat → Nat → Option Nat), modOk Pa S → Ia 145 8 = nI fed → (∀ k, k < 900 → Ia 149 k = I 1 k) → myN Ia Ja (sf f J, nt, np, nn) → zEi G y_Mo_years prog_14_method_72_code 3 (some .int) 15 [.ref 145, .int (nI m)] (Ia, Ja, Pa, S) (fun r w => pQ (y_all (I 1) m (J 13) (sf f J, nt, np, nn) (sf (d + 12) I)) (fun e => r = -1 ∧ ∃ I' J', w = (I', J', Pa, S) ∧ mfF Ia I' ∧ mQ Ja J' ∧ I' 145 0 = nI 10 ∧ I' 145 8 = nI 0 ∧ I' 145 10 = nI e.1 ∧ I' 145 11 = nI e.2) (fun s => r = nI s.1.1 ∧ ∃ I' J' m, w = (zcp (zu (zu I' 150 87 (nI 1)) 150 88 (nI s.1.1)) 150 150 1525 89 (9 * s.1.1), J', Pa, S) ∧ mfF Ia I' ∧ mQ Ja J' ∧ I' 145 0 = nI 0 ∧ I' 145 8 = nI 0 ∧ I' 145 10 = nI 0 ∧ I' 145 11 = -1 ∧ yI s ∧ yb (sf f J, nt, np, nn) s.2.2 (fun c k => I' 150 (1525 + 9 * c + k)) m 0 s.1.1 0 s.1.2.1)) := fun Ia Ja Pa hM h8 hT hN => m_years (G := G) (P := Pa) (S := S) (I := Ia) (J := Ja) (T := I 1) (K := J 13) (A := sf (d + 12) I) hM h8 x7 hm hm3 hT x9 x12 hN
  generalize hx : y_all (I 1) m (J 13) (sf f J, nt, np, nn) (sf (d + 12) I) = y at hq mf
  cases y with
  | inl e =>
    obtain ⟨rfl, I1, J1, rfl, g1, g2, g3, g4⟩ := hq
    have r1 : ∀ a, a ≠ 0 → a ≠ 11 → a ≠ 16 → a ≠ 17 → ¬ (d + 12 ≤ a ∧ a ≤ d + 12 + 4) → zu (zu I1 0 4 (nI 0)) 0 0 (nI 10) a = I a := fun a h0 h1 h2 h2' h3 => by rw [zu_row _ _ _ _ h0, zu_row _ _ _ _ h0]; exact g1 a h1 h2 h2' h3
    refine ⟨rfl, zEi_mono (mf _ J1 _ (modOk_P M (fun k => by rw [zu_row _ _ _ _ (by decide)])) (by rw [r1 145 (by omega) (by omega) (by omega) (by omega) (by omega)]; exact x6) (fun k hk => by rw [r1 149 (by omega) (by omega) (by omega) (by omega) (by omega)]; exact x8 k hk) ?_) ?_⟩
    · unfold myN
      rw [r1 150 (by omega) (by omega) (by omega) (by omega) (by omega), g2 152 (by omega) (by omega) (by omega) (by omega)]
      refine ⟨⟨hr0, b1⟩, ⟨r2, b2⟩, ⟨r4, b4⟩, fun k hk => ?_, fun k hk => ?_, fun k hk => ?_⟩
      · have := y2 k hk; rw [Nat.mul_zero, Nat.zero_add] at this; exact this
      · have := y3 k hk; rw [Nat.mul_zero, Nat.zero_add] at this; exact this
      · have := y4 k hk; rw [Nat.mul_zero, Nat.zero_add] at this; exact this
    rintro r w ⟨rfl, I2, J2, rfl, u1, u2, u3, u4, u5, u6⟩
    have er : ∀ a, a ≠ 0 → a ≠ 11 → a ≠ 16 → a ≠ 17 → ¬ (d + 12 ≤ a ∧ a ≤ d + 12 + 4) → a ≠ 145 → a ≠ 150 → I2 a = I a := fun a h0 h1 h2 h2' h3 h4 h5 => (u1.1 a h4 h5).trans (r1 a h0 h1 h2 h2' h3)
    have ej : ∀ a, a ≠ 11 → a ≠ 16 → a ≠ 17 → ¬ (d + 12 ≤ a ∧ a ≤ d + 12 + 4) → a ≠ 145 → a ≠ 152 → J2 a = J a := fun a h1 h2 h2' h3 h4 h5 => (u2.1 a h4 h5).trans (g2 a h1 h2 h2' h3)
    have e0 : ∀ k, k ≠ 0 → k ≠ 4 → I2 0 k = I 0 k := fun k h1 h2 => by rw [u1.1 0 (by omega) (by omega), zu_ne _ _ _ _ (by omega), zu_ne _ _ _ _ (by omega), g1 0 (by omega) (by omega) (by omega) (by omega)]
    have e145 : ∀ k, (k = 23 ∨ 26 ≤ k) → I2 145 k = I 145 k := fun k hk => by rw [u1.2.2 k hk, r1 145 (by omega) (by omega) (by omega) (by omega) (by omega)]
    have e150 : ∀ k, k < 1436 → I2 150 k = I 150 k := fun k hk => by rw [u1.2.1 k hk, r1 150 (by omega) (by omega) (by omega) (by omega) (by omega)]
    have e152 : ∀ k, k < 88 → J2 152 k = J 152 k := fun k hk => by rw [u2.2.1 k hk, g2 152 (by omega) (by omega) (by omega) (by omega)]
    have j145 : ∀ k, k ≠ 19 → J2 145 k = J 145 k := fun k hk => by rw [u2.2.2 k hk, g2 145 (by omega) (by omega) (by omega) (by omega)]
    refine ⟨rfl, f, d, nt, np, nl, nn, 0, mk, I2, J2, _, S, rfl, clOk_P Z (fun a k h1 h2 => zu_ne _ _ _ _ h1) (by rw [zu_row _ _ _ _ (by decide)]; exact Z.2.2.2.2.2.1.1) (by rw [zu_row _ _ _ _ (by decide)]; exact Z.2.2.2.2.2.1.2.1) (Or.inl ⟨rfl, rfl⟩), ?_⟩
    refine ⟨⟨?_, ?_, ?_⟩, fun t ht => ?_, ⟨⟨?_, u4, by omega⟩, fun k hk => ?_, ?_⟩, ⟨?_, ?_⟩, fun i hi => ?_, ?_, ⟨⟨(e0 13 (by omega) (by omega)).trans x14, (e145 23 (by omega)).trans x15, x16⟩, fun m' hm' => ?_⟩, ?_⟩
    · rw [u3, u1.1 0 (by omega) (by omega), zu_same]
    · rw [j145 2 (by omega), ej 0 (by omega) (by omega) (by omega) (by omega) (by omega) (by omega)]; exact x2
    · rw [j145 3 (by omega), ej 0 (by omega) (by omega) (by omega) (by omega) (by omega) (by omega)]; exact x3
    · exact trR_c (x4 t ht) (er _ (by omega) (by omega) (by omega) (by omega) (by omega) (by omega) (by omega)) (by rw [er 147 (by omega) (by omega) (by omega) (by omega) (by omega) (by omega) (by omega)]) (by rw [er 146 (by omega) (by omega) (by omega) (by omega) (by omega) (by omega) (by omega)]) (ej _ (by omega) (by omega) (by omega) (by omega) (by omega) (by omega)) (fun p _ => by rw [ej 148 (by omega) (by omega) (by omega) (by omega) (by omega) (by omega)])
    · rw [u1.1 0 (by omega) (by omega), zu_ne _ _ _ _ (by omega), zu_same]
    · rw [er 149 (by omega) (by omega) (by omega) (by omega) (by omega) (by omega) (by omega), er 1 (by omega) (by omega) (by omega) (by omega) (by omega) (by omega) (by omega)]; exact x8 k hk
    · rw [er 1 (by omega) (by omega) (by omega) (by omega) (by omega) (by omega) (by omega)]; exact x9
    · rw [u5, u1.1 11 (by omega) (by omega), zu_row _ _ _ _ (by omega), zu_row _ _ _ _ (by omega), g3]
    · rw [u6, u1.1 11 (by omega) (by omega), zu_row _ _ _ _ (by omega), zu_row _ _ _ _ (by omega), g4]
    · rw [ej 13 (by omega) (by omega) (by omega) (by omega) (by omega) (by omega)]; exact x12 i hi
    · exact fnR_g (fnR_c x13 (fun a h1 h2 => er a (by omega) (by omega) (by omega) (by omega) (by omega) (by omega) (by omega)) (fun k hk => e150 _ (by omega)) (fun a h1 h2 => ej a (by omega) (by omega) (by omega) (by omega) (by omega) (by omega)) (fun k hk => e152 _ (by omega))) (by omega)
    · obtain ⟨nt', np', nl', nn', q⟩ := x17 m' (by omega)
      exact ⟨nt', np', nl', nn', fnR_g (fnR_c q (fun a h1 h2 => er a (by omega) (by omega) (by omega) (by omega) (by omega) (by omega) (by omega)) (fun k hk => e150 _ (by omega)) (fun a h1 h2 => ej a (by omega) (by omega) (by omega) (by omega) (by omega) (by omega)) (fun k hk => e152 _ (by omega))) (by omega)⟩
    · unfold lvR at x18 ⊢
      rw [er 121 (by omega) (by omega) (by omega) (by omega) (by omega) (by omega) (by omega), er 159 (by omega) (by omega) (by omega) (by omega) (by omega) (by omega) (by omega), e145 38 (by omega)]
      exact x18
  | inr s =>
    obtain ⟨rfl, I1, J1, rfl, g1, g2, g3, g4, g5, g6, g7, g8, g9, g10⟩ := hq
    have r1 : ∀ a, a ≠ 0 → a ≠ 11 → a ≠ 16 → a ≠ 17 → ¬ (d + 12 ≤ a ∧ a ≤ d + 12 + 4) → ¬ (f + 12 ≤ a ∧ a ≤ f + 12 + 4) → zu (s_cpY (zu I1 0 4 (nI 0)) (d + 12) (f + 12) s.1.2.1) 0 0 (nI 0) a = I a := fun a h0 h1 h2 h2' h3 h4 => by rw [zu_row _ _ _ _ h0, cpY_o h4, zu_row _ _ _ _ h0]; exact g1 a h1 h2 h2' h3
    refine ⟨rfl, zEi_mono (mf _ J1 _ (modOk_P M (fun k => by rw [zu_row _ _ _ _ (by decide)])) (by rw [r1 145 (by omega) (by omega) (by omega) (by omega) (by omega) (by omega)]; exact x6) (fun k hk => by rw [r1 149 (by omega) (by omega) (by omega) (by omega) (by omega) (by omega)]; exact x8 k hk) ?_) ?_⟩
    · unfold myN
      rw [r1 150 (by omega) (by omega) (by omega) (by omega) (by omega) (by omega), g2 152 (by omega) (by omega) (by omega) (by omega)]
      refine ⟨⟨hr0, b1⟩, ⟨r2, b2⟩, ⟨r4, b4⟩, fun k hk => ?_, fun k hk => ?_, fun k hk => ?_⟩
      · have := y2 k hk; rw [Nat.mul_zero, Nat.zero_add] at this; exact this
      · have := y3 k hk; rw [Nat.mul_zero, Nat.zero_add] at this; exact this
      · have := y4 k hk; rw [Nat.mul_zero, Nat.zero_add] at this; exact this
    rintro r w ⟨rfl, I2, J2, mm, rfl, u1, u2, u3, u4, u5, u6, hyI, hyb⟩
    refine ⟨rfl, f, d, nt, np, nl, nn, 0, mk, _, J2, _, S, rfl, clOk_P Z (fun a k h1 h2 => zu_ne _ _ _ _ h1) (by rw [zu_row _ _ _ _ (by decide)]; exact Z.2.2.2.2.2.1.1) (by rw [zu_row _ _ _ _ (by decide)]; exact Z.2.2.2.2.2.1.2.1) (Or.inl ⟨rfl, rfl⟩), ?_⟩
    generalize hI3 : zcp (zu (zu I2 150 87 (nI 1)) 150 88 (nI s.1.1)) 150 150 1525 89 (9 * s.1.1) = I3
    have eI : ∀ a, a ≠ 150 → I3 a = I2 a := fun a h => by rw [← hI3, zcp_ne h, zu_row _ _ _ _ h, zu_row _ _ _ _ h]
    have e1 : ∀ a, a ≠ 0 → a ≠ 145 → a ≠ 150 → I3 a = s_cpY (zu I1 0 4 (nI 0)) (d + 12) (f + 12) s.1.2.1 a := fun a h0 h1 h2 => by rw [eI a h2, u1.1 a h1 h2, zu_row _ _ _ _ h0]
    have er : ∀ a, a ≠ 0 → a ≠ 11 → a ≠ 16 → a ≠ 17 → ¬ (d + 12 ≤ a ∧ a ≤ d + 12 + 4) → ¬ (f + 12 ≤ a ∧ a ≤ f + 12 + 4) → a ≠ 145 → a ≠ 150 → I3 a = I a := fun a h0 h1 h2 h2' h3 h3' h4 h5 => by rw [eI a h5, u1.1 a h4 h5]; exact r1 a h0 h1 h2 h2' h3 h3'
    have ej : ∀ a, a ≠ 11 → a ≠ 16 → a ≠ 17 → ¬ (d + 12 ≤ a ∧ a ≤ d + 12 + 4) → a ≠ 145 → a ≠ 152 → J2 a = J a := fun a h1 h2 h2' h3 h4 h5 => (u2.1 a h4 h5).trans (g2 a h1 h2 h2' h3)
    have e0 : ∀ k, k ≠ 0 → k ≠ 4 → I3 0 k = I 0 k := fun k h1 h2 => by rw [eI 0 (by omega), u1.1 0 (by omega) (by omega), zu_ne _ _ _ _ (by omega), cpY_o (by omega), zu_ne _ _ _ _ (by omega), g1 0 (by omega) (by omega) (by omega) (by omega)]
    have e145 : ∀ k, (k = 23 ∨ 26 ≤ k) → I3 145 k = I 145 k := fun k hk => by rw [eI 145 (by omega), u1.2.2 k hk, r1 145 (by omega) (by omega) (by omega) (by omega) (by omega) (by omega)]
    have hns : s.1.1 ≤ 30 := g8
    have e150 : ∀ k, (k < 87 ∨ 359 ≤ k) → k < 1436 → I3 150 k = I 150 k := fun k h1 hk => by rw [← hI3, zcp_out (by omega), zu_ne _ _ _ _ (by omega), zu_ne _ _ _ _ (by omega), u1.2.1 k hk, r1 150 (by omega) (by omega) (by omega) (by omega) (by omega) (by omega)]
    have e152 : ∀ k, k < 88 → J2 152 k = J 152 k := fun k hk => by rw [u2.2.1 k hk, g2 152 (by omega) (by omega) (by omega) (by omega)]
    have j145 : ∀ k, k ≠ 19 → J2 145 k = J 145 k := fun k hk => by rw [u2.2.2 k hk, g2 145 (by omega) (by omega) (by omega) (by omega)]
    have z12 : zu I1 0 4 (nI 0) (d + 12) 2 = nI s.1.2.1 := by rw [zu_row _ _ _ _ (by omega)]; exact g7
    have cy : ∀ k, k < 3 → I3 (f + 12) k = I1 (d + 12) k := fun k hk => by rw [e1 _ (by omega) (by omega) (by omega), cpY_0 z12 hk, zu_row _ _ _ _ (by omega)]
    have hdd : f + 12 + 4 < d + 12 ∨ d + 12 + 4 < f + 12 := by omega
    have cyr : ∀ r k, 1 ≤ r → r ≤ 4 → k < s.1.2.1 → I3 (f + 12 + r) k = s.2.2 r k := fun r k h1 h2 hk => by
      rw [e1 _ (by omega) (by omega) (by omega), ← g5]
      show _ = I1 (d + 12 + r) k
      rcases (show r = 1 ∨ r = 2 ∨ r = 3 ∨ r = 4 by omega) with rfl | rfl | rfl | rfl
      · rw [cpY_1 hdd hk, zu_row _ _ _ _ (by omega)]
      · rw [cpY_2 hdd hk, zu_row _ _ _ _ (by omega)]
      · rw [cpY_3 hdd hk, zu_row _ _ _ _ (by omega)]
      · rw [cpY_4 hdd hk, zu_row _ _ _ _ (by omega)]
    refine ⟨⟨?_, ?_, ?_⟩, fun t ht => ?_, ⟨⟨?_, ?_, by omega⟩, fun k hk => ?_, ?_⟩, ⟨?_, ?_⟩, fun i hi => ?_, ⟨?_, ⟨fun k hk => ?_, fun k hk => ?_, fun k hk => ?_⟩, Or.inr ⟨mm, s.1.1, s.1.2.1, ?_, ?_, ⟨?_, ?_, hns⟩, ⟨?_, g9⟩, ?_⟩⟩, ⟨⟨(e0 13 (by omega) (by omega)).trans x14, (e145 23 (by omega)).trans x15, x16⟩, fun m' hm' => ?_⟩, ?_⟩
    · rw [eI 145 (by omega), u3, eI 0 (by omega), u1.1 0 (by omega) (by omega), zu_same]
    · rw [j145 2 (by omega), ej 0 (by omega) (by omega) (by omega) (by omega) (by omega) (by omega)]; exact x2
    · rw [j145 3 (by omega), ej 0 (by omega) (by omega) (by omega) (by omega) (by omega) (by omega)]; exact x3
    · exact trR_c (x4 t ht) (er _ (by omega) (by omega) (by omega) (by omega) (by omega) (by omega) (by omega) (by omega)) (by rw [er 147 (by omega) (by omega) (by omega) (by omega) (by omega) (by omega) (by omega) (by omega)]) (by rw [er 146 (by omega) (by omega) (by omega) (by omega) (by omega) (by omega) (by omega) (by omega)]) (ej _ (by omega) (by omega) (by omega) (by omega) (by omega) (by omega)) (fun p _ => by rw [ej 148 (by omega) (by omega) (by omega) (by omega) (by omega) (by omega)])
    · rw [eI 0 (by omega), u1.1 0 (by omega) (by omega), zu_ne _ _ _ _ (by omega), cpY_o (by omega), zu_same]
    · rw [eI 145 (by omega)]; exact u4
    · rw [er 149 (by omega) (by omega) (by omega) (by omega) (by omega) (by omega) (by omega) (by omega), er 1 (by omega) (by omega) (by omega) (by omega) (by omega) (by omega) (by omega) (by omega)]; exact x8 k hk
    · rw [er 1 (by omega) (by omega) (by omega) (by omega) (by omega) (by omega) (by omega) (by omega)]; exact x9
    · rw [eI 145 (by omega), u5, e1 11 (by omega) (by omega) (by omega), cpY_o (by omega), zu_row _ _ _ _ (by omega), g3]
    · rw [eI 145 (by omega), u6, e1 11 (by omega) (by omega) (by omega), cpY_o (by omega), zu_row _ _ _ _ (by omega), g4]
    · rw [ej 13 (by omega) (by omega) (by omega) (by omega) (by omega) (by omega)]; exact x12 i hi
    · exact fmR_R (fmR_A (fmR_g y1 (by omega)) (fun r hr => er (f + r) (by omega) (by omega) (by omega) (by omega) (by omega) (by omega) (by omega) (by omega))) (fun k hk => e150 _ (by omega) (by omega))
    · rw [ej (f + 9) (by omega) (by omega) (by omega) (by omega) (by omega) (by omega), e152 _ (by omega)]; exact y2 k hk
    · rw [ej (f + 10) (by omega) (by omega) (by omega) (by omega) (by omega) (by omega), e152 _ (by omega)]; exact y3 k hk
    · rw [ej (f + 11) (by omega) (by omega) (by omega) (by omega) (by omega) (by omega), e152 _ (by omega)]; exact y4 k hk
    · rw [cy 0 (by omega)]; exact g10
    · rw [← hI3, zcp_out (by omega), zu_ne _ _ _ _ (by omega)]; exact zu_same _ _ _ _
    · rw [cy 1 (by omega)]; exact g6
    · rw [← hI3, zcp_out (by omega)]; exact zu_same _ _ _ _
    · rw [cy 2 (by omega)]; exact g7
    · refine yb_n (n := (sf f J, nt, np, nn)) (n' := n3 nt np nn) (Nat.le_refl _) (Nat.le_refl _) (Nat.le_refl _) _ _ _ _ _ (yb_c _ _ _ _ _ (fun r k h1 h2 _ hk => cyr r k h1 h2 hk) (fun c k _ hc hk => ?_) hyb)
      show I3 150 (359 * 0 + 89 + 9 * c + k) = I2 150 (1525 + 9 * c + k)
      rw [← hI3, zcp_in (by omega) (by omega), zu_ne _ _ _ _ (by omega), zu_ne _ _ _ _ (by omega), show 1525 + (359 * 0 + 89 + 9 * c + k - 89) = 1525 + 9 * c + k by omega]
    · obtain ⟨nt', np', nl', nn', q⟩ := x17 m' (by omega)
      exact ⟨nt', np', nl', nn', fnR_g (fnR_c q (fun a h1 h2 => er a (by omega) (by omega) (by omega) (by omega) (by omega) (by omega) (by omega) (by omega)) (fun k hk => e150 _ (by omega) (by omega)) (fun a h1 h2 => ej a (by omega) (by omega) (by omega) (by omega) (by omega) (by omega)) (fun k hk => e152 _ (by omega))) (by omega)⟩
    · unfold lvR at x18 ⊢
      rw [er 121 (by omega) (by omega) (by omega) (by omega) (by omega) (by omega) (by omega) (by omega), er 159 (by omega) (by omega) (by omega) (by omega) (by omega) (by omega) (by omega) (by omega), e145 38 (by omega)]
      exact x18
end YC0
