/-! trays, both sides, on -/
section TY1
variable {G : zG} {I I' I2 : Nat → Nat → Int32} {J J' J2 : Nat → Nat → Int64} {P : Nat → Nat → Option Nat} {S : List (Nat × Nat)} {f d nt np nl nn n fed fed' mk st t l k : Nat} {a b c : Int32} {x : Int64} {w : zW}
theorem zInv_q (Z : clOk f d P S) (X : stR n f nt np nl nn fed mk I J) (e : ∀ a, a ≠ 0 → a ≠ 145 → ¬ (122 ≤ a ∧ a ≤ 144) → ¬ (151 ≤ a ∧ a ≤ 158) → I2 a = I a) (e0 : ∀ k, 1 ≤ k → I2 0 k = I 0 k) (e145 : ∀ k, (k = 8 ∨ k = 10 ∨ k = 11 ∨ k = 23 ∨ k = 38) → I2 145 k = I 145 k) (ej : ∀ a, a ≠ 139 → a ≠ 158 → a ≠ 0 → a ≠ 145 → J2 a = J a) (hs : I2 145 0 = I2 0 0 ∧ J2 145 2 = J2 0 1 ∧ J2 145 3 = J2 0 2) : zInv (n + 1) (I2, J2, P, S) := by
  have hf := clOk_f Z
  refine ⟨f, d, nt, np, nl, nn, fed, mk, I2, J2, P, S, rfl, Z, ?_⟩
  refine stR_q X hf ⟨fun a ha => e a (by omega) (by omega) (by omega) (by omega), e0, ?_, fun k _ => by rw [e 150 (by omega) (by omega) (by omega) (by omega)], e145⟩ (fun a q1 q2 => e a (by omega) (by omega) (by omega) (by omega)) (fun k _ => by rw [e 150 (by omega) (by omega) (by omega) (by omega)]) ⟨fun a ha => ej a (by omega) (by omega) (by omega) (by omega), fun k _ => by rw [ej _ (by omega) (by omega) (by omega) (by omega)], fun k _ => by rw [ej _ (by omega) (by omega) (by omega) (by omega)]⟩ hs
  rw [e 11 (by omega) (by omega) (by omega) (by omega)]; exact ⟨rfl, rfl⟩
theorem zInv_1 {x : Int32} (Z : clOk f d P S) (X : stR n f nt np nl nn fed mk I J) : zInv (n + 1) (zu I 145 1 x, J, P, S) := zInv_q Z X (fun a _ h _ _ => zu_row _ _ _ _ h) (fun k _ => zu_ne _ _ _ _ (by omega)) (fun k hk => zu_ne _ _ _ _ (by omega)) (fun _ _ _ _ _ => rfl) ⟨by rw [zu_ne _ _ _ _ (by omega), zu_ne _ _ _ _ (by omega)]; exact X.1.1, X.1.2⟩
theorem clOk_0 (Z : clOk f d P S) : S[0]? = some (11, 20) := Z.1.1
theorem L_status (h : zInv n w) : zEi G y_Tf_status prog_1_method_2_code 1 (some .int) 1 [.ref 0] w (fun r w1 => w1.2.2.2 = w.2.2.2 ∧ zEi G y_Mo_status prog_14_method_3_code 1 (some .int) 1 [.ref 145] w1 (fun r' w2 => r' = r ∧ zInv (n + 1) w2)) := by
  obtain ⟨f, d, nt, np, nl, nn, fed, mk, I, J, P, S, rfl, Z, X⟩ := h
  have M := clOk_M Z
  have hf := clOk_f Z
  have N := stR_fen X
  have N0 := stR_mod X
  have fm := stR_fm X
  obtain ⟨⟨⟨a1, r1, b1⟩, ⟨a2, r2, b2⟩, ⟨a3, r3, b3⟩, ⟨a4, r4, b4⟩⟩, ⟨⟨o, ob, ao, ro⟩, r5⟩, fw, fp, ft, fz⟩ := id fm
  refine zEi_mono (t_Tf_status (clOk_0 Z)) ?_
  rintro r w ⟨rfl, rfl⟩
  refine ⟨rfl, zEi_mono (t_Mo_status M) ?_⟩
  rintro r w ⟨rfl, rfl⟩
  exact ⟨X.1.1, zInv_1 Z X⟩
theorem L_top (h : zInv n w) : zEl G y_Tf_top prog_1_method_3_code 1 (some .long) 1 [.ref 0] w (fun r w1 => w1.2.2.2 = w.2.2.2 ∧ zEl G y_Mo_top prog_14_method_4_code 1 (some .long) 1 [.ref 145] w1 (fun r' w2 => r' = r ∧ zInv (n + 1) w2)) := by
  obtain ⟨f, d, nt, np, nl, nn, fed, mk, I, J, P, S, rfl, Z, X⟩ := h
  have M := clOk_M Z
  have hf := clOk_f Z
  have N := stR_fen X
  have N0 := stR_mod X
  have fm := stR_fm X
  obtain ⟨⟨⟨a1, r1, b1⟩, ⟨a2, r2, b2⟩, ⟨a3, r3, b3⟩, ⟨a4, r4, b4⟩⟩, ⟨⟨o, ob, ao, ro⟩, r5⟩, fw, fp, ft, fz⟩ := id fm
  refine zEl_mono (t_Tf_top (clOk_0 Z)) ?_
  rintro r w ⟨rfl, rfl⟩
  refine ⟨rfl, zEl_mono (t_Mo_top M) ?_⟩
  rintro r w ⟨rfl, rfl⟩
  exact ⟨X.1.2.1, zInv_1 Z X⟩
theorem L_bottom (h : zInv n w) : zEl G y_Tf_bottom prog_1_method_4_code 1 (some .long) 1 [.ref 0] w (fun r w1 => w1.2.2.2 = w.2.2.2 ∧ zEl G y_Mo_bottom prog_14_method_5_code 1 (some .long) 1 [.ref 145] w1 (fun r' w2 => r' = r ∧ zInv (n + 1) w2)) := by
  obtain ⟨f, d, nt, np, nl, nn, fed, mk, I, J, P, S, rfl, Z, X⟩ := h
  have M := clOk_M Z
  have hf := clOk_f Z
  have N := stR_fen X
  have N0 := stR_mod X
  have fm := stR_fm X
  obtain ⟨⟨⟨a1, r1, b1⟩, ⟨a2, r2, b2⟩, ⟨a3, r3, b3⟩, ⟨a4, r4, b4⟩⟩, ⟨⟨o, ob, ao, ro⟩, r5⟩, fw, fp, ft, fz⟩ := id fm
  refine zEl_mono (t_Tf_bottom (clOk_0 Z)) ?_
  rintro r w ⟨rfl, rfl⟩
  refine ⟨rfl, zEl_mono (t_Mo_bottom M) ?_⟩
  rintro r w ⟨rfl, rfl⟩
  exact ⟨X.1.2.2, zInv_1 Z X⟩
theorem t_Tf_fault_0 (Z : clOk f d P S) : zEi G y_Tf_fault prog_1_method_12_code 2 (some .int) 1 [.ref 0, .int (nI 0)] (I, J, P, S) (fun r w => r = I 11 10 ∧ w = (I, J, P, S)) := by
  obtain ⟨⟨c0, c3, c1s⟩, ⟨c5, c2s, ctr⟩, ⟨c6, c11s, c11, c13s⟩, ⟨c7, c15s, c15⟩, ⟨c8, c16s, c16a, c16b, c17s⟩, ⟨c9, c10, cfd, F, Fd⟩, ⟨c11b, Ft⟩, ⟨c12, c69s, cmk⟩, ⟨c14, c121s, c121, c122s⟩, ⟨c15b, c123s, c123, c124s⟩, ⟨c16, c125s, c125, c126s⟩, ⟨c17, c127s, c127, c128s, ctb⟩, ⟨c18, c139s, c139, c140s⟩, ⟨c19, c141s, ⟨c141a, c142s⟩, ⟨c141b, c143s⟩, ⟨c141c, c144s⟩⟩, M⟩ := id Z
  refine zEi_of (lv := [some (.ref 0), some (.int (nI 0))]) (by decide) rfl (Nat.le_of_ble_eq_true rfl) ?_
  refine z_iload_1 d_Tf_fault_0 ?_
  refine z_if_ne (tgt := 12) d_Tf_fault_1 (by decide) (fun h1 => ?_) (fun h1 => ?_)
  · first
    | (simp (disch := omega) only [← nI_0, nI_leI, nI_ltI, nI_eq, not_true_eq_false, not_false_eq_true] at h1; done)
    | (simp (disch := omega) only [← nI_0, nI_leI, nI_ltI, nI_eq, not_true_eq_false, not_false_eq_true] at h1; omega)
    | contradiction
    | exact absurd h1 (Int32.not_lt.mpr (by assumption))
    | exact absurd h1 (Int32.not_le.mpr (by assumption))
    | exact absurd h1 (by decide)
    | exact absurd (by decide) h1
    | ( try simp (disch := omega) only [← nI_0, nI_leI, nI_ltI, nI_eq, not_true_eq_false, not_false_eq_true] at h1
        (try have h1b := zbit_n0.mp h1); (try have h1b := zbit_p0.mp h1)
        refine z_iload_1 d_Tf_fault_12 ?_
        refine z_iconst (a := nI 1) d_Tf_fault_13 (by decide) ?_
        refine z_icmp_ne (tgt := 27) d_Tf_fault_14 (by decide) (fun h14 => ?_) (fun h14 => ?_)
        · first
          | (simp (disch := omega) only [← nI_0, nI_leI, nI_ltI, nI_eq, not_true_eq_false, not_false_eq_true] at h14; done)
          | (simp (disch := omega) only [← nI_0, nI_leI, nI_ltI, nI_eq, not_true_eq_false, not_false_eq_true] at h14; omega)
          | contradiction
          | exact absurd h14 (Int32.not_lt.mpr (by assumption))
          | exact absurd h14 (Int32.not_le.mpr (by assumption))
          | exact absurd h14 (by decide)
          | exact absurd (by decide) h14
          | ( try simp (disch := omega) only [← nI_0, nI_leI, nI_ltI, nI_eq, not_true_eq_false, not_false_eq_true] at h14
              (try have h14b := zbit_n0.mp h14); (try have h14b := zbit_p0.mp h14)
              refine z_iconst (a := -1) d_Tf_fault_27 (by decide) ?_
              refine z_reti d_Tf_fault_28 ?_
              exact ⟨rfl, rfl⟩)
        · first
          | (simp (disch := omega) only [← nI_0, nI_leI, nI_ltI, nI_eq, not_true_eq_false, not_false_eq_true] at h14; done)
          | (simp (disch := omega) only [← nI_0, nI_leI, nI_ltI, nI_eq, not_true_eq_false, not_false_eq_true] at h14; omega)
          | contradiction
          | exact absurd h14 (Int32.not_lt.mpr (by assumption))
          | exact absurd h14 (Int32.not_le.mpr (by assumption))
          | exact absurd h14 (by decide)
          | exact absurd (by decide) h14
          | ( try simp (disch := omega) only [← nI_0, nI_leI, nI_ltI, nI_eq, not_true_eq_false, not_false_eq_true] at h14
              (try have h14b := zbit_n0.mp h14); (try have h14b := zbit_p0.mp h14)
              refine z_aload_0 d_Tf_fault_17 ?_
              refine z_getR d_Tf_fault_18 f_Tf_37 (by first | assumption | exact zS0_at (by assumption) (by omega) | exact zS0_at rfl (by omega)) (by first | assumption | exact zS0_at (by assumption) (by omega) | exact zS0_at rfl (by omega)) ?_
              refine z_getIv d_Tf_fault_21 f_Tf_196 (by first | assumption | exact zS0_at (by assumption) (by omega) | exact zS0_at rfl (by omega)) (by first | assumption | ((try simp (disch := omega) only [zu_same, zu_ne, zcp_ne, zfl_ne]); first | assumption | rfl)) ?_
              refine z_goto (tgt := 28) d_Tf_fault_24 (by decide) ?_
              refine z_reti d_Tf_fault_28 ?_
              exact ⟨rfl, rfl⟩))
  · first
    | (simp (disch := omega) only [← nI_0, nI_leI, nI_ltI, nI_eq, not_true_eq_false, not_false_eq_true] at h1; done)
    | (simp (disch := omega) only [← nI_0, nI_leI, nI_ltI, nI_eq, not_true_eq_false, not_false_eq_true] at h1; omega)
    | contradiction
    | exact absurd h1 (Int32.not_lt.mpr (by assumption))
    | exact absurd h1 (Int32.not_le.mpr (by assumption))
    | exact absurd h1 (by decide)
    | exact absurd (by decide) h1
    | ( try simp (disch := omega) only [← nI_0, nI_leI, nI_ltI, nI_eq, not_true_eq_false, not_false_eq_true] at h1
        (try have h1b := zbit_n0.mp h1); (try have h1b := zbit_p0.mp h1)
        refine z_aload_0 d_Tf_fault_4 ?_
        refine z_getR d_Tf_fault_5 f_Tf_37 (by first | assumption | exact zS0_at (by assumption) (by omega) | exact zS0_at rfl (by omega)) (by first | assumption | exact zS0_at (by assumption) (by omega) | exact zS0_at rfl (by omega)) ?_
        refine z_getIv d_Tf_fault_8 f_Tf_193 (by first | assumption | exact zS0_at (by assumption) (by omega) | exact zS0_at rfl (by omega)) (by first | assumption | ((try simp (disch := omega) only [zu_same, zu_ne, zcp_ne, zfl_ne]); first | assumption | rfl)) ?_
        refine z_reti d_Tf_fault_11 ?_
        exact ⟨rfl, rfl⟩)
theorem t_Tf_fault_1 (Z : clOk f d P S) : zEi G y_Tf_fault prog_1_method_12_code 2 (some .int) 1 [.ref 0, .int (nI 1)] (I, J, P, S) (fun r w => r = I 11 11 ∧ w = (I, J, P, S)) := by
  obtain ⟨⟨c0, c3, c1s⟩, ⟨c5, c2s, ctr⟩, ⟨c6, c11s, c11, c13s⟩, ⟨c7, c15s, c15⟩, ⟨c8, c16s, c16a, c16b, c17s⟩, ⟨c9, c10, cfd, F, Fd⟩, ⟨c11b, Ft⟩, ⟨c12, c69s, cmk⟩, ⟨c14, c121s, c121, c122s⟩, ⟨c15b, c123s, c123, c124s⟩, ⟨c16, c125s, c125, c126s⟩, ⟨c17, c127s, c127, c128s, ctb⟩, ⟨c18, c139s, c139, c140s⟩, ⟨c19, c141s, ⟨c141a, c142s⟩, ⟨c141b, c143s⟩, ⟨c141c, c144s⟩⟩, M⟩ := id Z
  refine zEi_of (lv := [some (.ref 0), some (.int (nI 1))]) (by decide) rfl (Nat.le_of_ble_eq_true rfl) ?_
  refine z_iload_1 d_Tf_fault_0 ?_
  refine z_if_ne (tgt := 12) d_Tf_fault_1 (by decide) (fun h1 => ?_) (fun h1 => ?_)
  · first
    | (simp (disch := omega) only [← nI_0, nI_leI, nI_ltI, nI_eq, not_true_eq_false, not_false_eq_true] at h1; done)
    | (simp (disch := omega) only [← nI_0, nI_leI, nI_ltI, nI_eq, not_true_eq_false, not_false_eq_true] at h1; omega)
    | contradiction
    | exact absurd h1 (Int32.not_lt.mpr (by assumption))
    | exact absurd h1 (Int32.not_le.mpr (by assumption))
    | exact absurd h1 (by decide)
    | exact absurd (by decide) h1
    | ( try simp (disch := omega) only [← nI_0, nI_leI, nI_ltI, nI_eq, not_true_eq_false, not_false_eq_true] at h1
        (try have h1b := zbit_n0.mp h1); (try have h1b := zbit_p0.mp h1)
        refine z_iload_1 d_Tf_fault_12 ?_
        refine z_iconst (a := nI 1) d_Tf_fault_13 (by decide) ?_
        refine z_icmp_ne (tgt := 27) d_Tf_fault_14 (by decide) (fun h14 => ?_) (fun h14 => ?_)
        · first
          | (simp (disch := omega) only [← nI_0, nI_leI, nI_ltI, nI_eq, not_true_eq_false, not_false_eq_true] at h14; done)
          | (simp (disch := omega) only [← nI_0, nI_leI, nI_ltI, nI_eq, not_true_eq_false, not_false_eq_true] at h14; omega)
          | contradiction
          | exact absurd h14 (Int32.not_lt.mpr (by assumption))
          | exact absurd h14 (Int32.not_le.mpr (by assumption))
          | exact absurd h14 (by decide)
          | exact absurd (by decide) h14
          | ( try simp (disch := omega) only [← nI_0, nI_leI, nI_ltI, nI_eq, not_true_eq_false, not_false_eq_true] at h14
              (try have h14b := zbit_n0.mp h14); (try have h14b := zbit_p0.mp h14)
              refine z_iconst (a := -1) d_Tf_fault_27 (by decide) ?_
              refine z_reti d_Tf_fault_28 ?_
              exact ⟨rfl, rfl⟩)
        · first
          | (simp (disch := omega) only [← nI_0, nI_leI, nI_ltI, nI_eq, not_true_eq_false, not_false_eq_true] at h14; done)
          | (simp (disch := omega) only [← nI_0, nI_leI, nI_ltI, nI_eq, not_true_eq_false, not_false_eq_true] at h14; omega)
          | contradiction
          | exact absurd h14 (Int32.not_lt.mpr (by assumption))
          | exact absurd h14 (Int32.not_le.mpr (by assumption))
          | exact absurd h14 (by decide)
          | exact absurd (by decide) h14
          | ( try simp (disch := omega) only [← nI_0, nI_leI, nI_ltI, nI_eq, not_true_eq_false, not_false_eq_true] at h14
              (try have h14b := zbit_n0.mp h14); (try have h14b := zbit_p0.mp h14)
              refine z_aload_0 d_Tf_fault_17 ?_
              refine z_getR d_Tf_fault_18 f_Tf_37 (by first | assumption | exact zS0_at (by assumption) (by omega) | exact zS0_at rfl (by omega)) (by first | assumption | exact zS0_at (by assumption) (by omega) | exact zS0_at rfl (by omega)) ?_
              refine z_getIv d_Tf_fault_21 f_Tf_196 (by first | assumption | exact zS0_at (by assumption) (by omega) | exact zS0_at rfl (by omega)) (by first | assumption | ((try simp (disch := omega) only [zu_same, zu_ne, zcp_ne, zfl_ne]); first | assumption | rfl)) ?_
              refine z_goto (tgt := 28) d_Tf_fault_24 (by decide) ?_
              refine z_reti d_Tf_fault_28 ?_
              exact ⟨rfl, rfl⟩))
  · first
    | (simp (disch := omega) only [← nI_0, nI_leI, nI_ltI, nI_eq, not_true_eq_false, not_false_eq_true] at h1; done)
    | (simp (disch := omega) only [← nI_0, nI_leI, nI_ltI, nI_eq, not_true_eq_false, not_false_eq_true] at h1; omega)
    | contradiction
    | exact absurd h1 (Int32.not_lt.mpr (by assumption))
    | exact absurd h1 (Int32.not_le.mpr (by assumption))
    | exact absurd h1 (by decide)
    | exact absurd (by decide) h1
    | ( try simp (disch := omega) only [← nI_0, nI_leI, nI_ltI, nI_eq, not_true_eq_false, not_false_eq_true] at h1
        (try have h1b := zbit_n0.mp h1); (try have h1b := zbit_p0.mp h1)
        refine z_aload_0 d_Tf_fault_4 ?_
        refine z_getR d_Tf_fault_5 f_Tf_37 (by first | assumption | exact zS0_at (by assumption) (by omega) | exact zS0_at rfl (by omega)) (by first | assumption | exact zS0_at (by assumption) (by omega) | exact zS0_at rfl (by omega)) ?_
        refine z_getIv d_Tf_fault_8 f_Tf_193 (by first | assumption | exact zS0_at (by assumption) (by omega) | exact zS0_at rfl (by omega)) (by first | assumption | ((try simp (disch := omega) only [zu_same, zu_ne, zcp_ne, zfl_ne]); first | assumption | rfl)) ?_
        refine z_reti d_Tf_fault_11 ?_
        exact ⟨rfl, rfl⟩)
theorem t_Tf_fault_x (Z : clOk f d P S) (h0 : ¬ a = nI 0) (h1 : ¬ a = nI 1) : zEi G y_Tf_fault prog_1_method_12_code 2 (some .int) 1 [.ref 0, .int a] (I, J, P, S) (fun r w => r = -1 ∧ w = (I, J, P, S)) := by
  obtain ⟨⟨c0, c3, c1s⟩, ⟨c5, c2s, ctr⟩, ⟨c6, c11s, c11, c13s⟩, ⟨c7, c15s, c15⟩, ⟨c8, c16s, c16a, c16b, c17s⟩, ⟨c9, c10, cfd, F, Fd⟩, ⟨c11b, Ft⟩, ⟨c12, c69s, cmk⟩, ⟨c14, c121s, c121, c122s⟩, ⟨c15b, c123s, c123, c124s⟩, ⟨c16, c125s, c125, c126s⟩, ⟨c17, c127s, c127, c128s, ctb⟩, ⟨c18, c139s, c139, c140s⟩, ⟨c19, c141s, ⟨c141a, c142s⟩, ⟨c141b, c143s⟩, ⟨c141c, c144s⟩⟩, M⟩ := id Z
  have h2 : ¬ a = 0 := h0
  refine zEi_of (lv := [some (.ref 0), some (.int a)]) (by decide) rfl (Nat.le_of_ble_eq_true rfl) ?_
  refine z_iload_1 d_Tf_fault_0 ?_
  refine z_if_ne (tgt := 12) d_Tf_fault_1 (by decide) (fun h1 => ?_) (fun h1 => ?_)
  · first
    | (simp (disch := omega) only [← nI_0, nI_leI, nI_ltI, nI_eq, not_true_eq_false, not_false_eq_true] at h1; done)
    | (simp (disch := omega) only [← nI_0, nI_leI, nI_ltI, nI_eq, not_true_eq_false, not_false_eq_true] at h1; omega)
    | contradiction
    | exact absurd h1 (Int32.not_lt.mpr (by assumption))
    | exact absurd h1 (Int32.not_le.mpr (by assumption))
    | exact absurd h1 (by decide)
    | exact absurd (by decide) h1
    | ( try simp (disch := omega) only [← nI_0, nI_leI, nI_ltI, nI_eq, not_true_eq_false, not_false_eq_true] at h1
        (try have h1b := zbit_n0.mp h1); (try have h1b := zbit_p0.mp h1)
        refine z_iload_1 d_Tf_fault_12 ?_
        refine z_iconst (a := nI 1) d_Tf_fault_13 (by decide) ?_
        refine z_icmp_ne (tgt := 27) d_Tf_fault_14 (by decide) (fun h14 => ?_) (fun h14 => ?_)
        · first
          | (simp (disch := omega) only [← nI_0, nI_leI, nI_ltI, nI_eq, not_true_eq_false, not_false_eq_true] at h14; done)
          | (simp (disch := omega) only [← nI_0, nI_leI, nI_ltI, nI_eq, not_true_eq_false, not_false_eq_true] at h14; omega)
          | contradiction
          | exact absurd h14 (Int32.not_lt.mpr (by assumption))
          | exact absurd h14 (Int32.not_le.mpr (by assumption))
          | exact absurd h14 (by decide)
          | exact absurd (by decide) h14
          | ( try simp (disch := omega) only [← nI_0, nI_leI, nI_ltI, nI_eq, not_true_eq_false, not_false_eq_true] at h14
              (try have h14b := zbit_n0.mp h14); (try have h14b := zbit_p0.mp h14)
              refine z_iconst (a := -1) d_Tf_fault_27 (by decide) ?_
              refine z_reti d_Tf_fault_28 ?_
              exact ⟨rfl, rfl⟩)
        · first
          | (simp (disch := omega) only [← nI_0, nI_leI, nI_ltI, nI_eq, not_true_eq_false, not_false_eq_true] at h14; done)
          | (simp (disch := omega) only [← nI_0, nI_leI, nI_ltI, nI_eq, not_true_eq_false, not_false_eq_true] at h14; omega)
          | contradiction
          | exact absurd h14 (Int32.not_lt.mpr (by assumption))
          | exact absurd h14 (Int32.not_le.mpr (by assumption))
          | exact absurd h14 (by decide)
          | exact absurd (by decide) h14
          | ( try simp (disch := omega) only [← nI_0, nI_leI, nI_ltI, nI_eq, not_true_eq_false, not_false_eq_true] at h14
              (try have h14b := zbit_n0.mp h14); (try have h14b := zbit_p0.mp h14)
              refine z_aload_0 d_Tf_fault_17 ?_
              refine z_getR d_Tf_fault_18 f_Tf_37 (by first | assumption | exact zS0_at (by assumption) (by omega) | exact zS0_at rfl (by omega)) (by first | assumption | exact zS0_at (by assumption) (by omega) | exact zS0_at rfl (by omega)) ?_
              refine z_getIv d_Tf_fault_21 f_Tf_196 (by first | assumption | exact zS0_at (by assumption) (by omega) | exact zS0_at rfl (by omega)) (by first | assumption | ((try simp (disch := omega) only [zu_same, zu_ne, zcp_ne, zfl_ne]); first | assumption | rfl)) ?_
              refine z_goto (tgt := 28) d_Tf_fault_24 (by decide) ?_
              refine z_reti d_Tf_fault_28 ?_
              exact ⟨rfl, rfl⟩))
  · first
    | (simp (disch := omega) only [← nI_0, nI_leI, nI_ltI, nI_eq, not_true_eq_false, not_false_eq_true] at h1; done)
    | (simp (disch := omega) only [← nI_0, nI_leI, nI_ltI, nI_eq, not_true_eq_false, not_false_eq_true] at h1; omega)
    | contradiction
    | exact absurd h1 (Int32.not_lt.mpr (by assumption))
    | exact absurd h1 (Int32.not_le.mpr (by assumption))
    | exact absurd h1 (by decide)
    | exact absurd (by decide) h1
    | ( try simp (disch := omega) only [← nI_0, nI_leI, nI_ltI, nI_eq, not_true_eq_false, not_false_eq_true] at h1
        (try have h1b := zbit_n0.mp h1); (try have h1b := zbit_p0.mp h1)
        refine z_aload_0 d_Tf_fault_4 ?_
        refine z_getR d_Tf_fault_5 f_Tf_37 (by first | assumption | exact zS0_at (by assumption) (by omega) | exact zS0_at rfl (by omega)) (by first | assumption | exact zS0_at (by assumption) (by omega) | exact zS0_at rfl (by omega)) ?_
        refine z_getIv d_Tf_fault_8 f_Tf_193 (by first | assumption | exact zS0_at (by assumption) (by omega) | exact zS0_at rfl (by omega)) (by first | assumption | ((try simp (disch := omega) only [zu_same, zu_ne, zcp_ne, zfl_ne]); first | assumption | rfl)) ?_
        refine z_reti d_Tf_fault_11 ?_
        exact ⟨rfl, rfl⟩)
theorem t_Mo_fault_0 (M : modOk P S) : zEi G y_Mo_fault prog_14_method_53_code 2 (some .int) 1 [.ref 145, .int (nI 0)] (I, J, P, S) (fun r w => r = I 145 10 ∧ w = (zu I 145 1 (nI 0), J, P, S)) := by
  obtain ⟨M0, ⟨M4, M4s⟩, ⟨M5, M5s⟩, ⟨M6, M6s⟩, ⟨M7, M7s⟩, ⟨M20, M20s⟩, ⟨M21, M21s⟩, ⟨M22, M22s⟩, ⟨M26, M26s⟩, ⟨M27, M27s⟩, ⟨M28, M28s⟩, ⟨M30, M30s⟩, ⟨M34, M34s⟩, ⟨M36, M36s⟩, ⟨M37, M37s⟩⟩ := id M
  refine zEi_of (lv := [some (.ref 145), some (.int (nI 0))]) (by decide) rfl (Nat.le_of_ble_eq_true rfl) ?_
  refine z_aload_0 d_Mo_fault_0 ?_
  refine z_iconst (a := nI 0) d_Mo_fault_1 (by decide) ?_
  refine z_putI d_Mo_fault_2 f_Mo_70 (by first | assumption | exact zS0_at (by assumption) (by omega) | exact zS0_at rfl (by omega)) ?_
  refine z_iload_1 d_Mo_fault_5 ?_
  refine z_if_ne (tgt := 16) d_Mo_fault_6 (by decide) (fun h6 => ?_) (fun h6 => ?_)
  · first
    | (simp (disch := omega) only [← nI_0, nI_leI, nI_ltI, nI_eq, not_true_eq_false, not_false_eq_true] at h6; done)
    | (simp (disch := omega) only [← nI_0, nI_leI, nI_ltI, nI_eq, not_true_eq_false, not_false_eq_true] at h6; omega)
    | contradiction
    | exact absurd h6 (Int32.not_lt.mpr (by assumption))
    | exact absurd h6 (Int32.not_le.mpr (by assumption))
    | exact absurd h6 (by decide)
    | exact absurd (by decide) h6
    | ( try simp (disch := omega) only [← nI_0, nI_leI, nI_ltI, nI_eq, not_true_eq_false, not_false_eq_true] at h6
        (try have h6b := zbit_n0.mp h6); (try have h6b := zbit_p0.mp h6)
        refine z_iload_1 d_Mo_fault_16 ?_
        refine z_iconst (a := nI 1) d_Mo_fault_17 (by decide) ?_
        refine z_icmp_ne (tgt := 28) d_Mo_fault_18 (by decide) (fun h18 => ?_) (fun h18 => ?_)
        · first
          | (simp (disch := omega) only [← nI_0, nI_leI, nI_ltI, nI_eq, not_true_eq_false, not_false_eq_true] at h18; done)
          | (simp (disch := omega) only [← nI_0, nI_leI, nI_ltI, nI_eq, not_true_eq_false, not_false_eq_true] at h18; omega)
          | contradiction
          | exact absurd h18 (Int32.not_lt.mpr (by assumption))
          | exact absurd h18 (Int32.not_le.mpr (by assumption))
          | exact absurd h18 (by decide)
          | exact absurd (by decide) h18
          | ( try simp (disch := omega) only [← nI_0, nI_leI, nI_ltI, nI_eq, not_true_eq_false, not_false_eq_true] at h18
              (try have h18b := zbit_n0.mp h18); (try have h18b := zbit_p0.mp h18)
              refine z_iconst (a := -1) d_Mo_fault_28 (by decide) ?_
              refine z_reti d_Mo_fault_29 ?_
              exact ⟨rfl, rfl⟩)
        · first
          | (simp (disch := omega) only [← nI_0, nI_leI, nI_ltI, nI_eq, not_true_eq_false, not_false_eq_true] at h18; done)
          | (simp (disch := omega) only [← nI_0, nI_leI, nI_ltI, nI_eq, not_true_eq_false, not_false_eq_true] at h18; omega)
          | contradiction
          | exact absurd h18 (Int32.not_lt.mpr (by assumption))
          | exact absurd h18 (Int32.not_le.mpr (by assumption))
          | exact absurd h18 (by decide)
          | exact absurd (by decide) h18
          | ( try simp (disch := omega) only [← nI_0, nI_leI, nI_ltI, nI_eq, not_true_eq_false, not_false_eq_true] at h18
              (try have h18b := zbit_n0.mp h18); (try have h18b := zbit_p0.mp h18)
              refine z_aload_0 d_Mo_fault_21 ?_
              refine z_getIv d_Mo_fault_22 f_Mo_32 (by first | assumption | exact zS0_at (by assumption) (by omega) | exact zS0_at rfl (by omega)) (by first | assumption | ((try simp (disch := omega) only [zu_same, zu_ne, zcp_ne, zfl_ne]); first | assumption | rfl)) ?_
              refine z_goto (tgt := 29) d_Mo_fault_25 (by decide) ?_
              refine z_reti d_Mo_fault_29 ?_
              exact ⟨rfl, rfl⟩))
  · first
    | (simp (disch := omega) only [← nI_0, nI_leI, nI_ltI, nI_eq, not_true_eq_false, not_false_eq_true] at h6; done)
    | (simp (disch := omega) only [← nI_0, nI_leI, nI_ltI, nI_eq, not_true_eq_false, not_false_eq_true] at h6; omega)
    | contradiction
    | exact absurd h6 (Int32.not_lt.mpr (by assumption))
    | exact absurd h6 (Int32.not_le.mpr (by assumption))
    | exact absurd h6 (by decide)
    | exact absurd (by decide) h6
    | ( try simp (disch := omega) only [← nI_0, nI_leI, nI_ltI, nI_eq, not_true_eq_false, not_false_eq_true] at h6
        (try have h6b := zbit_n0.mp h6); (try have h6b := zbit_p0.mp h6)
        refine z_aload_0 d_Mo_fault_9 ?_
        refine z_getIv d_Mo_fault_10 f_Mo_28 (by first | assumption | exact zS0_at (by assumption) (by omega) | exact zS0_at rfl (by omega)) (by first | assumption | ((try simp (disch := omega) only [zu_same, zu_ne, zcp_ne, zfl_ne]); first | assumption | rfl)) ?_
        refine z_goto (tgt := 29) d_Mo_fault_13 (by decide) ?_
        refine z_reti d_Mo_fault_29 ?_
        exact ⟨rfl, rfl⟩)
theorem t_Mo_fault_1 (M : modOk P S) : zEi G y_Mo_fault prog_14_method_53_code 2 (some .int) 1 [.ref 145, .int (nI 1)] (I, J, P, S) (fun r w => r = I 145 11 ∧ w = (zu I 145 1 (nI 0), J, P, S)) := by
  obtain ⟨M0, ⟨M4, M4s⟩, ⟨M5, M5s⟩, ⟨M6, M6s⟩, ⟨M7, M7s⟩, ⟨M20, M20s⟩, ⟨M21, M21s⟩, ⟨M22, M22s⟩, ⟨M26, M26s⟩, ⟨M27, M27s⟩, ⟨M28, M28s⟩, ⟨M30, M30s⟩, ⟨M34, M34s⟩, ⟨M36, M36s⟩, ⟨M37, M37s⟩⟩ := id M
  refine zEi_of (lv := [some (.ref 145), some (.int (nI 1))]) (by decide) rfl (Nat.le_of_ble_eq_true rfl) ?_
  refine z_aload_0 d_Mo_fault_0 ?_
  refine z_iconst (a := nI 0) d_Mo_fault_1 (by decide) ?_
  refine z_putI d_Mo_fault_2 f_Mo_70 (by first | assumption | exact zS0_at (by assumption) (by omega) | exact zS0_at rfl (by omega)) ?_
  refine z_iload_1 d_Mo_fault_5 ?_
  refine z_if_ne (tgt := 16) d_Mo_fault_6 (by decide) (fun h6 => ?_) (fun h6 => ?_)
  · first
    | (simp (disch := omega) only [← nI_0, nI_leI, nI_ltI, nI_eq, not_true_eq_false, not_false_eq_true] at h6; done)
    | (simp (disch := omega) only [← nI_0, nI_leI, nI_ltI, nI_eq, not_true_eq_false, not_false_eq_true] at h6; omega)
    | contradiction
    | exact absurd h6 (Int32.not_lt.mpr (by assumption))
    | exact absurd h6 (Int32.not_le.mpr (by assumption))
    | exact absurd h6 (by decide)
    | exact absurd (by decide) h6
    | ( try simp (disch := omega) only [← nI_0, nI_leI, nI_ltI, nI_eq, not_true_eq_false, not_false_eq_true] at h6
        (try have h6b := zbit_n0.mp h6); (try have h6b := zbit_p0.mp h6)
        refine z_iload_1 d_Mo_fault_16 ?_
        refine z_iconst (a := nI 1) d_Mo_fault_17 (by decide) ?_
        refine z_icmp_ne (tgt := 28) d_Mo_fault_18 (by decide) (fun h18 => ?_) (fun h18 => ?_)
        · first
          | (simp (disch := omega) only [← nI_0, nI_leI, nI_ltI, nI_eq, not_true_eq_false, not_false_eq_true] at h18; done)
          | (simp (disch := omega) only [← nI_0, nI_leI, nI_ltI, nI_eq, not_true_eq_false, not_false_eq_true] at h18; omega)
          | contradiction
          | exact absurd h18 (Int32.not_lt.mpr (by assumption))
          | exact absurd h18 (Int32.not_le.mpr (by assumption))
          | exact absurd h18 (by decide)
          | exact absurd (by decide) h18
          | ( try simp (disch := omega) only [← nI_0, nI_leI, nI_ltI, nI_eq, not_true_eq_false, not_false_eq_true] at h18
              (try have h18b := zbit_n0.mp h18); (try have h18b := zbit_p0.mp h18)
              refine z_iconst (a := -1) d_Mo_fault_28 (by decide) ?_
              refine z_reti d_Mo_fault_29 ?_
              exact ⟨rfl, rfl⟩)
        · first
          | (simp (disch := omega) only [← nI_0, nI_leI, nI_ltI, nI_eq, not_true_eq_false, not_false_eq_true] at h18; done)
          | (simp (disch := omega) only [← nI_0, nI_leI, nI_ltI, nI_eq, not_true_eq_false, not_false_eq_true] at h18; omega)
          | contradiction
          | exact absurd h18 (Int32.not_lt.mpr (by assumption))
          | exact absurd h18 (Int32.not_le.mpr (by assumption))
          | exact absurd h18 (by decide)
          | exact absurd (by decide) h18
          | ( try simp (disch := omega) only [← nI_0, nI_leI, nI_ltI, nI_eq, not_true_eq_false, not_false_eq_true] at h18
              (try have h18b := zbit_n0.mp h18); (try have h18b := zbit_p0.mp h18)
              refine z_aload_0 d_Mo_fault_21 ?_
              refine z_getIv d_Mo_fault_22 f_Mo_32 (by first | assumption | exact zS0_at (by assumption) (by omega) | exact zS0_at rfl (by omega)) (by first | assumption | ((try simp (disch := omega) only [zu_same, zu_ne, zcp_ne, zfl_ne]); first | assumption | rfl)) ?_
              refine z_goto (tgt := 29) d_Mo_fault_25 (by decide) ?_
              refine z_reti d_Mo_fault_29 ?_
              exact ⟨rfl, rfl⟩))
  · first
    | (simp (disch := omega) only [← nI_0, nI_leI, nI_ltI, nI_eq, not_true_eq_false, not_false_eq_true] at h6; done)
    | (simp (disch := omega) only [← nI_0, nI_leI, nI_ltI, nI_eq, not_true_eq_false, not_false_eq_true] at h6; omega)
    | contradiction
    | exact absurd h6 (Int32.not_lt.mpr (by assumption))
    | exact absurd h6 (Int32.not_le.mpr (by assumption))
    | exact absurd h6 (by decide)
    | exact absurd (by decide) h6
    | ( try simp (disch := omega) only [← nI_0, nI_leI, nI_ltI, nI_eq, not_true_eq_false, not_false_eq_true] at h6
        (try have h6b := zbit_n0.mp h6); (try have h6b := zbit_p0.mp h6)
        refine z_aload_0 d_Mo_fault_9 ?_
        refine z_getIv d_Mo_fault_10 f_Mo_28 (by first | assumption | exact zS0_at (by assumption) (by omega) | exact zS0_at rfl (by omega)) (by first | assumption | ((try simp (disch := omega) only [zu_same, zu_ne, zcp_ne, zfl_ne]); first | assumption | rfl)) ?_
        refine z_goto (tgt := 29) d_Mo_fault_13 (by decide) ?_
        refine z_reti d_Mo_fault_29 ?_
        exact ⟨rfl, rfl⟩)
theorem t_Mo_fault_x (M : modOk P S) (h0 : ¬ a = nI 0) (h1 : ¬ a = nI 1) : zEi G y_Mo_fault prog_14_method_53_code 2 (some .int) 1 [.ref 145, .int a] (I, J, P, S) (fun r w => r = -1 ∧ w = (zu I 145 1 (nI 0), J, P, S)) := by
  obtain ⟨M0, ⟨M4, M4s⟩, ⟨M5, M5s⟩, ⟨M6, M6s⟩, ⟨M7, M7s⟩, ⟨M20, M20s⟩, ⟨M21, M21s⟩, ⟨M22, M22s⟩, ⟨M26, M26s⟩, ⟨M27, M27s⟩, ⟨M28, M28s⟩, ⟨M30, M30s⟩, ⟨M34, M34s⟩, ⟨M36, M36s⟩, ⟨M37, M37s⟩⟩ := id M
  have h2 : ¬ a = 0 := h0
  refine zEi_of (lv := [some (.ref 145), some (.int a)]) (by decide) rfl (Nat.le_of_ble_eq_true rfl) ?_
  refine z_aload_0 d_Mo_fault_0 ?_
  refine z_iconst (a := nI 0) d_Mo_fault_1 (by decide) ?_
  refine z_putI d_Mo_fault_2 f_Mo_70 (by first | assumption | exact zS0_at (by assumption) (by omega) | exact zS0_at rfl (by omega)) ?_
  refine z_iload_1 d_Mo_fault_5 ?_
  refine z_if_ne (tgt := 16) d_Mo_fault_6 (by decide) (fun h6 => ?_) (fun h6 => ?_)
  · first
    | (simp (disch := omega) only [← nI_0, nI_leI, nI_ltI, nI_eq, not_true_eq_false, not_false_eq_true] at h6; done)
    | (simp (disch := omega) only [← nI_0, nI_leI, nI_ltI, nI_eq, not_true_eq_false, not_false_eq_true] at h6; omega)
    | contradiction
    | exact absurd h6 (Int32.not_lt.mpr (by assumption))
    | exact absurd h6 (Int32.not_le.mpr (by assumption))
    | exact absurd h6 (by decide)
    | exact absurd (by decide) h6
    | ( try simp (disch := omega) only [← nI_0, nI_leI, nI_ltI, nI_eq, not_true_eq_false, not_false_eq_true] at h6
        (try have h6b := zbit_n0.mp h6); (try have h6b := zbit_p0.mp h6)
        refine z_iload_1 d_Mo_fault_16 ?_
        refine z_iconst (a := nI 1) d_Mo_fault_17 (by decide) ?_
        refine z_icmp_ne (tgt := 28) d_Mo_fault_18 (by decide) (fun h18 => ?_) (fun h18 => ?_)
        · first
          | (simp (disch := omega) only [← nI_0, nI_leI, nI_ltI, nI_eq, not_true_eq_false, not_false_eq_true] at h18; done)
          | (simp (disch := omega) only [← nI_0, nI_leI, nI_ltI, nI_eq, not_true_eq_false, not_false_eq_true] at h18; omega)
          | contradiction
          | exact absurd h18 (Int32.not_lt.mpr (by assumption))
          | exact absurd h18 (Int32.not_le.mpr (by assumption))
          | exact absurd h18 (by decide)
          | exact absurd (by decide) h18
          | ( try simp (disch := omega) only [← nI_0, nI_leI, nI_ltI, nI_eq, not_true_eq_false, not_false_eq_true] at h18
              (try have h18b := zbit_n0.mp h18); (try have h18b := zbit_p0.mp h18)
              refine z_iconst (a := -1) d_Mo_fault_28 (by decide) ?_
              refine z_reti d_Mo_fault_29 ?_
              exact ⟨rfl, rfl⟩)
        · first
          | (simp (disch := omega) only [← nI_0, nI_leI, nI_ltI, nI_eq, not_true_eq_false, not_false_eq_true] at h18; done)
          | (simp (disch := omega) only [← nI_0, nI_leI, nI_ltI, nI_eq, not_true_eq_false, not_false_eq_true] at h18; omega)
          | contradiction
          | exact absurd h18 (Int32.not_lt.mpr (by assumption))
          | exact absurd h18 (Int32.not_le.mpr (by assumption))
          | exact absurd h18 (by decide)
          | exact absurd (by decide) h18
          | ( try simp (disch := omega) only [← nI_0, nI_leI, nI_ltI, nI_eq, not_true_eq_false, not_false_eq_true] at h18
              (try have h18b := zbit_n0.mp h18); (try have h18b := zbit_p0.mp h18)
              refine z_aload_0 d_Mo_fault_21 ?_
              refine z_getIv d_Mo_fault_22 f_Mo_32 (by first | assumption | exact zS0_at (by assumption) (by omega) | exact zS0_at rfl (by omega)) (by first | assumption | ((try simp (disch := omega) only [zu_same, zu_ne, zcp_ne, zfl_ne]); first | assumption | rfl)) ?_
              refine z_goto (tgt := 29) d_Mo_fault_25 (by decide) ?_
              refine z_reti d_Mo_fault_29 ?_
              exact ⟨rfl, rfl⟩))
  · first
    | (simp (disch := omega) only [← nI_0, nI_leI, nI_ltI, nI_eq, not_true_eq_false, not_false_eq_true] at h6; done)
    | (simp (disch := omega) only [← nI_0, nI_leI, nI_ltI, nI_eq, not_true_eq_false, not_false_eq_true] at h6; omega)
    | contradiction
    | exact absurd h6 (Int32.not_lt.mpr (by assumption))
    | exact absurd h6 (Int32.not_le.mpr (by assumption))
    | exact absurd h6 (by decide)
    | exact absurd (by decide) h6
    | ( try simp (disch := omega) only [← nI_0, nI_leI, nI_ltI, nI_eq, not_true_eq_false, not_false_eq_true] at h6
        (try have h6b := zbit_n0.mp h6); (try have h6b := zbit_p0.mp h6)
        refine z_aload_0 d_Mo_fault_9 ?_
        refine z_getIv d_Mo_fault_10 f_Mo_28 (by first | assumption | exact zS0_at (by assumption) (by omega) | exact zS0_at rfl (by omega)) (by first | assumption | ((try simp (disch := omega) only [zu_same, zu_ne, zcp_ne, zfl_ne]); first | assumption | rfl)) ?_
        refine z_goto (tgt := 29) d_Mo_fault_13 (by decide) ?_
        refine z_reti d_Mo_fault_29 ?_
        exact ⟨rfl, rfl⟩)
theorem L_fault (h : zInv n w) : zEi G y_Tf_fault prog_1_method_12_code 2 (some .int) 1 [.ref 0, .int a] w (fun r w1 => w1.2.2.2 = w.2.2.2 ∧ zEi G y_Mo_fault prog_14_method_53_code 2 (some .int) 1 [.ref 145, .int a] w1 (fun r' w2 => r' = r ∧ zInv (n + 1) w2)) := by
  obtain ⟨f, d, nt, np, nl, nn, fed, mk, I, J, P, S, rfl, Z, X⟩ := h
  have M := clOk_M Z
  have hf := clOk_f Z
  have N := stR_fen X
  have N0 := stR_mod X
  have fm := stR_fm X
  obtain ⟨⟨⟨a1, r1, b1⟩, ⟨a2, r2, b2⟩, ⟨a3, r3, b3⟩, ⟨a4, r4, b4⟩⟩, ⟨⟨o, ob, ao, ro⟩, r5⟩, fw, fp, ft, fz⟩ := id fm
  have hq := X.2.2.2.1
  by_cases h0 : a = nI 0
  · subst h0
    refine zEi_mono (t_Tf_fault_0 Z) ?_
    rintro r w ⟨rfl, rfl⟩
    refine ⟨rfl, zEi_mono (t_Mo_fault_0 M) ?_⟩
    rintro r w ⟨rfl, rfl⟩
    exact ⟨hq.1, zInv_1 Z X⟩
  by_cases h1 : a = nI 1
  · subst h1
    refine zEi_mono (t_Tf_fault_1 Z) ?_
    rintro r w ⟨rfl, rfl⟩
    refine ⟨rfl, zEi_mono (t_Mo_fault_1 M) ?_⟩
    rintro r w ⟨rfl, rfl⟩
    exact ⟨hq.2, zInv_1 Z X⟩
  refine zEi_mono (t_Tf_fault_x Z h0 h1) ?_
  rintro r w ⟨rfl, rfl⟩
  refine ⟨rfl, zEi_mono (t_Mo_fault_x M h0 h1) ?_⟩
  rintro r w ⟨rfl, rfl⟩
  exact ⟨rfl, zInv_1 Z X⟩
theorem t_Tf_tray_o (Z : clOk f d P S) (h : ¬ zin a 4 ∨ ¬ zin b 4) : zEi G y_Tf_tray prog_1_method_5_code 4 (some .boolean) 3 [.ref 0, .int a, .int b, .int c] (I, J, P, S) (fun r w => r = nI 0 ∧ cW I J P S 1 w) := by
  obtain ⟨⟨c0, c3, c1s⟩, ⟨c5, c2s, ctr⟩, ⟨c6, c11s, c11, c13s⟩, ⟨c7, c15s, c15⟩, ⟨c8, c16s, c16a, c16b, c17s⟩, ⟨c9, c10, cfd, F, Fd⟩, ⟨c11b, Ft⟩, ⟨c12, c69s, cmk⟩, ⟨c14, c121s, c121, c122s⟩, ⟨c15b, c123s, c123, c124s⟩, ⟨c16, c125s, c125, c126s⟩, ⟨c17, c127s, c127, c128s, ctb⟩, ⟨c18, c139s, c139, c140s⟩, ⟨c19, c141s, ⟨c141a, c142s⟩, ⟨c141b, c143s⟩, ⟨c141c, c144s⟩⟩, M⟩ := id Z
  have h : ¬ zin a 4 ∨ b < 0 ∨ nI 3 < b := by
    rcases h with h | h
    · exact Or.inl h
    · exact Or.inr (zin_not (by decide) h)
  refine zEi_of (lv := [some (.ref 0), some (.int a), some (.int b), some (.int c)]) (by decide) rfl (Nat.le_of_ble_eq_true rfl) ?_
  rcases h with h | h | h
  · refine z_iload_1 d_Tf_tray_0 ?_
    refine z_Si1 d_Tf_tray_1 k_Tf_115 (t_Tf_noTray) ⟨Nat.le_of_ble_eq_true rfl, Nat.le_of_ble_eq_true rfl, Nat.le_of_ble_eq_true rfl, Nat.le_of_ble_eq_true rfl⟩ (Nat.le_of_ble_eq_true rfl) ?_
    intro r w hq
    rcases hq with ⟨⟨hz1, rfl⟩ | ⟨hz1, rfl⟩, rfl⟩
    · first
      | contradiction
      | ( skip
          refine z_if_ne (tgt := 16) d_Tf_tray_4 (by decide) (fun _ => ?_) (fun h => absurd h (by decide))
          refine z_aload_0 d_Tf_tray_16 ?_
          refine z_iconst (a := nI 1) d_Tf_tray_17 (by decide) ?_
          refine z_Vi1 d_Tf_tray_18 k_Tf_119 (by first | assumption | exact zS0_at (by assumption) (by omega) | exact zS0_at rfl (by omega)) (t_Tf_refuse (by assumption)) ⟨Nat.le_of_ble_eq_true rfl, Nat.le_of_ble_eq_true rfl, Nat.le_of_ble_eq_true rfl, Nat.le_of_ble_eq_true rfl⟩ (Nat.le_of_ble_eq_true rfl) ?_
          intro r w hq
          obtain ⟨rfl, rfl⟩ := hq
          refine z_retz d_Tf_tray_21 (by first | exact zb0 | exact zb1 | assumption) ?_
          exact ⟨rfl, cW_0⟩)
    · first
      | contradiction
      | ( skip
          refine z_if_ne (tgt := 16) d_Tf_tray_4 (by decide) (fun h => absurd h (by decide)) (fun _ => ?_)
          refine z_iload_2 d_Tf_tray_7 ?_
          refine z_if_lt (tgt := 16) d_Tf_tray_8 (by decide) (fun h8 => ?_) (fun h8 => ?_)
          · first
            | (simp (disch := omega) only [← nI_0, nI_leI, nI_ltI, nI_eq, not_true_eq_false, not_false_eq_true] at h8; done)
            | (simp (disch := omega) only [← nI_0, nI_leI, nI_ltI, nI_eq, not_true_eq_false, not_false_eq_true] at h8; omega)
            | contradiction
            | exact absurd h8 (Int32.not_lt.mpr (by assumption))
            | exact absurd h8 (Int32.not_le.mpr (by assumption))
            | exact absurd h8 (by decide)
            | exact absurd (by decide) h8
            | ( try simp (disch := omega) only [← nI_0, nI_leI, nI_ltI, nI_eq, not_true_eq_false, not_false_eq_true] at h8
                (try have h8b := zbit_n0.mp h8); (try have h8b := zbit_p0.mp h8)
                refine z_aload_0 d_Tf_tray_16 ?_
                refine z_iconst (a := nI 1) d_Tf_tray_17 (by decide) ?_
                refine z_Vi1 d_Tf_tray_18 k_Tf_119 (by first | assumption | exact zS0_at (by assumption) (by omega) | exact zS0_at rfl (by omega)) (t_Tf_refuse (by assumption)) ⟨Nat.le_of_ble_eq_true rfl, Nat.le_of_ble_eq_true rfl, Nat.le_of_ble_eq_true rfl, Nat.le_of_ble_eq_true rfl⟩ (Nat.le_of_ble_eq_true rfl) ?_
                intro r w hq
                obtain ⟨rfl, rfl⟩ := hq
                refine z_retz d_Tf_tray_21 (by first | exact zb0 | exact zb1 | assumption) ?_
                exact ⟨rfl, cW_0⟩)
          · first
            | (simp (disch := omega) only [← nI_0, nI_leI, nI_ltI, nI_eq, not_true_eq_false, not_false_eq_true] at h8; done)
            | (simp (disch := omega) only [← nI_0, nI_leI, nI_ltI, nI_eq, not_true_eq_false, not_false_eq_true] at h8; omega)
            | contradiction
            | exact absurd h8 (Int32.not_lt.mpr (by assumption))
            | exact absurd h8 (Int32.not_le.mpr (by assumption))
            | exact absurd h8 (by decide)
            | exact absurd (by decide) h8
            | ( try simp (disch := omega) only [← nI_0, nI_leI, nI_ltI, nI_eq, not_true_eq_false, not_false_eq_true] at h8
                (try have h8b := zbit_n0.mp h8); (try have h8b := zbit_p0.mp h8)
                refine z_iload_2 d_Tf_tray_11 ?_
                refine z_iconst (a := nI 3) d_Tf_tray_12 (by decide) ?_
                refine z_icmp_le (tgt := 22) d_Tf_tray_13 (by decide) (fun h13 => ?_) (fun h13 => ?_)
                · first
                  | (simp (disch := omega) only [← nI_0, nI_leI, nI_ltI, nI_eq, not_true_eq_false, not_false_eq_true] at h13; done)
                  | (simp (disch := omega) only [← nI_0, nI_leI, nI_ltI, nI_eq, not_true_eq_false, not_false_eq_true] at h13; omega)
                  | contradiction
                  | exact absurd h13 (Int32.not_lt.mpr (by assumption))
                  | exact absurd h13 (Int32.not_le.mpr (by assumption))
                  | exact absurd h13 (by decide)
                  | exact absurd (by decide) h13
                  | ( try simp (disch := omega) only [← nI_0, nI_leI, nI_ltI, nI_eq, not_true_eq_false, not_false_eq_true] at h13
                      (try have h13b := zbit_n0.mp h13); (try have h13b := zbit_p0.mp h13)
                      contradiction)
                · first
                  | (simp (disch := omega) only [← nI_0, nI_leI, nI_ltI, nI_eq, not_true_eq_false, not_false_eq_true] at h13; done)
                  | (simp (disch := omega) only [← nI_0, nI_leI, nI_ltI, nI_eq, not_true_eq_false, not_false_eq_true] at h13; omega)
                  | contradiction
                  | exact absurd h13 (Int32.not_lt.mpr (by assumption))
                  | exact absurd h13 (Int32.not_le.mpr (by assumption))
                  | exact absurd h13 (by decide)
                  | exact absurd (by decide) h13
                  | ( try simp (disch := omega) only [← nI_0, nI_leI, nI_ltI, nI_eq, not_true_eq_false, not_false_eq_true] at h13
                      (try have h13b := zbit_n0.mp h13); (try have h13b := zbit_p0.mp h13)
                      refine z_aload_0 d_Tf_tray_16 ?_
                      refine z_iconst (a := nI 1) d_Tf_tray_17 (by decide) ?_
                      refine z_Vi1 d_Tf_tray_18 k_Tf_119 (by first | assumption | exact zS0_at (by assumption) (by omega) | exact zS0_at rfl (by omega)) (t_Tf_refuse (by assumption)) ⟨Nat.le_of_ble_eq_true rfl, Nat.le_of_ble_eq_true rfl, Nat.le_of_ble_eq_true rfl, Nat.le_of_ble_eq_true rfl⟩ (Nat.le_of_ble_eq_true rfl) ?_
                      intro r w hq
                      obtain ⟨rfl, rfl⟩ := hq
                      refine z_retz d_Tf_tray_21 (by first | exact zb0 | exact zb1 | assumption) ?_
                      exact ⟨rfl, cW_0⟩)))
  · refine z_iload_1 d_Tf_tray_0 ?_
    refine z_Si1 d_Tf_tray_1 k_Tf_115 (t_Tf_noTray) ⟨Nat.le_of_ble_eq_true rfl, Nat.le_of_ble_eq_true rfl, Nat.le_of_ble_eq_true rfl, Nat.le_of_ble_eq_true rfl⟩ (Nat.le_of_ble_eq_true rfl) ?_
    intro r w hq
    rcases hq with ⟨⟨hz1, rfl⟩ | ⟨hz1, rfl⟩, rfl⟩
    · first
      | contradiction
      | ( skip
          refine z_if_ne (tgt := 16) d_Tf_tray_4 (by decide) (fun _ => ?_) (fun h => absurd h (by decide))
          refine z_aload_0 d_Tf_tray_16 ?_
          refine z_iconst (a := nI 1) d_Tf_tray_17 (by decide) ?_
          refine z_Vi1 d_Tf_tray_18 k_Tf_119 (by first | assumption | exact zS0_at (by assumption) (by omega) | exact zS0_at rfl (by omega)) (t_Tf_refuse (by assumption)) ⟨Nat.le_of_ble_eq_true rfl, Nat.le_of_ble_eq_true rfl, Nat.le_of_ble_eq_true rfl, Nat.le_of_ble_eq_true rfl⟩ (Nat.le_of_ble_eq_true rfl) ?_
          intro r w hq
          obtain ⟨rfl, rfl⟩ := hq
          refine z_retz d_Tf_tray_21 (by first | exact zb0 | exact zb1 | assumption) ?_
          exact ⟨rfl, cW_0⟩)
    · first
      | contradiction
      | ( skip
          refine z_if_ne (tgt := 16) d_Tf_tray_4 (by decide) (fun h => absurd h (by decide)) (fun _ => ?_)
          refine z_iload_2 d_Tf_tray_7 ?_
          refine z_if_lt (tgt := 16) d_Tf_tray_8 (by decide) (fun h8 => ?_) (fun h8 => ?_)
          · first
            | (simp (disch := omega) only [← nI_0, nI_leI, nI_ltI, nI_eq, not_true_eq_false, not_false_eq_true] at h8; done)
            | (simp (disch := omega) only [← nI_0, nI_leI, nI_ltI, nI_eq, not_true_eq_false, not_false_eq_true] at h8; omega)
            | contradiction
            | exact absurd h8 (Int32.not_lt.mpr (by assumption))
            | exact absurd h8 (Int32.not_le.mpr (by assumption))
            | exact absurd h8 (by decide)
            | exact absurd (by decide) h8
            | ( try simp (disch := omega) only [← nI_0, nI_leI, nI_ltI, nI_eq, not_true_eq_false, not_false_eq_true] at h8
                (try have h8b := zbit_n0.mp h8); (try have h8b := zbit_p0.mp h8)
                refine z_aload_0 d_Tf_tray_16 ?_
                refine z_iconst (a := nI 1) d_Tf_tray_17 (by decide) ?_
                refine z_Vi1 d_Tf_tray_18 k_Tf_119 (by first | assumption | exact zS0_at (by assumption) (by omega) | exact zS0_at rfl (by omega)) (t_Tf_refuse (by assumption)) ⟨Nat.le_of_ble_eq_true rfl, Nat.le_of_ble_eq_true rfl, Nat.le_of_ble_eq_true rfl, Nat.le_of_ble_eq_true rfl⟩ (Nat.le_of_ble_eq_true rfl) ?_
                intro r w hq
                obtain ⟨rfl, rfl⟩ := hq
                refine z_retz d_Tf_tray_21 (by first | exact zb0 | exact zb1 | assumption) ?_
                exact ⟨rfl, cW_0⟩)
          · first
            | (simp (disch := omega) only [← nI_0, nI_leI, nI_ltI, nI_eq, not_true_eq_false, not_false_eq_true] at h8; done)
            | (simp (disch := omega) only [← nI_0, nI_leI, nI_ltI, nI_eq, not_true_eq_false, not_false_eq_true] at h8; omega)
            | contradiction
            | exact absurd h8 (Int32.not_lt.mpr (by assumption))
            | exact absurd h8 (Int32.not_le.mpr (by assumption))
            | exact absurd h8 (by decide)
            | exact absurd (by decide) h8
            | ( try simp (disch := omega) only [← nI_0, nI_leI, nI_ltI, nI_eq, not_true_eq_false, not_false_eq_true] at h8
                (try have h8b := zbit_n0.mp h8); (try have h8b := zbit_p0.mp h8)
                refine z_iload_2 d_Tf_tray_11 ?_
                refine z_iconst (a := nI 3) d_Tf_tray_12 (by decide) ?_
                refine z_icmp_le (tgt := 22) d_Tf_tray_13 (by decide) (fun h13 => ?_) (fun h13 => ?_)
                · first
                  | (simp (disch := omega) only [← nI_0, nI_leI, nI_ltI, nI_eq, not_true_eq_false, not_false_eq_true] at h13; done)
                  | (simp (disch := omega) only [← nI_0, nI_leI, nI_ltI, nI_eq, not_true_eq_false, not_false_eq_true] at h13; omega)
                  | contradiction
                  | exact absurd h13 (Int32.not_lt.mpr (by assumption))
                  | exact absurd h13 (Int32.not_le.mpr (by assumption))
                  | exact absurd h13 (by decide)
                  | exact absurd (by decide) h13
                  | ( try simp (disch := omega) only [← nI_0, nI_leI, nI_ltI, nI_eq, not_true_eq_false, not_false_eq_true] at h13
                      (try have h13b := zbit_n0.mp h13); (try have h13b := zbit_p0.mp h13)
                      contradiction)
                · first
                  | (simp (disch := omega) only [← nI_0, nI_leI, nI_ltI, nI_eq, not_true_eq_false, not_false_eq_true] at h13; done)
                  | (simp (disch := omega) only [← nI_0, nI_leI, nI_ltI, nI_eq, not_true_eq_false, not_false_eq_true] at h13; omega)
                  | contradiction
                  | exact absurd h13 (Int32.not_lt.mpr (by assumption))
                  | exact absurd h13 (Int32.not_le.mpr (by assumption))
                  | exact absurd h13 (by decide)
                  | exact absurd (by decide) h13
                  | ( try simp (disch := omega) only [← nI_0, nI_leI, nI_ltI, nI_eq, not_true_eq_false, not_false_eq_true] at h13
                      (try have h13b := zbit_n0.mp h13); (try have h13b := zbit_p0.mp h13)
                      refine z_aload_0 d_Tf_tray_16 ?_
                      refine z_iconst (a := nI 1) d_Tf_tray_17 (by decide) ?_
                      refine z_Vi1 d_Tf_tray_18 k_Tf_119 (by first | assumption | exact zS0_at (by assumption) (by omega) | exact zS0_at rfl (by omega)) (t_Tf_refuse (by assumption)) ⟨Nat.le_of_ble_eq_true rfl, Nat.le_of_ble_eq_true rfl, Nat.le_of_ble_eq_true rfl, Nat.le_of_ble_eq_true rfl⟩ (Nat.le_of_ble_eq_true rfl) ?_
                      intro r w hq
                      obtain ⟨rfl, rfl⟩ := hq
                      refine z_retz d_Tf_tray_21 (by first | exact zb0 | exact zb1 | assumption) ?_
                      exact ⟨rfl, cW_0⟩)))
  · refine z_iload_1 d_Tf_tray_0 ?_
    refine z_Si1 d_Tf_tray_1 k_Tf_115 (t_Tf_noTray) ⟨Nat.le_of_ble_eq_true rfl, Nat.le_of_ble_eq_true rfl, Nat.le_of_ble_eq_true rfl, Nat.le_of_ble_eq_true rfl⟩ (Nat.le_of_ble_eq_true rfl) ?_
    intro r w hq
    rcases hq with ⟨⟨hz1, rfl⟩ | ⟨hz1, rfl⟩, rfl⟩
    · first
      | contradiction
      | ( skip
          refine z_if_ne (tgt := 16) d_Tf_tray_4 (by decide) (fun _ => ?_) (fun h => absurd h (by decide))
          refine z_aload_0 d_Tf_tray_16 ?_
          refine z_iconst (a := nI 1) d_Tf_tray_17 (by decide) ?_
          refine z_Vi1 d_Tf_tray_18 k_Tf_119 (by first | assumption | exact zS0_at (by assumption) (by omega) | exact zS0_at rfl (by omega)) (t_Tf_refuse (by assumption)) ⟨Nat.le_of_ble_eq_true rfl, Nat.le_of_ble_eq_true rfl, Nat.le_of_ble_eq_true rfl, Nat.le_of_ble_eq_true rfl⟩ (Nat.le_of_ble_eq_true rfl) ?_
          intro r w hq
          obtain ⟨rfl, rfl⟩ := hq
          refine z_retz d_Tf_tray_21 (by first | exact zb0 | exact zb1 | assumption) ?_
          exact ⟨rfl, cW_0⟩)
    · first
      | contradiction
      | ( skip
          refine z_if_ne (tgt := 16) d_Tf_tray_4 (by decide) (fun h => absurd h (by decide)) (fun _ => ?_)
          refine z_iload_2 d_Tf_tray_7 ?_
          refine z_if_lt (tgt := 16) d_Tf_tray_8 (by decide) (fun h8 => ?_) (fun h8 => ?_)
          · first
            | (simp (disch := omega) only [← nI_0, nI_leI, nI_ltI, nI_eq, not_true_eq_false, not_false_eq_true] at h8; done)
            | (simp (disch := omega) only [← nI_0, nI_leI, nI_ltI, nI_eq, not_true_eq_false, not_false_eq_true] at h8; omega)
            | contradiction
            | exact absurd h8 (Int32.not_lt.mpr (by assumption))
            | exact absurd h8 (Int32.not_le.mpr (by assumption))
            | exact absurd h8 (by decide)
            | exact absurd (by decide) h8
            | ( try simp (disch := omega) only [← nI_0, nI_leI, nI_ltI, nI_eq, not_true_eq_false, not_false_eq_true] at h8
                (try have h8b := zbit_n0.mp h8); (try have h8b := zbit_p0.mp h8)
                refine z_aload_0 d_Tf_tray_16 ?_
                refine z_iconst (a := nI 1) d_Tf_tray_17 (by decide) ?_
                refine z_Vi1 d_Tf_tray_18 k_Tf_119 (by first | assumption | exact zS0_at (by assumption) (by omega) | exact zS0_at rfl (by omega)) (t_Tf_refuse (by assumption)) ⟨Nat.le_of_ble_eq_true rfl, Nat.le_of_ble_eq_true rfl, Nat.le_of_ble_eq_true rfl, Nat.le_of_ble_eq_true rfl⟩ (Nat.le_of_ble_eq_true rfl) ?_
                intro r w hq
                obtain ⟨rfl, rfl⟩ := hq
                refine z_retz d_Tf_tray_21 (by first | exact zb0 | exact zb1 | assumption) ?_
                exact ⟨rfl, cW_0⟩)
          · first
            | (simp (disch := omega) only [← nI_0, nI_leI, nI_ltI, nI_eq, not_true_eq_false, not_false_eq_true] at h8; done)
            | (simp (disch := omega) only [← nI_0, nI_leI, nI_ltI, nI_eq, not_true_eq_false, not_false_eq_true] at h8; omega)
            | contradiction
            | exact absurd h8 (Int32.not_lt.mpr (by assumption))
            | exact absurd h8 (Int32.not_le.mpr (by assumption))
            | exact absurd h8 (by decide)
            | exact absurd (by decide) h8
            | ( try simp (disch := omega) only [← nI_0, nI_leI, nI_ltI, nI_eq, not_true_eq_false, not_false_eq_true] at h8
                (try have h8b := zbit_n0.mp h8); (try have h8b := zbit_p0.mp h8)
                refine z_iload_2 d_Tf_tray_11 ?_
                refine z_iconst (a := nI 3) d_Tf_tray_12 (by decide) ?_
                refine z_icmp_le (tgt := 22) d_Tf_tray_13 (by decide) (fun h13 => ?_) (fun h13 => ?_)
                · first
                  | (simp (disch := omega) only [← nI_0, nI_leI, nI_ltI, nI_eq, not_true_eq_false, not_false_eq_true] at h13; done)
                  | (simp (disch := omega) only [← nI_0, nI_leI, nI_ltI, nI_eq, not_true_eq_false, not_false_eq_true] at h13; omega)
                  | contradiction
                  | exact absurd h13 (Int32.not_lt.mpr (by assumption))
                  | exact absurd h13 (Int32.not_le.mpr (by assumption))
                  | exact absurd h13 (by decide)
                  | exact absurd (by decide) h13
                  | ( try simp (disch := omega) only [← nI_0, nI_leI, nI_ltI, nI_eq, not_true_eq_false, not_false_eq_true] at h13
                      (try have h13b := zbit_n0.mp h13); (try have h13b := zbit_p0.mp h13)
                      contradiction)
                · first
                  | (simp (disch := omega) only [← nI_0, nI_leI, nI_ltI, nI_eq, not_true_eq_false, not_false_eq_true] at h13; done)
                  | (simp (disch := omega) only [← nI_0, nI_leI, nI_ltI, nI_eq, not_true_eq_false, not_false_eq_true] at h13; omega)
                  | contradiction
                  | exact absurd h13 (Int32.not_lt.mpr (by assumption))
                  | exact absurd h13 (Int32.not_le.mpr (by assumption))
                  | exact absurd h13 (by decide)
                  | exact absurd (by decide) h13
                  | ( try simp (disch := omega) only [← nI_0, nI_leI, nI_ltI, nI_eq, not_true_eq_false, not_false_eq_true] at h13
                      (try have h13b := zbit_n0.mp h13); (try have h13b := zbit_p0.mp h13)
                      refine z_aload_0 d_Tf_tray_16 ?_
                      refine z_iconst (a := nI 1) d_Tf_tray_17 (by decide) ?_
                      refine z_Vi1 d_Tf_tray_18 k_Tf_119 (by first | assumption | exact zS0_at (by assumption) (by omega) | exact zS0_at rfl (by omega)) (t_Tf_refuse (by assumption)) ⟨Nat.le_of_ble_eq_true rfl, Nat.le_of_ble_eq_true rfl, Nat.le_of_ble_eq_true rfl, Nat.le_of_ble_eq_true rfl⟩ (Nat.le_of_ble_eq_true rfl) ?_
                      intro r w hq
                      obtain ⟨rfl, rfl⟩ := hq
                      refine z_retz d_Tf_tray_21 (by first | exact zb0 | exact zb1 | assumption) ?_
                      exact ⟨rfl, cW_0⟩)))
theorem t_Tf_tray_5 (Z : clOk f d P S) (ht : t < 4) (hk : k < 4) (hc : nI 60 < c) : zEi G y_Tf_tray prog_1_method_5_code 4 (some .boolean) 3 [.ref 0, .int (nI t), .int (nI k), .int c] (I, J, P, S) (fun r w => r = nI 0 ∧ cW I J P S 5 w) := by
  obtain ⟨⟨c0, c3, c1s⟩, ⟨c5, c2s, ctr⟩, ⟨c6, c11s, c11, c13s⟩, ⟨c7, c15s, c15⟩, ⟨c8, c16s, c16a, c16b, c17s⟩, ⟨c9, c10, cfd, F, Fd⟩, ⟨c11b, Ft⟩, ⟨c12, c69s, cmk⟩, ⟨c14, c121s, c121, c122s⟩, ⟨c15b, c123s, c123, c124s⟩, ⟨c16, c125s, c125, c126s⟩, ⟨c17, c127s, c127, c128s, ctb⟩, ⟨c18, c139s, c139, c140s⟩, ⟨c19, c141s, ⟨c141a, c142s⟩, ⟨c141b, c143s⟩, ⟨c141c, c144s⟩⟩, M⟩ := id Z
  have hz : zin (nI t) 4 := ⟨t, ht, rfl⟩
  refine zEi_of (lv := [some (.ref 0), some (.int (nI t)), some (.int (nI k)), some (.int c)]) (by decide) rfl (Nat.le_of_ble_eq_true rfl) ?_
  refine z_iload_1 d_Tf_tray_0 ?_
  refine z_Si1 d_Tf_tray_1 k_Tf_115 (t_Tf_noTray) ⟨Nat.le_of_ble_eq_true rfl, Nat.le_of_ble_eq_true rfl, Nat.le_of_ble_eq_true rfl, Nat.le_of_ble_eq_true rfl⟩ (Nat.le_of_ble_eq_true rfl) ?_
  intro r w hq
  rcases hq with ⟨⟨hz1, rfl⟩ | ⟨hz1, rfl⟩, rfl⟩
  · first
    | contradiction
    | ( skip
        refine z_if_ne (tgt := 16) d_Tf_tray_4 (by decide) (fun _ => ?_) (fun h => absurd h (by decide))
        refine z_aload_0 d_Tf_tray_16 ?_
        refine z_iconst (a := nI 1) d_Tf_tray_17 (by decide) ?_
        refine z_Vi1 d_Tf_tray_18 k_Tf_119 (by first | assumption | exact zS0_at (by assumption) (by omega) | exact zS0_at rfl (by omega)) (t_Tf_refuse (by assumption)) ⟨Nat.le_of_ble_eq_true rfl, Nat.le_of_ble_eq_true rfl, Nat.le_of_ble_eq_true rfl, Nat.le_of_ble_eq_true rfl⟩ (Nat.le_of_ble_eq_true rfl) ?_
        intro r w hq
        obtain ⟨rfl, rfl⟩ := hq
        refine z_retz d_Tf_tray_21 (by first | exact zb0 | exact zb1 | assumption) ?_
        exact ⟨rfl, cW_0⟩)
  · first
    | contradiction
    | ( skip
        refine z_if_ne (tgt := 16) d_Tf_tray_4 (by decide) (fun h => absurd h (by decide)) (fun _ => ?_)
        refine z_iload_2 d_Tf_tray_7 ?_
        refine z_if_lt (tgt := 16) d_Tf_tray_8 (by decide) (fun h8 => ?_) (fun h8 => ?_)
        · first
          | (simp (disch := omega) only [← nI_0, nI_leI, nI_ltI, nI_eq, not_true_eq_false, not_false_eq_true] at h8; done)
          | (simp (disch := omega) only [← nI_0, nI_leI, nI_ltI, nI_eq, not_true_eq_false, not_false_eq_true] at h8; omega)
          | contradiction
          | exact absurd h8 (Int32.not_lt.mpr (by assumption))
          | exact absurd h8 (Int32.not_le.mpr (by assumption))
          | exact absurd h8 (by decide)
          | exact absurd (by decide) h8
          | ( try simp (disch := omega) only [← nI_0, nI_leI, nI_ltI, nI_eq, not_true_eq_false, not_false_eq_true] at h8
              (try have h8b := zbit_n0.mp h8); (try have h8b := zbit_p0.mp h8)
              refine z_aload_0 d_Tf_tray_16 ?_
              refine z_iconst (a := nI 1) d_Tf_tray_17 (by decide) ?_
              refine z_Vi1 d_Tf_tray_18 k_Tf_119 (by first | assumption | exact zS0_at (by assumption) (by omega) | exact zS0_at rfl (by omega)) (t_Tf_refuse (by assumption)) ⟨Nat.le_of_ble_eq_true rfl, Nat.le_of_ble_eq_true rfl, Nat.le_of_ble_eq_true rfl, Nat.le_of_ble_eq_true rfl⟩ (Nat.le_of_ble_eq_true rfl) ?_
              intro r w hq
              obtain ⟨rfl, rfl⟩ := hq
              refine z_retz d_Tf_tray_21 (by first | exact zb0 | exact zb1 | assumption) ?_
              exact ⟨rfl, cW_0⟩)
        · first
          | (simp (disch := omega) only [← nI_0, nI_leI, nI_ltI, nI_eq, not_true_eq_false, not_false_eq_true] at h8; done)
          | (simp (disch := omega) only [← nI_0, nI_leI, nI_ltI, nI_eq, not_true_eq_false, not_false_eq_true] at h8; omega)
          | contradiction
          | exact absurd h8 (Int32.not_lt.mpr (by assumption))
          | exact absurd h8 (Int32.not_le.mpr (by assumption))
          | exact absurd h8 (by decide)
          | exact absurd (by decide) h8
          | ( try simp (disch := omega) only [← nI_0, nI_leI, nI_ltI, nI_eq, not_true_eq_false, not_false_eq_true] at h8
              (try have h8b := zbit_n0.mp h8); (try have h8b := zbit_p0.mp h8)
              refine z_iload_2 d_Tf_tray_11 ?_
              refine z_iconst (a := nI 3) d_Tf_tray_12 (by decide) ?_
              refine z_icmp_le (tgt := 22) d_Tf_tray_13 (by decide) (fun h13 => ?_) (fun h13 => ?_)
              · first
                | (simp (disch := omega) only [← nI_0, nI_leI, nI_ltI, nI_eq, not_true_eq_false, not_false_eq_true] at h13; done)
                | (simp (disch := omega) only [← nI_0, nI_leI, nI_ltI, nI_eq, not_true_eq_false, not_false_eq_true] at h13; omega)
                | contradiction
                | exact absurd h13 (Int32.not_lt.mpr (by assumption))
                | exact absurd h13 (Int32.not_le.mpr (by assumption))
                | exact absurd h13 (by decide)
                | exact absurd (by decide) h13
                | ( try simp (disch := omega) only [← nI_0, nI_leI, nI_ltI, nI_eq, not_true_eq_false, not_false_eq_true] at h13
                    (try have h13b := zbit_n0.mp h13); (try have h13b := zbit_p0.mp h13)
                    refine z_iload_3 d_Tf_tray_22 ?_
                    refine z_bipush (a := nI 60) d_Tf_tray_23 (by decide) ?_
                    refine z_icmp_le (tgt := 34) d_Tf_tray_25 (by decide) (fun h25 => ?_) (fun h25 => ?_)
                    · first
                      | (simp (disch := omega) only [← nI_0, nI_leI, nI_ltI, nI_eq, not_true_eq_false, not_false_eq_true] at h25; done)
                      | (simp (disch := omega) only [← nI_0, nI_leI, nI_ltI, nI_eq, not_true_eq_false, not_false_eq_true] at h25; omega)
                      | contradiction
                      | exact absurd h25 (Int32.not_lt.mpr (by assumption))
                      | exact absurd h25 (Int32.not_le.mpr (by assumption))
                      | exact absurd h25 (by decide)
                      | exact absurd (by decide) h25
                      | ( try simp (disch := omega) only [← nI_0, nI_leI, nI_ltI, nI_eq, not_true_eq_false, not_false_eq_true] at h25
                          (try have h25b := zbit_n0.mp h25); (try have h25b := zbit_p0.mp h25)
                          fail)
                    · first
                      | (simp (disch := omega) only [← nI_0, nI_leI, nI_ltI, nI_eq, not_true_eq_false, not_false_eq_true] at h25; done)
                      | (simp (disch := omega) only [← nI_0, nI_leI, nI_ltI, nI_eq, not_true_eq_false, not_false_eq_true] at h25; omega)
                      | contradiction
                      | exact absurd h25 (Int32.not_lt.mpr (by assumption))
                      | exact absurd h25 (Int32.not_le.mpr (by assumption))
                      | exact absurd h25 (by decide)
                      | exact absurd (by decide) h25
                      | ( try simp (disch := omega) only [← nI_0, nI_leI, nI_ltI, nI_eq, not_true_eq_false, not_false_eq_true] at h25
                          (try have h25b := zbit_n0.mp h25); (try have h25b := zbit_p0.mp h25)
                          refine z_aload_0 d_Tf_tray_28 ?_
                          refine z_iconst (a := nI 5) d_Tf_tray_29 (by decide) ?_
                          refine z_Vi1 d_Tf_tray_30 k_Tf_119 (by first | assumption | exact zS0_at (by assumption) (by omega) | exact zS0_at rfl (by omega)) (t_Tf_refuse (by assumption)) ⟨Nat.le_of_ble_eq_true rfl, Nat.le_of_ble_eq_true rfl, Nat.le_of_ble_eq_true rfl, Nat.le_of_ble_eq_true rfl⟩ (Nat.le_of_ble_eq_true rfl) ?_
                          intro r w hq
                          obtain ⟨rfl, rfl⟩ := hq
                          refine z_retz d_Tf_tray_33 (by first | exact zb0 | exact zb1 | assumption) ?_
                          exact ⟨rfl, cW_0⟩))
              · first
                | (simp (disch := omega) only [← nI_0, nI_leI, nI_ltI, nI_eq, not_true_eq_false, not_false_eq_true] at h13; done)
                | (simp (disch := omega) only [← nI_0, nI_leI, nI_ltI, nI_eq, not_true_eq_false, not_false_eq_true] at h13; omega)
                | contradiction
                | exact absurd h13 (Int32.not_lt.mpr (by assumption))
                | exact absurd h13 (Int32.not_le.mpr (by assumption))
                | exact absurd h13 (by decide)
                | exact absurd (by decide) h13
                | ( try simp (disch := omega) only [← nI_0, nI_leI, nI_ltI, nI_eq, not_true_eq_false, not_false_eq_true] at h13
                    (try have h13b := zbit_n0.mp h13); (try have h13b := zbit_p0.mp h13)
                    refine z_aload_0 d_Tf_tray_16 ?_
                    refine z_iconst (a := nI 1) d_Tf_tray_17 (by decide) ?_
                    refine z_Vi1 d_Tf_tray_18 k_Tf_119 (by first | assumption | exact zS0_at (by assumption) (by omega) | exact zS0_at rfl (by omega)) (t_Tf_refuse (by assumption)) ⟨Nat.le_of_ble_eq_true rfl, Nat.le_of_ble_eq_true rfl, Nat.le_of_ble_eq_true rfl, Nat.le_of_ble_eq_true rfl⟩ (Nat.le_of_ble_eq_true rfl) ?_
                    intro r w hq
                    obtain ⟨rfl, rfl⟩ := hq
                    refine z_retz d_Tf_tray_21 (by first | exact zb0 | exact zb1 | assumption) ?_
                    exact ⟨rfl, cW_0⟩)))
theorem t_Tf_tray_6 (Z : clOk f d P S) (ht : t < 4) (hk : k < 4) (hc : c < 0) : zEi G y_Tf_tray prog_1_method_5_code 4 (some .boolean) 3 [.ref 0, .int (nI t), .int (nI k), .int c] (I, J, P, S) (fun r w => r = nI 0 ∧ cW I J P S 6 w) := by
  obtain ⟨⟨c0, c3, c1s⟩, ⟨c5, c2s, ctr⟩, ⟨c6, c11s, c11, c13s⟩, ⟨c7, c15s, c15⟩, ⟨c8, c16s, c16a, c16b, c17s⟩, ⟨c9, c10, cfd, F, Fd⟩, ⟨c11b, Ft⟩, ⟨c12, c69s, cmk⟩, ⟨c14, c121s, c121, c122s⟩, ⟨c15b, c123s, c123, c124s⟩, ⟨c16, c125s, c125, c126s⟩, ⟨c17, c127s, c127, c128s, ctb⟩, ⟨c18, c139s, c139, c140s⟩, ⟨c19, c141s, ⟨c141a, c142s⟩, ⟨c141b, c143s⟩, ⟨c141c, c144s⟩⟩, M⟩ := id Z
  have hz : zin (nI t) 4 := ⟨t, ht, rfl⟩
  have hc2 : c ≤ nI 60 := Int32.le_of_lt (Int32.lt_trans hc (by decide))
  refine zEi_of (lv := [some (.ref 0), some (.int (nI t)), some (.int (nI k)), some (.int c)]) (by decide) rfl (Nat.le_of_ble_eq_true rfl) ?_
  refine z_iload_1 d_Tf_tray_0 ?_
  refine z_Si1 d_Tf_tray_1 k_Tf_115 (t_Tf_noTray) ⟨Nat.le_of_ble_eq_true rfl, Nat.le_of_ble_eq_true rfl, Nat.le_of_ble_eq_true rfl, Nat.le_of_ble_eq_true rfl⟩ (Nat.le_of_ble_eq_true rfl) ?_
  intro r w hq
  rcases hq with ⟨⟨hz1, rfl⟩ | ⟨hz1, rfl⟩, rfl⟩
  · first
    | contradiction
    | ( skip
        refine z_if_ne (tgt := 16) d_Tf_tray_4 (by decide) (fun _ => ?_) (fun h => absurd h (by decide))
        refine z_aload_0 d_Tf_tray_16 ?_
        refine z_iconst (a := nI 1) d_Tf_tray_17 (by decide) ?_
        refine z_Vi1 d_Tf_tray_18 k_Tf_119 (by first | assumption | exact zS0_at (by assumption) (by omega) | exact zS0_at rfl (by omega)) (t_Tf_refuse (by assumption)) ⟨Nat.le_of_ble_eq_true rfl, Nat.le_of_ble_eq_true rfl, Nat.le_of_ble_eq_true rfl, Nat.le_of_ble_eq_true rfl⟩ (Nat.le_of_ble_eq_true rfl) ?_
        intro r w hq
        obtain ⟨rfl, rfl⟩ := hq
        refine z_retz d_Tf_tray_21 (by first | exact zb0 | exact zb1 | assumption) ?_
        exact ⟨rfl, cW_0⟩)
  · first
    | contradiction
    | ( skip
        refine z_if_ne (tgt := 16) d_Tf_tray_4 (by decide) (fun h => absurd h (by decide)) (fun _ => ?_)
        refine z_iload_2 d_Tf_tray_7 ?_
        refine z_if_lt (tgt := 16) d_Tf_tray_8 (by decide) (fun h8 => ?_) (fun h8 => ?_)
        · first
          | (simp (disch := omega) only [← nI_0, nI_leI, nI_ltI, nI_eq, not_true_eq_false, not_false_eq_true] at h8; done)
          | (simp (disch := omega) only [← nI_0, nI_leI, nI_ltI, nI_eq, not_true_eq_false, not_false_eq_true] at h8; omega)
          | contradiction
          | exact absurd h8 (Int32.not_lt.mpr (by assumption))
          | exact absurd h8 (Int32.not_le.mpr (by assumption))
          | exact absurd h8 (by decide)
          | exact absurd (by decide) h8
          | ( try simp (disch := omega) only [← nI_0, nI_leI, nI_ltI, nI_eq, not_true_eq_false, not_false_eq_true] at h8
              (try have h8b := zbit_n0.mp h8); (try have h8b := zbit_p0.mp h8)
              refine z_aload_0 d_Tf_tray_16 ?_
              refine z_iconst (a := nI 1) d_Tf_tray_17 (by decide) ?_
              refine z_Vi1 d_Tf_tray_18 k_Tf_119 (by first | assumption | exact zS0_at (by assumption) (by omega) | exact zS0_at rfl (by omega)) (t_Tf_refuse (by assumption)) ⟨Nat.le_of_ble_eq_true rfl, Nat.le_of_ble_eq_true rfl, Nat.le_of_ble_eq_true rfl, Nat.le_of_ble_eq_true rfl⟩ (Nat.le_of_ble_eq_true rfl) ?_
              intro r w hq
              obtain ⟨rfl, rfl⟩ := hq
              refine z_retz d_Tf_tray_21 (by first | exact zb0 | exact zb1 | assumption) ?_
              exact ⟨rfl, cW_0⟩)
        · first
          | (simp (disch := omega) only [← nI_0, nI_leI, nI_ltI, nI_eq, not_true_eq_false, not_false_eq_true] at h8; done)
          | (simp (disch := omega) only [← nI_0, nI_leI, nI_ltI, nI_eq, not_true_eq_false, not_false_eq_true] at h8; omega)
          | contradiction
          | exact absurd h8 (Int32.not_lt.mpr (by assumption))
          | exact absurd h8 (Int32.not_le.mpr (by assumption))
          | exact absurd h8 (by decide)
          | exact absurd (by decide) h8
          | ( try simp (disch := omega) only [← nI_0, nI_leI, nI_ltI, nI_eq, not_true_eq_false, not_false_eq_true] at h8
              (try have h8b := zbit_n0.mp h8); (try have h8b := zbit_p0.mp h8)
              refine z_iload_2 d_Tf_tray_11 ?_
              refine z_iconst (a := nI 3) d_Tf_tray_12 (by decide) ?_
              refine z_icmp_le (tgt := 22) d_Tf_tray_13 (by decide) (fun h13 => ?_) (fun h13 => ?_)
              · first
                | (simp (disch := omega) only [← nI_0, nI_leI, nI_ltI, nI_eq, not_true_eq_false, not_false_eq_true] at h13; done)
                | (simp (disch := omega) only [← nI_0, nI_leI, nI_ltI, nI_eq, not_true_eq_false, not_false_eq_true] at h13; omega)
                | contradiction
                | exact absurd h13 (Int32.not_lt.mpr (by assumption))
                | exact absurd h13 (Int32.not_le.mpr (by assumption))
                | exact absurd h13 (by decide)
                | exact absurd (by decide) h13
                | ( try simp (disch := omega) only [← nI_0, nI_leI, nI_ltI, nI_eq, not_true_eq_false, not_false_eq_true] at h13
                    (try have h13b := zbit_n0.mp h13); (try have h13b := zbit_p0.mp h13)
                    refine z_iload_3 d_Tf_tray_22 ?_
                    refine z_bipush (a := nI 60) d_Tf_tray_23 (by decide) ?_
                    refine z_icmp_le (tgt := 34) d_Tf_tray_25 (by decide) (fun h25 => ?_) (fun h25 => ?_)
                    · first
                      | (simp (disch := omega) only [← nI_0, nI_leI, nI_ltI, nI_eq, not_true_eq_false, not_false_eq_true] at h25; done)
                      | (simp (disch := omega) only [← nI_0, nI_leI, nI_ltI, nI_eq, not_true_eq_false, not_false_eq_true] at h25; omega)
                      | contradiction
                      | exact absurd h25 (Int32.not_lt.mpr (by assumption))
                      | exact absurd h25 (Int32.not_le.mpr (by assumption))
                      | exact absurd h25 (by decide)
                      | exact absurd (by decide) h25
                      | ( try simp (disch := omega) only [← nI_0, nI_leI, nI_ltI, nI_eq, not_true_eq_false, not_false_eq_true] at h25
                          (try have h25b := zbit_n0.mp h25); (try have h25b := zbit_p0.mp h25)
                          refine z_iload_3 d_Tf_tray_34 ?_
                          refine z_if_ge (tgt := 45) d_Tf_tray_35 (by decide) (fun h35 => ?_) (fun h35 => ?_)
                          · first
                            | (simp (disch := omega) only [← nI_0, nI_leI, nI_ltI, nI_eq, not_true_eq_false, not_false_eq_true] at h35; done)
                            | (simp (disch := omega) only [← nI_0, nI_leI, nI_ltI, nI_eq, not_true_eq_false, not_false_eq_true] at h35; omega)
                            | contradiction
                            | exact absurd h35 (Int32.not_lt.mpr (by assumption))
                            | exact absurd h35 (Int32.not_le.mpr (by assumption))
                            | exact absurd h35 (by decide)
                            | exact absurd (by decide) h35
                            | ( try simp (disch := omega) only [← nI_0, nI_leI, nI_ltI, nI_eq, not_true_eq_false, not_false_eq_true] at h35
                                (try have h35b := zbit_n0.mp h35); (try have h35b := zbit_p0.mp h35)
                                fail)
                          · first
                            | (simp (disch := omega) only [← nI_0, nI_leI, nI_ltI, nI_eq, not_true_eq_false, not_false_eq_true] at h35; done)
                            | (simp (disch := omega) only [← nI_0, nI_leI, nI_ltI, nI_eq, not_true_eq_false, not_false_eq_true] at h35; omega)
                            | contradiction
                            | exact absurd h35 (Int32.not_lt.mpr (by assumption))
                            | exact absurd h35 (Int32.not_le.mpr (by assumption))
                            | exact absurd h35 (by decide)
                            | exact absurd (by decide) h35
                            | ( try simp (disch := omega) only [← nI_0, nI_leI, nI_ltI, nI_eq, not_true_eq_false, not_false_eq_true] at h35
                                (try have h35b := zbit_n0.mp h35); (try have h35b := zbit_p0.mp h35)
                                refine z_aload_0 d_Tf_tray_38 ?_
                                refine z_bipush (a := nI 6) d_Tf_tray_39 (by decide) ?_
                                refine z_Vi1 d_Tf_tray_41 k_Tf_119 (by first | assumption | exact zS0_at (by assumption) (by omega) | exact zS0_at rfl (by omega)) (t_Tf_refuse (by assumption)) ⟨Nat.le_of_ble_eq_true rfl, Nat.le_of_ble_eq_true rfl, Nat.le_of_ble_eq_true rfl, Nat.le_of_ble_eq_true rfl⟩ (Nat.le_of_ble_eq_true rfl) ?_
                                intro r w hq
                                obtain ⟨rfl, rfl⟩ := hq
                                refine z_retz d_Tf_tray_44 (by first | exact zb0 | exact zb1 | assumption) ?_
                                exact ⟨rfl, cW_0⟩))
                    · first
                      | (simp (disch := omega) only [← nI_0, nI_leI, nI_ltI, nI_eq, not_true_eq_false, not_false_eq_true] at h25; done)
                      | (simp (disch := omega) only [← nI_0, nI_leI, nI_ltI, nI_eq, not_true_eq_false, not_false_eq_true] at h25; omega)
                      | contradiction
                      | exact absurd h25 (Int32.not_lt.mpr (by assumption))
                      | exact absurd h25 (Int32.not_le.mpr (by assumption))
                      | exact absurd h25 (by decide)
                      | exact absurd (by decide) h25
                      | ( try simp (disch := omega) only [← nI_0, nI_leI, nI_ltI, nI_eq, not_true_eq_false, not_false_eq_true] at h25
                          (try have h25b := zbit_n0.mp h25); (try have h25b := zbit_p0.mp h25)
                          refine z_aload_0 d_Tf_tray_28 ?_
                          refine z_iconst (a := nI 5) d_Tf_tray_29 (by decide) ?_
                          refine z_Vi1 d_Tf_tray_30 k_Tf_119 (by first | assumption | exact zS0_at (by assumption) (by omega) | exact zS0_at rfl (by omega)) (t_Tf_refuse (by assumption)) ⟨Nat.le_of_ble_eq_true rfl, Nat.le_of_ble_eq_true rfl, Nat.le_of_ble_eq_true rfl, Nat.le_of_ble_eq_true rfl⟩ (Nat.le_of_ble_eq_true rfl) ?_
                          intro r w hq
                          obtain ⟨rfl, rfl⟩ := hq
                          refine z_retz d_Tf_tray_33 (by first | exact zb0 | exact zb1 | assumption) ?_
                          exact ⟨rfl, cW_0⟩))
              · first
                | (simp (disch := omega) only [← nI_0, nI_leI, nI_ltI, nI_eq, not_true_eq_false, not_false_eq_true] at h13; done)
                | (simp (disch := omega) only [← nI_0, nI_leI, nI_ltI, nI_eq, not_true_eq_false, not_false_eq_true] at h13; omega)
                | contradiction
                | exact absurd h13 (Int32.not_lt.mpr (by assumption))
                | exact absurd h13 (Int32.not_le.mpr (by assumption))
                | exact absurd h13 (by decide)
                | exact absurd (by decide) h13
                | ( try simp (disch := omega) only [← nI_0, nI_leI, nI_ltI, nI_eq, not_true_eq_false, not_false_eq_true] at h13
                    (try have h13b := zbit_n0.mp h13); (try have h13b := zbit_p0.mp h13)
                    refine z_aload_0 d_Tf_tray_16 ?_
                    refine z_iconst (a := nI 1) d_Tf_tray_17 (by decide) ?_
                    refine z_Vi1 d_Tf_tray_18 k_Tf_119 (by first | assumption | exact zS0_at (by assumption) (by omega) | exact zS0_at rfl (by omega)) (t_Tf_refuse (by assumption)) ⟨Nat.le_of_ble_eq_true rfl, Nat.le_of_ble_eq_true rfl, Nat.le_of_ble_eq_true rfl, Nat.le_of_ble_eq_true rfl⟩ (Nat.le_of_ble_eq_true rfl) ?_
                    intro r w hq
                    obtain ⟨rfl, rfl⟩ := hq
                    refine z_retz d_Tf_tray_21 (by first | exact zb0 | exact zb1 | assumption) ?_
                    exact ⟨rfl, cW_0⟩)))
theorem t_Tf_tray (Z : clOk f d P S) (ht : t < 4) (hk : k < 4) (hl : l ≤ 60) : zEi G y_Tf_tray prog_1_method_5_code 4 (some .boolean) 3 [.ref 0, .int (nI t), .int (nI k), .int (nI l)] (I, J, P, S) (fun r w => r = nI 1 ∧ w = (zu (zu (zu (zu I (3 + 2 * t) 0 (nI 1)) (3 + 2 * t) 1 (nI k)) (3 + 2 * t) 2 (nI l)) 0 0 (nI 0), zfl J (3 + 2 * t + 1) 60 (lN 0), P, S)) := by
  obtain ⟨⟨c0, c3, c1s⟩, ⟨c5, c2s, ctr⟩, ⟨c6, c11s, c11, c13s⟩, ⟨c7, c15s, c15⟩, ⟨c8, c16s, c16a, c16b, c17s⟩, ⟨c9, c10, cfd, F, Fd⟩, ⟨c11b, Ft⟩, ⟨c12, c69s, cmk⟩, ⟨c14, c121s, c121, c122s⟩, ⟨c15b, c123s, c123, c124s⟩, ⟨c16, c125s, c125, c126s⟩, ⟨c17, c127s, c127, c128s, ctb⟩, ⟨c18, c139s, c139, c140s⟩, ⟨c19, c141s, ⟨c141a, c142s⟩, ⟨c141b, c143s⟩, ⟨c141c, c144s⟩⟩, M⟩ := id Z
  have hz : zin (nI t) 4 := ⟨t, ht, rfl⟩
  obtain ⟨c2, T⟩ := ctr t ht
  obtain ⟨T0, T1, T2⟩ := id T
  refine zEi_of (lv := [some (.ref 0), some (.int (nI t)), some (.int (nI k)), some (.int (nI l))]) (by decide) rfl (Nat.le_of_ble_eq_true rfl) ?_
  refine z_iload_1 d_Tf_tray_0 ?_
  refine z_Si1 d_Tf_tray_1 k_Tf_115 (t_Tf_noTray) ⟨Nat.le_of_ble_eq_true rfl, Nat.le_of_ble_eq_true rfl, Nat.le_of_ble_eq_true rfl, Nat.le_of_ble_eq_true rfl⟩ (Nat.le_of_ble_eq_true rfl) ?_
  intro r w hq
  rcases hq with ⟨⟨hz1, rfl⟩ | ⟨hz1, rfl⟩, rfl⟩
  · first
    | contradiction
    | ( skip
        refine z_if_ne (tgt := 16) d_Tf_tray_4 (by decide) (fun _ => ?_) (fun h => absurd h (by decide))
        refine z_aload_0 d_Tf_tray_16 ?_
        refine z_iconst (a := nI 1) d_Tf_tray_17 (by decide) ?_
        refine z_Vi1 d_Tf_tray_18 k_Tf_119 (by first | assumption | exact zS0_at (by assumption) (by omega) | exact zS0_at rfl (by omega)) (t_Tf_refuse (by assumption)) ⟨Nat.le_of_ble_eq_true rfl, Nat.le_of_ble_eq_true rfl, Nat.le_of_ble_eq_true rfl, Nat.le_of_ble_eq_true rfl⟩ (Nat.le_of_ble_eq_true rfl) ?_
        intro r w hq
        obtain ⟨rfl, rfl⟩ := hq
        refine z_retz d_Tf_tray_21 (by first | exact zb0 | exact zb1 | assumption) ?_
        exact ⟨rfl, rfl⟩)
  · first
    | contradiction
    | ( skip
        refine z_if_ne (tgt := 16) d_Tf_tray_4 (by decide) (fun h => absurd h (by decide)) (fun _ => ?_)
        refine z_iload_2 d_Tf_tray_7 ?_
        refine z_if_lt (tgt := 16) d_Tf_tray_8 (by decide) (fun h8 => ?_) (fun h8 => ?_)
        · first
          | (simp (disch := omega) only [← nI_0, nI_leI, nI_ltI, nI_eq, not_true_eq_false, not_false_eq_true] at h8; done)
          | (simp (disch := omega) only [← nI_0, nI_leI, nI_ltI, nI_eq, not_true_eq_false, not_false_eq_true] at h8; omega)
          | contradiction
          | exact absurd h8 (Int32.not_lt.mpr (by assumption))
          | exact absurd h8 (Int32.not_le.mpr (by assumption))
          | exact absurd h8 (by decide)
          | exact absurd (by decide) h8
          | ( try simp (disch := omega) only [← nI_0, nI_leI, nI_ltI, nI_eq, not_true_eq_false, not_false_eq_true] at h8
              (try have h8b := zbit_n0.mp h8); (try have h8b := zbit_p0.mp h8)
              refine z_aload_0 d_Tf_tray_16 ?_
              refine z_iconst (a := nI 1) d_Tf_tray_17 (by decide) ?_
              refine z_Vi1 d_Tf_tray_18 k_Tf_119 (by first | assumption | exact zS0_at (by assumption) (by omega) | exact zS0_at rfl (by omega)) (t_Tf_refuse (by assumption)) ⟨Nat.le_of_ble_eq_true rfl, Nat.le_of_ble_eq_true rfl, Nat.le_of_ble_eq_true rfl, Nat.le_of_ble_eq_true rfl⟩ (Nat.le_of_ble_eq_true rfl) ?_
              intro r w hq
              obtain ⟨rfl, rfl⟩ := hq
              refine z_retz d_Tf_tray_21 (by first | exact zb0 | exact zb1 | assumption) ?_
              exact ⟨rfl, rfl⟩)
        · first
          | (simp (disch := omega) only [← nI_0, nI_leI, nI_ltI, nI_eq, not_true_eq_false, not_false_eq_true] at h8; done)
          | (simp (disch := omega) only [← nI_0, nI_leI, nI_ltI, nI_eq, not_true_eq_false, not_false_eq_true] at h8; omega)
          | contradiction
          | exact absurd h8 (Int32.not_lt.mpr (by assumption))
          | exact absurd h8 (Int32.not_le.mpr (by assumption))
          | exact absurd h8 (by decide)
          | exact absurd (by decide) h8
          | ( try simp (disch := omega) only [← nI_0, nI_leI, nI_ltI, nI_eq, not_true_eq_false, not_false_eq_true] at h8
              (try have h8b := zbit_n0.mp h8); (try have h8b := zbit_p0.mp h8)
              refine z_iload_2 d_Tf_tray_11 ?_
              refine z_iconst (a := nI 3) d_Tf_tray_12 (by decide) ?_
              refine z_icmp_le (tgt := 22) d_Tf_tray_13 (by decide) (fun h13 => ?_) (fun h13 => ?_)
              · first
                | (simp (disch := omega) only [← nI_0, nI_leI, nI_ltI, nI_eq, not_true_eq_false, not_false_eq_true] at h13; done)
                | (simp (disch := omega) only [← nI_0, nI_leI, nI_ltI, nI_eq, not_true_eq_false, not_false_eq_true] at h13; omega)
                | contradiction
                | exact absurd h13 (Int32.not_lt.mpr (by assumption))
                | exact absurd h13 (Int32.not_le.mpr (by assumption))
                | exact absurd h13 (by decide)
                | exact absurd (by decide) h13
                | ( try simp (disch := omega) only [← nI_0, nI_leI, nI_ltI, nI_eq, not_true_eq_false, not_false_eq_true] at h13
                    (try have h13b := zbit_n0.mp h13); (try have h13b := zbit_p0.mp h13)
                    refine z_iload_3 d_Tf_tray_22 ?_
                    refine z_bipush (a := nI 60) d_Tf_tray_23 (by decide) ?_
                    refine z_icmp_le (tgt := 34) d_Tf_tray_25 (by decide) (fun h25 => ?_) (fun h25 => ?_)
                    · first
                      | (simp (disch := omega) only [← nI_0, nI_leI, nI_ltI, nI_eq, not_true_eq_false, not_false_eq_true] at h25; done)
                      | (simp (disch := omega) only [← nI_0, nI_leI, nI_ltI, nI_eq, not_true_eq_false, not_false_eq_true] at h25; omega)
                      | contradiction
                      | exact absurd h25 (Int32.not_lt.mpr (by assumption))
                      | exact absurd h25 (Int32.not_le.mpr (by assumption))
                      | exact absurd h25 (by decide)
                      | exact absurd (by decide) h25
                      | ( try simp (disch := omega) only [← nI_0, nI_leI, nI_ltI, nI_eq, not_true_eq_false, not_false_eq_true] at h25
                          (try have h25b := zbit_n0.mp h25); (try have h25b := zbit_p0.mp h25)
                          refine z_iload_3 d_Tf_tray_34 ?_
                          refine z_if_ge (tgt := 45) d_Tf_tray_35 (by decide) (fun h35 => ?_) (fun h35 => ?_)
                          · first
                            | (simp (disch := omega) only [← nI_0, nI_leI, nI_ltI, nI_eq, not_true_eq_false, not_false_eq_true] at h35; done)
                            | (simp (disch := omega) only [← nI_0, nI_leI, nI_ltI, nI_eq, not_true_eq_false, not_false_eq_true] at h35; omega)
                            | contradiction
                            | exact absurd h35 (Int32.not_lt.mpr (by assumption))
                            | exact absurd h35 (Int32.not_le.mpr (by assumption))
                            | exact absurd h35 (by decide)
                            | exact absurd (by decide) h35
                            | ( try simp (disch := omega) only [← nI_0, nI_leI, nI_ltI, nI_eq, not_true_eq_false, not_false_eq_true] at h35
                                (try have h35b := zbit_n0.mp h35); (try have h35b := zbit_p0.mp h35)
                                refine z_aload_0 d_Tf_tray_45 ?_
                                refine z_getR d_Tf_tray_46 f_Tf_29 (by first | assumption | exact zS0_at (by assumption) (by omega) | exact zS0_at rfl (by omega)) (by first | assumption | exact zS0_at (by assumption) (by omega) | exact zS0_at rfl (by omega)) ?_
                                refine z_iload_1 d_Tf_tray_49 ?_
                                first | refine z_ald4N d_Tf_tray_50 (by first | assumption | exact zS0_at (by assumption) (by omega) | exact zS0_at rfl (by omega)) (by omega) (by first | decide | omega) (by first | assumption | exact zS0_at (by assumption) (by omega) | exact zS0_at rfl (by omega)) ?_ | refine z_ald5N d_Tf_tray_50 (by first | assumption | exact zS0_at (by assumption) (by omega) | exact zS0_at rfl (by omega)) (by omega) (by first | decide | omega) (by first | assumption | exact zS0_at (by assumption) (by omega) | exact zS0_at rfl (by omega)) ?_ | refine z_ald6N d_Tf_tray_50 (by first | assumption | exact zS0_at (by assumption) (by omega) | exact zS0_at rfl (by omega)) (by omega) (by first | decide | omega) (by first | assumption | exact zS0_at (by assumption) (by omega) | exact zS0_at rfl (by omega)) ?_
                                refine z_iload_2 d_Tf_tray_51 ?_
                                refine z_iload_3 d_Tf_tray_52 ?_
                                refine z_Vv2 d_Tf_tray_53 k_Tf_122 (by first | assumption | exact zS0_at (by assumption) (by omega) | exact zS0_at rfl (by omega)) (t_Tray_lay (by assumption)) ⟨Nat.le_of_ble_eq_true rfl, Nat.le_of_ble_eq_true rfl, Nat.le_of_ble_eq_true rfl, Nat.le_of_ble_eq_true rfl⟩ (Nat.le_of_ble_eq_true rfl) ?_
                                intro w hq
                                obtain rfl := hq
                                refine z_aload_0 d_Tf_tray_56 ?_
                                refine z_Vi0 d_Tf_tray_57 k_Tf_126 (by first | assumption | exact zS0_at (by assumption) (by omega) | exact zS0_at rfl (by omega)) (t_Tf_agree (by assumption)) ⟨Nat.le_of_ble_eq_true rfl, Nat.le_of_ble_eq_true rfl, Nat.le_of_ble_eq_true rfl, Nat.le_of_ble_eq_true rfl⟩ (Nat.le_of_ble_eq_true rfl) ?_
                                intro r w hq
                                obtain ⟨rfl, rfl⟩ := hq
                                refine z_retz d_Tf_tray_60 (by first | exact zb0 | exact zb1 | assumption) ?_
                                exact ⟨rfl, rfl⟩)
                          · first
                            | (simp (disch := omega) only [← nI_0, nI_leI, nI_ltI, nI_eq, not_true_eq_false, not_false_eq_true] at h35; done)
                            | (simp (disch := omega) only [← nI_0, nI_leI, nI_ltI, nI_eq, not_true_eq_false, not_false_eq_true] at h35; omega)
                            | contradiction
                            | exact absurd h35 (Int32.not_lt.mpr (by assumption))
                            | exact absurd h35 (Int32.not_le.mpr (by assumption))
                            | exact absurd h35 (by decide)
                            | exact absurd (by decide) h35
                            | ( try simp (disch := omega) only [← nI_0, nI_leI, nI_ltI, nI_eq, not_true_eq_false, not_false_eq_true] at h35
                                (try have h35b := zbit_n0.mp h35); (try have h35b := zbit_p0.mp h35)
                                refine z_aload_0 d_Tf_tray_38 ?_
                                refine z_bipush (a := nI 6) d_Tf_tray_39 (by decide) ?_
                                refine z_Vi1 d_Tf_tray_41 k_Tf_119 (by first | assumption | exact zS0_at (by assumption) (by omega) | exact zS0_at rfl (by omega)) (t_Tf_refuse (by assumption)) ⟨Nat.le_of_ble_eq_true rfl, Nat.le_of_ble_eq_true rfl, Nat.le_of_ble_eq_true rfl, Nat.le_of_ble_eq_true rfl⟩ (Nat.le_of_ble_eq_true rfl) ?_
                                intro r w hq
                                obtain ⟨rfl, rfl⟩ := hq
                                refine z_retz d_Tf_tray_44 (by first | exact zb0 | exact zb1 | assumption) ?_
                                exact ⟨rfl, rfl⟩))
                    · first
                      | (simp (disch := omega) only [← nI_0, nI_leI, nI_ltI, nI_eq, not_true_eq_false, not_false_eq_true] at h25; done)
                      | (simp (disch := omega) only [← nI_0, nI_leI, nI_ltI, nI_eq, not_true_eq_false, not_false_eq_true] at h25; omega)
                      | contradiction
                      | exact absurd h25 (Int32.not_lt.mpr (by assumption))
                      | exact absurd h25 (Int32.not_le.mpr (by assumption))
                      | exact absurd h25 (by decide)
                      | exact absurd (by decide) h25
                      | ( try simp (disch := omega) only [← nI_0, nI_leI, nI_ltI, nI_eq, not_true_eq_false, not_false_eq_true] at h25
                          (try have h25b := zbit_n0.mp h25); (try have h25b := zbit_p0.mp h25)
                          refine z_aload_0 d_Tf_tray_28 ?_
                          refine z_iconst (a := nI 5) d_Tf_tray_29 (by decide) ?_
                          refine z_Vi1 d_Tf_tray_30 k_Tf_119 (by first | assumption | exact zS0_at (by assumption) (by omega) | exact zS0_at rfl (by omega)) (t_Tf_refuse (by assumption)) ⟨Nat.le_of_ble_eq_true rfl, Nat.le_of_ble_eq_true rfl, Nat.le_of_ble_eq_true rfl, Nat.le_of_ble_eq_true rfl⟩ (Nat.le_of_ble_eq_true rfl) ?_
                          intro r w hq
                          obtain ⟨rfl, rfl⟩ := hq
                          refine z_retz d_Tf_tray_33 (by first | exact zb0 | exact zb1 | assumption) ?_
                          exact ⟨rfl, rfl⟩))
              · first
                | (simp (disch := omega) only [← nI_0, nI_leI, nI_ltI, nI_eq, not_true_eq_false, not_false_eq_true] at h13; done)
                | (simp (disch := omega) only [← nI_0, nI_leI, nI_ltI, nI_eq, not_true_eq_false, not_false_eq_true] at h13; omega)
                | contradiction
                | exact absurd h13 (Int32.not_lt.mpr (by assumption))
                | exact absurd h13 (Int32.not_le.mpr (by assumption))
                | exact absurd h13 (by decide)
                | exact absurd (by decide) h13
                | ( try simp (disch := omega) only [← nI_0, nI_leI, nI_ltI, nI_eq, not_true_eq_false, not_false_eq_true] at h13
                    (try have h13b := zbit_n0.mp h13); (try have h13b := zbit_p0.mp h13)
                    refine z_aload_0 d_Tf_tray_16 ?_
                    refine z_iconst (a := nI 1) d_Tf_tray_17 (by decide) ?_
                    refine z_Vi1 d_Tf_tray_18 k_Tf_119 (by first | assumption | exact zS0_at (by assumption) (by omega) | exact zS0_at rfl (by omega)) (t_Tf_refuse (by assumption)) ⟨Nat.le_of_ble_eq_true rfl, Nat.le_of_ble_eq_true rfl, Nat.le_of_ble_eq_true rfl, Nat.le_of_ble_eq_true rfl⟩ (Nat.le_of_ble_eq_true rfl) ?_
                    intro r w hq
                    obtain ⟨rfl, rfl⟩ := hq
                    refine z_retz d_Tf_tray_21 (by first | exact zb0 | exact zb1 | assumption) ?_
                    exact ⟨rfl, rfl⟩)))
theorem t_Mo_tray_o (M : modOk P S) (N : modIn I nt np nl nn) (h : ¬ zin a 4 ∨ ¬ zin b 4) : zEi G y_Mo_tray prog_14_method_11_code 5 (some .boolean) 2 [.ref 145, .int a, .int b, .int c] (I, J, P, S) (fun r w => r = nI 0 ∧ mW I J P S 1 w) := by
  obtain ⟨M0, ⟨M4, M4s⟩, ⟨M5, M5s⟩, ⟨M6, M6s⟩, ⟨M7, M7s⟩, ⟨M20, M20s⟩, ⟨M21, M21s⟩, ⟨M22, M22s⟩, ⟨M26, M26s⟩, ⟨M27, M27s⟩, ⟨M28, M28s⟩, ⟨M30, M30s⟩, ⟨M34, M34s⟩, ⟨M36, M36s⟩, ⟨M37, M37s⟩⟩ := id M
  obtain ⟨I1, hI1, N1, h1, h0, e150, er, ek⟩ := mo_beg N
  have h : (a < 0 ∨ nI 4 ≤ a) ∨ b < 0 ∨ nI 3 < b := by
    rcases h with h | h
    · rcases zin_or a 4 (by decide) with ⟨q, -⟩ | q
      · exact Or.inl q
      · exact absurd q h
    · exact Or.inr (zin_not (by decide) h)
  refine zEi_of (lv := [some (.ref 145), some (.int a), some (.int b), some (.int c), none]) (by decide) rfl (Nat.le_of_ble_eq_true rfl) ?_
  refine z_aload_0 d_Mo_tray_0 ?_
  refine z_iconst (a := nI 0) d_Mo_tray_1 (by decide) ?_
  refine z_putI d_Mo_tray_2 f_Mo_70 (by first | assumption | exact zS0_at (by assumption) (by omega) | exact zS0_at rfl (by omega)) ?_
  refine z_aload_0 d_Mo_tray_5 ?_
  refine z_iconst (a := nI 0) d_Mo_tray_6 (by decide) ?_
  refine z_putI d_Mo_tray_7 f_Mo_73 (by first | assumption | exact zS0_at (by assumption) (by omega) | exact zS0_at rfl (by omega)) ?_
  rw [← hI1]
  rcases h with (h | h) | h | h
  · refine z_iload_1 d_Mo_tray_10 ?_
    refine z_if_lt (tgt := 28) d_Mo_tray_11 (by decide) (fun h11 => ?_) (fun h11 => ?_)
    · first
      | (simp (disch := omega) only [← nI_0, nI_leI, nI_ltI, nI_eq, not_true_eq_false, not_false_eq_true] at h11; done)
      | (simp (disch := omega) only [← nI_0, nI_leI, nI_ltI, nI_eq, not_true_eq_false, not_false_eq_true] at h11; omega)
      | contradiction
      | exact absurd h11 (Int32.not_lt.mpr (by assumption))
      | exact absurd h11 (Int32.not_le.mpr (by assumption))
      | exact absurd h11 (by decide)
      | exact absurd (by decide) h11
      | ( try simp (disch := omega) only [← nI_0, nI_leI, nI_ltI, nI_eq, not_true_eq_false, not_false_eq_true] at h11
          (try have h11b := zbit_n0.mp h11); (try have h11b := zbit_p0.mp h11)
          refine z_aload_0 d_Mo_tray_28 ?_
          refine z_iconst (a := nI 1) d_Mo_tray_29 (by decide) ?_
          refine z_Vi1 d_Mo_tray_30 k_Mo_85 (by first | assumption | exact zS0_at (by assumption) (by omega) | exact zS0_at rfl (by omega)) (t_Mo_no (by assumption)) ⟨Nat.le_of_ble_eq_true rfl, Nat.le_of_ble_eq_true rfl, Nat.le_of_ble_eq_true rfl, Nat.le_of_ble_eq_true rfl⟩ (Nat.le_of_ble_eq_true rfl) ?_
          intro r w hq
          obtain ⟨rfl, rfl⟩ := hq
          refine z_retz d_Mo_tray_33 (by first | exact zb0 | exact zb1 | assumption) ?_
          exact ⟨rfl, _, _, rfl, mqF_z h1 (by decide), mqJ_r, zu_same _ _ _ _⟩)
    · first
      | (simp (disch := omega) only [← nI_0, nI_leI, nI_ltI, nI_eq, not_true_eq_false, not_false_eq_true] at h11; done)
      | (simp (disch := omega) only [← nI_0, nI_leI, nI_ltI, nI_eq, not_true_eq_false, not_false_eq_true] at h11; omega)
      | contradiction
      | exact absurd h11 (Int32.not_lt.mpr (by assumption))
      | exact absurd h11 (Int32.not_le.mpr (by assumption))
      | exact absurd h11 (by decide)
      | exact absurd (by decide) h11
      | ( try simp (disch := omega) only [← nI_0, nI_leI, nI_ltI, nI_eq, not_true_eq_false, not_false_eq_true] at h11
          (try have h11b := zbit_n0.mp h11); (try have h11b := zbit_p0.mp h11)
          refine z_iload_1 d_Mo_tray_14 ?_
          refine z_iconst (a := nI 4) d_Mo_tray_15 (by decide) ?_
          refine z_icmp_ge (tgt := 28) d_Mo_tray_16 (by decide) (fun h16 => ?_) (fun h16 => ?_)
          · first
            | (simp (disch := omega) only [← nI_0, nI_leI, nI_ltI, nI_eq, not_true_eq_false, not_false_eq_true] at h16; done)
            | (simp (disch := omega) only [← nI_0, nI_leI, nI_ltI, nI_eq, not_true_eq_false, not_false_eq_true] at h16; omega)
            | contradiction
            | exact absurd h16 (Int32.not_lt.mpr (by assumption))
            | exact absurd h16 (Int32.not_le.mpr (by assumption))
            | exact absurd h16 (by decide)
            | exact absurd (by decide) h16
            | ( try simp (disch := omega) only [← nI_0, nI_leI, nI_ltI, nI_eq, not_true_eq_false, not_false_eq_true] at h16
                (try have h16b := zbit_n0.mp h16); (try have h16b := zbit_p0.mp h16)
                refine z_aload_0 d_Mo_tray_28 ?_
                refine z_iconst (a := nI 1) d_Mo_tray_29 (by decide) ?_
                refine z_Vi1 d_Mo_tray_30 k_Mo_85 (by first | assumption | exact zS0_at (by assumption) (by omega) | exact zS0_at rfl (by omega)) (t_Mo_no (by assumption)) ⟨Nat.le_of_ble_eq_true rfl, Nat.le_of_ble_eq_true rfl, Nat.le_of_ble_eq_true rfl, Nat.le_of_ble_eq_true rfl⟩ (Nat.le_of_ble_eq_true rfl) ?_
                intro r w hq
                obtain ⟨rfl, rfl⟩ := hq
                refine z_retz d_Mo_tray_33 (by first | exact zb0 | exact zb1 | assumption) ?_
                exact ⟨rfl, _, _, rfl, mqF_z h1 (by decide), mqJ_r, zu_same _ _ _ _⟩)
          · first
            | (simp (disch := omega) only [← nI_0, nI_leI, nI_ltI, nI_eq, not_true_eq_false, not_false_eq_true] at h16; done)
            | (simp (disch := omega) only [← nI_0, nI_leI, nI_ltI, nI_eq, not_true_eq_false, not_false_eq_true] at h16; omega)
            | contradiction
            | exact absurd h16 (Int32.not_lt.mpr (by assumption))
            | exact absurd h16 (Int32.not_le.mpr (by assumption))
            | exact absurd h16 (by decide)
            | exact absurd (by decide) h16
            | ( try simp (disch := omega) only [← nI_0, nI_leI, nI_ltI, nI_eq, not_true_eq_false, not_false_eq_true] at h16
                (try have h16b := zbit_n0.mp h16); (try have h16b := zbit_p0.mp h16)
                refine z_iload_2 d_Mo_tray_19 ?_
                refine z_if_lt (tgt := 28) d_Mo_tray_20 (by decide) (fun h20 => ?_) (fun h20 => ?_)
                · first
                  | (simp (disch := omega) only [← nI_0, nI_leI, nI_ltI, nI_eq, not_true_eq_false, not_false_eq_true] at h20; done)
                  | (simp (disch := omega) only [← nI_0, nI_leI, nI_ltI, nI_eq, not_true_eq_false, not_false_eq_true] at h20; omega)
                  | contradiction
                  | exact absurd h20 (Int32.not_lt.mpr (by assumption))
                  | exact absurd h20 (Int32.not_le.mpr (by assumption))
                  | exact absurd h20 (by decide)
                  | exact absurd (by decide) h20
                  | ( try simp (disch := omega) only [← nI_0, nI_leI, nI_ltI, nI_eq, not_true_eq_false, not_false_eq_true] at h20
                      (try have h20b := zbit_n0.mp h20); (try have h20b := zbit_p0.mp h20)
                      refine z_aload_0 d_Mo_tray_28 ?_
                      refine z_iconst (a := nI 1) d_Mo_tray_29 (by decide) ?_
                      refine z_Vi1 d_Mo_tray_30 k_Mo_85 (by first | assumption | exact zS0_at (by assumption) (by omega) | exact zS0_at rfl (by omega)) (t_Mo_no (by assumption)) ⟨Nat.le_of_ble_eq_true rfl, Nat.le_of_ble_eq_true rfl, Nat.le_of_ble_eq_true rfl, Nat.le_of_ble_eq_true rfl⟩ (Nat.le_of_ble_eq_true rfl) ?_
                      intro r w hq
                      obtain ⟨rfl, rfl⟩ := hq
                      refine z_retz d_Mo_tray_33 (by first | exact zb0 | exact zb1 | assumption) ?_
                      exact ⟨rfl, _, _, rfl, mqF_z h1 (by decide), mqJ_r, zu_same _ _ _ _⟩)
                · first
                  | (simp (disch := omega) only [← nI_0, nI_leI, nI_ltI, nI_eq, not_true_eq_false, not_false_eq_true] at h20; done)
                  | (simp (disch := omega) only [← nI_0, nI_leI, nI_ltI, nI_eq, not_true_eq_false, not_false_eq_true] at h20; omega)
                  | contradiction
                  | exact absurd h20 (Int32.not_lt.mpr (by assumption))
                  | exact absurd h20 (Int32.not_le.mpr (by assumption))
                  | exact absurd h20 (by decide)
                  | exact absurd (by decide) h20
                  | ( try simp (disch := omega) only [← nI_0, nI_leI, nI_ltI, nI_eq, not_true_eq_false, not_false_eq_true] at h20
                      (try have h20b := zbit_n0.mp h20); (try have h20b := zbit_p0.mp h20)
                      refine z_iload_2 d_Mo_tray_23 ?_
                      refine z_iconst (a := nI 3) d_Mo_tray_24 (by decide) ?_
                      refine z_icmp_le (tgt := 34) d_Mo_tray_25 (by decide) (fun h25 => ?_) (fun h25 => ?_)
                      · first
                        | (simp (disch := omega) only [← nI_0, nI_leI, nI_ltI, nI_eq, not_true_eq_false, not_false_eq_true] at h25; done)
                        | (simp (disch := omega) only [← nI_0, nI_leI, nI_ltI, nI_eq, not_true_eq_false, not_false_eq_true] at h25; omega)
                        | contradiction
                        | exact absurd h25 (Int32.not_lt.mpr (by assumption))
                        | exact absurd h25 (Int32.not_le.mpr (by assumption))
                        | exact absurd h25 (by decide)
                        | exact absurd (by decide) h25
                        | ( try simp (disch := omega) only [← nI_0, nI_leI, nI_ltI, nI_eq, not_true_eq_false, not_false_eq_true] at h25
                            (try have h25b := zbit_n0.mp h25); (try have h25b := zbit_p0.mp h25)
                            fail)
                      · first
                        | (simp (disch := omega) only [← nI_0, nI_leI, nI_ltI, nI_eq, not_true_eq_false, not_false_eq_true] at h25; done)
                        | (simp (disch := omega) only [← nI_0, nI_leI, nI_ltI, nI_eq, not_true_eq_false, not_false_eq_true] at h25; omega)
                        | contradiction
                        | exact absurd h25 (Int32.not_lt.mpr (by assumption))
                        | exact absurd h25 (Int32.not_le.mpr (by assumption))
                        | exact absurd h25 (by decide)
                        | exact absurd (by decide) h25
                        | ( try simp (disch := omega) only [← nI_0, nI_leI, nI_ltI, nI_eq, not_true_eq_false, not_false_eq_true] at h25
                            (try have h25b := zbit_n0.mp h25); (try have h25b := zbit_p0.mp h25)
                            refine z_aload_0 d_Mo_tray_28 ?_
                            refine z_iconst (a := nI 1) d_Mo_tray_29 (by decide) ?_
                            refine z_Vi1 d_Mo_tray_30 k_Mo_85 (by first | assumption | exact zS0_at (by assumption) (by omega) | exact zS0_at rfl (by omega)) (t_Mo_no (by assumption)) ⟨Nat.le_of_ble_eq_true rfl, Nat.le_of_ble_eq_true rfl, Nat.le_of_ble_eq_true rfl, Nat.le_of_ble_eq_true rfl⟩ (Nat.le_of_ble_eq_true rfl) ?_
                            intro r w hq
                            obtain ⟨rfl, rfl⟩ := hq
                            refine z_retz d_Mo_tray_33 (by first | exact zb0 | exact zb1 | assumption) ?_
                            exact ⟨rfl, _, _, rfl, mqF_z h1 (by decide), mqJ_r, zu_same _ _ _ _⟩))))
  · refine z_iload_1 d_Mo_tray_10 ?_
    refine z_if_lt (tgt := 28) d_Mo_tray_11 (by decide) (fun h11 => ?_) (fun h11 => ?_)
    · first
      | (simp (disch := omega) only [← nI_0, nI_leI, nI_ltI, nI_eq, not_true_eq_false, not_false_eq_true] at h11; done)
      | (simp (disch := omega) only [← nI_0, nI_leI, nI_ltI, nI_eq, not_true_eq_false, not_false_eq_true] at h11; omega)
      | contradiction
      | exact absurd h11 (Int32.not_lt.mpr (by assumption))
      | exact absurd h11 (Int32.not_le.mpr (by assumption))
      | exact absurd h11 (by decide)
      | exact absurd (by decide) h11
      | ( try simp (disch := omega) only [← nI_0, nI_leI, nI_ltI, nI_eq, not_true_eq_false, not_false_eq_true] at h11
          (try have h11b := zbit_n0.mp h11); (try have h11b := zbit_p0.mp h11)
          refine z_aload_0 d_Mo_tray_28 ?_
          refine z_iconst (a := nI 1) d_Mo_tray_29 (by decide) ?_
          refine z_Vi1 d_Mo_tray_30 k_Mo_85 (by first | assumption | exact zS0_at (by assumption) (by omega) | exact zS0_at rfl (by omega)) (t_Mo_no (by assumption)) ⟨Nat.le_of_ble_eq_true rfl, Nat.le_of_ble_eq_true rfl, Nat.le_of_ble_eq_true rfl, Nat.le_of_ble_eq_true rfl⟩ (Nat.le_of_ble_eq_true rfl) ?_
          intro r w hq
          obtain ⟨rfl, rfl⟩ := hq
          refine z_retz d_Mo_tray_33 (by first | exact zb0 | exact zb1 | assumption) ?_
          exact ⟨rfl, _, _, rfl, mqF_z h1 (by decide), mqJ_r, zu_same _ _ _ _⟩)
    · first
      | (simp (disch := omega) only [← nI_0, nI_leI, nI_ltI, nI_eq, not_true_eq_false, not_false_eq_true] at h11; done)
      | (simp (disch := omega) only [← nI_0, nI_leI, nI_ltI, nI_eq, not_true_eq_false, not_false_eq_true] at h11; omega)
      | contradiction
      | exact absurd h11 (Int32.not_lt.mpr (by assumption))
      | exact absurd h11 (Int32.not_le.mpr (by assumption))
      | exact absurd h11 (by decide)
      | exact absurd (by decide) h11
      | ( try simp (disch := omega) only [← nI_0, nI_leI, nI_ltI, nI_eq, not_true_eq_false, not_false_eq_true] at h11
          (try have h11b := zbit_n0.mp h11); (try have h11b := zbit_p0.mp h11)
          refine z_iload_1 d_Mo_tray_14 ?_
          refine z_iconst (a := nI 4) d_Mo_tray_15 (by decide) ?_
          refine z_icmp_ge (tgt := 28) d_Mo_tray_16 (by decide) (fun h16 => ?_) (fun h16 => ?_)
          · first
            | (simp (disch := omega) only [← nI_0, nI_leI, nI_ltI, nI_eq, not_true_eq_false, not_false_eq_true] at h16; done)
            | (simp (disch := omega) only [← nI_0, nI_leI, nI_ltI, nI_eq, not_true_eq_false, not_false_eq_true] at h16; omega)
            | contradiction
            | exact absurd h16 (Int32.not_lt.mpr (by assumption))
            | exact absurd h16 (Int32.not_le.mpr (by assumption))
            | exact absurd h16 (by decide)
            | exact absurd (by decide) h16
            | ( try simp (disch := omega) only [← nI_0, nI_leI, nI_ltI, nI_eq, not_true_eq_false, not_false_eq_true] at h16
                (try have h16b := zbit_n0.mp h16); (try have h16b := zbit_p0.mp h16)
                refine z_aload_0 d_Mo_tray_28 ?_
                refine z_iconst (a := nI 1) d_Mo_tray_29 (by decide) ?_
                refine z_Vi1 d_Mo_tray_30 k_Mo_85 (by first | assumption | exact zS0_at (by assumption) (by omega) | exact zS0_at rfl (by omega)) (t_Mo_no (by assumption)) ⟨Nat.le_of_ble_eq_true rfl, Nat.le_of_ble_eq_true rfl, Nat.le_of_ble_eq_true rfl, Nat.le_of_ble_eq_true rfl⟩ (Nat.le_of_ble_eq_true rfl) ?_
                intro r w hq
                obtain ⟨rfl, rfl⟩ := hq
                refine z_retz d_Mo_tray_33 (by first | exact zb0 | exact zb1 | assumption) ?_
                exact ⟨rfl, _, _, rfl, mqF_z h1 (by decide), mqJ_r, zu_same _ _ _ _⟩)
          · first
            | (simp (disch := omega) only [← nI_0, nI_leI, nI_ltI, nI_eq, not_true_eq_false, not_false_eq_true] at h16; done)
            | (simp (disch := omega) only [← nI_0, nI_leI, nI_ltI, nI_eq, not_true_eq_false, not_false_eq_true] at h16; omega)
            | contradiction
            | exact absurd h16 (Int32.not_lt.mpr (by assumption))
            | exact absurd h16 (Int32.not_le.mpr (by assumption))
            | exact absurd h16 (by decide)
            | exact absurd (by decide) h16
            | ( try simp (disch := omega) only [← nI_0, nI_leI, nI_ltI, nI_eq, not_true_eq_false, not_false_eq_true] at h16
                (try have h16b := zbit_n0.mp h16); (try have h16b := zbit_p0.mp h16)
                refine z_iload_2 d_Mo_tray_19 ?_
                refine z_if_lt (tgt := 28) d_Mo_tray_20 (by decide) (fun h20 => ?_) (fun h20 => ?_)
                · first
                  | (simp (disch := omega) only [← nI_0, nI_leI, nI_ltI, nI_eq, not_true_eq_false, not_false_eq_true] at h20; done)
                  | (simp (disch := omega) only [← nI_0, nI_leI, nI_ltI, nI_eq, not_true_eq_false, not_false_eq_true] at h20; omega)
                  | contradiction
                  | exact absurd h20 (Int32.not_lt.mpr (by assumption))
                  | exact absurd h20 (Int32.not_le.mpr (by assumption))
                  | exact absurd h20 (by decide)
                  | exact absurd (by decide) h20
                  | ( try simp (disch := omega) only [← nI_0, nI_leI, nI_ltI, nI_eq, not_true_eq_false, not_false_eq_true] at h20
                      (try have h20b := zbit_n0.mp h20); (try have h20b := zbit_p0.mp h20)
                      refine z_aload_0 d_Mo_tray_28 ?_
                      refine z_iconst (a := nI 1) d_Mo_tray_29 (by decide) ?_
                      refine z_Vi1 d_Mo_tray_30 k_Mo_85 (by first | assumption | exact zS0_at (by assumption) (by omega) | exact zS0_at rfl (by omega)) (t_Mo_no (by assumption)) ⟨Nat.le_of_ble_eq_true rfl, Nat.le_of_ble_eq_true rfl, Nat.le_of_ble_eq_true rfl, Nat.le_of_ble_eq_true rfl⟩ (Nat.le_of_ble_eq_true rfl) ?_
                      intro r w hq
                      obtain ⟨rfl, rfl⟩ := hq
                      refine z_retz d_Mo_tray_33 (by first | exact zb0 | exact zb1 | assumption) ?_
                      exact ⟨rfl, _, _, rfl, mqF_z h1 (by decide), mqJ_r, zu_same _ _ _ _⟩)
                · first
                  | (simp (disch := omega) only [← nI_0, nI_leI, nI_ltI, nI_eq, not_true_eq_false, not_false_eq_true] at h20; done)
                  | (simp (disch := omega) only [← nI_0, nI_leI, nI_ltI, nI_eq, not_true_eq_false, not_false_eq_true] at h20; omega)
                  | contradiction
                  | exact absurd h20 (Int32.not_lt.mpr (by assumption))
                  | exact absurd h20 (Int32.not_le.mpr (by assumption))
                  | exact absurd h20 (by decide)
                  | exact absurd (by decide) h20
                  | ( try simp (disch := omega) only [← nI_0, nI_leI, nI_ltI, nI_eq, not_true_eq_false, not_false_eq_true] at h20
                      (try have h20b := zbit_n0.mp h20); (try have h20b := zbit_p0.mp h20)
                      refine z_iload_2 d_Mo_tray_23 ?_
                      refine z_iconst (a := nI 3) d_Mo_tray_24 (by decide) ?_
                      refine z_icmp_le (tgt := 34) d_Mo_tray_25 (by decide) (fun h25 => ?_) (fun h25 => ?_)
                      · first
                        | (simp (disch := omega) only [← nI_0, nI_leI, nI_ltI, nI_eq, not_true_eq_false, not_false_eq_true] at h25; done)
                        | (simp (disch := omega) only [← nI_0, nI_leI, nI_ltI, nI_eq, not_true_eq_false, not_false_eq_true] at h25; omega)
                        | contradiction
                        | exact absurd h25 (Int32.not_lt.mpr (by assumption))
                        | exact absurd h25 (Int32.not_le.mpr (by assumption))
                        | exact absurd h25 (by decide)
                        | exact absurd (by decide) h25
                        | ( try simp (disch := omega) only [← nI_0, nI_leI, nI_ltI, nI_eq, not_true_eq_false, not_false_eq_true] at h25
                            (try have h25b := zbit_n0.mp h25); (try have h25b := zbit_p0.mp h25)
                            fail)
                      · first
                        | (simp (disch := omega) only [← nI_0, nI_leI, nI_ltI, nI_eq, not_true_eq_false, not_false_eq_true] at h25; done)
                        | (simp (disch := omega) only [← nI_0, nI_leI, nI_ltI, nI_eq, not_true_eq_false, not_false_eq_true] at h25; omega)
                        | contradiction
                        | exact absurd h25 (Int32.not_lt.mpr (by assumption))
                        | exact absurd h25 (Int32.not_le.mpr (by assumption))
                        | exact absurd h25 (by decide)
                        | exact absurd (by decide) h25
                        | ( try simp (disch := omega) only [← nI_0, nI_leI, nI_ltI, nI_eq, not_true_eq_false, not_false_eq_true] at h25
                            (try have h25b := zbit_n0.mp h25); (try have h25b := zbit_p0.mp h25)
                            refine z_aload_0 d_Mo_tray_28 ?_
                            refine z_iconst (a := nI 1) d_Mo_tray_29 (by decide) ?_
                            refine z_Vi1 d_Mo_tray_30 k_Mo_85 (by first | assumption | exact zS0_at (by assumption) (by omega) | exact zS0_at rfl (by omega)) (t_Mo_no (by assumption)) ⟨Nat.le_of_ble_eq_true rfl, Nat.le_of_ble_eq_true rfl, Nat.le_of_ble_eq_true rfl, Nat.le_of_ble_eq_true rfl⟩ (Nat.le_of_ble_eq_true rfl) ?_
                            intro r w hq
                            obtain ⟨rfl, rfl⟩ := hq
                            refine z_retz d_Mo_tray_33 (by first | exact zb0 | exact zb1 | assumption) ?_
                            exact ⟨rfl, _, _, rfl, mqF_z h1 (by decide), mqJ_r, zu_same _ _ _ _⟩))))
  · refine z_iload_1 d_Mo_tray_10 ?_
    refine z_if_lt (tgt := 28) d_Mo_tray_11 (by decide) (fun h11 => ?_) (fun h11 => ?_)
    · first
      | (simp (disch := omega) only [← nI_0, nI_leI, nI_ltI, nI_eq, not_true_eq_false, not_false_eq_true] at h11; done)
      | (simp (disch := omega) only [← nI_0, nI_leI, nI_ltI, nI_eq, not_true_eq_false, not_false_eq_true] at h11; omega)
      | contradiction
      | exact absurd h11 (Int32.not_lt.mpr (by assumption))
      | exact absurd h11 (Int32.not_le.mpr (by assumption))
      | exact absurd h11 (by decide)
      | exact absurd (by decide) h11
      | ( try simp (disch := omega) only [← nI_0, nI_leI, nI_ltI, nI_eq, not_true_eq_false, not_false_eq_true] at h11
          (try have h11b := zbit_n0.mp h11); (try have h11b := zbit_p0.mp h11)
          refine z_aload_0 d_Mo_tray_28 ?_
          refine z_iconst (a := nI 1) d_Mo_tray_29 (by decide) ?_
          refine z_Vi1 d_Mo_tray_30 k_Mo_85 (by first | assumption | exact zS0_at (by assumption) (by omega) | exact zS0_at rfl (by omega)) (t_Mo_no (by assumption)) ⟨Nat.le_of_ble_eq_true rfl, Nat.le_of_ble_eq_true rfl, Nat.le_of_ble_eq_true rfl, Nat.le_of_ble_eq_true rfl⟩ (Nat.le_of_ble_eq_true rfl) ?_
          intro r w hq
          obtain ⟨rfl, rfl⟩ := hq
          refine z_retz d_Mo_tray_33 (by first | exact zb0 | exact zb1 | assumption) ?_
          exact ⟨rfl, _, _, rfl, mqF_z h1 (by decide), mqJ_r, zu_same _ _ _ _⟩)
    · first
      | (simp (disch := omega) only [← nI_0, nI_leI, nI_ltI, nI_eq, not_true_eq_false, not_false_eq_true] at h11; done)
      | (simp (disch := omega) only [← nI_0, nI_leI, nI_ltI, nI_eq, not_true_eq_false, not_false_eq_true] at h11; omega)
      | contradiction
      | exact absurd h11 (Int32.not_lt.mpr (by assumption))
      | exact absurd h11 (Int32.not_le.mpr (by assumption))
      | exact absurd h11 (by decide)
      | exact absurd (by decide) h11
      | ( try simp (disch := omega) only [← nI_0, nI_leI, nI_ltI, nI_eq, not_true_eq_false, not_false_eq_true] at h11
          (try have h11b := zbit_n0.mp h11); (try have h11b := zbit_p0.mp h11)
          refine z_iload_1 d_Mo_tray_14 ?_
          refine z_iconst (a := nI 4) d_Mo_tray_15 (by decide) ?_
          refine z_icmp_ge (tgt := 28) d_Mo_tray_16 (by decide) (fun h16 => ?_) (fun h16 => ?_)
          · first
            | (simp (disch := omega) only [← nI_0, nI_leI, nI_ltI, nI_eq, not_true_eq_false, not_false_eq_true] at h16; done)
            | (simp (disch := omega) only [← nI_0, nI_leI, nI_ltI, nI_eq, not_true_eq_false, not_false_eq_true] at h16; omega)
            | contradiction
            | exact absurd h16 (Int32.not_lt.mpr (by assumption))
            | exact absurd h16 (Int32.not_le.mpr (by assumption))
            | exact absurd h16 (by decide)
            | exact absurd (by decide) h16
            | ( try simp (disch := omega) only [← nI_0, nI_leI, nI_ltI, nI_eq, not_true_eq_false, not_false_eq_true] at h16
                (try have h16b := zbit_n0.mp h16); (try have h16b := zbit_p0.mp h16)
                refine z_aload_0 d_Mo_tray_28 ?_
                refine z_iconst (a := nI 1) d_Mo_tray_29 (by decide) ?_
                refine z_Vi1 d_Mo_tray_30 k_Mo_85 (by first | assumption | exact zS0_at (by assumption) (by omega) | exact zS0_at rfl (by omega)) (t_Mo_no (by assumption)) ⟨Nat.le_of_ble_eq_true rfl, Nat.le_of_ble_eq_true rfl, Nat.le_of_ble_eq_true rfl, Nat.le_of_ble_eq_true rfl⟩ (Nat.le_of_ble_eq_true rfl) ?_
                intro r w hq
                obtain ⟨rfl, rfl⟩ := hq
                refine z_retz d_Mo_tray_33 (by first | exact zb0 | exact zb1 | assumption) ?_
                exact ⟨rfl, _, _, rfl, mqF_z h1 (by decide), mqJ_r, zu_same _ _ _ _⟩)
          · first
            | (simp (disch := omega) only [← nI_0, nI_leI, nI_ltI, nI_eq, not_true_eq_false, not_false_eq_true] at h16; done)
            | (simp (disch := omega) only [← nI_0, nI_leI, nI_ltI, nI_eq, not_true_eq_false, not_false_eq_true] at h16; omega)
            | contradiction
            | exact absurd h16 (Int32.not_lt.mpr (by assumption))
            | exact absurd h16 (Int32.not_le.mpr (by assumption))
            | exact absurd h16 (by decide)
            | exact absurd (by decide) h16
            | ( try simp (disch := omega) only [← nI_0, nI_leI, nI_ltI, nI_eq, not_true_eq_false, not_false_eq_true] at h16
                (try have h16b := zbit_n0.mp h16); (try have h16b := zbit_p0.mp h16)
                refine z_iload_2 d_Mo_tray_19 ?_
                refine z_if_lt (tgt := 28) d_Mo_tray_20 (by decide) (fun h20 => ?_) (fun h20 => ?_)
                · first
                  | (simp (disch := omega) only [← nI_0, nI_leI, nI_ltI, nI_eq, not_true_eq_false, not_false_eq_true] at h20; done)
                  | (simp (disch := omega) only [← nI_0, nI_leI, nI_ltI, nI_eq, not_true_eq_false, not_false_eq_true] at h20; omega)
                  | contradiction
                  | exact absurd h20 (Int32.not_lt.mpr (by assumption))
                  | exact absurd h20 (Int32.not_le.mpr (by assumption))
                  | exact absurd h20 (by decide)
                  | exact absurd (by decide) h20
                  | ( try simp (disch := omega) only [← nI_0, nI_leI, nI_ltI, nI_eq, not_true_eq_false, not_false_eq_true] at h20
                      (try have h20b := zbit_n0.mp h20); (try have h20b := zbit_p0.mp h20)
                      refine z_aload_0 d_Mo_tray_28 ?_
                      refine z_iconst (a := nI 1) d_Mo_tray_29 (by decide) ?_
                      refine z_Vi1 d_Mo_tray_30 k_Mo_85 (by first | assumption | exact zS0_at (by assumption) (by omega) | exact zS0_at rfl (by omega)) (t_Mo_no (by assumption)) ⟨Nat.le_of_ble_eq_true rfl, Nat.le_of_ble_eq_true rfl, Nat.le_of_ble_eq_true rfl, Nat.le_of_ble_eq_true rfl⟩ (Nat.le_of_ble_eq_true rfl) ?_
                      intro r w hq
                      obtain ⟨rfl, rfl⟩ := hq
                      refine z_retz d_Mo_tray_33 (by first | exact zb0 | exact zb1 | assumption) ?_
                      exact ⟨rfl, _, _, rfl, mqF_z h1 (by decide), mqJ_r, zu_same _ _ _ _⟩)
                · first
                  | (simp (disch := omega) only [← nI_0, nI_leI, nI_ltI, nI_eq, not_true_eq_false, not_false_eq_true] at h20; done)
                  | (simp (disch := omega) only [← nI_0, nI_leI, nI_ltI, nI_eq, not_true_eq_false, not_false_eq_true] at h20; omega)
                  | contradiction
                  | exact absurd h20 (Int32.not_lt.mpr (by assumption))
                  | exact absurd h20 (Int32.not_le.mpr (by assumption))
                  | exact absurd h20 (by decide)
                  | exact absurd (by decide) h20
                  | ( try simp (disch := omega) only [← nI_0, nI_leI, nI_ltI, nI_eq, not_true_eq_false, not_false_eq_true] at h20
                      (try have h20b := zbit_n0.mp h20); (try have h20b := zbit_p0.mp h20)
                      refine z_iload_2 d_Mo_tray_23 ?_
                      refine z_iconst (a := nI 3) d_Mo_tray_24 (by decide) ?_
                      refine z_icmp_le (tgt := 34) d_Mo_tray_25 (by decide) (fun h25 => ?_) (fun h25 => ?_)
                      · first
                        | (simp (disch := omega) only [← nI_0, nI_leI, nI_ltI, nI_eq, not_true_eq_false, not_false_eq_true] at h25; done)
                        | (simp (disch := omega) only [← nI_0, nI_leI, nI_ltI, nI_eq, not_true_eq_false, not_false_eq_true] at h25; omega)
                        | contradiction
                        | exact absurd h25 (Int32.not_lt.mpr (by assumption))
                        | exact absurd h25 (Int32.not_le.mpr (by assumption))
                        | exact absurd h25 (by decide)
                        | exact absurd (by decide) h25
                        | ( try simp (disch := omega) only [← nI_0, nI_leI, nI_ltI, nI_eq, not_true_eq_false, not_false_eq_true] at h25
                            (try have h25b := zbit_n0.mp h25); (try have h25b := zbit_p0.mp h25)
                            fail)
                      · first
                        | (simp (disch := omega) only [← nI_0, nI_leI, nI_ltI, nI_eq, not_true_eq_false, not_false_eq_true] at h25; done)
                        | (simp (disch := omega) only [← nI_0, nI_leI, nI_ltI, nI_eq, not_true_eq_false, not_false_eq_true] at h25; omega)
                        | contradiction
                        | exact absurd h25 (Int32.not_lt.mpr (by assumption))
                        | exact absurd h25 (Int32.not_le.mpr (by assumption))
                        | exact absurd h25 (by decide)
                        | exact absurd (by decide) h25
                        | ( try simp (disch := omega) only [← nI_0, nI_leI, nI_ltI, nI_eq, not_true_eq_false, not_false_eq_true] at h25
                            (try have h25b := zbit_n0.mp h25); (try have h25b := zbit_p0.mp h25)
                            refine z_aload_0 d_Mo_tray_28 ?_
                            refine z_iconst (a := nI 1) d_Mo_tray_29 (by decide) ?_
                            refine z_Vi1 d_Mo_tray_30 k_Mo_85 (by first | assumption | exact zS0_at (by assumption) (by omega) | exact zS0_at rfl (by omega)) (t_Mo_no (by assumption)) ⟨Nat.le_of_ble_eq_true rfl, Nat.le_of_ble_eq_true rfl, Nat.le_of_ble_eq_true rfl, Nat.le_of_ble_eq_true rfl⟩ (Nat.le_of_ble_eq_true rfl) ?_
                            intro r w hq
                            obtain ⟨rfl, rfl⟩ := hq
                            refine z_retz d_Mo_tray_33 (by first | exact zb0 | exact zb1 | assumption) ?_
                            exact ⟨rfl, _, _, rfl, mqF_z h1 (by decide), mqJ_r, zu_same _ _ _ _⟩))))
  · refine z_iload_1 d_Mo_tray_10 ?_
    refine z_if_lt (tgt := 28) d_Mo_tray_11 (by decide) (fun h11 => ?_) (fun h11 => ?_)
    · first
      | (simp (disch := omega) only [← nI_0, nI_leI, nI_ltI, nI_eq, not_true_eq_false, not_false_eq_true] at h11; done)
      | (simp (disch := omega) only [← nI_0, nI_leI, nI_ltI, nI_eq, not_true_eq_false, not_false_eq_true] at h11; omega)
      | contradiction
      | exact absurd h11 (Int32.not_lt.mpr (by assumption))
      | exact absurd h11 (Int32.not_le.mpr (by assumption))
      | exact absurd h11 (by decide)
      | exact absurd (by decide) h11
      | ( try simp (disch := omega) only [← nI_0, nI_leI, nI_ltI, nI_eq, not_true_eq_false, not_false_eq_true] at h11
          (try have h11b := zbit_n0.mp h11); (try have h11b := zbit_p0.mp h11)
          refine z_aload_0 d_Mo_tray_28 ?_
          refine z_iconst (a := nI 1) d_Mo_tray_29 (by decide) ?_
          refine z_Vi1 d_Mo_tray_30 k_Mo_85 (by first | assumption | exact zS0_at (by assumption) (by omega) | exact zS0_at rfl (by omega)) (t_Mo_no (by assumption)) ⟨Nat.le_of_ble_eq_true rfl, Nat.le_of_ble_eq_true rfl, Nat.le_of_ble_eq_true rfl, Nat.le_of_ble_eq_true rfl⟩ (Nat.le_of_ble_eq_true rfl) ?_
          intro r w hq
          obtain ⟨rfl, rfl⟩ := hq
          refine z_retz d_Mo_tray_33 (by first | exact zb0 | exact zb1 | assumption) ?_
          exact ⟨rfl, _, _, rfl, mqF_z h1 (by decide), mqJ_r, zu_same _ _ _ _⟩)
    · first
      | (simp (disch := omega) only [← nI_0, nI_leI, nI_ltI, nI_eq, not_true_eq_false, not_false_eq_true] at h11; done)
      | (simp (disch := omega) only [← nI_0, nI_leI, nI_ltI, nI_eq, not_true_eq_false, not_false_eq_true] at h11; omega)
      | contradiction
      | exact absurd h11 (Int32.not_lt.mpr (by assumption))
      | exact absurd h11 (Int32.not_le.mpr (by assumption))
      | exact absurd h11 (by decide)
      | exact absurd (by decide) h11
      | ( try simp (disch := omega) only [← nI_0, nI_leI, nI_ltI, nI_eq, not_true_eq_false, not_false_eq_true] at h11
          (try have h11b := zbit_n0.mp h11); (try have h11b := zbit_p0.mp h11)
          refine z_iload_1 d_Mo_tray_14 ?_
          refine z_iconst (a := nI 4) d_Mo_tray_15 (by decide) ?_
          refine z_icmp_ge (tgt := 28) d_Mo_tray_16 (by decide) (fun h16 => ?_) (fun h16 => ?_)
          · first
            | (simp (disch := omega) only [← nI_0, nI_leI, nI_ltI, nI_eq, not_true_eq_false, not_false_eq_true] at h16; done)
            | (simp (disch := omega) only [← nI_0, nI_leI, nI_ltI, nI_eq, not_true_eq_false, not_false_eq_true] at h16; omega)
            | contradiction
            | exact absurd h16 (Int32.not_lt.mpr (by assumption))
            | exact absurd h16 (Int32.not_le.mpr (by assumption))
            | exact absurd h16 (by decide)
            | exact absurd (by decide) h16
            | ( try simp (disch := omega) only [← nI_0, nI_leI, nI_ltI, nI_eq, not_true_eq_false, not_false_eq_true] at h16
                (try have h16b := zbit_n0.mp h16); (try have h16b := zbit_p0.mp h16)
                refine z_aload_0 d_Mo_tray_28 ?_
                refine z_iconst (a := nI 1) d_Mo_tray_29 (by decide) ?_
                refine z_Vi1 d_Mo_tray_30 k_Mo_85 (by first | assumption | exact zS0_at (by assumption) (by omega) | exact zS0_at rfl (by omega)) (t_Mo_no (by assumption)) ⟨Nat.le_of_ble_eq_true rfl, Nat.le_of_ble_eq_true rfl, Nat.le_of_ble_eq_true rfl, Nat.le_of_ble_eq_true rfl⟩ (Nat.le_of_ble_eq_true rfl) ?_
                intro r w hq
                obtain ⟨rfl, rfl⟩ := hq
                refine z_retz d_Mo_tray_33 (by first | exact zb0 | exact zb1 | assumption) ?_
                exact ⟨rfl, _, _, rfl, mqF_z h1 (by decide), mqJ_r, zu_same _ _ _ _⟩)
          · first
            | (simp (disch := omega) only [← nI_0, nI_leI, nI_ltI, nI_eq, not_true_eq_false, not_false_eq_true] at h16; done)
            | (simp (disch := omega) only [← nI_0, nI_leI, nI_ltI, nI_eq, not_true_eq_false, not_false_eq_true] at h16; omega)
            | contradiction
            | exact absurd h16 (Int32.not_lt.mpr (by assumption))
            | exact absurd h16 (Int32.not_le.mpr (by assumption))
            | exact absurd h16 (by decide)
            | exact absurd (by decide) h16
            | ( try simp (disch := omega) only [← nI_0, nI_leI, nI_ltI, nI_eq, not_true_eq_false, not_false_eq_true] at h16
                (try have h16b := zbit_n0.mp h16); (try have h16b := zbit_p0.mp h16)
                refine z_iload_2 d_Mo_tray_19 ?_
                refine z_if_lt (tgt := 28) d_Mo_tray_20 (by decide) (fun h20 => ?_) (fun h20 => ?_)
                · first
                  | (simp (disch := omega) only [← nI_0, nI_leI, nI_ltI, nI_eq, not_true_eq_false, not_false_eq_true] at h20; done)
                  | (simp (disch := omega) only [← nI_0, nI_leI, nI_ltI, nI_eq, not_true_eq_false, not_false_eq_true] at h20; omega)
                  | contradiction
                  | exact absurd h20 (Int32.not_lt.mpr (by assumption))
                  | exact absurd h20 (Int32.not_le.mpr (by assumption))
                  | exact absurd h20 (by decide)
                  | exact absurd (by decide) h20
                  | ( try simp (disch := omega) only [← nI_0, nI_leI, nI_ltI, nI_eq, not_true_eq_false, not_false_eq_true] at h20
                      (try have h20b := zbit_n0.mp h20); (try have h20b := zbit_p0.mp h20)
                      refine z_aload_0 d_Mo_tray_28 ?_
                      refine z_iconst (a := nI 1) d_Mo_tray_29 (by decide) ?_
                      refine z_Vi1 d_Mo_tray_30 k_Mo_85 (by first | assumption | exact zS0_at (by assumption) (by omega) | exact zS0_at rfl (by omega)) (t_Mo_no (by assumption)) ⟨Nat.le_of_ble_eq_true rfl, Nat.le_of_ble_eq_true rfl, Nat.le_of_ble_eq_true rfl, Nat.le_of_ble_eq_true rfl⟩ (Nat.le_of_ble_eq_true rfl) ?_
                      intro r w hq
                      obtain ⟨rfl, rfl⟩ := hq
                      refine z_retz d_Mo_tray_33 (by first | exact zb0 | exact zb1 | assumption) ?_
                      exact ⟨rfl, _, _, rfl, mqF_z h1 (by decide), mqJ_r, zu_same _ _ _ _⟩)
                · first
                  | (simp (disch := omega) only [← nI_0, nI_leI, nI_ltI, nI_eq, not_true_eq_false, not_false_eq_true] at h20; done)
                  | (simp (disch := omega) only [← nI_0, nI_leI, nI_ltI, nI_eq, not_true_eq_false, not_false_eq_true] at h20; omega)
                  | contradiction
                  | exact absurd h20 (Int32.not_lt.mpr (by assumption))
                  | exact absurd h20 (Int32.not_le.mpr (by assumption))
                  | exact absurd h20 (by decide)
                  | exact absurd (by decide) h20
                  | ( try simp (disch := omega) only [← nI_0, nI_leI, nI_ltI, nI_eq, not_true_eq_false, not_false_eq_true] at h20
                      (try have h20b := zbit_n0.mp h20); (try have h20b := zbit_p0.mp h20)
                      refine z_iload_2 d_Mo_tray_23 ?_
                      refine z_iconst (a := nI 3) d_Mo_tray_24 (by decide) ?_
                      refine z_icmp_le (tgt := 34) d_Mo_tray_25 (by decide) (fun h25 => ?_) (fun h25 => ?_)
                      · first
                        | (simp (disch := omega) only [← nI_0, nI_leI, nI_ltI, nI_eq, not_true_eq_false, not_false_eq_true] at h25; done)
                        | (simp (disch := omega) only [← nI_0, nI_leI, nI_ltI, nI_eq, not_true_eq_false, not_false_eq_true] at h25; omega)
                        | contradiction
                        | exact absurd h25 (Int32.not_lt.mpr (by assumption))
                        | exact absurd h25 (Int32.not_le.mpr (by assumption))
                        | exact absurd h25 (by decide)
                        | exact absurd (by decide) h25
                        | ( try simp (disch := omega) only [← nI_0, nI_leI, nI_ltI, nI_eq, not_true_eq_false, not_false_eq_true] at h25
                            (try have h25b := zbit_n0.mp h25); (try have h25b := zbit_p0.mp h25)
                            fail)
                      · first
                        | (simp (disch := omega) only [← nI_0, nI_leI, nI_ltI, nI_eq, not_true_eq_false, not_false_eq_true] at h25; done)
                        | (simp (disch := omega) only [← nI_0, nI_leI, nI_ltI, nI_eq, not_true_eq_false, not_false_eq_true] at h25; omega)
                        | contradiction
                        | exact absurd h25 (Int32.not_lt.mpr (by assumption))
                        | exact absurd h25 (Int32.not_le.mpr (by assumption))
                        | exact absurd h25 (by decide)
                        | exact absurd (by decide) h25
                        | ( try simp (disch := omega) only [← nI_0, nI_leI, nI_ltI, nI_eq, not_true_eq_false, not_false_eq_true] at h25
                            (try have h25b := zbit_n0.mp h25); (try have h25b := zbit_p0.mp h25)
                            refine z_aload_0 d_Mo_tray_28 ?_
                            refine z_iconst (a := nI 1) d_Mo_tray_29 (by decide) ?_
                            refine z_Vi1 d_Mo_tray_30 k_Mo_85 (by first | assumption | exact zS0_at (by assumption) (by omega) | exact zS0_at rfl (by omega)) (t_Mo_no (by assumption)) ⟨Nat.le_of_ble_eq_true rfl, Nat.le_of_ble_eq_true rfl, Nat.le_of_ble_eq_true rfl, Nat.le_of_ble_eq_true rfl⟩ (Nat.le_of_ble_eq_true rfl) ?_
                            intro r w hq
                            obtain ⟨rfl, rfl⟩ := hq
                            refine z_retz d_Mo_tray_33 (by first | exact zb0 | exact zb1 | assumption) ?_
                            exact ⟨rfl, _, _, rfl, mqF_z h1 (by decide), mqJ_r, zu_same _ _ _ _⟩))))
theorem t_Mo_tray_5 (M : modOk P S) (N : modIn I nt np nl nn) (ht : t < 4) (hk : k < 4) (hc : nI 60 < c) : zEi G y_Mo_tray prog_14_method_11_code 5 (some .boolean) 2 [.ref 145, .int (nI t), .int (nI k), .int c] (I, J, P, S) (fun r w => r = nI 0 ∧ mW I J P S 5 w) := by
  obtain ⟨M0, ⟨M4, M4s⟩, ⟨M5, M5s⟩, ⟨M6, M6s⟩, ⟨M7, M7s⟩, ⟨M20, M20s⟩, ⟨M21, M21s⟩, ⟨M22, M22s⟩, ⟨M26, M26s⟩, ⟨M27, M27s⟩, ⟨M28, M28s⟩, ⟨M30, M30s⟩, ⟨M34, M34s⟩, ⟨M36, M36s⟩, ⟨M37, M37s⟩⟩ := id M
  obtain ⟨I1, hI1, N1, h1, h0, e150, er, ek⟩ := mo_beg N
  refine zEi_of (lv := [some (.ref 145), some (.int (nI t)), some (.int (nI k)), some (.int c), none]) (by decide) rfl (Nat.le_of_ble_eq_true rfl) ?_
  refine z_aload_0 d_Mo_tray_0 ?_
  refine z_iconst (a := nI 0) d_Mo_tray_1 (by decide) ?_
  refine z_putI d_Mo_tray_2 f_Mo_70 (by first | assumption | exact zS0_at (by assumption) (by omega) | exact zS0_at rfl (by omega)) ?_
  refine z_aload_0 d_Mo_tray_5 ?_
  refine z_iconst (a := nI 0) d_Mo_tray_6 (by decide) ?_
  refine z_putI d_Mo_tray_7 f_Mo_73 (by first | assumption | exact zS0_at (by assumption) (by omega) | exact zS0_at rfl (by omega)) ?_
  rw [← hI1]
  refine z_iload_1 d_Mo_tray_10 ?_
  refine z_if_lt (tgt := 28) d_Mo_tray_11 (by decide) (fun h11 => ?_) (fun h11 => ?_)
  · first
    | (simp (disch := omega) only [← nI_0, nI_leI, nI_ltI, nI_eq, not_true_eq_false, not_false_eq_true] at h11; done)
    | (simp (disch := omega) only [← nI_0, nI_leI, nI_ltI, nI_eq, not_true_eq_false, not_false_eq_true] at h11; omega)
    | contradiction
    | exact absurd h11 (Int32.not_lt.mpr (by assumption))
    | exact absurd h11 (Int32.not_le.mpr (by assumption))
    | exact absurd h11 (by decide)
    | exact absurd (by decide) h11
    | ( try simp (disch := omega) only [← nI_0, nI_leI, nI_ltI, nI_eq, not_true_eq_false, not_false_eq_true] at h11
        (try have h11b := zbit_n0.mp h11); (try have h11b := zbit_p0.mp h11)
        refine z_aload_0 d_Mo_tray_28 ?_
        refine z_iconst (a := nI 1) d_Mo_tray_29 (by decide) ?_
        refine z_Vi1 d_Mo_tray_30 k_Mo_85 (by first | assumption | exact zS0_at (by assumption) (by omega) | exact zS0_at rfl (by omega)) (t_Mo_no (by assumption)) ⟨Nat.le_of_ble_eq_true rfl, Nat.le_of_ble_eq_true rfl, Nat.le_of_ble_eq_true rfl, Nat.le_of_ble_eq_true rfl⟩ (Nat.le_of_ble_eq_true rfl) ?_
        intro r w hq
        obtain ⟨rfl, rfl⟩ := hq
        refine z_retz d_Mo_tray_33 (by first | exact zb0 | exact zb1 | assumption) ?_
        exact ⟨rfl, _, _, rfl, mqF_z h1 (by decide), mqJ_r, zu_same _ _ _ _⟩)
  · first
    | (simp (disch := omega) only [← nI_0, nI_leI, nI_ltI, nI_eq, not_true_eq_false, not_false_eq_true] at h11; done)
    | (simp (disch := omega) only [← nI_0, nI_leI, nI_ltI, nI_eq, not_true_eq_false, not_false_eq_true] at h11; omega)
    | contradiction
    | exact absurd h11 (Int32.not_lt.mpr (by assumption))
    | exact absurd h11 (Int32.not_le.mpr (by assumption))
    | exact absurd h11 (by decide)
    | exact absurd (by decide) h11
    | ( try simp (disch := omega) only [← nI_0, nI_leI, nI_ltI, nI_eq, not_true_eq_false, not_false_eq_true] at h11
        (try have h11b := zbit_n0.mp h11); (try have h11b := zbit_p0.mp h11)
        refine z_iload_1 d_Mo_tray_14 ?_
        refine z_iconst (a := nI 4) d_Mo_tray_15 (by decide) ?_
        refine z_icmp_ge (tgt := 28) d_Mo_tray_16 (by decide) (fun h16 => ?_) (fun h16 => ?_)
        · first
          | (simp (disch := omega) only [← nI_0, nI_leI, nI_ltI, nI_eq, not_true_eq_false, not_false_eq_true] at h16; done)
          | (simp (disch := omega) only [← nI_0, nI_leI, nI_ltI, nI_eq, not_true_eq_false, not_false_eq_true] at h16; omega)
          | contradiction
          | exact absurd h16 (Int32.not_lt.mpr (by assumption))
          | exact absurd h16 (Int32.not_le.mpr (by assumption))
          | exact absurd h16 (by decide)
          | exact absurd (by decide) h16
          | ( try simp (disch := omega) only [← nI_0, nI_leI, nI_ltI, nI_eq, not_true_eq_false, not_false_eq_true] at h16
              (try have h16b := zbit_n0.mp h16); (try have h16b := zbit_p0.mp h16)
              refine z_aload_0 d_Mo_tray_28 ?_
              refine z_iconst (a := nI 1) d_Mo_tray_29 (by decide) ?_
              refine z_Vi1 d_Mo_tray_30 k_Mo_85 (by first | assumption | exact zS0_at (by assumption) (by omega) | exact zS0_at rfl (by omega)) (t_Mo_no (by assumption)) ⟨Nat.le_of_ble_eq_true rfl, Nat.le_of_ble_eq_true rfl, Nat.le_of_ble_eq_true rfl, Nat.le_of_ble_eq_true rfl⟩ (Nat.le_of_ble_eq_true rfl) ?_
              intro r w hq
              obtain ⟨rfl, rfl⟩ := hq
              refine z_retz d_Mo_tray_33 (by first | exact zb0 | exact zb1 | assumption) ?_
              exact ⟨rfl, _, _, rfl, mqF_z h1 (by decide), mqJ_r, zu_same _ _ _ _⟩)
        · first
          | (simp (disch := omega) only [← nI_0, nI_leI, nI_ltI, nI_eq, not_true_eq_false, not_false_eq_true] at h16; done)
          | (simp (disch := omega) only [← nI_0, nI_leI, nI_ltI, nI_eq, not_true_eq_false, not_false_eq_true] at h16; omega)
          | contradiction
          | exact absurd h16 (Int32.not_lt.mpr (by assumption))
          | exact absurd h16 (Int32.not_le.mpr (by assumption))
          | exact absurd h16 (by decide)
          | exact absurd (by decide) h16
          | ( try simp (disch := omega) only [← nI_0, nI_leI, nI_ltI, nI_eq, not_true_eq_false, not_false_eq_true] at h16
              (try have h16b := zbit_n0.mp h16); (try have h16b := zbit_p0.mp h16)
              refine z_iload_2 d_Mo_tray_19 ?_
              refine z_if_lt (tgt := 28) d_Mo_tray_20 (by decide) (fun h20 => ?_) (fun h20 => ?_)
              · first
                | (simp (disch := omega) only [← nI_0, nI_leI, nI_ltI, nI_eq, not_true_eq_false, not_false_eq_true] at h20; done)
                | (simp (disch := omega) only [← nI_0, nI_leI, nI_ltI, nI_eq, not_true_eq_false, not_false_eq_true] at h20; omega)
                | contradiction
                | exact absurd h20 (Int32.not_lt.mpr (by assumption))
                | exact absurd h20 (Int32.not_le.mpr (by assumption))
                | exact absurd h20 (by decide)
                | exact absurd (by decide) h20
                | ( try simp (disch := omega) only [← nI_0, nI_leI, nI_ltI, nI_eq, not_true_eq_false, not_false_eq_true] at h20
                    (try have h20b := zbit_n0.mp h20); (try have h20b := zbit_p0.mp h20)
                    refine z_aload_0 d_Mo_tray_28 ?_
                    refine z_iconst (a := nI 1) d_Mo_tray_29 (by decide) ?_
                    refine z_Vi1 d_Mo_tray_30 k_Mo_85 (by first | assumption | exact zS0_at (by assumption) (by omega) | exact zS0_at rfl (by omega)) (t_Mo_no (by assumption)) ⟨Nat.le_of_ble_eq_true rfl, Nat.le_of_ble_eq_true rfl, Nat.le_of_ble_eq_true rfl, Nat.le_of_ble_eq_true rfl⟩ (Nat.le_of_ble_eq_true rfl) ?_
                    intro r w hq
                    obtain ⟨rfl, rfl⟩ := hq
                    refine z_retz d_Mo_tray_33 (by first | exact zb0 | exact zb1 | assumption) ?_
                    exact ⟨rfl, _, _, rfl, mqF_z h1 (by decide), mqJ_r, zu_same _ _ _ _⟩)
              · first
                | (simp (disch := omega) only [← nI_0, nI_leI, nI_ltI, nI_eq, not_true_eq_false, not_false_eq_true] at h20; done)
                | (simp (disch := omega) only [← nI_0, nI_leI, nI_ltI, nI_eq, not_true_eq_false, not_false_eq_true] at h20; omega)
                | contradiction
                | exact absurd h20 (Int32.not_lt.mpr (by assumption))
                | exact absurd h20 (Int32.not_le.mpr (by assumption))
                | exact absurd h20 (by decide)
                | exact absurd (by decide) h20
                | ( try simp (disch := omega) only [← nI_0, nI_leI, nI_ltI, nI_eq, not_true_eq_false, not_false_eq_true] at h20
                    (try have h20b := zbit_n0.mp h20); (try have h20b := zbit_p0.mp h20)
                    refine z_iload_2 d_Mo_tray_23 ?_
                    refine z_iconst (a := nI 3) d_Mo_tray_24 (by decide) ?_
                    refine z_icmp_le (tgt := 34) d_Mo_tray_25 (by decide) (fun h25 => ?_) (fun h25 => ?_)
                    · first
                      | (simp (disch := omega) only [← nI_0, nI_leI, nI_ltI, nI_eq, not_true_eq_false, not_false_eq_true] at h25; done)
                      | (simp (disch := omega) only [← nI_0, nI_leI, nI_ltI, nI_eq, not_true_eq_false, not_false_eq_true] at h25; omega)
                      | contradiction
                      | exact absurd h25 (Int32.not_lt.mpr (by assumption))
                      | exact absurd h25 (Int32.not_le.mpr (by assumption))
                      | exact absurd h25 (by decide)
                      | exact absurd (by decide) h25
                      | ( try simp (disch := omega) only [← nI_0, nI_leI, nI_ltI, nI_eq, not_true_eq_false, not_false_eq_true] at h25
                          (try have h25b := zbit_n0.mp h25); (try have h25b := zbit_p0.mp h25)
                          refine z_iload_3 d_Mo_tray_34 ?_
                          refine z_bipush (a := nI 60) d_Mo_tray_35 (by decide) ?_
                          refine z_icmp_le (tgt := 46) d_Mo_tray_37 (by decide) (fun h37 => ?_) (fun h37 => ?_)
                          · first
                            | (simp (disch := omega) only [← nI_0, nI_leI, nI_ltI, nI_eq, not_true_eq_false, not_false_eq_true] at h37; done)
                            | (simp (disch := omega) only [← nI_0, nI_leI, nI_ltI, nI_eq, not_true_eq_false, not_false_eq_true] at h37; omega)
                            | contradiction
                            | exact absurd h37 (Int32.not_lt.mpr (by assumption))
                            | exact absurd h37 (Int32.not_le.mpr (by assumption))
                            | exact absurd h37 (by decide)
                            | exact absurd (by decide) h37
                            | ( try simp (disch := omega) only [← nI_0, nI_leI, nI_ltI, nI_eq, not_true_eq_false, not_false_eq_true] at h37
                                (try have h37b := zbit_n0.mp h37); (try have h37b := zbit_p0.mp h37)
                                fail)
                          · first
                            | (simp (disch := omega) only [← nI_0, nI_leI, nI_ltI, nI_eq, not_true_eq_false, not_false_eq_true] at h37; done)
                            | (simp (disch := omega) only [← nI_0, nI_leI, nI_ltI, nI_eq, not_true_eq_false, not_false_eq_true] at h37; omega)
                            | contradiction
                            | exact absurd h37 (Int32.not_lt.mpr (by assumption))
                            | exact absurd h37 (Int32.not_le.mpr (by assumption))
                            | exact absurd h37 (by decide)
                            | exact absurd (by decide) h37
                            | ( try simp (disch := omega) only [← nI_0, nI_leI, nI_ltI, nI_eq, not_true_eq_false, not_false_eq_true] at h37
                                (try have h37b := zbit_n0.mp h37); (try have h37b := zbit_p0.mp h37)
                                refine z_aload_0 d_Mo_tray_40 ?_
                                refine z_iconst (a := nI 5) d_Mo_tray_41 (by decide) ?_
                                refine z_Vi1 d_Mo_tray_42 k_Mo_85 (by first | assumption | exact zS0_at (by assumption) (by omega) | exact zS0_at rfl (by omega)) (t_Mo_no (by assumption)) ⟨Nat.le_of_ble_eq_true rfl, Nat.le_of_ble_eq_true rfl, Nat.le_of_ble_eq_true rfl, Nat.le_of_ble_eq_true rfl⟩ (Nat.le_of_ble_eq_true rfl) ?_
                                intro r w hq
                                obtain ⟨rfl, rfl⟩ := hq
                                refine z_retz d_Mo_tray_45 (by first | exact zb0 | exact zb1 | assumption) ?_
                                exact ⟨rfl, _, _, rfl, mqF_z h1 (by decide), mqJ_r, zu_same _ _ _ _⟩))
                    · first
                      | (simp (disch := omega) only [← nI_0, nI_leI, nI_ltI, nI_eq, not_true_eq_false, not_false_eq_true] at h25; done)
                      | (simp (disch := omega) only [← nI_0, nI_leI, nI_ltI, nI_eq, not_true_eq_false, not_false_eq_true] at h25; omega)
                      | contradiction
                      | exact absurd h25 (Int32.not_lt.mpr (by assumption))
                      | exact absurd h25 (Int32.not_le.mpr (by assumption))
                      | exact absurd h25 (by decide)
                      | exact absurd (by decide) h25
                      | ( try simp (disch := omega) only [← nI_0, nI_leI, nI_ltI, nI_eq, not_true_eq_false, not_false_eq_true] at h25
                          (try have h25b := zbit_n0.mp h25); (try have h25b := zbit_p0.mp h25)
                          refine z_aload_0 d_Mo_tray_28 ?_
                          refine z_iconst (a := nI 1) d_Mo_tray_29 (by decide) ?_
                          refine z_Vi1 d_Mo_tray_30 k_Mo_85 (by first | assumption | exact zS0_at (by assumption) (by omega) | exact zS0_at rfl (by omega)) (t_Mo_no (by assumption)) ⟨Nat.le_of_ble_eq_true rfl, Nat.le_of_ble_eq_true rfl, Nat.le_of_ble_eq_true rfl, Nat.le_of_ble_eq_true rfl⟩ (Nat.le_of_ble_eq_true rfl) ?_
                          intro r w hq
                          obtain ⟨rfl, rfl⟩ := hq
                          refine z_retz d_Mo_tray_33 (by first | exact zb0 | exact zb1 | assumption) ?_
                          exact ⟨rfl, _, _, rfl, mqF_z h1 (by decide), mqJ_r, zu_same _ _ _ _⟩))))
theorem t_Mo_tray_6 (M : modOk P S) (N : modIn I nt np nl nn) (ht : t < 4) (hk : k < 4) (hc : c < 0) : zEi G y_Mo_tray prog_14_method_11_code 5 (some .boolean) 2 [.ref 145, .int (nI t), .int (nI k), .int c] (I, J, P, S) (fun r w => r = nI 0 ∧ mW I J P S 6 w) := by
  obtain ⟨M0, ⟨M4, M4s⟩, ⟨M5, M5s⟩, ⟨M6, M6s⟩, ⟨M7, M7s⟩, ⟨M20, M20s⟩, ⟨M21, M21s⟩, ⟨M22, M22s⟩, ⟨M26, M26s⟩, ⟨M27, M27s⟩, ⟨M28, M28s⟩, ⟨M30, M30s⟩, ⟨M34, M34s⟩, ⟨M36, M36s⟩, ⟨M37, M37s⟩⟩ := id M
  obtain ⟨I1, hI1, N1, h1, h0, e150, er, ek⟩ := mo_beg N
  have hc2 : c ≤ nI 60 := Int32.le_of_lt (Int32.lt_trans hc (by decide))
  refine zEi_of (lv := [some (.ref 145), some (.int (nI t)), some (.int (nI k)), some (.int c), none]) (by decide) rfl (Nat.le_of_ble_eq_true rfl) ?_
  refine z_aload_0 d_Mo_tray_0 ?_
  refine z_iconst (a := nI 0) d_Mo_tray_1 (by decide) ?_
  refine z_putI d_Mo_tray_2 f_Mo_70 (by first | assumption | exact zS0_at (by assumption) (by omega) | exact zS0_at rfl (by omega)) ?_
  refine z_aload_0 d_Mo_tray_5 ?_
  refine z_iconst (a := nI 0) d_Mo_tray_6 (by decide) ?_
  refine z_putI d_Mo_tray_7 f_Mo_73 (by first | assumption | exact zS0_at (by assumption) (by omega) | exact zS0_at rfl (by omega)) ?_
  rw [← hI1]
  refine z_iload_1 d_Mo_tray_10 ?_
  refine z_if_lt (tgt := 28) d_Mo_tray_11 (by decide) (fun h11 => ?_) (fun h11 => ?_)
  · first
    | (simp (disch := omega) only [← nI_0, nI_leI, nI_ltI, nI_eq, not_true_eq_false, not_false_eq_true] at h11; done)
    | (simp (disch := omega) only [← nI_0, nI_leI, nI_ltI, nI_eq, not_true_eq_false, not_false_eq_true] at h11; omega)
    | contradiction
    | exact absurd h11 (Int32.not_lt.mpr (by assumption))
    | exact absurd h11 (Int32.not_le.mpr (by assumption))
    | exact absurd h11 (by decide)
    | exact absurd (by decide) h11
    | ( try simp (disch := omega) only [← nI_0, nI_leI, nI_ltI, nI_eq, not_true_eq_false, not_false_eq_true] at h11
        (try have h11b := zbit_n0.mp h11); (try have h11b := zbit_p0.mp h11)
        refine z_aload_0 d_Mo_tray_28 ?_
        refine z_iconst (a := nI 1) d_Mo_tray_29 (by decide) ?_
        refine z_Vi1 d_Mo_tray_30 k_Mo_85 (by first | assumption | exact zS0_at (by assumption) (by omega) | exact zS0_at rfl (by omega)) (t_Mo_no (by assumption)) ⟨Nat.le_of_ble_eq_true rfl, Nat.le_of_ble_eq_true rfl, Nat.le_of_ble_eq_true rfl, Nat.le_of_ble_eq_true rfl⟩ (Nat.le_of_ble_eq_true rfl) ?_
        intro r w hq
        obtain ⟨rfl, rfl⟩ := hq
        refine z_retz d_Mo_tray_33 (by first | exact zb0 | exact zb1 | assumption) ?_
        exact ⟨rfl, _, _, rfl, mqF_z h1 (by decide), mqJ_r, zu_same _ _ _ _⟩)
  · first
    | (simp (disch := omega) only [← nI_0, nI_leI, nI_ltI, nI_eq, not_true_eq_false, not_false_eq_true] at h11; done)
    | (simp (disch := omega) only [← nI_0, nI_leI, nI_ltI, nI_eq, not_true_eq_false, not_false_eq_true] at h11; omega)
    | contradiction
    | exact absurd h11 (Int32.not_lt.mpr (by assumption))
    | exact absurd h11 (Int32.not_le.mpr (by assumption))
    | exact absurd h11 (by decide)
    | exact absurd (by decide) h11
    | ( try simp (disch := omega) only [← nI_0, nI_leI, nI_ltI, nI_eq, not_true_eq_false, not_false_eq_true] at h11
        (try have h11b := zbit_n0.mp h11); (try have h11b := zbit_p0.mp h11)
        refine z_iload_1 d_Mo_tray_14 ?_
        refine z_iconst (a := nI 4) d_Mo_tray_15 (by decide) ?_
        refine z_icmp_ge (tgt := 28) d_Mo_tray_16 (by decide) (fun h16 => ?_) (fun h16 => ?_)
        · first
          | (simp (disch := omega) only [← nI_0, nI_leI, nI_ltI, nI_eq, not_true_eq_false, not_false_eq_true] at h16; done)
          | (simp (disch := omega) only [← nI_0, nI_leI, nI_ltI, nI_eq, not_true_eq_false, not_false_eq_true] at h16; omega)
          | contradiction
          | exact absurd h16 (Int32.not_lt.mpr (by assumption))
          | exact absurd h16 (Int32.not_le.mpr (by assumption))
          | exact absurd h16 (by decide)
          | exact absurd (by decide) h16
          | ( try simp (disch := omega) only [← nI_0, nI_leI, nI_ltI, nI_eq, not_true_eq_false, not_false_eq_true] at h16
              (try have h16b := zbit_n0.mp h16); (try have h16b := zbit_p0.mp h16)
              refine z_aload_0 d_Mo_tray_28 ?_
              refine z_iconst (a := nI 1) d_Mo_tray_29 (by decide) ?_
              refine z_Vi1 d_Mo_tray_30 k_Mo_85 (by first | assumption | exact zS0_at (by assumption) (by omega) | exact zS0_at rfl (by omega)) (t_Mo_no (by assumption)) ⟨Nat.le_of_ble_eq_true rfl, Nat.le_of_ble_eq_true rfl, Nat.le_of_ble_eq_true rfl, Nat.le_of_ble_eq_true rfl⟩ (Nat.le_of_ble_eq_true rfl) ?_
              intro r w hq
              obtain ⟨rfl, rfl⟩ := hq
              refine z_retz d_Mo_tray_33 (by first | exact zb0 | exact zb1 | assumption) ?_
              exact ⟨rfl, _, _, rfl, mqF_z h1 (by decide), mqJ_r, zu_same _ _ _ _⟩)
        · first
          | (simp (disch := omega) only [← nI_0, nI_leI, nI_ltI, nI_eq, not_true_eq_false, not_false_eq_true] at h16; done)
          | (simp (disch := omega) only [← nI_0, nI_leI, nI_ltI, nI_eq, not_true_eq_false, not_false_eq_true] at h16; omega)
          | contradiction
          | exact absurd h16 (Int32.not_lt.mpr (by assumption))
          | exact absurd h16 (Int32.not_le.mpr (by assumption))
          | exact absurd h16 (by decide)
          | exact absurd (by decide) h16
          | ( try simp (disch := omega) only [← nI_0, nI_leI, nI_ltI, nI_eq, not_true_eq_false, not_false_eq_true] at h16
              (try have h16b := zbit_n0.mp h16); (try have h16b := zbit_p0.mp h16)
              refine z_iload_2 d_Mo_tray_19 ?_
              refine z_if_lt (tgt := 28) d_Mo_tray_20 (by decide) (fun h20 => ?_) (fun h20 => ?_)
              · first
                | (simp (disch := omega) only [← nI_0, nI_leI, nI_ltI, nI_eq, not_true_eq_false, not_false_eq_true] at h20; done)
                | (simp (disch := omega) only [← nI_0, nI_leI, nI_ltI, nI_eq, not_true_eq_false, not_false_eq_true] at h20; omega)
                | contradiction
                | exact absurd h20 (Int32.not_lt.mpr (by assumption))
                | exact absurd h20 (Int32.not_le.mpr (by assumption))
                | exact absurd h20 (by decide)
                | exact absurd (by decide) h20
                | ( try simp (disch := omega) only [← nI_0, nI_leI, nI_ltI, nI_eq, not_true_eq_false, not_false_eq_true] at h20
                    (try have h20b := zbit_n0.mp h20); (try have h20b := zbit_p0.mp h20)
                    refine z_aload_0 d_Mo_tray_28 ?_
                    refine z_iconst (a := nI 1) d_Mo_tray_29 (by decide) ?_
                    refine z_Vi1 d_Mo_tray_30 k_Mo_85 (by first | assumption | exact zS0_at (by assumption) (by omega) | exact zS0_at rfl (by omega)) (t_Mo_no (by assumption)) ⟨Nat.le_of_ble_eq_true rfl, Nat.le_of_ble_eq_true rfl, Nat.le_of_ble_eq_true rfl, Nat.le_of_ble_eq_true rfl⟩ (Nat.le_of_ble_eq_true rfl) ?_
                    intro r w hq
                    obtain ⟨rfl, rfl⟩ := hq
                    refine z_retz d_Mo_tray_33 (by first | exact zb0 | exact zb1 | assumption) ?_
                    exact ⟨rfl, _, _, rfl, mqF_z h1 (by decide), mqJ_r, zu_same _ _ _ _⟩)
              · first
                | (simp (disch := omega) only [← nI_0, nI_leI, nI_ltI, nI_eq, not_true_eq_false, not_false_eq_true] at h20; done)
                | (simp (disch := omega) only [← nI_0, nI_leI, nI_ltI, nI_eq, not_true_eq_false, not_false_eq_true] at h20; omega)
                | contradiction
                | exact absurd h20 (Int32.not_lt.mpr (by assumption))
                | exact absurd h20 (Int32.not_le.mpr (by assumption))
                | exact absurd h20 (by decide)
                | exact absurd (by decide) h20
                | ( try simp (disch := omega) only [← nI_0, nI_leI, nI_ltI, nI_eq, not_true_eq_false, not_false_eq_true] at h20
                    (try have h20b := zbit_n0.mp h20); (try have h20b := zbit_p0.mp h20)
                    refine z_iload_2 d_Mo_tray_23 ?_
                    refine z_iconst (a := nI 3) d_Mo_tray_24 (by decide) ?_
                    refine z_icmp_le (tgt := 34) d_Mo_tray_25 (by decide) (fun h25 => ?_) (fun h25 => ?_)
                    · first
                      | (simp (disch := omega) only [← nI_0, nI_leI, nI_ltI, nI_eq, not_true_eq_false, not_false_eq_true] at h25; done)
                      | (simp (disch := omega) only [← nI_0, nI_leI, nI_ltI, nI_eq, not_true_eq_false, not_false_eq_true] at h25; omega)
                      | contradiction
                      | exact absurd h25 (Int32.not_lt.mpr (by assumption))
                      | exact absurd h25 (Int32.not_le.mpr (by assumption))
                      | exact absurd h25 (by decide)
                      | exact absurd (by decide) h25
                      | ( try simp (disch := omega) only [← nI_0, nI_leI, nI_ltI, nI_eq, not_true_eq_false, not_false_eq_true] at h25
                          (try have h25b := zbit_n0.mp h25); (try have h25b := zbit_p0.mp h25)
                          refine z_iload_3 d_Mo_tray_34 ?_
                          refine z_bipush (a := nI 60) d_Mo_tray_35 (by decide) ?_
                          refine z_icmp_le (tgt := 46) d_Mo_tray_37 (by decide) (fun h37 => ?_) (fun h37 => ?_)
                          · first
                            | (simp (disch := omega) only [← nI_0, nI_leI, nI_ltI, nI_eq, not_true_eq_false, not_false_eq_true] at h37; done)
                            | (simp (disch := omega) only [← nI_0, nI_leI, nI_ltI, nI_eq, not_true_eq_false, not_false_eq_true] at h37; omega)
                            | contradiction
                            | exact absurd h37 (Int32.not_lt.mpr (by assumption))
                            | exact absurd h37 (Int32.not_le.mpr (by assumption))
                            | exact absurd h37 (by decide)
                            | exact absurd (by decide) h37
                            | ( try simp (disch := omega) only [← nI_0, nI_leI, nI_ltI, nI_eq, not_true_eq_false, not_false_eq_true] at h37
                                (try have h37b := zbit_n0.mp h37); (try have h37b := zbit_p0.mp h37)
                                refine z_iload_3 d_Mo_tray_46 ?_
                                refine z_if_ge (tgt := 57) d_Mo_tray_47 (by decide) (fun h47 => ?_) (fun h47 => ?_)
                                · first
                                  | (simp (disch := omega) only [← nI_0, nI_leI, nI_ltI, nI_eq, not_true_eq_false, not_false_eq_true] at h47; done)
                                  | (simp (disch := omega) only [← nI_0, nI_leI, nI_ltI, nI_eq, not_true_eq_false, not_false_eq_true] at h47; omega)
                                  | contradiction
                                  | exact absurd h47 (Int32.not_lt.mpr (by assumption))
                                  | exact absurd h47 (Int32.not_le.mpr (by assumption))
                                  | exact absurd h47 (by decide)
                                  | exact absurd (by decide) h47
                                  | ( try simp (disch := omega) only [← nI_0, nI_leI, nI_ltI, nI_eq, not_true_eq_false, not_false_eq_true] at h47
                                      (try have h47b := zbit_n0.mp h47); (try have h47b := zbit_p0.mp h47)
                                      fail)
                                · first
                                  | (simp (disch := omega) only [← nI_0, nI_leI, nI_ltI, nI_eq, not_true_eq_false, not_false_eq_true] at h47; done)
                                  | (simp (disch := omega) only [← nI_0, nI_leI, nI_ltI, nI_eq, not_true_eq_false, not_false_eq_true] at h47; omega)
                                  | contradiction
                                  | exact absurd h47 (Int32.not_lt.mpr (by assumption))
                                  | exact absurd h47 (Int32.not_le.mpr (by assumption))
                                  | exact absurd h47 (by decide)
                                  | exact absurd (by decide) h47
                                  | ( try simp (disch := omega) only [← nI_0, nI_leI, nI_ltI, nI_eq, not_true_eq_false, not_false_eq_true] at h47
                                      (try have h47b := zbit_n0.mp h47); (try have h47b := zbit_p0.mp h47)
                                      refine z_aload_0 d_Mo_tray_50 ?_
                                      refine z_bipush (a := nI 6) d_Mo_tray_51 (by decide) ?_
                                      refine z_Vi1 d_Mo_tray_53 k_Mo_85 (by first | assumption | exact zS0_at (by assumption) (by omega) | exact zS0_at rfl (by omega)) (t_Mo_no (by assumption)) ⟨Nat.le_of_ble_eq_true rfl, Nat.le_of_ble_eq_true rfl, Nat.le_of_ble_eq_true rfl, Nat.le_of_ble_eq_true rfl⟩ (Nat.le_of_ble_eq_true rfl) ?_
                                      intro r w hq
                                      obtain ⟨rfl, rfl⟩ := hq
                                      refine z_retz d_Mo_tray_56 (by first | exact zb0 | exact zb1 | assumption) ?_
                                      exact ⟨rfl, _, _, rfl, mqF_z h1 (by decide), mqJ_r, zu_same _ _ _ _⟩))
                          · first
                            | (simp (disch := omega) only [← nI_0, nI_leI, nI_ltI, nI_eq, not_true_eq_false, not_false_eq_true] at h37; done)
                            | (simp (disch := omega) only [← nI_0, nI_leI, nI_ltI, nI_eq, not_true_eq_false, not_false_eq_true] at h37; omega)
                            | contradiction
                            | exact absurd h37 (Int32.not_lt.mpr (by assumption))
                            | exact absurd h37 (Int32.not_le.mpr (by assumption))
                            | exact absurd h37 (by decide)
                            | exact absurd (by decide) h37
                            | ( try simp (disch := omega) only [← nI_0, nI_leI, nI_ltI, nI_eq, not_true_eq_false, not_false_eq_true] at h37
                                (try have h37b := zbit_n0.mp h37); (try have h37b := zbit_p0.mp h37)
                                refine z_aload_0 d_Mo_tray_40 ?_
                                refine z_iconst (a := nI 5) d_Mo_tray_41 (by decide) ?_
                                refine z_Vi1 d_Mo_tray_42 k_Mo_85 (by first | assumption | exact zS0_at (by assumption) (by omega) | exact zS0_at rfl (by omega)) (t_Mo_no (by assumption)) ⟨Nat.le_of_ble_eq_true rfl, Nat.le_of_ble_eq_true rfl, Nat.le_of_ble_eq_true rfl, Nat.le_of_ble_eq_true rfl⟩ (Nat.le_of_ble_eq_true rfl) ?_
                                intro r w hq
                                obtain ⟨rfl, rfl⟩ := hq
                                refine z_retz d_Mo_tray_45 (by first | exact zb0 | exact zb1 | assumption) ?_
                                exact ⟨rfl, _, _, rfl, mqF_z h1 (by decide), mqJ_r, zu_same _ _ _ _⟩))
                    · first
                      | (simp (disch := omega) only [← nI_0, nI_leI, nI_ltI, nI_eq, not_true_eq_false, not_false_eq_true] at h25; done)
                      | (simp (disch := omega) only [← nI_0, nI_leI, nI_ltI, nI_eq, not_true_eq_false, not_false_eq_true] at h25; omega)
                      | contradiction
                      | exact absurd h25 (Int32.not_lt.mpr (by assumption))
                      | exact absurd h25 (Int32.not_le.mpr (by assumption))
                      | exact absurd h25 (by decide)
                      | exact absurd (by decide) h25
                      | ( try simp (disch := omega) only [← nI_0, nI_leI, nI_ltI, nI_eq, not_true_eq_false, not_false_eq_true] at h25
                          (try have h25b := zbit_n0.mp h25); (try have h25b := zbit_p0.mp h25)
                          refine z_aload_0 d_Mo_tray_28 ?_
                          refine z_iconst (a := nI 1) d_Mo_tray_29 (by decide) ?_
                          refine z_Vi1 d_Mo_tray_30 k_Mo_85 (by first | assumption | exact zS0_at (by assumption) (by omega) | exact zS0_at rfl (by omega)) (t_Mo_no (by assumption)) ⟨Nat.le_of_ble_eq_true rfl, Nat.le_of_ble_eq_true rfl, Nat.le_of_ble_eq_true rfl, Nat.le_of_ble_eq_true rfl⟩ (Nat.le_of_ble_eq_true rfl) ?_
                          intro r w hq
                          obtain ⟨rfl, rfl⟩ := hq
                          refine z_retz d_Mo_tray_33 (by first | exact zb0 | exact zb1 | assumption) ?_
                          exact ⟨rfl, _, _, rfl, mqF_z h1 (by decide), mqJ_r, zu_same _ _ _ _⟩))))
theorem t_Mo_tray (M : modOk P S) (N : modIn I nt np nl nn) (ht : t < 4) (hk : k < 4) (hl : l ≤ 60) : zEi G y_Mo_tray prog_14_method_11_code 5 (some .boolean) 2 [.ref 145, .int (nI t), .int (nI k), .int (nI l)] (I, J, P, S) (fun r w => r = nI 1 ∧ ∃ I1, mD I I1 ∧ w = (zu (zu I1 146 t (nI k)) 147 t (nI l), zfr J 148 (60 * t) l (lN 0), P, S)) := by
  obtain ⟨M0, ⟨M4, M4s⟩, ⟨M5, M5s⟩, ⟨M6, M6s⟩, ⟨M7, M7s⟩, ⟨M20, M20s⟩, ⟨M21, M21s⟩, ⟨M22, M22s⟩, ⟨M26, M26s⟩, ⟨M27, M27s⟩, ⟨M28, M28s⟩, ⟨M30, M30s⟩, ⟨M34, M34s⟩, ⟨M36, M36s⟩, ⟨M37, M37s⟩⟩ := id M
  obtain ⟨I1, hI1, N1, h1, h0, e150, er, ek⟩ := mo_beg N
  have hD : mD I I1 := ⟨h1, h0, e150, er⟩
  refine zEi_of (lv := [some (.ref 145), some (.int (nI t)), some (.int (nI k)), some (.int (nI l)), none]) (by decide) rfl (Nat.le_of_ble_eq_true rfl) ?_
  have loop : ∀ m j, l - j < m → j ≤ l → zA G y_Mo_tray prog_14_method_11_code 5 (some .boolean) (zRm 2 0 0) (zM G 0 0 (fun r w' => ∃ x, r = some (.int x) ∧ (fun r w => r = nI 1 ∧ ∃ I1, mD I I1 ∧ w = (zu (zu I1 146 t (nI k)) 147 t (nI l), zfr J 148 (60 * t) l (lN 0), P, S)) x w')) 74 [some (.ref 145), some (.int (nI t)), some (.int (nI k)), some (.int (nI l)), some (.int (nI j))] [] (zu (zu I1 146 t (nI k)) 147 t (nI l), zfr J 148 (60 * t) j (lN 0), P, S) 0 0 := by
    intro m
    induction m with
    | zero => intro j h; omega
    | succ m ih =>
      intro j hm hj
      refine z_iload_4 d_Mo_tray_74 ?_
      refine z_iload_3 d_Mo_tray_76 ?_
      refine z_icmp_ge (tgt := 99) d_Mo_tray_77 (by decide) (fun hb => ?_) (fun hb => ?_)
      · have hb := (nI_leI (by omega) (by omega)).mp hb
        obtain rfl : j = l := by omega
        refine z_iconst (a := nI 1) d_Mo_tray_99 (by decide) ?_
        refine z_retz d_Mo_tray_100 (by first | exact zb0 | exact zb1 | assumption) ?_
        exact ⟨rfl, I1, hD, rfl⟩
      · have hb : j < l := Nat.lt_of_not_le (fun q => hb (nI_le q (by omega)))
        refine z_aload_0 d_Mo_tray_80 ?_
        refine z_getR d_Mo_tray_81 f_Mo_20 (by first | assumption | exact zS0_at (by assumption) (by omega) | exact zS0_at rfl (by omega)) (by first | assumption | exact zS0_at (by assumption) (by omega) | exact zS0_at rfl (by omega)) ?_
        refine z_bipush (a := nI 60) d_Mo_tray_84 (by decide) ?_
        refine z_iload_1 d_Mo_tray_86 ?_
        first | refine z_imulN d_Mo_tray_87 ?_ | refine z_imul d_Mo_tray_87 ?_
        refine z_iload_4 d_Mo_tray_88 ?_
        first | refine z_iaddN d_Mo_tray_90 ?_ | refine z_iadd d_Mo_tray_90 ?_
        refine z_lconst (f := lN 0) d_Mo_tray_91 rfl ?_
        refine z_lastN d_Mo_tray_92 (by assumption) (by omega) (by decide) ?_
        rw [zfr_s]
        first | refine z_iinc_4 d_Mo_tray_93 rfl (zi_inc _) ?_ | refine z_iinc_4 d_Mo_tray_93 rfl rfl ?_
        refine z_goto (tgt := 74) d_Mo_tray_96 (by decide) ?_
        exact ih (j + 1) (by omega) (by omega)
  refine z_aload_0 d_Mo_tray_0 ?_
  refine z_iconst (a := nI 0) d_Mo_tray_1 (by decide) ?_
  refine z_putI d_Mo_tray_2 f_Mo_70 (by first | assumption | exact zS0_at (by assumption) (by omega) | exact zS0_at rfl (by omega)) ?_
  refine z_aload_0 d_Mo_tray_5 ?_
  refine z_iconst (a := nI 0) d_Mo_tray_6 (by decide) ?_
  refine z_putI d_Mo_tray_7 f_Mo_73 (by first | assumption | exact zS0_at (by assumption) (by omega) | exact zS0_at rfl (by omega)) ?_
  rw [← hI1]
  have q := loop (l + 1) 0 (by omega) (by omega)
  rw [zfr_0] at q
  refine z_iload_1 d_Mo_tray_10 ?_
  refine z_if_lt (tgt := 28) d_Mo_tray_11 (by decide) (fun h11 => ?_) (fun h11 => ?_)
  · first
    | (simp (disch := omega) only [← nI_0, nI_leI, nI_ltI, nI_eq, not_true_eq_false, not_false_eq_true] at h11; done)
    | (simp (disch := omega) only [← nI_0, nI_leI, nI_ltI, nI_eq, not_true_eq_false, not_false_eq_true] at h11; omega)
    | contradiction
    | exact absurd h11 (Int32.not_lt.mpr (by assumption))
    | exact absurd h11 (Int32.not_le.mpr (by assumption))
    | exact absurd h11 (by decide)
    | exact absurd (by decide) h11
    | ( try simp (disch := omega) only [← nI_0, nI_leI, nI_ltI, nI_eq, not_true_eq_false, not_false_eq_true] at h11
        (try have h11b := zbit_n0.mp h11); (try have h11b := zbit_p0.mp h11)
        refine z_aload_0 d_Mo_tray_28 ?_
        refine z_iconst (a := nI 1) d_Mo_tray_29 (by decide) ?_
        refine z_Vi1 d_Mo_tray_30 k_Mo_85 (by first | assumption | exact zS0_at (by assumption) (by omega) | exact zS0_at rfl (by omega)) (t_Mo_no (by assumption)) ⟨Nat.le_of_ble_eq_true rfl, Nat.le_of_ble_eq_true rfl, Nat.le_of_ble_eq_true rfl, Nat.le_of_ble_eq_true rfl⟩ (Nat.le_of_ble_eq_true rfl) ?_
        intro r w hq
        obtain ⟨rfl, rfl⟩ := hq
        refine z_retz d_Mo_tray_33 (by first | exact zb0 | exact zb1 | assumption) ?_
        exact ⟨rfl, rfl⟩)
  · first
    | (simp (disch := omega) only [← nI_0, nI_leI, nI_ltI, nI_eq, not_true_eq_false, not_false_eq_true] at h11; done)
    | (simp (disch := omega) only [← nI_0, nI_leI, nI_ltI, nI_eq, not_true_eq_false, not_false_eq_true] at h11; omega)
    | contradiction
    | exact absurd h11 (Int32.not_lt.mpr (by assumption))
    | exact absurd h11 (Int32.not_le.mpr (by assumption))
    | exact absurd h11 (by decide)
    | exact absurd (by decide) h11
    | ( try simp (disch := omega) only [← nI_0, nI_leI, nI_ltI, nI_eq, not_true_eq_false, not_false_eq_true] at h11
        (try have h11b := zbit_n0.mp h11); (try have h11b := zbit_p0.mp h11)
        refine z_iload_1 d_Mo_tray_14 ?_
        refine z_iconst (a := nI 4) d_Mo_tray_15 (by decide) ?_
        refine z_icmp_ge (tgt := 28) d_Mo_tray_16 (by decide) (fun h16 => ?_) (fun h16 => ?_)
        · first
          | (simp (disch := omega) only [← nI_0, nI_leI, nI_ltI, nI_eq, not_true_eq_false, not_false_eq_true] at h16; done)
          | (simp (disch := omega) only [← nI_0, nI_leI, nI_ltI, nI_eq, not_true_eq_false, not_false_eq_true] at h16; omega)
          | contradiction
          | exact absurd h16 (Int32.not_lt.mpr (by assumption))
          | exact absurd h16 (Int32.not_le.mpr (by assumption))
          | exact absurd h16 (by decide)
          | exact absurd (by decide) h16
          | ( try simp (disch := omega) only [← nI_0, nI_leI, nI_ltI, nI_eq, not_true_eq_false, not_false_eq_true] at h16
              (try have h16b := zbit_n0.mp h16); (try have h16b := zbit_p0.mp h16)
              refine z_aload_0 d_Mo_tray_28 ?_
              refine z_iconst (a := nI 1) d_Mo_tray_29 (by decide) ?_
              refine z_Vi1 d_Mo_tray_30 k_Mo_85 (by first | assumption | exact zS0_at (by assumption) (by omega) | exact zS0_at rfl (by omega)) (t_Mo_no (by assumption)) ⟨Nat.le_of_ble_eq_true rfl, Nat.le_of_ble_eq_true rfl, Nat.le_of_ble_eq_true rfl, Nat.le_of_ble_eq_true rfl⟩ (Nat.le_of_ble_eq_true rfl) ?_
              intro r w hq
              obtain ⟨rfl, rfl⟩ := hq
              refine z_retz d_Mo_tray_33 (by first | exact zb0 | exact zb1 | assumption) ?_
              exact ⟨rfl, rfl⟩)
        · first
          | (simp (disch := omega) only [← nI_0, nI_leI, nI_ltI, nI_eq, not_true_eq_false, not_false_eq_true] at h16; done)
          | (simp (disch := omega) only [← nI_0, nI_leI, nI_ltI, nI_eq, not_true_eq_false, not_false_eq_true] at h16; omega)
          | contradiction
          | exact absurd h16 (Int32.not_lt.mpr (by assumption))
          | exact absurd h16 (Int32.not_le.mpr (by assumption))
          | exact absurd h16 (by decide)
          | exact absurd (by decide) h16
          | ( try simp (disch := omega) only [← nI_0, nI_leI, nI_ltI, nI_eq, not_true_eq_false, not_false_eq_true] at h16
              (try have h16b := zbit_n0.mp h16); (try have h16b := zbit_p0.mp h16)
              refine z_iload_2 d_Mo_tray_19 ?_
              refine z_if_lt (tgt := 28) d_Mo_tray_20 (by decide) (fun h20 => ?_) (fun h20 => ?_)
              · first
                | (simp (disch := omega) only [← nI_0, nI_leI, nI_ltI, nI_eq, not_true_eq_false, not_false_eq_true] at h20; done)
                | (simp (disch := omega) only [← nI_0, nI_leI, nI_ltI, nI_eq, not_true_eq_false, not_false_eq_true] at h20; omega)
                | contradiction
                | exact absurd h20 (Int32.not_lt.mpr (by assumption))
                | exact absurd h20 (Int32.not_le.mpr (by assumption))
                | exact absurd h20 (by decide)
                | exact absurd (by decide) h20
                | ( try simp (disch := omega) only [← nI_0, nI_leI, nI_ltI, nI_eq, not_true_eq_false, not_false_eq_true] at h20
                    (try have h20b := zbit_n0.mp h20); (try have h20b := zbit_p0.mp h20)
                    refine z_aload_0 d_Mo_tray_28 ?_
                    refine z_iconst (a := nI 1) d_Mo_tray_29 (by decide) ?_
                    refine z_Vi1 d_Mo_tray_30 k_Mo_85 (by first | assumption | exact zS0_at (by assumption) (by omega) | exact zS0_at rfl (by omega)) (t_Mo_no (by assumption)) ⟨Nat.le_of_ble_eq_true rfl, Nat.le_of_ble_eq_true rfl, Nat.le_of_ble_eq_true rfl, Nat.le_of_ble_eq_true rfl⟩ (Nat.le_of_ble_eq_true rfl) ?_
                    intro r w hq
                    obtain ⟨rfl, rfl⟩ := hq
                    refine z_retz d_Mo_tray_33 (by first | exact zb0 | exact zb1 | assumption) ?_
                    exact ⟨rfl, rfl⟩)
              · first
                | (simp (disch := omega) only [← nI_0, nI_leI, nI_ltI, nI_eq, not_true_eq_false, not_false_eq_true] at h20; done)
                | (simp (disch := omega) only [← nI_0, nI_leI, nI_ltI, nI_eq, not_true_eq_false, not_false_eq_true] at h20; omega)
                | contradiction
                | exact absurd h20 (Int32.not_lt.mpr (by assumption))
                | exact absurd h20 (Int32.not_le.mpr (by assumption))
                | exact absurd h20 (by decide)
                | exact absurd (by decide) h20
                | ( try simp (disch := omega) only [← nI_0, nI_leI, nI_ltI, nI_eq, not_true_eq_false, not_false_eq_true] at h20
                    (try have h20b := zbit_n0.mp h20); (try have h20b := zbit_p0.mp h20)
                    refine z_iload_2 d_Mo_tray_23 ?_
                    refine z_iconst (a := nI 3) d_Mo_tray_24 (by decide) ?_
                    refine z_icmp_le (tgt := 34) d_Mo_tray_25 (by decide) (fun h25 => ?_) (fun h25 => ?_)
                    · first
                      | (simp (disch := omega) only [← nI_0, nI_leI, nI_ltI, nI_eq, not_true_eq_false, not_false_eq_true] at h25; done)
                      | (simp (disch := omega) only [← nI_0, nI_leI, nI_ltI, nI_eq, not_true_eq_false, not_false_eq_true] at h25; omega)
                      | contradiction
                      | exact absurd h25 (Int32.not_lt.mpr (by assumption))
                      | exact absurd h25 (Int32.not_le.mpr (by assumption))
                      | exact absurd h25 (by decide)
                      | exact absurd (by decide) h25
                      | ( try simp (disch := omega) only [← nI_0, nI_leI, nI_ltI, nI_eq, not_true_eq_false, not_false_eq_true] at h25
                          (try have h25b := zbit_n0.mp h25); (try have h25b := zbit_p0.mp h25)
                          refine z_iload_3 d_Mo_tray_34 ?_
                          refine z_bipush (a := nI 60) d_Mo_tray_35 (by decide) ?_
                          refine z_icmp_le (tgt := 46) d_Mo_tray_37 (by decide) (fun h37 => ?_) (fun h37 => ?_)
                          · first
                            | (simp (disch := omega) only [← nI_0, nI_leI, nI_ltI, nI_eq, not_true_eq_false, not_false_eq_true] at h37; done)
                            | (simp (disch := omega) only [← nI_0, nI_leI, nI_ltI, nI_eq, not_true_eq_false, not_false_eq_true] at h37; omega)
                            | contradiction
                            | exact absurd h37 (Int32.not_lt.mpr (by assumption))
                            | exact absurd h37 (Int32.not_le.mpr (by assumption))
                            | exact absurd h37 (by decide)
                            | exact absurd (by decide) h37
                            | ( try simp (disch := omega) only [← nI_0, nI_leI, nI_ltI, nI_eq, not_true_eq_false, not_false_eq_true] at h37
                                (try have h37b := zbit_n0.mp h37); (try have h37b := zbit_p0.mp h37)
                                refine z_iload_3 d_Mo_tray_46 ?_
                                refine z_if_ge (tgt := 57) d_Mo_tray_47 (by decide) (fun h47 => ?_) (fun h47 => ?_)
                                · first
                                  | (simp (disch := omega) only [← nI_0, nI_leI, nI_ltI, nI_eq, not_true_eq_false, not_false_eq_true] at h47; done)
                                  | (simp (disch := omega) only [← nI_0, nI_leI, nI_ltI, nI_eq, not_true_eq_false, not_false_eq_true] at h47; omega)
                                  | contradiction
                                  | exact absurd h47 (Int32.not_lt.mpr (by assumption))
                                  | exact absurd h47 (Int32.not_le.mpr (by assumption))
                                  | exact absurd h47 (by decide)
                                  | exact absurd (by decide) h47
                                  | ( try simp (disch := omega) only [← nI_0, nI_leI, nI_ltI, nI_eq, not_true_eq_false, not_false_eq_true] at h47
                                      (try have h47b := zbit_n0.mp h47); (try have h47b := zbit_p0.mp h47)
                                      refine z_aload_0 d_Mo_tray_57 ?_
                                      refine z_getR d_Mo_tray_58 f_Mo_13 (by first | assumption | exact zS0_at (by assumption) (by omega) | exact zS0_at rfl (by omega)) (by first | assumption | exact zS0_at (by assumption) (by omega) | exact zS0_at rfl (by omega)) ?_
                                      refine z_iload_1 d_Mo_tray_61 ?_
                                      refine z_iload_2 d_Mo_tray_62 ?_
                                      first | refine z_iastN d_Mo_tray_63 (by first | assumption | exact zS0_at (by assumption) (by omega) | exact zS0_at rfl (by omega)) (by omega) (by first | decide | omega) ?_ | refine z_iast d_Mo_tray_63 (by first | assumption | exact zS0_at (by assumption) (by omega) | exact zS0_at rfl (by omega)) (by first | assumption | exact zS0_at (by assumption) (by omega) | exact zS0_at rfl (by omega)) ?_
                                      refine z_aload_0 d_Mo_tray_64 ?_
                                      refine z_getR d_Mo_tray_65 f_Mo_17 (by first | assumption | exact zS0_at (by assumption) (by omega) | exact zS0_at rfl (by omega)) (by first | assumption | exact zS0_at (by assumption) (by omega) | exact zS0_at rfl (by omega)) ?_
                                      refine z_iload_1 d_Mo_tray_68 ?_
                                      refine z_iload_3 d_Mo_tray_69 ?_
                                      first | refine z_iastN d_Mo_tray_70 (by first | assumption | exact zS0_at (by assumption) (by omega) | exact zS0_at rfl (by omega)) (by omega) (by first | decide | omega) ?_ | refine z_iast d_Mo_tray_70 (by first | assumption | exact zS0_at (by assumption) (by omega) | exact zS0_at rfl (by omega)) (by first | assumption | exact zS0_at (by assumption) (by omega) | exact zS0_at rfl (by omega)) ?_
                                      refine z_iconst (a := nI 0) d_Mo_tray_71 (by decide) ?_
                                      first | refine z_istore_4 d_Mo_tray_72 rfl ?_ | (refine z_forget_3 ?_; refine z_istore_4 d_Mo_tray_72 rfl ?_)
                                      exact q)
                                · first
                                  | (simp (disch := omega) only [← nI_0, nI_leI, nI_ltI, nI_eq, not_true_eq_false, not_false_eq_true] at h47; done)
                                  | (simp (disch := omega) only [← nI_0, nI_leI, nI_ltI, nI_eq, not_true_eq_false, not_false_eq_true] at h47; omega)
                                  | contradiction
                                  | exact absurd h47 (Int32.not_lt.mpr (by assumption))
                                  | exact absurd h47 (Int32.not_le.mpr (by assumption))
                                  | exact absurd h47 (by decide)
                                  | exact absurd (by decide) h47
                                  | ( try simp (disch := omega) only [← nI_0, nI_leI, nI_ltI, nI_eq, not_true_eq_false, not_false_eq_true] at h47
                                      (try have h47b := zbit_n0.mp h47); (try have h47b := zbit_p0.mp h47)
                                      refine z_aload_0 d_Mo_tray_50 ?_
                                      refine z_bipush (a := nI 6) d_Mo_tray_51 (by decide) ?_
                                      refine z_Vi1 d_Mo_tray_53 k_Mo_85 (by first | assumption | exact zS0_at (by assumption) (by omega) | exact zS0_at rfl (by omega)) (t_Mo_no (by assumption)) ⟨Nat.le_of_ble_eq_true rfl, Nat.le_of_ble_eq_true rfl, Nat.le_of_ble_eq_true rfl, Nat.le_of_ble_eq_true rfl⟩ (Nat.le_of_ble_eq_true rfl) ?_
                                      intro r w hq
                                      obtain ⟨rfl, rfl⟩ := hq
                                      refine z_retz d_Mo_tray_56 (by first | exact zb0 | exact zb1 | assumption) ?_
                                      exact ⟨rfl, rfl⟩))
                          · first
                            | (simp (disch := omega) only [← nI_0, nI_leI, nI_ltI, nI_eq, not_true_eq_false, not_false_eq_true] at h37; done)
                            | (simp (disch := omega) only [← nI_0, nI_leI, nI_ltI, nI_eq, not_true_eq_false, not_false_eq_true] at h37; omega)
                            | contradiction
                            | exact absurd h37 (Int32.not_lt.mpr (by assumption))
                            | exact absurd h37 (Int32.not_le.mpr (by assumption))
                            | exact absurd h37 (by decide)
                            | exact absurd (by decide) h37
                            | ( try simp (disch := omega) only [← nI_0, nI_leI, nI_ltI, nI_eq, not_true_eq_false, not_false_eq_true] at h37
                                (try have h37b := zbit_n0.mp h37); (try have h37b := zbit_p0.mp h37)
                                refine z_aload_0 d_Mo_tray_40 ?_
                                refine z_iconst (a := nI 5) d_Mo_tray_41 (by decide) ?_
                                refine z_Vi1 d_Mo_tray_42 k_Mo_85 (by first | assumption | exact zS0_at (by assumption) (by omega) | exact zS0_at rfl (by omega)) (t_Mo_no (by assumption)) ⟨Nat.le_of_ble_eq_true rfl, Nat.le_of_ble_eq_true rfl, Nat.le_of_ble_eq_true rfl, Nat.le_of_ble_eq_true rfl⟩ (Nat.le_of_ble_eq_true rfl) ?_
                                intro r w hq
                                obtain ⟨rfl, rfl⟩ := hq
                                refine z_retz d_Mo_tray_45 (by first | exact zb0 | exact zb1 | assumption) ?_
                                exact ⟨rfl, rfl⟩))
                    · first
                      | (simp (disch := omega) only [← nI_0, nI_leI, nI_ltI, nI_eq, not_true_eq_false, not_false_eq_true] at h25; done)
                      | (simp (disch := omega) only [← nI_0, nI_leI, nI_ltI, nI_eq, not_true_eq_false, not_false_eq_true] at h25; omega)
                      | contradiction
                      | exact absurd h25 (Int32.not_lt.mpr (by assumption))
                      | exact absurd h25 (Int32.not_le.mpr (by assumption))
                      | exact absurd h25 (by decide)
                      | exact absurd (by decide) h25
                      | ( try simp (disch := omega) only [← nI_0, nI_leI, nI_ltI, nI_eq, not_true_eq_false, not_false_eq_true] at h25
                          (try have h25b := zbit_n0.mp h25); (try have h25b := zbit_p0.mp h25)
                          refine z_aload_0 d_Mo_tray_28 ?_
                          refine z_iconst (a := nI 1) d_Mo_tray_29 (by decide) ?_
                          refine z_Vi1 d_Mo_tray_30 k_Mo_85 (by first | assumption | exact zS0_at (by assumption) (by omega) | exact zS0_at rfl (by omega)) (t_Mo_no (by assumption)) ⟨Nat.le_of_ble_eq_true rfl, Nat.le_of_ble_eq_true rfl, Nat.le_of_ble_eq_true rfl, Nat.le_of_ble_eq_true rfl⟩ (Nat.le_of_ble_eq_true rfl) ?_
                          intro r w hq
                          obtain ⟨rfl, rfl⟩ := hq
                          refine z_retz d_Mo_tray_33 (by first | exact zb0 | exact zb1 | assumption) ?_
                          exact ⟨rfl, rfl⟩))))
/-- behind a deed done to a TRAY -/
theorem L_tr {Ic I1 : Nat → Nat → Int32} (Z : clOk f d P S) (X : stR n f nt np nl nn fed mk I J) (ht : t < 4) (hc : ∀ a, a ≠ 3 + 2 * t → Ic a = I a) (hd : mD (zu Ic 0 0 (nI 0)) I1) (h2 : ∀ a, a ≠ 146 → a ≠ 147 → I2 a = I1 a) (h3 : ∀ u, u ≠ t → I2 146 u = I 146 u ∧ I2 147 u = I 147 u) (hj : ∀ a, a ≠ 4 + 2 * t → a ≠ 148 → J2 a = J a) (hj2 : ∀ u p, u ≠ t → u < 4 → p < 60 → J2 148 (60 * u + p) = J 148 (60 * u + p)) (hT : trR t I2 J2) : zInv (n + 1) (I2, J2, P, S) := by
  have hf := clOk_f Z
  obtain ⟨d1, d2, d3, d4⟩ := hd
  obtain ⟨⟨x1, x2, x3⟩, x4, ⟨⟨x5, x6, x7⟩, x8, x9⟩, ⟨x10, x11⟩, x12, -, -, -⟩ := id X
  have e : ∀ a, a ≠ 0 → a ≠ 145 → a ≠ 146 → a ≠ 147 → a ≠ 3 + 2 * t → I2 a = I a := fun a q1 q2 q3 q4 q5 => by rw [h2 a q3 q4, d4 a q2, zu_row _ _ _ _ q1, hc a q5]
  have e0 : ∀ k, 1 ≤ k → I2 0 k = I 0 k := fun k hk => by rw [h2 0 (by omega) (by omega), d4 0 (by omega), zu_ne _ _ _ _ (by omega), hc 0 (by omega)]
  have e145 : ∀ k, (k = 8 ∨ k = 10 ∨ k = 11 ∨ k = 23 ∨ k = 38) → I2 145 k = I 145 k := fun k hk => by rw [h2 145 (by omega) (by omega), d1.2 k hk, zu_row _ _ _ _ (by omega), hc 145 (by omega)]
  refine ⟨f, d, nt, np, nl, nn, fed, mk, I2, J2, P, S, rfl, Z, stR_tr X hf ⟨fun a ha => e a (by omega) (by omega) (by omega) (by omega) (by omega), e0 13 (by omega), e145 23 (by omega), e145 38 (by omega)⟩ (fun a ha => hj a (by omega) (by omega)) ⟨?_, ?_, ?_⟩ (fun u hu => ?_) ⟨⟨(e0 4 (by omega)).trans x5, (e145 8 (by omega)).trans x6, x7⟩, fun k hk => ?_, ?_⟩ ⟨?_, ?_⟩ (fun i hi => ?_)⟩
  · rw [h2 145 (by omega) (by omega), h2 0 (by omega) (by omega), d2, d4 0 (by omega), zu_same]
  · rw [hj 145 (by omega) (by omega), hj 0 (by omega) (by omega)]; exact x2
  · rw [hj 145 (by omega) (by omega), hj 0 (by omega) (by omega)]; exact x3
  · by_cases hut : u = t
    · subst hut; exact hT
    · exact trR_c (x4 u hu) (e _ (by omega) (by omega) (by omega) (by omega) (by omega)) (h3 u hut).2 (h3 u hut).1 (hj _ (by omega) (by omega)) (fun p hp => hj2 u p hut hu hp)
  · rw [e 149 (by omega) (by omega) (by omega) (by omega) (by omega), e 1 (by omega) (by omega) (by omega) (by omega) (by omega)]; exact x8 k hk
  · rw [e 1 (by omega) (by omega) (by omega) (by omega) (by omega)]; exact x9
  · rw [e145 10 (by omega), e 11 (by omega) (by omega) (by omega) (by omega) (by omega)]; exact x10
  · rw [e145 11 (by omega), e 11 (by omega) (by omega) (by omega) (by omega) (by omega)]; exact x11
  · rw [hj 13 (by omega) (by omega)]; exact x12 i hi
theorem L_tray (h : zInv n w) : zEi G y_Tf_tray prog_1_method_5_code 4 (some .boolean) 3 [.ref 0, .int a, .int b, .int c] w (fun r w1 => w1.2.2.2 = w.2.2.2 ∧ zEi G y_Mo_tray prog_14_method_11_code 5 (some .boolean) 2 [.ref 145, .int a, .int b, .int c] w1 (fun r' w2 => r' = r ∧ zInv (n + 1) w2)) := by
  obtain ⟨f, d, nt, np, nl, nn, fed, mk, I, J, P, S, rfl, Z, X⟩ := h
  have M := clOk_M Z
  have hf := clOk_f Z
  have N := stR_fen X
  have N0 := stR_mod X
  have fm := stR_fm X
  obtain ⟨⟨⟨a1, r1, b1⟩, ⟨a2, r2, b2⟩, ⟨a3, r3, b3⟩, ⟨a4, r4, b4⟩⟩, ⟨⟨o, ob, ao, ro⟩, r5⟩, fw, fp, ft, fz⟩ := id fm
  by_cases h : zin a 4 ∧ zin b 4
  rotate_left
  · have h' : ¬ zin a 4 ∨ ¬ zin b 4 := by
      by_cases ha : zin a 4
      · exact Or.inr (fun q => h ⟨ha, q⟩)
      · exact Or.inl ha
    exact L_q Z X (t_Tf_tray_o Z h') (fun I' J' e _ => ⟨_, rfl, t_Mo_tray_o M (modIn_c N0 (e 150 (by decide))) h'⟩)
  obtain ⟨⟨t, ht, rfl⟩, k, hk, rfl⟩ := h
  by_cases hc : nI 60 < c
  · exact L_q Z X (t_Tf_tray_5 Z ht hk hc) (fun I' J' e _ => ⟨_, rfl, t_Mo_tray_5 M (modIn_c N0 (e 150 (by decide))) ht hk hc⟩)
  by_cases hc0 : c < 0
  · exact L_q Z X (t_Tf_tray_6 Z ht hk hc0) (fun I' J' e _ => ⟨_, rfl, t_Mo_tray_6 M (modIn_c N0 (e 150 (by decide))) ht hk hc0⟩)
  obtain ⟨l, hl, rfl⟩ : zin c 61 := by
    rcases pk_ix c (n := 61) (by decide) with q | q | q
    · exact absurd q hc0
    · exact absurd (Int32.lt_of_lt_of_le (by decide) q) hc
    · exact q
  refine zEi_mono (t_Tf_tray Z ht hk (Nat.le_of_lt_succ hl)) ?_
  rintro r w ⟨rfl, rfl⟩
  refine ⟨rfl, zEi_mono (t_Mo_tray M (modIn_c N0 (by rw [zu_row _ _ _ _ (by decide), zu_row _ _ _ _ (by omega), zu_row _ _ _ _ (by omega), zu_row _ _ _ _ (by omega)])) ht hk (Nat.le_of_lt_succ hl)) ?_⟩
  rintro r w ⟨rfl, I1, hD, rfl⟩
  refine ⟨rfl, L_tr (t := t) Z X ht (fun a ha => by rw [zu_row _ _ _ _ ha, zu_row _ _ _ _ ha, zu_row _ _ _ _ ha]) hD (fun a g1 g2 => by rw [zu_row _ _ _ _ g2, zu_row _ _ _ _ g1]) (fun u hu => ?_) (fun a g1 g2 => by rw [zfr_row g2, zfl_ne (by omega)]) (fun u p hu h4 hp => by rw [zfr_ne (by omega), zfl_ne (by omega)]) ?_⟩
  · have q : ∀ a, a = 146 ∨ a = 147 → I1 a = I a := fun a ha => by rw [hD.2.2.2 a (by omega), zu_row _ _ _ _ (by omega), zu_row _ _ _ _ (by omega), zu_row _ _ _ _ (by omega), zu_row _ _ _ _ (by omega)]
    constructor
    · rw [zu_row _ _ _ _ (by omega), zu_ne _ _ _ _ (by omega), q 146 (by omega)]
    · rw [zu_ne _ _ _ _ (by omega), zu_row _ _ _ _ (by omega), q 147 (by omega)]
  · right
    have q : zu (zu I1 146 t (nI k)) 147 t (nI l) (3 + 2 * t) = zu (zu (zu I (3 + 2 * t) 0 (nI 1)) (3 + 2 * t) 1 (nI k)) (3 + 2 * t) 2 (nI l) (3 + 2 * t) := by rw [zu_row _ _ _ _ (by omega), zu_row _ _ _ _ (by omega), hD.2.2.2 _ (by omega), zu_row _ _ _ _ (by omega)]
    refine ⟨k, l, by omega, by omega, ?_, ⟨?_, ?_⟩, ⟨?_, ?_⟩, fun p hp => ?_⟩
    · rw [q, zu_ne _ _ _ _ (by omega), zu_ne _ _ _ _ (by omega), zu_same]
    · rw [q, zu_ne _ _ _ _ (by omega), zu_same]
    · rw [zu_ne _ _ _ _ (by omega), zu_same]
    · rw [q, zu_same]
    · rw [zu_same]
    · rw [zfr_in (by omega), show 4 + 2 * t = 3 + 2 * t + 1 by omega, zfr_row (by omega), zfl_in (by omega)]
end TY1
