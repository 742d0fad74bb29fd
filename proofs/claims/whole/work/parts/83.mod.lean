/-! small deeds, both sides -/
section OD0
variable {G : zG} {I I' : Nat → Nat → Int32} {J J' : Nat → Nat → Int64} {P : Nat → Nat → Option Nat} {S : List (Nat × Nat)} {f d nt np nl nn n fed mk st : Nat} {a b : Int32} {w : zW}
theorem zin_not {m : Nat} (hm : m < 2 ^ 30) (h : ¬ zin a (m + 1)) : a < 0 ∨ nI m < a := by
  rcases pk_ix a (n := m + 1) (by omega) with h1 | h1 | h1
  · exact Or.inl h1
  · exact Or.inr (Int32.lt_of_lt_of_le (nI_lt (Nat.lt_succ_self m) (by omega)) h1)
  · exact absurd h1 h
/-- behind a deed done to the FEN -/
theorem L_fin {nl' nn' : Nat} {Ic I1 I2 : Nat → Nat → Int32} {J2 : Nat → Nat → Int64} (Z : clOk f d P S) (X : stR n f nt np nl nn fed mk I J) (hc : ∀ a, ¬ (f ≤ a ∧ a ≤ f + 8) → Ic a = I a) (hd : mD (zu Ic 0 0 (nI 0)) I1) (h2 : ∀ a, a ≠ 150 → I2 a = I1 a) (h3 : ∀ k, 87 ≤ k → I2 150 k = I1 150 k) (hm : fmR (29700 * (n + 1)) (sf f Ic) (I2 150) nt np nl' nn') (hn : nn ≤ nn') (hJ : jL f nn J J2) (hq : J2 145 2 = J2 0 1 ∧ J2 145 3 = J2 0 2) (hN : ∀ k, nn ≤ k → k < nn' → J2 152 (13 + k) = J2 (f + 11) k) : zInv (n + 1) (I2, J2, P, S) := by
  have hf := clOk_f Z
  obtain ⟨d1, d2, d3, d4⟩ := hd
  have e : ∀ a, a ≠ 0 → a ≠ 145 → a ≠ 150 → I2 a = Ic a := fun a q1 q2 q3 => by rw [h2 a q3, d4 a q2, zu_row _ _ _ _ q1]
  refine ⟨f, d, nt, np, nl', nn', fed, mk, I2, J2, P, S, rfl, Z, stR_up X hf ⟨fun a ha => ?_, fun k hk => ?_, ?_, fun k hk => ?_, fun k hk => ?_⟩ hJ ⟨?_, hq⟩ (fmR_A hm (fun r hr => e (f + r) (by omega) (by omega) (by omega))) hn hN⟩
  · rw [e a (by omega) (by omega) (by omega), hc a (by omega)]
  · rw [h2 0 (by omega), d4 0 (by omega), zu_ne _ _ _ _ (by omega), hc 0 (by omega)]
  · rw [e 11 (by omega) (by omega) (by omega), hc 11 (by omega)]; exact ⟨rfl, rfl⟩
  · rw [h3 k hk, d3, zu_row _ _ _ _ (by omega), hc 150 (by omega)]
  · rw [h2 145 (by omega), d1.2 k hk, zu_row _ _ _ _ (by omega), hc 145 (by omega)]
  · rw [h2 145 (by omega), h2 0 (by omega), d2, d4 0 (by omega), zu_same]
theorem t_Mo_teaches_y {p k j : Nat} (M : modOk P S) (hp : p < 7) (hj : j = 1 ∧ ¬ zbit (I 150 (12 + p)) k ∨ j = 0 ∧ zbit (I 150 (12 + p)) k) : zEi G y_Mo_teaches prog_14_method_97_code 4 (some .boolean) 2 [.ref 145, .int (nI p), .int (nI k), .int (nI j)] (I, J, P, S) (fun r w => r = nI 1 ∧ w = (zu I 150 (12 + p) (I 150 (12 + p) ^^^ (nI 1 <<< (nI k &&& 31))), J, P, S)) := by
  rcases hj with ⟨rfl, h⟩ | ⟨rfl, h⟩
  · refine zEi_mono (t_Mo_teaches1 M hp) ?_
    rintro r w (⟨-, h1, h2⟩ | ⟨h1, -⟩)
    · exact ⟨h1, h2⟩
    · exact absurd h1 h
  · refine zEi_mono (t_Mo_teaches0 M hp) ?_
    rintro r w (⟨-, h1, h2⟩ | ⟨h1, -⟩)
    · exact ⟨h1, h2⟩
    · exact absurd h h1
theorem t_Mo_teaches_n {p k j : Nat} (M : modOk P S) (hp : p < 7) (hj : j = 1 ∧ zbit (I 150 (12 + p)) k ∨ j = 0 ∧ ¬ zbit (I 150 (12 + p)) k) : zEi G y_Mo_teaches prog_14_method_97_code 4 (some .boolean) 2 [.ref 145, .int (nI p), .int (nI k), .int (nI j)] (I, J, P, S) (fun r w => r = nI 0 ∧ w = (I, J, P, S)) := by
  rcases hj with ⟨rfl, h⟩ | ⟨rfl, h⟩
  · refine zEi_mono (t_Mo_teaches1 M hp) ?_
    rintro r w (⟨h1, -⟩ | ⟨-, h1, h2⟩)
    · exact absurd h h1
    · exact ⟨h1, h2⟩
  · refine zEi_mono (t_Mo_teaches0 M hp) ?_
    rintro r w (⟨h1, -⟩ | ⟨-, h1, h2⟩)
    · exact absurd h1 h
    · exact ⟨h1, h2⟩
theorem t_Tf_price_o (Z : clOk f d P S) (N : fenIn I f nt np nl nn) (h : ¬ zin a nt) : zEi G y_Tf_price prog_1_method_25_code 3 (some .boolean) 3 [.ref 0, .int a, .int b] (I, J, P, S) (fun r w => r = nI 0 ∧ cW I J P S 2 w) := by
  obtain ⟨⟨c0, c3, c1s⟩, ⟨c5, c2s, ctr⟩, ⟨c6, c11s, c11, c13s⟩, ⟨c7, c15s, c15⟩, ⟨c8, c16s, c16a, c16b, c17s⟩, ⟨c9, c10, cfd, F, Fd⟩, ⟨c11b, Ft⟩, ⟨c12, c69s, cmk⟩, ⟨c14, c121s, c121, c122s⟩, ⟨c15b, c123s, c123, c124s⟩, ⟨c16, c125s, c125, c126s⟩, ⟨c17, c127s, c127, c128s, ctb⟩, ⟨c18, c139s, c139, c140s⟩, ⟨c19, c141s, ⟨c141a, c142s⟩, ⟨c141b, c143s⟩, ⟨c141c, c144s⟩⟩, M⟩ := id Z
  obtain ⟨F0, ⟨F8, F8s⟩, ⟨F9, F9s⟩, ⟨F10, F10s⟩, ⟨F11, F11s⟩, ⟨F12, F12s⟩, ⟨F13, F13s⟩, ⟨F14, F14s⟩, ⟨F15, F15s⟩, ⟨F16, F16s⟩, ⟨F17, F17s⟩, ⟨F18, F18s⟩, ⟨F19, F19s⟩, ⟨Y3, Y3s⟩, ⟨Y4, Y4s⟩, ⟨Y5, Y5s⟩, ⟨Y6, Y6s⟩⟩ := id F
  obtain ⟨⟨n1, n1b⟩, ⟨n2, n2b⟩, ⟨n3, n3b⟩, ⟨n4, n4b⟩, nof, non⟩ := id N
  refine zEi_of (lv := [some (.ref 0), some (.int a), some (.int b)]) (by decide) rfl (Nat.le_of_ble_eq_true rfl) ?_
  refine z_aload_0 d_Tf_price_0 ?_
  refine z_iload_1 d_Tf_price_1 ?_
  refine z_Vi1 d_Tf_price_2 k_Tf_227 (by first | assumption | exact zS0_at (by assumption) (by omega) | exact zS0_at rfl (by omega)) (t_Tf_noTrait Z N) ⟨Nat.le_of_ble_eq_true rfl, Nat.le_of_ble_eq_true rfl, Nat.le_of_ble_eq_true rfl, Nat.le_of_ble_eq_true rfl⟩ (Nat.le_of_ble_eq_true rfl) ?_
  intro r w hq
  rcases hq with ⟨⟨hz2, rfl⟩ | ⟨hz2, rfl⟩, rfl⟩
  · first
    | contradiction
    | ( skip
        refine z_if_eq (tgt := 14) d_Tf_price_5 (by decide) (fun h => absurd h (by decide)) (fun _ => ?_)
        refine z_aload_0 d_Tf_price_8 ?_
        refine z_iconst (a := nI 2) d_Tf_price_9 (by decide) ?_
        refine z_Vi1 d_Tf_price_10 k_Tf_119 (by first | assumption | exact zS0_at (by assumption) (by omega) | exact zS0_at rfl (by omega)) (t_Tf_refuse (by assumption)) ⟨Nat.le_of_ble_eq_true rfl, Nat.le_of_ble_eq_true rfl, Nat.le_of_ble_eq_true rfl, Nat.le_of_ble_eq_true rfl⟩ (Nat.le_of_ble_eq_true rfl) ?_
        intro r w hq
        obtain ⟨rfl, rfl⟩ := hq
        refine z_retz d_Tf_price_13 (by first | exact zb0 | exact zb1 | assumption) ?_
        exact ⟨by first | rfl | assumption, cW_0⟩)
  · first
    | contradiction
    | ( skip
        refine z_if_eq (tgt := 14) d_Tf_price_5 (by decide) (fun _ => ?_) (fun h => absurd h (by decide))
        contradiction)
theorem t_Tf_price_b {k : Nat} (Z : clOk f d P S) (N : fenIn I f nt np nl nn) (hk : k < nt) (hb : ¬ zin b 100) : zEi G y_Tf_price prog_1_method_25_code 3 (some .boolean) 3 [.ref 0, .int (nI k), .int b] (I, J, P, S) (fun r w => r = nI 0 ∧ cW I J P S 5 w) := by
  obtain ⟨⟨c0, c3, c1s⟩, ⟨c5, c2s, ctr⟩, ⟨c6, c11s, c11, c13s⟩, ⟨c7, c15s, c15⟩, ⟨c8, c16s, c16a, c16b, c17s⟩, ⟨c9, c10, cfd, F, Fd⟩, ⟨c11b, Ft⟩, ⟨c12, c69s, cmk⟩, ⟨c14, c121s, c121, c122s⟩, ⟨c15b, c123s, c123, c124s⟩, ⟨c16, c125s, c125, c126s⟩, ⟨c17, c127s, c127, c128s, ctb⟩, ⟨c18, c139s, c139, c140s⟩, ⟨c19, c141s, ⟨c141a, c142s⟩, ⟨c141b, c143s⟩, ⟨c141c, c144s⟩⟩, M⟩ := id Z
  obtain ⟨F0, ⟨F8, F8s⟩, ⟨F9, F9s⟩, ⟨F10, F10s⟩, ⟨F11, F11s⟩, ⟨F12, F12s⟩, ⟨F13, F13s⟩, ⟨F14, F14s⟩, ⟨F15, F15s⟩, ⟨F16, F16s⟩, ⟨F17, F17s⟩, ⟨F18, F18s⟩, ⟨F19, F19s⟩, ⟨Y3, Y3s⟩, ⟨Y4, Y4s⟩, ⟨Y5, Y5s⟩, ⟨Y6, Y6s⟩⟩ := id F
  obtain ⟨⟨n1, n1b⟩, ⟨n2, n2b⟩, ⟨n3, n3b⟩, ⟨n4, n4b⟩, nof, non⟩ := id N
  have hz : zin (nI k) nt := ⟨k, by omega, rfl⟩
  have hbo := zin_not (m := 99) (by decide) hb
  refine zEi_of (lv := [some (.ref 0), some (.int (nI k)), some (.int b)]) (by decide) rfl (Nat.le_of_ble_eq_true rfl) ?_
  rcases hbo with hbo | hbo
  · refine z_aload_0 d_Tf_price_0 ?_
    refine z_iload_1 d_Tf_price_1 ?_
    refine z_Vi1 d_Tf_price_2 k_Tf_227 (by first | assumption | exact zS0_at (by assumption) (by omega) | exact zS0_at rfl (by omega)) (t_Tf_noTrait Z N) ⟨Nat.le_of_ble_eq_true rfl, Nat.le_of_ble_eq_true rfl, Nat.le_of_ble_eq_true rfl, Nat.le_of_ble_eq_true rfl⟩ (Nat.le_of_ble_eq_true rfl) ?_
    intro r w hq
    rcases hq with ⟨⟨hz2, rfl⟩ | ⟨hz2, rfl⟩, rfl⟩
    · first
      | contradiction
      | ( skip
          refine z_if_eq (tgt := 14) d_Tf_price_5 (by decide) (fun h => absurd h (by decide)) (fun _ => ?_)
          refine z_aload_0 d_Tf_price_8 ?_
          refine z_iconst (a := nI 2) d_Tf_price_9 (by decide) ?_
          refine z_Vi1 d_Tf_price_10 k_Tf_119 (by first | assumption | exact zS0_at (by assumption) (by omega) | exact zS0_at rfl (by omega)) (t_Tf_refuse (by assumption)) ⟨Nat.le_of_ble_eq_true rfl, Nat.le_of_ble_eq_true rfl, Nat.le_of_ble_eq_true rfl, Nat.le_of_ble_eq_true rfl⟩ (Nat.le_of_ble_eq_true rfl) ?_
          intro r w hq
          obtain ⟨rfl, rfl⟩ := hq
          refine z_retz d_Tf_price_13 (by first | exact zb0 | exact zb1 | assumption) ?_
          exact ⟨by first | rfl | assumption, cW_0⟩)
    · first
      | contradiction
      | ( skip
          refine z_if_eq (tgt := 14) d_Tf_price_5 (by decide) (fun _ => ?_) (fun h => absurd h (by decide))
          refine z_iload_2 d_Tf_price_14 ?_
          refine z_if_lt (tgt := 24) d_Tf_price_15 (by decide) (fun h15 => ?_) (fun h15 => ?_)
          · first
            | (simp (disch := omega) only [← nI_0, nI_leI, nI_ltI, nI_eq, not_true_eq_false, not_false_eq_true] at h15; done)
            | (simp (disch := omega) only [← nI_0, nI_leI, nI_ltI, nI_eq, not_true_eq_false, not_false_eq_true] at h15; omega)
            | contradiction
            | exact absurd h15 (Int32.not_lt.mpr (by assumption))
            | exact absurd h15 (Int32.not_le.mpr (by assumption))
            | exact absurd h15 (by decide)
            | exact absurd (by decide) h15
            | ( try simp (disch := omega) only [← nI_0, nI_leI, nI_ltI, nI_eq, not_true_eq_false, not_false_eq_true] at h15
                (try have h15b := zbit_n0.mp h15); (try have h15b := zbit_p0.mp h15)
                refine z_aload_0 d_Tf_price_24 ?_
                refine z_iconst (a := nI 5) d_Tf_price_25 (by decide) ?_
                refine z_Vi1 d_Tf_price_26 k_Tf_119 (by first | assumption | exact zS0_at (by assumption) (by omega) | exact zS0_at rfl (by omega)) (t_Tf_refuse (by assumption)) ⟨Nat.le_of_ble_eq_true rfl, Nat.le_of_ble_eq_true rfl, Nat.le_of_ble_eq_true rfl, Nat.le_of_ble_eq_true rfl⟩ (Nat.le_of_ble_eq_true rfl) ?_
                intro r w hq
                obtain ⟨rfl, rfl⟩ := hq
                refine z_retz d_Tf_price_29 (by first | exact zb0 | exact zb1 | assumption) ?_
                exact ⟨by first | rfl | assumption, cW_0⟩)
          · first
            | (simp (disch := omega) only [← nI_0, nI_leI, nI_ltI, nI_eq, not_true_eq_false, not_false_eq_true] at h15; done)
            | (simp (disch := omega) only [← nI_0, nI_leI, nI_ltI, nI_eq, not_true_eq_false, not_false_eq_true] at h15; omega)
            | contradiction
            | exact absurd h15 (Int32.not_lt.mpr (by assumption))
            | exact absurd h15 (Int32.not_le.mpr (by assumption))
            | exact absurd h15 (by decide)
            | exact absurd (by decide) h15
            | ( try simp (disch := omega) only [← nI_0, nI_leI, nI_ltI, nI_eq, not_true_eq_false, not_false_eq_true] at h15
                (try have h15b := zbit_n0.mp h15); (try have h15b := zbit_p0.mp h15)
                refine z_iload_2 d_Tf_price_18 ?_
                refine z_bipush (a := nI 99) d_Tf_price_19 (by decide) ?_
                refine z_icmp_le (tgt := 30) d_Tf_price_21 (by decide) (fun h21 => ?_) (fun h21 => ?_)
                · first
                  | (simp (disch := omega) only [← nI_0, nI_leI, nI_ltI, nI_eq, not_true_eq_false, not_false_eq_true] at h21; done)
                  | (simp (disch := omega) only [← nI_0, nI_leI, nI_ltI, nI_eq, not_true_eq_false, not_false_eq_true] at h21; omega)
                  | contradiction
                  | exact absurd h21 (Int32.not_lt.mpr (by assumption))
                  | exact absurd h21 (Int32.not_le.mpr (by assumption))
                  | exact absurd h21 (by decide)
                  | exact absurd (by decide) h21
                  | ( try simp (disch := omega) only [← nI_0, nI_leI, nI_ltI, nI_eq, not_true_eq_false, not_false_eq_true] at h21
                      (try have h21b := zbit_n0.mp h21); (try have h21b := zbit_p0.mp h21)
                      contradiction)
                · first
                  | (simp (disch := omega) only [← nI_0, nI_leI, nI_ltI, nI_eq, not_true_eq_false, not_false_eq_true] at h21; done)
                  | (simp (disch := omega) only [← nI_0, nI_leI, nI_ltI, nI_eq, not_true_eq_false, not_false_eq_true] at h21; omega)
                  | contradiction
                  | exact absurd h21 (Int32.not_lt.mpr (by assumption))
                  | exact absurd h21 (Int32.not_le.mpr (by assumption))
                  | exact absurd h21 (by decide)
                  | exact absurd (by decide) h21
                  | ( try simp (disch := omega) only [← nI_0, nI_leI, nI_ltI, nI_eq, not_true_eq_false, not_false_eq_true] at h21
                      (try have h21b := zbit_n0.mp h21); (try have h21b := zbit_p0.mp h21)
                      refine z_aload_0 d_Tf_price_24 ?_
                      refine z_iconst (a := nI 5) d_Tf_price_25 (by decide) ?_
                      refine z_Vi1 d_Tf_price_26 k_Tf_119 (by first | assumption | exact zS0_at (by assumption) (by omega) | exact zS0_at rfl (by omega)) (t_Tf_refuse (by assumption)) ⟨Nat.le_of_ble_eq_true rfl, Nat.le_of_ble_eq_true rfl, Nat.le_of_ble_eq_true rfl, Nat.le_of_ble_eq_true rfl⟩ (Nat.le_of_ble_eq_true rfl) ?_
                      intro r w hq
                      obtain ⟨rfl, rfl⟩ := hq
                      refine z_retz d_Tf_price_29 (by first | exact zb0 | exact zb1 | assumption) ?_
                      exact ⟨by first | rfl | assumption, cW_0⟩)))
  · refine z_aload_0 d_Tf_price_0 ?_
    refine z_iload_1 d_Tf_price_1 ?_
    refine z_Vi1 d_Tf_price_2 k_Tf_227 (by first | assumption | exact zS0_at (by assumption) (by omega) | exact zS0_at rfl (by omega)) (t_Tf_noTrait Z N) ⟨Nat.le_of_ble_eq_true rfl, Nat.le_of_ble_eq_true rfl, Nat.le_of_ble_eq_true rfl, Nat.le_of_ble_eq_true rfl⟩ (Nat.le_of_ble_eq_true rfl) ?_
    intro r w hq
    rcases hq with ⟨⟨hz2, rfl⟩ | ⟨hz2, rfl⟩, rfl⟩
    · first
      | contradiction
      | ( skip
          refine z_if_eq (tgt := 14) d_Tf_price_5 (by decide) (fun h => absurd h (by decide)) (fun _ => ?_)
          refine z_aload_0 d_Tf_price_8 ?_
          refine z_iconst (a := nI 2) d_Tf_price_9 (by decide) ?_
          refine z_Vi1 d_Tf_price_10 k_Tf_119 (by first | assumption | exact zS0_at (by assumption) (by omega) | exact zS0_at rfl (by omega)) (t_Tf_refuse (by assumption)) ⟨Nat.le_of_ble_eq_true rfl, Nat.le_of_ble_eq_true rfl, Nat.le_of_ble_eq_true rfl, Nat.le_of_ble_eq_true rfl⟩ (Nat.le_of_ble_eq_true rfl) ?_
          intro r w hq
          obtain ⟨rfl, rfl⟩ := hq
          refine z_retz d_Tf_price_13 (by first | exact zb0 | exact zb1 | assumption) ?_
          exact ⟨by first | rfl | assumption, cW_0⟩)
    · first
      | contradiction
      | ( skip
          refine z_if_eq (tgt := 14) d_Tf_price_5 (by decide) (fun _ => ?_) (fun h => absurd h (by decide))
          refine z_iload_2 d_Tf_price_14 ?_
          refine z_if_lt (tgt := 24) d_Tf_price_15 (by decide) (fun h15 => ?_) (fun h15 => ?_)
          · first
            | (simp (disch := omega) only [← nI_0, nI_leI, nI_ltI, nI_eq, not_true_eq_false, not_false_eq_true] at h15; done)
            | (simp (disch := omega) only [← nI_0, nI_leI, nI_ltI, nI_eq, not_true_eq_false, not_false_eq_true] at h15; omega)
            | contradiction
            | exact absurd h15 (Int32.not_lt.mpr (by assumption))
            | exact absurd h15 (Int32.not_le.mpr (by assumption))
            | exact absurd h15 (by decide)
            | exact absurd (by decide) h15
            | ( try simp (disch := omega) only [← nI_0, nI_leI, nI_ltI, nI_eq, not_true_eq_false, not_false_eq_true] at h15
                (try have h15b := zbit_n0.mp h15); (try have h15b := zbit_p0.mp h15)
                refine z_aload_0 d_Tf_price_24 ?_
                refine z_iconst (a := nI 5) d_Tf_price_25 (by decide) ?_
                refine z_Vi1 d_Tf_price_26 k_Tf_119 (by first | assumption | exact zS0_at (by assumption) (by omega) | exact zS0_at rfl (by omega)) (t_Tf_refuse (by assumption)) ⟨Nat.le_of_ble_eq_true rfl, Nat.le_of_ble_eq_true rfl, Nat.le_of_ble_eq_true rfl, Nat.le_of_ble_eq_true rfl⟩ (Nat.le_of_ble_eq_true rfl) ?_
                intro r w hq
                obtain ⟨rfl, rfl⟩ := hq
                refine z_retz d_Tf_price_29 (by first | exact zb0 | exact zb1 | assumption) ?_
                exact ⟨by first | rfl | assumption, cW_0⟩)
          · first
            | (simp (disch := omega) only [← nI_0, nI_leI, nI_ltI, nI_eq, not_true_eq_false, not_false_eq_true] at h15; done)
            | (simp (disch := omega) only [← nI_0, nI_leI, nI_ltI, nI_eq, not_true_eq_false, not_false_eq_true] at h15; omega)
            | contradiction
            | exact absurd h15 (Int32.not_lt.mpr (by assumption))
            | exact absurd h15 (Int32.not_le.mpr (by assumption))
            | exact absurd h15 (by decide)
            | exact absurd (by decide) h15
            | ( try simp (disch := omega) only [← nI_0, nI_leI, nI_ltI, nI_eq, not_true_eq_false, not_false_eq_true] at h15
                (try have h15b := zbit_n0.mp h15); (try have h15b := zbit_p0.mp h15)
                refine z_iload_2 d_Tf_price_18 ?_
                refine z_bipush (a := nI 99) d_Tf_price_19 (by decide) ?_
                refine z_icmp_le (tgt := 30) d_Tf_price_21 (by decide) (fun h21 => ?_) (fun h21 => ?_)
                · first
                  | (simp (disch := omega) only [← nI_0, nI_leI, nI_ltI, nI_eq, not_true_eq_false, not_false_eq_true] at h21; done)
                  | (simp (disch := omega) only [← nI_0, nI_leI, nI_ltI, nI_eq, not_true_eq_false, not_false_eq_true] at h21; omega)
                  | contradiction
                  | exact absurd h21 (Int32.not_lt.mpr (by assumption))
                  | exact absurd h21 (Int32.not_le.mpr (by assumption))
                  | exact absurd h21 (by decide)
                  | exact absurd (by decide) h21
                  | ( try simp (disch := omega) only [← nI_0, nI_leI, nI_ltI, nI_eq, not_true_eq_false, not_false_eq_true] at h21
                      (try have h21b := zbit_n0.mp h21); (try have h21b := zbit_p0.mp h21)
                      contradiction)
                · first
                  | (simp (disch := omega) only [← nI_0, nI_leI, nI_ltI, nI_eq, not_true_eq_false, not_false_eq_true] at h21; done)
                  | (simp (disch := omega) only [← nI_0, nI_leI, nI_ltI, nI_eq, not_true_eq_false, not_false_eq_true] at h21; omega)
                  | contradiction
                  | exact absurd h21 (Int32.not_lt.mpr (by assumption))
                  | exact absurd h21 (Int32.not_le.mpr (by assumption))
                  | exact absurd h21 (by decide)
                  | exact absurd (by decide) h21
                  | ( try simp (disch := omega) only [← nI_0, nI_leI, nI_ltI, nI_eq, not_true_eq_false, not_false_eq_true] at h21
                      (try have h21b := zbit_n0.mp h21); (try have h21b := zbit_p0.mp h21)
                      refine z_aload_0 d_Tf_price_24 ?_
                      refine z_iconst (a := nI 5) d_Tf_price_25 (by decide) ?_
                      refine z_Vi1 d_Tf_price_26 k_Tf_119 (by first | assumption | exact zS0_at (by assumption) (by omega) | exact zS0_at rfl (by omega)) (t_Tf_refuse (by assumption)) ⟨Nat.le_of_ble_eq_true rfl, Nat.le_of_ble_eq_true rfl, Nat.le_of_ble_eq_true rfl, Nat.le_of_ble_eq_true rfl⟩ (Nat.le_of_ble_eq_true rfl) ?_
                      intro r w hq
                      obtain ⟨rfl, rfl⟩ := hq
                      refine z_retz d_Tf_price_29 (by first | exact zb0 | exact zb1 | assumption) ?_
                      exact ⟨by first | rfl | assumption, cW_0⟩)))
theorem t_Tf_price {k v : Nat} (Z : clOk f d P S) (N : fenIn I f nt np nl nn) (hk : k < nt) (hv : v ≤ 99) : zEi G y_Tf_price prog_1_method_25_code 3 (some .boolean) 3 [.ref 0, .int (nI k), .int (nI v)] (I, J, P, S) (fun r w => r = nI 1 ∧ w = (zu (zu I (f + 1) k (nI v)) 0 0 (nI 0), J, P, S)) := by
  obtain ⟨⟨c0, c3, c1s⟩, ⟨c5, c2s, ctr⟩, ⟨c6, c11s, c11, c13s⟩, ⟨c7, c15s, c15⟩, ⟨c8, c16s, c16a, c16b, c17s⟩, ⟨c9, c10, cfd, F, Fd⟩, ⟨c11b, Ft⟩, ⟨c12, c69s, cmk⟩, ⟨c14, c121s, c121, c122s⟩, ⟨c15b, c123s, c123, c124s⟩, ⟨c16, c125s, c125, c126s⟩, ⟨c17, c127s, c127, c128s, ctb⟩, ⟨c18, c139s, c139, c140s⟩, ⟨c19, c141s, ⟨c141a, c142s⟩, ⟨c141b, c143s⟩, ⟨c141c, c144s⟩⟩, M⟩ := id Z
  obtain ⟨F0, ⟨F8, F8s⟩, ⟨F9, F9s⟩, ⟨F10, F10s⟩, ⟨F11, F11s⟩, ⟨F12, F12s⟩, ⟨F13, F13s⟩, ⟨F14, F14s⟩, ⟨F15, F15s⟩, ⟨F16, F16s⟩, ⟨F17, F17s⟩, ⟨F18, F18s⟩, ⟨F19, F19s⟩, ⟨Y3, Y3s⟩, ⟨Y4, Y4s⟩, ⟨Y5, Y5s⟩, ⟨Y6, Y6s⟩⟩ := id F
  obtain ⟨⟨n1, n1b⟩, ⟨n2, n2b⟩, ⟨n3, n3b⟩, ⟨n4, n4b⟩, nof, non⟩ := id N
  have hz : zin (nI k) nt := ⟨k, by omega, rfl⟩
  refine zEi_of (lv := [some (.ref 0), some (.int (nI k)), some (.int (nI v))]) (by decide) rfl (Nat.le_of_ble_eq_true rfl) ?_
  refine z_aload_0 d_Tf_price_0 ?_
  refine z_iload_1 d_Tf_price_1 ?_
  refine z_Vi1 d_Tf_price_2 k_Tf_227 (by first | assumption | exact zS0_at (by assumption) (by omega) | exact zS0_at rfl (by omega)) (t_Tf_noTrait Z N) ⟨Nat.le_of_ble_eq_true rfl, Nat.le_of_ble_eq_true rfl, Nat.le_of_ble_eq_true rfl, Nat.le_of_ble_eq_true rfl⟩ (Nat.le_of_ble_eq_true rfl) ?_
  intro r w hq
  rcases hq with ⟨⟨hz2, rfl⟩ | ⟨hz2, rfl⟩, rfl⟩
  · first
    | contradiction
    | ( skip
        refine z_if_eq (tgt := 14) d_Tf_price_5 (by decide) (fun h => absurd h (by decide)) (fun _ => ?_)
        refine z_aload_0 d_Tf_price_8 ?_
        refine z_iconst (a := nI 2) d_Tf_price_9 (by decide) ?_
        refine z_Vi1 d_Tf_price_10 k_Tf_119 (by first | assumption | exact zS0_at (by assumption) (by omega) | exact zS0_at rfl (by omega)) (t_Tf_refuse (by assumption)) ⟨Nat.le_of_ble_eq_true rfl, Nat.le_of_ble_eq_true rfl, Nat.le_of_ble_eq_true rfl, Nat.le_of_ble_eq_true rfl⟩ (Nat.le_of_ble_eq_true rfl) ?_
        intro r w hq
        obtain ⟨rfl, rfl⟩ := hq
        refine z_retz d_Tf_price_13 (by first | exact zb0 | exact zb1 | assumption) ?_
        exact ⟨rfl, rfl⟩)
  · first
    | contradiction
    | ( skip
        refine z_if_eq (tgt := 14) d_Tf_price_5 (by decide) (fun _ => ?_) (fun h => absurd h (by decide))
        refine z_iload_2 d_Tf_price_14 ?_
        refine z_if_lt (tgt := 24) d_Tf_price_15 (by decide) (fun h15 => ?_) (fun h15 => ?_)
        · first
          | (simp (disch := omega) only [← nI_0, nI_leI, nI_ltI, nI_eq, not_true_eq_false, not_false_eq_true] at h15; done)
          | (simp (disch := omega) only [← nI_0, nI_leI, nI_ltI, nI_eq, not_true_eq_false, not_false_eq_true] at h15; omega)
          | contradiction
          | exact absurd h15 (Int32.not_lt.mpr (by assumption))
          | exact absurd h15 (Int32.not_le.mpr (by assumption))
          | exact absurd h15 (by decide)
          | exact absurd (by decide) h15
          | ( try simp (disch := omega) only [← nI_0, nI_leI, nI_ltI, nI_eq, not_true_eq_false, not_false_eq_true] at h15
              (try have h15b := zbit_n0.mp h15); (try have h15b := zbit_p0.mp h15)
              refine z_aload_0 d_Tf_price_24 ?_
              refine z_iconst (a := nI 5) d_Tf_price_25 (by decide) ?_
              refine z_Vi1 d_Tf_price_26 k_Tf_119 (by first | assumption | exact zS0_at (by assumption) (by omega) | exact zS0_at rfl (by omega)) (t_Tf_refuse (by assumption)) ⟨Nat.le_of_ble_eq_true rfl, Nat.le_of_ble_eq_true rfl, Nat.le_of_ble_eq_true rfl, Nat.le_of_ble_eq_true rfl⟩ (Nat.le_of_ble_eq_true rfl) ?_
              intro r w hq
              obtain ⟨rfl, rfl⟩ := hq
              refine z_retz d_Tf_price_29 (by first | exact zb0 | exact zb1 | assumption) ?_
              exact ⟨rfl, rfl⟩)
        · first
          | (simp (disch := omega) only [← nI_0, nI_leI, nI_ltI, nI_eq, not_true_eq_false, not_false_eq_true] at h15; done)
          | (simp (disch := omega) only [← nI_0, nI_leI, nI_ltI, nI_eq, not_true_eq_false, not_false_eq_true] at h15; omega)
          | contradiction
          | exact absurd h15 (Int32.not_lt.mpr (by assumption))
          | exact absurd h15 (Int32.not_le.mpr (by assumption))
          | exact absurd h15 (by decide)
          | exact absurd (by decide) h15
          | ( try simp (disch := omega) only [← nI_0, nI_leI, nI_ltI, nI_eq, not_true_eq_false, not_false_eq_true] at h15
              (try have h15b := zbit_n0.mp h15); (try have h15b := zbit_p0.mp h15)
              refine z_iload_2 d_Tf_price_18 ?_
              refine z_bipush (a := nI 99) d_Tf_price_19 (by decide) ?_
              refine z_icmp_le (tgt := 30) d_Tf_price_21 (by decide) (fun h21 => ?_) (fun h21 => ?_)
              · first
                | (simp (disch := omega) only [← nI_0, nI_leI, nI_ltI, nI_eq, not_true_eq_false, not_false_eq_true] at h21; done)
                | (simp (disch := omega) only [← nI_0, nI_leI, nI_ltI, nI_eq, not_true_eq_false, not_false_eq_true] at h21; omega)
                | contradiction
                | exact absurd h21 (Int32.not_lt.mpr (by assumption))
                | exact absurd h21 (Int32.not_le.mpr (by assumption))
                | exact absurd h21 (by decide)
                | exact absurd (by decide) h21
                | ( try simp (disch := omega) only [← nI_0, nI_leI, nI_ltI, nI_eq, not_true_eq_false, not_false_eq_true] at h21
                    (try have h21b := zbit_n0.mp h21); (try have h21b := zbit_p0.mp h21)
                    refine z_aload_0 d_Tf_price_30 ?_
                    refine z_getR d_Tf_price_31 f_Tf_60 (by first | assumption | exact zS0_at (by assumption) (by omega) | exact zS0_at rfl (by omega)) (by first | assumption | exact zS0_at (by assumption) (by omega) | exact zS0_at rfl (by omega)) ?_
                    refine z_getR d_Tf_price_34 f_Tf_230 (by first | assumption | exact zS0_at (by assumption) (by omega) | exact zS0_at rfl (by omega)) (by first | assumption | exact zS0_at (by assumption) (by omega) | exact zS0_at rfl (by omega)) ?_
                    refine z_iload_1 d_Tf_price_37 ?_
                    refine z_iload_2 d_Tf_price_38 ?_
                    first | refine z_iastN d_Tf_price_39 (by first | assumption | exact zS0_at (by assumption) (by omega) | exact zS0_at rfl (by omega)) (by omega) (by first | decide | omega) ?_ | refine z_iast d_Tf_price_39 (by first | assumption | exact zS0_at (by assumption) (by omega) | exact zS0_at rfl (by omega)) (by first | assumption | exact zS0_at (by assumption) (by omega) | exact zS0_at rfl (by omega)) ?_
                    refine z_aload_0 d_Tf_price_40 ?_
                    refine z_Vi0 d_Tf_price_41 k_Tf_126 (by first | assumption | exact zS0_at (by assumption) (by omega) | exact zS0_at rfl (by omega)) (t_Tf_agree (by assumption)) ⟨Nat.le_of_ble_eq_true rfl, Nat.le_of_ble_eq_true rfl, Nat.le_of_ble_eq_true rfl, Nat.le_of_ble_eq_true rfl⟩ (Nat.le_of_ble_eq_true rfl) ?_
                    intro r w hq
                    obtain ⟨rfl, rfl⟩ := hq
                    refine z_retz d_Tf_price_44 (by first | exact zb0 | exact zb1 | assumption) ?_
                    exact ⟨rfl, rfl⟩)
              · first
                | (simp (disch := omega) only [← nI_0, nI_leI, nI_ltI, nI_eq, not_true_eq_false, not_false_eq_true] at h21; done)
                | (simp (disch := omega) only [← nI_0, nI_leI, nI_ltI, nI_eq, not_true_eq_false, not_false_eq_true] at h21; omega)
                | contradiction
                | exact absurd h21 (Int32.not_lt.mpr (by assumption))
                | exact absurd h21 (Int32.not_le.mpr (by assumption))
                | exact absurd h21 (by decide)
                | exact absurd (by decide) h21
                | ( try simp (disch := omega) only [← nI_0, nI_leI, nI_ltI, nI_eq, not_true_eq_false, not_false_eq_true] at h21
                    (try have h21b := zbit_n0.mp h21); (try have h21b := zbit_p0.mp h21)
                    refine z_aload_0 d_Tf_price_24 ?_
                    refine z_iconst (a := nI 5) d_Tf_price_25 (by decide) ?_
                    refine z_Vi1 d_Tf_price_26 k_Tf_119 (by first | assumption | exact zS0_at (by assumption) (by omega) | exact zS0_at rfl (by omega)) (t_Tf_refuse (by assumption)) ⟨Nat.le_of_ble_eq_true rfl, Nat.le_of_ble_eq_true rfl, Nat.le_of_ble_eq_true rfl, Nat.le_of_ble_eq_true rfl⟩ (Nat.le_of_ble_eq_true rfl) ?_
                    intro r w hq
                    obtain ⟨rfl, rfl⟩ := hq
                    refine z_retz d_Tf_price_29 (by first | exact zb0 | exact zb1 | assumption) ?_
                    exact ⟨rfl, rfl⟩)))
theorem t_Mo_price_o (M : modOk P S) (N : modIn I nt np nl nn) (h : ¬ zin a nt) : zEi G y_Mo_price prog_14_method_100_code 3 (some .boolean) 3 [.ref 145, .int a, .int b] (I, J, P, S) (fun r w => r = nI 0 ∧ mW I J P S 2 w) := by
  obtain ⟨M0, ⟨M4, M4s⟩, ⟨M5, M5s⟩, ⟨M6, M6s⟩, ⟨M7, M7s⟩, ⟨M20, M20s⟩, ⟨M21, M21s⟩, ⟨M22, M22s⟩, ⟨M26, M26s⟩, ⟨M27, M27s⟩, ⟨M28, M28s⟩, ⟨M30, M30s⟩, ⟨M34, M34s⟩, ⟨M36, M36s⟩, ⟨M37, M37s⟩⟩ := id M
  obtain ⟨I1, hI1, N1, h1, h0, e150, er, ek⟩ := mo_beg N
  obtain ⟨⟨m0, m0b⟩, ⟨m1, m1b⟩, ⟨m2, m2b⟩, ⟨m3, m3b⟩, mof, mon⟩ := id N1
  have hD : mD I I1 := ⟨h1, h0, e150, er⟩
  refine zEi_of (lv := [some (.ref 145), some (.int a), some (.int b)]) (by decide) rfl (Nat.le_of_ble_eq_true rfl) ?_
  refine z_aload_0 d_Mo_price_0 ?_
  refine z_iconst (a := nI 0) d_Mo_price_1 (by decide) ?_
  refine z_putI d_Mo_price_2 f_Mo_70 (by first | assumption | exact zS0_at (by assumption) (by omega) | exact zS0_at rfl (by omega)) ?_
  refine z_aload_0 d_Mo_price_5 ?_
  refine z_iconst (a := nI 0) d_Mo_price_6 (by decide) ?_
  refine z_putI d_Mo_price_7 f_Mo_73 (by first | assumption | exact zS0_at (by assumption) (by omega) | exact zS0_at rfl (by omega)) ?_
  rw [← hI1]
  refine z_aload_0 d_Mo_price_10 ?_
  refine z_iload_1 d_Mo_price_11 ?_
  refine z_Vi1 d_Mo_price_12 k_Mo_333 (by first | assumption | exact zS0_at (by assumption) (by omega) | exact zS0_at rfl (by omega)) (t_Mo_isTraitAt M N1) ⟨Nat.le_of_ble_eq_true rfl, Nat.le_of_ble_eq_true rfl, Nat.le_of_ble_eq_true rfl, Nat.le_of_ble_eq_true rfl⟩ (Nat.le_of_ble_eq_true rfl) ?_
  intro r w hq
  rcases hq with ⟨⟨hz12, rfl⟩ | ⟨hz12, rfl⟩, rfl⟩
  · first
    | contradiction
    | ( skip
        refine z_if_ne (tgt := 24) d_Mo_price_15 (by decide) (fun _ => ?_) (fun h => absurd h (by decide))
        contradiction)
  · first
    | contradiction
    | ( skip
        refine z_if_ne (tgt := 24) d_Mo_price_15 (by decide) (fun h => absurd h (by decide)) (fun _ => ?_)
        refine z_aload_0 d_Mo_price_18 ?_
        refine z_iconst (a := nI 2) d_Mo_price_19 (by decide) ?_
        refine z_Vi1 d_Mo_price_20 k_Mo_85 (by first | assumption | exact zS0_at (by assumption) (by omega) | exact zS0_at rfl (by omega)) (t_Mo_no (by assumption)) ⟨Nat.le_of_ble_eq_true rfl, Nat.le_of_ble_eq_true rfl, Nat.le_of_ble_eq_true rfl, Nat.le_of_ble_eq_true rfl⟩ (Nat.le_of_ble_eq_true rfl) ?_
        intro r w hq
        obtain ⟨rfl, rfl⟩ := hq
        refine z_retz d_Mo_price_23 (by first | exact zb0 | exact zb1 | assumption) ?_
        exact ⟨by first | rfl | assumption | (rw [e150]), _, _, rfl, (by repeat (first | exact h1 | refine mqF_z ?_ (by decide))), mqJ_r, (by first | exact zu_same _ _ _ _ | exact h0)⟩)
theorem t_Mo_price_b {k : Nat} (M : modOk P S) (N : modIn I nt np nl nn) (hk : k < nt) (hb : ¬ zin b 100) : zEi G y_Mo_price prog_14_method_100_code 3 (some .boolean) 3 [.ref 145, .int (nI k), .int b] (I, J, P, S) (fun r w => r = nI 0 ∧ mW I J P S 5 w) := by
  obtain ⟨M0, ⟨M4, M4s⟩, ⟨M5, M5s⟩, ⟨M6, M6s⟩, ⟨M7, M7s⟩, ⟨M20, M20s⟩, ⟨M21, M21s⟩, ⟨M22, M22s⟩, ⟨M26, M26s⟩, ⟨M27, M27s⟩, ⟨M28, M28s⟩, ⟨M30, M30s⟩, ⟨M34, M34s⟩, ⟨M36, M36s⟩, ⟨M37, M37s⟩⟩ := id M
  obtain ⟨I1, hI1, N1, h1, h0, e150, er, ek⟩ := mo_beg N
  obtain ⟨⟨m0, m0b⟩, ⟨m1, m1b⟩, ⟨m2, m2b⟩, ⟨m3, m3b⟩, mof, mon⟩ := id N1
  have hD : mD I I1 := ⟨h1, h0, e150, er⟩
  refine zEi_of (lv := [some (.ref 145), some (.int (nI k)), some (.int b)]) (by decide) rfl (Nat.le_of_ble_eq_true rfl) ?_
  refine z_aload_0 d_Mo_price_0 ?_
  refine z_iconst (a := nI 0) d_Mo_price_1 (by decide) ?_
  refine z_putI d_Mo_price_2 f_Mo_70 (by first | assumption | exact zS0_at (by assumption) (by omega) | exact zS0_at rfl (by omega)) ?_
  refine z_aload_0 d_Mo_price_5 ?_
  refine z_iconst (a := nI 0) d_Mo_price_6 (by decide) ?_
  refine z_putI d_Mo_price_7 f_Mo_73 (by first | assumption | exact zS0_at (by assumption) (by omega) | exact zS0_at rfl (by omega)) ?_
  rw [← hI1]
  have hz : zin (nI k) nt := ⟨k, by omega, rfl⟩
  refine z_aload_0 d_Mo_price_10 ?_
  refine z_iload_1 d_Mo_price_11 ?_
  refine z_Vi1 d_Mo_price_12 k_Mo_333 (by first | assumption | exact zS0_at (by assumption) (by omega) | exact zS0_at rfl (by omega)) (t_Mo_isTraitAt M N1) ⟨Nat.le_of_ble_eq_true rfl, Nat.le_of_ble_eq_true rfl, Nat.le_of_ble_eq_true rfl, Nat.le_of_ble_eq_true rfl⟩ (Nat.le_of_ble_eq_true rfl) ?_
  intro r w hq
  rcases hq with ⟨⟨hz12, rfl⟩ | ⟨hz12, rfl⟩, rfl⟩
  · first
    | contradiction
    | ( skip
        refine z_if_ne (tgt := 24) d_Mo_price_15 (by decide) (fun _ => ?_) (fun h => absurd h (by decide))
        refine z_iload_2 d_Mo_price_24 ?_
        refine z_i2l d_Mo_price_25 ?_
        refine z_lconst (f := lN 0) d_Mo_price_26 rfl ?_
        refine z_ldc2 d_Mo_price_27 c_Mo_370 ?_
        refine z_Si3 d_Mo_price_30 k_Mo_105 (t_Mo_isInZ (m := 100) (by decide) (by decide)) ⟨Nat.le_of_ble_eq_true rfl, Nat.le_of_ble_eq_true rfl, Nat.le_of_ble_eq_true rfl, Nat.le_of_ble_eq_true rfl⟩ (Nat.le_of_ble_eq_true rfl) ?_
        intro r w hq
        rcases hq with ⟨⟨hz30, rfl⟩ | ⟨hz30, rfl⟩, rfl⟩
        · first
          | contradiction
          | ( skip
              refine z_if_ne (tgt := 42) d_Mo_price_33 (by decide) (fun _ => ?_) (fun h => absurd h (by decide))
              contradiction)
        · first
          | contradiction
          | ( skip
              refine z_if_ne (tgt := 42) d_Mo_price_33 (by decide) (fun h => absurd h (by decide)) (fun _ => ?_)
              refine z_aload_0 d_Mo_price_36 ?_
              refine z_iconst (a := nI 5) d_Mo_price_37 (by decide) ?_
              refine z_Vi1 d_Mo_price_38 k_Mo_85 (by first | assumption | exact zS0_at (by assumption) (by omega) | exact zS0_at rfl (by omega)) (t_Mo_no (by assumption)) ⟨Nat.le_of_ble_eq_true rfl, Nat.le_of_ble_eq_true rfl, Nat.le_of_ble_eq_true rfl, Nat.le_of_ble_eq_true rfl⟩ (Nat.le_of_ble_eq_true rfl) ?_
              intro r w hq
              obtain ⟨rfl, rfl⟩ := hq
              refine z_retz d_Mo_price_41 (by first | exact zb0 | exact zb1 | assumption) ?_
              exact ⟨by first | rfl | assumption | (rw [e150]), _, _, rfl, (by repeat (first | exact h1 | refine mqF_z ?_ (by decide))), mqJ_r, (by first | exact zu_same _ _ _ _ | exact h0)⟩))
  · first
    | contradiction
    | ( skip
        refine z_if_ne (tgt := 24) d_Mo_price_15 (by decide) (fun h => absurd h (by decide)) (fun _ => ?_)
        refine z_aload_0 d_Mo_price_18 ?_
        refine z_iconst (a := nI 2) d_Mo_price_19 (by decide) ?_
        refine z_Vi1 d_Mo_price_20 k_Mo_85 (by first | assumption | exact zS0_at (by assumption) (by omega) | exact zS0_at rfl (by omega)) (t_Mo_no (by assumption)) ⟨Nat.le_of_ble_eq_true rfl, Nat.le_of_ble_eq_true rfl, Nat.le_of_ble_eq_true rfl, Nat.le_of_ble_eq_true rfl⟩ (Nat.le_of_ble_eq_true rfl) ?_
        intro r w hq
        obtain ⟨rfl, rfl⟩ := hq
        refine z_retz d_Mo_price_23 (by first | exact zb0 | exact zb1 | assumption) ?_
        exact ⟨by first | rfl | assumption | (rw [e150]), _, _, rfl, (by repeat (first | exact h1 | refine mqF_z ?_ (by decide))), mqJ_r, (by first | exact zu_same _ _ _ _ | exact h0)⟩)
theorem t_Mo_price {k v : Nat} (M : modOk P S) (N : modIn I nt np nl nn) (hk : k < nt) (hv : v ≤ 99) : zEi G y_Mo_price prog_14_method_100_code 3 (some .boolean) 3 [.ref 145, .int (nI k), .int (nI v)] (I, J, P, S) (fun r w => r = nI 1 ∧ ∃ I1, mD I I1 ∧ w = (zu I1 150 (6 + k) (nI v), J, P, S)) := by
  obtain ⟨M0, ⟨M4, M4s⟩, ⟨M5, M5s⟩, ⟨M6, M6s⟩, ⟨M7, M7s⟩, ⟨M20, M20s⟩, ⟨M21, M21s⟩, ⟨M22, M22s⟩, ⟨M26, M26s⟩, ⟨M27, M27s⟩, ⟨M28, M28s⟩, ⟨M30, M30s⟩, ⟨M34, M34s⟩, ⟨M36, M36s⟩, ⟨M37, M37s⟩⟩ := id M
  obtain ⟨I1, hI1, N1, h1, h0, e150, er, ek⟩ := mo_beg N
  obtain ⟨⟨m0, m0b⟩, ⟨m1, m1b⟩, ⟨m2, m2b⟩, ⟨m3, m3b⟩, mof, mon⟩ := id N1
  have hD : mD I I1 := ⟨h1, h0, e150, er⟩
  refine zEi_of (lv := [some (.ref 145), some (.int (nI k)), some (.int (nI v))]) (by decide) rfl (Nat.le_of_ble_eq_true rfl) ?_
  refine z_aload_0 d_Mo_price_0 ?_
  refine z_iconst (a := nI 0) d_Mo_price_1 (by decide) ?_
  refine z_putI d_Mo_price_2 f_Mo_70 (by first | assumption | exact zS0_at (by assumption) (by omega) | exact zS0_at rfl (by omega)) ?_
  refine z_aload_0 d_Mo_price_5 ?_
  refine z_iconst (a := nI 0) d_Mo_price_6 (by decide) ?_
  refine z_putI d_Mo_price_7 f_Mo_73 (by first | assumption | exact zS0_at (by assumption) (by omega) | exact zS0_at rfl (by omega)) ?_
  rw [← hI1]
  have hz : zin (nI k) nt := ⟨k, by omega, rfl⟩
  have hzv : zin (nI v) 100 := ⟨v, by omega, rfl⟩
  refine z_aload_0 d_Mo_price_10 ?_
  refine z_iload_1 d_Mo_price_11 ?_
  refine z_Vi1 d_Mo_price_12 k_Mo_333 (by first | assumption | exact zS0_at (by assumption) (by omega) | exact zS0_at rfl (by omega)) (t_Mo_isTraitAt M N1) ⟨Nat.le_of_ble_eq_true rfl, Nat.le_of_ble_eq_true rfl, Nat.le_of_ble_eq_true rfl, Nat.le_of_ble_eq_true rfl⟩ (Nat.le_of_ble_eq_true rfl) ?_
  intro r w hq
  rcases hq with ⟨⟨hz12, rfl⟩ | ⟨hz12, rfl⟩, rfl⟩
  · first
    | contradiction
    | ( skip
        refine z_if_ne (tgt := 24) d_Mo_price_15 (by decide) (fun _ => ?_) (fun h => absurd h (by decide))
        refine z_iload_2 d_Mo_price_24 ?_
        refine z_i2l d_Mo_price_25 ?_
        refine z_lconst (f := lN 0) d_Mo_price_26 rfl ?_
        refine z_ldc2 d_Mo_price_27 c_Mo_370 ?_
        refine z_Si3 d_Mo_price_30 k_Mo_105 (t_Mo_isInZ (m := 100) (by decide) (by decide)) ⟨Nat.le_of_ble_eq_true rfl, Nat.le_of_ble_eq_true rfl, Nat.le_of_ble_eq_true rfl, Nat.le_of_ble_eq_true rfl⟩ (Nat.le_of_ble_eq_true rfl) ?_
        intro r w hq
        rcases hq with ⟨⟨hz30, rfl⟩ | ⟨hz30, rfl⟩, rfl⟩
        · first
          | contradiction
          | ( skip
              refine z_if_ne (tgt := 42) d_Mo_price_33 (by decide) (fun _ => ?_) (fun h => absurd h (by decide))
              refine z_aload_0 d_Mo_price_42 ?_
              refine z_getR d_Mo_price_43 f_Mo_35 (by first | assumption | exact zS0_at (by assumption) (by omega) | exact zS0_at rfl (by omega)) (by first | assumption | exact zS0_at (by assumption) (by omega) | exact zS0_at rfl (by omega)) ?_
              refine z_bipush (a := nI 6) d_Mo_price_46 (by decide) ?_
              refine z_iload_1 d_Mo_price_48 ?_
              first | refine z_iaddN d_Mo_price_49 ?_ | refine z_iadd d_Mo_price_49 ?_
              refine z_iload_2 d_Mo_price_50 ?_
              first | refine z_iastN d_Mo_price_51 (by first | assumption | exact zS0_at (by assumption) (by omega) | exact zS0_at rfl (by omega)) (by omega) (by first | decide | omega) ?_ | refine z_iast d_Mo_price_51 (by first | assumption | exact zS0_at (by assumption) (by omega) | exact zS0_at rfl (by omega)) (by first | assumption | exact zS0_at (by assumption) (by omega) | exact zS0_at rfl (by omega)) ?_
              refine z_iconst (a := nI 1) d_Mo_price_52 (by decide) ?_
              refine z_retz d_Mo_price_53 (by first | exact zb0 | exact zb1 | assumption) ?_
              exact ⟨rfl, I1, hD, rfl⟩)
        · first
          | contradiction
          | ( skip
              refine z_if_ne (tgt := 42) d_Mo_price_33 (by decide) (fun h => absurd h (by decide)) (fun _ => ?_)
              refine z_aload_0 d_Mo_price_36 ?_
              refine z_iconst (a := nI 5) d_Mo_price_37 (by decide) ?_
              refine z_Vi1 d_Mo_price_38 k_Mo_85 (by first | assumption | exact zS0_at (by assumption) (by omega) | exact zS0_at rfl (by omega)) (t_Mo_no (by assumption)) ⟨Nat.le_of_ble_eq_true rfl, Nat.le_of_ble_eq_true rfl, Nat.le_of_ble_eq_true rfl, Nat.le_of_ble_eq_true rfl⟩ (Nat.le_of_ble_eq_true rfl) ?_
              intro r w hq
              obtain ⟨rfl, rfl⟩ := hq
              refine z_retz d_Mo_price_41 (by first | exact zb0 | exact zb1 | assumption) ?_
              exact ⟨rfl, I1, hD, rfl⟩))
  · first
    | contradiction
    | ( skip
        refine z_if_ne (tgt := 24) d_Mo_price_15 (by decide) (fun h => absurd h (by decide)) (fun _ => ?_)
        refine z_aload_0 d_Mo_price_18 ?_
        refine z_iconst (a := nI 2) d_Mo_price_19 (by decide) ?_
        refine z_Vi1 d_Mo_price_20 k_Mo_85 (by first | assumption | exact zS0_at (by assumption) (by omega) | exact zS0_at rfl (by omega)) (t_Mo_no (by assumption)) ⟨Nat.le_of_ble_eq_true rfl, Nat.le_of_ble_eq_true rfl, Nat.le_of_ble_eq_true rfl, Nat.le_of_ble_eq_true rfl⟩ (Nat.le_of_ble_eq_true rfl) ?_
        intro r w hq
        obtain ⟨rfl, rfl⟩ := hq
        refine z_retz d_Mo_price_23 (by first | exact zb0 | exact zb1 | assumption) ?_
        exact ⟨rfl, I1, hD, rfl⟩)
theorem L_price (h : zInv n w) : zEi G y_Tf_price prog_1_method_25_code 3 (some .boolean) 3 [.ref 0, .int a, .int b] w (fun r w1 => w1.2.2.2 = w.2.2.2 ∧ zEi G y_Mo_price prog_14_method_100_code 3 (some .boolean) 3 [.ref 145, .int a, .int b] w1 (fun r' w2 => r' = r ∧ zInv (n + 1) w2)) := by
  obtain ⟨f, d, nt, np, nl, nn, fed, mk, I, J, P, S, rfl, Z, X⟩ := h
  have M := clOk_M Z
  have hf := clOk_f Z
  have N := stR_fen X
  have N0 := stR_mod X
  have fm := stR_fm X
  obtain ⟨⟨⟨a1, r1, b1⟩, ⟨a2, r2, b2⟩, ⟨a3, r3, b3⟩, ⟨a4, r4, b4⟩⟩, ⟨⟨o, ob, ao, ro⟩, r5⟩, fw, fp, ft, fz⟩ := id fm
  rcases zin_or a nt (by omega) with ⟨-, h⟩ | ⟨k, hk, rfl⟩
  · exact L_q Z X (t_Tf_price_o Z N h) (fun I' J' e _ => ⟨_, rfl, t_Mo_price_o M (modIn_c N0 (e 150 (by decide))) h⟩)
  rcases zin_or b 100 (by omega) with ⟨-, h⟩ | ⟨v, hv, rfl⟩
  · exact L_q Z X (t_Tf_price_b Z N hk h) (fun I' J' e _ => ⟨_, rfl, t_Mo_price_b M (modIn_c N0 (e 150 (by decide))) hk h⟩)
  refine zEi_mono (t_Tf_price Z N hk (Nat.le_of_lt_succ hv)) ?_
  rintro r w ⟨rfl, rfl⟩
  refine ⟨rfl, zEi_mono (t_Mo_price M (modIn_c N0 (by rw [zu_row _ _ _ _ (by decide), zu_row _ _ _ _ (by omega)])) hk (Nat.le_of_lt_succ hv)) ?_⟩
  rintro r w ⟨rfl, I1, hD, rfl⟩
  refine ⟨rfl, L_fin (nl' := nl) (nn' := nn) Z X (fun a ha => zu_row _ _ _ _ (by omega)) hD (fun a ha => zu_row _ _ _ _ ha) (fun k hk => zu_ne _ _ _ _ (by omega)) ?_ (Nat.le_refl _) (jL_r) ⟨X.1.2.1, X.1.2.2⟩ (fun k _ _ => by omega)⟩
  rw [sf_zu]; exact fmR_g (fmR_price hk (Nat.le_of_lt_succ hv) (by rw [hD.2.2.1, zu_row _ _ _ _ (by decide), zu_row _ _ _ _ (by omega)]; exact fm)) (by omega)
theorem t_Tf_rule_b (Z : clOk f d P S) (N : fenIn I f nt np nl nn) (hb : ¬ zin b 17) : zEi G y_Tf_rule prog_1_method_26_code 2 (some .boolean) 3 [.ref 0, .int b] (I, J, P, S) (fun r w => r = nI 0 ∧ cW I J P S 5 w) := by
  obtain ⟨⟨c0, c3, c1s⟩, ⟨c5, c2s, ctr⟩, ⟨c6, c11s, c11, c13s⟩, ⟨c7, c15s, c15⟩, ⟨c8, c16s, c16a, c16b, c17s⟩, ⟨c9, c10, cfd, F, Fd⟩, ⟨c11b, Ft⟩, ⟨c12, c69s, cmk⟩, ⟨c14, c121s, c121, c122s⟩, ⟨c15b, c123s, c123, c124s⟩, ⟨c16, c125s, c125, c126s⟩, ⟨c17, c127s, c127, c128s, ctb⟩, ⟨c18, c139s, c139, c140s⟩, ⟨c19, c141s, ⟨c141a, c142s⟩, ⟨c141b, c143s⟩, ⟨c141c, c144s⟩⟩, M⟩ := id Z
  obtain ⟨F0, ⟨F8, F8s⟩, ⟨F9, F9s⟩, ⟨F10, F10s⟩, ⟨F11, F11s⟩, ⟨F12, F12s⟩, ⟨F13, F13s⟩, ⟨F14, F14s⟩, ⟨F15, F15s⟩, ⟨F16, F16s⟩, ⟨F17, F17s⟩, ⟨F18, F18s⟩, ⟨F19, F19s⟩, ⟨Y3, Y3s⟩, ⟨Y4, Y4s⟩, ⟨Y5, Y5s⟩, ⟨Y6, Y6s⟩⟩ := id F
  obtain ⟨⟨n1, n1b⟩, ⟨n2, n2b⟩, ⟨n3, n3b⟩, ⟨n4, n4b⟩, nof, non⟩ := id N
  have hbo := zin_not (m := 16) (by decide) hb
  refine zEi_of (lv := [some (.ref 0), some (.int b)]) (by decide) rfl (Nat.le_of_ble_eq_true rfl) ?_
  rcases hbo with hbo | hbo
  · refine z_iload_1 d_Tf_rule_0 ?_
    refine z_if_lt (tgt := 10) d_Tf_rule_1 (by decide) (fun h1 => ?_) (fun h1 => ?_)
    · first
      | (simp (disch := omega) only [← nI_0, nI_leI, nI_ltI, nI_eq, not_true_eq_false, not_false_eq_true] at h1; done)
      | (simp (disch := omega) only [← nI_0, nI_leI, nI_ltI, nI_eq, not_true_eq_false, not_false_eq_true] at h1; omega)
      | contradiction
      | exact absurd h1 (Int32.not_lt.mpr (by assumption))
      | exact absurd h1 (Int32.not_le.mpr (by assumption))
      | exact absurd h1 (by decide)
      | exact absurd (by decide) h1
      | ( try simp (disch := omega) only [← nI_0, nI_leI, nI_ltI, nI_eq, not_true_eq_false, not_false_eq_true] at h1
          (try have h1b := zbit_n0.mp h1); (try have h1b := zbit_p0.mp h1)
          refine z_aload_0 d_Tf_rule_10 ?_
          refine z_iconst (a := nI 5) d_Tf_rule_11 (by decide) ?_
          refine z_Vi1 d_Tf_rule_12 k_Tf_119 (by first | assumption | exact zS0_at (by assumption) (by omega) | exact zS0_at rfl (by omega)) (t_Tf_refuse (by assumption)) ⟨Nat.le_of_ble_eq_true rfl, Nat.le_of_ble_eq_true rfl, Nat.le_of_ble_eq_true rfl, Nat.le_of_ble_eq_true rfl⟩ (Nat.le_of_ble_eq_true rfl) ?_
          intro r w hq
          obtain ⟨rfl, rfl⟩ := hq
          refine z_retz d_Tf_rule_15 (by first | exact zb0 | exact zb1 | assumption) ?_
          exact ⟨by first | rfl | assumption, cW_0⟩)
    · first
      | (simp (disch := omega) only [← nI_0, nI_leI, nI_ltI, nI_eq, not_true_eq_false, not_false_eq_true] at h1; done)
      | (simp (disch := omega) only [← nI_0, nI_leI, nI_ltI, nI_eq, not_true_eq_false, not_false_eq_true] at h1; omega)
      | contradiction
      | exact absurd h1 (Int32.not_lt.mpr (by assumption))
      | exact absurd h1 (Int32.not_le.mpr (by assumption))
      | exact absurd h1 (by decide)
      | exact absurd (by decide) h1
      | ( try simp (disch := omega) only [← nI_0, nI_leI, nI_ltI, nI_eq, not_true_eq_false, not_false_eq_true] at h1
          (try have h1b := zbit_n0.mp h1); (try have h1b := zbit_p0.mp h1)
          refine z_iload_1 d_Tf_rule_4 ?_
          refine z_bipush (a := nI 16) d_Tf_rule_5 (by decide) ?_
          refine z_icmp_le (tgt := 16) d_Tf_rule_7 (by decide) (fun h7 => ?_) (fun h7 => ?_)
          · first
            | (simp (disch := omega) only [← nI_0, nI_leI, nI_ltI, nI_eq, not_true_eq_false, not_false_eq_true] at h7; done)
            | (simp (disch := omega) only [← nI_0, nI_leI, nI_ltI, nI_eq, not_true_eq_false, not_false_eq_true] at h7; omega)
            | contradiction
            | exact absurd h7 (Int32.not_lt.mpr (by assumption))
            | exact absurd h7 (Int32.not_le.mpr (by assumption))
            | exact absurd h7 (by decide)
            | exact absurd (by decide) h7
            | ( try simp (disch := omega) only [← nI_0, nI_leI, nI_ltI, nI_eq, not_true_eq_false, not_false_eq_true] at h7
                (try have h7b := zbit_n0.mp h7); (try have h7b := zbit_p0.mp h7)
                contradiction)
          · first
            | (simp (disch := omega) only [← nI_0, nI_leI, nI_ltI, nI_eq, not_true_eq_false, not_false_eq_true] at h7; done)
            | (simp (disch := omega) only [← nI_0, nI_leI, nI_ltI, nI_eq, not_true_eq_false, not_false_eq_true] at h7; omega)
            | contradiction
            | exact absurd h7 (Int32.not_lt.mpr (by assumption))
            | exact absurd h7 (Int32.not_le.mpr (by assumption))
            | exact absurd h7 (by decide)
            | exact absurd (by decide) h7
            | ( try simp (disch := omega) only [← nI_0, nI_leI, nI_ltI, nI_eq, not_true_eq_false, not_false_eq_true] at h7
                (try have h7b := zbit_n0.mp h7); (try have h7b := zbit_p0.mp h7)
                refine z_aload_0 d_Tf_rule_10 ?_
                refine z_iconst (a := nI 5) d_Tf_rule_11 (by decide) ?_
                refine z_Vi1 d_Tf_rule_12 k_Tf_119 (by first | assumption | exact zS0_at (by assumption) (by omega) | exact zS0_at rfl (by omega)) (t_Tf_refuse (by assumption)) ⟨Nat.le_of_ble_eq_true rfl, Nat.le_of_ble_eq_true rfl, Nat.le_of_ble_eq_true rfl, Nat.le_of_ble_eq_true rfl⟩ (Nat.le_of_ble_eq_true rfl) ?_
                intro r w hq
                obtain ⟨rfl, rfl⟩ := hq
                refine z_retz d_Tf_rule_15 (by first | exact zb0 | exact zb1 | assumption) ?_
                exact ⟨by first | rfl | assumption, cW_0⟩))
  · refine z_iload_1 d_Tf_rule_0 ?_
    refine z_if_lt (tgt := 10) d_Tf_rule_1 (by decide) (fun h1 => ?_) (fun h1 => ?_)
    · first
      | (simp (disch := omega) only [← nI_0, nI_leI, nI_ltI, nI_eq, not_true_eq_false, not_false_eq_true] at h1; done)
      | (simp (disch := omega) only [← nI_0, nI_leI, nI_ltI, nI_eq, not_true_eq_false, not_false_eq_true] at h1; omega)
      | contradiction
      | exact absurd h1 (Int32.not_lt.mpr (by assumption))
      | exact absurd h1 (Int32.not_le.mpr (by assumption))
      | exact absurd h1 (by decide)
      | exact absurd (by decide) h1
      | ( try simp (disch := omega) only [← nI_0, nI_leI, nI_ltI, nI_eq, not_true_eq_false, not_false_eq_true] at h1
          (try have h1b := zbit_n0.mp h1); (try have h1b := zbit_p0.mp h1)
          refine z_aload_0 d_Tf_rule_10 ?_
          refine z_iconst (a := nI 5) d_Tf_rule_11 (by decide) ?_
          refine z_Vi1 d_Tf_rule_12 k_Tf_119 (by first | assumption | exact zS0_at (by assumption) (by omega) | exact zS0_at rfl (by omega)) (t_Tf_refuse (by assumption)) ⟨Nat.le_of_ble_eq_true rfl, Nat.le_of_ble_eq_true rfl, Nat.le_of_ble_eq_true rfl, Nat.le_of_ble_eq_true rfl⟩ (Nat.le_of_ble_eq_true rfl) ?_
          intro r w hq
          obtain ⟨rfl, rfl⟩ := hq
          refine z_retz d_Tf_rule_15 (by first | exact zb0 | exact zb1 | assumption) ?_
          exact ⟨by first | rfl | assumption, cW_0⟩)
    · first
      | (simp (disch := omega) only [← nI_0, nI_leI, nI_ltI, nI_eq, not_true_eq_false, not_false_eq_true] at h1; done)
      | (simp (disch := omega) only [← nI_0, nI_leI, nI_ltI, nI_eq, not_true_eq_false, not_false_eq_true] at h1; omega)
      | contradiction
      | exact absurd h1 (Int32.not_lt.mpr (by assumption))
      | exact absurd h1 (Int32.not_le.mpr (by assumption))
      | exact absurd h1 (by decide)
      | exact absurd (by decide) h1
      | ( try simp (disch := omega) only [← nI_0, nI_leI, nI_ltI, nI_eq, not_true_eq_false, not_false_eq_true] at h1
          (try have h1b := zbit_n0.mp h1); (try have h1b := zbit_p0.mp h1)
          refine z_iload_1 d_Tf_rule_4 ?_
          refine z_bipush (a := nI 16) d_Tf_rule_5 (by decide) ?_
          refine z_icmp_le (tgt := 16) d_Tf_rule_7 (by decide) (fun h7 => ?_) (fun h7 => ?_)
          · first
            | (simp (disch := omega) only [← nI_0, nI_leI, nI_ltI, nI_eq, not_true_eq_false, not_false_eq_true] at h7; done)
            | (simp (disch := omega) only [← nI_0, nI_leI, nI_ltI, nI_eq, not_true_eq_false, not_false_eq_true] at h7; omega)
            | contradiction
            | exact absurd h7 (Int32.not_lt.mpr (by assumption))
            | exact absurd h7 (Int32.not_le.mpr (by assumption))
            | exact absurd h7 (by decide)
            | exact absurd (by decide) h7
            | ( try simp (disch := omega) only [← nI_0, nI_leI, nI_ltI, nI_eq, not_true_eq_false, not_false_eq_true] at h7
                (try have h7b := zbit_n0.mp h7); (try have h7b := zbit_p0.mp h7)
                contradiction)
          · first
            | (simp (disch := omega) only [← nI_0, nI_leI, nI_ltI, nI_eq, not_true_eq_false, not_false_eq_true] at h7; done)
            | (simp (disch := omega) only [← nI_0, nI_leI, nI_ltI, nI_eq, not_true_eq_false, not_false_eq_true] at h7; omega)
            | contradiction
            | exact absurd h7 (Int32.not_lt.mpr (by assumption))
            | exact absurd h7 (Int32.not_le.mpr (by assumption))
            | exact absurd h7 (by decide)
            | exact absurd (by decide) h7
            | ( try simp (disch := omega) only [← nI_0, nI_leI, nI_ltI, nI_eq, not_true_eq_false, not_false_eq_true] at h7
                (try have h7b := zbit_n0.mp h7); (try have h7b := zbit_p0.mp h7)
                refine z_aload_0 d_Tf_rule_10 ?_
                refine z_iconst (a := nI 5) d_Tf_rule_11 (by decide) ?_
                refine z_Vi1 d_Tf_rule_12 k_Tf_119 (by first | assumption | exact zS0_at (by assumption) (by omega) | exact zS0_at rfl (by omega)) (t_Tf_refuse (by assumption)) ⟨Nat.le_of_ble_eq_true rfl, Nat.le_of_ble_eq_true rfl, Nat.le_of_ble_eq_true rfl, Nat.le_of_ble_eq_true rfl⟩ (Nat.le_of_ble_eq_true rfl) ?_
                intro r w hq
                obtain ⟨rfl, rfl⟩ := hq
                refine z_retz d_Tf_rule_15 (by first | exact zb0 | exact zb1 | assumption) ?_
                exact ⟨by first | rfl | assumption, cW_0⟩))
theorem t_Tf_rule {v : Nat} (Z : clOk f d P S) (N : fenIn I f nt np nl nn) (hv : v ≤ 16) : zEi G y_Tf_rule prog_1_method_26_code 2 (some .boolean) 3 [.ref 0, .int (nI v)] (I, J, P, S) (fun r w => r = nI 1 ∧ w = (zu (zu I f 0 (nI v)) 0 0 (nI 0), J, P, S)) := by
  obtain ⟨⟨c0, c3, c1s⟩, ⟨c5, c2s, ctr⟩, ⟨c6, c11s, c11, c13s⟩, ⟨c7, c15s, c15⟩, ⟨c8, c16s, c16a, c16b, c17s⟩, ⟨c9, c10, cfd, F, Fd⟩, ⟨c11b, Ft⟩, ⟨c12, c69s, cmk⟩, ⟨c14, c121s, c121, c122s⟩, ⟨c15b, c123s, c123, c124s⟩, ⟨c16, c125s, c125, c126s⟩, ⟨c17, c127s, c127, c128s, ctb⟩, ⟨c18, c139s, c139, c140s⟩, ⟨c19, c141s, ⟨c141a, c142s⟩, ⟨c141b, c143s⟩, ⟨c141c, c144s⟩⟩, M⟩ := id Z
  obtain ⟨F0, ⟨F8, F8s⟩, ⟨F9, F9s⟩, ⟨F10, F10s⟩, ⟨F11, F11s⟩, ⟨F12, F12s⟩, ⟨F13, F13s⟩, ⟨F14, F14s⟩, ⟨F15, F15s⟩, ⟨F16, F16s⟩, ⟨F17, F17s⟩, ⟨F18, F18s⟩, ⟨F19, F19s⟩, ⟨Y3, Y3s⟩, ⟨Y4, Y4s⟩, ⟨Y5, Y5s⟩, ⟨Y6, Y6s⟩⟩ := id F
  obtain ⟨⟨n1, n1b⟩, ⟨n2, n2b⟩, ⟨n3, n3b⟩, ⟨n4, n4b⟩, nof, non⟩ := id N
  refine zEi_of (lv := [some (.ref 0), some (.int (nI v))]) (by decide) rfl (Nat.le_of_ble_eq_true rfl) ?_
  refine z_iload_1 d_Tf_rule_0 ?_
  refine z_if_lt (tgt := 10) d_Tf_rule_1 (by decide) (fun h1 => ?_) (fun h1 => ?_)
  · first
    | (simp (disch := omega) only [← nI_0, nI_leI, nI_ltI, nI_eq, not_true_eq_false, not_false_eq_true] at h1; done)
    | (simp (disch := omega) only [← nI_0, nI_leI, nI_ltI, nI_eq, not_true_eq_false, not_false_eq_true] at h1; omega)
    | contradiction
    | exact absurd h1 (Int32.not_lt.mpr (by assumption))
    | exact absurd h1 (Int32.not_le.mpr (by assumption))
    | exact absurd h1 (by decide)
    | exact absurd (by decide) h1
    | ( try simp (disch := omega) only [← nI_0, nI_leI, nI_ltI, nI_eq, not_true_eq_false, not_false_eq_true] at h1
        (try have h1b := zbit_n0.mp h1); (try have h1b := zbit_p0.mp h1)
        refine z_aload_0 d_Tf_rule_10 ?_
        refine z_iconst (a := nI 5) d_Tf_rule_11 (by decide) ?_
        refine z_Vi1 d_Tf_rule_12 k_Tf_119 (by first | assumption | exact zS0_at (by assumption) (by omega) | exact zS0_at rfl (by omega)) (t_Tf_refuse (by assumption)) ⟨Nat.le_of_ble_eq_true rfl, Nat.le_of_ble_eq_true rfl, Nat.le_of_ble_eq_true rfl, Nat.le_of_ble_eq_true rfl⟩ (Nat.le_of_ble_eq_true rfl) ?_
        intro r w hq
        obtain ⟨rfl, rfl⟩ := hq
        refine z_retz d_Tf_rule_15 (by first | exact zb0 | exact zb1 | assumption) ?_
        exact ⟨rfl, rfl⟩)
  · first
    | (simp (disch := omega) only [← nI_0, nI_leI, nI_ltI, nI_eq, not_true_eq_false, not_false_eq_true] at h1; done)
    | (simp (disch := omega) only [← nI_0, nI_leI, nI_ltI, nI_eq, not_true_eq_false, not_false_eq_true] at h1; omega)
    | contradiction
    | exact absurd h1 (Int32.not_lt.mpr (by assumption))
    | exact absurd h1 (Int32.not_le.mpr (by assumption))
    | exact absurd h1 (by decide)
    | exact absurd (by decide) h1
    | ( try simp (disch := omega) only [← nI_0, nI_leI, nI_ltI, nI_eq, not_true_eq_false, not_false_eq_true] at h1
        (try have h1b := zbit_n0.mp h1); (try have h1b := zbit_p0.mp h1)
        refine z_iload_1 d_Tf_rule_4 ?_
        refine z_bipush (a := nI 16) d_Tf_rule_5 (by decide) ?_
        refine z_icmp_le (tgt := 16) d_Tf_rule_7 (by decide) (fun h7 => ?_) (fun h7 => ?_)
        · first
          | (simp (disch := omega) only [← nI_0, nI_leI, nI_ltI, nI_eq, not_true_eq_false, not_false_eq_true] at h7; done)
          | (simp (disch := omega) only [← nI_0, nI_leI, nI_ltI, nI_eq, not_true_eq_false, not_false_eq_true] at h7; omega)
          | contradiction
          | exact absurd h7 (Int32.not_lt.mpr (by assumption))
          | exact absurd h7 (Int32.not_le.mpr (by assumption))
          | exact absurd h7 (by decide)
          | exact absurd (by decide) h7
          | ( try simp (disch := omega) only [← nI_0, nI_leI, nI_ltI, nI_eq, not_true_eq_false, not_false_eq_true] at h7
              (try have h7b := zbit_n0.mp h7); (try have h7b := zbit_p0.mp h7)
              refine z_aload_0 d_Tf_rule_16 ?_
              refine z_getR d_Tf_rule_17 f_Tf_60 (by first | assumption | exact zS0_at (by assumption) (by omega) | exact zS0_at rfl (by omega)) (by first | assumption | exact zS0_at (by assumption) (by omega) | exact zS0_at rfl (by omega)) ?_
              refine z_iload_1 d_Tf_rule_20 ?_
              refine z_putI d_Tf_rule_21 f_Tf_208 (by first | assumption | exact zS0_at (by assumption) (by omega) | exact zS0_at rfl (by omega)) ?_
              refine z_aload_0 d_Tf_rule_24 ?_
              refine z_Vi0 d_Tf_rule_25 k_Tf_126 (by first | assumption | exact zS0_at (by assumption) (by omega) | exact zS0_at rfl (by omega)) (t_Tf_agree (by assumption)) ⟨Nat.le_of_ble_eq_true rfl, Nat.le_of_ble_eq_true rfl, Nat.le_of_ble_eq_true rfl, Nat.le_of_ble_eq_true rfl⟩ (Nat.le_of_ble_eq_true rfl) ?_
              intro r w hq
              obtain ⟨rfl, rfl⟩ := hq
              refine z_retz d_Tf_rule_28 (by first | exact zb0 | exact zb1 | assumption) ?_
              exact ⟨rfl, rfl⟩)
        · first
          | (simp (disch := omega) only [← nI_0, nI_leI, nI_ltI, nI_eq, not_true_eq_false, not_false_eq_true] at h7; done)
          | (simp (disch := omega) only [← nI_0, nI_leI, nI_ltI, nI_eq, not_true_eq_false, not_false_eq_true] at h7; omega)
          | contradiction
          | exact absurd h7 (Int32.not_lt.mpr (by assumption))
          | exact absurd h7 (Int32.not_le.mpr (by assumption))
          | exact absurd h7 (by decide)
          | exact absurd (by decide) h7
          | ( try simp (disch := omega) only [← nI_0, nI_leI, nI_ltI, nI_eq, not_true_eq_false, not_false_eq_true] at h7
              (try have h7b := zbit_n0.mp h7); (try have h7b := zbit_p0.mp h7)
              refine z_aload_0 d_Tf_rule_10 ?_
              refine z_iconst (a := nI 5) d_Tf_rule_11 (by decide) ?_
              refine z_Vi1 d_Tf_rule_12 k_Tf_119 (by first | assumption | exact zS0_at (by assumption) (by omega) | exact zS0_at rfl (by omega)) (t_Tf_refuse (by assumption)) ⟨Nat.le_of_ble_eq_true rfl, Nat.le_of_ble_eq_true rfl, Nat.le_of_ble_eq_true rfl, Nat.le_of_ble_eq_true rfl⟩ (Nat.le_of_ble_eq_true rfl) ?_
              intro r w hq
              obtain ⟨rfl, rfl⟩ := hq
              refine z_retz d_Tf_rule_15 (by first | exact zb0 | exact zb1 | assumption) ?_
              exact ⟨rfl, rfl⟩))
theorem t_Mo_rule_b (M : modOk P S) (N : modIn I nt np nl nn) (hb : ¬ zin b 17) : zEi G y_Mo_rule prog_14_method_101_code 2 (some .boolean) 3 [.ref 145, .int b] (I, J, P, S) (fun r w => r = nI 0 ∧ mW I J P S 5 w) := by
  obtain ⟨M0, ⟨M4, M4s⟩, ⟨M5, M5s⟩, ⟨M6, M6s⟩, ⟨M7, M7s⟩, ⟨M20, M20s⟩, ⟨M21, M21s⟩, ⟨M22, M22s⟩, ⟨M26, M26s⟩, ⟨M27, M27s⟩, ⟨M28, M28s⟩, ⟨M30, M30s⟩, ⟨M34, M34s⟩, ⟨M36, M36s⟩, ⟨M37, M37s⟩⟩ := id M
  obtain ⟨I1, hI1, N1, h1, h0, e150, er, ek⟩ := mo_beg N
  obtain ⟨⟨m0, m0b⟩, ⟨m1, m1b⟩, ⟨m2, m2b⟩, ⟨m3, m3b⟩, mof, mon⟩ := id N1
  have hD : mD I I1 := ⟨h1, h0, e150, er⟩
  refine zEi_of (lv := [some (.ref 145), some (.int b)]) (by decide) rfl (Nat.le_of_ble_eq_true rfl) ?_
  refine z_aload_0 d_Mo_rule_0 ?_
  refine z_iconst (a := nI 0) d_Mo_rule_1 (by decide) ?_
  refine z_putI d_Mo_rule_2 f_Mo_70 (by first | assumption | exact zS0_at (by assumption) (by omega) | exact zS0_at rfl (by omega)) ?_
  refine z_aload_0 d_Mo_rule_5 ?_
  refine z_iconst (a := nI 0) d_Mo_rule_6 (by decide) ?_
  refine z_putI d_Mo_rule_7 f_Mo_73 (by first | assumption | exact zS0_at (by assumption) (by omega) | exact zS0_at rfl (by omega)) ?_
  rw [← hI1]
  refine z_iload_1 d_Mo_rule_10 ?_
  refine z_i2l d_Mo_rule_11 ?_
  refine z_lconst (f := lN 0) d_Mo_rule_12 rfl ?_
  refine z_ldc2 d_Mo_rule_13 c_Mo_372 ?_
  refine z_Si3 d_Mo_rule_16 k_Mo_105 (t_Mo_isInZ (m := 17) (by decide) (by decide)) ⟨Nat.le_of_ble_eq_true rfl, Nat.le_of_ble_eq_true rfl, Nat.le_of_ble_eq_true rfl, Nat.le_of_ble_eq_true rfl⟩ (Nat.le_of_ble_eq_true rfl) ?_
  intro r w hq
  rcases hq with ⟨⟨hz16, rfl⟩ | ⟨hz16, rfl⟩, rfl⟩
  · first
    | contradiction
    | ( skip
        refine z_if_ne (tgt := 28) d_Mo_rule_19 (by decide) (fun _ => ?_) (fun h => absurd h (by decide))
        contradiction)
  · first
    | contradiction
    | ( skip
        refine z_if_ne (tgt := 28) d_Mo_rule_19 (by decide) (fun h => absurd h (by decide)) (fun _ => ?_)
        refine z_aload_0 d_Mo_rule_22 ?_
        refine z_iconst (a := nI 5) d_Mo_rule_23 (by decide) ?_
        refine z_Vi1 d_Mo_rule_24 k_Mo_85 (by first | assumption | exact zS0_at (by assumption) (by omega) | exact zS0_at rfl (by omega)) (t_Mo_no (by assumption)) ⟨Nat.le_of_ble_eq_true rfl, Nat.le_of_ble_eq_true rfl, Nat.le_of_ble_eq_true rfl, Nat.le_of_ble_eq_true rfl⟩ (Nat.le_of_ble_eq_true rfl) ?_
        intro r w hq
        obtain ⟨rfl, rfl⟩ := hq
        refine z_retz d_Mo_rule_27 (by first | exact zb0 | exact zb1 | assumption) ?_
        exact ⟨by first | rfl | assumption | (rw [e150]), _, _, rfl, (by repeat (first | exact h1 | refine mqF_z ?_ (by decide))), mqJ_r, (by first | exact zu_same _ _ _ _ | exact h0)⟩)
theorem t_Mo_rule {v : Nat} (M : modOk P S) (N : modIn I nt np nl nn) (hv : v ≤ 16) : zEi G y_Mo_rule prog_14_method_101_code 2 (some .boolean) 3 [.ref 145, .int (nI v)] (I, J, P, S) (fun r w => r = nI 1 ∧ ∃ I1, mD I I1 ∧ w = (zu I1 150 4 (nI v), J, P, S)) := by
  obtain ⟨M0, ⟨M4, M4s⟩, ⟨M5, M5s⟩, ⟨M6, M6s⟩, ⟨M7, M7s⟩, ⟨M20, M20s⟩, ⟨M21, M21s⟩, ⟨M22, M22s⟩, ⟨M26, M26s⟩, ⟨M27, M27s⟩, ⟨M28, M28s⟩, ⟨M30, M30s⟩, ⟨M34, M34s⟩, ⟨M36, M36s⟩, ⟨M37, M37s⟩⟩ := id M
  obtain ⟨I1, hI1, N1, h1, h0, e150, er, ek⟩ := mo_beg N
  obtain ⟨⟨m0, m0b⟩, ⟨m1, m1b⟩, ⟨m2, m2b⟩, ⟨m3, m3b⟩, mof, mon⟩ := id N1
  have hD : mD I I1 := ⟨h1, h0, e150, er⟩
  refine zEi_of (lv := [some (.ref 145), some (.int (nI v))]) (by decide) rfl (Nat.le_of_ble_eq_true rfl) ?_
  refine z_aload_0 d_Mo_rule_0 ?_
  refine z_iconst (a := nI 0) d_Mo_rule_1 (by decide) ?_
  refine z_putI d_Mo_rule_2 f_Mo_70 (by first | assumption | exact zS0_at (by assumption) (by omega) | exact zS0_at rfl (by omega)) ?_
  refine z_aload_0 d_Mo_rule_5 ?_
  refine z_iconst (a := nI 0) d_Mo_rule_6 (by decide) ?_
  refine z_putI d_Mo_rule_7 f_Mo_73 (by first | assumption | exact zS0_at (by assumption) (by omega) | exact zS0_at rfl (by omega)) ?_
  rw [← hI1]
  have hzv : zin (nI v) 17 := ⟨v, by omega, rfl⟩
  refine z_iload_1 d_Mo_rule_10 ?_
  refine z_i2l d_Mo_rule_11 ?_
  refine z_lconst (f := lN 0) d_Mo_rule_12 rfl ?_
  refine z_ldc2 d_Mo_rule_13 c_Mo_372 ?_
  refine z_Si3 d_Mo_rule_16 k_Mo_105 (t_Mo_isInZ (m := 17) (by decide) (by decide)) ⟨Nat.le_of_ble_eq_true rfl, Nat.le_of_ble_eq_true rfl, Nat.le_of_ble_eq_true rfl, Nat.le_of_ble_eq_true rfl⟩ (Nat.le_of_ble_eq_true rfl) ?_
  intro r w hq
  rcases hq with ⟨⟨hz16, rfl⟩ | ⟨hz16, rfl⟩, rfl⟩
  · first
    | contradiction
    | ( skip
        refine z_if_ne (tgt := 28) d_Mo_rule_19 (by decide) (fun _ => ?_) (fun h => absurd h (by decide))
        refine z_aload_0 d_Mo_rule_28 ?_
        refine z_getR d_Mo_rule_29 f_Mo_35 (by first | assumption | exact zS0_at (by assumption) (by omega) | exact zS0_at rfl (by omega)) (by first | assumption | exact zS0_at (by assumption) (by omega) | exact zS0_at rfl (by omega)) ?_
        refine z_iconst (a := nI 4) d_Mo_rule_32 (by decide) ?_
        refine z_iload_1 d_Mo_rule_33 ?_
        first | refine z_iastN d_Mo_rule_34 (by first | assumption | exact zS0_at (by assumption) (by omega) | exact zS0_at rfl (by omega)) (by omega) (by first | decide | omega) ?_ | refine z_iast d_Mo_rule_34 (by first | assumption | exact zS0_at (by assumption) (by omega) | exact zS0_at rfl (by omega)) (by first | assumption | exact zS0_at (by assumption) (by omega) | exact zS0_at rfl (by omega)) ?_
        refine z_iconst (a := nI 1) d_Mo_rule_35 (by decide) ?_
        refine z_retz d_Mo_rule_36 (by first | exact zb0 | exact zb1 | assumption) ?_
        exact ⟨rfl, I1, hD, rfl⟩)
  · first
    | contradiction
    | ( skip
        refine z_if_ne (tgt := 28) d_Mo_rule_19 (by decide) (fun h => absurd h (by decide)) (fun _ => ?_)
        refine z_aload_0 d_Mo_rule_22 ?_
        refine z_iconst (a := nI 5) d_Mo_rule_23 (by decide) ?_
        refine z_Vi1 d_Mo_rule_24 k_Mo_85 (by first | assumption | exact zS0_at (by assumption) (by omega) | exact zS0_at rfl (by omega)) (t_Mo_no (by assumption)) ⟨Nat.le_of_ble_eq_true rfl, Nat.le_of_ble_eq_true rfl, Nat.le_of_ble_eq_true rfl, Nat.le_of_ble_eq_true rfl⟩ (Nat.le_of_ble_eq_true rfl) ?_
        intro r w hq
        obtain ⟨rfl, rfl⟩ := hq
        refine z_retz d_Mo_rule_27 (by first | exact zb0 | exact zb1 | assumption) ?_
        exact ⟨rfl, I1, hD, rfl⟩)
theorem L_rule (h : zInv n w) : zEi G y_Tf_rule prog_1_method_26_code 2 (some .boolean) 3 [.ref 0, .int b] w (fun r w1 => w1.2.2.2 = w.2.2.2 ∧ zEi G y_Mo_rule prog_14_method_101_code 2 (some .boolean) 3 [.ref 145, .int b] w1 (fun r' w2 => r' = r ∧ zInv (n + 1) w2)) := by
  obtain ⟨f, d, nt, np, nl, nn, fed, mk, I, J, P, S, rfl, Z, X⟩ := h
  have M := clOk_M Z
  have hf := clOk_f Z
  have N := stR_fen X
  have N0 := stR_mod X
  have fm := stR_fm X
  obtain ⟨⟨⟨a1, r1, b1⟩, ⟨a2, r2, b2⟩, ⟨a3, r3, b3⟩, ⟨a4, r4, b4⟩⟩, ⟨⟨o, ob, ao, ro⟩, r5⟩, fw, fp, ft, fz⟩ := id fm
  rcases zin_or b 17 (by omega) with ⟨-, h⟩ | ⟨v, hv, rfl⟩
  · exact L_q Z X (t_Tf_rule_b Z N h) (fun I' J' e _ => ⟨_, rfl, t_Mo_rule_b M (modIn_c N0 (e 150 (by decide))) h⟩)
  refine zEi_mono (t_Tf_rule Z N (Nat.le_of_lt_succ hv)) ?_
  rintro r w ⟨rfl, rfl⟩
  refine ⟨rfl, zEi_mono (t_Mo_rule M (modIn_c N0 (by rw [zu_row _ _ _ _ (by decide), zu_row _ _ _ _ (by omega)])) (Nat.le_of_lt_succ hv)) ?_⟩
  rintro r w ⟨rfl, I1, hD, rfl⟩
  refine ⟨rfl, L_fin (nl' := nl) (nn' := nn) Z X (fun a ha => zu_row _ _ _ _ (by omega)) hD (fun a ha => zu_row _ _ _ _ ha) (fun k hk => zu_ne _ _ _ _ (by omega)) ?_ (Nat.le_refl _) (jL_r) ⟨X.1.2.1, X.1.2.2⟩ (fun k _ _ => by omega)⟩
  rw [sf_zu0]; exact fmR_g (fmR_rule (Nat.le_of_lt_succ hv) (by rw [hD.2.2.1, zu_row _ _ _ _ (by decide), zu_row _ _ _ _ (by omega)]; exact fm)) (by omega)
theorem t_Tf_drop_o (Z : clOk f d P S) (N : fenIn I f nt np nl nn) (h : ¬ zin a nn) : zEi G y_Tf_drop prog_1_method_21_code 4 (some .int) 4 [.ref 0, .int a] (I, J, P, S) (fun r w => r = -1 ∧ cW I J P S 2 w) := by
  obtain ⟨⟨c0, c3, c1s⟩, ⟨c5, c2s, ctr⟩, ⟨c6, c11s, c11, c13s⟩, ⟨c7, c15s, c15⟩, ⟨c8, c16s, c16a, c16b, c17s⟩, ⟨c9, c10, cfd, F, Fd⟩, ⟨c11b, Ft⟩, ⟨c12, c69s, cmk⟩, ⟨c14, c121s, c121, c122s⟩, ⟨c15b, c123s, c123, c124s⟩, ⟨c16, c125s, c125, c126s⟩, ⟨c17, c127s, c127, c128s, ctb⟩, ⟨c18, c139s, c139, c140s⟩, ⟨c19, c141s, ⟨c141a, c142s⟩, ⟨c141b, c143s⟩, ⟨c141c, c144s⟩⟩, M⟩ := id Z
  obtain ⟨F0, ⟨F8, F8s⟩, ⟨F9, F9s⟩, ⟨F10, F10s⟩, ⟨F11, F11s⟩, ⟨F12, F12s⟩, ⟨F13, F13s⟩, ⟨F14, F14s⟩, ⟨F15, F15s⟩, ⟨F16, F16s⟩, ⟨F17, F17s⟩, ⟨F18, F18s⟩, ⟨F19, F19s⟩, ⟨Y3, Y3s⟩, ⟨Y4, Y4s⟩, ⟨Y5, Y5s⟩, ⟨Y6, Y6s⟩⟩ := id F
  obtain ⟨⟨n1, n1b⟩, ⟨n2, n2b⟩, ⟨n3, n3b⟩, ⟨n4, n4b⟩, nof, non⟩ := id N
  refine zEi_of (lv := [some (.ref 0), some (.int a), none, none]) (by decide) rfl (Nat.le_of_ble_eq_true rfl) ?_
  refine z_aload_0 d_Tf_drop_0 ?_
  refine z_iload_1 d_Tf_drop_1 ?_
  refine z_Vi1 d_Tf_drop_2 k_Tf_276 (by first | assumption | exact zS0_at (by assumption) (by omega) | exact zS0_at rfl (by omega)) (t_Tf_tinStatus_o Z N h) ⟨Nat.le_of_ble_eq_true rfl, Nat.le_of_ble_eq_true rfl, Nat.le_of_ble_eq_true rfl, Nat.le_of_ble_eq_true rfl⟩ (Nat.le_of_ble_eq_true rfl) ?_
  intro r w hq
  obtain ⟨rfl, rfl⟩ := hq
  first | refine z_istore_2 d_Tf_drop_5 rfl ?_ | (refine z_forget_1 ?_; refine z_istore_2 d_Tf_drop_5 rfl ?_)
  refine z_iload_2 d_Tf_drop_6 ?_
  refine z_if_eq (tgt := 16) d_Tf_drop_7 (by decide) (fun h7 => ?_) (fun h7 => ?_)
  · first
    | (simp (disch := omega) only [← nI_0, nI_leI, nI_ltI, nI_eq, not_true_eq_false, not_false_eq_true] at h7; done)
    | (simp (disch := omega) only [← nI_0, nI_leI, nI_ltI, nI_eq, not_true_eq_false, not_false_eq_true] at h7; omega)
    | contradiction
    | exact absurd h7 (Int32.not_lt.mpr (by assumption))
    | exact absurd h7 (Int32.not_le.mpr (by assumption))
    | exact absurd h7 (by decide)
    | exact absurd (by decide) h7
    | ( try simp (disch := omega) only [← nI_0, nI_leI, nI_ltI, nI_eq, not_true_eq_false, not_false_eq_true] at h7
        (try have h7b := zbit_n0.mp h7); (try have h7b := zbit_p0.mp h7)
        skip)
  · first
    | (simp (disch := omega) only [← nI_0, nI_leI, nI_ltI, nI_eq, not_true_eq_false, not_false_eq_true] at h7; done)
    | (simp (disch := omega) only [← nI_0, nI_leI, nI_ltI, nI_eq, not_true_eq_false, not_false_eq_true] at h7; omega)
    | contradiction
    | exact absurd h7 (Int32.not_lt.mpr (by assumption))
    | exact absurd h7 (Int32.not_le.mpr (by assumption))
    | exact absurd h7 (by decide)
    | exact absurd (by decide) h7
    | ( try simp (disch := omega) only [← nI_0, nI_leI, nI_ltI, nI_eq, not_true_eq_false, not_false_eq_true] at h7
        (try have h7b := zbit_n0.mp h7); (try have h7b := zbit_p0.mp h7)
        refine z_aload_0 d_Tf_drop_10 ?_
        refine z_iload_2 d_Tf_drop_11 ?_
        refine z_Vi1 d_Tf_drop_12 k_Tf_138 (by first | assumption | exact zS0_at (by assumption) (by omega) | exact zS0_at rfl (by omega)) (t_Tf_fail (by assumption)) ⟨Nat.le_of_ble_eq_true rfl, Nat.le_of_ble_eq_true rfl, Nat.le_of_ble_eq_true rfl, Nat.le_of_ble_eq_true rfl⟩ (Nat.le_of_ble_eq_true rfl) ?_
        intro r w hq
        obtain ⟨rfl, rfl⟩ := hq
        refine z_reti d_Tf_drop_15 ?_
        exact ⟨by first | rfl | assumption, cW_0⟩)
theorem t_Tf_drop_g {t : Nat} (Z : clOk f d P S) (N : fenIn I f nt np nl nn) (ht : t < nn) (hg : I (f + 6) t = -1) : zEi G y_Tf_drop prog_1_method_21_code 4 (some .int) 4 [.ref 0, .int (nI t)] (I, J, P, S) (fun r w => r = -1 ∧ cW I J P S 9 w) := by
  obtain ⟨⟨c0, c3, c1s⟩, ⟨c5, c2s, ctr⟩, ⟨c6, c11s, c11, c13s⟩, ⟨c7, c15s, c15⟩, ⟨c8, c16s, c16a, c16b, c17s⟩, ⟨c9, c10, cfd, F, Fd⟩, ⟨c11b, Ft⟩, ⟨c12, c69s, cmk⟩, ⟨c14, c121s, c121, c122s⟩, ⟨c15b, c123s, c123, c124s⟩, ⟨c16, c125s, c125, c126s⟩, ⟨c17, c127s, c127, c128s, ctb⟩, ⟨c18, c139s, c139, c140s⟩, ⟨c19, c141s, ⟨c141a, c142s⟩, ⟨c141b, c143s⟩, ⟨c141c, c144s⟩⟩, M⟩ := id Z
  obtain ⟨F0, ⟨F8, F8s⟩, ⟨F9, F9s⟩, ⟨F10, F10s⟩, ⟨F11, F11s⟩, ⟨F12, F12s⟩, ⟨F13, F13s⟩, ⟨F14, F14s⟩, ⟨F15, F15s⟩, ⟨F16, F16s⟩, ⟨F17, F17s⟩, ⟨F18, F18s⟩, ⟨F19, F19s⟩, ⟨Y3, Y3s⟩, ⟨Y4, Y4s⟩, ⟨Y5, Y5s⟩, ⟨Y6, Y6s⟩⟩ := id F
  obtain ⟨⟨n1, n1b⟩, ⟨n2, n2b⟩, ⟨n3, n3b⟩, ⟨n4, n4b⟩, nof, non⟩ := id N
  refine zEi_of (lv := [some (.ref 0), some (.int (nI t)), none, none]) (by decide) rfl (Nat.le_of_ble_eq_true rfl) ?_
  refine z_aload_0 d_Tf_drop_0 ?_
  refine z_iload_1 d_Tf_drop_1 ?_
  refine z_Vi1 d_Tf_drop_2 k_Tf_276 (by first | assumption | exact zS0_at (by assumption) (by omega) | exact zS0_at rfl (by omega)) (t_Tf_tinStatus_g Z N ht hg) ⟨Nat.le_of_ble_eq_true rfl, Nat.le_of_ble_eq_true rfl, Nat.le_of_ble_eq_true rfl, Nat.le_of_ble_eq_true rfl⟩ (Nat.le_of_ble_eq_true rfl) ?_
  intro r w hq
  obtain ⟨rfl, rfl⟩ := hq
  first | refine z_istore_2 d_Tf_drop_5 rfl ?_ | (refine z_forget_1 ?_; refine z_istore_2 d_Tf_drop_5 rfl ?_)
  refine z_iload_2 d_Tf_drop_6 ?_
  refine z_if_eq (tgt := 16) d_Tf_drop_7 (by decide) (fun h7 => ?_) (fun h7 => ?_)
  · first
    | (simp (disch := omega) only [← nI_0, nI_leI, nI_ltI, nI_eq, not_true_eq_false, not_false_eq_true] at h7; done)
    | (simp (disch := omega) only [← nI_0, nI_leI, nI_ltI, nI_eq, not_true_eq_false, not_false_eq_true] at h7; omega)
    | contradiction
    | exact absurd h7 (Int32.not_lt.mpr (by assumption))
    | exact absurd h7 (Int32.not_le.mpr (by assumption))
    | exact absurd h7 (by decide)
    | exact absurd (by decide) h7
    | ( try simp (disch := omega) only [← nI_0, nI_leI, nI_ltI, nI_eq, not_true_eq_false, not_false_eq_true] at h7
        (try have h7b := zbit_n0.mp h7); (try have h7b := zbit_p0.mp h7)
        skip)
  · first
    | (simp (disch := omega) only [← nI_0, nI_leI, nI_ltI, nI_eq, not_true_eq_false, not_false_eq_true] at h7; done)
    | (simp (disch := omega) only [← nI_0, nI_leI, nI_ltI, nI_eq, not_true_eq_false, not_false_eq_true] at h7; omega)
    | contradiction
    | exact absurd h7 (Int32.not_lt.mpr (by assumption))
    | exact absurd h7 (Int32.not_le.mpr (by assumption))
    | exact absurd h7 (by decide)
    | exact absurd (by decide) h7
    | ( try simp (disch := omega) only [← nI_0, nI_leI, nI_ltI, nI_eq, not_true_eq_false, not_false_eq_true] at h7
        (try have h7b := zbit_n0.mp h7); (try have h7b := zbit_p0.mp h7)
        refine z_aload_0 d_Tf_drop_10 ?_
        refine z_iload_2 d_Tf_drop_11 ?_
        refine z_Vi1 d_Tf_drop_12 k_Tf_138 (by first | assumption | exact zS0_at (by assumption) (by omega) | exact zS0_at rfl (by omega)) (t_Tf_fail (by assumption)) ⟨Nat.le_of_ble_eq_true rfl, Nat.le_of_ble_eq_true rfl, Nat.le_of_ble_eq_true rfl, Nat.le_of_ble_eq_true rfl⟩ (Nat.le_of_ble_eq_true rfl) ?_
        intro r w hq
        obtain ⟨rfl, rfl⟩ := hq
        refine z_reti d_Tf_drop_15 ?_
        exact ⟨by first | rfl | assumption, cW_0⟩)
theorem t_Tf_drop {t p : Nat} (Z : clOk f d P S) (N : fenIn I f nt np nl nn) (ht : t < nn) (hp : I (f + 6) t = nI p) (hp2 : p < np) : zEi G y_Tf_drop prog_1_method_21_code 4 (some .int) 4 [.ref 0, .int (nI t)] (I, J, P, S) (fun r w => r = nI p ∧ w = (zu (zu I (f + 6) t (-1)) 0 0 (nI 0), J, P, S)) := by
  obtain ⟨⟨c0, c3, c1s⟩, ⟨c5, c2s, ctr⟩, ⟨c6, c11s, c11, c13s⟩, ⟨c7, c15s, c15⟩, ⟨c8, c16s, c16a, c16b, c17s⟩, ⟨c9, c10, cfd, F, Fd⟩, ⟨c11b, Ft⟩, ⟨c12, c69s, cmk⟩, ⟨c14, c121s, c121, c122s⟩, ⟨c15b, c123s, c123, c124s⟩, ⟨c16, c125s, c125, c126s⟩, ⟨c17, c127s, c127, c128s, ctb⟩, ⟨c18, c139s, c139, c140s⟩, ⟨c19, c141s, ⟨c141a, c142s⟩, ⟨c141b, c143s⟩, ⟨c141c, c144s⟩⟩, M⟩ := id Z
  obtain ⟨F0, ⟨F8, F8s⟩, ⟨F9, F9s⟩, ⟨F10, F10s⟩, ⟨F11, F11s⟩, ⟨F12, F12s⟩, ⟨F13, F13s⟩, ⟨F14, F14s⟩, ⟨F15, F15s⟩, ⟨F16, F16s⟩, ⟨F17, F17s⟩, ⟨F18, F18s⟩, ⟨F19, F19s⟩, ⟨Y3, Y3s⟩, ⟨Y4, Y4s⟩, ⟨Y5, Y5s⟩, ⟨Y6, Y6s⟩⟩ := id F
  obtain ⟨⟨n1, n1b⟩, ⟨n2, n2b⟩, ⟨n3, n3b⟩, ⟨n4, n4b⟩, nof, non⟩ := id N
  refine zEi_of (lv := [some (.ref 0), some (.int (nI t)), none, none]) (by decide) rfl (Nat.le_of_ble_eq_true rfl) ?_
  refine z_aload_0 d_Tf_drop_0 ?_
  refine z_iload_1 d_Tf_drop_1 ?_
  refine z_Vi1 d_Tf_drop_2 k_Tf_276 (by first | assumption | exact zS0_at (by assumption) (by omega) | exact zS0_at rfl (by omega)) (t_Tf_tinStatus_p Z N ht hp hp2) ⟨Nat.le_of_ble_eq_true rfl, Nat.le_of_ble_eq_true rfl, Nat.le_of_ble_eq_true rfl, Nat.le_of_ble_eq_true rfl⟩ (Nat.le_of_ble_eq_true rfl) ?_
  intro r w hq
  obtain ⟨rfl, rfl⟩ := hq
  first | refine z_istore_2 d_Tf_drop_5 rfl ?_ | (refine z_forget_1 ?_; refine z_istore_2 d_Tf_drop_5 rfl ?_)
  refine z_iload_2 d_Tf_drop_6 ?_
  refine z_if_eq (tgt := 16) d_Tf_drop_7 (by decide) (fun h7 => ?_) (fun h7 => ?_)
  · first
    | (simp (disch := omega) only [← nI_0, nI_leI, nI_ltI, nI_eq, not_true_eq_false, not_false_eq_true] at h7; done)
    | (simp (disch := omega) only [← nI_0, nI_leI, nI_ltI, nI_eq, not_true_eq_false, not_false_eq_true] at h7; omega)
    | contradiction
    | exact absurd h7 (Int32.not_lt.mpr (by assumption))
    | exact absurd h7 (Int32.not_le.mpr (by assumption))
    | exact absurd h7 (by decide)
    | exact absurd (by decide) h7
    | ( try simp (disch := omega) only [← nI_0, nI_leI, nI_ltI, nI_eq, not_true_eq_false, not_false_eq_true] at h7
        (try have h7b := zbit_n0.mp h7); (try have h7b := zbit_p0.mp h7)
        refine z_aload_0 d_Tf_drop_16 ?_
        refine z_getR d_Tf_drop_17 f_Tf_60 (by first | assumption | exact zS0_at (by assumption) (by omega) | exact zS0_at rfl (by omega)) (by first | assumption | exact zS0_at (by assumption) (by omega) | exact zS0_at rfl (by omega)) ?_
        refine z_getR d_Tf_drop_20 f_Tf_258 (by first | assumption | exact zS0_at (by assumption) (by omega) | exact zS0_at rfl (by omega)) (by first | assumption | exact zS0_at (by assumption) (by omega) | exact zS0_at rfl (by omega)) ?_
        refine z_iload_1 d_Tf_drop_23 ?_
        first | refine z_ialdNv d_Tf_drop_24 (by first | assumption | exact zS0_at (by assumption) (by omega) | exact zS0_at rfl (by omega)) (by omega) (by first | decide | omega) (by first | assumption | ((try simp (disch := omega) only [zu_same, zu_ne, zcp_ne, zfl_ne]); first | assumption | rfl)) ?_ | refine z_iald d_Tf_drop_24 (by first | assumption | exact zS0_at (by assumption) (by omega) | exact zS0_at rfl (by omega)) (by first | assumption | exact zS0_at (by assumption) (by omega) | exact zS0_at rfl (by omega)) ?_
        first | refine z_istore_3 d_Tf_drop_25 rfl ?_ | (refine z_forget_2 ?_; refine z_istore_3 d_Tf_drop_25 rfl ?_)
        refine z_aload_0 d_Tf_drop_26 ?_
        refine z_getR d_Tf_drop_27 f_Tf_60 (by first | assumption | exact zS0_at (by assumption) (by omega) | exact zS0_at rfl (by omega)) (by first | assumption | exact zS0_at (by assumption) (by omega) | exact zS0_at rfl (by omega)) ?_
        refine z_getR d_Tf_drop_30 f_Tf_258 (by first | assumption | exact zS0_at (by assumption) (by omega) | exact zS0_at rfl (by omega)) (by first | assumption | exact zS0_at (by assumption) (by omega) | exact zS0_at rfl (by omega)) ?_
        refine z_iload_1 d_Tf_drop_33 ?_
        refine z_iconst (a := -1) d_Tf_drop_34 (by decide) ?_
        first | refine z_iastN d_Tf_drop_35 (by first | assumption | exact zS0_at (by assumption) (by omega) | exact zS0_at rfl (by omega)) (by omega) (by first | decide | omega) ?_ | refine z_iast d_Tf_drop_35 (by first | assumption | exact zS0_at (by assumption) (by omega) | exact zS0_at rfl (by omega)) (by first | assumption | exact zS0_at (by assumption) (by omega) | exact zS0_at rfl (by omega)) ?_
        refine z_aload_0 d_Tf_drop_36 ?_
        refine z_iload_3 d_Tf_drop_37 ?_
        refine z_Vi1 d_Tf_drop_38 k_Tf_174 (by first | assumption | exact zS0_at (by assumption) (by omega) | exact zS0_at rfl (by omega)) (t_Tf_give (by assumption)) ⟨Nat.le_of_ble_eq_true rfl, Nat.le_of_ble_eq_true rfl, Nat.le_of_ble_eq_true rfl, Nat.le_of_ble_eq_true rfl⟩ (Nat.le_of_ble_eq_true rfl) ?_
        intro r w hq
        obtain ⟨rfl, rfl⟩ := hq
        refine z_reti d_Tf_drop_41 ?_
        exact ⟨rfl, rfl⟩)
  · first
    | (simp (disch := omega) only [← nI_0, nI_leI, nI_ltI, nI_eq, not_true_eq_false, not_false_eq_true] at h7; done)
    | (simp (disch := omega) only [← nI_0, nI_leI, nI_ltI, nI_eq, not_true_eq_false, not_false_eq_true] at h7; omega)
    | contradiction
    | exact absurd h7 (Int32.not_lt.mpr (by assumption))
    | exact absurd h7 (Int32.not_le.mpr (by assumption))
    | exact absurd h7 (by decide)
    | exact absurd (by decide) h7
    | ( try simp (disch := omega) only [← nI_0, nI_leI, nI_ltI, nI_eq, not_true_eq_false, not_false_eq_true] at h7
        (try have h7b := zbit_n0.mp h7); (try have h7b := zbit_p0.mp h7)
        refine z_aload_0 d_Tf_drop_10 ?_
        refine z_iload_2 d_Tf_drop_11 ?_
        refine z_Vi1 d_Tf_drop_12 k_Tf_138 (by first | assumption | exact zS0_at (by assumption) (by omega) | exact zS0_at rfl (by omega)) (t_Tf_fail (by assumption)) ⟨Nat.le_of_ble_eq_true rfl, Nat.le_of_ble_eq_true rfl, Nat.le_of_ble_eq_true rfl, Nat.le_of_ble_eq_true rfl⟩ (Nat.le_of_ble_eq_true rfl) ?_
        intro r w hq
        obtain ⟨rfl, rfl⟩ := hq
        refine z_reti d_Tf_drop_15 ?_
        exact ⟨rfl, rfl⟩)
theorem t_Mo_drop_o (M : modOk P S) (N : modIn I nt np nl nn) (h : ¬ zin a nn) : zEi G y_Mo_drop prog_14_method_95_code 3 (some .int) 4 [.ref 145, .int a] (I, J, P, S) (fun r w => r = -1 ∧ mW I J P S 2 w) := by
  obtain ⟨M0, ⟨M4, M4s⟩, ⟨M5, M5s⟩, ⟨M6, M6s⟩, ⟨M7, M7s⟩, ⟨M20, M20s⟩, ⟨M21, M21s⟩, ⟨M22, M22s⟩, ⟨M26, M26s⟩, ⟨M27, M27s⟩, ⟨M28, M28s⟩, ⟨M30, M30s⟩, ⟨M34, M34s⟩, ⟨M36, M36s⟩, ⟨M37, M37s⟩⟩ := id M
  obtain ⟨I1, hI1, N1, h1, h0, e150, er, ek⟩ := mo_beg N
  obtain ⟨⟨m0, m0b⟩, ⟨m1, m1b⟩, ⟨m2, m2b⟩, ⟨m3, m3b⟩, mof, mon⟩ := id N1
  have hD : mD I I1 := ⟨h1, h0, e150, er⟩
  refine zEi_of (lv := [some (.ref 145), some (.int a), none]) (by decide) rfl (Nat.le_of_ble_eq_true rfl) ?_
  refine z_aload_0 d_Mo_drop_0 ?_
  refine z_iconst (a := nI 0) d_Mo_drop_1 (by decide) ?_
  refine z_putI d_Mo_drop_2 f_Mo_70 (by first | assumption | exact zS0_at (by assumption) (by omega) | exact zS0_at rfl (by omega)) ?_
  refine z_aload_0 d_Mo_drop_5 ?_
  refine z_iconst (a := nI 0) d_Mo_drop_6 (by decide) ?_
  refine z_putI d_Mo_drop_7 f_Mo_73 (by first | assumption | exact zS0_at (by assumption) (by omega) | exact zS0_at rfl (by omega)) ?_
  rw [← hI1]
  refine z_aload_0 d_Mo_drop_10 ?_
  refine z_iload_1 d_Mo_drop_11 ?_
  refine z_Vi1 d_Mo_drop_12 k_Mo_344 (by first | assumption | exact zS0_at (by assumption) (by omega) | exact zS0_at rfl (by omega)) (t_Mo_isTinAt M N1) ⟨Nat.le_of_ble_eq_true rfl, Nat.le_of_ble_eq_true rfl, Nat.le_of_ble_eq_true rfl, Nat.le_of_ble_eq_true rfl⟩ (Nat.le_of_ble_eq_true rfl) ?_
  intro r w hq
  rcases hq with ⟨⟨hz12, rfl⟩ | ⟨hz12, rfl⟩, rfl⟩
  · first
    | contradiction
    | ( skip
        refine z_if_ne (tgt := 24) d_Mo_drop_15 (by decide) (fun _ => ?_) (fun h => absurd h (by decide))
        contradiction)
  · first
    | contradiction
    | ( skip
        refine z_if_ne (tgt := 24) d_Mo_drop_15 (by decide) (fun h => absurd h (by decide)) (fun _ => ?_)
        refine z_aload_0 d_Mo_drop_18 ?_
        refine z_iconst (a := nI 2) d_Mo_drop_19 (by decide) ?_
        refine z_Vi1 d_Mo_drop_20 k_Mo_327 (by first | assumption | exact zS0_at (by assumption) (by omega) | exact zS0_at rfl (by omega)) (t_Mo_refuse (by assumption)) ⟨Nat.le_of_ble_eq_true rfl, Nat.le_of_ble_eq_true rfl, Nat.le_of_ble_eq_true rfl, Nat.le_of_ble_eq_true rfl⟩ (Nat.le_of_ble_eq_true rfl) ?_
        intro r w hq
        obtain ⟨rfl, rfl⟩ := hq
        refine z_reti d_Mo_drop_23 ?_
        exact ⟨by first | rfl | assumption | (rw [e150]), _, _, rfl, (by repeat (first | exact h1 | refine mqF_z ?_ (by decide))), mqJ_r, (by first | exact zu_same _ _ _ _ | exact h0)⟩)
theorem t_Mo_drop_g {t : Nat} (M : modOk P S) (N : modIn I nt np nl nn) (ht : t < nn) (hg : I 150 (42 + t) = -1) : zEi G y_Mo_drop prog_14_method_95_code 3 (some .int) 4 [.ref 145, .int (nI t)] (I, J, P, S) (fun r w => r = -1 ∧ mW I J P S 9 w) := by
  obtain ⟨M0, ⟨M4, M4s⟩, ⟨M5, M5s⟩, ⟨M6, M6s⟩, ⟨M7, M7s⟩, ⟨M20, M20s⟩, ⟨M21, M21s⟩, ⟨M22, M22s⟩, ⟨M26, M26s⟩, ⟨M27, M27s⟩, ⟨M28, M28s⟩, ⟨M30, M30s⟩, ⟨M34, M34s⟩, ⟨M36, M36s⟩, ⟨M37, M37s⟩⟩ := id M
  obtain ⟨I1, hI1, N1, h1, h0, e150, er, ek⟩ := mo_beg N
  obtain ⟨⟨m0, m0b⟩, ⟨m1, m1b⟩, ⟨m2, m2b⟩, ⟨m3, m3b⟩, mof, mon⟩ := id N1
  have hD : mD I I1 := ⟨h1, h0, e150, er⟩
  refine zEi_of (lv := [some (.ref 145), some (.int (nI t)), none]) (by decide) rfl (Nat.le_of_ble_eq_true rfl) ?_
  refine z_aload_0 d_Mo_drop_0 ?_
  refine z_iconst (a := nI 0) d_Mo_drop_1 (by decide) ?_
  refine z_putI d_Mo_drop_2 f_Mo_70 (by first | assumption | exact zS0_at (by assumption) (by omega) | exact zS0_at rfl (by omega)) ?_
  refine z_aload_0 d_Mo_drop_5 ?_
  refine z_iconst (a := nI 0) d_Mo_drop_6 (by decide) ?_
  refine z_putI d_Mo_drop_7 f_Mo_73 (by first | assumption | exact zS0_at (by assumption) (by omega) | exact zS0_at rfl (by omega)) ?_
  rw [← hI1]
  have hz : zin (nI t) nn := ⟨t, by omega, rfl⟩
  have hg2 : I1 150 (42 + t) < 0 := by rw [e150, hg]; decide
  refine z_aload_0 d_Mo_drop_10 ?_
  refine z_iload_1 d_Mo_drop_11 ?_
  refine z_Vi1 d_Mo_drop_12 k_Mo_344 (by first | assumption | exact zS0_at (by assumption) (by omega) | exact zS0_at rfl (by omega)) (t_Mo_isTinAt M N1) ⟨Nat.le_of_ble_eq_true rfl, Nat.le_of_ble_eq_true rfl, Nat.le_of_ble_eq_true rfl, Nat.le_of_ble_eq_true rfl⟩ (Nat.le_of_ble_eq_true rfl) ?_
  intro r w hq
  rcases hq with ⟨⟨hz12, rfl⟩ | ⟨hz12, rfl⟩, rfl⟩
  · first
    | contradiction
    | ( skip
        refine z_if_ne (tgt := 24) d_Mo_drop_15 (by decide) (fun _ => ?_) (fun h => absurd h (by decide))
        refine z_aload_0 d_Mo_drop_24 ?_
        refine z_iload_1 d_Mo_drop_25 ?_
        refine z_Vi1 d_Mo_drop_26 k_Mo_310 (by first | assumption | exact zS0_at (by assumption) (by omega) | exact zS0_at rfl (by omega)) (t_Mo_isGone (by assumption) (by omega)) ⟨Nat.le_of_ble_eq_true rfl, Nat.le_of_ble_eq_true rfl, Nat.le_of_ble_eq_true rfl, Nat.le_of_ble_eq_true rfl⟩ (Nat.le_of_ble_eq_true rfl) ?_
        intro r w hq
        rcases hq with ⟨⟨hz26, rfl⟩ | ⟨hz26, rfl⟩, rfl⟩
        · first
          | contradiction
          | ( skip
              refine z_if_eq (tgt := 39) d_Mo_drop_29 (by decide) (fun h => absurd h (by decide)) (fun _ => ?_)
              refine z_aload_0 d_Mo_drop_32 ?_
              refine z_bipush (a := nI 9) d_Mo_drop_33 (by decide) ?_
              refine z_Vi1 d_Mo_drop_35 k_Mo_327 (by first | assumption | exact zS0_at (by assumption) (by omega) | exact zS0_at rfl (by omega)) (t_Mo_refuse (by assumption)) ⟨Nat.le_of_ble_eq_true rfl, Nat.le_of_ble_eq_true rfl, Nat.le_of_ble_eq_true rfl, Nat.le_of_ble_eq_true rfl⟩ (Nat.le_of_ble_eq_true rfl) ?_
              intro r w hq
              obtain ⟨rfl, rfl⟩ := hq
              refine z_reti d_Mo_drop_38 ?_
              exact ⟨by first | rfl | assumption | (rw [e150]), _, _, rfl, (by repeat (first | exact h1 | refine mqF_z ?_ (by decide))), mqJ_r, (by first | exact zu_same _ _ _ _ | exact h0)⟩)
        · first
          | contradiction
          | ( skip
              refine z_if_eq (tgt := 39) d_Mo_drop_29 (by decide) (fun _ => ?_) (fun h => absurd h (by decide))
              contradiction))
  · first
    | contradiction
    | ( skip
        refine z_if_ne (tgt := 24) d_Mo_drop_15 (by decide) (fun h => absurd h (by decide)) (fun _ => ?_)
        refine z_aload_0 d_Mo_drop_18 ?_
        refine z_iconst (a := nI 2) d_Mo_drop_19 (by decide) ?_
        refine z_Vi1 d_Mo_drop_20 k_Mo_327 (by first | assumption | exact zS0_at (by assumption) (by omega) | exact zS0_at rfl (by omega)) (t_Mo_refuse (by assumption)) ⟨Nat.le_of_ble_eq_true rfl, Nat.le_of_ble_eq_true rfl, Nat.le_of_ble_eq_true rfl, Nat.le_of_ble_eq_true rfl⟩ (Nat.le_of_ble_eq_true rfl) ?_
        intro r w hq
        obtain ⟨rfl, rfl⟩ := hq
        refine z_reti d_Mo_drop_23 ?_
        exact ⟨by first | rfl | assumption | (rw [e150]), _, _, rfl, (by repeat (first | exact h1 | refine mqF_z ?_ (by decide))), mqJ_r, (by first | exact zu_same _ _ _ _ | exact h0)⟩)
theorem t_Mo_drop {t p : Nat} (M : modOk P S) (N : modIn I nt np nl nn) (ht : t < nn) (hp : I 150 (42 + t) = nI p) (hp2 : p < np) : zEi G y_Mo_drop prog_14_method_95_code 3 (some .int) 4 [.ref 145, .int (nI t)] (I, J, P, S) (fun r w => r = nI p ∧ ∃ I1, mD I I1 ∧ w = (zu I1 150 (42 + t) (-1), J, P, S)) := by
  obtain ⟨M0, ⟨M4, M4s⟩, ⟨M5, M5s⟩, ⟨M6, M6s⟩, ⟨M7, M7s⟩, ⟨M20, M20s⟩, ⟨M21, M21s⟩, ⟨M22, M22s⟩, ⟨M26, M26s⟩, ⟨M27, M27s⟩, ⟨M28, M28s⟩, ⟨M30, M30s⟩, ⟨M34, M34s⟩, ⟨M36, M36s⟩, ⟨M37, M37s⟩⟩ := id M
  obtain ⟨I1, hI1, N1, h1, h0, e150, er, ek⟩ := mo_beg N
  obtain ⟨⟨m0, m0b⟩, ⟨m1, m1b⟩, ⟨m2, m2b⟩, ⟨m3, m3b⟩, mof, mon⟩ := id N1
  have hD : mD I I1 := ⟨h1, h0, e150, er⟩
  refine zEi_of (lv := [some (.ref 145), some (.int (nI t)), none]) (by decide) rfl (Nat.le_of_ble_eq_true rfl) ?_
  refine z_aload_0 d_Mo_drop_0 ?_
  refine z_iconst (a := nI 0) d_Mo_drop_1 (by decide) ?_
  refine z_putI d_Mo_drop_2 f_Mo_70 (by first | assumption | exact zS0_at (by assumption) (by omega) | exact zS0_at rfl (by omega)) ?_
  refine z_aload_0 d_Mo_drop_5 ?_
  refine z_iconst (a := nI 0) d_Mo_drop_6 (by decide) ?_
  refine z_putI d_Mo_drop_7 f_Mo_73 (by first | assumption | exact zS0_at (by assumption) (by omega) | exact zS0_at rfl (by omega)) ?_
  rw [← hI1]
  have hz : zin (nI t) nn := ⟨t, by omega, rfl⟩
  have hr : I1 150 (42 + t) = nI p := by rw [e150, hp]
  have hg2 : ¬ I1 150 (42 + t) < 0 := by rw [hr]; exact nI_pos (by omega)
  refine z_aload_0 d_Mo_drop_10 ?_
  refine z_iload_1 d_Mo_drop_11 ?_
  refine z_Vi1 d_Mo_drop_12 k_Mo_344 (by first | assumption | exact zS0_at (by assumption) (by omega) | exact zS0_at rfl (by omega)) (t_Mo_isTinAt M N1) ⟨Nat.le_of_ble_eq_true rfl, Nat.le_of_ble_eq_true rfl, Nat.le_of_ble_eq_true rfl, Nat.le_of_ble_eq_true rfl⟩ (Nat.le_of_ble_eq_true rfl) ?_
  intro r w hq
  rcases hq with ⟨⟨hz12, rfl⟩ | ⟨hz12, rfl⟩, rfl⟩
  · first
    | contradiction
    | ( skip
        refine z_if_ne (tgt := 24) d_Mo_drop_15 (by decide) (fun _ => ?_) (fun h => absurd h (by decide))
        refine z_aload_0 d_Mo_drop_24 ?_
        refine z_iload_1 d_Mo_drop_25 ?_
        refine z_Vi1 d_Mo_drop_26 k_Mo_310 (by first | assumption | exact zS0_at (by assumption) (by omega) | exact zS0_at rfl (by omega)) (t_Mo_isGone (by assumption) (by omega)) ⟨Nat.le_of_ble_eq_true rfl, Nat.le_of_ble_eq_true rfl, Nat.le_of_ble_eq_true rfl, Nat.le_of_ble_eq_true rfl⟩ (Nat.le_of_ble_eq_true rfl) ?_
        intro r w hq
        rcases hq with ⟨⟨hz26, rfl⟩ | ⟨hz26, rfl⟩, rfl⟩
        · first
          | contradiction
          | ( skip
              refine z_if_eq (tgt := 39) d_Mo_drop_29 (by decide) (fun h => absurd h (by decide)) (fun _ => ?_)
              refine z_aload_0 d_Mo_drop_32 ?_
              refine z_bipush (a := nI 9) d_Mo_drop_33 (by decide) ?_
              refine z_Vi1 d_Mo_drop_35 k_Mo_327 (by first | assumption | exact zS0_at (by assumption) (by omega) | exact zS0_at rfl (by omega)) (t_Mo_refuse (by assumption)) ⟨Nat.le_of_ble_eq_true rfl, Nat.le_of_ble_eq_true rfl, Nat.le_of_ble_eq_true rfl, Nat.le_of_ble_eq_true rfl⟩ (Nat.le_of_ble_eq_true rfl) ?_
              intro r w hq
              obtain ⟨rfl, rfl⟩ := hq
              refine z_reti d_Mo_drop_38 ?_
              exact ⟨rfl, I1, hD, rfl⟩)
        · first
          | contradiction
          | ( skip
              refine z_if_eq (tgt := 39) d_Mo_drop_29 (by decide) (fun _ => ?_) (fun h => absurd h (by decide))
              refine z_aload_0 d_Mo_drop_39 ?_
              refine z_getR d_Mo_drop_40 f_Mo_35 (by first | assumption | exact zS0_at (by assumption) (by omega) | exact zS0_at rfl (by omega)) (by first | assumption | exact zS0_at (by assumption) (by omega) | exact zS0_at rfl (by omega)) ?_
              refine z_bipush (a := nI 42) d_Mo_drop_43 (by decide) ?_
              refine z_iload_1 d_Mo_drop_45 ?_
              first | refine z_iaddN d_Mo_drop_46 ?_ | refine z_iadd d_Mo_drop_46 ?_
              first | refine z_ialdNv d_Mo_drop_47 (by first | assumption | exact zS0_at (by assumption) (by omega) | exact zS0_at rfl (by omega)) (by omega) (by first | decide | omega) (by first | assumption | ((try simp (disch := omega) only [zu_same, zu_ne, zcp_ne, zfl_ne]); first | assumption | rfl)) ?_ | refine z_iald d_Mo_drop_47 (by first | assumption | exact zS0_at (by assumption) (by omega) | exact zS0_at rfl (by omega)) (by first | assumption | exact zS0_at (by assumption) (by omega) | exact zS0_at rfl (by omega)) ?_
              first | refine z_istore_2 d_Mo_drop_48 rfl ?_ | (refine z_forget_1 ?_; refine z_istore_2 d_Mo_drop_48 rfl ?_)
              refine z_aload_0 d_Mo_drop_49 ?_
              refine z_getR d_Mo_drop_50 f_Mo_35 (by first | assumption | exact zS0_at (by assumption) (by omega) | exact zS0_at rfl (by omega)) (by first | assumption | exact zS0_at (by assumption) (by omega) | exact zS0_at rfl (by omega)) ?_
              refine z_bipush (a := nI 42) d_Mo_drop_53 (by decide) ?_
              refine z_iload_1 d_Mo_drop_55 ?_
              first | refine z_iaddN d_Mo_drop_56 ?_ | refine z_iadd d_Mo_drop_56 ?_
              refine z_iconst (a := -1) d_Mo_drop_57 (by decide) ?_
              first | refine z_iastN d_Mo_drop_58 (by first | assumption | exact zS0_at (by assumption) (by omega) | exact zS0_at rfl (by omega)) (by omega) (by first | decide | omega) ?_ | refine z_iast d_Mo_drop_58 (by first | assumption | exact zS0_at (by assumption) (by omega) | exact zS0_at rfl (by omega)) (by first | assumption | exact zS0_at (by assumption) (by omega) | exact zS0_at rfl (by omega)) ?_
              refine z_iload_2 d_Mo_drop_59 ?_
              refine z_reti d_Mo_drop_60 ?_
              exact ⟨rfl, I1, hD, rfl⟩))
  · first
    | contradiction
    | ( skip
        refine z_if_ne (tgt := 24) d_Mo_drop_15 (by decide) (fun h => absurd h (by decide)) (fun _ => ?_)
        refine z_aload_0 d_Mo_drop_18 ?_
        refine z_iconst (a := nI 2) d_Mo_drop_19 (by decide) ?_
        refine z_Vi1 d_Mo_drop_20 k_Mo_327 (by first | assumption | exact zS0_at (by assumption) (by omega) | exact zS0_at rfl (by omega)) (t_Mo_refuse (by assumption)) ⟨Nat.le_of_ble_eq_true rfl, Nat.le_of_ble_eq_true rfl, Nat.le_of_ble_eq_true rfl, Nat.le_of_ble_eq_true rfl⟩ (Nat.le_of_ble_eq_true rfl) ?_
        intro r w hq
        obtain ⟨rfl, rfl⟩ := hq
        refine z_reti d_Mo_drop_23 ?_
        exact ⟨rfl, I1, hD, rfl⟩)
theorem L_drop (h : zInv n w) : zEi G y_Tf_drop prog_1_method_21_code 4 (some .int) 4 [.ref 0, .int a] w (fun r w1 => w1.2.2.2 = w.2.2.2 ∧ zEi G y_Mo_drop prog_14_method_95_code 3 (some .int) 4 [.ref 145, .int a] w1 (fun r' w2 => r' = r ∧ zInv (n + 1) w2)) := by
  obtain ⟨f, d, nt, np, nl, nn, fed, mk, I, J, P, S, rfl, Z, X⟩ := h
  have M := clOk_M Z
  have hf := clOk_f Z
  have N := stR_fen X
  have N0 := stR_mod X
  have fm := stR_fm X
  obtain ⟨⟨⟨a1, r1, b1⟩, ⟨a2, r2, b2⟩, ⟨a3, r3, b3⟩, ⟨a4, r4, b4⟩⟩, ⟨⟨o, ob, ao, ro⟩, r5⟩, fw, fp, ft, fz⟩ := id fm
  rcases zin_or a nn (by omega) with ⟨-, h⟩ | ⟨t, ht, rfl⟩
  · exact L_q Z X (t_Tf_drop_o Z N h) (fun I' J' e _ => ⟨_, rfl, t_Mo_drop_o M (modIn_c N0 (e 150 (by decide))) h⟩)
  obtain ⟨⟨k, hk, k1, k2⟩, ⟨g1, g2⟩, g3, g4, g5, -⟩ := ft t ht
  rcases g1 with g1 | ⟨p, hp, g1⟩
  · exact L_q Z X (t_Tf_drop_g Z N ht g1) (fun I' J' e _ => ⟨_, rfl, t_Mo_drop_g M (modIn_c N0 (e 150 (by decide))) ht (by rw [e 150 (by decide)]; exact g2.trans g1)⟩)
  refine zEi_mono (t_Tf_drop Z N ht g1 hp) ?_
  rintro r w ⟨rfl, rfl⟩
  refine ⟨rfl, zEi_mono (t_Mo_drop M (modIn_c N0 (by rw [zu_row _ _ _ _ (by decide), zu_row _ _ _ _ (by omega)])) ht (by rw [zu_row _ _ _ _ (by decide), zu_row _ _ _ _ (by omega)]; exact g2.trans g1) hp) ?_⟩
  rintro r w ⟨rfl, I1, hD, rfl⟩
  refine ⟨rfl, L_fin (nl' := nl) (nn' := nn) Z X (fun a ha => zu_row _ _ _ _ (by omega)) hD (fun a ha => zu_row _ _ _ _ ha) (fun k hk => zu_ne _ _ _ _ (by omega)) ?_ (Nat.le_refl _) (jL_r) ⟨X.1.2.1, X.1.2.2⟩ (fun k _ _ => by omega)⟩
  rw [sf_zu]; exact fmR_g (fmR_drop ht (by rw [hD.2.2.1, zu_row _ _ _ _ (by decide), zu_row _ _ _ _ (by omega)]; exact fm)) (by omega)
theorem t_Tf_bite_o (Z : clOk f d P S) (N : fenIn I f nt np nl nn) (h : ¬ zin a nn) : zEi G y_Tf_bite prog_1_method_19_code 3 (some .int) 4 [.ref 0, .int a] (I, J, P, S) (fun r w => r = -1 ∧ cW I J P S 2 w) := by
  obtain ⟨⟨c0, c3, c1s⟩, ⟨c5, c2s, ctr⟩, ⟨c6, c11s, c11, c13s⟩, ⟨c7, c15s, c15⟩, ⟨c8, c16s, c16a, c16b, c17s⟩, ⟨c9, c10, cfd, F, Fd⟩, ⟨c11b, Ft⟩, ⟨c12, c69s, cmk⟩, ⟨c14, c121s, c121, c122s⟩, ⟨c15b, c123s, c123, c124s⟩, ⟨c16, c125s, c125, c126s⟩, ⟨c17, c127s, c127, c128s, ctb⟩, ⟨c18, c139s, c139, c140s⟩, ⟨c19, c141s, ⟨c141a, c142s⟩, ⟨c141b, c143s⟩, ⟨c141c, c144s⟩⟩, M⟩ := id Z
  obtain ⟨F0, ⟨F8, F8s⟩, ⟨F9, F9s⟩, ⟨F10, F10s⟩, ⟨F11, F11s⟩, ⟨F12, F12s⟩, ⟨F13, F13s⟩, ⟨F14, F14s⟩, ⟨F15, F15s⟩, ⟨F16, F16s⟩, ⟨F17, F17s⟩, ⟨F18, F18s⟩, ⟨F19, F19s⟩, ⟨Y3, Y3s⟩, ⟨Y4, Y4s⟩, ⟨Y5, Y5s⟩, ⟨Y6, Y6s⟩⟩ := id F
  obtain ⟨⟨n1, n1b⟩, ⟨n2, n2b⟩, ⟨n3, n3b⟩, ⟨n4, n4b⟩, nof, non⟩ := id N
  refine zEi_of (lv := [some (.ref 0), some (.int a), none]) (by decide) rfl (Nat.le_of_ble_eq_true rfl) ?_
  refine z_aload_0 d_Tf_bite_0 ?_
  refine z_iload_1 d_Tf_bite_1 ?_
  refine z_Vi1 d_Tf_bite_2 k_Tf_276 (by first | assumption | exact zS0_at (by assumption) (by omega) | exact zS0_at rfl (by omega)) (t_Tf_tinStatus_o Z N h) ⟨Nat.le_of_ble_eq_true rfl, Nat.le_of_ble_eq_true rfl, Nat.le_of_ble_eq_true rfl, Nat.le_of_ble_eq_true rfl⟩ (Nat.le_of_ble_eq_true rfl) ?_
  intro r w hq
  obtain ⟨rfl, rfl⟩ := hq
  first | refine z_istore_2 d_Tf_bite_5 rfl ?_ | (refine z_forget_1 ?_; refine z_istore_2 d_Tf_bite_5 rfl ?_)
  refine z_iload_2 d_Tf_bite_6 ?_
  refine z_if_eq (tgt := 16) d_Tf_bite_7 (by decide) (fun h7 => ?_) (fun h7 => ?_)
  · first
    | (simp (disch := omega) only [← nI_0, nI_leI, nI_ltI, nI_eq, not_true_eq_false, not_false_eq_true] at h7; done)
    | (simp (disch := omega) only [← nI_0, nI_leI, nI_ltI, nI_eq, not_true_eq_false, not_false_eq_true] at h7; omega)
    | contradiction
    | exact absurd h7 (Int32.not_lt.mpr (by assumption))
    | exact absurd h7 (Int32.not_le.mpr (by assumption))
    | exact absurd h7 (by decide)
    | exact absurd (by decide) h7
    | ( try simp (disch := omega) only [← nI_0, nI_leI, nI_ltI, nI_eq, not_true_eq_false, not_false_eq_true] at h7
        (try have h7b := zbit_n0.mp h7); (try have h7b := zbit_p0.mp h7)
        skip)
  · first
    | (simp (disch := omega) only [← nI_0, nI_leI, nI_ltI, nI_eq, not_true_eq_false, not_false_eq_true] at h7; done)
    | (simp (disch := omega) only [← nI_0, nI_leI, nI_ltI, nI_eq, not_true_eq_false, not_false_eq_true] at h7; omega)
    | contradiction
    | exact absurd h7 (Int32.not_lt.mpr (by assumption))
    | exact absurd h7 (Int32.not_le.mpr (by assumption))
    | exact absurd h7 (by decide)
    | exact absurd (by decide) h7
    | ( try simp (disch := omega) only [← nI_0, nI_leI, nI_ltI, nI_eq, not_true_eq_false, not_false_eq_true] at h7
        (try have h7b := zbit_n0.mp h7); (try have h7b := zbit_p0.mp h7)
        refine z_aload_0 d_Tf_bite_10 ?_
        refine z_iload_2 d_Tf_bite_11 ?_
        refine z_Vi1 d_Tf_bite_12 k_Tf_138 (by first | assumption | exact zS0_at (by assumption) (by omega) | exact zS0_at rfl (by omega)) (t_Tf_fail (by assumption)) ⟨Nat.le_of_ble_eq_true rfl, Nat.le_of_ble_eq_true rfl, Nat.le_of_ble_eq_true rfl, Nat.le_of_ble_eq_true rfl⟩ (Nat.le_of_ble_eq_true rfl) ?_
        intro r w hq
        obtain ⟨rfl, rfl⟩ := hq
        refine z_reti d_Tf_bite_15 ?_
        exact ⟨by first | rfl | assumption, cW_0⟩)
theorem t_Tf_bite_g {t : Nat} (Z : clOk f d P S) (N : fenIn I f nt np nl nn) (ht : t < nn) (hg : I (f + 6) t = -1) : zEi G y_Tf_bite prog_1_method_19_code 3 (some .int) 4 [.ref 0, .int (nI t)] (I, J, P, S) (fun r w => r = -1 ∧ cW I J P S 9 w) := by
  obtain ⟨⟨c0, c3, c1s⟩, ⟨c5, c2s, ctr⟩, ⟨c6, c11s, c11, c13s⟩, ⟨c7, c15s, c15⟩, ⟨c8, c16s, c16a, c16b, c17s⟩, ⟨c9, c10, cfd, F, Fd⟩, ⟨c11b, Ft⟩, ⟨c12, c69s, cmk⟩, ⟨c14, c121s, c121, c122s⟩, ⟨c15b, c123s, c123, c124s⟩, ⟨c16, c125s, c125, c126s⟩, ⟨c17, c127s, c127, c128s, ctb⟩, ⟨c18, c139s, c139, c140s⟩, ⟨c19, c141s, ⟨c141a, c142s⟩, ⟨c141b, c143s⟩, ⟨c141c, c144s⟩⟩, M⟩ := id Z
  obtain ⟨F0, ⟨F8, F8s⟩, ⟨F9, F9s⟩, ⟨F10, F10s⟩, ⟨F11, F11s⟩, ⟨F12, F12s⟩, ⟨F13, F13s⟩, ⟨F14, F14s⟩, ⟨F15, F15s⟩, ⟨F16, F16s⟩, ⟨F17, F17s⟩, ⟨F18, F18s⟩, ⟨F19, F19s⟩, ⟨Y3, Y3s⟩, ⟨Y4, Y4s⟩, ⟨Y5, Y5s⟩, ⟨Y6, Y6s⟩⟩ := id F
  obtain ⟨⟨n1, n1b⟩, ⟨n2, n2b⟩, ⟨n3, n3b⟩, ⟨n4, n4b⟩, nof, non⟩ := id N
  refine zEi_of (lv := [some (.ref 0), some (.int (nI t)), none]) (by decide) rfl (Nat.le_of_ble_eq_true rfl) ?_
  refine z_aload_0 d_Tf_bite_0 ?_
  refine z_iload_1 d_Tf_bite_1 ?_
  refine z_Vi1 d_Tf_bite_2 k_Tf_276 (by first | assumption | exact zS0_at (by assumption) (by omega) | exact zS0_at rfl (by omega)) (t_Tf_tinStatus_g Z N ht hg) ⟨Nat.le_of_ble_eq_true rfl, Nat.le_of_ble_eq_true rfl, Nat.le_of_ble_eq_true rfl, Nat.le_of_ble_eq_true rfl⟩ (Nat.le_of_ble_eq_true rfl) ?_
  intro r w hq
  obtain ⟨rfl, rfl⟩ := hq
  first | refine z_istore_2 d_Tf_bite_5 rfl ?_ | (refine z_forget_1 ?_; refine z_istore_2 d_Tf_bite_5 rfl ?_)
  refine z_iload_2 d_Tf_bite_6 ?_
  refine z_if_eq (tgt := 16) d_Tf_bite_7 (by decide) (fun h7 => ?_) (fun h7 => ?_)
  · first
    | (simp (disch := omega) only [← nI_0, nI_leI, nI_ltI, nI_eq, not_true_eq_false, not_false_eq_true] at h7; done)
    | (simp (disch := omega) only [← nI_0, nI_leI, nI_ltI, nI_eq, not_true_eq_false, not_false_eq_true] at h7; omega)
    | contradiction
    | exact absurd h7 (Int32.not_lt.mpr (by assumption))
    | exact absurd h7 (Int32.not_le.mpr (by assumption))
    | exact absurd h7 (by decide)
    | exact absurd (by decide) h7
    | ( try simp (disch := omega) only [← nI_0, nI_leI, nI_ltI, nI_eq, not_true_eq_false, not_false_eq_true] at h7
        (try have h7b := zbit_n0.mp h7); (try have h7b := zbit_p0.mp h7)
        skip)
  · first
    | (simp (disch := omega) only [← nI_0, nI_leI, nI_ltI, nI_eq, not_true_eq_false, not_false_eq_true] at h7; done)
    | (simp (disch := omega) only [← nI_0, nI_leI, nI_ltI, nI_eq, not_true_eq_false, not_false_eq_true] at h7; omega)
    | contradiction
    | exact absurd h7 (Int32.not_lt.mpr (by assumption))
    | exact absurd h7 (Int32.not_le.mpr (by assumption))
    | exact absurd h7 (by decide)
    | exact absurd (by decide) h7
    | ( try simp (disch := omega) only [← nI_0, nI_leI, nI_ltI, nI_eq, not_true_eq_false, not_false_eq_true] at h7
        (try have h7b := zbit_n0.mp h7); (try have h7b := zbit_p0.mp h7)
        refine z_aload_0 d_Tf_bite_10 ?_
        refine z_iload_2 d_Tf_bite_11 ?_
        refine z_Vi1 d_Tf_bite_12 k_Tf_138 (by first | assumption | exact zS0_at (by assumption) (by omega) | exact zS0_at rfl (by omega)) (t_Tf_fail (by assumption)) ⟨Nat.le_of_ble_eq_true rfl, Nat.le_of_ble_eq_true rfl, Nat.le_of_ble_eq_true rfl, Nat.le_of_ble_eq_true rfl⟩ (Nat.le_of_ble_eq_true rfl) ?_
        intro r w hq
        obtain ⟨rfl, rfl⟩ := hq
        refine z_reti d_Tf_bite_15 ?_
        exact ⟨by first | rfl | assumption, cW_0⟩)
theorem t_Tf_bite_s {t p : Nat} (Z : clOk f d P S) (N : fenIn I f nt np nl nn) (ht : t < nn) (hp : I (f + 6) t = nI p) (hp2 : p < np) (hl : ¬ zbit (I f 6) t) : zEi G y_Tf_bite prog_1_method_19_code 3 (some .int) 4 [.ref 0, .int (nI t)] (I, J, P, S) (fun r w => r = nI 0 ∧ cW I J P S 0 w) := by
  obtain ⟨⟨c0, c3, c1s⟩, ⟨c5, c2s, ctr⟩, ⟨c6, c11s, c11, c13s⟩, ⟨c7, c15s, c15⟩, ⟨c8, c16s, c16a, c16b, c17s⟩, ⟨c9, c10, cfd, F, Fd⟩, ⟨c11b, Ft⟩, ⟨c12, c69s, cmk⟩, ⟨c14, c121s, c121, c122s⟩, ⟨c15b, c123s, c123, c124s⟩, ⟨c16, c125s, c125, c126s⟩, ⟨c17, c127s, c127, c128s, ctb⟩, ⟨c18, c139s, c139, c140s⟩, ⟨c19, c141s, ⟨c141a, c142s⟩, ⟨c141b, c143s⟩, ⟨c141c, c144s⟩⟩, M⟩ := id Z
  obtain ⟨F0, ⟨F8, F8s⟩, ⟨F9, F9s⟩, ⟨F10, F10s⟩, ⟨F11, F11s⟩, ⟨F12, F12s⟩, ⟨F13, F13s⟩, ⟨F14, F14s⟩, ⟨F15, F15s⟩, ⟨F16, F16s⟩, ⟨F17, F17s⟩, ⟨F18, F18s⟩, ⟨F19, F19s⟩, ⟨Y3, Y3s⟩, ⟨Y4, Y4s⟩, ⟨Y5, Y5s⟩, ⟨Y6, Y6s⟩⟩ := id F
  obtain ⟨⟨n1, n1b⟩, ⟨n2, n2b⟩, ⟨n3, n3b⟩, ⟨n4, n4b⟩, nof, non⟩ := id N
  refine zEi_of (lv := [some (.ref 0), some (.int (nI t)), none]) (by decide) rfl (Nat.le_of_ble_eq_true rfl) ?_
  refine z_aload_0 d_Tf_bite_0 ?_
  refine z_iload_1 d_Tf_bite_1 ?_
  refine z_Vi1 d_Tf_bite_2 k_Tf_276 (by first | assumption | exact zS0_at (by assumption) (by omega) | exact zS0_at rfl (by omega)) (t_Tf_tinStatus_p Z N ht hp hp2) ⟨Nat.le_of_ble_eq_true rfl, Nat.le_of_ble_eq_true rfl, Nat.le_of_ble_eq_true rfl, Nat.le_of_ble_eq_true rfl⟩ (Nat.le_of_ble_eq_true rfl) ?_
  intro r w hq
  obtain ⟨rfl, rfl⟩ := hq
  first | refine z_istore_2 d_Tf_bite_5 rfl ?_ | (refine z_forget_1 ?_; refine z_istore_2 d_Tf_bite_5 rfl ?_)
  refine z_iload_2 d_Tf_bite_6 ?_
  refine z_if_eq (tgt := 16) d_Tf_bite_7 (by decide) (fun h7 => ?_) (fun h7 => ?_)
  · first
    | (simp (disch := omega) only [← nI_0, nI_leI, nI_ltI, nI_eq, not_true_eq_false, not_false_eq_true] at h7; done)
    | (simp (disch := omega) only [← nI_0, nI_leI, nI_ltI, nI_eq, not_true_eq_false, not_false_eq_true] at h7; omega)
    | contradiction
    | exact absurd h7 (Int32.not_lt.mpr (by assumption))
    | exact absurd h7 (Int32.not_le.mpr (by assumption))
    | exact absurd h7 (by decide)
    | exact absurd (by decide) h7
    | ( try simp (disch := omega) only [← nI_0, nI_leI, nI_ltI, nI_eq, not_true_eq_false, not_false_eq_true] at h7
        (try have h7b := zbit_n0.mp h7); (try have h7b := zbit_p0.mp h7)
        refine z_aload_0 d_Tf_bite_16 ?_
        refine z_getR d_Tf_bite_17 f_Tf_60 (by first | assumption | exact zS0_at (by assumption) (by omega) | exact zS0_at rfl (by omega)) (by first | assumption | exact zS0_at (by assumption) (by omega) | exact zS0_at rfl (by omega)) ?_
        refine z_iload_1 d_Tf_bite_20 ?_
        refine z_Vi1 d_Tf_bite_21 k_Tf_279 (by first | assumption | exact zS0_at (by assumption) (by omega) | exact zS0_at rfl (by omega)) (t_Fen_isLead (by assumption)) ⟨Nat.le_of_ble_eq_true rfl, Nat.le_of_ble_eq_true rfl, Nat.le_of_ble_eq_true rfl, Nat.le_of_ble_eq_true rfl⟩ (Nat.le_of_ble_eq_true rfl) ?_
        intro r w hq
        rcases hq with ⟨⟨hz21, rfl⟩ | ⟨hz21, rfl⟩, rfl⟩
        · first
          | contradiction
          | ( skip
              refine z_if_ne (tgt := 33) d_Tf_bite_24 (by decide) (fun _ => ?_) (fun h => absurd h (by decide))
              refine z_aload_0 d_Tf_bite_33 ?_
              refine z_getR d_Tf_bite_34 f_Tf_60 (by first | assumption | exact zS0_at (by assumption) (by omega) | exact zS0_at rfl (by omega)) (by first | assumption | exact zS0_at (by assumption) (by omega) | exact zS0_at rfl (by omega)) ?_
              refine z_iload_1 d_Tf_bite_37 ?_
              refine z_Vv1 d_Tf_bite_38 k_Tf_282 (by first | assumption | exact zS0_at (by assumption) (by omega) | exact zS0_at rfl (by omega)) (t_Fen_find (by assumption) (by omega)) ⟨Nat.le_of_ble_eq_true rfl, Nat.le_of_ble_eq_true rfl, Nat.le_of_ble_eq_true rfl, Nat.le_of_ble_eq_true rfl⟩ (Nat.le_of_ble_eq_true rfl) ?_
              intro w hq
              obtain rfl := hq
              refine z_aload_0 d_Tf_bite_41 ?_
              refine z_iconst (a := nI 1) d_Tf_bite_42 (by decide) ?_
              refine z_Vi1 d_Tf_bite_43 k_Tf_174 (by first | assumption | exact zS0_at (by assumption) (by omega) | exact zS0_at rfl (by omega)) (t_Tf_give (by assumption)) ⟨Nat.le_of_ble_eq_true rfl, Nat.le_of_ble_eq_true rfl, Nat.le_of_ble_eq_true rfl, Nat.le_of_ble_eq_true rfl⟩ (Nat.le_of_ble_eq_true rfl) ?_
              intro r w hq
              obtain ⟨rfl, rfl⟩ := hq
              refine z_reti d_Tf_bite_46 ?_
              exact ⟨by first | rfl | assumption, cW_0⟩)
        · first
          | contradiction
          | ( skip
              refine z_if_ne (tgt := 33) d_Tf_bite_24 (by decide) (fun h => absurd h (by decide)) (fun _ => ?_)
              refine z_aload_0 d_Tf_bite_27 ?_
              refine z_iconst (a := nI 0) d_Tf_bite_28 (by decide) ?_
              refine z_Vi1 d_Tf_bite_29 k_Tf_174 (by first | assumption | exact zS0_at (by assumption) (by omega) | exact zS0_at rfl (by omega)) (t_Tf_give (by assumption)) ⟨Nat.le_of_ble_eq_true rfl, Nat.le_of_ble_eq_true rfl, Nat.le_of_ble_eq_true rfl, Nat.le_of_ble_eq_true rfl⟩ (Nat.le_of_ble_eq_true rfl) ?_
              intro r w hq
              obtain ⟨rfl, rfl⟩ := hq
              refine z_reti d_Tf_bite_32 ?_
              exact ⟨by first | rfl | assumption, cW_0⟩))
  · first
    | (simp (disch := omega) only [← nI_0, nI_leI, nI_ltI, nI_eq, not_true_eq_false, not_false_eq_true] at h7; done)
    | (simp (disch := omega) only [← nI_0, nI_leI, nI_ltI, nI_eq, not_true_eq_false, not_false_eq_true] at h7; omega)
    | contradiction
    | exact absurd h7 (Int32.not_lt.mpr (by assumption))
    | exact absurd h7 (Int32.not_le.mpr (by assumption))
    | exact absurd h7 (by decide)
    | exact absurd (by decide) h7
    | ( try simp (disch := omega) only [← nI_0, nI_leI, nI_ltI, nI_eq, not_true_eq_false, not_false_eq_true] at h7
        (try have h7b := zbit_n0.mp h7); (try have h7b := zbit_p0.mp h7)
        refine z_aload_0 d_Tf_bite_10 ?_
        refine z_iload_2 d_Tf_bite_11 ?_
        refine z_Vi1 d_Tf_bite_12 k_Tf_138 (by first | assumption | exact zS0_at (by assumption) (by omega) | exact zS0_at rfl (by omega)) (t_Tf_fail (by assumption)) ⟨Nat.le_of_ble_eq_true rfl, Nat.le_of_ble_eq_true rfl, Nat.le_of_ble_eq_true rfl, Nat.le_of_ble_eq_true rfl⟩ (Nat.le_of_ble_eq_true rfl) ?_
        intro r w hq
        obtain ⟨rfl, rfl⟩ := hq
        refine z_reti d_Tf_bite_15 ?_
        exact ⟨by first | rfl | assumption, cW_0⟩)
theorem t_Tf_bite {t p : Nat} (Z : clOk f d P S) (N : fenIn I f nt np nl nn) (ht : t < nn) (hp : I (f + 6) t = nI p) (hp2 : p < np) (hl : zbit (I f 6) t) : zEi G y_Tf_bite prog_1_method_19_code 3 (some .int) 4 [.ref 0, .int (nI t)] (I, J, P, S) (fun r w => r = nI 1 ∧ w = (zu (zu (zu I f 7 (I f 7 ||| (nI 1 <<< (nI t &&& 31)))) (f + 6) t (-1)) 0 0 (nI 0), J, P, S)) := by
  obtain ⟨⟨c0, c3, c1s⟩, ⟨c5, c2s, ctr⟩, ⟨c6, c11s, c11, c13s⟩, ⟨c7, c15s, c15⟩, ⟨c8, c16s, c16a, c16b, c17s⟩, ⟨c9, c10, cfd, F, Fd⟩, ⟨c11b, Ft⟩, ⟨c12, c69s, cmk⟩, ⟨c14, c121s, c121, c122s⟩, ⟨c15b, c123s, c123, c124s⟩, ⟨c16, c125s, c125, c126s⟩, ⟨c17, c127s, c127, c128s, ctb⟩, ⟨c18, c139s, c139, c140s⟩, ⟨c19, c141s, ⟨c141a, c142s⟩, ⟨c141b, c143s⟩, ⟨c141c, c144s⟩⟩, M⟩ := id Z
  obtain ⟨F0, ⟨F8, F8s⟩, ⟨F9, F9s⟩, ⟨F10, F10s⟩, ⟨F11, F11s⟩, ⟨F12, F12s⟩, ⟨F13, F13s⟩, ⟨F14, F14s⟩, ⟨F15, F15s⟩, ⟨F16, F16s⟩, ⟨F17, F17s⟩, ⟨F18, F18s⟩, ⟨F19, F19s⟩, ⟨Y3, Y3s⟩, ⟨Y4, Y4s⟩, ⟨Y5, Y5s⟩, ⟨Y6, Y6s⟩⟩ := id F
  obtain ⟨⟨n1, n1b⟩, ⟨n2, n2b⟩, ⟨n3, n3b⟩, ⟨n4, n4b⟩, nof, non⟩ := id N
  refine zEi_of (lv := [some (.ref 0), some (.int (nI t)), none]) (by decide) rfl (Nat.le_of_ble_eq_true rfl) ?_
  refine z_aload_0 d_Tf_bite_0 ?_
  refine z_iload_1 d_Tf_bite_1 ?_
  refine z_Vi1 d_Tf_bite_2 k_Tf_276 (by first | assumption | exact zS0_at (by assumption) (by omega) | exact zS0_at rfl (by omega)) (t_Tf_tinStatus_p Z N ht hp hp2) ⟨Nat.le_of_ble_eq_true rfl, Nat.le_of_ble_eq_true rfl, Nat.le_of_ble_eq_true rfl, Nat.le_of_ble_eq_true rfl⟩ (Nat.le_of_ble_eq_true rfl) ?_
  intro r w hq
  obtain ⟨rfl, rfl⟩ := hq
  first | refine z_istore_2 d_Tf_bite_5 rfl ?_ | (refine z_forget_1 ?_; refine z_istore_2 d_Tf_bite_5 rfl ?_)
  refine z_iload_2 d_Tf_bite_6 ?_
  refine z_if_eq (tgt := 16) d_Tf_bite_7 (by decide) (fun h7 => ?_) (fun h7 => ?_)
  · first
    | (simp (disch := omega) only [← nI_0, nI_leI, nI_ltI, nI_eq, not_true_eq_false, not_false_eq_true] at h7; done)
    | (simp (disch := omega) only [← nI_0, nI_leI, nI_ltI, nI_eq, not_true_eq_false, not_false_eq_true] at h7; omega)
    | contradiction
    | exact absurd h7 (Int32.not_lt.mpr (by assumption))
    | exact absurd h7 (Int32.not_le.mpr (by assumption))
    | exact absurd h7 (by decide)
    | exact absurd (by decide) h7
    | ( try simp (disch := omega) only [← nI_0, nI_leI, nI_ltI, nI_eq, not_true_eq_false, not_false_eq_true] at h7
        (try have h7b := zbit_n0.mp h7); (try have h7b := zbit_p0.mp h7)
        refine z_aload_0 d_Tf_bite_16 ?_
        refine z_getR d_Tf_bite_17 f_Tf_60 (by first | assumption | exact zS0_at (by assumption) (by omega) | exact zS0_at rfl (by omega)) (by first | assumption | exact zS0_at (by assumption) (by omega) | exact zS0_at rfl (by omega)) ?_
        refine z_iload_1 d_Tf_bite_20 ?_
        refine z_Vi1 d_Tf_bite_21 k_Tf_279 (by first | assumption | exact zS0_at (by assumption) (by omega) | exact zS0_at rfl (by omega)) (t_Fen_isLead (by assumption)) ⟨Nat.le_of_ble_eq_true rfl, Nat.le_of_ble_eq_true rfl, Nat.le_of_ble_eq_true rfl, Nat.le_of_ble_eq_true rfl⟩ (Nat.le_of_ble_eq_true rfl) ?_
        intro r w hq
        rcases hq with ⟨⟨hz21, rfl⟩ | ⟨hz21, rfl⟩, rfl⟩
        · first
          | contradiction
          | ( skip
              refine z_if_ne (tgt := 33) d_Tf_bite_24 (by decide) (fun _ => ?_) (fun h => absurd h (by decide))
              refine z_aload_0 d_Tf_bite_33 ?_
              refine z_getR d_Tf_bite_34 f_Tf_60 (by first | assumption | exact zS0_at (by assumption) (by omega) | exact zS0_at rfl (by omega)) (by first | assumption | exact zS0_at (by assumption) (by omega) | exact zS0_at rfl (by omega)) ?_
              refine z_iload_1 d_Tf_bite_37 ?_
              refine z_Vv1 d_Tf_bite_38 k_Tf_282 (by first | assumption | exact zS0_at (by assumption) (by omega) | exact zS0_at rfl (by omega)) (t_Fen_find (by assumption) (by omega)) ⟨Nat.le_of_ble_eq_true rfl, Nat.le_of_ble_eq_true rfl, Nat.le_of_ble_eq_true rfl, Nat.le_of_ble_eq_true rfl⟩ (Nat.le_of_ble_eq_true rfl) ?_
              intro w hq
              obtain rfl := hq
              refine z_aload_0 d_Tf_bite_41 ?_
              refine z_iconst (a := nI 1) d_Tf_bite_42 (by decide) ?_
              refine z_Vi1 d_Tf_bite_43 k_Tf_174 (by first | assumption | exact zS0_at (by assumption) (by omega) | exact zS0_at rfl (by omega)) (t_Tf_give (by assumption)) ⟨Nat.le_of_ble_eq_true rfl, Nat.le_of_ble_eq_true rfl, Nat.le_of_ble_eq_true rfl, Nat.le_of_ble_eq_true rfl⟩ (Nat.le_of_ble_eq_true rfl) ?_
              intro r w hq
              obtain ⟨rfl, rfl⟩ := hq
              refine z_reti d_Tf_bite_46 ?_
              exact ⟨rfl, rfl⟩)
        · first
          | contradiction
          | ( skip
              refine z_if_ne (tgt := 33) d_Tf_bite_24 (by decide) (fun h => absurd h (by decide)) (fun _ => ?_)
              refine z_aload_0 d_Tf_bite_27 ?_
              refine z_iconst (a := nI 0) d_Tf_bite_28 (by decide) ?_
              refine z_Vi1 d_Tf_bite_29 k_Tf_174 (by first | assumption | exact zS0_at (by assumption) (by omega) | exact zS0_at rfl (by omega)) (t_Tf_give (by assumption)) ⟨Nat.le_of_ble_eq_true rfl, Nat.le_of_ble_eq_true rfl, Nat.le_of_ble_eq_true rfl, Nat.le_of_ble_eq_true rfl⟩ (Nat.le_of_ble_eq_true rfl) ?_
              intro r w hq
              obtain ⟨rfl, rfl⟩ := hq
              refine z_reti d_Tf_bite_32 ?_
              exact ⟨rfl, rfl⟩))
  · first
    | (simp (disch := omega) only [← nI_0, nI_leI, nI_ltI, nI_eq, not_true_eq_false, not_false_eq_true] at h7; done)
    | (simp (disch := omega) only [← nI_0, nI_leI, nI_ltI, nI_eq, not_true_eq_false, not_false_eq_true] at h7; omega)
    | contradiction
    | exact absurd h7 (Int32.not_lt.mpr (by assumption))
    | exact absurd h7 (Int32.not_le.mpr (by assumption))
    | exact absurd h7 (by decide)
    | exact absurd (by decide) h7
    | ( try simp (disch := omega) only [← nI_0, nI_leI, nI_ltI, nI_eq, not_true_eq_false, not_false_eq_true] at h7
        (try have h7b := zbit_n0.mp h7); (try have h7b := zbit_p0.mp h7)
        refine z_aload_0 d_Tf_bite_10 ?_
        refine z_iload_2 d_Tf_bite_11 ?_
        refine z_Vi1 d_Tf_bite_12 k_Tf_138 (by first | assumption | exact zS0_at (by assumption) (by omega) | exact zS0_at rfl (by omega)) (t_Tf_fail (by assumption)) ⟨Nat.le_of_ble_eq_true rfl, Nat.le_of_ble_eq_true rfl, Nat.le_of_ble_eq_true rfl, Nat.le_of_ble_eq_true rfl⟩ (Nat.le_of_ble_eq_true rfl) ?_
        intro r w hq
        obtain ⟨rfl, rfl⟩ := hq
        refine z_reti d_Tf_bite_15 ?_
        exact ⟨rfl, rfl⟩)
theorem t_Mo_bite_o (M : modOk P S) (N : modIn I nt np nl nn) (h : ¬ zin a nn) : zEi G y_Mo_bite prog_14_method_92_code 2 (some .int) 4 [.ref 145, .int a] (I, J, P, S) (fun r w => r = -1 ∧ mW I J P S 2 w) := by
  obtain ⟨M0, ⟨M4, M4s⟩, ⟨M5, M5s⟩, ⟨M6, M6s⟩, ⟨M7, M7s⟩, ⟨M20, M20s⟩, ⟨M21, M21s⟩, ⟨M22, M22s⟩, ⟨M26, M26s⟩, ⟨M27, M27s⟩, ⟨M28, M28s⟩, ⟨M30, M30s⟩, ⟨M34, M34s⟩, ⟨M36, M36s⟩, ⟨M37, M37s⟩⟩ := id M
  obtain ⟨I1, hI1, N1, h1, h0, e150, er, ek⟩ := mo_beg N
  obtain ⟨⟨m0, m0b⟩, ⟨m1, m1b⟩, ⟨m2, m2b⟩, ⟨m3, m3b⟩, mof, mon⟩ := id N1
  have hD : mD I I1 := ⟨h1, h0, e150, er⟩
  refine zEi_of (lv := [some (.ref 145), some (.int a)]) (by decide) rfl (Nat.le_of_ble_eq_true rfl) ?_
  refine z_aload_0 d_Mo_bite_0 ?_
  refine z_iconst (a := nI 0) d_Mo_bite_1 (by decide) ?_
  refine z_putI d_Mo_bite_2 f_Mo_70 (by first | assumption | exact zS0_at (by assumption) (by omega) | exact zS0_at rfl (by omega)) ?_
  refine z_aload_0 d_Mo_bite_5 ?_
  refine z_iconst (a := nI 0) d_Mo_bite_6 (by decide) ?_
  refine z_putI d_Mo_bite_7 f_Mo_73 (by first | assumption | exact zS0_at (by assumption) (by omega) | exact zS0_at rfl (by omega)) ?_
  rw [← hI1]
  refine z_aload_0 d_Mo_bite_10 ?_
  refine z_iload_1 d_Mo_bite_11 ?_
  refine z_Vi1 d_Mo_bite_12 k_Mo_344 (by first | assumption | exact zS0_at (by assumption) (by omega) | exact zS0_at rfl (by omega)) (t_Mo_isTinAt M N1) ⟨Nat.le_of_ble_eq_true rfl, Nat.le_of_ble_eq_true rfl, Nat.le_of_ble_eq_true rfl, Nat.le_of_ble_eq_true rfl⟩ (Nat.le_of_ble_eq_true rfl) ?_
  intro r w hq
  rcases hq with ⟨⟨hz12, rfl⟩ | ⟨hz12, rfl⟩, rfl⟩
  · first
    | contradiction
    | ( skip
        refine z_if_ne (tgt := 24) d_Mo_bite_15 (by decide) (fun _ => ?_) (fun h => absurd h (by decide))
        contradiction)
  · first
    | contradiction
    | ( skip
        refine z_if_ne (tgt := 24) d_Mo_bite_15 (by decide) (fun h => absurd h (by decide)) (fun _ => ?_)
        refine z_aload_0 d_Mo_bite_18 ?_
        refine z_iconst (a := nI 2) d_Mo_bite_19 (by decide) ?_
        refine z_Vi1 d_Mo_bite_20 k_Mo_327 (by first | assumption | exact zS0_at (by assumption) (by omega) | exact zS0_at rfl (by omega)) (t_Mo_refuse (by assumption)) ⟨Nat.le_of_ble_eq_true rfl, Nat.le_of_ble_eq_true rfl, Nat.le_of_ble_eq_true rfl, Nat.le_of_ble_eq_true rfl⟩ (Nat.le_of_ble_eq_true rfl) ?_
        intro r w hq
        obtain ⟨rfl, rfl⟩ := hq
        refine z_reti d_Mo_bite_23 ?_
        exact ⟨by first | rfl | assumption | (rw [e150]), _, _, rfl, (by repeat (first | exact h1 | refine mqF_z ?_ (by decide))), mqJ_r, (by first | exact zu_same _ _ _ _ | exact h0)⟩)
theorem t_Mo_bite_g {t : Nat} (M : modOk P S) (N : modIn I nt np nl nn) (ht : t < nn) (hg : I 150 (42 + t) = -1) : zEi G y_Mo_bite prog_14_method_92_code 2 (some .int) 4 [.ref 145, .int (nI t)] (I, J, P, S) (fun r w => r = -1 ∧ mW I J P S 9 w) := by
  obtain ⟨M0, ⟨M4, M4s⟩, ⟨M5, M5s⟩, ⟨M6, M6s⟩, ⟨M7, M7s⟩, ⟨M20, M20s⟩, ⟨M21, M21s⟩, ⟨M22, M22s⟩, ⟨M26, M26s⟩, ⟨M27, M27s⟩, ⟨M28, M28s⟩, ⟨M30, M30s⟩, ⟨M34, M34s⟩, ⟨M36, M36s⟩, ⟨M37, M37s⟩⟩ := id M
  obtain ⟨I1, hI1, N1, h1, h0, e150, er, ek⟩ := mo_beg N
  obtain ⟨⟨m0, m0b⟩, ⟨m1, m1b⟩, ⟨m2, m2b⟩, ⟨m3, m3b⟩, mof, mon⟩ := id N1
  have hD : mD I I1 := ⟨h1, h0, e150, er⟩
  refine zEi_of (lv := [some (.ref 145), some (.int (nI t))]) (by decide) rfl (Nat.le_of_ble_eq_true rfl) ?_
  refine z_aload_0 d_Mo_bite_0 ?_
  refine z_iconst (a := nI 0) d_Mo_bite_1 (by decide) ?_
  refine z_putI d_Mo_bite_2 f_Mo_70 (by first | assumption | exact zS0_at (by assumption) (by omega) | exact zS0_at rfl (by omega)) ?_
  refine z_aload_0 d_Mo_bite_5 ?_
  refine z_iconst (a := nI 0) d_Mo_bite_6 (by decide) ?_
  refine z_putI d_Mo_bite_7 f_Mo_73 (by first | assumption | exact zS0_at (by assumption) (by omega) | exact zS0_at rfl (by omega)) ?_
  rw [← hI1]
  have hz : zin (nI t) nn := ⟨t, by omega, rfl⟩
  have hg2 : I1 150 (42 + t) < 0 := by rw [e150, hg]; decide
  refine z_aload_0 d_Mo_bite_10 ?_
  refine z_iload_1 d_Mo_bite_11 ?_
  refine z_Vi1 d_Mo_bite_12 k_Mo_344 (by first | assumption | exact zS0_at (by assumption) (by omega) | exact zS0_at rfl (by omega)) (t_Mo_isTinAt M N1) ⟨Nat.le_of_ble_eq_true rfl, Nat.le_of_ble_eq_true rfl, Nat.le_of_ble_eq_true rfl, Nat.le_of_ble_eq_true rfl⟩ (Nat.le_of_ble_eq_true rfl) ?_
  intro r w hq
  rcases hq with ⟨⟨hz12, rfl⟩ | ⟨hz12, rfl⟩, rfl⟩
  · first
    | contradiction
    | ( skip
        refine z_if_ne (tgt := 24) d_Mo_bite_15 (by decide) (fun _ => ?_) (fun h => absurd h (by decide))
        refine z_aload_0 d_Mo_bite_24 ?_
        refine z_iload_1 d_Mo_bite_25 ?_
        refine z_Vi1 d_Mo_bite_26 k_Mo_310 (by first | assumption | exact zS0_at (by assumption) (by omega) | exact zS0_at rfl (by omega)) (t_Mo_isGone (by assumption) (by omega)) ⟨Nat.le_of_ble_eq_true rfl, Nat.le_of_ble_eq_true rfl, Nat.le_of_ble_eq_true rfl, Nat.le_of_ble_eq_true rfl⟩ (Nat.le_of_ble_eq_true rfl) ?_
        intro r w hq
        rcases hq with ⟨⟨hz26, rfl⟩ | ⟨hz26, rfl⟩, rfl⟩
        · first
          | contradiction
          | ( skip
              refine z_if_eq (tgt := 39) d_Mo_bite_29 (by decide) (fun h => absurd h (by decide)) (fun _ => ?_)
              refine z_aload_0 d_Mo_bite_32 ?_
              refine z_bipush (a := nI 9) d_Mo_bite_33 (by decide) ?_
              refine z_Vi1 d_Mo_bite_35 k_Mo_327 (by first | assumption | exact zS0_at (by assumption) (by omega) | exact zS0_at rfl (by omega)) (t_Mo_refuse (by assumption)) ⟨Nat.le_of_ble_eq_true rfl, Nat.le_of_ble_eq_true rfl, Nat.le_of_ble_eq_true rfl, Nat.le_of_ble_eq_true rfl⟩ (Nat.le_of_ble_eq_true rfl) ?_
              intro r w hq
              obtain ⟨rfl, rfl⟩ := hq
              refine z_reti d_Mo_bite_38 ?_
              exact ⟨by first | rfl | assumption | (rw [e150]), _, _, rfl, (by repeat (first | exact h1 | refine mqF_z ?_ (by decide))), mqJ_r, (by first | exact zu_same _ _ _ _ | exact h0)⟩)
        · first
          | contradiction
          | ( skip
              refine z_if_eq (tgt := 39) d_Mo_bite_29 (by decide) (fun _ => ?_) (fun h => absurd h (by decide))
              contradiction))
  · first
    | contradiction
    | ( skip
        refine z_if_ne (tgt := 24) d_Mo_bite_15 (by decide) (fun h => absurd h (by decide)) (fun _ => ?_)
        refine z_aload_0 d_Mo_bite_18 ?_
        refine z_iconst (a := nI 2) d_Mo_bite_19 (by decide) ?_
        refine z_Vi1 d_Mo_bite_20 k_Mo_327 (by first | assumption | exact zS0_at (by assumption) (by omega) | exact zS0_at rfl (by omega)) (t_Mo_refuse (by assumption)) ⟨Nat.le_of_ble_eq_true rfl, Nat.le_of_ble_eq_true rfl, Nat.le_of_ble_eq_true rfl, Nat.le_of_ble_eq_true rfl⟩ (Nat.le_of_ble_eq_true rfl) ?_
        intro r w hq
        obtain ⟨rfl, rfl⟩ := hq
        refine z_reti d_Mo_bite_23 ?_
        exact ⟨by first | rfl | assumption | (rw [e150]), _, _, rfl, (by repeat (first | exact h1 | refine mqF_z ?_ (by decide))), mqJ_r, (by first | exact zu_same _ _ _ _ | exact h0)⟩)
theorem t_Mo_bite_s {t p : Nat} (M : modOk P S) (N : modIn I nt np nl nn) (ht : t < nn) (hp : I 150 (42 + t) = nI p) (hp2 : p < np) (hl : I 150 (51 + t) = nI 0) (hf : I 150 (60 + t) = nI 0) : zEi G y_Mo_bite prog_14_method_92_code 2 (some .int) 4 [.ref 145, .int (nI t)] (I, J, P, S) (fun r w => r = nI 0 ∧ mW I J P S 0 w) := by
  obtain ⟨M0, ⟨M4, M4s⟩, ⟨M5, M5s⟩, ⟨M6, M6s⟩, ⟨M7, M7s⟩, ⟨M20, M20s⟩, ⟨M21, M21s⟩, ⟨M22, M22s⟩, ⟨M26, M26s⟩, ⟨M27, M27s⟩, ⟨M28, M28s⟩, ⟨M30, M30s⟩, ⟨M34, M34s⟩, ⟨M36, M36s⟩, ⟨M37, M37s⟩⟩ := id M
  obtain ⟨I1, hI1, N1, h1, h0, e150, er, ek⟩ := mo_beg N
  obtain ⟨⟨m0, m0b⟩, ⟨m1, m1b⟩, ⟨m2, m2b⟩, ⟨m3, m3b⟩, mof, mon⟩ := id N1
  have hD : mD I I1 := ⟨h1, h0, e150, er⟩
  refine zEi_of (lv := [some (.ref 145), some (.int (nI t))]) (by decide) rfl (Nat.le_of_ble_eq_true rfl) ?_
  refine z_aload_0 d_Mo_bite_0 ?_
  refine z_iconst (a := nI 0) d_Mo_bite_1 (by decide) ?_
  refine z_putI d_Mo_bite_2 f_Mo_70 (by first | assumption | exact zS0_at (by assumption) (by omega) | exact zS0_at rfl (by omega)) ?_
  refine z_aload_0 d_Mo_bite_5 ?_
  refine z_iconst (a := nI 0) d_Mo_bite_6 (by decide) ?_
  refine z_putI d_Mo_bite_7 f_Mo_73 (by first | assumption | exact zS0_at (by assumption) (by omega) | exact zS0_at rfl (by omega)) ?_
  rw [← hI1]
  have hz : zin (nI t) nn := ⟨t, by omega, rfl⟩
  have hr : I1 150 (42 + t) = nI p := by rw [e150, hp]
  have hg2 : ¬ I1 150 (42 + t) < 0 := by rw [hr]; exact nI_pos (by omega)
  have hl1 : I1 150 (51 + t) = nI 0 := by rw [e150, hl]
  have hf1 : I1 150 (60 + t) = nI 0 := by rw [e150, hf]
  refine z_aload_0 d_Mo_bite_10 ?_
  refine z_iload_1 d_Mo_bite_11 ?_
  refine z_Vi1 d_Mo_bite_12 k_Mo_344 (by first | assumption | exact zS0_at (by assumption) (by omega) | exact zS0_at rfl (by omega)) (t_Mo_isTinAt M N1) ⟨Nat.le_of_ble_eq_true rfl, Nat.le_of_ble_eq_true rfl, Nat.le_of_ble_eq_true rfl, Nat.le_of_ble_eq_true rfl⟩ (Nat.le_of_ble_eq_true rfl) ?_
  intro r w hq
  rcases hq with ⟨⟨hz12, rfl⟩ | ⟨hz12, rfl⟩, rfl⟩
  · first
    | contradiction
    | ( skip
        refine z_if_ne (tgt := 24) d_Mo_bite_15 (by decide) (fun _ => ?_) (fun h => absurd h (by decide))
        refine z_aload_0 d_Mo_bite_24 ?_
        refine z_iload_1 d_Mo_bite_25 ?_
        refine z_Vi1 d_Mo_bite_26 k_Mo_310 (by first | assumption | exact zS0_at (by assumption) (by omega) | exact zS0_at rfl (by omega)) (t_Mo_isGone (by assumption) (by omega)) ⟨Nat.le_of_ble_eq_true rfl, Nat.le_of_ble_eq_true rfl, Nat.le_of_ble_eq_true rfl, Nat.le_of_ble_eq_true rfl⟩ (Nat.le_of_ble_eq_true rfl) ?_
        intro r w hq
        rcases hq with ⟨⟨hz26, rfl⟩ | ⟨hz26, rfl⟩, rfl⟩
        · first
          | contradiction
          | ( skip
              refine z_if_eq (tgt := 39) d_Mo_bite_29 (by decide) (fun h => absurd h (by decide)) (fun _ => ?_)
              refine z_aload_0 d_Mo_bite_32 ?_
              refine z_bipush (a := nI 9) d_Mo_bite_33 (by decide) ?_
              refine z_Vi1 d_Mo_bite_35 k_Mo_327 (by first | assumption | exact zS0_at (by assumption) (by omega) | exact zS0_at rfl (by omega)) (t_Mo_refuse (by assumption)) ⟨Nat.le_of_ble_eq_true rfl, Nat.le_of_ble_eq_true rfl, Nat.le_of_ble_eq_true rfl, Nat.le_of_ble_eq_true rfl⟩ (Nat.le_of_ble_eq_true rfl) ?_
              intro r w hq
              obtain ⟨rfl, rfl⟩ := hq
              refine z_reti d_Mo_bite_38 ?_
              exact ⟨by first | rfl | assumption | (rw [e150]), _, _, rfl, (by repeat (first | exact h1 | refine mqF_z ?_ (by decide))), mqJ_r, (by first | exact zu_same _ _ _ _ | exact h0)⟩)
        · first
          | contradiction
          | ( skip
              refine z_if_eq (tgt := 39) d_Mo_bite_29 (by decide) (fun _ => ?_) (fun h => absurd h (by decide))
              refine z_aload_0 d_Mo_bite_39 ?_
              refine z_getR d_Mo_bite_40 f_Mo_35 (by first | assumption | exact zS0_at (by assumption) (by omega) | exact zS0_at rfl (by omega)) (by first | assumption | exact zS0_at (by assumption) (by omega) | exact zS0_at rfl (by omega)) ?_
              refine z_bipush (a := nI 51) d_Mo_bite_43 (by decide) ?_
              refine z_iload_1 d_Mo_bite_45 ?_
              first | refine z_iaddN d_Mo_bite_46 ?_ | refine z_iadd d_Mo_bite_46 ?_
              first | refine z_ialdNv d_Mo_bite_47 (by first | assumption | exact zS0_at (by assumption) (by omega) | exact zS0_at rfl (by omega)) (by omega) (by first | decide | omega) (by first | assumption | ((try simp (disch := omega) only [zu_same, zu_ne, zcp_ne, zfl_ne]); first | assumption | rfl)) ?_ | refine z_iald d_Mo_bite_47 (by first | assumption | exact zS0_at (by assumption) (by omega) | exact zS0_at rfl (by omega)) (by first | assumption | exact zS0_at (by assumption) (by omega) | exact zS0_at rfl (by omega)) ?_
              refine z_iconst (a := nI 1) d_Mo_bite_48 (by decide) ?_
              refine z_icmp_ne (tgt := 57) d_Mo_bite_49 (by decide) (fun h49 => ?_) (fun h49 => ?_)
              · first
                | (simp (disch := omega) only [← nI_0, nI_leI, nI_ltI, nI_eq, not_true_eq_false, not_false_eq_true] at h49; done)
                | (simp (disch := omega) only [← nI_0, nI_leI, nI_ltI, nI_eq, not_true_eq_false, not_false_eq_true] at h49; omega)
                | contradiction
                | exact absurd h49 (Int32.not_lt.mpr (by assumption))
                | exact absurd h49 (Int32.not_le.mpr (by assumption))
                | exact absurd h49 (by decide)
                | exact absurd (by decide) h49
                | ( try simp (disch := omega) only [← nI_0, nI_leI, nI_ltI, nI_eq, not_true_eq_false, not_false_eq_true] at h49
                    (try have h49b := zbit_n0.mp h49); (try have h49b := zbit_p0.mp h49)
                    refine z_aload_0 d_Mo_bite_57 ?_
                    refine z_getR d_Mo_bite_58 f_Mo_35 (by first | assumption | exact zS0_at (by assumption) (by omega) | exact zS0_at rfl (by omega)) (by first | assumption | exact zS0_at (by assumption) (by omega) | exact zS0_at rfl (by omega)) ?_
                    refine z_bipush (a := nI 60) d_Mo_bite_61 (by decide) ?_
                    refine z_iload_1 d_Mo_bite_63 ?_
                    first | refine z_iaddN d_Mo_bite_64 ?_ | refine z_iadd d_Mo_bite_64 ?_
                    first | refine z_ialdNv d_Mo_bite_65 (by first | assumption | exact zS0_at (by assumption) (by omega) | exact zS0_at rfl (by omega)) (by omega) (by first | decide | omega) (by first | assumption | ((try simp (disch := omega) only [zu_same, zu_ne, zcp_ne, zfl_ne]); first | assumption | rfl)) ?_ | refine z_iald d_Mo_bite_65 (by first | assumption | exact zS0_at (by assumption) (by omega) | exact zS0_at rfl (by omega)) (by first | assumption | exact zS0_at (by assumption) (by omega) | exact zS0_at rfl (by omega)) ?_
                    refine z_reti d_Mo_bite_66 ?_
                    exact ⟨by first | rfl | assumption | (rw [e150]), _, _, rfl, (by repeat (first | exact h1 | refine mqF_z ?_ (by decide))), mqJ_r, (by first | exact zu_same _ _ _ _ | exact h0)⟩)
              · first
                | (simp (disch := omega) only [← nI_0, nI_leI, nI_ltI, nI_eq, not_true_eq_false, not_false_eq_true] at h49; done)
                | (simp (disch := omega) only [← nI_0, nI_leI, nI_ltI, nI_eq, not_true_eq_false, not_false_eq_true] at h49; omega)
                | contradiction
                | exact absurd h49 (Int32.not_lt.mpr (by assumption))
                | exact absurd h49 (Int32.not_le.mpr (by assumption))
                | exact absurd h49 (by decide)
                | exact absurd (by decide) h49
                | ( try simp (disch := omega) only [← nI_0, nI_leI, nI_ltI, nI_eq, not_true_eq_false, not_false_eq_true] at h49
                    (try have h49b := zbit_n0.mp h49); (try have h49b := zbit_p0.mp h49)
                    refine z_aload_0 d_Mo_bite_52 ?_
                    refine z_iload_1 d_Mo_bite_53 ?_
                    refine z_Vv1 d_Mo_bite_54 k_Mo_363 (by first | assumption | exact zS0_at (by assumption) (by omega) | exact zS0_at rfl (by omega)) (t_Mo_finds (by assumption) (by omega)) ⟨Nat.le_of_ble_eq_true rfl, Nat.le_of_ble_eq_true rfl, Nat.le_of_ble_eq_true rfl, Nat.le_of_ble_eq_true rfl⟩ (Nat.le_of_ble_eq_true rfl) ?_
                    intro w hq
                    obtain rfl := hq
                    refine z_aload_0 d_Mo_bite_57 ?_
                    refine z_getR d_Mo_bite_58 f_Mo_35 (by first | assumption | exact zS0_at (by assumption) (by omega) | exact zS0_at rfl (by omega)) (by first | assumption | exact zS0_at (by assumption) (by omega) | exact zS0_at rfl (by omega)) ?_
                    refine z_bipush (a := nI 60) d_Mo_bite_61 (by decide) ?_
                    refine z_iload_1 d_Mo_bite_63 ?_
                    first | refine z_iaddN d_Mo_bite_64 ?_ | refine z_iadd d_Mo_bite_64 ?_
                    first | refine z_ialdNv d_Mo_bite_65 (by first | assumption | exact zS0_at (by assumption) (by omega) | exact zS0_at rfl (by omega)) (by omega) (by first | decide | omega) (by first | assumption | ((try simp (disch := omega) only [zu_same, zu_ne, zcp_ne, zfl_ne]); first | assumption | rfl)) ?_ | refine z_iald d_Mo_bite_65 (by first | assumption | exact zS0_at (by assumption) (by omega) | exact zS0_at rfl (by omega)) (by first | assumption | exact zS0_at (by assumption) (by omega) | exact zS0_at rfl (by omega)) ?_
                    refine z_reti d_Mo_bite_66 ?_
                    exact ⟨by first | rfl | assumption | (rw [e150]), _, _, rfl, (by repeat (first | exact h1 | refine mqF_z ?_ (by decide))), mqJ_r, (by first | exact zu_same _ _ _ _ | exact h0)⟩)))
  · first
    | contradiction
    | ( skip
        refine z_if_ne (tgt := 24) d_Mo_bite_15 (by decide) (fun h => absurd h (by decide)) (fun _ => ?_)
        refine z_aload_0 d_Mo_bite_18 ?_
        refine z_iconst (a := nI 2) d_Mo_bite_19 (by decide) ?_
        refine z_Vi1 d_Mo_bite_20 k_Mo_327 (by first | assumption | exact zS0_at (by assumption) (by omega) | exact zS0_at rfl (by omega)) (t_Mo_refuse (by assumption)) ⟨Nat.le_of_ble_eq_true rfl, Nat.le_of_ble_eq_true rfl, Nat.le_of_ble_eq_true rfl, Nat.le_of_ble_eq_true rfl⟩ (Nat.le_of_ble_eq_true rfl) ?_
        intro r w hq
        obtain ⟨rfl, rfl⟩ := hq
        refine z_reti d_Mo_bite_23 ?_
        exact ⟨by first | rfl | assumption | (rw [e150]), _, _, rfl, (by repeat (first | exact h1 | refine mqF_z ?_ (by decide))), mqJ_r, (by first | exact zu_same _ _ _ _ | exact h0)⟩)
theorem t_Mo_bite {t p : Nat} (M : modOk P S) (N : modIn I nt np nl nn) (ht : t < nn) (hp : I 150 (42 + t) = nI p) (hp2 : p < np) (hl : I 150 (51 + t) = nI 1) : zEi G y_Mo_bite prog_14_method_92_code 2 (some .int) 4 [.ref 145, .int (nI t)] (I, J, P, S) (fun r w => r = nI 1 ∧ ∃ I1, mD I I1 ∧ w = (zu (zu I1 150 (60 + t) (nI 1)) 150 (42 + t) (-1), J, P, S)) := by
  obtain ⟨M0, ⟨M4, M4s⟩, ⟨M5, M5s⟩, ⟨M6, M6s⟩, ⟨M7, M7s⟩, ⟨M20, M20s⟩, ⟨M21, M21s⟩, ⟨M22, M22s⟩, ⟨M26, M26s⟩, ⟨M27, M27s⟩, ⟨M28, M28s⟩, ⟨M30, M30s⟩, ⟨M34, M34s⟩, ⟨M36, M36s⟩, ⟨M37, M37s⟩⟩ := id M
  obtain ⟨I1, hI1, N1, h1, h0, e150, er, ek⟩ := mo_beg N
  obtain ⟨⟨m0, m0b⟩, ⟨m1, m1b⟩, ⟨m2, m2b⟩, ⟨m3, m3b⟩, mof, mon⟩ := id N1
  have hD : mD I I1 := ⟨h1, h0, e150, er⟩
  refine zEi_of (lv := [some (.ref 145), some (.int (nI t))]) (by decide) rfl (Nat.le_of_ble_eq_true rfl) ?_
  refine z_aload_0 d_Mo_bite_0 ?_
  refine z_iconst (a := nI 0) d_Mo_bite_1 (by decide) ?_
  refine z_putI d_Mo_bite_2 f_Mo_70 (by first | assumption | exact zS0_at (by assumption) (by omega) | exact zS0_at rfl (by omega)) ?_
  refine z_aload_0 d_Mo_bite_5 ?_
  refine z_iconst (a := nI 0) d_Mo_bite_6 (by decide) ?_
  refine z_putI d_Mo_bite_7 f_Mo_73 (by first | assumption | exact zS0_at (by assumption) (by omega) | exact zS0_at rfl (by omega)) ?_
  rw [← hI1]
  have hz : zin (nI t) nn := ⟨t, by omega, rfl⟩
  have hr : I1 150 (42 + t) = nI p := by rw [e150, hp]
  have hg2 : ¬ I1 150 (42 + t) < 0 := by rw [hr]; exact nI_pos (by omega)
  have hl1 : I1 150 (51 + t) = nI 1 := by rw [e150, hl]
  refine z_aload_0 d_Mo_bite_10 ?_
  refine z_iload_1 d_Mo_bite_11 ?_
  refine z_Vi1 d_Mo_bite_12 k_Mo_344 (by first | assumption | exact zS0_at (by assumption) (by omega) | exact zS0_at rfl (by omega)) (t_Mo_isTinAt M N1) ⟨Nat.le_of_ble_eq_true rfl, Nat.le_of_ble_eq_true rfl, Nat.le_of_ble_eq_true rfl, Nat.le_of_ble_eq_true rfl⟩ (Nat.le_of_ble_eq_true rfl) ?_
  intro r w hq
  rcases hq with ⟨⟨hz12, rfl⟩ | ⟨hz12, rfl⟩, rfl⟩
  · first
    | contradiction
    | ( skip
        refine z_if_ne (tgt := 24) d_Mo_bite_15 (by decide) (fun _ => ?_) (fun h => absurd h (by decide))
        refine z_aload_0 d_Mo_bite_24 ?_
        refine z_iload_1 d_Mo_bite_25 ?_
        refine z_Vi1 d_Mo_bite_26 k_Mo_310 (by first | assumption | exact zS0_at (by assumption) (by omega) | exact zS0_at rfl (by omega)) (t_Mo_isGone (by assumption) (by omega)) ⟨Nat.le_of_ble_eq_true rfl, Nat.le_of_ble_eq_true rfl, Nat.le_of_ble_eq_true rfl, Nat.le_of_ble_eq_true rfl⟩ (Nat.le_of_ble_eq_true rfl) ?_
        intro r w hq
        rcases hq with ⟨⟨hz26, rfl⟩ | ⟨hz26, rfl⟩, rfl⟩
        · first
          | contradiction
          | ( skip
              refine z_if_eq (tgt := 39) d_Mo_bite_29 (by decide) (fun h => absurd h (by decide)) (fun _ => ?_)
              refine z_aload_0 d_Mo_bite_32 ?_
              refine z_bipush (a := nI 9) d_Mo_bite_33 (by decide) ?_
              refine z_Vi1 d_Mo_bite_35 k_Mo_327 (by first | assumption | exact zS0_at (by assumption) (by omega) | exact zS0_at rfl (by omega)) (t_Mo_refuse (by assumption)) ⟨Nat.le_of_ble_eq_true rfl, Nat.le_of_ble_eq_true rfl, Nat.le_of_ble_eq_true rfl, Nat.le_of_ble_eq_true rfl⟩ (Nat.le_of_ble_eq_true rfl) ?_
              intro r w hq
              obtain ⟨rfl, rfl⟩ := hq
              refine z_reti d_Mo_bite_38 ?_
              exact ⟨rfl, I1, hD, rfl⟩)
        · first
          | contradiction
          | ( skip
              refine z_if_eq (tgt := 39) d_Mo_bite_29 (by decide) (fun _ => ?_) (fun h => absurd h (by decide))
              refine z_aload_0 d_Mo_bite_39 ?_
              refine z_getR d_Mo_bite_40 f_Mo_35 (by first | assumption | exact zS0_at (by assumption) (by omega) | exact zS0_at rfl (by omega)) (by first | assumption | exact zS0_at (by assumption) (by omega) | exact zS0_at rfl (by omega)) ?_
              refine z_bipush (a := nI 51) d_Mo_bite_43 (by decide) ?_
              refine z_iload_1 d_Mo_bite_45 ?_
              first | refine z_iaddN d_Mo_bite_46 ?_ | refine z_iadd d_Mo_bite_46 ?_
              first | refine z_ialdNv d_Mo_bite_47 (by first | assumption | exact zS0_at (by assumption) (by omega) | exact zS0_at rfl (by omega)) (by omega) (by first | decide | omega) (by first | assumption | ((try simp (disch := omega) only [zu_same, zu_ne, zcp_ne, zfl_ne]); first | assumption | rfl)) ?_ | refine z_iald d_Mo_bite_47 (by first | assumption | exact zS0_at (by assumption) (by omega) | exact zS0_at rfl (by omega)) (by first | assumption | exact zS0_at (by assumption) (by omega) | exact zS0_at rfl (by omega)) ?_
              refine z_iconst (a := nI 1) d_Mo_bite_48 (by decide) ?_
              refine z_icmp_ne (tgt := 57) d_Mo_bite_49 (by decide) (fun h49 => ?_) (fun h49 => ?_)
              · first
                | (simp (disch := omega) only [← nI_0, nI_leI, nI_ltI, nI_eq, not_true_eq_false, not_false_eq_true] at h49; done)
                | (simp (disch := omega) only [← nI_0, nI_leI, nI_ltI, nI_eq, not_true_eq_false, not_false_eq_true] at h49; omega)
                | contradiction
                | exact absurd h49 (Int32.not_lt.mpr (by assumption))
                | exact absurd h49 (Int32.not_le.mpr (by assumption))
                | exact absurd h49 (by decide)
                | exact absurd (by decide) h49
                | ( try simp (disch := omega) only [← nI_0, nI_leI, nI_ltI, nI_eq, not_true_eq_false, not_false_eq_true] at h49
                    (try have h49b := zbit_n0.mp h49); (try have h49b := zbit_p0.mp h49)
                    refine z_aload_0 d_Mo_bite_57 ?_
                    refine z_getR d_Mo_bite_58 f_Mo_35 (by first | assumption | exact zS0_at (by assumption) (by omega) | exact zS0_at rfl (by omega)) (by first | assumption | exact zS0_at (by assumption) (by omega) | exact zS0_at rfl (by omega)) ?_
                    refine z_bipush (a := nI 60) d_Mo_bite_61 (by decide) ?_
                    refine z_iload_1 d_Mo_bite_63 ?_
                    first | refine z_iaddN d_Mo_bite_64 ?_ | refine z_iadd d_Mo_bite_64 ?_
                    first | refine z_ialdNv d_Mo_bite_65 (by first | assumption | exact zS0_at (by assumption) (by omega) | exact zS0_at rfl (by omega)) (by omega) (by first | decide | omega) (by first | assumption | ((try simp (disch := omega) only [zu_same, zu_ne, zcp_ne, zfl_ne]); first | assumption | rfl)) ?_ | refine z_iald d_Mo_bite_65 (by first | assumption | exact zS0_at (by assumption) (by omega) | exact zS0_at rfl (by omega)) (by first | assumption | exact zS0_at (by assumption) (by omega) | exact zS0_at rfl (by omega)) ?_
                    refine z_reti d_Mo_bite_66 ?_
                    exact ⟨rfl, I1, hD, rfl⟩)
              · first
                | (simp (disch := omega) only [← nI_0, nI_leI, nI_ltI, nI_eq, not_true_eq_false, not_false_eq_true] at h49; done)
                | (simp (disch := omega) only [← nI_0, nI_leI, nI_ltI, nI_eq, not_true_eq_false, not_false_eq_true] at h49; omega)
                | contradiction
                | exact absurd h49 (Int32.not_lt.mpr (by assumption))
                | exact absurd h49 (Int32.not_le.mpr (by assumption))
                | exact absurd h49 (by decide)
                | exact absurd (by decide) h49
                | ( try simp (disch := omega) only [← nI_0, nI_leI, nI_ltI, nI_eq, not_true_eq_false, not_false_eq_true] at h49
                    (try have h49b := zbit_n0.mp h49); (try have h49b := zbit_p0.mp h49)
                    refine z_aload_0 d_Mo_bite_52 ?_
                    refine z_iload_1 d_Mo_bite_53 ?_
                    refine z_Vv1 d_Mo_bite_54 k_Mo_363 (by first | assumption | exact zS0_at (by assumption) (by omega) | exact zS0_at rfl (by omega)) (t_Mo_finds (by assumption) (by omega)) ⟨Nat.le_of_ble_eq_true rfl, Nat.le_of_ble_eq_true rfl, Nat.le_of_ble_eq_true rfl, Nat.le_of_ble_eq_true rfl⟩ (Nat.le_of_ble_eq_true rfl) ?_
                    intro w hq
                    obtain rfl := hq
                    refine z_aload_0 d_Mo_bite_57 ?_
                    refine z_getR d_Mo_bite_58 f_Mo_35 (by first | assumption | exact zS0_at (by assumption) (by omega) | exact zS0_at rfl (by omega)) (by first | assumption | exact zS0_at (by assumption) (by omega) | exact zS0_at rfl (by omega)) ?_
                    refine z_bipush (a := nI 60) d_Mo_bite_61 (by decide) ?_
                    refine z_iload_1 d_Mo_bite_63 ?_
                    first | refine z_iaddN d_Mo_bite_64 ?_ | refine z_iadd d_Mo_bite_64 ?_
                    first | refine z_ialdNv d_Mo_bite_65 (by first | assumption | exact zS0_at (by assumption) (by omega) | exact zS0_at rfl (by omega)) (by omega) (by first | decide | omega) (by first | assumption | ((try simp (disch := omega) only [zu_same, zu_ne, zcp_ne, zfl_ne]); first | assumption | rfl)) ?_ | refine z_iald d_Mo_bite_65 (by first | assumption | exact zS0_at (by assumption) (by omega) | exact zS0_at rfl (by omega)) (by first | assumption | exact zS0_at (by assumption) (by omega) | exact zS0_at rfl (by omega)) ?_
                    refine z_reti d_Mo_bite_66 ?_
                    exact ⟨rfl, I1, hD, rfl⟩)))
  · first
    | contradiction
    | ( skip
        refine z_if_ne (tgt := 24) d_Mo_bite_15 (by decide) (fun h => absurd h (by decide)) (fun _ => ?_)
        refine z_aload_0 d_Mo_bite_18 ?_
        refine z_iconst (a := nI 2) d_Mo_bite_19 (by decide) ?_
        refine z_Vi1 d_Mo_bite_20 k_Mo_327 (by first | assumption | exact zS0_at (by assumption) (by omega) | exact zS0_at rfl (by omega)) (t_Mo_refuse (by assumption)) ⟨Nat.le_of_ble_eq_true rfl, Nat.le_of_ble_eq_true rfl, Nat.le_of_ble_eq_true rfl, Nat.le_of_ble_eq_true rfl⟩ (Nat.le_of_ble_eq_true rfl) ?_
        intro r w hq
        obtain ⟨rfl, rfl⟩ := hq
        refine z_reti d_Mo_bite_23 ?_
        exact ⟨rfl, I1, hD, rfl⟩)
theorem L_bite (h : zInv n w) : zEi G y_Tf_bite prog_1_method_19_code 3 (some .int) 4 [.ref 0, .int a] w (fun r w1 => w1.2.2.2 = w.2.2.2 ∧ zEi G y_Mo_bite prog_14_method_92_code 2 (some .int) 4 [.ref 145, .int a] w1 (fun r' w2 => r' = r ∧ zInv (n + 1) w2)) := by
  obtain ⟨f, d, nt, np, nl, nn, fed, mk, I, J, P, S, rfl, Z, X⟩ := h
  have M := clOk_M Z
  have hf := clOk_f Z
  have N := stR_fen X
  have N0 := stR_mod X
  have fm := stR_fm X
  obtain ⟨⟨⟨a1, r1, b1⟩, ⟨a2, r2, b2⟩, ⟨a3, r3, b3⟩, ⟨a4, r4, b4⟩⟩, ⟨⟨o, ob, ao, ro⟩, r5⟩, fw, fp, ft, fz⟩ := id fm
  rcases zin_or a nn (by omega) with ⟨-, h⟩ | ⟨t, ht, rfl⟩
  · exact L_q Z X (t_Tf_bite_o Z N h) (fun I' J' e _ => ⟨_, rfl, t_Mo_bite_o M (modIn_c N0 (e 150 (by decide))) h⟩)
  obtain ⟨⟨k, hk, k1, k2⟩, ⟨g1, g2⟩, g3, g4, g5, -⟩ := ft t ht
  rcases g1 with g1 | ⟨p, hp, g1⟩
  · exact L_q Z X (t_Tf_bite_g Z N ht g1) (fun I' J' e _ => ⟨_, rfl, t_Mo_bite_g M (modIn_c N0 (e 150 (by decide))) ht (by rw [e 150 (by decide)]; exact g2.trans g1)⟩)
  have g3 : I 150 (51 + t) = zb (I f 6) t := g3
  have g4 : I 150 (60 + t) = zb (I f 7) t := g4
  have g6 : I 150 (60 + t) = nI 0 := by
    rw [g4, zb, if_neg]
    intro q
    exact absurd (g1.symm.trans (g5 q)) (nI_m1 (by omega))
  by_cases hl : zbit (I f 6) t
  rotate_left
  · exact L_q Z X (t_Tf_bite_s Z N ht g1 hp hl) (fun I' J' e _ => ⟨_, rfl, t_Mo_bite_s M (modIn_c N0 (e 150 (by decide))) ht (by rw [e 150 (by decide)]; exact g2.trans g1) hp (by rw [e 150 (by decide), g3, zb, if_neg hl]) (by rw [e 150 (by decide)]; exact g6)⟩)
  refine zEi_mono (t_Tf_bite Z N ht g1 hp hl) ?_
  rintro r w ⟨rfl, rfl⟩
  refine ⟨rfl, zEi_mono (t_Mo_bite M (modIn_c N0 (by rw [zu_row _ _ _ _ (by decide), zu_row _ _ _ _ (by omega), zu_row _ _ _ _ (by omega)])) ht (by rw [zu_row _ _ _ _ (by decide), zu_row _ _ _ _ (by omega), zu_row _ _ _ _ (by omega)]; exact g2.trans g1) hp (by rw [zu_row _ _ _ _ (by decide), zu_row _ _ _ _ (by omega), zu_row _ _ _ _ (by omega), g3, zb, if_pos hl])) ?_⟩
  rintro r w ⟨rfl, I1, hD, rfl⟩
  refine ⟨rfl, L_fin (nl' := nl) (nn' := nn) Z X (fun a ha => by rw [zu_row _ _ _ _ (by omega), zu_row _ _ _ _ (by omega)]) hD (fun a ha => by rw [zu_row _ _ _ _ ha, zu_row _ _ _ _ ha]) (fun k hk => by rw [zu_ne _ _ _ _ (by omega), zu_ne _ _ _ _ (by omega)]) ?_ (Nat.le_refl _) (jL_r) ⟨X.1.2.1, X.1.2.2⟩ (fun k _ _ => by omega)⟩
  rw [sf_zu, sf_zu0]; exact fmR_g (fmR_find ht (by rw [hD.2.2.1, zu_row _ _ _ _ (by decide), zu_row _ _ _ _ (by omega), zu_row _ _ _ _ (by omega)]; exact fm)) (by omega)
theorem t_Tf_recite_o (Z : clOk f d P S) (N : fenIn I f nt np nl nn) (h : ¬ zin a nn ∨ ¬ zin b np) : zEi G y_Tf_recite prog_1_method_20_code 4 (some .boolean) 3 [.ref 0, .int a, .int b] (I, J, P, S) (fun r w => r = nI 0 ∧ cW I J P S 2 w) := by
  obtain ⟨⟨c0, c3, c1s⟩, ⟨c5, c2s, ctr⟩, ⟨c6, c11s, c11, c13s⟩, ⟨c7, c15s, c15⟩, ⟨c8, c16s, c16a, c16b, c17s⟩, ⟨c9, c10, cfd, F, Fd⟩, ⟨c11b, Ft⟩, ⟨c12, c69s, cmk⟩, ⟨c14, c121s, c121, c122s⟩, ⟨c15b, c123s, c123, c124s⟩, ⟨c16, c125s, c125, c126s⟩, ⟨c17, c127s, c127, c128s, ctb⟩, ⟨c18, c139s, c139, c140s⟩, ⟨c19, c141s, ⟨c141a, c142s⟩, ⟨c141b, c143s⟩, ⟨c141c, c144s⟩⟩, M⟩ := id Z
  obtain ⟨F0, ⟨F8, F8s⟩, ⟨F9, F9s⟩, ⟨F10, F10s⟩, ⟨F11, F11s⟩, ⟨F12, F12s⟩, ⟨F13, F13s⟩, ⟨F14, F14s⟩, ⟨F15, F15s⟩, ⟨F16, F16s⟩, ⟨F17, F17s⟩, ⟨F18, F18s⟩, ⟨F19, F19s⟩, ⟨Y3, Y3s⟩, ⟨Y4, Y4s⟩, ⟨Y5, Y5s⟩, ⟨Y6, Y6s⟩⟩ := id F
  obtain ⟨⟨n1, n1b⟩, ⟨n2, n2b⟩, ⟨n3, n3b⟩, ⟨n4, n4b⟩, nof, non⟩ := id N
  refine zEi_of (lv := [some (.ref 0), some (.int a), some (.int b), none]) (by decide) rfl (Nat.le_of_ble_eq_true rfl) ?_
  rcases h with h | h
  · refine z_aload_0 d_Tf_recite_0 ?_
    refine z_iload_1 d_Tf_recite_1 ?_
    refine z_Vi1 d_Tf_recite_2 k_Tf_249 (by first | assumption | exact zS0_at (by assumption) (by omega) | exact zS0_at rfl (by omega)) (t_Tf_noTin Z N) ⟨Nat.le_of_ble_eq_true rfl, Nat.le_of_ble_eq_true rfl, Nat.le_of_ble_eq_true rfl, Nat.le_of_ble_eq_true rfl⟩ (Nat.le_of_ble_eq_true rfl) ?_
    intro r w hq
    rcases hq with ⟨⟨hz2, rfl⟩ | ⟨hz2, rfl⟩, rfl⟩
    · first
      | contradiction
      | ( skip
          refine z_if_ne (tgt := 16) d_Tf_recite_5 (by decide) (fun _ => ?_) (fun h => absurd h (by decide))
          refine z_aload_0 d_Tf_recite_16 ?_
          refine z_iconst (a := nI 2) d_Tf_recite_17 (by decide) ?_
          refine z_Vi1 d_Tf_recite_18 k_Tf_119 (by first | assumption | exact zS0_at (by assumption) (by omega) | exact zS0_at rfl (by omega)) (t_Tf_refuse (by assumption)) ⟨Nat.le_of_ble_eq_true rfl, Nat.le_of_ble_eq_true rfl, Nat.le_of_ble_eq_true rfl, Nat.le_of_ble_eq_true rfl⟩ (Nat.le_of_ble_eq_true rfl) ?_
          intro r w hq
          obtain ⟨rfl, rfl⟩ := hq
          refine z_retz d_Tf_recite_21 (by first | exact zb0 | exact zb1 | assumption) ?_
          exact ⟨by first | rfl | assumption, cW_0⟩)
    · first
      | contradiction
      | ( skip
          refine z_if_ne (tgt := 16) d_Tf_recite_5 (by decide) (fun h => absurd h (by decide)) (fun _ => ?_)
          refine z_aload_0 d_Tf_recite_8 ?_
          refine z_iload_2 d_Tf_recite_9 ?_
          refine z_Vi1 d_Tf_recite_10 k_Tf_234 (by first | assumption | exact zS0_at (by assumption) (by omega) | exact zS0_at rfl (by omega)) (t_Tf_noPerson Z N) ⟨Nat.le_of_ble_eq_true rfl, Nat.le_of_ble_eq_true rfl, Nat.le_of_ble_eq_true rfl, Nat.le_of_ble_eq_true rfl⟩ (Nat.le_of_ble_eq_true rfl) ?_
          intro r w hq
          rcases hq with ⟨⟨hz10, rfl⟩ | ⟨hz10, rfl⟩, rfl⟩
          · first
            | contradiction
            | ( skip
                refine z_if_eq (tgt := 22) d_Tf_recite_13 (by decide) (fun h => absurd h (by decide)) (fun _ => ?_)
                refine z_aload_0 d_Tf_recite_16 ?_
                refine z_iconst (a := nI 2) d_Tf_recite_17 (by decide) ?_
                refine z_Vi1 d_Tf_recite_18 k_Tf_119 (by first | assumption | exact zS0_at (by assumption) (by omega) | exact zS0_at rfl (by omega)) (t_Tf_refuse (by assumption)) ⟨Nat.le_of_ble_eq_true rfl, Nat.le_of_ble_eq_true rfl, Nat.le_of_ble_eq_true rfl, Nat.le_of_ble_eq_true rfl⟩ (Nat.le_of_ble_eq_true rfl) ?_
                intro r w hq
                obtain ⟨rfl, rfl⟩ := hq
                refine z_retz d_Tf_recite_21 (by first | exact zb0 | exact zb1 | assumption) ?_
                exact ⟨by first | rfl | assumption, cW_0⟩)
          · first
            | contradiction
            | ( skip
                refine z_if_eq (tgt := 22) d_Tf_recite_13 (by decide) (fun _ => ?_) (fun h => absurd h (by decide))
                contradiction))
  · refine z_aload_0 d_Tf_recite_0 ?_
    refine z_iload_1 d_Tf_recite_1 ?_
    refine z_Vi1 d_Tf_recite_2 k_Tf_249 (by first | assumption | exact zS0_at (by assumption) (by omega) | exact zS0_at rfl (by omega)) (t_Tf_noTin Z N) ⟨Nat.le_of_ble_eq_true rfl, Nat.le_of_ble_eq_true rfl, Nat.le_of_ble_eq_true rfl, Nat.le_of_ble_eq_true rfl⟩ (Nat.le_of_ble_eq_true rfl) ?_
    intro r w hq
    rcases hq with ⟨⟨hz2, rfl⟩ | ⟨hz2, rfl⟩, rfl⟩
    · first
      | contradiction
      | ( skip
          refine z_if_ne (tgt := 16) d_Tf_recite_5 (by decide) (fun _ => ?_) (fun h => absurd h (by decide))
          refine z_aload_0 d_Tf_recite_16 ?_
          refine z_iconst (a := nI 2) d_Tf_recite_17 (by decide) ?_
          refine z_Vi1 d_Tf_recite_18 k_Tf_119 (by first | assumption | exact zS0_at (by assumption) (by omega) | exact zS0_at rfl (by omega)) (t_Tf_refuse (by assumption)) ⟨Nat.le_of_ble_eq_true rfl, Nat.le_of_ble_eq_true rfl, Nat.le_of_ble_eq_true rfl, Nat.le_of_ble_eq_true rfl⟩ (Nat.le_of_ble_eq_true rfl) ?_
          intro r w hq
          obtain ⟨rfl, rfl⟩ := hq
          refine z_retz d_Tf_recite_21 (by first | exact zb0 | exact zb1 | assumption) ?_
          exact ⟨by first | rfl | assumption, cW_0⟩)
    · first
      | contradiction
      | ( skip
          refine z_if_ne (tgt := 16) d_Tf_recite_5 (by decide) (fun h => absurd h (by decide)) (fun _ => ?_)
          refine z_aload_0 d_Tf_recite_8 ?_
          refine z_iload_2 d_Tf_recite_9 ?_
          refine z_Vi1 d_Tf_recite_10 k_Tf_234 (by first | assumption | exact zS0_at (by assumption) (by omega) | exact zS0_at rfl (by omega)) (t_Tf_noPerson Z N) ⟨Nat.le_of_ble_eq_true rfl, Nat.le_of_ble_eq_true rfl, Nat.le_of_ble_eq_true rfl, Nat.le_of_ble_eq_true rfl⟩ (Nat.le_of_ble_eq_true rfl) ?_
          intro r w hq
          rcases hq with ⟨⟨hz10, rfl⟩ | ⟨hz10, rfl⟩, rfl⟩
          · first
            | contradiction
            | ( skip
                refine z_if_eq (tgt := 22) d_Tf_recite_13 (by decide) (fun h => absurd h (by decide)) (fun _ => ?_)
                refine z_aload_0 d_Tf_recite_16 ?_
                refine z_iconst (a := nI 2) d_Tf_recite_17 (by decide) ?_
                refine z_Vi1 d_Tf_recite_18 k_Tf_119 (by first | assumption | exact zS0_at (by assumption) (by omega) | exact zS0_at rfl (by omega)) (t_Tf_refuse (by assumption)) ⟨Nat.le_of_ble_eq_true rfl, Nat.le_of_ble_eq_true rfl, Nat.le_of_ble_eq_true rfl, Nat.le_of_ble_eq_true rfl⟩ (Nat.le_of_ble_eq_true rfl) ?_
                intro r w hq
                obtain ⟨rfl, rfl⟩ := hq
                refine z_retz d_Tf_recite_21 (by first | exact zb0 | exact zb1 | assumption) ?_
                exact ⟨by first | rfl | assumption, cW_0⟩)
          · first
            | contradiction
            | ( skip
                refine z_if_eq (tgt := 22) d_Tf_recite_13 (by decide) (fun _ => ?_) (fun h => absurd h (by decide))
                contradiction))
theorem t_Mo_recite_o (M : modOk P S) (N : modIn I nt np nl nn) (h : ¬ zin a nn ∨ ¬ zin b np) : zEi G y_Mo_recite prog_14_method_94_code 3 (some .boolean) 4 [.ref 145, .int a, .int b] (I, J, P, S) (fun r w => r = nI 0 ∧ mW I J P S 2 w) := by
  obtain ⟨M0, ⟨M4, M4s⟩, ⟨M5, M5s⟩, ⟨M6, M6s⟩, ⟨M7, M7s⟩, ⟨M20, M20s⟩, ⟨M21, M21s⟩, ⟨M22, M22s⟩, ⟨M26, M26s⟩, ⟨M27, M27s⟩, ⟨M28, M28s⟩, ⟨M30, M30s⟩, ⟨M34, M34s⟩, ⟨M36, M36s⟩, ⟨M37, M37s⟩⟩ := id M
  obtain ⟨I1, hI1, N1, h1, h0, e150, er, ek⟩ := mo_beg N
  obtain ⟨⟨m0, m0b⟩, ⟨m1, m1b⟩, ⟨m2, m2b⟩, ⟨m3, m3b⟩, mof, mon⟩ := id N1
  refine zEi_of (lv := [some (.ref 145), some (.int a), some (.int b)]) (by decide) rfl (Nat.le_of_ble_eq_true rfl) ?_
  refine z_aload_0 d_Mo_recite_0 ?_
  refine z_iconst (a := nI 0) d_Mo_recite_1 (by decide) ?_
  refine z_putI d_Mo_recite_2 f_Mo_70 (by first | assumption | exact zS0_at (by assumption) (by omega) | exact zS0_at rfl (by omega)) ?_
  refine z_aload_0 d_Mo_recite_5 ?_
  refine z_iconst (a := nI 0) d_Mo_recite_6 (by decide) ?_
  refine z_putI d_Mo_recite_7 f_Mo_73 (by first | assumption | exact zS0_at (by assumption) (by omega) | exact zS0_at rfl (by omega)) ?_
  rw [← hI1]
  rcases h with h | h
  · refine z_aload_0 d_Mo_recite_10 ?_
    refine z_iload_1 d_Mo_recite_11 ?_
    refine z_Vi1 d_Mo_recite_12 k_Mo_344 (by first | assumption | exact zS0_at (by assumption) (by omega) | exact zS0_at rfl (by omega)) (t_Mo_isTinAt M N1) ⟨Nat.le_of_ble_eq_true rfl, Nat.le_of_ble_eq_true rfl, Nat.le_of_ble_eq_true rfl, Nat.le_of_ble_eq_true rfl⟩ (Nat.le_of_ble_eq_true rfl) ?_
    intro r w hq
    rcases hq with ⟨⟨hz12, rfl⟩ | ⟨hz12, rfl⟩, rfl⟩
    · first
      | contradiction
      | ( skip
          refine z_if_eq (tgt := 27) d_Mo_recite_15 (by decide) (fun h => absurd h (by decide)) (fun _ => ?_)
          refine z_aload_0 d_Mo_recite_18 ?_
          refine z_iload_2 d_Mo_recite_19 ?_
          refine z_i2l d_Mo_recite_20 ?_
          refine z_Vi1 d_Mo_recite_21 k_Mo_336 (by first | assumption | exact zS0_at (by assumption) (by omega) | exact zS0_at rfl (by omega)) (t_Mo_isPersonAtI M N1) ⟨Nat.le_of_ble_eq_true rfl, Nat.le_of_ble_eq_true rfl, Nat.le_of_ble_eq_true rfl, Nat.le_of_ble_eq_true rfl⟩ (Nat.le_of_ble_eq_true rfl) ?_
          intro r w hq
          rcases hq with ⟨⟨hz21, rfl⟩ | ⟨hz21, rfl⟩, rfl⟩
          · first
            | contradiction
            | ( skip
                refine z_if_ne (tgt := 33) d_Mo_recite_24 (by decide) (fun _ => ?_) (fun h => absurd h (by decide))
                contradiction)
          · first
            | contradiction
            | ( skip
                refine z_if_ne (tgt := 33) d_Mo_recite_24 (by decide) (fun h => absurd h (by decide)) (fun _ => ?_)
                refine z_aload_0 d_Mo_recite_27 ?_
                refine z_iconst (a := nI 2) d_Mo_recite_28 (by decide) ?_
                refine z_Vi1 d_Mo_recite_29 k_Mo_85 (by first | assumption | exact zS0_at (by assumption) (by omega) | exact zS0_at rfl (by omega)) (t_Mo_no (by assumption)) ⟨Nat.le_of_ble_eq_true rfl, Nat.le_of_ble_eq_true rfl, Nat.le_of_ble_eq_true rfl, Nat.le_of_ble_eq_true rfl⟩ (Nat.le_of_ble_eq_true rfl) ?_
                intro r w hq
                obtain ⟨rfl, rfl⟩ := hq
                refine z_retz d_Mo_recite_32 (by first | exact zb0 | exact zb1 | assumption) ?_
                exact ⟨by first | rfl | assumption | (rw [e150]), _, _, rfl, (by repeat (first | exact h1 | refine mqF_z ?_ (by decide))), mqJ_r, (by first | exact zu_same _ _ _ _ | exact h0)⟩))
    · first
      | contradiction
      | ( skip
          refine z_if_eq (tgt := 27) d_Mo_recite_15 (by decide) (fun _ => ?_) (fun h => absurd h (by decide))
          refine z_aload_0 d_Mo_recite_27 ?_
          refine z_iconst (a := nI 2) d_Mo_recite_28 (by decide) ?_
          refine z_Vi1 d_Mo_recite_29 k_Mo_85 (by first | assumption | exact zS0_at (by assumption) (by omega) | exact zS0_at rfl (by omega)) (t_Mo_no (by assumption)) ⟨Nat.le_of_ble_eq_true rfl, Nat.le_of_ble_eq_true rfl, Nat.le_of_ble_eq_true rfl, Nat.le_of_ble_eq_true rfl⟩ (Nat.le_of_ble_eq_true rfl) ?_
          intro r w hq
          obtain ⟨rfl, rfl⟩ := hq
          refine z_retz d_Mo_recite_32 (by first | exact zb0 | exact zb1 | assumption) ?_
          exact ⟨by first | rfl | assumption | (rw [e150]), _, _, rfl, (by repeat (first | exact h1 | refine mqF_z ?_ (by decide))), mqJ_r, (by first | exact zu_same _ _ _ _ | exact h0)⟩)
  · refine z_aload_0 d_Mo_recite_10 ?_
    refine z_iload_1 d_Mo_recite_11 ?_
    refine z_Vi1 d_Mo_recite_12 k_Mo_344 (by first | assumption | exact zS0_at (by assumption) (by omega) | exact zS0_at rfl (by omega)) (t_Mo_isTinAt M N1) ⟨Nat.le_of_ble_eq_true rfl, Nat.le_of_ble_eq_true rfl, Nat.le_of_ble_eq_true rfl, Nat.le_of_ble_eq_true rfl⟩ (Nat.le_of_ble_eq_true rfl) ?_
    intro r w hq
    rcases hq with ⟨⟨hz12, rfl⟩ | ⟨hz12, rfl⟩, rfl⟩
    · first
      | contradiction
      | ( skip
          refine z_if_eq (tgt := 27) d_Mo_recite_15 (by decide) (fun h => absurd h (by decide)) (fun _ => ?_)
          refine z_aload_0 d_Mo_recite_18 ?_
          refine z_iload_2 d_Mo_recite_19 ?_
          refine z_i2l d_Mo_recite_20 ?_
          refine z_Vi1 d_Mo_recite_21 k_Mo_336 (by first | assumption | exact zS0_at (by assumption) (by omega) | exact zS0_at rfl (by omega)) (t_Mo_isPersonAtI M N1) ⟨Nat.le_of_ble_eq_true rfl, Nat.le_of_ble_eq_true rfl, Nat.le_of_ble_eq_true rfl, Nat.le_of_ble_eq_true rfl⟩ (Nat.le_of_ble_eq_true rfl) ?_
          intro r w hq
          rcases hq with ⟨⟨hz21, rfl⟩ | ⟨hz21, rfl⟩, rfl⟩
          · first
            | contradiction
            | ( skip
                refine z_if_ne (tgt := 33) d_Mo_recite_24 (by decide) (fun _ => ?_) (fun h => absurd h (by decide))
                contradiction)
          · first
            | contradiction
            | ( skip
                refine z_if_ne (tgt := 33) d_Mo_recite_24 (by decide) (fun h => absurd h (by decide)) (fun _ => ?_)
                refine z_aload_0 d_Mo_recite_27 ?_
                refine z_iconst (a := nI 2) d_Mo_recite_28 (by decide) ?_
                refine z_Vi1 d_Mo_recite_29 k_Mo_85 (by first | assumption | exact zS0_at (by assumption) (by omega) | exact zS0_at rfl (by omega)) (t_Mo_no (by assumption)) ⟨Nat.le_of_ble_eq_true rfl, Nat.le_of_ble_eq_true rfl, Nat.le_of_ble_eq_true rfl, Nat.le_of_ble_eq_true rfl⟩ (Nat.le_of_ble_eq_true rfl) ?_
                intro r w hq
                obtain ⟨rfl, rfl⟩ := hq
                refine z_retz d_Mo_recite_32 (by first | exact zb0 | exact zb1 | assumption) ?_
                exact ⟨by first | rfl | assumption | (rw [e150]), _, _, rfl, (by repeat (first | exact h1 | refine mqF_z ?_ (by decide))), mqJ_r, (by first | exact zu_same _ _ _ _ | exact h0)⟩))
    · first
      | contradiction
      | ( skip
          refine z_if_eq (tgt := 27) d_Mo_recite_15 (by decide) (fun _ => ?_) (fun h => absurd h (by decide))
          refine z_aload_0 d_Mo_recite_27 ?_
          refine z_iconst (a := nI 2) d_Mo_recite_28 (by decide) ?_
          refine z_Vi1 d_Mo_recite_29 k_Mo_85 (by first | assumption | exact zS0_at (by assumption) (by omega) | exact zS0_at rfl (by omega)) (t_Mo_no (by assumption)) ⟨Nat.le_of_ble_eq_true rfl, Nat.le_of_ble_eq_true rfl, Nat.le_of_ble_eq_true rfl, Nat.le_of_ble_eq_true rfl⟩ (Nat.le_of_ble_eq_true rfl) ?_
          intro r w hq
          obtain ⟨rfl, rfl⟩ := hq
          refine z_retz d_Mo_recite_32 (by first | exact zb0 | exact zb1 | assumption) ?_
          exact ⟨by first | rfl | assumption | (rw [e150]), _, _, rfl, (by repeat (first | exact h1 | refine mqF_z ?_ (by decide))), mqJ_r, (by first | exact zu_same _ _ _ _ | exact h0)⟩)
theorem t_Tf_recite_f {t q k : Nat} (Z : clOk f d P S) (N : fenIn I f nt np nl nn) (ht : t < nn) (hq : q < np) (hk : I (f + 5) t = nI k) (hk2 : k < nt) (hf : zbit (I f 7) t) : zEi G y_Tf_recite prog_1_method_20_code 4 (some .boolean) 3 [.ref 0, .int (nI t), .int (nI q)] (I, J, P, S) (fun r w => r = nI 0 ∧ cW I J P S 9 w) := by
  obtain ⟨⟨c0, c3, c1s⟩, ⟨c5, c2s, ctr⟩, ⟨c6, c11s, c11, c13s⟩, ⟨c7, c15s, c15⟩, ⟨c8, c16s, c16a, c16b, c17s⟩, ⟨c9, c10, cfd, F, Fd⟩, ⟨c11b, Ft⟩, ⟨c12, c69s, cmk⟩, ⟨c14, c121s, c121, c122s⟩, ⟨c15b, c123s, c123, c124s⟩, ⟨c16, c125s, c125, c126s⟩, ⟨c17, c127s, c127, c128s, ctb⟩, ⟨c18, c139s, c139, c140s⟩, ⟨c19, c141s, ⟨c141a, c142s⟩, ⟨c141b, c143s⟩, ⟨c141c, c144s⟩⟩, M⟩ := id Z
  obtain ⟨F0, ⟨F8, F8s⟩, ⟨F9, F9s⟩, ⟨F10, F10s⟩, ⟨F11, F11s⟩, ⟨F12, F12s⟩, ⟨F13, F13s⟩, ⟨F14, F14s⟩, ⟨F15, F15s⟩, ⟨F16, F16s⟩, ⟨F17, F17s⟩, ⟨F18, F18s⟩, ⟨F19, F19s⟩, ⟨Y3, Y3s⟩, ⟨Y4, Y4s⟩, ⟨Y5, Y5s⟩, ⟨Y6, Y6s⟩⟩ := id F
  obtain ⟨⟨n1, n1b⟩, ⟨n2, n2b⟩, ⟨n3, n3b⟩, ⟨n4, n4b⟩, nof, non⟩ := id N
  have hz : zin (nI t) nn := ⟨t, by omega, rfl⟩
  have hzq : zin (nI q) np := ⟨q, by omega, rfl⟩
  refine zEi_of (lv := [some (.ref 0), some (.int (nI t)), some (.int (nI q)), none]) (by decide) rfl (Nat.le_of_ble_eq_true rfl) ?_
  refine z_aload_0 d_Tf_recite_0 ?_
  refine z_iload_1 d_Tf_recite_1 ?_
  refine z_Vi1 d_Tf_recite_2 k_Tf_249 (by first | assumption | exact zS0_at (by assumption) (by omega) | exact zS0_at rfl (by omega)) (t_Tf_noTin Z N) ⟨Nat.le_of_ble_eq_true rfl, Nat.le_of_ble_eq_true rfl, Nat.le_of_ble_eq_true rfl, Nat.le_of_ble_eq_true rfl⟩ (Nat.le_of_ble_eq_true rfl) ?_
  intro r w hq
  rcases hq with ⟨⟨hz2, rfl⟩ | ⟨hz2, rfl⟩, rfl⟩
  · first
    | contradiction
    | ( skip
        refine z_if_ne (tgt := 16) d_Tf_recite_5 (by decide) (fun _ => ?_) (fun h => absurd h (by decide))
        refine z_aload_0 d_Tf_recite_16 ?_
        refine z_iconst (a := nI 2) d_Tf_recite_17 (by decide) ?_
        refine z_Vi1 d_Tf_recite_18 k_Tf_119 (by first | assumption | exact zS0_at (by assumption) (by omega) | exact zS0_at rfl (by omega)) (t_Tf_refuse (by assumption)) ⟨Nat.le_of_ble_eq_true rfl, Nat.le_of_ble_eq_true rfl, Nat.le_of_ble_eq_true rfl, Nat.le_of_ble_eq_true rfl⟩ (Nat.le_of_ble_eq_true rfl) ?_
        intro r w hq
        obtain ⟨rfl, rfl⟩ := hq
        refine z_retz d_Tf_recite_21 (by first | exact zb0 | exact zb1 | assumption) ?_
        exact ⟨by first | rfl | assumption, cW_0⟩)
  · first
    | contradiction
    | ( skip
        refine z_if_ne (tgt := 16) d_Tf_recite_5 (by decide) (fun h => absurd h (by decide)) (fun _ => ?_)
        refine z_aload_0 d_Tf_recite_8 ?_
        refine z_iload_2 d_Tf_recite_9 ?_
        refine z_Vi1 d_Tf_recite_10 k_Tf_234 (by first | assumption | exact zS0_at (by assumption) (by omega) | exact zS0_at rfl (by omega)) (t_Tf_noPerson Z N) ⟨Nat.le_of_ble_eq_true rfl, Nat.le_of_ble_eq_true rfl, Nat.le_of_ble_eq_true rfl, Nat.le_of_ble_eq_true rfl⟩ (Nat.le_of_ble_eq_true rfl) ?_
        intro r w hq
        rcases hq with ⟨⟨hz10, rfl⟩ | ⟨hz10, rfl⟩, rfl⟩
        · first
          | contradiction
          | ( skip
              refine z_if_eq (tgt := 22) d_Tf_recite_13 (by decide) (fun h => absurd h (by decide)) (fun _ => ?_)
              refine z_aload_0 d_Tf_recite_16 ?_
              refine z_iconst (a := nI 2) d_Tf_recite_17 (by decide) ?_
              refine z_Vi1 d_Tf_recite_18 k_Tf_119 (by first | assumption | exact zS0_at (by assumption) (by omega) | exact zS0_at rfl (by omega)) (t_Tf_refuse (by assumption)) ⟨Nat.le_of_ble_eq_true rfl, Nat.le_of_ble_eq_true rfl, Nat.le_of_ble_eq_true rfl, Nat.le_of_ble_eq_true rfl⟩ (Nat.le_of_ble_eq_true rfl) ?_
              intro r w hq
              obtain ⟨rfl, rfl⟩ := hq
              refine z_retz d_Tf_recite_21 (by first | exact zb0 | exact zb1 | assumption) ?_
              exact ⟨by first | rfl | assumption, cW_0⟩)
        · first
          | contradiction
          | ( skip
              refine z_if_eq (tgt := 22) d_Tf_recite_13 (by decide) (fun _ => ?_) (fun h => absurd h (by decide))
              refine z_aload_0 d_Tf_recite_22 ?_
              refine z_getR d_Tf_recite_23 f_Tf_60 (by first | assumption | exact zS0_at (by assumption) (by omega) | exact zS0_at rfl (by omega)) (by first | assumption | exact zS0_at (by assumption) (by omega) | exact zS0_at rfl (by omega)) ?_
              refine z_getIv d_Tf_recite_26 f_Tf_217 (by first | assumption | exact zS0_at (by assumption) (by omega) | exact zS0_at rfl (by omega)) (by first | assumption | ((try simp (disch := omega) only [zu_same, zu_ne, zcp_ne, zfl_ne]); first | assumption | rfl)) ?_
              refine z_iload_1 d_Tf_recite_29 ?_
              refine z_ishr d_Tf_recite_30 ?_
              refine z_iconst (a := nI 1) d_Tf_recite_31 (by decide) ?_
              refine z_iand d_Tf_recite_32 ?_
              refine z_if_eq (tgt := 40) d_Tf_recite_33 (by decide) (fun h33 => ?_) (fun h33 => ?_)
              · first
                | (simp (disch := omega) only [← nI_0, nI_leI, nI_ltI, nI_eq, not_true_eq_false, not_false_eq_true] at h33; done)
                | (simp (disch := omega) only [← nI_0, nI_leI, nI_ltI, nI_eq, not_true_eq_false, not_false_eq_true] at h33; omega)
                | contradiction
                | exact absurd h33 (Int32.not_lt.mpr (by assumption))
                | exact absurd h33 (Int32.not_le.mpr (by assumption))
                | exact absurd h33 (by decide)
                | exact absurd (by decide) h33
                | ( try simp (disch := omega) only [← nI_0, nI_leI, nI_ltI, nI_eq, not_true_eq_false, not_false_eq_true] at h33
                    (try have h33b := zbit_n0.mp h33); (try have h33b := zbit_p0.mp h33)
                    refine z_iconst (a := nI 0) d_Tf_recite_40 (by decide) ?_
                    first | refine z_istore_3 d_Tf_recite_41 rfl ?_ | (refine z_forget_2 ?_; refine z_istore_3 d_Tf_recite_41 rfl ?_)
                    refine z_iload_3 d_Tf_recite_42 ?_
                    refine z_if_ne (tgt := 79) d_Tf_recite_43 (by decide) (fun h43 => ?_) (fun h43 => ?_)
                    · first
                      | (simp (disch := omega) only [← nI_0, nI_leI, nI_ltI, nI_eq, not_true_eq_false, not_false_eq_true] at h43; done)
                      | (simp (disch := omega) only [← nI_0, nI_leI, nI_ltI, nI_eq, not_true_eq_false, not_false_eq_true] at h43; omega)
                      | contradiction
                      | exact absurd h43 (Int32.not_lt.mpr (by assumption))
                      | exact absurd h43 (Int32.not_le.mpr (by assumption))
                      | exact absurd h43 (by decide)
                      | exact absurd (by decide) h43
                      | ( try simp (disch := omega) only [← nI_0, nI_leI, nI_ltI, nI_eq, not_true_eq_false, not_false_eq_true] at h43
                          (try have h43b := zbit_n0.mp h43); (try have h43b := zbit_p0.mp h43)
                          refine z_aload_0 d_Tf_recite_79 ?_
                          refine z_bipush (a := nI 9) d_Tf_recite_80 (by decide) ?_
                          refine z_Vi1 d_Tf_recite_82 k_Tf_119 (by first | assumption | exact zS0_at (by assumption) (by omega) | exact zS0_at rfl (by omega)) (t_Tf_refuse (by assumption)) ⟨Nat.le_of_ble_eq_true rfl, Nat.le_of_ble_eq_true rfl, Nat.le_of_ble_eq_true rfl, Nat.le_of_ble_eq_true rfl⟩ (Nat.le_of_ble_eq_true rfl) ?_
                          intro r w hq
                          obtain ⟨rfl, rfl⟩ := hq
                          refine z_retz d_Tf_recite_85 (by first | exact zb0 | exact zb1 | assumption) ?_
                          exact ⟨by first | rfl | assumption, cW_0⟩)
                    · first
                      | (simp (disch := omega) only [← nI_0, nI_leI, nI_ltI, nI_eq, not_true_eq_false, not_false_eq_true] at h43; done)
                      | (simp (disch := omega) only [← nI_0, nI_leI, nI_ltI, nI_eq, not_true_eq_false, not_false_eq_true] at h43; omega)
                      | contradiction
                      | exact absurd h43 (Int32.not_lt.mpr (by assumption))
                      | exact absurd h43 (Int32.not_le.mpr (by assumption))
                      | exact absurd h43 (by decide)
                      | exact absurd (by decide) h43
                      | ( try simp (disch := omega) only [← nI_0, nI_leI, nI_ltI, nI_eq, not_true_eq_false, not_false_eq_true] at h43
                          (try have h43b := zbit_n0.mp h43); (try have h43b := zbit_p0.mp h43)
                          refine z_aload_0 d_Tf_recite_46 ?_
                          refine z_getR d_Tf_recite_47 f_Tf_60 (by first | assumption | exact zS0_at (by assumption) (by omega) | exact zS0_at rfl (by omega)) (by first | assumption | exact zS0_at (by assumption) (by omega) | exact zS0_at rfl (by omega)) ?_
                          refine z_iload_2 d_Tf_recite_50 ?_
                          refine z_aload_0 d_Tf_recite_51 ?_
                          refine z_getR d_Tf_recite_52 f_Tf_60 (by first | assumption | exact zS0_at (by assumption) (by omega) | exact zS0_at rfl (by omega)) (by first | assumption | exact zS0_at (by assumption) (by omega) | exact zS0_at rfl (by omega)) ?_
                          refine z_getR d_Tf_recite_55 f_Tf_252 (by first | assumption | exact zS0_at (by assumption) (by omega) | exact zS0_at rfl (by omega)) (by first | assumption | exact zS0_at (by assumption) (by omega) | exact zS0_at rfl (by omega)) ?_
                          refine z_iload_1 d_Tf_recite_58 ?_
                          first | refine z_ialdNv d_Tf_recite_59 (by first | assumption | exact zS0_at (by assumption) (by omega) | exact zS0_at rfl (by omega)) (by omega) (by first | decide | omega) (by first | assumption | ((try simp (disch := omega) only [zu_same, zu_ne, zcp_ne, zfl_ne]); first | assumption | rfl)) ?_ | refine z_iald d_Tf_recite_59 (by first | assumption | exact zS0_at (by assumption) (by omega) | exact zS0_at rfl (by omega)) (by first | assumption | exact zS0_at (by assumption) (by omega) | exact zS0_at rfl (by omega)) ?_
                          refine z_Vi2 d_Tf_recite_60 k_Tf_285 (by first | assumption | exact zS0_at (by assumption) (by omega) | exact zS0_at rfl (by omega)) (t_Fen_isTrue (by assumption) (by omega)) ⟨Nat.le_of_ble_eq_true rfl, Nat.le_of_ble_eq_true rfl, Nat.le_of_ble_eq_true rfl, Nat.le_of_ble_eq_true rfl⟩ (Nat.le_of_ble_eq_true rfl) ?_
                          intro r w hq
                          rcases hq with ⟨⟨hz60, rfl⟩ | ⟨hz60, rfl⟩, rfl⟩
                          · first
                            | contradiction
                            | ( skip
                                refine z_if_eq (tgt := 79) d_Tf_recite_63 (by decide) (fun h => absurd h (by decide)) (fun _ => ?_)
                                refine z_aload_0 d_Tf_recite_66 ?_
                                refine z_getR d_Tf_recite_67 f_Tf_60 (by first | assumption | exact zS0_at (by assumption) (by omega) | exact zS0_at rfl (by omega)) (by first | assumption | exact zS0_at (by assumption) (by omega) | exact zS0_at rfl (by omega)) ?_
                                refine z_getR d_Tf_recite_70 f_Tf_258 (by first | assumption | exact zS0_at (by assumption) (by omega) | exact zS0_at rfl (by omega)) (by first | assumption | exact zS0_at (by assumption) (by omega) | exact zS0_at rfl (by omega)) ?_
                                refine z_iload_1 d_Tf_recite_73 ?_
                                first | refine z_ialdNv d_Tf_recite_74 (by first | assumption | exact zS0_at (by assumption) (by omega) | exact zS0_at rfl (by omega)) (by omega) (by first | decide | omega) (by first | assumption | ((try simp (disch := omega) only [zu_same, zu_ne, zcp_ne, zfl_ne]); first | assumption | rfl)) ?_ | refine z_iald d_Tf_recite_74 (by first | assumption | exact zS0_at (by assumption) (by omega) | exact zS0_at rfl (by omega)) (by first | assumption | exact zS0_at (by assumption) (by omega) | exact zS0_at rfl (by omega)) ?_
                                refine z_iload_2 d_Tf_recite_75 ?_
                                refine z_icmp_ne (tgt := 86) d_Tf_recite_76 (by decide) (fun h76 => ?_) (fun h76 => ?_)
                                · first
                                  | (simp (disch := omega) only [← nI_0, nI_leI, nI_ltI, nI_eq, not_true_eq_false, not_false_eq_true] at h76; done)
                                  | (simp (disch := omega) only [← nI_0, nI_leI, nI_ltI, nI_eq, not_true_eq_false, not_false_eq_true] at h76; omega)
                                  | contradiction
                                  | exact absurd h76 (Int32.not_lt.mpr (by assumption))
                                  | exact absurd h76 (Int32.not_le.mpr (by assumption))
                                  | exact absurd h76 (by decide)
                                  | exact absurd (by decide) h76
                                  | ( try simp (disch := omega) only [← nI_0, nI_leI, nI_ltI, nI_eq, not_true_eq_false, not_false_eq_true] at h76
                                      (try have h76b := zbit_n0.mp h76); (try have h76b := zbit_p0.mp h76)
                                      refine z_aload_0 d_Tf_recite_86 ?_
                                      refine z_getR d_Tf_recite_87 f_Tf_60 (by first | assumption | exact zS0_at (by assumption) (by omega) | exact zS0_at rfl (by omega)) (by first | assumption | exact zS0_at (by assumption) (by omega) | exact zS0_at rfl (by omega)) ?_
                                      refine z_iload_1 d_Tf_recite_90 ?_
                                      refine z_iload_2 d_Tf_recite_91 ?_
                                      refine z_Vv2 d_Tf_recite_92 k_Tf_288 (by first | assumption | exact zS0_at (by assumption) (by omega) | exact zS0_at rfl (by omega)) (t_Fen_putOn (by assumption) (by omega)) ⟨Nat.le_of_ble_eq_true rfl, Nat.le_of_ble_eq_true rfl, Nat.le_of_ble_eq_true rfl, Nat.le_of_ble_eq_true rfl⟩ (Nat.le_of_ble_eq_true rfl) ?_
                                      intro w hq
                                      obtain rfl := hq
                                      refine z_aload_0 d_Tf_recite_95 ?_
                                      refine z_Vi0 d_Tf_recite_96 k_Tf_126 (by first | assumption | exact zS0_at (by assumption) (by omega) | exact zS0_at rfl (by omega)) (t_Tf_agree (by assumption)) ⟨Nat.le_of_ble_eq_true rfl, Nat.le_of_ble_eq_true rfl, Nat.le_of_ble_eq_true rfl, Nat.le_of_ble_eq_true rfl⟩ (Nat.le_of_ble_eq_true rfl) ?_
                                      intro r w hq
                                      obtain ⟨rfl, rfl⟩ := hq
                                      refine z_retz d_Tf_recite_99 (by first | exact zb0 | exact zb1 | assumption) ?_
                                      exact ⟨by first | rfl | assumption, cW_0⟩)
                                · first
                                  | (simp (disch := omega) only [← nI_0, nI_leI, nI_ltI, nI_eq, not_true_eq_false, not_false_eq_true] at h76; done)
                                  | (simp (disch := omega) only [← nI_0, nI_leI, nI_ltI, nI_eq, not_true_eq_false, not_false_eq_true] at h76; omega)
                                  | contradiction
                                  | exact absurd h76 (Int32.not_lt.mpr (by assumption))
                                  | exact absurd h76 (Int32.not_le.mpr (by assumption))
                                  | exact absurd h76 (by decide)
                                  | exact absurd (by decide) h76
                                  | ( try simp (disch := omega) only [← nI_0, nI_leI, nI_ltI, nI_eq, not_true_eq_false, not_false_eq_true] at h76
                                      (try have h76b := zbit_n0.mp h76); (try have h76b := zbit_p0.mp h76)
                                      refine z_aload_0 d_Tf_recite_79 ?_
                                      refine z_bipush (a := nI 9) d_Tf_recite_80 (by decide) ?_
                                      refine z_Vi1 d_Tf_recite_82 k_Tf_119 (by first | assumption | exact zS0_at (by assumption) (by omega) | exact zS0_at rfl (by omega)) (t_Tf_refuse (by assumption)) ⟨Nat.le_of_ble_eq_true rfl, Nat.le_of_ble_eq_true rfl, Nat.le_of_ble_eq_true rfl, Nat.le_of_ble_eq_true rfl⟩ (Nat.le_of_ble_eq_true rfl) ?_
                                      intro r w hq
                                      obtain ⟨rfl, rfl⟩ := hq
                                      refine z_retz d_Tf_recite_85 (by first | exact zb0 | exact zb1 | assumption) ?_
                                      exact ⟨by first | rfl | assumption, cW_0⟩))
                          · first
                            | contradiction
                            | ( skip
                                refine z_if_eq (tgt := 79) d_Tf_recite_63 (by decide) (fun _ => ?_) (fun h => absurd h (by decide))
                                refine z_aload_0 d_Tf_recite_79 ?_
                                refine z_bipush (a := nI 9) d_Tf_recite_80 (by decide) ?_
                                refine z_Vi1 d_Tf_recite_82 k_Tf_119 (by first | assumption | exact zS0_at (by assumption) (by omega) | exact zS0_at rfl (by omega)) (t_Tf_refuse (by assumption)) ⟨Nat.le_of_ble_eq_true rfl, Nat.le_of_ble_eq_true rfl, Nat.le_of_ble_eq_true rfl, Nat.le_of_ble_eq_true rfl⟩ (Nat.le_of_ble_eq_true rfl) ?_
                                intro r w hq
                                obtain ⟨rfl, rfl⟩ := hq
                                refine z_retz d_Tf_recite_85 (by first | exact zb0 | exact zb1 | assumption) ?_
                                exact ⟨by first | rfl | assumption, cW_0⟩)))
              · first
                | (simp (disch := omega) only [← nI_0, nI_leI, nI_ltI, nI_eq, not_true_eq_false, not_false_eq_true] at h33; done)
                | (simp (disch := omega) only [← nI_0, nI_leI, nI_ltI, nI_eq, not_true_eq_false, not_false_eq_true] at h33; omega)
                | contradiction
                | exact absurd h33 (Int32.not_lt.mpr (by assumption))
                | exact absurd h33 (Int32.not_le.mpr (by assumption))
                | exact absurd h33 (by decide)
                | exact absurd (by decide) h33
                | ( try simp (disch := omega) only [← nI_0, nI_leI, nI_ltI, nI_eq, not_true_eq_false, not_false_eq_true] at h33
                    (try have h33b := zbit_n0.mp h33); (try have h33b := zbit_p0.mp h33)
                    refine z_iconst (a := nI 1) d_Tf_recite_36 (by decide) ?_
                    refine z_goto (tgt := 41) d_Tf_recite_37 (by decide) ?_
                    first | refine z_istore_3 d_Tf_recite_41 rfl ?_ | (refine z_forget_2 ?_; refine z_istore_3 d_Tf_recite_41 rfl ?_)
                    refine z_iload_3 d_Tf_recite_42 ?_
                    refine z_if_ne (tgt := 79) d_Tf_recite_43 (by decide) (fun h43 => ?_) (fun h43 => ?_)
                    · first
                      | (simp (disch := omega) only [← nI_0, nI_leI, nI_ltI, nI_eq, not_true_eq_false, not_false_eq_true] at h43; done)
                      | (simp (disch := omega) only [← nI_0, nI_leI, nI_ltI, nI_eq, not_true_eq_false, not_false_eq_true] at h43; omega)
                      | contradiction
                      | exact absurd h43 (Int32.not_lt.mpr (by assumption))
                      | exact absurd h43 (Int32.not_le.mpr (by assumption))
                      | exact absurd h43 (by decide)
                      | exact absurd (by decide) h43
                      | ( try simp (disch := omega) only [← nI_0, nI_leI, nI_ltI, nI_eq, not_true_eq_false, not_false_eq_true] at h43
                          (try have h43b := zbit_n0.mp h43); (try have h43b := zbit_p0.mp h43)
                          refine z_aload_0 d_Tf_recite_79 ?_
                          refine z_bipush (a := nI 9) d_Tf_recite_80 (by decide) ?_
                          refine z_Vi1 d_Tf_recite_82 k_Tf_119 (by first | assumption | exact zS0_at (by assumption) (by omega) | exact zS0_at rfl (by omega)) (t_Tf_refuse (by assumption)) ⟨Nat.le_of_ble_eq_true rfl, Nat.le_of_ble_eq_true rfl, Nat.le_of_ble_eq_true rfl, Nat.le_of_ble_eq_true rfl⟩ (Nat.le_of_ble_eq_true rfl) ?_
                          intro r w hq
                          obtain ⟨rfl, rfl⟩ := hq
                          refine z_retz d_Tf_recite_85 (by first | exact zb0 | exact zb1 | assumption) ?_
                          exact ⟨by first | rfl | assumption, cW_0⟩)
                    · first
                      | (simp (disch := omega) only [← nI_0, nI_leI, nI_ltI, nI_eq, not_true_eq_false, not_false_eq_true] at h43; done)
                      | (simp (disch := omega) only [← nI_0, nI_leI, nI_ltI, nI_eq, not_true_eq_false, not_false_eq_true] at h43; omega)
                      | contradiction
                      | exact absurd h43 (Int32.not_lt.mpr (by assumption))
                      | exact absurd h43 (Int32.not_le.mpr (by assumption))
                      | exact absurd h43 (by decide)
                      | exact absurd (by decide) h43
                      | ( try simp (disch := omega) only [← nI_0, nI_leI, nI_ltI, nI_eq, not_true_eq_false, not_false_eq_true] at h43
                          (try have h43b := zbit_n0.mp h43); (try have h43b := zbit_p0.mp h43)
                          refine z_aload_0 d_Tf_recite_46 ?_
                          refine z_getR d_Tf_recite_47 f_Tf_60 (by first | assumption | exact zS0_at (by assumption) (by omega) | exact zS0_at rfl (by omega)) (by first | assumption | exact zS0_at (by assumption) (by omega) | exact zS0_at rfl (by omega)) ?_
                          refine z_iload_2 d_Tf_recite_50 ?_
                          refine z_aload_0 d_Tf_recite_51 ?_
                          refine z_getR d_Tf_recite_52 f_Tf_60 (by first | assumption | exact zS0_at (by assumption) (by omega) | exact zS0_at rfl (by omega)) (by first | assumption | exact zS0_at (by assumption) (by omega) | exact zS0_at rfl (by omega)) ?_
                          refine z_getR d_Tf_recite_55 f_Tf_252 (by first | assumption | exact zS0_at (by assumption) (by omega) | exact zS0_at rfl (by omega)) (by first | assumption | exact zS0_at (by assumption) (by omega) | exact zS0_at rfl (by omega)) ?_
                          refine z_iload_1 d_Tf_recite_58 ?_
                          first | refine z_ialdNv d_Tf_recite_59 (by first | assumption | exact zS0_at (by assumption) (by omega) | exact zS0_at rfl (by omega)) (by omega) (by first | decide | omega) (by first | assumption | ((try simp (disch := omega) only [zu_same, zu_ne, zcp_ne, zfl_ne]); first | assumption | rfl)) ?_ | refine z_iald d_Tf_recite_59 (by first | assumption | exact zS0_at (by assumption) (by omega) | exact zS0_at rfl (by omega)) (by first | assumption | exact zS0_at (by assumption) (by omega) | exact zS0_at rfl (by omega)) ?_
                          refine z_Vi2 d_Tf_recite_60 k_Tf_285 (by first | assumption | exact zS0_at (by assumption) (by omega) | exact zS0_at rfl (by omega)) (t_Fen_isTrue (by assumption) (by omega)) ⟨Nat.le_of_ble_eq_true rfl, Nat.le_of_ble_eq_true rfl, Nat.le_of_ble_eq_true rfl, Nat.le_of_ble_eq_true rfl⟩ (Nat.le_of_ble_eq_true rfl) ?_
                          intro r w hq
                          rcases hq with ⟨⟨hz60, rfl⟩ | ⟨hz60, rfl⟩, rfl⟩
                          · first
                            | contradiction
                            | ( skip
                                refine z_if_eq (tgt := 79) d_Tf_recite_63 (by decide) (fun h => absurd h (by decide)) (fun _ => ?_)
                                refine z_aload_0 d_Tf_recite_66 ?_
                                refine z_getR d_Tf_recite_67 f_Tf_60 (by first | assumption | exact zS0_at (by assumption) (by omega) | exact zS0_at rfl (by omega)) (by first | assumption | exact zS0_at (by assumption) (by omega) | exact zS0_at rfl (by omega)) ?_
                                refine z_getR d_Tf_recite_70 f_Tf_258 (by first | assumption | exact zS0_at (by assumption) (by omega) | exact zS0_at rfl (by omega)) (by first | assumption | exact zS0_at (by assumption) (by omega) | exact zS0_at rfl (by omega)) ?_
                                refine z_iload_1 d_Tf_recite_73 ?_
                                first | refine z_ialdNv d_Tf_recite_74 (by first | assumption | exact zS0_at (by assumption) (by omega) | exact zS0_at rfl (by omega)) (by omega) (by first | decide | omega) (by first | assumption | ((try simp (disch := omega) only [zu_same, zu_ne, zcp_ne, zfl_ne]); first | assumption | rfl)) ?_ | refine z_iald d_Tf_recite_74 (by first | assumption | exact zS0_at (by assumption) (by omega) | exact zS0_at rfl (by omega)) (by first | assumption | exact zS0_at (by assumption) (by omega) | exact zS0_at rfl (by omega)) ?_
                                refine z_iload_2 d_Tf_recite_75 ?_
                                refine z_icmp_ne (tgt := 86) d_Tf_recite_76 (by decide) (fun h76 => ?_) (fun h76 => ?_)
                                · first
                                  | (simp (disch := omega) only [← nI_0, nI_leI, nI_ltI, nI_eq, not_true_eq_false, not_false_eq_true] at h76; done)
                                  | (simp (disch := omega) only [← nI_0, nI_leI, nI_ltI, nI_eq, not_true_eq_false, not_false_eq_true] at h76; omega)
                                  | contradiction
                                  | exact absurd h76 (Int32.not_lt.mpr (by assumption))
                                  | exact absurd h76 (Int32.not_le.mpr (by assumption))
                                  | exact absurd h76 (by decide)
                                  | exact absurd (by decide) h76
                                  | ( try simp (disch := omega) only [← nI_0, nI_leI, nI_ltI, nI_eq, not_true_eq_false, not_false_eq_true] at h76
                                      (try have h76b := zbit_n0.mp h76); (try have h76b := zbit_p0.mp h76)
                                      refine z_aload_0 d_Tf_recite_86 ?_
                                      refine z_getR d_Tf_recite_87 f_Tf_60 (by first | assumption | exact zS0_at (by assumption) (by omega) | exact zS0_at rfl (by omega)) (by first | assumption | exact zS0_at (by assumption) (by omega) | exact zS0_at rfl (by omega)) ?_
                                      refine z_iload_1 d_Tf_recite_90 ?_
                                      refine z_iload_2 d_Tf_recite_91 ?_
                                      refine z_Vv2 d_Tf_recite_92 k_Tf_288 (by first | assumption | exact zS0_at (by assumption) (by omega) | exact zS0_at rfl (by omega)) (t_Fen_putOn (by assumption) (by omega)) ⟨Nat.le_of_ble_eq_true rfl, Nat.le_of_ble_eq_true rfl, Nat.le_of_ble_eq_true rfl, Nat.le_of_ble_eq_true rfl⟩ (Nat.le_of_ble_eq_true rfl) ?_
                                      intro w hq
                                      obtain rfl := hq
                                      refine z_aload_0 d_Tf_recite_95 ?_
                                      refine z_Vi0 d_Tf_recite_96 k_Tf_126 (by first | assumption | exact zS0_at (by assumption) (by omega) | exact zS0_at rfl (by omega)) (t_Tf_agree (by assumption)) ⟨Nat.le_of_ble_eq_true rfl, Nat.le_of_ble_eq_true rfl, Nat.le_of_ble_eq_true rfl, Nat.le_of_ble_eq_true rfl⟩ (Nat.le_of_ble_eq_true rfl) ?_
                                      intro r w hq
                                      obtain ⟨rfl, rfl⟩ := hq
                                      refine z_retz d_Tf_recite_99 (by first | exact zb0 | exact zb1 | assumption) ?_
                                      exact ⟨by first | rfl | assumption, cW_0⟩)
                                · first
                                  | (simp (disch := omega) only [← nI_0, nI_leI, nI_ltI, nI_eq, not_true_eq_false, not_false_eq_true] at h76; done)
                                  | (simp (disch := omega) only [← nI_0, nI_leI, nI_ltI, nI_eq, not_true_eq_false, not_false_eq_true] at h76; omega)
                                  | contradiction
                                  | exact absurd h76 (Int32.not_lt.mpr (by assumption))
                                  | exact absurd h76 (Int32.not_le.mpr (by assumption))
                                  | exact absurd h76 (by decide)
                                  | exact absurd (by decide) h76
                                  | ( try simp (disch := omega) only [← nI_0, nI_leI, nI_ltI, nI_eq, not_true_eq_false, not_false_eq_true] at h76
                                      (try have h76b := zbit_n0.mp h76); (try have h76b := zbit_p0.mp h76)
                                      refine z_aload_0 d_Tf_recite_79 ?_
                                      refine z_bipush (a := nI 9) d_Tf_recite_80 (by decide) ?_
                                      refine z_Vi1 d_Tf_recite_82 k_Tf_119 (by first | assumption | exact zS0_at (by assumption) (by omega) | exact zS0_at rfl (by omega)) (t_Tf_refuse (by assumption)) ⟨Nat.le_of_ble_eq_true rfl, Nat.le_of_ble_eq_true rfl, Nat.le_of_ble_eq_true rfl, Nat.le_of_ble_eq_true rfl⟩ (Nat.le_of_ble_eq_true rfl) ?_
                                      intro r w hq
                                      obtain ⟨rfl, rfl⟩ := hq
                                      refine z_retz d_Tf_recite_85 (by first | exact zb0 | exact zb1 | assumption) ?_
                                      exact ⟨by first | rfl | assumption, cW_0⟩))
                          · first
                            | contradiction
                            | ( skip
                                refine z_if_eq (tgt := 79) d_Tf_recite_63 (by decide) (fun _ => ?_) (fun h => absurd h (by decide))
                                refine z_aload_0 d_Tf_recite_79 ?_
                                refine z_bipush (a := nI 9) d_Tf_recite_80 (by decide) ?_
                                refine z_Vi1 d_Tf_recite_82 k_Tf_119 (by first | assumption | exact zS0_at (by assumption) (by omega) | exact zS0_at rfl (by omega)) (t_Tf_refuse (by assumption)) ⟨Nat.le_of_ble_eq_true rfl, Nat.le_of_ble_eq_true rfl, Nat.le_of_ble_eq_true rfl, Nat.le_of_ble_eq_true rfl⟩ (Nat.le_of_ble_eq_true rfl) ?_
                                intro r w hq
                                obtain ⟨rfl, rfl⟩ := hq
                                refine z_retz d_Tf_recite_85 (by first | exact zb0 | exact zb1 | assumption) ?_
                                exact ⟨by first | rfl | assumption, cW_0⟩)))))
theorem t_Tf_recite_n {t q k : Nat} (Z : clOk f d P S) (N : fenIn I f nt np nl nn) (ht : t < nn) (hq : q < np) (hk : I (f + 5) t = nI k) (hk2 : k < nt) (hf : ¬ zbit (I f 7) t) (hn : ¬ zbit (I (f + 2) q) k) : zEi G y_Tf_recite prog_1_method_20_code 4 (some .boolean) 3 [.ref 0, .int (nI t), .int (nI q)] (I, J, P, S) (fun r w => r = nI 0 ∧ cW I J P S 9 w) := by
  obtain ⟨⟨c0, c3, c1s⟩, ⟨c5, c2s, ctr⟩, ⟨c6, c11s, c11, c13s⟩, ⟨c7, c15s, c15⟩, ⟨c8, c16s, c16a, c16b, c17s⟩, ⟨c9, c10, cfd, F, Fd⟩, ⟨c11b, Ft⟩, ⟨c12, c69s, cmk⟩, ⟨c14, c121s, c121, c122s⟩, ⟨c15b, c123s, c123, c124s⟩, ⟨c16, c125s, c125, c126s⟩, ⟨c17, c127s, c127, c128s, ctb⟩, ⟨c18, c139s, c139, c140s⟩, ⟨c19, c141s, ⟨c141a, c142s⟩, ⟨c141b, c143s⟩, ⟨c141c, c144s⟩⟩, M⟩ := id Z
  obtain ⟨F0, ⟨F8, F8s⟩, ⟨F9, F9s⟩, ⟨F10, F10s⟩, ⟨F11, F11s⟩, ⟨F12, F12s⟩, ⟨F13, F13s⟩, ⟨F14, F14s⟩, ⟨F15, F15s⟩, ⟨F16, F16s⟩, ⟨F17, F17s⟩, ⟨F18, F18s⟩, ⟨F19, F19s⟩, ⟨Y3, Y3s⟩, ⟨Y4, Y4s⟩, ⟨Y5, Y5s⟩, ⟨Y6, Y6s⟩⟩ := id F
  obtain ⟨⟨n1, n1b⟩, ⟨n2, n2b⟩, ⟨n3, n3b⟩, ⟨n4, n4b⟩, nof, non⟩ := id N
  have hz : zin (nI t) nn := ⟨t, by omega, rfl⟩
  have hzq : zin (nI q) np := ⟨q, by omega, rfl⟩
  refine zEi_of (lv := [some (.ref 0), some (.int (nI t)), some (.int (nI q)), none]) (by decide) rfl (Nat.le_of_ble_eq_true rfl) ?_
  refine z_aload_0 d_Tf_recite_0 ?_
  refine z_iload_1 d_Tf_recite_1 ?_
  refine z_Vi1 d_Tf_recite_2 k_Tf_249 (by first | assumption | exact zS0_at (by assumption) (by omega) | exact zS0_at rfl (by omega)) (t_Tf_noTin Z N) ⟨Nat.le_of_ble_eq_true rfl, Nat.le_of_ble_eq_true rfl, Nat.le_of_ble_eq_true rfl, Nat.le_of_ble_eq_true rfl⟩ (Nat.le_of_ble_eq_true rfl) ?_
  intro r w hq
  rcases hq with ⟨⟨hz2, rfl⟩ | ⟨hz2, rfl⟩, rfl⟩
  · first
    | contradiction
    | ( skip
        refine z_if_ne (tgt := 16) d_Tf_recite_5 (by decide) (fun _ => ?_) (fun h => absurd h (by decide))
        refine z_aload_0 d_Tf_recite_16 ?_
        refine z_iconst (a := nI 2) d_Tf_recite_17 (by decide) ?_
        refine z_Vi1 d_Tf_recite_18 k_Tf_119 (by first | assumption | exact zS0_at (by assumption) (by omega) | exact zS0_at rfl (by omega)) (t_Tf_refuse (by assumption)) ⟨Nat.le_of_ble_eq_true rfl, Nat.le_of_ble_eq_true rfl, Nat.le_of_ble_eq_true rfl, Nat.le_of_ble_eq_true rfl⟩ (Nat.le_of_ble_eq_true rfl) ?_
        intro r w hq
        obtain ⟨rfl, rfl⟩ := hq
        refine z_retz d_Tf_recite_21 (by first | exact zb0 | exact zb1 | assumption) ?_
        exact ⟨by first | rfl | assumption, cW_0⟩)
  · first
    | contradiction
    | ( skip
        refine z_if_ne (tgt := 16) d_Tf_recite_5 (by decide) (fun h => absurd h (by decide)) (fun _ => ?_)
        refine z_aload_0 d_Tf_recite_8 ?_
        refine z_iload_2 d_Tf_recite_9 ?_
        refine z_Vi1 d_Tf_recite_10 k_Tf_234 (by first | assumption | exact zS0_at (by assumption) (by omega) | exact zS0_at rfl (by omega)) (t_Tf_noPerson Z N) ⟨Nat.le_of_ble_eq_true rfl, Nat.le_of_ble_eq_true rfl, Nat.le_of_ble_eq_true rfl, Nat.le_of_ble_eq_true rfl⟩ (Nat.le_of_ble_eq_true rfl) ?_
        intro r w hq
        rcases hq with ⟨⟨hz10, rfl⟩ | ⟨hz10, rfl⟩, rfl⟩
        · first
          | contradiction
          | ( skip
              refine z_if_eq (tgt := 22) d_Tf_recite_13 (by decide) (fun h => absurd h (by decide)) (fun _ => ?_)
              refine z_aload_0 d_Tf_recite_16 ?_
              refine z_iconst (a := nI 2) d_Tf_recite_17 (by decide) ?_
              refine z_Vi1 d_Tf_recite_18 k_Tf_119 (by first | assumption | exact zS0_at (by assumption) (by omega) | exact zS0_at rfl (by omega)) (t_Tf_refuse (by assumption)) ⟨Nat.le_of_ble_eq_true rfl, Nat.le_of_ble_eq_true rfl, Nat.le_of_ble_eq_true rfl, Nat.le_of_ble_eq_true rfl⟩ (Nat.le_of_ble_eq_true rfl) ?_
              intro r w hq
              obtain ⟨rfl, rfl⟩ := hq
              refine z_retz d_Tf_recite_21 (by first | exact zb0 | exact zb1 | assumption) ?_
              exact ⟨by first | rfl | assumption, cW_0⟩)
        · first
          | contradiction
          | ( skip
              refine z_if_eq (tgt := 22) d_Tf_recite_13 (by decide) (fun _ => ?_) (fun h => absurd h (by decide))
              refine z_aload_0 d_Tf_recite_22 ?_
              refine z_getR d_Tf_recite_23 f_Tf_60 (by first | assumption | exact zS0_at (by assumption) (by omega) | exact zS0_at rfl (by omega)) (by first | assumption | exact zS0_at (by assumption) (by omega) | exact zS0_at rfl (by omega)) ?_
              refine z_getIv d_Tf_recite_26 f_Tf_217 (by first | assumption | exact zS0_at (by assumption) (by omega) | exact zS0_at rfl (by omega)) (by first | assumption | ((try simp (disch := omega) only [zu_same, zu_ne, zcp_ne, zfl_ne]); first | assumption | rfl)) ?_
              refine z_iload_1 d_Tf_recite_29 ?_
              refine z_ishr d_Tf_recite_30 ?_
              refine z_iconst (a := nI 1) d_Tf_recite_31 (by decide) ?_
              refine z_iand d_Tf_recite_32 ?_
              refine z_if_eq (tgt := 40) d_Tf_recite_33 (by decide) (fun h33 => ?_) (fun h33 => ?_)
              · first
                | (simp (disch := omega) only [← nI_0, nI_leI, nI_ltI, nI_eq, not_true_eq_false, not_false_eq_true] at h33; done)
                | (simp (disch := omega) only [← nI_0, nI_leI, nI_ltI, nI_eq, not_true_eq_false, not_false_eq_true] at h33; omega)
                | contradiction
                | exact absurd h33 (Int32.not_lt.mpr (by assumption))
                | exact absurd h33 (Int32.not_le.mpr (by assumption))
                | exact absurd h33 (by decide)
                | exact absurd (by decide) h33
                | ( try simp (disch := omega) only [← nI_0, nI_leI, nI_ltI, nI_eq, not_true_eq_false, not_false_eq_true] at h33
                    (try have h33b := zbit_n0.mp h33); (try have h33b := zbit_p0.mp h33)
                    refine z_iconst (a := nI 0) d_Tf_recite_40 (by decide) ?_
                    first | refine z_istore_3 d_Tf_recite_41 rfl ?_ | (refine z_forget_2 ?_; refine z_istore_3 d_Tf_recite_41 rfl ?_)
                    refine z_iload_3 d_Tf_recite_42 ?_
                    refine z_if_ne (tgt := 79) d_Tf_recite_43 (by decide) (fun h43 => ?_) (fun h43 => ?_)
                    · first
                      | (simp (disch := omega) only [← nI_0, nI_leI, nI_ltI, nI_eq, not_true_eq_false, not_false_eq_true] at h43; done)
                      | (simp (disch := omega) only [← nI_0, nI_leI, nI_ltI, nI_eq, not_true_eq_false, not_false_eq_true] at h43; omega)
                      | contradiction
                      | exact absurd h43 (Int32.not_lt.mpr (by assumption))
                      | exact absurd h43 (Int32.not_le.mpr (by assumption))
                      | exact absurd h43 (by decide)
                      | exact absurd (by decide) h43
                      | ( try simp (disch := omega) only [← nI_0, nI_leI, nI_ltI, nI_eq, not_true_eq_false, not_false_eq_true] at h43
                          (try have h43b := zbit_n0.mp h43); (try have h43b := zbit_p0.mp h43)
                          refine z_aload_0 d_Tf_recite_79 ?_
                          refine z_bipush (a := nI 9) d_Tf_recite_80 (by decide) ?_
                          refine z_Vi1 d_Tf_recite_82 k_Tf_119 (by first | assumption | exact zS0_at (by assumption) (by omega) | exact zS0_at rfl (by omega)) (t_Tf_refuse (by assumption)) ⟨Nat.le_of_ble_eq_true rfl, Nat.le_of_ble_eq_true rfl, Nat.le_of_ble_eq_true rfl, Nat.le_of_ble_eq_true rfl⟩ (Nat.le_of_ble_eq_true rfl) ?_
                          intro r w hq
                          obtain ⟨rfl, rfl⟩ := hq
                          refine z_retz d_Tf_recite_85 (by first | exact zb0 | exact zb1 | assumption) ?_
                          exact ⟨by first | rfl | assumption, cW_0⟩)
                    · first
                      | (simp (disch := omega) only [← nI_0, nI_leI, nI_ltI, nI_eq, not_true_eq_false, not_false_eq_true] at h43; done)
                      | (simp (disch := omega) only [← nI_0, nI_leI, nI_ltI, nI_eq, not_true_eq_false, not_false_eq_true] at h43; omega)
                      | contradiction
                      | exact absurd h43 (Int32.not_lt.mpr (by assumption))
                      | exact absurd h43 (Int32.not_le.mpr (by assumption))
                      | exact absurd h43 (by decide)
                      | exact absurd (by decide) h43
                      | ( try simp (disch := omega) only [← nI_0, nI_leI, nI_ltI, nI_eq, not_true_eq_false, not_false_eq_true] at h43
                          (try have h43b := zbit_n0.mp h43); (try have h43b := zbit_p0.mp h43)
                          refine z_aload_0 d_Tf_recite_46 ?_
                          refine z_getR d_Tf_recite_47 f_Tf_60 (by first | assumption | exact zS0_at (by assumption) (by omega) | exact zS0_at rfl (by omega)) (by first | assumption | exact zS0_at (by assumption) (by omega) | exact zS0_at rfl (by omega)) ?_
                          refine z_iload_2 d_Tf_recite_50 ?_
                          refine z_aload_0 d_Tf_recite_51 ?_
                          refine z_getR d_Tf_recite_52 f_Tf_60 (by first | assumption | exact zS0_at (by assumption) (by omega) | exact zS0_at rfl (by omega)) (by first | assumption | exact zS0_at (by assumption) (by omega) | exact zS0_at rfl (by omega)) ?_
                          refine z_getR d_Tf_recite_55 f_Tf_252 (by first | assumption | exact zS0_at (by assumption) (by omega) | exact zS0_at rfl (by omega)) (by first | assumption | exact zS0_at (by assumption) (by omega) | exact zS0_at rfl (by omega)) ?_
                          refine z_iload_1 d_Tf_recite_58 ?_
                          first | refine z_ialdNv d_Tf_recite_59 (by first | assumption | exact zS0_at (by assumption) (by omega) | exact zS0_at rfl (by omega)) (by omega) (by first | decide | omega) (by first | assumption | ((try simp (disch := omega) only [zu_same, zu_ne, zcp_ne, zfl_ne]); first | assumption | rfl)) ?_ | refine z_iald d_Tf_recite_59 (by first | assumption | exact zS0_at (by assumption) (by omega) | exact zS0_at rfl (by omega)) (by first | assumption | exact zS0_at (by assumption) (by omega) | exact zS0_at rfl (by omega)) ?_
                          refine z_Vi2 d_Tf_recite_60 k_Tf_285 (by first | assumption | exact zS0_at (by assumption) (by omega) | exact zS0_at rfl (by omega)) (t_Fen_isTrue (by assumption) (by omega)) ⟨Nat.le_of_ble_eq_true rfl, Nat.le_of_ble_eq_true rfl, Nat.le_of_ble_eq_true rfl, Nat.le_of_ble_eq_true rfl⟩ (Nat.le_of_ble_eq_true rfl) ?_
                          intro r w hq
                          rcases hq with ⟨⟨hz60, rfl⟩ | ⟨hz60, rfl⟩, rfl⟩
                          · first
                            | contradiction
                            | ( skip
                                refine z_if_eq (tgt := 79) d_Tf_recite_63 (by decide) (fun h => absurd h (by decide)) (fun _ => ?_)
                                refine z_aload_0 d_Tf_recite_66 ?_
                                refine z_getR d_Tf_recite_67 f_Tf_60 (by first | assumption | exact zS0_at (by assumption) (by omega) | exact zS0_at rfl (by omega)) (by first | assumption | exact zS0_at (by assumption) (by omega) | exact zS0_at rfl (by omega)) ?_
                                refine z_getR d_Tf_recite_70 f_Tf_258 (by first | assumption | exact zS0_at (by assumption) (by omega) | exact zS0_at rfl (by omega)) (by first | assumption | exact zS0_at (by assumption) (by omega) | exact zS0_at rfl (by omega)) ?_
                                refine z_iload_1 d_Tf_recite_73 ?_
                                first | refine z_ialdNv d_Tf_recite_74 (by first | assumption | exact zS0_at (by assumption) (by omega) | exact zS0_at rfl (by omega)) (by omega) (by first | decide | omega) (by first | assumption | ((try simp (disch := omega) only [zu_same, zu_ne, zcp_ne, zfl_ne]); first | assumption | rfl)) ?_ | refine z_iald d_Tf_recite_74 (by first | assumption | exact zS0_at (by assumption) (by omega) | exact zS0_at rfl (by omega)) (by first | assumption | exact zS0_at (by assumption) (by omega) | exact zS0_at rfl (by omega)) ?_
                                refine z_iload_2 d_Tf_recite_75 ?_
                                refine z_icmp_ne (tgt := 86) d_Tf_recite_76 (by decide) (fun h76 => ?_) (fun h76 => ?_)
                                · first
                                  | (simp (disch := omega) only [← nI_0, nI_leI, nI_ltI, nI_eq, not_true_eq_false, not_false_eq_true] at h76; done)
                                  | (simp (disch := omega) only [← nI_0, nI_leI, nI_ltI, nI_eq, not_true_eq_false, not_false_eq_true] at h76; omega)
                                  | contradiction
                                  | exact absurd h76 (Int32.not_lt.mpr (by assumption))
                                  | exact absurd h76 (Int32.not_le.mpr (by assumption))
                                  | exact absurd h76 (by decide)
                                  | exact absurd (by decide) h76
                                  | ( try simp (disch := omega) only [← nI_0, nI_leI, nI_ltI, nI_eq, not_true_eq_false, not_false_eq_true] at h76
                                      (try have h76b := zbit_n0.mp h76); (try have h76b := zbit_p0.mp h76)
                                      refine z_aload_0 d_Tf_recite_86 ?_
                                      refine z_getR d_Tf_recite_87 f_Tf_60 (by first | assumption | exact zS0_at (by assumption) (by omega) | exact zS0_at rfl (by omega)) (by first | assumption | exact zS0_at (by assumption) (by omega) | exact zS0_at rfl (by omega)) ?_
                                      refine z_iload_1 d_Tf_recite_90 ?_
                                      refine z_iload_2 d_Tf_recite_91 ?_
                                      refine z_Vv2 d_Tf_recite_92 k_Tf_288 (by first | assumption | exact zS0_at (by assumption) (by omega) | exact zS0_at rfl (by omega)) (t_Fen_putOn (by assumption) (by omega)) ⟨Nat.le_of_ble_eq_true rfl, Nat.le_of_ble_eq_true rfl, Nat.le_of_ble_eq_true rfl, Nat.le_of_ble_eq_true rfl⟩ (Nat.le_of_ble_eq_true rfl) ?_
                                      intro w hq
                                      obtain rfl := hq
                                      refine z_aload_0 d_Tf_recite_95 ?_
                                      refine z_Vi0 d_Tf_recite_96 k_Tf_126 (by first | assumption | exact zS0_at (by assumption) (by omega) | exact zS0_at rfl (by omega)) (t_Tf_agree (by assumption)) ⟨Nat.le_of_ble_eq_true rfl, Nat.le_of_ble_eq_true rfl, Nat.le_of_ble_eq_true rfl, Nat.le_of_ble_eq_true rfl⟩ (Nat.le_of_ble_eq_true rfl) ?_
                                      intro r w hq
                                      obtain ⟨rfl, rfl⟩ := hq
                                      refine z_retz d_Tf_recite_99 (by first | exact zb0 | exact zb1 | assumption) ?_
                                      exact ⟨by first | rfl | assumption, cW_0⟩)
                                · first
                                  | (simp (disch := omega) only [← nI_0, nI_leI, nI_ltI, nI_eq, not_true_eq_false, not_false_eq_true] at h76; done)
                                  | (simp (disch := omega) only [← nI_0, nI_leI, nI_ltI, nI_eq, not_true_eq_false, not_false_eq_true] at h76; omega)
                                  | contradiction
                                  | exact absurd h76 (Int32.not_lt.mpr (by assumption))
                                  | exact absurd h76 (Int32.not_le.mpr (by assumption))
                                  | exact absurd h76 (by decide)
                                  | exact absurd (by decide) h76
                                  | ( try simp (disch := omega) only [← nI_0, nI_leI, nI_ltI, nI_eq, not_true_eq_false, not_false_eq_true] at h76
                                      (try have h76b := zbit_n0.mp h76); (try have h76b := zbit_p0.mp h76)
                                      refine z_aload_0 d_Tf_recite_79 ?_
                                      refine z_bipush (a := nI 9) d_Tf_recite_80 (by decide) ?_
                                      refine z_Vi1 d_Tf_recite_82 k_Tf_119 (by first | assumption | exact zS0_at (by assumption) (by omega) | exact zS0_at rfl (by omega)) (t_Tf_refuse (by assumption)) ⟨Nat.le_of_ble_eq_true rfl, Nat.le_of_ble_eq_true rfl, Nat.le_of_ble_eq_true rfl, Nat.le_of_ble_eq_true rfl⟩ (Nat.le_of_ble_eq_true rfl) ?_
                                      intro r w hq
                                      obtain ⟨rfl, rfl⟩ := hq
                                      refine z_retz d_Tf_recite_85 (by first | exact zb0 | exact zb1 | assumption) ?_
                                      exact ⟨by first | rfl | assumption, cW_0⟩))
                          · first
                            | contradiction
                            | ( skip
                                refine z_if_eq (tgt := 79) d_Tf_recite_63 (by decide) (fun _ => ?_) (fun h => absurd h (by decide))
                                refine z_aload_0 d_Tf_recite_79 ?_
                                refine z_bipush (a := nI 9) d_Tf_recite_80 (by decide) ?_
                                refine z_Vi1 d_Tf_recite_82 k_Tf_119 (by first | assumption | exact zS0_at (by assumption) (by omega) | exact zS0_at rfl (by omega)) (t_Tf_refuse (by assumption)) ⟨Nat.le_of_ble_eq_true rfl, Nat.le_of_ble_eq_true rfl, Nat.le_of_ble_eq_true rfl, Nat.le_of_ble_eq_true rfl⟩ (Nat.le_of_ble_eq_true rfl) ?_
                                intro r w hq
                                obtain ⟨rfl, rfl⟩ := hq
                                refine z_retz d_Tf_recite_85 (by first | exact zb0 | exact zb1 | assumption) ?_
                                exact ⟨by first | rfl | assumption, cW_0⟩)))
              · first
                | (simp (disch := omega) only [← nI_0, nI_leI, nI_ltI, nI_eq, not_true_eq_false, not_false_eq_true] at h33; done)
                | (simp (disch := omega) only [← nI_0, nI_leI, nI_ltI, nI_eq, not_true_eq_false, not_false_eq_true] at h33; omega)
                | contradiction
                | exact absurd h33 (Int32.not_lt.mpr (by assumption))
                | exact absurd h33 (Int32.not_le.mpr (by assumption))
                | exact absurd h33 (by decide)
                | exact absurd (by decide) h33
                | ( try simp (disch := omega) only [← nI_0, nI_leI, nI_ltI, nI_eq, not_true_eq_false, not_false_eq_true] at h33
                    (try have h33b := zbit_n0.mp h33); (try have h33b := zbit_p0.mp h33)
                    refine z_iconst (a := nI 1) d_Tf_recite_36 (by decide) ?_
                    refine z_goto (tgt := 41) d_Tf_recite_37 (by decide) ?_
                    first | refine z_istore_3 d_Tf_recite_41 rfl ?_ | (refine z_forget_2 ?_; refine z_istore_3 d_Tf_recite_41 rfl ?_)
                    refine z_iload_3 d_Tf_recite_42 ?_
                    refine z_if_ne (tgt := 79) d_Tf_recite_43 (by decide) (fun h43 => ?_) (fun h43 => ?_)
                    · first
                      | (simp (disch := omega) only [← nI_0, nI_leI, nI_ltI, nI_eq, not_true_eq_false, not_false_eq_true] at h43; done)
                      | (simp (disch := omega) only [← nI_0, nI_leI, nI_ltI, nI_eq, not_true_eq_false, not_false_eq_true] at h43; omega)
                      | contradiction
                      | exact absurd h43 (Int32.not_lt.mpr (by assumption))
                      | exact absurd h43 (Int32.not_le.mpr (by assumption))
                      | exact absurd h43 (by decide)
                      | exact absurd (by decide) h43
                      | ( try simp (disch := omega) only [← nI_0, nI_leI, nI_ltI, nI_eq, not_true_eq_false, not_false_eq_true] at h43
                          (try have h43b := zbit_n0.mp h43); (try have h43b := zbit_p0.mp h43)
                          refine z_aload_0 d_Tf_recite_79 ?_
                          refine z_bipush (a := nI 9) d_Tf_recite_80 (by decide) ?_
                          refine z_Vi1 d_Tf_recite_82 k_Tf_119 (by first | assumption | exact zS0_at (by assumption) (by omega) | exact zS0_at rfl (by omega)) (t_Tf_refuse (by assumption)) ⟨Nat.le_of_ble_eq_true rfl, Nat.le_of_ble_eq_true rfl, Nat.le_of_ble_eq_true rfl, Nat.le_of_ble_eq_true rfl⟩ (Nat.le_of_ble_eq_true rfl) ?_
                          intro r w hq
                          obtain ⟨rfl, rfl⟩ := hq
                          refine z_retz d_Tf_recite_85 (by first | exact zb0 | exact zb1 | assumption) ?_
                          exact ⟨by first | rfl | assumption, cW_0⟩)
                    · first
                      | (simp (disch := omega) only [← nI_0, nI_leI, nI_ltI, nI_eq, not_true_eq_false, not_false_eq_true] at h43; done)
                      | (simp (disch := omega) only [← nI_0, nI_leI, nI_ltI, nI_eq, not_true_eq_false, not_false_eq_true] at h43; omega)
                      | contradiction
                      | exact absurd h43 (Int32.not_lt.mpr (by assumption))
                      | exact absurd h43 (Int32.not_le.mpr (by assumption))
                      | exact absurd h43 (by decide)
                      | exact absurd (by decide) h43
                      | ( try simp (disch := omega) only [← nI_0, nI_leI, nI_ltI, nI_eq, not_true_eq_false, not_false_eq_true] at h43
                          (try have h43b := zbit_n0.mp h43); (try have h43b := zbit_p0.mp h43)
                          refine z_aload_0 d_Tf_recite_46 ?_
                          refine z_getR d_Tf_recite_47 f_Tf_60 (by first | assumption | exact zS0_at (by assumption) (by omega) | exact zS0_at rfl (by omega)) (by first | assumption | exact zS0_at (by assumption) (by omega) | exact zS0_at rfl (by omega)) ?_
                          refine z_iload_2 d_Tf_recite_50 ?_
                          refine z_aload_0 d_Tf_recite_51 ?_
                          refine z_getR d_Tf_recite_52 f_Tf_60 (by first | assumption | exact zS0_at (by assumption) (by omega) | exact zS0_at rfl (by omega)) (by first | assumption | exact zS0_at (by assumption) (by omega) | exact zS0_at rfl (by omega)) ?_
                          refine z_getR d_Tf_recite_55 f_Tf_252 (by first | assumption | exact zS0_at (by assumption) (by omega) | exact zS0_at rfl (by omega)) (by first | assumption | exact zS0_at (by assumption) (by omega) | exact zS0_at rfl (by omega)) ?_
                          refine z_iload_1 d_Tf_recite_58 ?_
                          first | refine z_ialdNv d_Tf_recite_59 (by first | assumption | exact zS0_at (by assumption) (by omega) | exact zS0_at rfl (by omega)) (by omega) (by first | decide | omega) (by first | assumption | ((try simp (disch := omega) only [zu_same, zu_ne, zcp_ne, zfl_ne]); first | assumption | rfl)) ?_ | refine z_iald d_Tf_recite_59 (by first | assumption | exact zS0_at (by assumption) (by omega) | exact zS0_at rfl (by omega)) (by first | assumption | exact zS0_at (by assumption) (by omega) | exact zS0_at rfl (by omega)) ?_
                          refine z_Vi2 d_Tf_recite_60 k_Tf_285 (by first | assumption | exact zS0_at (by assumption) (by omega) | exact zS0_at rfl (by omega)) (t_Fen_isTrue (by assumption) (by omega)) ⟨Nat.le_of_ble_eq_true rfl, Nat.le_of_ble_eq_true rfl, Nat.le_of_ble_eq_true rfl, Nat.le_of_ble_eq_true rfl⟩ (Nat.le_of_ble_eq_true rfl) ?_
                          intro r w hq
                          rcases hq with ⟨⟨hz60, rfl⟩ | ⟨hz60, rfl⟩, rfl⟩
                          · first
                            | contradiction
                            | ( skip
                                refine z_if_eq (tgt := 79) d_Tf_recite_63 (by decide) (fun h => absurd h (by decide)) (fun _ => ?_)
                                refine z_aload_0 d_Tf_recite_66 ?_
                                refine z_getR d_Tf_recite_67 f_Tf_60 (by first | assumption | exact zS0_at (by assumption) (by omega) | exact zS0_at rfl (by omega)) (by first | assumption | exact zS0_at (by assumption) (by omega) | exact zS0_at rfl (by omega)) ?_
                                refine z_getR d_Tf_recite_70 f_Tf_258 (by first | assumption | exact zS0_at (by assumption) (by omega) | exact zS0_at rfl (by omega)) (by first | assumption | exact zS0_at (by assumption) (by omega) | exact zS0_at rfl (by omega)) ?_
                                refine z_iload_1 d_Tf_recite_73 ?_
                                first | refine z_ialdNv d_Tf_recite_74 (by first | assumption | exact zS0_at (by assumption) (by omega) | exact zS0_at rfl (by omega)) (by omega) (by first | decide | omega) (by first | assumption | ((try simp (disch := omega) only [zu_same, zu_ne, zcp_ne, zfl_ne]); first | assumption | rfl)) ?_ | refine z_iald d_Tf_recite_74 (by first | assumption | exact zS0_at (by assumption) (by omega) | exact zS0_at rfl (by omega)) (by first | assumption | exact zS0_at (by assumption) (by omega) | exact zS0_at rfl (by omega)) ?_
                                refine z_iload_2 d_Tf_recite_75 ?_
                                refine z_icmp_ne (tgt := 86) d_Tf_recite_76 (by decide) (fun h76 => ?_) (fun h76 => ?_)
                                · first
                                  | (simp (disch := omega) only [← nI_0, nI_leI, nI_ltI, nI_eq, not_true_eq_false, not_false_eq_true] at h76; done)
                                  | (simp (disch := omega) only [← nI_0, nI_leI, nI_ltI, nI_eq, not_true_eq_false, not_false_eq_true] at h76; omega)
                                  | contradiction
                                  | exact absurd h76 (Int32.not_lt.mpr (by assumption))
                                  | exact absurd h76 (Int32.not_le.mpr (by assumption))
                                  | exact absurd h76 (by decide)
                                  | exact absurd (by decide) h76
                                  | ( try simp (disch := omega) only [← nI_0, nI_leI, nI_ltI, nI_eq, not_true_eq_false, not_false_eq_true] at h76
                                      (try have h76b := zbit_n0.mp h76); (try have h76b := zbit_p0.mp h76)
                                      refine z_aload_0 d_Tf_recite_86 ?_
                                      refine z_getR d_Tf_recite_87 f_Tf_60 (by first | assumption | exact zS0_at (by assumption) (by omega) | exact zS0_at rfl (by omega)) (by first | assumption | exact zS0_at (by assumption) (by omega) | exact zS0_at rfl (by omega)) ?_
                                      refine z_iload_1 d_Tf_recite_90 ?_
                                      refine z_iload_2 d_Tf_recite_91 ?_
                                      refine z_Vv2 d_Tf_recite_92 k_Tf_288 (by first | assumption | exact zS0_at (by assumption) (by omega) | exact zS0_at rfl (by omega)) (t_Fen_putOn (by assumption) (by omega)) ⟨Nat.le_of_ble_eq_true rfl, Nat.le_of_ble_eq_true rfl, Nat.le_of_ble_eq_true rfl, Nat.le_of_ble_eq_true rfl⟩ (Nat.le_of_ble_eq_true rfl) ?_
                                      intro w hq
                                      obtain rfl := hq
                                      refine z_aload_0 d_Tf_recite_95 ?_
                                      refine z_Vi0 d_Tf_recite_96 k_Tf_126 (by first | assumption | exact zS0_at (by assumption) (by omega) | exact zS0_at rfl (by omega)) (t_Tf_agree (by assumption)) ⟨Nat.le_of_ble_eq_true rfl, Nat.le_of_ble_eq_true rfl, Nat.le_of_ble_eq_true rfl, Nat.le_of_ble_eq_true rfl⟩ (Nat.le_of_ble_eq_true rfl) ?_
                                      intro r w hq
                                      obtain ⟨rfl, rfl⟩ := hq
                                      refine z_retz d_Tf_recite_99 (by first | exact zb0 | exact zb1 | assumption) ?_
                                      exact ⟨by first | rfl | assumption, cW_0⟩)
                                · first
                                  | (simp (disch := omega) only [← nI_0, nI_leI, nI_ltI, nI_eq, not_true_eq_false, not_false_eq_true] at h76; done)
                                  | (simp (disch := omega) only [← nI_0, nI_leI, nI_ltI, nI_eq, not_true_eq_false, not_false_eq_true] at h76; omega)
                                  | contradiction
                                  | exact absurd h76 (Int32.not_lt.mpr (by assumption))
                                  | exact absurd h76 (Int32.not_le.mpr (by assumption))
                                  | exact absurd h76 (by decide)
                                  | exact absurd (by decide) h76
                                  | ( try simp (disch := omega) only [← nI_0, nI_leI, nI_ltI, nI_eq, not_true_eq_false, not_false_eq_true] at h76
                                      (try have h76b := zbit_n0.mp h76); (try have h76b := zbit_p0.mp h76)
                                      refine z_aload_0 d_Tf_recite_79 ?_
                                      refine z_bipush (a := nI 9) d_Tf_recite_80 (by decide) ?_
                                      refine z_Vi1 d_Tf_recite_82 k_Tf_119 (by first | assumption | exact zS0_at (by assumption) (by omega) | exact zS0_at rfl (by omega)) (t_Tf_refuse (by assumption)) ⟨Nat.le_of_ble_eq_true rfl, Nat.le_of_ble_eq_true rfl, Nat.le_of_ble_eq_true rfl, Nat.le_of_ble_eq_true rfl⟩ (Nat.le_of_ble_eq_true rfl) ?_
                                      intro r w hq
                                      obtain ⟨rfl, rfl⟩ := hq
                                      refine z_retz d_Tf_recite_85 (by first | exact zb0 | exact zb1 | assumption) ?_
                                      exact ⟨by first | rfl | assumption, cW_0⟩))
                          · first
                            | contradiction
                            | ( skip
                                refine z_if_eq (tgt := 79) d_Tf_recite_63 (by decide) (fun _ => ?_) (fun h => absurd h (by decide))
                                refine z_aload_0 d_Tf_recite_79 ?_
                                refine z_bipush (a := nI 9) d_Tf_recite_80 (by decide) ?_
                                refine z_Vi1 d_Tf_recite_82 k_Tf_119 (by first | assumption | exact zS0_at (by assumption) (by omega) | exact zS0_at rfl (by omega)) (t_Tf_refuse (by assumption)) ⟨Nat.le_of_ble_eq_true rfl, Nat.le_of_ble_eq_true rfl, Nat.le_of_ble_eq_true rfl, Nat.le_of_ble_eq_true rfl⟩ (Nat.le_of_ble_eq_true rfl) ?_
                                intro r w hq
                                obtain ⟨rfl, rfl⟩ := hq
                                refine z_retz d_Tf_recite_85 (by first | exact zb0 | exact zb1 | assumption) ?_
                                exact ⟨by first | rfl | assumption, cW_0⟩)))))
theorem t_Tf_recite_i {t q k : Nat} (Z : clOk f d P S) (N : fenIn I f nt np nl nn) (ht : t < nn) (hq : q < np) (hk : I (f + 5) t = nI k) (hk2 : k < nt) (hf : ¬ zbit (I f 7) t) (hn : zbit (I (f + 2) q) k) (hi : I (f + 6) t = nI q) : zEi G y_Tf_recite prog_1_method_20_code 4 (some .boolean) 3 [.ref 0, .int (nI t), .int (nI q)] (I, J, P, S) (fun r w => r = nI 0 ∧ cW I J P S 9 w) := by
  obtain ⟨⟨c0, c3, c1s⟩, ⟨c5, c2s, ctr⟩, ⟨c6, c11s, c11, c13s⟩, ⟨c7, c15s, c15⟩, ⟨c8, c16s, c16a, c16b, c17s⟩, ⟨c9, c10, cfd, F, Fd⟩, ⟨c11b, Ft⟩, ⟨c12, c69s, cmk⟩, ⟨c14, c121s, c121, c122s⟩, ⟨c15b, c123s, c123, c124s⟩, ⟨c16, c125s, c125, c126s⟩, ⟨c17, c127s, c127, c128s, ctb⟩, ⟨c18, c139s, c139, c140s⟩, ⟨c19, c141s, ⟨c141a, c142s⟩, ⟨c141b, c143s⟩, ⟨c141c, c144s⟩⟩, M⟩ := id Z
  obtain ⟨F0, ⟨F8, F8s⟩, ⟨F9, F9s⟩, ⟨F10, F10s⟩, ⟨F11, F11s⟩, ⟨F12, F12s⟩, ⟨F13, F13s⟩, ⟨F14, F14s⟩, ⟨F15, F15s⟩, ⟨F16, F16s⟩, ⟨F17, F17s⟩, ⟨F18, F18s⟩, ⟨F19, F19s⟩, ⟨Y3, Y3s⟩, ⟨Y4, Y4s⟩, ⟨Y5, Y5s⟩, ⟨Y6, Y6s⟩⟩ := id F
  obtain ⟨⟨n1, n1b⟩, ⟨n2, n2b⟩, ⟨n3, n3b⟩, ⟨n4, n4b⟩, nof, non⟩ := id N
  have hz : zin (nI t) nn := ⟨t, by omega, rfl⟩
  have hzq : zin (nI q) np := ⟨q, by omega, rfl⟩
  refine zEi_of (lv := [some (.ref 0), some (.int (nI t)), some (.int (nI q)), none]) (by decide) rfl (Nat.le_of_ble_eq_true rfl) ?_
  refine z_aload_0 d_Tf_recite_0 ?_
  refine z_iload_1 d_Tf_recite_1 ?_
  refine z_Vi1 d_Tf_recite_2 k_Tf_249 (by first | assumption | exact zS0_at (by assumption) (by omega) | exact zS0_at rfl (by omega)) (t_Tf_noTin Z N) ⟨Nat.le_of_ble_eq_true rfl, Nat.le_of_ble_eq_true rfl, Nat.le_of_ble_eq_true rfl, Nat.le_of_ble_eq_true rfl⟩ (Nat.le_of_ble_eq_true rfl) ?_
  intro r w hq
  rcases hq with ⟨⟨hz2, rfl⟩ | ⟨hz2, rfl⟩, rfl⟩
  · first
    | contradiction
    | ( skip
        refine z_if_ne (tgt := 16) d_Tf_recite_5 (by decide) (fun _ => ?_) (fun h => absurd h (by decide))
        refine z_aload_0 d_Tf_recite_16 ?_
        refine z_iconst (a := nI 2) d_Tf_recite_17 (by decide) ?_
        refine z_Vi1 d_Tf_recite_18 k_Tf_119 (by first | assumption | exact zS0_at (by assumption) (by omega) | exact zS0_at rfl (by omega)) (t_Tf_refuse (by assumption)) ⟨Nat.le_of_ble_eq_true rfl, Nat.le_of_ble_eq_true rfl, Nat.le_of_ble_eq_true rfl, Nat.le_of_ble_eq_true rfl⟩ (Nat.le_of_ble_eq_true rfl) ?_
        intro r w hq
        obtain ⟨rfl, rfl⟩ := hq
        refine z_retz d_Tf_recite_21 (by first | exact zb0 | exact zb1 | assumption) ?_
        exact ⟨by first | rfl | assumption, cW_0⟩)
  · first
    | contradiction
    | ( skip
        refine z_if_ne (tgt := 16) d_Tf_recite_5 (by decide) (fun h => absurd h (by decide)) (fun _ => ?_)
        refine z_aload_0 d_Tf_recite_8 ?_
        refine z_iload_2 d_Tf_recite_9 ?_
        refine z_Vi1 d_Tf_recite_10 k_Tf_234 (by first | assumption | exact zS0_at (by assumption) (by omega) | exact zS0_at rfl (by omega)) (t_Tf_noPerson Z N) ⟨Nat.le_of_ble_eq_true rfl, Nat.le_of_ble_eq_true rfl, Nat.le_of_ble_eq_true rfl, Nat.le_of_ble_eq_true rfl⟩ (Nat.le_of_ble_eq_true rfl) ?_
        intro r w hq
        rcases hq with ⟨⟨hz10, rfl⟩ | ⟨hz10, rfl⟩, rfl⟩
        · first
          | contradiction
          | ( skip
              refine z_if_eq (tgt := 22) d_Tf_recite_13 (by decide) (fun h => absurd h (by decide)) (fun _ => ?_)
              refine z_aload_0 d_Tf_recite_16 ?_
              refine z_iconst (a := nI 2) d_Tf_recite_17 (by decide) ?_
              refine z_Vi1 d_Tf_recite_18 k_Tf_119 (by first | assumption | exact zS0_at (by assumption) (by omega) | exact zS0_at rfl (by omega)) (t_Tf_refuse (by assumption)) ⟨Nat.le_of_ble_eq_true rfl, Nat.le_of_ble_eq_true rfl, Nat.le_of_ble_eq_true rfl, Nat.le_of_ble_eq_true rfl⟩ (Nat.le_of_ble_eq_true rfl) ?_
              intro r w hq
              obtain ⟨rfl, rfl⟩ := hq
              refine z_retz d_Tf_recite_21 (by first | exact zb0 | exact zb1 | assumption) ?_
              exact ⟨by first | rfl | assumption, cW_0⟩)
        · first
          | contradiction
          | ( skip
              refine z_if_eq (tgt := 22) d_Tf_recite_13 (by decide) (fun _ => ?_) (fun h => absurd h (by decide))
              refine z_aload_0 d_Tf_recite_22 ?_
              refine z_getR d_Tf_recite_23 f_Tf_60 (by first | assumption | exact zS0_at (by assumption) (by omega) | exact zS0_at rfl (by omega)) (by first | assumption | exact zS0_at (by assumption) (by omega) | exact zS0_at rfl (by omega)) ?_
              refine z_getIv d_Tf_recite_26 f_Tf_217 (by first | assumption | exact zS0_at (by assumption) (by omega) | exact zS0_at rfl (by omega)) (by first | assumption | ((try simp (disch := omega) only [zu_same, zu_ne, zcp_ne, zfl_ne]); first | assumption | rfl)) ?_
              refine z_iload_1 d_Tf_recite_29 ?_
              refine z_ishr d_Tf_recite_30 ?_
              refine z_iconst (a := nI 1) d_Tf_recite_31 (by decide) ?_
              refine z_iand d_Tf_recite_32 ?_
              refine z_if_eq (tgt := 40) d_Tf_recite_33 (by decide) (fun h33 => ?_) (fun h33 => ?_)
              · first
                | (simp (disch := omega) only [← nI_0, nI_leI, nI_ltI, nI_eq, not_true_eq_false, not_false_eq_true] at h33; done)
                | (simp (disch := omega) only [← nI_0, nI_leI, nI_ltI, nI_eq, not_true_eq_false, not_false_eq_true] at h33; omega)
                | contradiction
                | exact absurd h33 (Int32.not_lt.mpr (by assumption))
                | exact absurd h33 (Int32.not_le.mpr (by assumption))
                | exact absurd h33 (by decide)
                | exact absurd (by decide) h33
                | ( try simp (disch := omega) only [← nI_0, nI_leI, nI_ltI, nI_eq, not_true_eq_false, not_false_eq_true] at h33
                    (try have h33b := zbit_n0.mp h33); (try have h33b := zbit_p0.mp h33)
                    refine z_iconst (a := nI 0) d_Tf_recite_40 (by decide) ?_
                    first | refine z_istore_3 d_Tf_recite_41 rfl ?_ | (refine z_forget_2 ?_; refine z_istore_3 d_Tf_recite_41 rfl ?_)
                    refine z_iload_3 d_Tf_recite_42 ?_
                    refine z_if_ne (tgt := 79) d_Tf_recite_43 (by decide) (fun h43 => ?_) (fun h43 => ?_)
                    · first
                      | (simp (disch := omega) only [← nI_0, nI_leI, nI_ltI, nI_eq, not_true_eq_false, not_false_eq_true] at h43; done)
                      | (simp (disch := omega) only [← nI_0, nI_leI, nI_ltI, nI_eq, not_true_eq_false, not_false_eq_true] at h43; omega)
                      | contradiction
                      | exact absurd h43 (Int32.not_lt.mpr (by assumption))
                      | exact absurd h43 (Int32.not_le.mpr (by assumption))
                      | exact absurd h43 (by decide)
                      | exact absurd (by decide) h43
                      | ( try simp (disch := omega) only [← nI_0, nI_leI, nI_ltI, nI_eq, not_true_eq_false, not_false_eq_true] at h43
                          (try have h43b := zbit_n0.mp h43); (try have h43b := zbit_p0.mp h43)
                          refine z_aload_0 d_Tf_recite_79 ?_
                          refine z_bipush (a := nI 9) d_Tf_recite_80 (by decide) ?_
                          refine z_Vi1 d_Tf_recite_82 k_Tf_119 (by first | assumption | exact zS0_at (by assumption) (by omega) | exact zS0_at rfl (by omega)) (t_Tf_refuse (by assumption)) ⟨Nat.le_of_ble_eq_true rfl, Nat.le_of_ble_eq_true rfl, Nat.le_of_ble_eq_true rfl, Nat.le_of_ble_eq_true rfl⟩ (Nat.le_of_ble_eq_true rfl) ?_
                          intro r w hq
                          obtain ⟨rfl, rfl⟩ := hq
                          refine z_retz d_Tf_recite_85 (by first | exact zb0 | exact zb1 | assumption) ?_
                          exact ⟨by first | rfl | assumption, cW_0⟩)
                    · first
                      | (simp (disch := omega) only [← nI_0, nI_leI, nI_ltI, nI_eq, not_true_eq_false, not_false_eq_true] at h43; done)
                      | (simp (disch := omega) only [← nI_0, nI_leI, nI_ltI, nI_eq, not_true_eq_false, not_false_eq_true] at h43; omega)
                      | contradiction
                      | exact absurd h43 (Int32.not_lt.mpr (by assumption))
                      | exact absurd h43 (Int32.not_le.mpr (by assumption))
                      | exact absurd h43 (by decide)
                      | exact absurd (by decide) h43
                      | ( try simp (disch := omega) only [← nI_0, nI_leI, nI_ltI, nI_eq, not_true_eq_false, not_false_eq_true] at h43
                          (try have h43b := zbit_n0.mp h43); (try have h43b := zbit_p0.mp h43)
                          refine z_aload_0 d_Tf_recite_46 ?_
                          refine z_getR d_Tf_recite_47 f_Tf_60 (by first | assumption | exact zS0_at (by assumption) (by omega) | exact zS0_at rfl (by omega)) (by first | assumption | exact zS0_at (by assumption) (by omega) | exact zS0_at rfl (by omega)) ?_
                          refine z_iload_2 d_Tf_recite_50 ?_
                          refine z_aload_0 d_Tf_recite_51 ?_
                          refine z_getR d_Tf_recite_52 f_Tf_60 (by first | assumption | exact zS0_at (by assumption) (by omega) | exact zS0_at rfl (by omega)) (by first | assumption | exact zS0_at (by assumption) (by omega) | exact zS0_at rfl (by omega)) ?_
                          refine z_getR d_Tf_recite_55 f_Tf_252 (by first | assumption | exact zS0_at (by assumption) (by omega) | exact zS0_at rfl (by omega)) (by first | assumption | exact zS0_at (by assumption) (by omega) | exact zS0_at rfl (by omega)) ?_
                          refine z_iload_1 d_Tf_recite_58 ?_
                          first | refine z_ialdNv d_Tf_recite_59 (by first | assumption | exact zS0_at (by assumption) (by omega) | exact zS0_at rfl (by omega)) (by omega) (by first | decide | omega) (by first | assumption | ((try simp (disch := omega) only [zu_same, zu_ne, zcp_ne, zfl_ne]); first | assumption | rfl)) ?_ | refine z_iald d_Tf_recite_59 (by first | assumption | exact zS0_at (by assumption) (by omega) | exact zS0_at rfl (by omega)) (by first | assumption | exact zS0_at (by assumption) (by omega) | exact zS0_at rfl (by omega)) ?_
                          refine z_Vi2 d_Tf_recite_60 k_Tf_285 (by first | assumption | exact zS0_at (by assumption) (by omega) | exact zS0_at rfl (by omega)) (t_Fen_isTrue (by assumption) (by omega)) ⟨Nat.le_of_ble_eq_true rfl, Nat.le_of_ble_eq_true rfl, Nat.le_of_ble_eq_true rfl, Nat.le_of_ble_eq_true rfl⟩ (Nat.le_of_ble_eq_true rfl) ?_
                          intro r w hq
                          rcases hq with ⟨⟨hz60, rfl⟩ | ⟨hz60, rfl⟩, rfl⟩
                          · first
                            | contradiction
                            | ( skip
                                refine z_if_eq (tgt := 79) d_Tf_recite_63 (by decide) (fun h => absurd h (by decide)) (fun _ => ?_)
                                refine z_aload_0 d_Tf_recite_66 ?_
                                refine z_getR d_Tf_recite_67 f_Tf_60 (by first | assumption | exact zS0_at (by assumption) (by omega) | exact zS0_at rfl (by omega)) (by first | assumption | exact zS0_at (by assumption) (by omega) | exact zS0_at rfl (by omega)) ?_
                                refine z_getR d_Tf_recite_70 f_Tf_258 (by first | assumption | exact zS0_at (by assumption) (by omega) | exact zS0_at rfl (by omega)) (by first | assumption | exact zS0_at (by assumption) (by omega) | exact zS0_at rfl (by omega)) ?_
                                refine z_iload_1 d_Tf_recite_73 ?_
                                first | refine z_ialdNv d_Tf_recite_74 (by first | assumption | exact zS0_at (by assumption) (by omega) | exact zS0_at rfl (by omega)) (by omega) (by first | decide | omega) (by first | assumption | ((try simp (disch := omega) only [zu_same, zu_ne, zcp_ne, zfl_ne]); first | assumption | rfl)) ?_ | refine z_iald d_Tf_recite_74 (by first | assumption | exact zS0_at (by assumption) (by omega) | exact zS0_at rfl (by omega)) (by first | assumption | exact zS0_at (by assumption) (by omega) | exact zS0_at rfl (by omega)) ?_
                                refine z_iload_2 d_Tf_recite_75 ?_
                                refine z_icmp_ne (tgt := 86) d_Tf_recite_76 (by decide) (fun h76 => ?_) (fun h76 => ?_)
                                · first
                                  | (simp (disch := omega) only [← nI_0, nI_leI, nI_ltI, nI_eq, not_true_eq_false, not_false_eq_true] at h76; done)
                                  | (simp (disch := omega) only [← nI_0, nI_leI, nI_ltI, nI_eq, not_true_eq_false, not_false_eq_true] at h76; omega)
                                  | contradiction
                                  | exact absurd h76 (Int32.not_lt.mpr (by assumption))
                                  | exact absurd h76 (Int32.not_le.mpr (by assumption))
                                  | exact absurd h76 (by decide)
                                  | exact absurd (by decide) h76
                                  | ( try simp (disch := omega) only [← nI_0, nI_leI, nI_ltI, nI_eq, not_true_eq_false, not_false_eq_true] at h76
                                      (try have h76b := zbit_n0.mp h76); (try have h76b := zbit_p0.mp h76)
                                      refine z_aload_0 d_Tf_recite_86 ?_
                                      refine z_getR d_Tf_recite_87 f_Tf_60 (by first | assumption | exact zS0_at (by assumption) (by omega) | exact zS0_at rfl (by omega)) (by first | assumption | exact zS0_at (by assumption) (by omega) | exact zS0_at rfl (by omega)) ?_
                                      refine z_iload_1 d_Tf_recite_90 ?_
                                      refine z_iload_2 d_Tf_recite_91 ?_
                                      refine z_Vv2 d_Tf_recite_92 k_Tf_288 (by first | assumption | exact zS0_at (by assumption) (by omega) | exact zS0_at rfl (by omega)) (t_Fen_putOn (by assumption) (by omega)) ⟨Nat.le_of_ble_eq_true rfl, Nat.le_of_ble_eq_true rfl, Nat.le_of_ble_eq_true rfl, Nat.le_of_ble_eq_true rfl⟩ (Nat.le_of_ble_eq_true rfl) ?_
                                      intro w hq
                                      obtain rfl := hq
                                      refine z_aload_0 d_Tf_recite_95 ?_
                                      refine z_Vi0 d_Tf_recite_96 k_Tf_126 (by first | assumption | exact zS0_at (by assumption) (by omega) | exact zS0_at rfl (by omega)) (t_Tf_agree (by assumption)) ⟨Nat.le_of_ble_eq_true rfl, Nat.le_of_ble_eq_true rfl, Nat.le_of_ble_eq_true rfl, Nat.le_of_ble_eq_true rfl⟩ (Nat.le_of_ble_eq_true rfl) ?_
                                      intro r w hq
                                      obtain ⟨rfl, rfl⟩ := hq
                                      refine z_retz d_Tf_recite_99 (by first | exact zb0 | exact zb1 | assumption) ?_
                                      exact ⟨by first | rfl | assumption, cW_0⟩)
                                · first
                                  | (simp (disch := omega) only [← nI_0, nI_leI, nI_ltI, nI_eq, not_true_eq_false, not_false_eq_true] at h76; done)
                                  | (simp (disch := omega) only [← nI_0, nI_leI, nI_ltI, nI_eq, not_true_eq_false, not_false_eq_true] at h76; omega)
                                  | contradiction
                                  | exact absurd h76 (Int32.not_lt.mpr (by assumption))
                                  | exact absurd h76 (Int32.not_le.mpr (by assumption))
                                  | exact absurd h76 (by decide)
                                  | exact absurd (by decide) h76
                                  | ( try simp (disch := omega) only [← nI_0, nI_leI, nI_ltI, nI_eq, not_true_eq_false, not_false_eq_true] at h76
                                      (try have h76b := zbit_n0.mp h76); (try have h76b := zbit_p0.mp h76)
                                      refine z_aload_0 d_Tf_recite_79 ?_
                                      refine z_bipush (a := nI 9) d_Tf_recite_80 (by decide) ?_
                                      refine z_Vi1 d_Tf_recite_82 k_Tf_119 (by first | assumption | exact zS0_at (by assumption) (by omega) | exact zS0_at rfl (by omega)) (t_Tf_refuse (by assumption)) ⟨Nat.le_of_ble_eq_true rfl, Nat.le_of_ble_eq_true rfl, Nat.le_of_ble_eq_true rfl, Nat.le_of_ble_eq_true rfl⟩ (Nat.le_of_ble_eq_true rfl) ?_
                                      intro r w hq
                                      obtain ⟨rfl, rfl⟩ := hq
                                      refine z_retz d_Tf_recite_85 (by first | exact zb0 | exact zb1 | assumption) ?_
                                      exact ⟨by first | rfl | assumption, cW_0⟩))
                          · first
                            | contradiction
                            | ( skip
                                refine z_if_eq (tgt := 79) d_Tf_recite_63 (by decide) (fun _ => ?_) (fun h => absurd h (by decide))
                                refine z_aload_0 d_Tf_recite_79 ?_
                                refine z_bipush (a := nI 9) d_Tf_recite_80 (by decide) ?_
                                refine z_Vi1 d_Tf_recite_82 k_Tf_119 (by first | assumption | exact zS0_at (by assumption) (by omega) | exact zS0_at rfl (by omega)) (t_Tf_refuse (by assumption)) ⟨Nat.le_of_ble_eq_true rfl, Nat.le_of_ble_eq_true rfl, Nat.le_of_ble_eq_true rfl, Nat.le_of_ble_eq_true rfl⟩ (Nat.le_of_ble_eq_true rfl) ?_
                                intro r w hq
                                obtain ⟨rfl, rfl⟩ := hq
                                refine z_retz d_Tf_recite_85 (by first | exact zb0 | exact zb1 | assumption) ?_
                                exact ⟨by first | rfl | assumption, cW_0⟩)))
              · first
                | (simp (disch := omega) only [← nI_0, nI_leI, nI_ltI, nI_eq, not_true_eq_false, not_false_eq_true] at h33; done)
                | (simp (disch := omega) only [← nI_0, nI_leI, nI_ltI, nI_eq, not_true_eq_false, not_false_eq_true] at h33; omega)
                | contradiction
                | exact absurd h33 (Int32.not_lt.mpr (by assumption))
                | exact absurd h33 (Int32.not_le.mpr (by assumption))
                | exact absurd h33 (by decide)
                | exact absurd (by decide) h33
                | ( try simp (disch := omega) only [← nI_0, nI_leI, nI_ltI, nI_eq, not_true_eq_false, not_false_eq_true] at h33
                    (try have h33b := zbit_n0.mp h33); (try have h33b := zbit_p0.mp h33)
                    refine z_iconst (a := nI 1) d_Tf_recite_36 (by decide) ?_
                    refine z_goto (tgt := 41) d_Tf_recite_37 (by decide) ?_
                    first | refine z_istore_3 d_Tf_recite_41 rfl ?_ | (refine z_forget_2 ?_; refine z_istore_3 d_Tf_recite_41 rfl ?_)
                    refine z_iload_3 d_Tf_recite_42 ?_
                    refine z_if_ne (tgt := 79) d_Tf_recite_43 (by decide) (fun h43 => ?_) (fun h43 => ?_)
                    · first
                      | (simp (disch := omega) only [← nI_0, nI_leI, nI_ltI, nI_eq, not_true_eq_false, not_false_eq_true] at h43; done)
                      | (simp (disch := omega) only [← nI_0, nI_leI, nI_ltI, nI_eq, not_true_eq_false, not_false_eq_true] at h43; omega)
                      | contradiction
                      | exact absurd h43 (Int32.not_lt.mpr (by assumption))
                      | exact absurd h43 (Int32.not_le.mpr (by assumption))
                      | exact absurd h43 (by decide)
                      | exact absurd (by decide) h43
                      | ( try simp (disch := omega) only [← nI_0, nI_leI, nI_ltI, nI_eq, not_true_eq_false, not_false_eq_true] at h43
                          (try have h43b := zbit_n0.mp h43); (try have h43b := zbit_p0.mp h43)
                          refine z_aload_0 d_Tf_recite_79 ?_
                          refine z_bipush (a := nI 9) d_Tf_recite_80 (by decide) ?_
                          refine z_Vi1 d_Tf_recite_82 k_Tf_119 (by first | assumption | exact zS0_at (by assumption) (by omega) | exact zS0_at rfl (by omega)) (t_Tf_refuse (by assumption)) ⟨Nat.le_of_ble_eq_true rfl, Nat.le_of_ble_eq_true rfl, Nat.le_of_ble_eq_true rfl, Nat.le_of_ble_eq_true rfl⟩ (Nat.le_of_ble_eq_true rfl) ?_
                          intro r w hq
                          obtain ⟨rfl, rfl⟩ := hq
                          refine z_retz d_Tf_recite_85 (by first | exact zb0 | exact zb1 | assumption) ?_
                          exact ⟨by first | rfl | assumption, cW_0⟩)
                    · first
                      | (simp (disch := omega) only [← nI_0, nI_leI, nI_ltI, nI_eq, not_true_eq_false, not_false_eq_true] at h43; done)
                      | (simp (disch := omega) only [← nI_0, nI_leI, nI_ltI, nI_eq, not_true_eq_false, not_false_eq_true] at h43; omega)
                      | contradiction
                      | exact absurd h43 (Int32.not_lt.mpr (by assumption))
                      | exact absurd h43 (Int32.not_le.mpr (by assumption))
                      | exact absurd h43 (by decide)
                      | exact absurd (by decide) h43
                      | ( try simp (disch := omega) only [← nI_0, nI_leI, nI_ltI, nI_eq, not_true_eq_false, not_false_eq_true] at h43
                          (try have h43b := zbit_n0.mp h43); (try have h43b := zbit_p0.mp h43)
                          refine z_aload_0 d_Tf_recite_46 ?_
                          refine z_getR d_Tf_recite_47 f_Tf_60 (by first | assumption | exact zS0_at (by assumption) (by omega) | exact zS0_at rfl (by omega)) (by first | assumption | exact zS0_at (by assumption) (by omega) | exact zS0_at rfl (by omega)) ?_
                          refine z_iload_2 d_Tf_recite_50 ?_
                          refine z_aload_0 d_Tf_recite_51 ?_
                          refine z_getR d_Tf_recite_52 f_Tf_60 (by first | assumption | exact zS0_at (by assumption) (by omega) | exact zS0_at rfl (by omega)) (by first | assumption | exact zS0_at (by assumption) (by omega) | exact zS0_at rfl (by omega)) ?_
                          refine z_getR d_Tf_recite_55 f_Tf_252 (by first | assumption | exact zS0_at (by assumption) (by omega) | exact zS0_at rfl (by omega)) (by first | assumption | exact zS0_at (by assumption) (by omega) | exact zS0_at rfl (by omega)) ?_
                          refine z_iload_1 d_Tf_recite_58 ?_
                          first | refine z_ialdNv d_Tf_recite_59 (by first | assumption | exact zS0_at (by assumption) (by omega) | exact zS0_at rfl (by omega)) (by omega) (by first | decide | omega) (by first | assumption | ((try simp (disch := omega) only [zu_same, zu_ne, zcp_ne, zfl_ne]); first | assumption | rfl)) ?_ | refine z_iald d_Tf_recite_59 (by first | assumption | exact zS0_at (by assumption) (by omega) | exact zS0_at rfl (by omega)) (by first | assumption | exact zS0_at (by assumption) (by omega) | exact zS0_at rfl (by omega)) ?_
                          refine z_Vi2 d_Tf_recite_60 k_Tf_285 (by first | assumption | exact zS0_at (by assumption) (by omega) | exact zS0_at rfl (by omega)) (t_Fen_isTrue (by assumption) (by omega)) ⟨Nat.le_of_ble_eq_true rfl, Nat.le_of_ble_eq_true rfl, Nat.le_of_ble_eq_true rfl, Nat.le_of_ble_eq_true rfl⟩ (Nat.le_of_ble_eq_true rfl) ?_
                          intro r w hq
                          rcases hq with ⟨⟨hz60, rfl⟩ | ⟨hz60, rfl⟩, rfl⟩
                          · first
                            | contradiction
                            | ( skip
                                refine z_if_eq (tgt := 79) d_Tf_recite_63 (by decide) (fun h => absurd h (by decide)) (fun _ => ?_)
                                refine z_aload_0 d_Tf_recite_66 ?_
                                refine z_getR d_Tf_recite_67 f_Tf_60 (by first | assumption | exact zS0_at (by assumption) (by omega) | exact zS0_at rfl (by omega)) (by first | assumption | exact zS0_at (by assumption) (by omega) | exact zS0_at rfl (by omega)) ?_
                                refine z_getR d_Tf_recite_70 f_Tf_258 (by first | assumption | exact zS0_at (by assumption) (by omega) | exact zS0_at rfl (by omega)) (by first | assumption | exact zS0_at (by assumption) (by omega) | exact zS0_at rfl (by omega)) ?_
                                refine z_iload_1 d_Tf_recite_73 ?_
                                first | refine z_ialdNv d_Tf_recite_74 (by first | assumption | exact zS0_at (by assumption) (by omega) | exact zS0_at rfl (by omega)) (by omega) (by first | decide | omega) (by first | assumption | ((try simp (disch := omega) only [zu_same, zu_ne, zcp_ne, zfl_ne]); first | assumption | rfl)) ?_ | refine z_iald d_Tf_recite_74 (by first | assumption | exact zS0_at (by assumption) (by omega) | exact zS0_at rfl (by omega)) (by first | assumption | exact zS0_at (by assumption) (by omega) | exact zS0_at rfl (by omega)) ?_
                                refine z_iload_2 d_Tf_recite_75 ?_
                                refine z_icmp_ne (tgt := 86) d_Tf_recite_76 (by decide) (fun h76 => ?_) (fun h76 => ?_)
                                · first
                                  | (simp (disch := omega) only [← nI_0, nI_leI, nI_ltI, nI_eq, not_true_eq_false, not_false_eq_true] at h76; done)
                                  | (simp (disch := omega) only [← nI_0, nI_leI, nI_ltI, nI_eq, not_true_eq_false, not_false_eq_true] at h76; omega)
                                  | contradiction
                                  | exact absurd h76 (Int32.not_lt.mpr (by assumption))
                                  | exact absurd h76 (Int32.not_le.mpr (by assumption))
                                  | exact absurd h76 (by decide)
                                  | exact absurd (by decide) h76
                                  | ( try simp (disch := omega) only [← nI_0, nI_leI, nI_ltI, nI_eq, not_true_eq_false, not_false_eq_true] at h76
                                      (try have h76b := zbit_n0.mp h76); (try have h76b := zbit_p0.mp h76)
                                      refine z_aload_0 d_Tf_recite_86 ?_
                                      refine z_getR d_Tf_recite_87 f_Tf_60 (by first | assumption | exact zS0_at (by assumption) (by omega) | exact zS0_at rfl (by omega)) (by first | assumption | exact zS0_at (by assumption) (by omega) | exact zS0_at rfl (by omega)) ?_
                                      refine z_iload_1 d_Tf_recite_90 ?_
                                      refine z_iload_2 d_Tf_recite_91 ?_
                                      refine z_Vv2 d_Tf_recite_92 k_Tf_288 (by first | assumption | exact zS0_at (by assumption) (by omega) | exact zS0_at rfl (by omega)) (t_Fen_putOn (by assumption) (by omega)) ⟨Nat.le_of_ble_eq_true rfl, Nat.le_of_ble_eq_true rfl, Nat.le_of_ble_eq_true rfl, Nat.le_of_ble_eq_true rfl⟩ (Nat.le_of_ble_eq_true rfl) ?_
                                      intro w hq
                                      obtain rfl := hq
                                      refine z_aload_0 d_Tf_recite_95 ?_
                                      refine z_Vi0 d_Tf_recite_96 k_Tf_126 (by first | assumption | exact zS0_at (by assumption) (by omega) | exact zS0_at rfl (by omega)) (t_Tf_agree (by assumption)) ⟨Nat.le_of_ble_eq_true rfl, Nat.le_of_ble_eq_true rfl, Nat.le_of_ble_eq_true rfl, Nat.le_of_ble_eq_true rfl⟩ (Nat.le_of_ble_eq_true rfl) ?_
                                      intro r w hq
                                      obtain ⟨rfl, rfl⟩ := hq
                                      refine z_retz d_Tf_recite_99 (by first | exact zb0 | exact zb1 | assumption) ?_
                                      exact ⟨by first | rfl | assumption, cW_0⟩)
                                · first
                                  | (simp (disch := omega) only [← nI_0, nI_leI, nI_ltI, nI_eq, not_true_eq_false, not_false_eq_true] at h76; done)
                                  | (simp (disch := omega) only [← nI_0, nI_leI, nI_ltI, nI_eq, not_true_eq_false, not_false_eq_true] at h76; omega)
                                  | contradiction
                                  | exact absurd h76 (Int32.not_lt.mpr (by assumption))
                                  | exact absurd h76 (Int32.not_le.mpr (by assumption))
                                  | exact absurd h76 (by decide)
                                  | exact absurd (by decide) h76
                                  | ( try simp (disch := omega) only [← nI_0, nI_leI, nI_ltI, nI_eq, not_true_eq_false, not_false_eq_true] at h76
                                      (try have h76b := zbit_n0.mp h76); (try have h76b := zbit_p0.mp h76)
                                      refine z_aload_0 d_Tf_recite_79 ?_
                                      refine z_bipush (a := nI 9) d_Tf_recite_80 (by decide) ?_
                                      refine z_Vi1 d_Tf_recite_82 k_Tf_119 (by first | assumption | exact zS0_at (by assumption) (by omega) | exact zS0_at rfl (by omega)) (t_Tf_refuse (by assumption)) ⟨Nat.le_of_ble_eq_true rfl, Nat.le_of_ble_eq_true rfl, Nat.le_of_ble_eq_true rfl, Nat.le_of_ble_eq_true rfl⟩ (Nat.le_of_ble_eq_true rfl) ?_
                                      intro r w hq
                                      obtain ⟨rfl, rfl⟩ := hq
                                      refine z_retz d_Tf_recite_85 (by first | exact zb0 | exact zb1 | assumption) ?_
                                      exact ⟨by first | rfl | assumption, cW_0⟩))
                          · first
                            | contradiction
                            | ( skip
                                refine z_if_eq (tgt := 79) d_Tf_recite_63 (by decide) (fun _ => ?_) (fun h => absurd h (by decide))
                                refine z_aload_0 d_Tf_recite_79 ?_
                                refine z_bipush (a := nI 9) d_Tf_recite_80 (by decide) ?_
                                refine z_Vi1 d_Tf_recite_82 k_Tf_119 (by first | assumption | exact zS0_at (by assumption) (by omega) | exact zS0_at rfl (by omega)) (t_Tf_refuse (by assumption)) ⟨Nat.le_of_ble_eq_true rfl, Nat.le_of_ble_eq_true rfl, Nat.le_of_ble_eq_true rfl, Nat.le_of_ble_eq_true rfl⟩ (Nat.le_of_ble_eq_true rfl) ?_
                                intro r w hq
                                obtain ⟨rfl, rfl⟩ := hq
                                refine z_retz d_Tf_recite_85 (by first | exact zb0 | exact zb1 | assumption) ?_
                                exact ⟨by first | rfl | assumption, cW_0⟩)))))
theorem t_Tf_recite {t q k : Nat} (Z : clOk f d P S) (N : fenIn I f nt np nl nn) (ht : t < nn) (hq : q < np) (hk : I (f + 5) t = nI k) (hk2 : k < nt) (hf : ¬ zbit (I f 7) t) (hn : zbit (I (f + 2) q) k) (hi : ¬ I (f + 6) t = nI q) : zEi G y_Tf_recite prog_1_method_20_code 4 (some .boolean) 3 [.ref 0, .int (nI t), .int (nI q)] (I, J, P, S) (fun r w => r = nI 1 ∧ w = (zu (zu (zu I (f + 6) t (nI q)) (f + 7) t (I (f + 7) t ||| (nI 1 <<< (nI q &&& 31)))) 0 0 (nI 0), J, P, S)) := by
  obtain ⟨⟨c0, c3, c1s⟩, ⟨c5, c2s, ctr⟩, ⟨c6, c11s, c11, c13s⟩, ⟨c7, c15s, c15⟩, ⟨c8, c16s, c16a, c16b, c17s⟩, ⟨c9, c10, cfd, F, Fd⟩, ⟨c11b, Ft⟩, ⟨c12, c69s, cmk⟩, ⟨c14, c121s, c121, c122s⟩, ⟨c15b, c123s, c123, c124s⟩, ⟨c16, c125s, c125, c126s⟩, ⟨c17, c127s, c127, c128s, ctb⟩, ⟨c18, c139s, c139, c140s⟩, ⟨c19, c141s, ⟨c141a, c142s⟩, ⟨c141b, c143s⟩, ⟨c141c, c144s⟩⟩, M⟩ := id Z
  obtain ⟨F0, ⟨F8, F8s⟩, ⟨F9, F9s⟩, ⟨F10, F10s⟩, ⟨F11, F11s⟩, ⟨F12, F12s⟩, ⟨F13, F13s⟩, ⟨F14, F14s⟩, ⟨F15, F15s⟩, ⟨F16, F16s⟩, ⟨F17, F17s⟩, ⟨F18, F18s⟩, ⟨F19, F19s⟩, ⟨Y3, Y3s⟩, ⟨Y4, Y4s⟩, ⟨Y5, Y5s⟩, ⟨Y6, Y6s⟩⟩ := id F
  obtain ⟨⟨n1, n1b⟩, ⟨n2, n2b⟩, ⟨n3, n3b⟩, ⟨n4, n4b⟩, nof, non⟩ := id N
  have hz : zin (nI t) nn := ⟨t, by omega, rfl⟩
  have hzq : zin (nI q) np := ⟨q, by omega, rfl⟩
  refine zEi_of (lv := [some (.ref 0), some (.int (nI t)), some (.int (nI q)), none]) (by decide) rfl (Nat.le_of_ble_eq_true rfl) ?_
  refine z_aload_0 d_Tf_recite_0 ?_
  refine z_iload_1 d_Tf_recite_1 ?_
  refine z_Vi1 d_Tf_recite_2 k_Tf_249 (by first | assumption | exact zS0_at (by assumption) (by omega) | exact zS0_at rfl (by omega)) (t_Tf_noTin Z N) ⟨Nat.le_of_ble_eq_true rfl, Nat.le_of_ble_eq_true rfl, Nat.le_of_ble_eq_true rfl, Nat.le_of_ble_eq_true rfl⟩ (Nat.le_of_ble_eq_true rfl) ?_
  intro r w hq
  rcases hq with ⟨⟨hz2, rfl⟩ | ⟨hz2, rfl⟩, rfl⟩
  · first
    | contradiction
    | ( skip
        refine z_if_ne (tgt := 16) d_Tf_recite_5 (by decide) (fun _ => ?_) (fun h => absurd h (by decide))
        refine z_aload_0 d_Tf_recite_16 ?_
        refine z_iconst (a := nI 2) d_Tf_recite_17 (by decide) ?_
        refine z_Vi1 d_Tf_recite_18 k_Tf_119 (by first | assumption | exact zS0_at (by assumption) (by omega) | exact zS0_at rfl (by omega)) (t_Tf_refuse (by assumption)) ⟨Nat.le_of_ble_eq_true rfl, Nat.le_of_ble_eq_true rfl, Nat.le_of_ble_eq_true rfl, Nat.le_of_ble_eq_true rfl⟩ (Nat.le_of_ble_eq_true rfl) ?_
        intro r w hq
        obtain ⟨rfl, rfl⟩ := hq
        refine z_retz d_Tf_recite_21 (by first | exact zb0 | exact zb1 | assumption) ?_
        exact ⟨rfl, rfl⟩)
  · first
    | contradiction
    | ( skip
        refine z_if_ne (tgt := 16) d_Tf_recite_5 (by decide) (fun h => absurd h (by decide)) (fun _ => ?_)
        refine z_aload_0 d_Tf_recite_8 ?_
        refine z_iload_2 d_Tf_recite_9 ?_
        refine z_Vi1 d_Tf_recite_10 k_Tf_234 (by first | assumption | exact zS0_at (by assumption) (by omega) | exact zS0_at rfl (by omega)) (t_Tf_noPerson Z N) ⟨Nat.le_of_ble_eq_true rfl, Nat.le_of_ble_eq_true rfl, Nat.le_of_ble_eq_true rfl, Nat.le_of_ble_eq_true rfl⟩ (Nat.le_of_ble_eq_true rfl) ?_
        intro r w hq
        rcases hq with ⟨⟨hz10, rfl⟩ | ⟨hz10, rfl⟩, rfl⟩
        · first
          | contradiction
          | ( skip
              refine z_if_eq (tgt := 22) d_Tf_recite_13 (by decide) (fun h => absurd h (by decide)) (fun _ => ?_)
              refine z_aload_0 d_Tf_recite_16 ?_
              refine z_iconst (a := nI 2) d_Tf_recite_17 (by decide) ?_
              refine z_Vi1 d_Tf_recite_18 k_Tf_119 (by first | assumption | exact zS0_at (by assumption) (by omega) | exact zS0_at rfl (by omega)) (t_Tf_refuse (by assumption)) ⟨Nat.le_of_ble_eq_true rfl, Nat.le_of_ble_eq_true rfl, Nat.le_of_ble_eq_true rfl, Nat.le_of_ble_eq_true rfl⟩ (Nat.le_of_ble_eq_true rfl) ?_
              intro r w hq
              obtain ⟨rfl, rfl⟩ := hq
              refine z_retz d_Tf_recite_21 (by first | exact zb0 | exact zb1 | assumption) ?_
              exact ⟨rfl, rfl⟩)
        · first
          | contradiction
          | ( skip
              refine z_if_eq (tgt := 22) d_Tf_recite_13 (by decide) (fun _ => ?_) (fun h => absurd h (by decide))
              refine z_aload_0 d_Tf_recite_22 ?_
              refine z_getR d_Tf_recite_23 f_Tf_60 (by first | assumption | exact zS0_at (by assumption) (by omega) | exact zS0_at rfl (by omega)) (by first | assumption | exact zS0_at (by assumption) (by omega) | exact zS0_at rfl (by omega)) ?_
              refine z_getIv d_Tf_recite_26 f_Tf_217 (by first | assumption | exact zS0_at (by assumption) (by omega) | exact zS0_at rfl (by omega)) (by first | assumption | ((try simp (disch := omega) only [zu_same, zu_ne, zcp_ne, zfl_ne]); first | assumption | rfl)) ?_
              refine z_iload_1 d_Tf_recite_29 ?_
              refine z_ishr d_Tf_recite_30 ?_
              refine z_iconst (a := nI 1) d_Tf_recite_31 (by decide) ?_
              refine z_iand d_Tf_recite_32 ?_
              refine z_if_eq (tgt := 40) d_Tf_recite_33 (by decide) (fun h33 => ?_) (fun h33 => ?_)
              · first
                | (simp (disch := omega) only [← nI_0, nI_leI, nI_ltI, nI_eq, not_true_eq_false, not_false_eq_true] at h33; done)
                | (simp (disch := omega) only [← nI_0, nI_leI, nI_ltI, nI_eq, not_true_eq_false, not_false_eq_true] at h33; omega)
                | contradiction
                | exact absurd h33 (Int32.not_lt.mpr (by assumption))
                | exact absurd h33 (Int32.not_le.mpr (by assumption))
                | exact absurd h33 (by decide)
                | exact absurd (by decide) h33
                | ( try simp (disch := omega) only [← nI_0, nI_leI, nI_ltI, nI_eq, not_true_eq_false, not_false_eq_true] at h33
                    (try have h33b := zbit_n0.mp h33); (try have h33b := zbit_p0.mp h33)
                    refine z_iconst (a := nI 0) d_Tf_recite_40 (by decide) ?_
                    first | refine z_istore_3 d_Tf_recite_41 rfl ?_ | (refine z_forget_2 ?_; refine z_istore_3 d_Tf_recite_41 rfl ?_)
                    refine z_iload_3 d_Tf_recite_42 ?_
                    refine z_if_ne (tgt := 79) d_Tf_recite_43 (by decide) (fun h43 => ?_) (fun h43 => ?_)
                    · first
                      | (simp (disch := omega) only [← nI_0, nI_leI, nI_ltI, nI_eq, not_true_eq_false, not_false_eq_true] at h43; done)
                      | (simp (disch := omega) only [← nI_0, nI_leI, nI_ltI, nI_eq, not_true_eq_false, not_false_eq_true] at h43; omega)
                      | contradiction
                      | exact absurd h43 (Int32.not_lt.mpr (by assumption))
                      | exact absurd h43 (Int32.not_le.mpr (by assumption))
                      | exact absurd h43 (by decide)
                      | exact absurd (by decide) h43
                      | ( try simp (disch := omega) only [← nI_0, nI_leI, nI_ltI, nI_eq, not_true_eq_false, not_false_eq_true] at h43
                          (try have h43b := zbit_n0.mp h43); (try have h43b := zbit_p0.mp h43)
                          refine z_aload_0 d_Tf_recite_79 ?_
                          refine z_bipush (a := nI 9) d_Tf_recite_80 (by decide) ?_
                          refine z_Vi1 d_Tf_recite_82 k_Tf_119 (by first | assumption | exact zS0_at (by assumption) (by omega) | exact zS0_at rfl (by omega)) (t_Tf_refuse (by assumption)) ⟨Nat.le_of_ble_eq_true rfl, Nat.le_of_ble_eq_true rfl, Nat.le_of_ble_eq_true rfl, Nat.le_of_ble_eq_true rfl⟩ (Nat.le_of_ble_eq_true rfl) ?_
                          intro r w hq
                          obtain ⟨rfl, rfl⟩ := hq
                          refine z_retz d_Tf_recite_85 (by first | exact zb0 | exact zb1 | assumption) ?_
                          exact ⟨rfl, rfl⟩)
                    · first
                      | (simp (disch := omega) only [← nI_0, nI_leI, nI_ltI, nI_eq, not_true_eq_false, not_false_eq_true] at h43; done)
                      | (simp (disch := omega) only [← nI_0, nI_leI, nI_ltI, nI_eq, not_true_eq_false, not_false_eq_true] at h43; omega)
                      | contradiction
                      | exact absurd h43 (Int32.not_lt.mpr (by assumption))
                      | exact absurd h43 (Int32.not_le.mpr (by assumption))
                      | exact absurd h43 (by decide)
                      | exact absurd (by decide) h43
                      | ( try simp (disch := omega) only [← nI_0, nI_leI, nI_ltI, nI_eq, not_true_eq_false, not_false_eq_true] at h43
                          (try have h43b := zbit_n0.mp h43); (try have h43b := zbit_p0.mp h43)
                          refine z_aload_0 d_Tf_recite_46 ?_
                          refine z_getR d_Tf_recite_47 f_Tf_60 (by first | assumption | exact zS0_at (by assumption) (by omega) | exact zS0_at rfl (by omega)) (by first | assumption | exact zS0_at (by assumption) (by omega) | exact zS0_at rfl (by omega)) ?_
                          refine z_iload_2 d_Tf_recite_50 ?_
                          refine z_aload_0 d_Tf_recite_51 ?_
                          refine z_getR d_Tf_recite_52 f_Tf_60 (by first | assumption | exact zS0_at (by assumption) (by omega) | exact zS0_at rfl (by omega)) (by first | assumption | exact zS0_at (by assumption) (by omega) | exact zS0_at rfl (by omega)) ?_
                          refine z_getR d_Tf_recite_55 f_Tf_252 (by first | assumption | exact zS0_at (by assumption) (by omega) | exact zS0_at rfl (by omega)) (by first | assumption | exact zS0_at (by assumption) (by omega) | exact zS0_at rfl (by omega)) ?_
                          refine z_iload_1 d_Tf_recite_58 ?_
                          first | refine z_ialdNv d_Tf_recite_59 (by first | assumption | exact zS0_at (by assumption) (by omega) | exact zS0_at rfl (by omega)) (by omega) (by first | decide | omega) (by first | assumption | ((try simp (disch := omega) only [zu_same, zu_ne, zcp_ne, zfl_ne]); first | assumption | rfl)) ?_ | refine z_iald d_Tf_recite_59 (by first | assumption | exact zS0_at (by assumption) (by omega) | exact zS0_at rfl (by omega)) (by first | assumption | exact zS0_at (by assumption) (by omega) | exact zS0_at rfl (by omega)) ?_
                          refine z_Vi2 d_Tf_recite_60 k_Tf_285 (by first | assumption | exact zS0_at (by assumption) (by omega) | exact zS0_at rfl (by omega)) (t_Fen_isTrue (by assumption) (by omega)) ⟨Nat.le_of_ble_eq_true rfl, Nat.le_of_ble_eq_true rfl, Nat.le_of_ble_eq_true rfl, Nat.le_of_ble_eq_true rfl⟩ (Nat.le_of_ble_eq_true rfl) ?_
                          intro r w hq
                          rcases hq with ⟨⟨hz60, rfl⟩ | ⟨hz60, rfl⟩, rfl⟩
                          · first
                            | contradiction
                            | ( skip
                                refine z_if_eq (tgt := 79) d_Tf_recite_63 (by decide) (fun h => absurd h (by decide)) (fun _ => ?_)
                                refine z_aload_0 d_Tf_recite_66 ?_
                                refine z_getR d_Tf_recite_67 f_Tf_60 (by first | assumption | exact zS0_at (by assumption) (by omega) | exact zS0_at rfl (by omega)) (by first | assumption | exact zS0_at (by assumption) (by omega) | exact zS0_at rfl (by omega)) ?_
                                refine z_getR d_Tf_recite_70 f_Tf_258 (by first | assumption | exact zS0_at (by assumption) (by omega) | exact zS0_at rfl (by omega)) (by first | assumption | exact zS0_at (by assumption) (by omega) | exact zS0_at rfl (by omega)) ?_
                                refine z_iload_1 d_Tf_recite_73 ?_
                                first | refine z_ialdNv d_Tf_recite_74 (by first | assumption | exact zS0_at (by assumption) (by omega) | exact zS0_at rfl (by omega)) (by omega) (by first | decide | omega) (by first | assumption | ((try simp (disch := omega) only [zu_same, zu_ne, zcp_ne, zfl_ne]); first | assumption | rfl)) ?_ | refine z_iald d_Tf_recite_74 (by first | assumption | exact zS0_at (by assumption) (by omega) | exact zS0_at rfl (by omega)) (by first | assumption | exact zS0_at (by assumption) (by omega) | exact zS0_at rfl (by omega)) ?_
                                refine z_iload_2 d_Tf_recite_75 ?_
                                refine z_icmp_ne (tgt := 86) d_Tf_recite_76 (by decide) (fun h76 => ?_) (fun h76 => ?_)
                                · first
                                  | (simp (disch := omega) only [← nI_0, nI_leI, nI_ltI, nI_eq, not_true_eq_false, not_false_eq_true] at h76; done)
                                  | (simp (disch := omega) only [← nI_0, nI_leI, nI_ltI, nI_eq, not_true_eq_false, not_false_eq_true] at h76; omega)
                                  | contradiction
                                  | exact absurd h76 (Int32.not_lt.mpr (by assumption))
                                  | exact absurd h76 (Int32.not_le.mpr (by assumption))
                                  | exact absurd h76 (by decide)
                                  | exact absurd (by decide) h76
                                  | ( try simp (disch := omega) only [← nI_0, nI_leI, nI_ltI, nI_eq, not_true_eq_false, not_false_eq_true] at h76
                                      (try have h76b := zbit_n0.mp h76); (try have h76b := zbit_p0.mp h76)
                                      refine z_aload_0 d_Tf_recite_86 ?_
                                      refine z_getR d_Tf_recite_87 f_Tf_60 (by first | assumption | exact zS0_at (by assumption) (by omega) | exact zS0_at rfl (by omega)) (by first | assumption | exact zS0_at (by assumption) (by omega) | exact zS0_at rfl (by omega)) ?_
                                      refine z_iload_1 d_Tf_recite_90 ?_
                                      refine z_iload_2 d_Tf_recite_91 ?_
                                      refine z_Vv2 d_Tf_recite_92 k_Tf_288 (by first | assumption | exact zS0_at (by assumption) (by omega) | exact zS0_at rfl (by omega)) (t_Fen_putOn (by assumption) (by omega)) ⟨Nat.le_of_ble_eq_true rfl, Nat.le_of_ble_eq_true rfl, Nat.le_of_ble_eq_true rfl, Nat.le_of_ble_eq_true rfl⟩ (Nat.le_of_ble_eq_true rfl) ?_
                                      intro w hq
                                      obtain rfl := hq
                                      refine z_aload_0 d_Tf_recite_95 ?_
                                      refine z_Vi0 d_Tf_recite_96 k_Tf_126 (by first | assumption | exact zS0_at (by assumption) (by omega) | exact zS0_at rfl (by omega)) (t_Tf_agree (by assumption)) ⟨Nat.le_of_ble_eq_true rfl, Nat.le_of_ble_eq_true rfl, Nat.le_of_ble_eq_true rfl, Nat.le_of_ble_eq_true rfl⟩ (Nat.le_of_ble_eq_true rfl) ?_
                                      intro r w hq
                                      obtain ⟨rfl, rfl⟩ := hq
                                      refine z_retz d_Tf_recite_99 (by first | exact zb0 | exact zb1 | assumption) ?_
                                      exact ⟨rfl, rfl⟩)
                                · first
                                  | (simp (disch := omega) only [← nI_0, nI_leI, nI_ltI, nI_eq, not_true_eq_false, not_false_eq_true] at h76; done)
                                  | (simp (disch := omega) only [← nI_0, nI_leI, nI_ltI, nI_eq, not_true_eq_false, not_false_eq_true] at h76; omega)
                                  | contradiction
                                  | exact absurd h76 (Int32.not_lt.mpr (by assumption))
                                  | exact absurd h76 (Int32.not_le.mpr (by assumption))
                                  | exact absurd h76 (by decide)
                                  | exact absurd (by decide) h76
                                  | ( try simp (disch := omega) only [← nI_0, nI_leI, nI_ltI, nI_eq, not_true_eq_false, not_false_eq_true] at h76
                                      (try have h76b := zbit_n0.mp h76); (try have h76b := zbit_p0.mp h76)
                                      refine z_aload_0 d_Tf_recite_79 ?_
                                      refine z_bipush (a := nI 9) d_Tf_recite_80 (by decide) ?_
                                      refine z_Vi1 d_Tf_recite_82 k_Tf_119 (by first | assumption | exact zS0_at (by assumption) (by omega) | exact zS0_at rfl (by omega)) (t_Tf_refuse (by assumption)) ⟨Nat.le_of_ble_eq_true rfl, Nat.le_of_ble_eq_true rfl, Nat.le_of_ble_eq_true rfl, Nat.le_of_ble_eq_true rfl⟩ (Nat.le_of_ble_eq_true rfl) ?_
                                      intro r w hq
                                      obtain ⟨rfl, rfl⟩ := hq
                                      refine z_retz d_Tf_recite_85 (by first | exact zb0 | exact zb1 | assumption) ?_
                                      exact ⟨rfl, rfl⟩))
                          · first
                            | contradiction
                            | ( skip
                                refine z_if_eq (tgt := 79) d_Tf_recite_63 (by decide) (fun _ => ?_) (fun h => absurd h (by decide))
                                refine z_aload_0 d_Tf_recite_79 ?_
                                refine z_bipush (a := nI 9) d_Tf_recite_80 (by decide) ?_
                                refine z_Vi1 d_Tf_recite_82 k_Tf_119 (by first | assumption | exact zS0_at (by assumption) (by omega) | exact zS0_at rfl (by omega)) (t_Tf_refuse (by assumption)) ⟨Nat.le_of_ble_eq_true rfl, Nat.le_of_ble_eq_true rfl, Nat.le_of_ble_eq_true rfl, Nat.le_of_ble_eq_true rfl⟩ (Nat.le_of_ble_eq_true rfl) ?_
                                intro r w hq
                                obtain ⟨rfl, rfl⟩ := hq
                                refine z_retz d_Tf_recite_85 (by first | exact zb0 | exact zb1 | assumption) ?_
                                exact ⟨rfl, rfl⟩)))
              · first
                | (simp (disch := omega) only [← nI_0, nI_leI, nI_ltI, nI_eq, not_true_eq_false, not_false_eq_true] at h33; done)
                | (simp (disch := omega) only [← nI_0, nI_leI, nI_ltI, nI_eq, not_true_eq_false, not_false_eq_true] at h33; omega)
                | contradiction
                | exact absurd h33 (Int32.not_lt.mpr (by assumption))
                | exact absurd h33 (Int32.not_le.mpr (by assumption))
                | exact absurd h33 (by decide)
                | exact absurd (by decide) h33
                | ( try simp (disch := omega) only [← nI_0, nI_leI, nI_ltI, nI_eq, not_true_eq_false, not_false_eq_true] at h33
                    (try have h33b := zbit_n0.mp h33); (try have h33b := zbit_p0.mp h33)
                    refine z_iconst (a := nI 1) d_Tf_recite_36 (by decide) ?_
                    refine z_goto (tgt := 41) d_Tf_recite_37 (by decide) ?_
                    first | refine z_istore_3 d_Tf_recite_41 rfl ?_ | (refine z_forget_2 ?_; refine z_istore_3 d_Tf_recite_41 rfl ?_)
                    refine z_iload_3 d_Tf_recite_42 ?_
                    refine z_if_ne (tgt := 79) d_Tf_recite_43 (by decide) (fun h43 => ?_) (fun h43 => ?_)
                    · first
                      | (simp (disch := omega) only [← nI_0, nI_leI, nI_ltI, nI_eq, not_true_eq_false, not_false_eq_true] at h43; done)
                      | (simp (disch := omega) only [← nI_0, nI_leI, nI_ltI, nI_eq, not_true_eq_false, not_false_eq_true] at h43; omega)
                      | contradiction
                      | exact absurd h43 (Int32.not_lt.mpr (by assumption))
                      | exact absurd h43 (Int32.not_le.mpr (by assumption))
                      | exact absurd h43 (by decide)
                      | exact absurd (by decide) h43
                      | ( try simp (disch := omega) only [← nI_0, nI_leI, nI_ltI, nI_eq, not_true_eq_false, not_false_eq_true] at h43
                          (try have h43b := zbit_n0.mp h43); (try have h43b := zbit_p0.mp h43)
                          refine z_aload_0 d_Tf_recite_79 ?_
                          refine z_bipush (a := nI 9) d_Tf_recite_80 (by decide) ?_
                          refine z_Vi1 d_Tf_recite_82 k_Tf_119 (by first | assumption | exact zS0_at (by assumption) (by omega) | exact zS0_at rfl (by omega)) (t_Tf_refuse (by assumption)) ⟨Nat.le_of_ble_eq_true rfl, Nat.le_of_ble_eq_true rfl, Nat.le_of_ble_eq_true rfl, Nat.le_of_ble_eq_true rfl⟩ (Nat.le_of_ble_eq_true rfl) ?_
                          intro r w hq
                          obtain ⟨rfl, rfl⟩ := hq
                          refine z_retz d_Tf_recite_85 (by first | exact zb0 | exact zb1 | assumption) ?_
                          exact ⟨rfl, rfl⟩)
                    · first
                      | (simp (disch := omega) only [← nI_0, nI_leI, nI_ltI, nI_eq, not_true_eq_false, not_false_eq_true] at h43; done)
                      | (simp (disch := omega) only [← nI_0, nI_leI, nI_ltI, nI_eq, not_true_eq_false, not_false_eq_true] at h43; omega)
                      | contradiction
                      | exact absurd h43 (Int32.not_lt.mpr (by assumption))
                      | exact absurd h43 (Int32.not_le.mpr (by assumption))
                      | exact absurd h43 (by decide)
                      | exact absurd (by decide) h43
                      | ( try simp (disch := omega) only [← nI_0, nI_leI, nI_ltI, nI_eq, not_true_eq_false, not_false_eq_true] at h43
                          (try have h43b := zbit_n0.mp h43); (try have h43b := zbit_p0.mp h43)
                          refine z_aload_0 d_Tf_recite_46 ?_
                          refine z_getR d_Tf_recite_47 f_Tf_60 (by first | assumption | exact zS0_at (by assumption) (by omega) | exact zS0_at rfl (by omega)) (by first | assumption | exact zS0_at (by assumption) (by omega) | exact zS0_at rfl (by omega)) ?_
                          refine z_iload_2 d_Tf_recite_50 ?_
                          refine z_aload_0 d_Tf_recite_51 ?_
                          refine z_getR d_Tf_recite_52 f_Tf_60 (by first | assumption | exact zS0_at (by assumption) (by omega) | exact zS0_at rfl (by omega)) (by first | assumption | exact zS0_at (by assumption) (by omega) | exact zS0_at rfl (by omega)) ?_
                          refine z_getR d_Tf_recite_55 f_Tf_252 (by first | assumption | exact zS0_at (by assumption) (by omega) | exact zS0_at rfl (by omega)) (by first | assumption | exact zS0_at (by assumption) (by omega) | exact zS0_at rfl (by omega)) ?_
                          refine z_iload_1 d_Tf_recite_58 ?_
                          first | refine z_ialdNv d_Tf_recite_59 (by first | assumption | exact zS0_at (by assumption) (by omega) | exact zS0_at rfl (by omega)) (by omega) (by first | decide | omega) (by first | assumption | ((try simp (disch := omega) only [zu_same, zu_ne, zcp_ne, zfl_ne]); first | assumption | rfl)) ?_ | refine z_iald d_Tf_recite_59 (by first | assumption | exact zS0_at (by assumption) (by omega) | exact zS0_at rfl (by omega)) (by first | assumption | exact zS0_at (by assumption) (by omega) | exact zS0_at rfl (by omega)) ?_
                          refine z_Vi2 d_Tf_recite_60 k_Tf_285 (by first | assumption | exact zS0_at (by assumption) (by omega) | exact zS0_at rfl (by omega)) (t_Fen_isTrue (by assumption) (by omega)) ⟨Nat.le_of_ble_eq_true rfl, Nat.le_of_ble_eq_true rfl, Nat.le_of_ble_eq_true rfl, Nat.le_of_ble_eq_true rfl⟩ (Nat.le_of_ble_eq_true rfl) ?_
                          intro r w hq
                          rcases hq with ⟨⟨hz60, rfl⟩ | ⟨hz60, rfl⟩, rfl⟩
                          · first
                            | contradiction
                            | ( skip
                                refine z_if_eq (tgt := 79) d_Tf_recite_63 (by decide) (fun h => absurd h (by decide)) (fun _ => ?_)
                                refine z_aload_0 d_Tf_recite_66 ?_
                                refine z_getR d_Tf_recite_67 f_Tf_60 (by first | assumption | exact zS0_at (by assumption) (by omega) | exact zS0_at rfl (by omega)) (by first | assumption | exact zS0_at (by assumption) (by omega) | exact zS0_at rfl (by omega)) ?_
                                refine z_getR d_Tf_recite_70 f_Tf_258 (by first | assumption | exact zS0_at (by assumption) (by omega) | exact zS0_at rfl (by omega)) (by first | assumption | exact zS0_at (by assumption) (by omega) | exact zS0_at rfl (by omega)) ?_
                                refine z_iload_1 d_Tf_recite_73 ?_
                                first | refine z_ialdNv d_Tf_recite_74 (by first | assumption | exact zS0_at (by assumption) (by omega) | exact zS0_at rfl (by omega)) (by omega) (by first | decide | omega) (by first | assumption | ((try simp (disch := omega) only [zu_same, zu_ne, zcp_ne, zfl_ne]); first | assumption | rfl)) ?_ | refine z_iald d_Tf_recite_74 (by first | assumption | exact zS0_at (by assumption) (by omega) | exact zS0_at rfl (by omega)) (by first | assumption | exact zS0_at (by assumption) (by omega) | exact zS0_at rfl (by omega)) ?_
                                refine z_iload_2 d_Tf_recite_75 ?_
                                refine z_icmp_ne (tgt := 86) d_Tf_recite_76 (by decide) (fun h76 => ?_) (fun h76 => ?_)
                                · first
                                  | (simp (disch := omega) only [← nI_0, nI_leI, nI_ltI, nI_eq, not_true_eq_false, not_false_eq_true] at h76; done)
                                  | (simp (disch := omega) only [← nI_0, nI_leI, nI_ltI, nI_eq, not_true_eq_false, not_false_eq_true] at h76; omega)
                                  | contradiction
                                  | exact absurd h76 (Int32.not_lt.mpr (by assumption))
                                  | exact absurd h76 (Int32.not_le.mpr (by assumption))
                                  | exact absurd h76 (by decide)
                                  | exact absurd (by decide) h76
                                  | ( try simp (disch := omega) only [← nI_0, nI_leI, nI_ltI, nI_eq, not_true_eq_false, not_false_eq_true] at h76
                                      (try have h76b := zbit_n0.mp h76); (try have h76b := zbit_p0.mp h76)
                                      refine z_aload_0 d_Tf_recite_86 ?_
                                      refine z_getR d_Tf_recite_87 f_Tf_60 (by first | assumption | exact zS0_at (by assumption) (by omega) | exact zS0_at rfl (by omega)) (by first | assumption | exact zS0_at (by assumption) (by omega) | exact zS0_at rfl (by omega)) ?_
                                      refine z_iload_1 d_Tf_recite_90 ?_
                                      refine z_iload_2 d_Tf_recite_91 ?_
                                      refine z_Vv2 d_Tf_recite_92 k_Tf_288 (by first | assumption | exact zS0_at (by assumption) (by omega) | exact zS0_at rfl (by omega)) (t_Fen_putOn (by assumption) (by omega)) ⟨Nat.le_of_ble_eq_true rfl, Nat.le_of_ble_eq_true rfl, Nat.le_of_ble_eq_true rfl, Nat.le_of_ble_eq_true rfl⟩ (Nat.le_of_ble_eq_true rfl) ?_
                                      intro w hq
                                      obtain rfl := hq
                                      refine z_aload_0 d_Tf_recite_95 ?_
                                      refine z_Vi0 d_Tf_recite_96 k_Tf_126 (by first | assumption | exact zS0_at (by assumption) (by omega) | exact zS0_at rfl (by omega)) (t_Tf_agree (by assumption)) ⟨Nat.le_of_ble_eq_true rfl, Nat.le_of_ble_eq_true rfl, Nat.le_of_ble_eq_true rfl, Nat.le_of_ble_eq_true rfl⟩ (Nat.le_of_ble_eq_true rfl) ?_
                                      intro r w hq
                                      obtain ⟨rfl, rfl⟩ := hq
                                      refine z_retz d_Tf_recite_99 (by first | exact zb0 | exact zb1 | assumption) ?_
                                      exact ⟨rfl, rfl⟩)
                                · first
                                  | (simp (disch := omega) only [← nI_0, nI_leI, nI_ltI, nI_eq, not_true_eq_false, not_false_eq_true] at h76; done)
                                  | (simp (disch := omega) only [← nI_0, nI_leI, nI_ltI, nI_eq, not_true_eq_false, not_false_eq_true] at h76; omega)
                                  | contradiction
                                  | exact absurd h76 (Int32.not_lt.mpr (by assumption))
                                  | exact absurd h76 (Int32.not_le.mpr (by assumption))
                                  | exact absurd h76 (by decide)
                                  | exact absurd (by decide) h76
                                  | ( try simp (disch := omega) only [← nI_0, nI_leI, nI_ltI, nI_eq, not_true_eq_false, not_false_eq_true] at h76
                                      (try have h76b := zbit_n0.mp h76); (try have h76b := zbit_p0.mp h76)
                                      refine z_aload_0 d_Tf_recite_79 ?_
                                      refine z_bipush (a := nI 9) d_Tf_recite_80 (by decide) ?_
                                      refine z_Vi1 d_Tf_recite_82 k_Tf_119 (by first | assumption | exact zS0_at (by assumption) (by omega) | exact zS0_at rfl (by omega)) (t_Tf_refuse (by assumption)) ⟨Nat.le_of_ble_eq_true rfl, Nat.le_of_ble_eq_true rfl, Nat.le_of_ble_eq_true rfl, Nat.le_of_ble_eq_true rfl⟩ (Nat.le_of_ble_eq_true rfl) ?_
                                      intro r w hq
                                      obtain ⟨rfl, rfl⟩ := hq
                                      refine z_retz d_Tf_recite_85 (by first | exact zb0 | exact zb1 | assumption) ?_
                                      exact ⟨rfl, rfl⟩))
                          · first
                            | contradiction
                            | ( skip
                                refine z_if_eq (tgt := 79) d_Tf_recite_63 (by decide) (fun _ => ?_) (fun h => absurd h (by decide))
                                refine z_aload_0 d_Tf_recite_79 ?_
                                refine z_bipush (a := nI 9) d_Tf_recite_80 (by decide) ?_
                                refine z_Vi1 d_Tf_recite_82 k_Tf_119 (by first | assumption | exact zS0_at (by assumption) (by omega) | exact zS0_at rfl (by omega)) (t_Tf_refuse (by assumption)) ⟨Nat.le_of_ble_eq_true rfl, Nat.le_of_ble_eq_true rfl, Nat.le_of_ble_eq_true rfl, Nat.le_of_ble_eq_true rfl⟩ (Nat.le_of_ble_eq_true rfl) ?_
                                intro r w hq
                                obtain ⟨rfl, rfl⟩ := hq
                                refine z_retz d_Tf_recite_85 (by first | exact zb0 | exact zb1 | assumption) ?_
                                exact ⟨rfl, rfl⟩)))))
theorem t_Mo_recite_f {t q k : Nat} (M : modOk P S) (N : modIn I nt np nl nn) (ht : t < nn) (hq : q < np) (hk : I 150 (33 + t) = nI k) (hk2 : k < nt) (hf : I 150 (60 + t) = nI 1) : zEi G y_Mo_recite prog_14_method_94_code 3 (some .boolean) 4 [.ref 145, .int (nI t), .int (nI q)] (I, J, P, S) (fun r w => r = nI 0 ∧ mW I J P S 9 w) := by
  obtain ⟨M0, ⟨M4, M4s⟩, ⟨M5, M5s⟩, ⟨M6, M6s⟩, ⟨M7, M7s⟩, ⟨M20, M20s⟩, ⟨M21, M21s⟩, ⟨M22, M22s⟩, ⟨M26, M26s⟩, ⟨M27, M27s⟩, ⟨M28, M28s⟩, ⟨M30, M30s⟩, ⟨M34, M34s⟩, ⟨M36, M36s⟩, ⟨M37, M37s⟩⟩ := id M
  obtain ⟨I1, hI1, N1, h1, h0, e150, er, ek⟩ := mo_beg N
  obtain ⟨⟨m0, m0b⟩, ⟨m1, m1b⟩, ⟨m2, m2b⟩, ⟨m3, m3b⟩, mof, mon⟩ := id N1
  have hD : mD I I1 := ⟨h1, h0, e150, er⟩
  refine zEi_of (lv := [some (.ref 145), some (.int (nI t)), some (.int (nI q))]) (by decide) rfl (Nat.le_of_ble_eq_true rfl) ?_
  refine z_aload_0 d_Mo_recite_0 ?_
  refine z_iconst (a := nI 0) d_Mo_recite_1 (by decide) ?_
  refine z_putI d_Mo_recite_2 f_Mo_70 (by first | assumption | exact zS0_at (by assumption) (by omega) | exact zS0_at rfl (by omega)) ?_
  refine z_aload_0 d_Mo_recite_5 ?_
  refine z_iconst (a := nI 0) d_Mo_recite_6 (by decide) ?_
  refine z_putI d_Mo_recite_7 f_Mo_73 (by first | assumption | exact zS0_at (by assumption) (by omega) | exact zS0_at rfl (by omega)) ?_
  rw [← hI1]
  have hz : zin (nI t) nn := ⟨t, by omega, rfl⟩
  have hzq : zin (nI q) np := ⟨q, by omega, rfl⟩
  have hk1 : I1 150 (33 + t) = nI k := by rw [e150, hk]
  have hf1 : I1 150 (60 + t) = nI 1 := by rw [e150, hf]
  refine z_aload_0 d_Mo_recite_10 ?_
  refine z_iload_1 d_Mo_recite_11 ?_
  refine z_Vi1 d_Mo_recite_12 k_Mo_344 (by first | assumption | exact zS0_at (by assumption) (by omega) | exact zS0_at rfl (by omega)) (t_Mo_isTinAt M N1) ⟨Nat.le_of_ble_eq_true rfl, Nat.le_of_ble_eq_true rfl, Nat.le_of_ble_eq_true rfl, Nat.le_of_ble_eq_true rfl⟩ (Nat.le_of_ble_eq_true rfl) ?_
  intro r w hq
  rcases hq with ⟨⟨hz12, rfl⟩ | ⟨hz12, rfl⟩, rfl⟩
  · first
    | contradiction
    | ( skip
        refine z_if_eq (tgt := 27) d_Mo_recite_15 (by decide) (fun h => absurd h (by decide)) (fun _ => ?_)
        refine z_aload_0 d_Mo_recite_18 ?_
        refine z_iload_2 d_Mo_recite_19 ?_
        refine z_i2l d_Mo_recite_20 ?_
        refine z_Vi1 d_Mo_recite_21 k_Mo_336 (by first | assumption | exact zS0_at (by assumption) (by omega) | exact zS0_at rfl (by omega)) (t_Mo_isPersonAtI M N1) ⟨Nat.le_of_ble_eq_true rfl, Nat.le_of_ble_eq_true rfl, Nat.le_of_ble_eq_true rfl, Nat.le_of_ble_eq_true rfl⟩ (Nat.le_of_ble_eq_true rfl) ?_
        intro r w hq
        rcases hq with ⟨⟨hz21, rfl⟩ | ⟨hz21, rfl⟩, rfl⟩
        · first
          | contradiction
          | ( skip
              refine z_if_ne (tgt := 33) d_Mo_recite_24 (by decide) (fun _ => ?_) (fun h => absurd h (by decide))
              refine z_aload_0 d_Mo_recite_33 ?_
              refine z_getR d_Mo_recite_34 f_Mo_35 (by first | assumption | exact zS0_at (by assumption) (by omega) | exact zS0_at rfl (by omega)) (by first | assumption | exact zS0_at (by assumption) (by omega) | exact zS0_at rfl (by omega)) ?_
              refine z_bipush (a := nI 60) d_Mo_recite_37 (by decide) ?_
              refine z_iload_1 d_Mo_recite_39 ?_
              first | refine z_iaddN d_Mo_recite_40 ?_ | refine z_iadd d_Mo_recite_40 ?_
              first | refine z_ialdNv d_Mo_recite_41 (by first | assumption | exact zS0_at (by assumption) (by omega) | exact zS0_at rfl (by omega)) (by omega) (by first | decide | omega) (by first | assumption | ((try simp (disch := omega) only [zu_same, zu_ne, zcp_ne, zfl_ne]); first | assumption | rfl)) ?_ | refine z_iald d_Mo_recite_41 (by first | assumption | exact zS0_at (by assumption) (by omega) | exact zS0_at rfl (by omega)) (by first | assumption | exact zS0_at (by assumption) (by omega) | exact zS0_at rfl (by omega)) ?_
              refine z_iconst (a := nI 1) d_Mo_recite_42 (by decide) ?_
              refine z_icmp_eq (tgt := 68) d_Mo_recite_43 (by decide) (fun h43 => ?_) (fun h43 => ?_)
              · first
                | (simp (disch := omega) only [← nI_0, nI_leI, nI_ltI, nI_eq, not_true_eq_false, not_false_eq_true] at h43; done)
                | (simp (disch := omega) only [← nI_0, nI_leI, nI_ltI, nI_eq, not_true_eq_false, not_false_eq_true] at h43; omega)
                | contradiction
                | exact absurd h43 (Int32.not_lt.mpr (by assumption))
                | exact absurd h43 (Int32.not_le.mpr (by assumption))
                | exact absurd h43 (by decide)
                | exact absurd (by decide) h43
                | ( try simp (disch := omega) only [← nI_0, nI_leI, nI_ltI, nI_eq, not_true_eq_false, not_false_eq_true] at h43
                    (try have h43b := zbit_n0.mp h43); (try have h43b := zbit_p0.mp h43)
                    refine z_aload_0 d_Mo_recite_68 ?_
                    refine z_bipush (a := nI 9) d_Mo_recite_69 (by decide) ?_
                    refine z_Vi1 d_Mo_recite_71 k_Mo_85 (by first | assumption | exact zS0_at (by assumption) (by omega) | exact zS0_at rfl (by omega)) (t_Mo_no (by assumption)) ⟨Nat.le_of_ble_eq_true rfl, Nat.le_of_ble_eq_true rfl, Nat.le_of_ble_eq_true rfl, Nat.le_of_ble_eq_true rfl⟩ (Nat.le_of_ble_eq_true rfl) ?_
                    intro r w hq
                    obtain ⟨rfl, rfl⟩ := hq
                    refine z_retz d_Mo_recite_74 (by first | exact zb0 | exact zb1 | assumption) ?_
                    exact ⟨by first | rfl | assumption | (rw [e150]), _, _, rfl, (by repeat (first | exact h1 | refine mqF_z ?_ (by decide))), mqJ_r, (by first | exact zu_same _ _ _ _ | exact h0)⟩)
              · first
                | (simp (disch := omega) only [← nI_0, nI_leI, nI_ltI, nI_eq, not_true_eq_false, not_false_eq_true] at h43; done)
                | (simp (disch := omega) only [← nI_0, nI_leI, nI_ltI, nI_eq, not_true_eq_false, not_false_eq_true] at h43; omega)
                | contradiction
                | exact absurd h43 (Int32.not_lt.mpr (by assumption))
                | exact absurd h43 (Int32.not_le.mpr (by assumption))
                | exact absurd h43 (by decide)
                | exact absurd (by decide) h43
                | ( try simp (disch := omega) only [← nI_0, nI_leI, nI_ltI, nI_eq, not_true_eq_false, not_false_eq_true] at h43
                    (try have h43b := zbit_n0.mp h43); (try have h43b := zbit_p0.mp h43)
                    refine z_aload_0 d_Mo_recite_46 ?_
                    refine z_iload_1 d_Mo_recite_47 ?_
                    refine z_iload_2 d_Mo_recite_48 ?_
                    refine z_Vi2 d_Mo_recite_49 k_Mo_354 (by first | assumption | exact zS0_at (by assumption) (by omega) | exact zS0_at rfl (by omega)) (t_Mo_isTrue (by assumption) (by omega) (by omega) (by assumption)) ⟨Nat.le_of_ble_eq_true rfl, Nat.le_of_ble_eq_true rfl, Nat.le_of_ble_eq_true rfl, Nat.le_of_ble_eq_true rfl⟩ (Nat.le_of_ble_eq_true rfl) ?_
                    intro r w hq
                    rcases hq with ⟨⟨hz49, rfl⟩ | ⟨hz49, rfl⟩, rfl⟩
                    · first
                      | contradiction
                      | ( skip
                          refine z_if_eq (tgt := 68) d_Mo_recite_52 (by decide) (fun h => absurd h (by decide)) (fun _ => ?_)
                          refine z_aload_0 d_Mo_recite_55 ?_
                          refine z_getR d_Mo_recite_56 f_Mo_35 (by first | assumption | exact zS0_at (by assumption) (by omega) | exact zS0_at rfl (by omega)) (by first | assumption | exact zS0_at (by assumption) (by omega) | exact zS0_at rfl (by omega)) ?_
                          refine z_bipush (a := nI 42) d_Mo_recite_59 (by decide) ?_
                          refine z_iload_1 d_Mo_recite_61 ?_
                          first | refine z_iaddN d_Mo_recite_62 ?_ | refine z_iadd d_Mo_recite_62 ?_
                          first | refine z_ialdNv d_Mo_recite_63 (by first | assumption | exact zS0_at (by assumption) (by omega) | exact zS0_at rfl (by omega)) (by omega) (by first | decide | omega) (by first | assumption | ((try simp (disch := omega) only [zu_same, zu_ne, zcp_ne, zfl_ne]); first | assumption | rfl)) ?_ | refine z_iald d_Mo_recite_63 (by first | assumption | exact zS0_at (by assumption) (by omega) | exact zS0_at rfl (by omega)) (by first | assumption | exact zS0_at (by assumption) (by omega) | exact zS0_at rfl (by omega)) ?_
                          refine z_iload_2 d_Mo_recite_64 ?_
                          refine z_icmp_ne (tgt := 75) d_Mo_recite_65 (by decide) (fun h65 => ?_) (fun h65 => ?_)
                          · first
                            | (simp (disch := omega) only [← nI_0, nI_leI, nI_ltI, nI_eq, not_true_eq_false, not_false_eq_true] at h65; done)
                            | (simp (disch := omega) only [← nI_0, nI_leI, nI_ltI, nI_eq, not_true_eq_false, not_false_eq_true] at h65; omega)
                            | contradiction
                            | exact absurd h65 (Int32.not_lt.mpr (by assumption))
                            | exact absurd h65 (Int32.not_le.mpr (by assumption))
                            | exact absurd h65 (by decide)
                            | exact absurd (by decide) h65
                            | ( try simp (disch := omega) only [← nI_0, nI_leI, nI_ltI, nI_eq, not_true_eq_false, not_false_eq_true] at h65
                                (try have h65b := zbit_n0.mp h65); (try have h65b := zbit_p0.mp h65)
                                refine z_aload_0 d_Mo_recite_75 ?_
                                refine z_getR d_Mo_recite_76 f_Mo_35 (by first | assumption | exact zS0_at (by assumption) (by omega) | exact zS0_at rfl (by omega)) (by first | assumption | exact zS0_at (by assumption) (by omega) | exact zS0_at rfl (by omega)) ?_
                                refine z_bipush (a := nI 42) d_Mo_recite_79 (by decide) ?_
                                refine z_iload_1 d_Mo_recite_81 ?_
                                first | refine z_iaddN d_Mo_recite_82 ?_ | refine z_iadd d_Mo_recite_82 ?_
                                refine z_iload_2 d_Mo_recite_83 ?_
                                first | refine z_iastN d_Mo_recite_84 (by first | assumption | exact zS0_at (by assumption) (by omega) | exact zS0_at rfl (by omega)) (by omega) (by first | decide | omega) ?_ | refine z_iast d_Mo_recite_84 (by first | assumption | exact zS0_at (by assumption) (by omega) | exact zS0_at rfl (by omega)) (by first | assumption | exact zS0_at (by assumption) (by omega) | exact zS0_at rfl (by omega)) ?_
                                refine z_aload_0 d_Mo_recite_85 ?_
                                refine z_getR d_Mo_recite_86 f_Mo_35 (by first | assumption | exact zS0_at (by assumption) (by omega) | exact zS0_at rfl (by omega)) (by first | assumption | exact zS0_at (by assumption) (by omega) | exact zS0_at rfl (by omega)) ?_
                                refine z_bipush (a := nI 69) d_Mo_recite_89 (by decide) ?_
                                refine z_iload_1 d_Mo_recite_91 ?_
                                first | refine z_iaddN d_Mo_recite_92 ?_ | refine z_iadd d_Mo_recite_92 ?_
                                first | refine z_dup2 rfl rfl d_Mo_recite_93 ?_ | refine z_dup2l rfl d_Mo_recite_93 ?_
                                first | refine z_ialdNv d_Mo_recite_94 (by first | assumption | exact zS0_at (by assumption) (by omega) | exact zS0_at rfl (by omega)) (by omega) (by first | decide | omega) (by first | assumption | ((try simp (disch := omega) only [zu_same, zu_ne, zcp_ne, zfl_ne]); first | assumption | rfl)) ?_ | refine z_iald d_Mo_recite_94 (by first | assumption | exact zS0_at (by assumption) (by omega) | exact zS0_at rfl (by omega)) (by first | assumption | exact zS0_at (by assumption) (by omega) | exact zS0_at rfl (by omega)) ?_
                                refine z_iconst (a := nI 1) d_Mo_recite_95 (by decide) ?_
                                refine z_iload_2 d_Mo_recite_96 ?_
                                refine z_ishl d_Mo_recite_97 ?_
                                refine z_ior d_Mo_recite_98 ?_
                                first | refine z_iastN d_Mo_recite_99 (by first | assumption | exact zS0_at (by assumption) (by omega) | exact zS0_at rfl (by omega)) (by omega) (by first | decide | omega) ?_ | refine z_iast d_Mo_recite_99 (by first | assumption | exact zS0_at (by assumption) (by omega) | exact zS0_at rfl (by omega)) (by first | assumption | exact zS0_at (by assumption) (by omega) | exact zS0_at rfl (by omega)) ?_
                                refine z_iconst (a := nI 1) d_Mo_recite_100 (by decide) ?_
                                refine z_retz d_Mo_recite_101 (by first | exact zb0 | exact zb1 | assumption) ?_
                                exact ⟨by first | rfl | assumption | (rw [e150]), _, _, rfl, (by repeat (first | exact h1 | refine mqF_z ?_ (by decide))), mqJ_r, (by first | exact zu_same _ _ _ _ | exact h0)⟩)
                          · first
                            | (simp (disch := omega) only [← nI_0, nI_leI, nI_ltI, nI_eq, not_true_eq_false, not_false_eq_true] at h65; done)
                            | (simp (disch := omega) only [← nI_0, nI_leI, nI_ltI, nI_eq, not_true_eq_false, not_false_eq_true] at h65; omega)
                            | contradiction
                            | exact absurd h65 (Int32.not_lt.mpr (by assumption))
                            | exact absurd h65 (Int32.not_le.mpr (by assumption))
                            | exact absurd h65 (by decide)
                            | exact absurd (by decide) h65
                            | ( try simp (disch := omega) only [← nI_0, nI_leI, nI_ltI, nI_eq, not_true_eq_false, not_false_eq_true] at h65
                                (try have h65b := zbit_n0.mp h65); (try have h65b := zbit_p0.mp h65)
                                refine z_aload_0 d_Mo_recite_68 ?_
                                refine z_bipush (a := nI 9) d_Mo_recite_69 (by decide) ?_
                                refine z_Vi1 d_Mo_recite_71 k_Mo_85 (by first | assumption | exact zS0_at (by assumption) (by omega) | exact zS0_at rfl (by omega)) (t_Mo_no (by assumption)) ⟨Nat.le_of_ble_eq_true rfl, Nat.le_of_ble_eq_true rfl, Nat.le_of_ble_eq_true rfl, Nat.le_of_ble_eq_true rfl⟩ (Nat.le_of_ble_eq_true rfl) ?_
                                intro r w hq
                                obtain ⟨rfl, rfl⟩ := hq
                                refine z_retz d_Mo_recite_74 (by first | exact zb0 | exact zb1 | assumption) ?_
                                exact ⟨by first | rfl | assumption | (rw [e150]), _, _, rfl, (by repeat (first | exact h1 | refine mqF_z ?_ (by decide))), mqJ_r, (by first | exact zu_same _ _ _ _ | exact h0)⟩))
                    · first
                      | contradiction
                      | ( skip
                          refine z_if_eq (tgt := 68) d_Mo_recite_52 (by decide) (fun _ => ?_) (fun h => absurd h (by decide))
                          refine z_aload_0 d_Mo_recite_68 ?_
                          refine z_bipush (a := nI 9) d_Mo_recite_69 (by decide) ?_
                          refine z_Vi1 d_Mo_recite_71 k_Mo_85 (by first | assumption | exact zS0_at (by assumption) (by omega) | exact zS0_at rfl (by omega)) (t_Mo_no (by assumption)) ⟨Nat.le_of_ble_eq_true rfl, Nat.le_of_ble_eq_true rfl, Nat.le_of_ble_eq_true rfl, Nat.le_of_ble_eq_true rfl⟩ (Nat.le_of_ble_eq_true rfl) ?_
                          intro r w hq
                          obtain ⟨rfl, rfl⟩ := hq
                          refine z_retz d_Mo_recite_74 (by first | exact zb0 | exact zb1 | assumption) ?_
                          exact ⟨by first | rfl | assumption | (rw [e150]), _, _, rfl, (by repeat (first | exact h1 | refine mqF_z ?_ (by decide))), mqJ_r, (by first | exact zu_same _ _ _ _ | exact h0)⟩)))
        · first
          | contradiction
          | ( skip
              refine z_if_ne (tgt := 33) d_Mo_recite_24 (by decide) (fun h => absurd h (by decide)) (fun _ => ?_)
              refine z_aload_0 d_Mo_recite_27 ?_
              refine z_iconst (a := nI 2) d_Mo_recite_28 (by decide) ?_
              refine z_Vi1 d_Mo_recite_29 k_Mo_85 (by first | assumption | exact zS0_at (by assumption) (by omega) | exact zS0_at rfl (by omega)) (t_Mo_no (by assumption)) ⟨Nat.le_of_ble_eq_true rfl, Nat.le_of_ble_eq_true rfl, Nat.le_of_ble_eq_true rfl, Nat.le_of_ble_eq_true rfl⟩ (Nat.le_of_ble_eq_true rfl) ?_
              intro r w hq
              obtain ⟨rfl, rfl⟩ := hq
              refine z_retz d_Mo_recite_32 (by first | exact zb0 | exact zb1 | assumption) ?_
              exact ⟨by first | rfl | assumption | (rw [e150]), _, _, rfl, (by repeat (first | exact h1 | refine mqF_z ?_ (by decide))), mqJ_r, (by first | exact zu_same _ _ _ _ | exact h0)⟩))
  · first
    | contradiction
    | ( skip
        refine z_if_eq (tgt := 27) d_Mo_recite_15 (by decide) (fun _ => ?_) (fun h => absurd h (by decide))
        refine z_aload_0 d_Mo_recite_27 ?_
        refine z_iconst (a := nI 2) d_Mo_recite_28 (by decide) ?_
        refine z_Vi1 d_Mo_recite_29 k_Mo_85 (by first | assumption | exact zS0_at (by assumption) (by omega) | exact zS0_at rfl (by omega)) (t_Mo_no (by assumption)) ⟨Nat.le_of_ble_eq_true rfl, Nat.le_of_ble_eq_true rfl, Nat.le_of_ble_eq_true rfl, Nat.le_of_ble_eq_true rfl⟩ (Nat.le_of_ble_eq_true rfl) ?_
        intro r w hq
        obtain ⟨rfl, rfl⟩ := hq
        refine z_retz d_Mo_recite_32 (by first | exact zb0 | exact zb1 | assumption) ?_
        exact ⟨by first | rfl | assumption | (rw [e150]), _, _, rfl, (by repeat (first | exact h1 | refine mqF_z ?_ (by decide))), mqJ_r, (by first | exact zu_same _ _ _ _ | exact h0)⟩)
theorem t_Mo_recite_n {t q k : Nat} (M : modOk P S) (N : modIn I nt np nl nn) (ht : t < nn) (hq : q < np) (hk : I 150 (33 + t) = nI k) (hk2 : k < nt) (hf : I 150 (60 + t) = nI 0) (hn : ¬ zbit (I 150 (12 + q)) k) : zEi G y_Mo_recite prog_14_method_94_code 3 (some .boolean) 4 [.ref 145, .int (nI t), .int (nI q)] (I, J, P, S) (fun r w => r = nI 0 ∧ mW I J P S 9 w) := by
  obtain ⟨M0, ⟨M4, M4s⟩, ⟨M5, M5s⟩, ⟨M6, M6s⟩, ⟨M7, M7s⟩, ⟨M20, M20s⟩, ⟨M21, M21s⟩, ⟨M22, M22s⟩, ⟨M26, M26s⟩, ⟨M27, M27s⟩, ⟨M28, M28s⟩, ⟨M30, M30s⟩, ⟨M34, M34s⟩, ⟨M36, M36s⟩, ⟨M37, M37s⟩⟩ := id M
  obtain ⟨I1, hI1, N1, h1, h0, e150, er, ek⟩ := mo_beg N
  obtain ⟨⟨m0, m0b⟩, ⟨m1, m1b⟩, ⟨m2, m2b⟩, ⟨m3, m3b⟩, mof, mon⟩ := id N1
  have hD : mD I I1 := ⟨h1, h0, e150, er⟩
  refine zEi_of (lv := [some (.ref 145), some (.int (nI t)), some (.int (nI q))]) (by decide) rfl (Nat.le_of_ble_eq_true rfl) ?_
  refine z_aload_0 d_Mo_recite_0 ?_
  refine z_iconst (a := nI 0) d_Mo_recite_1 (by decide) ?_
  refine z_putI d_Mo_recite_2 f_Mo_70 (by first | assumption | exact zS0_at (by assumption) (by omega) | exact zS0_at rfl (by omega)) ?_
  refine z_aload_0 d_Mo_recite_5 ?_
  refine z_iconst (a := nI 0) d_Mo_recite_6 (by decide) ?_
  refine z_putI d_Mo_recite_7 f_Mo_73 (by first | assumption | exact zS0_at (by assumption) (by omega) | exact zS0_at rfl (by omega)) ?_
  rw [← hI1]
  have hz : zin (nI t) nn := ⟨t, by omega, rfl⟩
  have hzq : zin (nI q) np := ⟨q, by omega, rfl⟩
  have hk1 : I1 150 (33 + t) = nI k := by rw [e150, hk]
  have hf1 : I1 150 (60 + t) = nI 0 := by rw [e150, hf]
  have hn1 : ¬ zbit (I1 150 (12 + q)) k := by rw [e150]; exact hn
  refine z_aload_0 d_Mo_recite_10 ?_
  refine z_iload_1 d_Mo_recite_11 ?_
  refine z_Vi1 d_Mo_recite_12 k_Mo_344 (by first | assumption | exact zS0_at (by assumption) (by omega) | exact zS0_at rfl (by omega)) (t_Mo_isTinAt M N1) ⟨Nat.le_of_ble_eq_true rfl, Nat.le_of_ble_eq_true rfl, Nat.le_of_ble_eq_true rfl, Nat.le_of_ble_eq_true rfl⟩ (Nat.le_of_ble_eq_true rfl) ?_
  intro r w hq
  rcases hq with ⟨⟨hz12, rfl⟩ | ⟨hz12, rfl⟩, rfl⟩
  · first
    | contradiction
    | ( skip
        refine z_if_eq (tgt := 27) d_Mo_recite_15 (by decide) (fun h => absurd h (by decide)) (fun _ => ?_)
        refine z_aload_0 d_Mo_recite_18 ?_
        refine z_iload_2 d_Mo_recite_19 ?_
        refine z_i2l d_Mo_recite_20 ?_
        refine z_Vi1 d_Mo_recite_21 k_Mo_336 (by first | assumption | exact zS0_at (by assumption) (by omega) | exact zS0_at rfl (by omega)) (t_Mo_isPersonAtI M N1) ⟨Nat.le_of_ble_eq_true rfl, Nat.le_of_ble_eq_true rfl, Nat.le_of_ble_eq_true rfl, Nat.le_of_ble_eq_true rfl⟩ (Nat.le_of_ble_eq_true rfl) ?_
        intro r w hq
        rcases hq with ⟨⟨hz21, rfl⟩ | ⟨hz21, rfl⟩, rfl⟩
        · first
          | contradiction
          | ( skip
              refine z_if_ne (tgt := 33) d_Mo_recite_24 (by decide) (fun _ => ?_) (fun h => absurd h (by decide))
              refine z_aload_0 d_Mo_recite_33 ?_
              refine z_getR d_Mo_recite_34 f_Mo_35 (by first | assumption | exact zS0_at (by assumption) (by omega) | exact zS0_at rfl (by omega)) (by first | assumption | exact zS0_at (by assumption) (by omega) | exact zS0_at rfl (by omega)) ?_
              refine z_bipush (a := nI 60) d_Mo_recite_37 (by decide) ?_
              refine z_iload_1 d_Mo_recite_39 ?_
              first | refine z_iaddN d_Mo_recite_40 ?_ | refine z_iadd d_Mo_recite_40 ?_
              first | refine z_ialdNv d_Mo_recite_41 (by first | assumption | exact zS0_at (by assumption) (by omega) | exact zS0_at rfl (by omega)) (by omega) (by first | decide | omega) (by first | assumption | ((try simp (disch := omega) only [zu_same, zu_ne, zcp_ne, zfl_ne]); first | assumption | rfl)) ?_ | refine z_iald d_Mo_recite_41 (by first | assumption | exact zS0_at (by assumption) (by omega) | exact zS0_at rfl (by omega)) (by first | assumption | exact zS0_at (by assumption) (by omega) | exact zS0_at rfl (by omega)) ?_
              refine z_iconst (a := nI 1) d_Mo_recite_42 (by decide) ?_
              refine z_icmp_eq (tgt := 68) d_Mo_recite_43 (by decide) (fun h43 => ?_) (fun h43 => ?_)
              · first
                | (simp (disch := omega) only [← nI_0, nI_leI, nI_ltI, nI_eq, not_true_eq_false, not_false_eq_true] at h43; done)
                | (simp (disch := omega) only [← nI_0, nI_leI, nI_ltI, nI_eq, not_true_eq_false, not_false_eq_true] at h43; omega)
                | contradiction
                | exact absurd h43 (Int32.not_lt.mpr (by assumption))
                | exact absurd h43 (Int32.not_le.mpr (by assumption))
                | exact absurd h43 (by decide)
                | exact absurd (by decide) h43
                | ( try simp (disch := omega) only [← nI_0, nI_leI, nI_ltI, nI_eq, not_true_eq_false, not_false_eq_true] at h43
                    (try have h43b := zbit_n0.mp h43); (try have h43b := zbit_p0.mp h43)
                    refine z_aload_0 d_Mo_recite_68 ?_
                    refine z_bipush (a := nI 9) d_Mo_recite_69 (by decide) ?_
                    refine z_Vi1 d_Mo_recite_71 k_Mo_85 (by first | assumption | exact zS0_at (by assumption) (by omega) | exact zS0_at rfl (by omega)) (t_Mo_no (by assumption)) ⟨Nat.le_of_ble_eq_true rfl, Nat.le_of_ble_eq_true rfl, Nat.le_of_ble_eq_true rfl, Nat.le_of_ble_eq_true rfl⟩ (Nat.le_of_ble_eq_true rfl) ?_
                    intro r w hq
                    obtain ⟨rfl, rfl⟩ := hq
                    refine z_retz d_Mo_recite_74 (by first | exact zb0 | exact zb1 | assumption) ?_
                    exact ⟨by first | rfl | assumption | (rw [e150]), _, _, rfl, (by repeat (first | exact h1 | refine mqF_z ?_ (by decide))), mqJ_r, (by first | exact zu_same _ _ _ _ | exact h0)⟩)
              · first
                | (simp (disch := omega) only [← nI_0, nI_leI, nI_ltI, nI_eq, not_true_eq_false, not_false_eq_true] at h43; done)
                | (simp (disch := omega) only [← nI_0, nI_leI, nI_ltI, nI_eq, not_true_eq_false, not_false_eq_true] at h43; omega)
                | contradiction
                | exact absurd h43 (Int32.not_lt.mpr (by assumption))
                | exact absurd h43 (Int32.not_le.mpr (by assumption))
                | exact absurd h43 (by decide)
                | exact absurd (by decide) h43
                | ( try simp (disch := omega) only [← nI_0, nI_leI, nI_ltI, nI_eq, not_true_eq_false, not_false_eq_true] at h43
                    (try have h43b := zbit_n0.mp h43); (try have h43b := zbit_p0.mp h43)
                    refine z_aload_0 d_Mo_recite_46 ?_
                    refine z_iload_1 d_Mo_recite_47 ?_
                    refine z_iload_2 d_Mo_recite_48 ?_
                    refine z_Vi2 d_Mo_recite_49 k_Mo_354 (by first | assumption | exact zS0_at (by assumption) (by omega) | exact zS0_at rfl (by omega)) (t_Mo_isTrue (by assumption) (by omega) (by omega) (by assumption)) ⟨Nat.le_of_ble_eq_true rfl, Nat.le_of_ble_eq_true rfl, Nat.le_of_ble_eq_true rfl, Nat.le_of_ble_eq_true rfl⟩ (Nat.le_of_ble_eq_true rfl) ?_
                    intro r w hq
                    rcases hq with ⟨⟨hz49, rfl⟩ | ⟨hz49, rfl⟩, rfl⟩
                    · first
                      | contradiction
                      | ( skip
                          refine z_if_eq (tgt := 68) d_Mo_recite_52 (by decide) (fun h => absurd h (by decide)) (fun _ => ?_)
                          refine z_aload_0 d_Mo_recite_55 ?_
                          refine z_getR d_Mo_recite_56 f_Mo_35 (by first | assumption | exact zS0_at (by assumption) (by omega) | exact zS0_at rfl (by omega)) (by first | assumption | exact zS0_at (by assumption) (by omega) | exact zS0_at rfl (by omega)) ?_
                          refine z_bipush (a := nI 42) d_Mo_recite_59 (by decide) ?_
                          refine z_iload_1 d_Mo_recite_61 ?_
                          first | refine z_iaddN d_Mo_recite_62 ?_ | refine z_iadd d_Mo_recite_62 ?_
                          first | refine z_ialdNv d_Mo_recite_63 (by first | assumption | exact zS0_at (by assumption) (by omega) | exact zS0_at rfl (by omega)) (by omega) (by first | decide | omega) (by first | assumption | ((try simp (disch := omega) only [zu_same, zu_ne, zcp_ne, zfl_ne]); first | assumption | rfl)) ?_ | refine z_iald d_Mo_recite_63 (by first | assumption | exact zS0_at (by assumption) (by omega) | exact zS0_at rfl (by omega)) (by first | assumption | exact zS0_at (by assumption) (by omega) | exact zS0_at rfl (by omega)) ?_
                          refine z_iload_2 d_Mo_recite_64 ?_
                          refine z_icmp_ne (tgt := 75) d_Mo_recite_65 (by decide) (fun h65 => ?_) (fun h65 => ?_)
                          · first
                            | (simp (disch := omega) only [← nI_0, nI_leI, nI_ltI, nI_eq, not_true_eq_false, not_false_eq_true] at h65; done)
                            | (simp (disch := omega) only [← nI_0, nI_leI, nI_ltI, nI_eq, not_true_eq_false, not_false_eq_true] at h65; omega)
                            | contradiction
                            | exact absurd h65 (Int32.not_lt.mpr (by assumption))
                            | exact absurd h65 (Int32.not_le.mpr (by assumption))
                            | exact absurd h65 (by decide)
                            | exact absurd (by decide) h65
                            | ( try simp (disch := omega) only [← nI_0, nI_leI, nI_ltI, nI_eq, not_true_eq_false, not_false_eq_true] at h65
                                (try have h65b := zbit_n0.mp h65); (try have h65b := zbit_p0.mp h65)
                                refine z_aload_0 d_Mo_recite_75 ?_
                                refine z_getR d_Mo_recite_76 f_Mo_35 (by first | assumption | exact zS0_at (by assumption) (by omega) | exact zS0_at rfl (by omega)) (by first | assumption | exact zS0_at (by assumption) (by omega) | exact zS0_at rfl (by omega)) ?_
                                refine z_bipush (a := nI 42) d_Mo_recite_79 (by decide) ?_
                                refine z_iload_1 d_Mo_recite_81 ?_
                                first | refine z_iaddN d_Mo_recite_82 ?_ | refine z_iadd d_Mo_recite_82 ?_
                                refine z_iload_2 d_Mo_recite_83 ?_
                                first | refine z_iastN d_Mo_recite_84 (by first | assumption | exact zS0_at (by assumption) (by omega) | exact zS0_at rfl (by omega)) (by omega) (by first | decide | omega) ?_ | refine z_iast d_Mo_recite_84 (by first | assumption | exact zS0_at (by assumption) (by omega) | exact zS0_at rfl (by omega)) (by first | assumption | exact zS0_at (by assumption) (by omega) | exact zS0_at rfl (by omega)) ?_
                                refine z_aload_0 d_Mo_recite_85 ?_
                                refine z_getR d_Mo_recite_86 f_Mo_35 (by first | assumption | exact zS0_at (by assumption) (by omega) | exact zS0_at rfl (by omega)) (by first | assumption | exact zS0_at (by assumption) (by omega) | exact zS0_at rfl (by omega)) ?_
                                refine z_bipush (a := nI 69) d_Mo_recite_89 (by decide) ?_
                                refine z_iload_1 d_Mo_recite_91 ?_
                                first | refine z_iaddN d_Mo_recite_92 ?_ | refine z_iadd d_Mo_recite_92 ?_
                                first | refine z_dup2 rfl rfl d_Mo_recite_93 ?_ | refine z_dup2l rfl d_Mo_recite_93 ?_
                                first | refine z_ialdNv d_Mo_recite_94 (by first | assumption | exact zS0_at (by assumption) (by omega) | exact zS0_at rfl (by omega)) (by omega) (by first | decide | omega) (by first | assumption | ((try simp (disch := omega) only [zu_same, zu_ne, zcp_ne, zfl_ne]); first | assumption | rfl)) ?_ | refine z_iald d_Mo_recite_94 (by first | assumption | exact zS0_at (by assumption) (by omega) | exact zS0_at rfl (by omega)) (by first | assumption | exact zS0_at (by assumption) (by omega) | exact zS0_at rfl (by omega)) ?_
                                refine z_iconst (a := nI 1) d_Mo_recite_95 (by decide) ?_
                                refine z_iload_2 d_Mo_recite_96 ?_
                                refine z_ishl d_Mo_recite_97 ?_
                                refine z_ior d_Mo_recite_98 ?_
                                first | refine z_iastN d_Mo_recite_99 (by first | assumption | exact zS0_at (by assumption) (by omega) | exact zS0_at rfl (by omega)) (by omega) (by first | decide | omega) ?_ | refine z_iast d_Mo_recite_99 (by first | assumption | exact zS0_at (by assumption) (by omega) | exact zS0_at rfl (by omega)) (by first | assumption | exact zS0_at (by assumption) (by omega) | exact zS0_at rfl (by omega)) ?_
                                refine z_iconst (a := nI 1) d_Mo_recite_100 (by decide) ?_
                                refine z_retz d_Mo_recite_101 (by first | exact zb0 | exact zb1 | assumption) ?_
                                exact ⟨by first | rfl | assumption | (rw [e150]), _, _, rfl, (by repeat (first | exact h1 | refine mqF_z ?_ (by decide))), mqJ_r, (by first | exact zu_same _ _ _ _ | exact h0)⟩)
                          · first
                            | (simp (disch := omega) only [← nI_0, nI_leI, nI_ltI, nI_eq, not_true_eq_false, not_false_eq_true] at h65; done)
                            | (simp (disch := omega) only [← nI_0, nI_leI, nI_ltI, nI_eq, not_true_eq_false, not_false_eq_true] at h65; omega)
                            | contradiction
                            | exact absurd h65 (Int32.not_lt.mpr (by assumption))
                            | exact absurd h65 (Int32.not_le.mpr (by assumption))
                            | exact absurd h65 (by decide)
                            | exact absurd (by decide) h65
                            | ( try simp (disch := omega) only [← nI_0, nI_leI, nI_ltI, nI_eq, not_true_eq_false, not_false_eq_true] at h65
                                (try have h65b := zbit_n0.mp h65); (try have h65b := zbit_p0.mp h65)
                                refine z_aload_0 d_Mo_recite_68 ?_
                                refine z_bipush (a := nI 9) d_Mo_recite_69 (by decide) ?_
                                refine z_Vi1 d_Mo_recite_71 k_Mo_85 (by first | assumption | exact zS0_at (by assumption) (by omega) | exact zS0_at rfl (by omega)) (t_Mo_no (by assumption)) ⟨Nat.le_of_ble_eq_true rfl, Nat.le_of_ble_eq_true rfl, Nat.le_of_ble_eq_true rfl, Nat.le_of_ble_eq_true rfl⟩ (Nat.le_of_ble_eq_true rfl) ?_
                                intro r w hq
                                obtain ⟨rfl, rfl⟩ := hq
                                refine z_retz d_Mo_recite_74 (by first | exact zb0 | exact zb1 | assumption) ?_
                                exact ⟨by first | rfl | assumption | (rw [e150]), _, _, rfl, (by repeat (first | exact h1 | refine mqF_z ?_ (by decide))), mqJ_r, (by first | exact zu_same _ _ _ _ | exact h0)⟩))
                    · first
                      | contradiction
                      | ( skip
                          refine z_if_eq (tgt := 68) d_Mo_recite_52 (by decide) (fun _ => ?_) (fun h => absurd h (by decide))
                          refine z_aload_0 d_Mo_recite_68 ?_
                          refine z_bipush (a := nI 9) d_Mo_recite_69 (by decide) ?_
                          refine z_Vi1 d_Mo_recite_71 k_Mo_85 (by first | assumption | exact zS0_at (by assumption) (by omega) | exact zS0_at rfl (by omega)) (t_Mo_no (by assumption)) ⟨Nat.le_of_ble_eq_true rfl, Nat.le_of_ble_eq_true rfl, Nat.le_of_ble_eq_true rfl, Nat.le_of_ble_eq_true rfl⟩ (Nat.le_of_ble_eq_true rfl) ?_
                          intro r w hq
                          obtain ⟨rfl, rfl⟩ := hq
                          refine z_retz d_Mo_recite_74 (by first | exact zb0 | exact zb1 | assumption) ?_
                          exact ⟨by first | rfl | assumption | (rw [e150]), _, _, rfl, (by repeat (first | exact h1 | refine mqF_z ?_ (by decide))), mqJ_r, (by first | exact zu_same _ _ _ _ | exact h0)⟩)))
        · first
          | contradiction
          | ( skip
              refine z_if_ne (tgt := 33) d_Mo_recite_24 (by decide) (fun h => absurd h (by decide)) (fun _ => ?_)
              refine z_aload_0 d_Mo_recite_27 ?_
              refine z_iconst (a := nI 2) d_Mo_recite_28 (by decide) ?_
              refine z_Vi1 d_Mo_recite_29 k_Mo_85 (by first | assumption | exact zS0_at (by assumption) (by omega) | exact zS0_at rfl (by omega)) (t_Mo_no (by assumption)) ⟨Nat.le_of_ble_eq_true rfl, Nat.le_of_ble_eq_true rfl, Nat.le_of_ble_eq_true rfl, Nat.le_of_ble_eq_true rfl⟩ (Nat.le_of_ble_eq_true rfl) ?_
              intro r w hq
              obtain ⟨rfl, rfl⟩ := hq
              refine z_retz d_Mo_recite_32 (by first | exact zb0 | exact zb1 | assumption) ?_
              exact ⟨by first | rfl | assumption | (rw [e150]), _, _, rfl, (by repeat (first | exact h1 | refine mqF_z ?_ (by decide))), mqJ_r, (by first | exact zu_same _ _ _ _ | exact h0)⟩))
  · first
    | contradiction
    | ( skip
        refine z_if_eq (tgt := 27) d_Mo_recite_15 (by decide) (fun _ => ?_) (fun h => absurd h (by decide))
        refine z_aload_0 d_Mo_recite_27 ?_
        refine z_iconst (a := nI 2) d_Mo_recite_28 (by decide) ?_
        refine z_Vi1 d_Mo_recite_29 k_Mo_85 (by first | assumption | exact zS0_at (by assumption) (by omega) | exact zS0_at rfl (by omega)) (t_Mo_no (by assumption)) ⟨Nat.le_of_ble_eq_true rfl, Nat.le_of_ble_eq_true rfl, Nat.le_of_ble_eq_true rfl, Nat.le_of_ble_eq_true rfl⟩ (Nat.le_of_ble_eq_true rfl) ?_
        intro r w hq
        obtain ⟨rfl, rfl⟩ := hq
        refine z_retz d_Mo_recite_32 (by first | exact zb0 | exact zb1 | assumption) ?_
        exact ⟨by first | rfl | assumption | (rw [e150]), _, _, rfl, (by repeat (first | exact h1 | refine mqF_z ?_ (by decide))), mqJ_r, (by first | exact zu_same _ _ _ _ | exact h0)⟩)
theorem t_Mo_recite_i {t q k : Nat} (M : modOk P S) (N : modIn I nt np nl nn) (ht : t < nn) (hq : q < np) (hk : I 150 (33 + t) = nI k) (hk2 : k < nt) (hf : I 150 (60 + t) = nI 0) (hn : zbit (I 150 (12 + q)) k) (hi : I 150 (42 + t) = nI q) : zEi G y_Mo_recite prog_14_method_94_code 3 (some .boolean) 4 [.ref 145, .int (nI t), .int (nI q)] (I, J, P, S) (fun r w => r = nI 0 ∧ mW I J P S 9 w) := by
  obtain ⟨M0, ⟨M4, M4s⟩, ⟨M5, M5s⟩, ⟨M6, M6s⟩, ⟨M7, M7s⟩, ⟨M20, M20s⟩, ⟨M21, M21s⟩, ⟨M22, M22s⟩, ⟨M26, M26s⟩, ⟨M27, M27s⟩, ⟨M28, M28s⟩, ⟨M30, M30s⟩, ⟨M34, M34s⟩, ⟨M36, M36s⟩, ⟨M37, M37s⟩⟩ := id M
  obtain ⟨I1, hI1, N1, h1, h0, e150, er, ek⟩ := mo_beg N
  obtain ⟨⟨m0, m0b⟩, ⟨m1, m1b⟩, ⟨m2, m2b⟩, ⟨m3, m3b⟩, mof, mon⟩ := id N1
  have hD : mD I I1 := ⟨h1, h0, e150, er⟩
  refine zEi_of (lv := [some (.ref 145), some (.int (nI t)), some (.int (nI q))]) (by decide) rfl (Nat.le_of_ble_eq_true rfl) ?_
  refine z_aload_0 d_Mo_recite_0 ?_
  refine z_iconst (a := nI 0) d_Mo_recite_1 (by decide) ?_
  refine z_putI d_Mo_recite_2 f_Mo_70 (by first | assumption | exact zS0_at (by assumption) (by omega) | exact zS0_at rfl (by omega)) ?_
  refine z_aload_0 d_Mo_recite_5 ?_
  refine z_iconst (a := nI 0) d_Mo_recite_6 (by decide) ?_
  refine z_putI d_Mo_recite_7 f_Mo_73 (by first | assumption | exact zS0_at (by assumption) (by omega) | exact zS0_at rfl (by omega)) ?_
  rw [← hI1]
  have hz : zin (nI t) nn := ⟨t, by omega, rfl⟩
  have hzq : zin (nI q) np := ⟨q, by omega, rfl⟩
  have hk1 : I1 150 (33 + t) = nI k := by rw [e150, hk]
  have hf1 : I1 150 (60 + t) = nI 0 := by rw [e150, hf]
  have hn1 : zbit (I1 150 (12 + q)) k := by rw [e150]; exact hn
  have hi1 : I1 150 (42 + t) = nI q := by rw [e150]; exact hi
  refine z_aload_0 d_Mo_recite_10 ?_
  refine z_iload_1 d_Mo_recite_11 ?_
  refine z_Vi1 d_Mo_recite_12 k_Mo_344 (by first | assumption | exact zS0_at (by assumption) (by omega) | exact zS0_at rfl (by omega)) (t_Mo_isTinAt M N1) ⟨Nat.le_of_ble_eq_true rfl, Nat.le_of_ble_eq_true rfl, Nat.le_of_ble_eq_true rfl, Nat.le_of_ble_eq_true rfl⟩ (Nat.le_of_ble_eq_true rfl) ?_
  intro r w hq
  rcases hq with ⟨⟨hz12, rfl⟩ | ⟨hz12, rfl⟩, rfl⟩
  · first
    | contradiction
    | ( skip
        refine z_if_eq (tgt := 27) d_Mo_recite_15 (by decide) (fun h => absurd h (by decide)) (fun _ => ?_)
        refine z_aload_0 d_Mo_recite_18 ?_
        refine z_iload_2 d_Mo_recite_19 ?_
        refine z_i2l d_Mo_recite_20 ?_
        refine z_Vi1 d_Mo_recite_21 k_Mo_336 (by first | assumption | exact zS0_at (by assumption) (by omega) | exact zS0_at rfl (by omega)) (t_Mo_isPersonAtI M N1) ⟨Nat.le_of_ble_eq_true rfl, Nat.le_of_ble_eq_true rfl, Nat.le_of_ble_eq_true rfl, Nat.le_of_ble_eq_true rfl⟩ (Nat.le_of_ble_eq_true rfl) ?_
        intro r w hq
        rcases hq with ⟨⟨hz21, rfl⟩ | ⟨hz21, rfl⟩, rfl⟩
        · first
          | contradiction
          | ( skip
              refine z_if_ne (tgt := 33) d_Mo_recite_24 (by decide) (fun _ => ?_) (fun h => absurd h (by decide))
              refine z_aload_0 d_Mo_recite_33 ?_
              refine z_getR d_Mo_recite_34 f_Mo_35 (by first | assumption | exact zS0_at (by assumption) (by omega) | exact zS0_at rfl (by omega)) (by first | assumption | exact zS0_at (by assumption) (by omega) | exact zS0_at rfl (by omega)) ?_
              refine z_bipush (a := nI 60) d_Mo_recite_37 (by decide) ?_
              refine z_iload_1 d_Mo_recite_39 ?_
              first | refine z_iaddN d_Mo_recite_40 ?_ | refine z_iadd d_Mo_recite_40 ?_
              first | refine z_ialdNv d_Mo_recite_41 (by first | assumption | exact zS0_at (by assumption) (by omega) | exact zS0_at rfl (by omega)) (by omega) (by first | decide | omega) (by first | assumption | ((try simp (disch := omega) only [zu_same, zu_ne, zcp_ne, zfl_ne]); first | assumption | rfl)) ?_ | refine z_iald d_Mo_recite_41 (by first | assumption | exact zS0_at (by assumption) (by omega) | exact zS0_at rfl (by omega)) (by first | assumption | exact zS0_at (by assumption) (by omega) | exact zS0_at rfl (by omega)) ?_
              refine z_iconst (a := nI 1) d_Mo_recite_42 (by decide) ?_
              refine z_icmp_eq (tgt := 68) d_Mo_recite_43 (by decide) (fun h43 => ?_) (fun h43 => ?_)
              · first
                | (simp (disch := omega) only [← nI_0, nI_leI, nI_ltI, nI_eq, not_true_eq_false, not_false_eq_true] at h43; done)
                | (simp (disch := omega) only [← nI_0, nI_leI, nI_ltI, nI_eq, not_true_eq_false, not_false_eq_true] at h43; omega)
                | contradiction
                | exact absurd h43 (Int32.not_lt.mpr (by assumption))
                | exact absurd h43 (Int32.not_le.mpr (by assumption))
                | exact absurd h43 (by decide)
                | exact absurd (by decide) h43
                | ( try simp (disch := omega) only [← nI_0, nI_leI, nI_ltI, nI_eq, not_true_eq_false, not_false_eq_true] at h43
                    (try have h43b := zbit_n0.mp h43); (try have h43b := zbit_p0.mp h43)
                    refine z_aload_0 d_Mo_recite_68 ?_
                    refine z_bipush (a := nI 9) d_Mo_recite_69 (by decide) ?_
                    refine z_Vi1 d_Mo_recite_71 k_Mo_85 (by first | assumption | exact zS0_at (by assumption) (by omega) | exact zS0_at rfl (by omega)) (t_Mo_no (by assumption)) ⟨Nat.le_of_ble_eq_true rfl, Nat.le_of_ble_eq_true rfl, Nat.le_of_ble_eq_true rfl, Nat.le_of_ble_eq_true rfl⟩ (Nat.le_of_ble_eq_true rfl) ?_
                    intro r w hq
                    obtain ⟨rfl, rfl⟩ := hq
                    refine z_retz d_Mo_recite_74 (by first | exact zb0 | exact zb1 | assumption) ?_
                    exact ⟨by first | rfl | assumption | (rw [e150]), _, _, rfl, (by repeat (first | exact h1 | refine mqF_z ?_ (by decide))), mqJ_r, (by first | exact zu_same _ _ _ _ | exact h0)⟩)
              · first
                | (simp (disch := omega) only [← nI_0, nI_leI, nI_ltI, nI_eq, not_true_eq_false, not_false_eq_true] at h43; done)
                | (simp (disch := omega) only [← nI_0, nI_leI, nI_ltI, nI_eq, not_true_eq_false, not_false_eq_true] at h43; omega)
                | contradiction
                | exact absurd h43 (Int32.not_lt.mpr (by assumption))
                | exact absurd h43 (Int32.not_le.mpr (by assumption))
                | exact absurd h43 (by decide)
                | exact absurd (by decide) h43
                | ( try simp (disch := omega) only [← nI_0, nI_leI, nI_ltI, nI_eq, not_true_eq_false, not_false_eq_true] at h43
                    (try have h43b := zbit_n0.mp h43); (try have h43b := zbit_p0.mp h43)
                    refine z_aload_0 d_Mo_recite_46 ?_
                    refine z_iload_1 d_Mo_recite_47 ?_
                    refine z_iload_2 d_Mo_recite_48 ?_
                    refine z_Vi2 d_Mo_recite_49 k_Mo_354 (by first | assumption | exact zS0_at (by assumption) (by omega) | exact zS0_at rfl (by omega)) (t_Mo_isTrue (by assumption) (by omega) (by omega) (by assumption)) ⟨Nat.le_of_ble_eq_true rfl, Nat.le_of_ble_eq_true rfl, Nat.le_of_ble_eq_true rfl, Nat.le_of_ble_eq_true rfl⟩ (Nat.le_of_ble_eq_true rfl) ?_
                    intro r w hq
                    rcases hq with ⟨⟨hz49, rfl⟩ | ⟨hz49, rfl⟩, rfl⟩
                    · first
                      | contradiction
                      | ( skip
                          refine z_if_eq (tgt := 68) d_Mo_recite_52 (by decide) (fun h => absurd h (by decide)) (fun _ => ?_)
                          refine z_aload_0 d_Mo_recite_55 ?_
                          refine z_getR d_Mo_recite_56 f_Mo_35 (by first | assumption | exact zS0_at (by assumption) (by omega) | exact zS0_at rfl (by omega)) (by first | assumption | exact zS0_at (by assumption) (by omega) | exact zS0_at rfl (by omega)) ?_
                          refine z_bipush (a := nI 42) d_Mo_recite_59 (by decide) ?_
                          refine z_iload_1 d_Mo_recite_61 ?_
                          first | refine z_iaddN d_Mo_recite_62 ?_ | refine z_iadd d_Mo_recite_62 ?_
                          first | refine z_ialdNv d_Mo_recite_63 (by first | assumption | exact zS0_at (by assumption) (by omega) | exact zS0_at rfl (by omega)) (by omega) (by first | decide | omega) (by first | assumption | ((try simp (disch := omega) only [zu_same, zu_ne, zcp_ne, zfl_ne]); first | assumption | rfl)) ?_ | refine z_iald d_Mo_recite_63 (by first | assumption | exact zS0_at (by assumption) (by omega) | exact zS0_at rfl (by omega)) (by first | assumption | exact zS0_at (by assumption) (by omega) | exact zS0_at rfl (by omega)) ?_
                          refine z_iload_2 d_Mo_recite_64 ?_
                          refine z_icmp_ne (tgt := 75) d_Mo_recite_65 (by decide) (fun h65 => ?_) (fun h65 => ?_)
                          · first
                            | (simp (disch := omega) only [← nI_0, nI_leI, nI_ltI, nI_eq, not_true_eq_false, not_false_eq_true] at h65; done)
                            | (simp (disch := omega) only [← nI_0, nI_leI, nI_ltI, nI_eq, not_true_eq_false, not_false_eq_true] at h65; omega)
                            | contradiction
                            | exact absurd h65 (Int32.not_lt.mpr (by assumption))
                            | exact absurd h65 (Int32.not_le.mpr (by assumption))
                            | exact absurd h65 (by decide)
                            | exact absurd (by decide) h65
                            | ( try simp (disch := omega) only [← nI_0, nI_leI, nI_ltI, nI_eq, not_true_eq_false, not_false_eq_true] at h65
                                (try have h65b := zbit_n0.mp h65); (try have h65b := zbit_p0.mp h65)
                                refine z_aload_0 d_Mo_recite_75 ?_
                                refine z_getR d_Mo_recite_76 f_Mo_35 (by first | assumption | exact zS0_at (by assumption) (by omega) | exact zS0_at rfl (by omega)) (by first | assumption | exact zS0_at (by assumption) (by omega) | exact zS0_at rfl (by omega)) ?_
                                refine z_bipush (a := nI 42) d_Mo_recite_79 (by decide) ?_
                                refine z_iload_1 d_Mo_recite_81 ?_
                                first | refine z_iaddN d_Mo_recite_82 ?_ | refine z_iadd d_Mo_recite_82 ?_
                                refine z_iload_2 d_Mo_recite_83 ?_
                                first | refine z_iastN d_Mo_recite_84 (by first | assumption | exact zS0_at (by assumption) (by omega) | exact zS0_at rfl (by omega)) (by omega) (by first | decide | omega) ?_ | refine z_iast d_Mo_recite_84 (by first | assumption | exact zS0_at (by assumption) (by omega) | exact zS0_at rfl (by omega)) (by first | assumption | exact zS0_at (by assumption) (by omega) | exact zS0_at rfl (by omega)) ?_
                                refine z_aload_0 d_Mo_recite_85 ?_
                                refine z_getR d_Mo_recite_86 f_Mo_35 (by first | assumption | exact zS0_at (by assumption) (by omega) | exact zS0_at rfl (by omega)) (by first | assumption | exact zS0_at (by assumption) (by omega) | exact zS0_at rfl (by omega)) ?_
                                refine z_bipush (a := nI 69) d_Mo_recite_89 (by decide) ?_
                                refine z_iload_1 d_Mo_recite_91 ?_
                                first | refine z_iaddN d_Mo_recite_92 ?_ | refine z_iadd d_Mo_recite_92 ?_
                                first | refine z_dup2 rfl rfl d_Mo_recite_93 ?_ | refine z_dup2l rfl d_Mo_recite_93 ?_
                                first | refine z_ialdNv d_Mo_recite_94 (by first | assumption | exact zS0_at (by assumption) (by omega) | exact zS0_at rfl (by omega)) (by omega) (by first | decide | omega) (by first | assumption | ((try simp (disch := omega) only [zu_same, zu_ne, zcp_ne, zfl_ne]); first | assumption | rfl)) ?_ | refine z_iald d_Mo_recite_94 (by first | assumption | exact zS0_at (by assumption) (by omega) | exact zS0_at rfl (by omega)) (by first | assumption | exact zS0_at (by assumption) (by omega) | exact zS0_at rfl (by omega)) ?_
                                refine z_iconst (a := nI 1) d_Mo_recite_95 (by decide) ?_
                                refine z_iload_2 d_Mo_recite_96 ?_
                                refine z_ishl d_Mo_recite_97 ?_
                                refine z_ior d_Mo_recite_98 ?_
                                first | refine z_iastN d_Mo_recite_99 (by first | assumption | exact zS0_at (by assumption) (by omega) | exact zS0_at rfl (by omega)) (by omega) (by first | decide | omega) ?_ | refine z_iast d_Mo_recite_99 (by first | assumption | exact zS0_at (by assumption) (by omega) | exact zS0_at rfl (by omega)) (by first | assumption | exact zS0_at (by assumption) (by omega) | exact zS0_at rfl (by omega)) ?_
                                refine z_iconst (a := nI 1) d_Mo_recite_100 (by decide) ?_
                                refine z_retz d_Mo_recite_101 (by first | exact zb0 | exact zb1 | assumption) ?_
                                exact ⟨by first | rfl | assumption | (rw [e150]), _, _, rfl, (by repeat (first | exact h1 | refine mqF_z ?_ (by decide))), mqJ_r, (by first | exact zu_same _ _ _ _ | exact h0)⟩)
                          · first
                            | (simp (disch := omega) only [← nI_0, nI_leI, nI_ltI, nI_eq, not_true_eq_false, not_false_eq_true] at h65; done)
                            | (simp (disch := omega) only [← nI_0, nI_leI, nI_ltI, nI_eq, not_true_eq_false, not_false_eq_true] at h65; omega)
                            | contradiction
                            | exact absurd h65 (Int32.not_lt.mpr (by assumption))
                            | exact absurd h65 (Int32.not_le.mpr (by assumption))
                            | exact absurd h65 (by decide)
                            | exact absurd (by decide) h65
                            | ( try simp (disch := omega) only [← nI_0, nI_leI, nI_ltI, nI_eq, not_true_eq_false, not_false_eq_true] at h65
                                (try have h65b := zbit_n0.mp h65); (try have h65b := zbit_p0.mp h65)
                                refine z_aload_0 d_Mo_recite_68 ?_
                                refine z_bipush (a := nI 9) d_Mo_recite_69 (by decide) ?_
                                refine z_Vi1 d_Mo_recite_71 k_Mo_85 (by first | assumption | exact zS0_at (by assumption) (by omega) | exact zS0_at rfl (by omega)) (t_Mo_no (by assumption)) ⟨Nat.le_of_ble_eq_true rfl, Nat.le_of_ble_eq_true rfl, Nat.le_of_ble_eq_true rfl, Nat.le_of_ble_eq_true rfl⟩ (Nat.le_of_ble_eq_true rfl) ?_
                                intro r w hq
                                obtain ⟨rfl, rfl⟩ := hq
                                refine z_retz d_Mo_recite_74 (by first | exact zb0 | exact zb1 | assumption) ?_
                                exact ⟨by first | rfl | assumption | (rw [e150]), _, _, rfl, (by repeat (first | exact h1 | refine mqF_z ?_ (by decide))), mqJ_r, (by first | exact zu_same _ _ _ _ | exact h0)⟩))
                    · first
                      | contradiction
                      | ( skip
                          refine z_if_eq (tgt := 68) d_Mo_recite_52 (by decide) (fun _ => ?_) (fun h => absurd h (by decide))
                          refine z_aload_0 d_Mo_recite_68 ?_
                          refine z_bipush (a := nI 9) d_Mo_recite_69 (by decide) ?_
                          refine z_Vi1 d_Mo_recite_71 k_Mo_85 (by first | assumption | exact zS0_at (by assumption) (by omega) | exact zS0_at rfl (by omega)) (t_Mo_no (by assumption)) ⟨Nat.le_of_ble_eq_true rfl, Nat.le_of_ble_eq_true rfl, Nat.le_of_ble_eq_true rfl, Nat.le_of_ble_eq_true rfl⟩ (Nat.le_of_ble_eq_true rfl) ?_
                          intro r w hq
                          obtain ⟨rfl, rfl⟩ := hq
                          refine z_retz d_Mo_recite_74 (by first | exact zb0 | exact zb1 | assumption) ?_
                          exact ⟨by first | rfl | assumption | (rw [e150]), _, _, rfl, (by repeat (first | exact h1 | refine mqF_z ?_ (by decide))), mqJ_r, (by first | exact zu_same _ _ _ _ | exact h0)⟩)))
        · first
          | contradiction
          | ( skip
              refine z_if_ne (tgt := 33) d_Mo_recite_24 (by decide) (fun h => absurd h (by decide)) (fun _ => ?_)
              refine z_aload_0 d_Mo_recite_27 ?_
              refine z_iconst (a := nI 2) d_Mo_recite_28 (by decide) ?_
              refine z_Vi1 d_Mo_recite_29 k_Mo_85 (by first | assumption | exact zS0_at (by assumption) (by omega) | exact zS0_at rfl (by omega)) (t_Mo_no (by assumption)) ⟨Nat.le_of_ble_eq_true rfl, Nat.le_of_ble_eq_true rfl, Nat.le_of_ble_eq_true rfl, Nat.le_of_ble_eq_true rfl⟩ (Nat.le_of_ble_eq_true rfl) ?_
              intro r w hq
              obtain ⟨rfl, rfl⟩ := hq
              refine z_retz d_Mo_recite_32 (by first | exact zb0 | exact zb1 | assumption) ?_
              exact ⟨by first | rfl | assumption | (rw [e150]), _, _, rfl, (by repeat (first | exact h1 | refine mqF_z ?_ (by decide))), mqJ_r, (by first | exact zu_same _ _ _ _ | exact h0)⟩))
  · first
    | contradiction
    | ( skip
        refine z_if_eq (tgt := 27) d_Mo_recite_15 (by decide) (fun _ => ?_) (fun h => absurd h (by decide))
        refine z_aload_0 d_Mo_recite_27 ?_
        refine z_iconst (a := nI 2) d_Mo_recite_28 (by decide) ?_
        refine z_Vi1 d_Mo_recite_29 k_Mo_85 (by first | assumption | exact zS0_at (by assumption) (by omega) | exact zS0_at rfl (by omega)) (t_Mo_no (by assumption)) ⟨Nat.le_of_ble_eq_true rfl, Nat.le_of_ble_eq_true rfl, Nat.le_of_ble_eq_true rfl, Nat.le_of_ble_eq_true rfl⟩ (Nat.le_of_ble_eq_true rfl) ?_
        intro r w hq
        obtain ⟨rfl, rfl⟩ := hq
        refine z_retz d_Mo_recite_32 (by first | exact zb0 | exact zb1 | assumption) ?_
        exact ⟨by first | rfl | assumption | (rw [e150]), _, _, rfl, (by repeat (first | exact h1 | refine mqF_z ?_ (by decide))), mqJ_r, (by first | exact zu_same _ _ _ _ | exact h0)⟩)
theorem t_Mo_recite {t q k : Nat} (M : modOk P S) (N : modIn I nt np nl nn) (ht : t < nn) (hq : q < np) (hk : I 150 (33 + t) = nI k) (hk2 : k < nt) (hf : I 150 (60 + t) = nI 0) (hn : zbit (I 150 (12 + q)) k) (hi : ¬ I 150 (42 + t) = nI q) : zEi G y_Mo_recite prog_14_method_94_code 3 (some .boolean) 4 [.ref 145, .int (nI t), .int (nI q)] (I, J, P, S) (fun r w => r = nI 1 ∧ ∃ I1, mD I I1 ∧ w = (zu (zu I1 150 (42 + t) (nI q)) 150 (69 + t) (I1 150 (69 + t) ||| (nI 1 <<< (nI q &&& 31))), J, P, S)) := by
  obtain ⟨M0, ⟨M4, M4s⟩, ⟨M5, M5s⟩, ⟨M6, M6s⟩, ⟨M7, M7s⟩, ⟨M20, M20s⟩, ⟨M21, M21s⟩, ⟨M22, M22s⟩, ⟨M26, M26s⟩, ⟨M27, M27s⟩, ⟨M28, M28s⟩, ⟨M30, M30s⟩, ⟨M34, M34s⟩, ⟨M36, M36s⟩, ⟨M37, M37s⟩⟩ := id M
  obtain ⟨I1, hI1, N1, h1, h0, e150, er, ek⟩ := mo_beg N
  obtain ⟨⟨m0, m0b⟩, ⟨m1, m1b⟩, ⟨m2, m2b⟩, ⟨m3, m3b⟩, mof, mon⟩ := id N1
  have hD : mD I I1 := ⟨h1, h0, e150, er⟩
  refine zEi_of (lv := [some (.ref 145), some (.int (nI t)), some (.int (nI q))]) (by decide) rfl (Nat.le_of_ble_eq_true rfl) ?_
  refine z_aload_0 d_Mo_recite_0 ?_
  refine z_iconst (a := nI 0) d_Mo_recite_1 (by decide) ?_
  refine z_putI d_Mo_recite_2 f_Mo_70 (by first | assumption | exact zS0_at (by assumption) (by omega) | exact zS0_at rfl (by omega)) ?_
  refine z_aload_0 d_Mo_recite_5 ?_
  refine z_iconst (a := nI 0) d_Mo_recite_6 (by decide) ?_
  refine z_putI d_Mo_recite_7 f_Mo_73 (by first | assumption | exact zS0_at (by assumption) (by omega) | exact zS0_at rfl (by omega)) ?_
  rw [← hI1]
  have hz : zin (nI t) nn := ⟨t, by omega, rfl⟩
  have hzq : zin (nI q) np := ⟨q, by omega, rfl⟩
  have hk1 : I1 150 (33 + t) = nI k := by rw [e150, hk]
  have hf1 : I1 150 (60 + t) = nI 0 := by rw [e150, hf]
  have hn1 : zbit (I1 150 (12 + q)) k := by rw [e150]; exact hn
  have hi1 : ¬ I1 150 (42 + t) = nI q := by rw [e150]; exact hi
  refine z_aload_0 d_Mo_recite_10 ?_
  refine z_iload_1 d_Mo_recite_11 ?_
  refine z_Vi1 d_Mo_recite_12 k_Mo_344 (by first | assumption | exact zS0_at (by assumption) (by omega) | exact zS0_at rfl (by omega)) (t_Mo_isTinAt M N1) ⟨Nat.le_of_ble_eq_true rfl, Nat.le_of_ble_eq_true rfl, Nat.le_of_ble_eq_true rfl, Nat.le_of_ble_eq_true rfl⟩ (Nat.le_of_ble_eq_true rfl) ?_
  intro r w hq
  rcases hq with ⟨⟨hz12, rfl⟩ | ⟨hz12, rfl⟩, rfl⟩
  · first
    | contradiction
    | ( skip
        refine z_if_eq (tgt := 27) d_Mo_recite_15 (by decide) (fun h => absurd h (by decide)) (fun _ => ?_)
        refine z_aload_0 d_Mo_recite_18 ?_
        refine z_iload_2 d_Mo_recite_19 ?_
        refine z_i2l d_Mo_recite_20 ?_
        refine z_Vi1 d_Mo_recite_21 k_Mo_336 (by first | assumption | exact zS0_at (by assumption) (by omega) | exact zS0_at rfl (by omega)) (t_Mo_isPersonAtI M N1) ⟨Nat.le_of_ble_eq_true rfl, Nat.le_of_ble_eq_true rfl, Nat.le_of_ble_eq_true rfl, Nat.le_of_ble_eq_true rfl⟩ (Nat.le_of_ble_eq_true rfl) ?_
        intro r w hq
        rcases hq with ⟨⟨hz21, rfl⟩ | ⟨hz21, rfl⟩, rfl⟩
        · first
          | contradiction
          | ( skip
              refine z_if_ne (tgt := 33) d_Mo_recite_24 (by decide) (fun _ => ?_) (fun h => absurd h (by decide))
              refine z_aload_0 d_Mo_recite_33 ?_
              refine z_getR d_Mo_recite_34 f_Mo_35 (by first | assumption | exact zS0_at (by assumption) (by omega) | exact zS0_at rfl (by omega)) (by first | assumption | exact zS0_at (by assumption) (by omega) | exact zS0_at rfl (by omega)) ?_
              refine z_bipush (a := nI 60) d_Mo_recite_37 (by decide) ?_
              refine z_iload_1 d_Mo_recite_39 ?_
              first | refine z_iaddN d_Mo_recite_40 ?_ | refine z_iadd d_Mo_recite_40 ?_
              first | refine z_ialdNv d_Mo_recite_41 (by first | assumption | exact zS0_at (by assumption) (by omega) | exact zS0_at rfl (by omega)) (by omega) (by first | decide | omega) (by first | assumption | ((try simp (disch := omega) only [zu_same, zu_ne, zcp_ne, zfl_ne]); first | assumption | rfl)) ?_ | refine z_iald d_Mo_recite_41 (by first | assumption | exact zS0_at (by assumption) (by omega) | exact zS0_at rfl (by omega)) (by first | assumption | exact zS0_at (by assumption) (by omega) | exact zS0_at rfl (by omega)) ?_
              refine z_iconst (a := nI 1) d_Mo_recite_42 (by decide) ?_
              refine z_icmp_eq (tgt := 68) d_Mo_recite_43 (by decide) (fun h43 => ?_) (fun h43 => ?_)
              · first
                | (simp (disch := omega) only [← nI_0, nI_leI, nI_ltI, nI_eq, not_true_eq_false, not_false_eq_true] at h43; done)
                | (simp (disch := omega) only [← nI_0, nI_leI, nI_ltI, nI_eq, not_true_eq_false, not_false_eq_true] at h43; omega)
                | contradiction
                | exact absurd h43 (Int32.not_lt.mpr (by assumption))
                | exact absurd h43 (Int32.not_le.mpr (by assumption))
                | exact absurd h43 (by decide)
                | exact absurd (by decide) h43
                | ( try simp (disch := omega) only [← nI_0, nI_leI, nI_ltI, nI_eq, not_true_eq_false, not_false_eq_true] at h43
                    (try have h43b := zbit_n0.mp h43); (try have h43b := zbit_p0.mp h43)
                    refine z_aload_0 d_Mo_recite_68 ?_
                    refine z_bipush (a := nI 9) d_Mo_recite_69 (by decide) ?_
                    refine z_Vi1 d_Mo_recite_71 k_Mo_85 (by first | assumption | exact zS0_at (by assumption) (by omega) | exact zS0_at rfl (by omega)) (t_Mo_no (by assumption)) ⟨Nat.le_of_ble_eq_true rfl, Nat.le_of_ble_eq_true rfl, Nat.le_of_ble_eq_true rfl, Nat.le_of_ble_eq_true rfl⟩ (Nat.le_of_ble_eq_true rfl) ?_
                    intro r w hq
                    obtain ⟨rfl, rfl⟩ := hq
                    refine z_retz d_Mo_recite_74 (by first | exact zb0 | exact zb1 | assumption) ?_
                    exact ⟨rfl, I1, hD, by simp (disch := omega) only [zu_ne]⟩)
              · first
                | (simp (disch := omega) only [← nI_0, nI_leI, nI_ltI, nI_eq, not_true_eq_false, not_false_eq_true] at h43; done)
                | (simp (disch := omega) only [← nI_0, nI_leI, nI_ltI, nI_eq, not_true_eq_false, not_false_eq_true] at h43; omega)
                | contradiction
                | exact absurd h43 (Int32.not_lt.mpr (by assumption))
                | exact absurd h43 (Int32.not_le.mpr (by assumption))
                | exact absurd h43 (by decide)
                | exact absurd (by decide) h43
                | ( try simp (disch := omega) only [← nI_0, nI_leI, nI_ltI, nI_eq, not_true_eq_false, not_false_eq_true] at h43
                    (try have h43b := zbit_n0.mp h43); (try have h43b := zbit_p0.mp h43)
                    refine z_aload_0 d_Mo_recite_46 ?_
                    refine z_iload_1 d_Mo_recite_47 ?_
                    refine z_iload_2 d_Mo_recite_48 ?_
                    refine z_Vi2 d_Mo_recite_49 k_Mo_354 (by first | assumption | exact zS0_at (by assumption) (by omega) | exact zS0_at rfl (by omega)) (t_Mo_isTrue (by assumption) (by omega) (by omega) (by assumption)) ⟨Nat.le_of_ble_eq_true rfl, Nat.le_of_ble_eq_true rfl, Nat.le_of_ble_eq_true rfl, Nat.le_of_ble_eq_true rfl⟩ (Nat.le_of_ble_eq_true rfl) ?_
                    intro r w hq
                    rcases hq with ⟨⟨hz49, rfl⟩ | ⟨hz49, rfl⟩, rfl⟩
                    · first
                      | contradiction
                      | ( skip
                          refine z_if_eq (tgt := 68) d_Mo_recite_52 (by decide) (fun h => absurd h (by decide)) (fun _ => ?_)
                          refine z_aload_0 d_Mo_recite_55 ?_
                          refine z_getR d_Mo_recite_56 f_Mo_35 (by first | assumption | exact zS0_at (by assumption) (by omega) | exact zS0_at rfl (by omega)) (by first | assumption | exact zS0_at (by assumption) (by omega) | exact zS0_at rfl (by omega)) ?_
                          refine z_bipush (a := nI 42) d_Mo_recite_59 (by decide) ?_
                          refine z_iload_1 d_Mo_recite_61 ?_
                          first | refine z_iaddN d_Mo_recite_62 ?_ | refine z_iadd d_Mo_recite_62 ?_
                          first | refine z_ialdNv d_Mo_recite_63 (by first | assumption | exact zS0_at (by assumption) (by omega) | exact zS0_at rfl (by omega)) (by omega) (by first | decide | omega) (by first | assumption | ((try simp (disch := omega) only [zu_same, zu_ne, zcp_ne, zfl_ne]); first | assumption | rfl)) ?_ | refine z_iald d_Mo_recite_63 (by first | assumption | exact zS0_at (by assumption) (by omega) | exact zS0_at rfl (by omega)) (by first | assumption | exact zS0_at (by assumption) (by omega) | exact zS0_at rfl (by omega)) ?_
                          refine z_iload_2 d_Mo_recite_64 ?_
                          refine z_icmp_ne (tgt := 75) d_Mo_recite_65 (by decide) (fun h65 => ?_) (fun h65 => ?_)
                          · first
                            | (simp (disch := omega) only [← nI_0, nI_leI, nI_ltI, nI_eq, not_true_eq_false, not_false_eq_true] at h65; done)
                            | (simp (disch := omega) only [← nI_0, nI_leI, nI_ltI, nI_eq, not_true_eq_false, not_false_eq_true] at h65; omega)
                            | contradiction
                            | exact absurd h65 (Int32.not_lt.mpr (by assumption))
                            | exact absurd h65 (Int32.not_le.mpr (by assumption))
                            | exact absurd h65 (by decide)
                            | exact absurd (by decide) h65
                            | ( try simp (disch := omega) only [← nI_0, nI_leI, nI_ltI, nI_eq, not_true_eq_false, not_false_eq_true] at h65
                                (try have h65b := zbit_n0.mp h65); (try have h65b := zbit_p0.mp h65)
                                refine z_aload_0 d_Mo_recite_75 ?_
                                refine z_getR d_Mo_recite_76 f_Mo_35 (by first | assumption | exact zS0_at (by assumption) (by omega) | exact zS0_at rfl (by omega)) (by first | assumption | exact zS0_at (by assumption) (by omega) | exact zS0_at rfl (by omega)) ?_
                                refine z_bipush (a := nI 42) d_Mo_recite_79 (by decide) ?_
                                refine z_iload_1 d_Mo_recite_81 ?_
                                first | refine z_iaddN d_Mo_recite_82 ?_ | refine z_iadd d_Mo_recite_82 ?_
                                refine z_iload_2 d_Mo_recite_83 ?_
                                first | refine z_iastN d_Mo_recite_84 (by first | assumption | exact zS0_at (by assumption) (by omega) | exact zS0_at rfl (by omega)) (by omega) (by first | decide | omega) ?_ | refine z_iast d_Mo_recite_84 (by first | assumption | exact zS0_at (by assumption) (by omega) | exact zS0_at rfl (by omega)) (by first | assumption | exact zS0_at (by assumption) (by omega) | exact zS0_at rfl (by omega)) ?_
                                refine z_aload_0 d_Mo_recite_85 ?_
                                refine z_getR d_Mo_recite_86 f_Mo_35 (by first | assumption | exact zS0_at (by assumption) (by omega) | exact zS0_at rfl (by omega)) (by first | assumption | exact zS0_at (by assumption) (by omega) | exact zS0_at rfl (by omega)) ?_
                                refine z_bipush (a := nI 69) d_Mo_recite_89 (by decide) ?_
                                refine z_iload_1 d_Mo_recite_91 ?_
                                first | refine z_iaddN d_Mo_recite_92 ?_ | refine z_iadd d_Mo_recite_92 ?_
                                first | refine z_dup2 rfl rfl d_Mo_recite_93 ?_ | refine z_dup2l rfl d_Mo_recite_93 ?_
                                first | refine z_ialdNv d_Mo_recite_94 (by first | assumption | exact zS0_at (by assumption) (by omega) | exact zS0_at rfl (by omega)) (by omega) (by first | decide | omega) (by first | assumption | ((try simp (disch := omega) only [zu_same, zu_ne, zcp_ne, zfl_ne]); first | assumption | rfl)) ?_ | refine z_iald d_Mo_recite_94 (by first | assumption | exact zS0_at (by assumption) (by omega) | exact zS0_at rfl (by omega)) (by first | assumption | exact zS0_at (by assumption) (by omega) | exact zS0_at rfl (by omega)) ?_
                                refine z_iconst (a := nI 1) d_Mo_recite_95 (by decide) ?_
                                refine z_iload_2 d_Mo_recite_96 ?_
                                refine z_ishl d_Mo_recite_97 ?_
                                refine z_ior d_Mo_recite_98 ?_
                                first | refine z_iastN d_Mo_recite_99 (by first | assumption | exact zS0_at (by assumption) (by omega) | exact zS0_at rfl (by omega)) (by omega) (by first | decide | omega) ?_ | refine z_iast d_Mo_recite_99 (by first | assumption | exact zS0_at (by assumption) (by omega) | exact zS0_at rfl (by omega)) (by first | assumption | exact zS0_at (by assumption) (by omega) | exact zS0_at rfl (by omega)) ?_
                                refine z_iconst (a := nI 1) d_Mo_recite_100 (by decide) ?_
                                refine z_retz d_Mo_recite_101 (by first | exact zb0 | exact zb1 | assumption) ?_
                                exact ⟨rfl, I1, hD, by simp (disch := omega) only [zu_ne]⟩)
                          · first
                            | (simp (disch := omega) only [← nI_0, nI_leI, nI_ltI, nI_eq, not_true_eq_false, not_false_eq_true] at h65; done)
                            | (simp (disch := omega) only [← nI_0, nI_leI, nI_ltI, nI_eq, not_true_eq_false, not_false_eq_true] at h65; omega)
                            | contradiction
                            | exact absurd h65 (Int32.not_lt.mpr (by assumption))
                            | exact absurd h65 (Int32.not_le.mpr (by assumption))
                            | exact absurd h65 (by decide)
                            | exact absurd (by decide) h65
                            | ( try simp (disch := omega) only [← nI_0, nI_leI, nI_ltI, nI_eq, not_true_eq_false, not_false_eq_true] at h65
                                (try have h65b := zbit_n0.mp h65); (try have h65b := zbit_p0.mp h65)
                                refine z_aload_0 d_Mo_recite_68 ?_
                                refine z_bipush (a := nI 9) d_Mo_recite_69 (by decide) ?_
                                refine z_Vi1 d_Mo_recite_71 k_Mo_85 (by first | assumption | exact zS0_at (by assumption) (by omega) | exact zS0_at rfl (by omega)) (t_Mo_no (by assumption)) ⟨Nat.le_of_ble_eq_true rfl, Nat.le_of_ble_eq_true rfl, Nat.le_of_ble_eq_true rfl, Nat.le_of_ble_eq_true rfl⟩ (Nat.le_of_ble_eq_true rfl) ?_
                                intro r w hq
                                obtain ⟨rfl, rfl⟩ := hq
                                refine z_retz d_Mo_recite_74 (by first | exact zb0 | exact zb1 | assumption) ?_
                                exact ⟨rfl, I1, hD, by simp (disch := omega) only [zu_ne]⟩))
                    · first
                      | contradiction
                      | ( skip
                          refine z_if_eq (tgt := 68) d_Mo_recite_52 (by decide) (fun _ => ?_) (fun h => absurd h (by decide))
                          refine z_aload_0 d_Mo_recite_68 ?_
                          refine z_bipush (a := nI 9) d_Mo_recite_69 (by decide) ?_
                          refine z_Vi1 d_Mo_recite_71 k_Mo_85 (by first | assumption | exact zS0_at (by assumption) (by omega) | exact zS0_at rfl (by omega)) (t_Mo_no (by assumption)) ⟨Nat.le_of_ble_eq_true rfl, Nat.le_of_ble_eq_true rfl, Nat.le_of_ble_eq_true rfl, Nat.le_of_ble_eq_true rfl⟩ (Nat.le_of_ble_eq_true rfl) ?_
                          intro r w hq
                          obtain ⟨rfl, rfl⟩ := hq
                          refine z_retz d_Mo_recite_74 (by first | exact zb0 | exact zb1 | assumption) ?_
                          exact ⟨rfl, I1, hD, by simp (disch := omega) only [zu_ne]⟩)))
        · first
          | contradiction
          | ( skip
              refine z_if_ne (tgt := 33) d_Mo_recite_24 (by decide) (fun h => absurd h (by decide)) (fun _ => ?_)
              refine z_aload_0 d_Mo_recite_27 ?_
              refine z_iconst (a := nI 2) d_Mo_recite_28 (by decide) ?_
              refine z_Vi1 d_Mo_recite_29 k_Mo_85 (by first | assumption | exact zS0_at (by assumption) (by omega) | exact zS0_at rfl (by omega)) (t_Mo_no (by assumption)) ⟨Nat.le_of_ble_eq_true rfl, Nat.le_of_ble_eq_true rfl, Nat.le_of_ble_eq_true rfl, Nat.le_of_ble_eq_true rfl⟩ (Nat.le_of_ble_eq_true rfl) ?_
              intro r w hq
              obtain ⟨rfl, rfl⟩ := hq
              refine z_retz d_Mo_recite_32 (by first | exact zb0 | exact zb1 | assumption) ?_
              exact ⟨rfl, I1, hD, by simp (disch := omega) only [zu_ne]⟩))
  · first
    | contradiction
    | ( skip
        refine z_if_eq (tgt := 27) d_Mo_recite_15 (by decide) (fun _ => ?_) (fun h => absurd h (by decide))
        refine z_aload_0 d_Mo_recite_27 ?_
        refine z_iconst (a := nI 2) d_Mo_recite_28 (by decide) ?_
        refine z_Vi1 d_Mo_recite_29 k_Mo_85 (by first | assumption | exact zS0_at (by assumption) (by omega) | exact zS0_at rfl (by omega)) (t_Mo_no (by assumption)) ⟨Nat.le_of_ble_eq_true rfl, Nat.le_of_ble_eq_true rfl, Nat.le_of_ble_eq_true rfl, Nat.le_of_ble_eq_true rfl⟩ (Nat.le_of_ble_eq_true rfl) ?_
        intro r w hq
        obtain ⟨rfl, rfl⟩ := hq
        refine z_retz d_Mo_recite_32 (by first | exact zb0 | exact zb1 | assumption) ?_
        exact ⟨rfl, I1, hD, by simp (disch := omega) only [zu_ne]⟩)
theorem L_recite (h : zInv n w) : zEi G y_Tf_recite prog_1_method_20_code 4 (some .boolean) 3 [.ref 0, .int a, .int b] w (fun r w1 => w1.2.2.2 = w.2.2.2 ∧ zEi G y_Mo_recite prog_14_method_94_code 3 (some .boolean) 4 [.ref 145, .int a, .int b] w1 (fun r' w2 => r' = r ∧ zInv (n + 1) w2)) := by
  obtain ⟨f, d, nt, np, nl, nn, fed, mk, I, J, P, S, rfl, Z, X⟩ := h
  have M := clOk_M Z
  have hf := clOk_f Z
  have N := stR_fen X
  have N0 := stR_mod X
  have fm := stR_fm X
  obtain ⟨⟨⟨a1, r1, b1⟩, ⟨a2, r2, b2⟩, ⟨a3, r3, b3⟩, ⟨a4, r4, b4⟩⟩, ⟨⟨o, ob, ao, ro⟩, r5⟩, fw, fp, ft, fz⟩ := id fm
  by_cases ha : zin a nn
  rotate_left
  · exact L_q Z X (t_Tf_recite_o Z N (Or.inl ha)) (fun I' J' e _ => ⟨_, rfl, t_Mo_recite_o M (modIn_c N0 (e 150 (by decide))) (Or.inl ha)⟩)
  by_cases hb : zin b np
  rotate_left
  · exact L_q Z X (t_Tf_recite_o Z N (Or.inr hb)) (fun I' J' e _ => ⟨_, rfl, t_Mo_recite_o M (modIn_c N0 (e 150 (by decide))) (Or.inr hb)⟩)
  obtain ⟨t, ht, rfl⟩ := ha
  obtain ⟨q, hq, rfl⟩ := hb
  obtain ⟨⟨k, hk, k1, k2⟩, ⟨g1, g2⟩, g3, g4, g5, -⟩ := ft t ht
  have k1 : I (f + 5) t = nI k := k1
  have g2 : I 150 (42 + t) = I (f + 6) t := g2
  have g4 : I 150 (60 + t) = zb (I f 7) t := g4
  have e12 : I 150 (12 + q) = I (f + 2) q := (fp q hq).1
  by_cases hf' : zbit (I f 7) t
  · exact L_q Z X (t_Tf_recite_f Z N ht hq k1 hk hf') (fun I' J' e _ => ⟨_, rfl, t_Mo_recite_f M (modIn_c N0 (e 150 (by decide))) ht hq (by rw [e 150 (by decide)]; exact k2) hk (by rw [e 150 (by decide), g4, zb, if_pos hf'])⟩)
  by_cases hn : zbit (I (f + 2) q) k
  rotate_left
  · exact L_q Z X (t_Tf_recite_n Z N ht hq k1 hk hf' hn) (fun I' J' e _ => ⟨_, rfl, t_Mo_recite_n M (modIn_c N0 (e 150 (by decide))) ht hq (by rw [e 150 (by decide)]; exact k2) hk (by rw [e 150 (by decide), g4, zb, if_neg hf']) (by rw [e 150 (by decide), e12]; exact hn)⟩)
  by_cases hi : I (f + 6) t = nI q
  · exact L_q Z X (t_Tf_recite_i Z N ht hq k1 hk hf' hn hi) (fun I' J' e _ => ⟨_, rfl, t_Mo_recite_i M (modIn_c N0 (e 150 (by decide))) ht hq (by rw [e 150 (by decide)]; exact k2) hk (by rw [e 150 (by decide), g4, zb, if_neg hf']) (by rw [e 150 (by decide), e12]; exact hn) (by rw [e 150 (by decide), g2]; exact hi)⟩)
  refine zEi_mono (t_Tf_recite Z N ht hq k1 hk hf' hn hi) ?_
  rintro r w ⟨rfl, rfl⟩
  refine ⟨rfl, zEi_mono (t_Mo_recite M (modIn_c N0 (by rw [zu_row _ _ _ _ (by decide), zu_row _ _ _ _ (by omega), zu_row _ _ _ _ (by omega)])) ht hq (by rw [zu_row _ _ _ _ (by decide), zu_row _ _ _ _ (by omega), zu_row _ _ _ _ (by omega)]; exact k2) hk (by rw [zu_row _ _ _ _ (by decide), zu_row _ _ _ _ (by omega), zu_row _ _ _ _ (by omega), g4, zb, if_neg hf']) (by rw [zu_row _ _ _ _ (by decide), zu_row _ _ _ _ (by omega), zu_row _ _ _ _ (by omega), e12]; exact hn) (by rw [zu_row _ _ _ _ (by decide), zu_row _ _ _ _ (by omega), zu_row _ _ _ _ (by omega), g2]; exact hi)) ?_⟩
  rintro r w ⟨rfl, I1, hD, rfl⟩
  refine ⟨rfl, L_fin (nl' := nl) (nn' := nn) Z X (fun a ha => by rw [zu_row _ _ _ _ (by omega), zu_row _ _ _ _ (by omega)]) hD (fun a ha => by rw [zu_row _ _ _ _ ha, zu_row _ _ _ _ ha]) (fun k hk => by rw [zu_ne _ _ _ _ (by omega), zu_ne _ _ _ _ (by omega)]) ?_ (Nat.le_refl _) (jL_r) ⟨X.1.2.1, X.1.2.2⟩ (fun k _ _ => by omega)⟩
  rw [sf_zu, sf_zu]; exact fmR_g (fmR_put ht hq hf' (by rw [hD.2.2.1, zu_row _ _ _ _ (by decide), zu_row _ _ _ _ (by omega), zu_row _ _ _ _ (by omega)]; exact fm)) (by omega)
theorem t_Tf_pass_o (Z : clOk f d P S) (N : fenIn I f nt np nl nn) (h : ¬ zin a nn ∨ ¬ zin b np) : zEi G y_Tf_pass prog_1_method_18_code 4 (some .int) 4 [.ref 0, .int a, .int b] (I, J, P, S) (fun r w => r = -1 ∧ cW I J P S 2 w) := by
  obtain ⟨⟨c0, c3, c1s⟩, ⟨c5, c2s, ctr⟩, ⟨c6, c11s, c11, c13s⟩, ⟨c7, c15s, c15⟩, ⟨c8, c16s, c16a, c16b, c17s⟩, ⟨c9, c10, cfd, F, Fd⟩, ⟨c11b, Ft⟩, ⟨c12, c69s, cmk⟩, ⟨c14, c121s, c121, c122s⟩, ⟨c15b, c123s, c123, c124s⟩, ⟨c16, c125s, c125, c126s⟩, ⟨c17, c127s, c127, c128s, ctb⟩, ⟨c18, c139s, c139, c140s⟩, ⟨c19, c141s, ⟨c141a, c142s⟩, ⟨c141b, c143s⟩, ⟨c141c, c144s⟩⟩, M⟩ := id Z
  obtain ⟨F0, ⟨F8, F8s⟩, ⟨F9, F9s⟩, ⟨F10, F10s⟩, ⟨F11, F11s⟩, ⟨F12, F12s⟩, ⟨F13, F13s⟩, ⟨F14, F14s⟩, ⟨F15, F15s⟩, ⟨F16, F16s⟩, ⟨F17, F17s⟩, ⟨F18, F18s⟩, ⟨F19, F19s⟩, ⟨Y3, Y3s⟩, ⟨Y4, Y4s⟩, ⟨Y5, Y5s⟩, ⟨Y6, Y6s⟩⟩ := id F
  obtain ⟨⟨n1, n1b⟩, ⟨n2, n2b⟩, ⟨n3, n3b⟩, ⟨n4, n4b⟩, nof, non⟩ := id N
  refine zEi_of (lv := [some (.ref 0), some (.int a), some (.int b), none]) (by decide) rfl (Nat.le_of_ble_eq_true rfl) ?_
  rcases h with h | h
  · refine z_aload_0 d_Tf_pass_0 ?_
    refine z_iload_1 d_Tf_pass_1 ?_
    refine z_Vi1 d_Tf_pass_2 k_Tf_249 (by first | assumption | exact zS0_at (by assumption) (by omega) | exact zS0_at rfl (by omega)) (t_Tf_noTin Z N) ⟨Nat.le_of_ble_eq_true rfl, Nat.le_of_ble_eq_true rfl, Nat.le_of_ble_eq_true rfl, Nat.le_of_ble_eq_true rfl⟩ (Nat.le_of_ble_eq_true rfl) ?_
    intro r w hq
    rcases hq with ⟨⟨hz2, rfl⟩ | ⟨hz2, rfl⟩, rfl⟩
    · first
      | contradiction
      | ( skip
          refine z_if_ne (tgt := 16) d_Tf_pass_5 (by decide) (fun _ => ?_) (fun h => absurd h (by decide))
          refine z_aload_0 d_Tf_pass_16 ?_
          refine z_iconst (a := nI 2) d_Tf_pass_17 (by decide) ?_
          refine z_Vi1 d_Tf_pass_18 k_Tf_138 (by first | assumption | exact zS0_at (by assumption) (by omega) | exact zS0_at rfl (by omega)) (t_Tf_fail (by assumption)) ⟨Nat.le_of_ble_eq_true rfl, Nat.le_of_ble_eq_true rfl, Nat.le_of_ble_eq_true rfl, Nat.le_of_ble_eq_true rfl⟩ (Nat.le_of_ble_eq_true rfl) ?_
          intro r w hq
          obtain ⟨rfl, rfl⟩ := hq
          refine z_reti d_Tf_pass_21 ?_
          exact ⟨by first | rfl | assumption, cW_0⟩)
    · first
      | contradiction
      | ( skip
          refine z_if_ne (tgt := 16) d_Tf_pass_5 (by decide) (fun h => absurd h (by decide)) (fun _ => ?_)
          refine z_aload_0 d_Tf_pass_8 ?_
          refine z_iload_2 d_Tf_pass_9 ?_
          refine z_Vi1 d_Tf_pass_10 k_Tf_234 (by first | assumption | exact zS0_at (by assumption) (by omega) | exact zS0_at rfl (by omega)) (t_Tf_noPerson Z N) ⟨Nat.le_of_ble_eq_true rfl, Nat.le_of_ble_eq_true rfl, Nat.le_of_ble_eq_true rfl, Nat.le_of_ble_eq_true rfl⟩ (Nat.le_of_ble_eq_true rfl) ?_
          intro r w hq
          rcases hq with ⟨⟨hz10, rfl⟩ | ⟨hz10, rfl⟩, rfl⟩
          · first
            | contradiction
            | ( skip
                refine z_if_eq (tgt := 22) d_Tf_pass_13 (by decide) (fun h => absurd h (by decide)) (fun _ => ?_)
                refine z_aload_0 d_Tf_pass_16 ?_
                refine z_iconst (a := nI 2) d_Tf_pass_17 (by decide) ?_
                refine z_Vi1 d_Tf_pass_18 k_Tf_138 (by first | assumption | exact zS0_at (by assumption) (by omega) | exact zS0_at rfl (by omega)) (t_Tf_fail (by assumption)) ⟨Nat.le_of_ble_eq_true rfl, Nat.le_of_ble_eq_true rfl, Nat.le_of_ble_eq_true rfl, Nat.le_of_ble_eq_true rfl⟩ (Nat.le_of_ble_eq_true rfl) ?_
                intro r w hq
                obtain ⟨rfl, rfl⟩ := hq
                refine z_reti d_Tf_pass_21 ?_
                exact ⟨by first | rfl | assumption, cW_0⟩)
          · first
            | contradiction
            | ( skip
                refine z_if_eq (tgt := 22) d_Tf_pass_13 (by decide) (fun _ => ?_) (fun h => absurd h (by decide))
                contradiction))
  · refine z_aload_0 d_Tf_pass_0 ?_
    refine z_iload_1 d_Tf_pass_1 ?_
    refine z_Vi1 d_Tf_pass_2 k_Tf_249 (by first | assumption | exact zS0_at (by assumption) (by omega) | exact zS0_at rfl (by omega)) (t_Tf_noTin Z N) ⟨Nat.le_of_ble_eq_true rfl, Nat.le_of_ble_eq_true rfl, Nat.le_of_ble_eq_true rfl, Nat.le_of_ble_eq_true rfl⟩ (Nat.le_of_ble_eq_true rfl) ?_
    intro r w hq
    rcases hq with ⟨⟨hz2, rfl⟩ | ⟨hz2, rfl⟩, rfl⟩
    · first
      | contradiction
      | ( skip
          refine z_if_ne (tgt := 16) d_Tf_pass_5 (by decide) (fun _ => ?_) (fun h => absurd h (by decide))
          refine z_aload_0 d_Tf_pass_16 ?_
          refine z_iconst (a := nI 2) d_Tf_pass_17 (by decide) ?_
          refine z_Vi1 d_Tf_pass_18 k_Tf_138 (by first | assumption | exact zS0_at (by assumption) (by omega) | exact zS0_at rfl (by omega)) (t_Tf_fail (by assumption)) ⟨Nat.le_of_ble_eq_true rfl, Nat.le_of_ble_eq_true rfl, Nat.le_of_ble_eq_true rfl, Nat.le_of_ble_eq_true rfl⟩ (Nat.le_of_ble_eq_true rfl) ?_
          intro r w hq
          obtain ⟨rfl, rfl⟩ := hq
          refine z_reti d_Tf_pass_21 ?_
          exact ⟨by first | rfl | assumption, cW_0⟩)
    · first
      | contradiction
      | ( skip
          refine z_if_ne (tgt := 16) d_Tf_pass_5 (by decide) (fun h => absurd h (by decide)) (fun _ => ?_)
          refine z_aload_0 d_Tf_pass_8 ?_
          refine z_iload_2 d_Tf_pass_9 ?_
          refine z_Vi1 d_Tf_pass_10 k_Tf_234 (by first | assumption | exact zS0_at (by assumption) (by omega) | exact zS0_at rfl (by omega)) (t_Tf_noPerson Z N) ⟨Nat.le_of_ble_eq_true rfl, Nat.le_of_ble_eq_true rfl, Nat.le_of_ble_eq_true rfl, Nat.le_of_ble_eq_true rfl⟩ (Nat.le_of_ble_eq_true rfl) ?_
          intro r w hq
          rcases hq with ⟨⟨hz10, rfl⟩ | ⟨hz10, rfl⟩, rfl⟩
          · first
            | contradiction
            | ( skip
                refine z_if_eq (tgt := 22) d_Tf_pass_13 (by decide) (fun h => absurd h (by decide)) (fun _ => ?_)
                refine z_aload_0 d_Tf_pass_16 ?_
                refine z_iconst (a := nI 2) d_Tf_pass_17 (by decide) ?_
                refine z_Vi1 d_Tf_pass_18 k_Tf_138 (by first | assumption | exact zS0_at (by assumption) (by omega) | exact zS0_at rfl (by omega)) (t_Tf_fail (by assumption)) ⟨Nat.le_of_ble_eq_true rfl, Nat.le_of_ble_eq_true rfl, Nat.le_of_ble_eq_true rfl, Nat.le_of_ble_eq_true rfl⟩ (Nat.le_of_ble_eq_true rfl) ?_
                intro r w hq
                obtain ⟨rfl, rfl⟩ := hq
                refine z_reti d_Tf_pass_21 ?_
                exact ⟨by first | rfl | assumption, cW_0⟩)
          · first
            | contradiction
            | ( skip
                refine z_if_eq (tgt := 22) d_Tf_pass_13 (by decide) (fun _ => ?_) (fun h => absurd h (by decide))
                contradiction))
theorem t_Mo_pass_o (M : modOk P S) (N : modIn I nt np nl nn) (h : ¬ zin a nn ∨ ¬ zin b np) : zEi G y_Mo_pass prog_14_method_91_code 4 (some .int) 6 [.ref 145, .int a, .int b] (I, J, P, S) (fun r w => r = -1 ∧ mW I J P S 2 w) := by
  obtain ⟨M0, ⟨M4, M4s⟩, ⟨M5, M5s⟩, ⟨M6, M6s⟩, ⟨M7, M7s⟩, ⟨M20, M20s⟩, ⟨M21, M21s⟩, ⟨M22, M22s⟩, ⟨M26, M26s⟩, ⟨M27, M27s⟩, ⟨M28, M28s⟩, ⟨M30, M30s⟩, ⟨M34, M34s⟩, ⟨M36, M36s⟩, ⟨M37, M37s⟩⟩ := id M
  obtain ⟨I1, hI1, N1, h1, h0, e150, er, ek⟩ := mo_beg N
  obtain ⟨⟨m0, m0b⟩, ⟨m1, m1b⟩, ⟨m2, m2b⟩, ⟨m3, m3b⟩, mof, mon⟩ := id N1
  refine zEi_of (lv := [some (.ref 145), some (.int a), some (.int b), none]) (by decide) rfl (Nat.le_of_ble_eq_true rfl) ?_
  refine z_aload_0 d_Mo_pass_0 ?_
  refine z_iconst (a := nI 0) d_Mo_pass_1 (by decide) ?_
  refine z_putI d_Mo_pass_2 f_Mo_70 (by first | assumption | exact zS0_at (by assumption) (by omega) | exact zS0_at rfl (by omega)) ?_
  refine z_aload_0 d_Mo_pass_5 ?_
  refine z_iconst (a := nI 0) d_Mo_pass_6 (by decide) ?_
  refine z_putI d_Mo_pass_7 f_Mo_73 (by first | assumption | exact zS0_at (by assumption) (by omega) | exact zS0_at rfl (by omega)) ?_
  rw [← hI1]
  rcases h with h | h
  · refine z_aload_0 d_Mo_pass_10 ?_
    refine z_iload_1 d_Mo_pass_11 ?_
    refine z_Vi1 d_Mo_pass_12 k_Mo_344 (by first | assumption | exact zS0_at (by assumption) (by omega) | exact zS0_at rfl (by omega)) (t_Mo_isTinAt M N1) ⟨Nat.le_of_ble_eq_true rfl, Nat.le_of_ble_eq_true rfl, Nat.le_of_ble_eq_true rfl, Nat.le_of_ble_eq_true rfl⟩ (Nat.le_of_ble_eq_true rfl) ?_
    intro r w hq
    rcases hq with ⟨⟨hz12, rfl⟩ | ⟨hz12, rfl⟩, rfl⟩
    · first
      | contradiction
      | ( skip
          refine z_if_eq (tgt := 27) d_Mo_pass_15 (by decide) (fun h => absurd h (by decide)) (fun _ => ?_)
          refine z_aload_0 d_Mo_pass_18 ?_
          refine z_iload_2 d_Mo_pass_19 ?_
          refine z_i2l d_Mo_pass_20 ?_
          refine z_Vi1 d_Mo_pass_21 k_Mo_336 (by first | assumption | exact zS0_at (by assumption) (by omega) | exact zS0_at rfl (by omega)) (t_Mo_isPersonAtI M N1) ⟨Nat.le_of_ble_eq_true rfl, Nat.le_of_ble_eq_true rfl, Nat.le_of_ble_eq_true rfl, Nat.le_of_ble_eq_true rfl⟩ (Nat.le_of_ble_eq_true rfl) ?_
          intro r w hq
          rcases hq with ⟨⟨hz21, rfl⟩ | ⟨hz21, rfl⟩, rfl⟩
          · first
            | contradiction
            | ( skip
                refine z_if_ne (tgt := 33) d_Mo_pass_24 (by decide) (fun _ => ?_) (fun h => absurd h (by decide))
                contradiction)
          · first
            | contradiction
            | ( skip
                refine z_if_ne (tgt := 33) d_Mo_pass_24 (by decide) (fun h => absurd h (by decide)) (fun _ => ?_)
                refine z_aload_0 d_Mo_pass_27 ?_
                refine z_iconst (a := nI 2) d_Mo_pass_28 (by decide) ?_
                refine z_Vi1 d_Mo_pass_29 k_Mo_327 (by first | assumption | exact zS0_at (by assumption) (by omega) | exact zS0_at rfl (by omega)) (t_Mo_refuse (by assumption)) ⟨Nat.le_of_ble_eq_true rfl, Nat.le_of_ble_eq_true rfl, Nat.le_of_ble_eq_true rfl, Nat.le_of_ble_eq_true rfl⟩ (Nat.le_of_ble_eq_true rfl) ?_
                intro r w hq
                obtain ⟨rfl, rfl⟩ := hq
                refine z_reti d_Mo_pass_32 ?_
                exact ⟨by first | rfl | assumption | (rw [e150]), _, _, rfl, (by repeat (first | exact h1 | refine mqF_z ?_ (by decide))), mqJ_r, (by first | exact zu_same _ _ _ _ | exact h0)⟩))
    · first
      | contradiction
      | ( skip
          refine z_if_eq (tgt := 27) d_Mo_pass_15 (by decide) (fun _ => ?_) (fun h => absurd h (by decide))
          refine z_aload_0 d_Mo_pass_27 ?_
          refine z_iconst (a := nI 2) d_Mo_pass_28 (by decide) ?_
          refine z_Vi1 d_Mo_pass_29 k_Mo_327 (by first | assumption | exact zS0_at (by assumption) (by omega) | exact zS0_at rfl (by omega)) (t_Mo_refuse (by assumption)) ⟨Nat.le_of_ble_eq_true rfl, Nat.le_of_ble_eq_true rfl, Nat.le_of_ble_eq_true rfl, Nat.le_of_ble_eq_true rfl⟩ (Nat.le_of_ble_eq_true rfl) ?_
          intro r w hq
          obtain ⟨rfl, rfl⟩ := hq
          refine z_reti d_Mo_pass_32 ?_
          exact ⟨by first | rfl | assumption | (rw [e150]), _, _, rfl, (by repeat (first | exact h1 | refine mqF_z ?_ (by decide))), mqJ_r, (by first | exact zu_same _ _ _ _ | exact h0)⟩)
  · refine z_aload_0 d_Mo_pass_10 ?_
    refine z_iload_1 d_Mo_pass_11 ?_
    refine z_Vi1 d_Mo_pass_12 k_Mo_344 (by first | assumption | exact zS0_at (by assumption) (by omega) | exact zS0_at rfl (by omega)) (t_Mo_isTinAt M N1) ⟨Nat.le_of_ble_eq_true rfl, Nat.le_of_ble_eq_true rfl, Nat.le_of_ble_eq_true rfl, Nat.le_of_ble_eq_true rfl⟩ (Nat.le_of_ble_eq_true rfl) ?_
    intro r w hq
    rcases hq with ⟨⟨hz12, rfl⟩ | ⟨hz12, rfl⟩, rfl⟩
    · first
      | contradiction
      | ( skip
          refine z_if_eq (tgt := 27) d_Mo_pass_15 (by decide) (fun h => absurd h (by decide)) (fun _ => ?_)
          refine z_aload_0 d_Mo_pass_18 ?_
          refine z_iload_2 d_Mo_pass_19 ?_
          refine z_i2l d_Mo_pass_20 ?_
          refine z_Vi1 d_Mo_pass_21 k_Mo_336 (by first | assumption | exact zS0_at (by assumption) (by omega) | exact zS0_at rfl (by omega)) (t_Mo_isPersonAtI M N1) ⟨Nat.le_of_ble_eq_true rfl, Nat.le_of_ble_eq_true rfl, Nat.le_of_ble_eq_true rfl, Nat.le_of_ble_eq_true rfl⟩ (Nat.le_of_ble_eq_true rfl) ?_
          intro r w hq
          rcases hq with ⟨⟨hz21, rfl⟩ | ⟨hz21, rfl⟩, rfl⟩
          · first
            | contradiction
            | ( skip
                refine z_if_ne (tgt := 33) d_Mo_pass_24 (by decide) (fun _ => ?_) (fun h => absurd h (by decide))
                contradiction)
          · first
            | contradiction
            | ( skip
                refine z_if_ne (tgt := 33) d_Mo_pass_24 (by decide) (fun h => absurd h (by decide)) (fun _ => ?_)
                refine z_aload_0 d_Mo_pass_27 ?_
                refine z_iconst (a := nI 2) d_Mo_pass_28 (by decide) ?_
                refine z_Vi1 d_Mo_pass_29 k_Mo_327 (by first | assumption | exact zS0_at (by assumption) (by omega) | exact zS0_at rfl (by omega)) (t_Mo_refuse (by assumption)) ⟨Nat.le_of_ble_eq_true rfl, Nat.le_of_ble_eq_true rfl, Nat.le_of_ble_eq_true rfl, Nat.le_of_ble_eq_true rfl⟩ (Nat.le_of_ble_eq_true rfl) ?_
                intro r w hq
                obtain ⟨rfl, rfl⟩ := hq
                refine z_reti d_Mo_pass_32 ?_
                exact ⟨by first | rfl | assumption | (rw [e150]), _, _, rfl, (by repeat (first | exact h1 | refine mqF_z ?_ (by decide))), mqJ_r, (by first | exact zu_same _ _ _ _ | exact h0)⟩))
    · first
      | contradiction
      | ( skip
          refine z_if_eq (tgt := 27) d_Mo_pass_15 (by decide) (fun _ => ?_) (fun h => absurd h (by decide))
          refine z_aload_0 d_Mo_pass_27 ?_
          refine z_iconst (a := nI 2) d_Mo_pass_28 (by decide) ?_
          refine z_Vi1 d_Mo_pass_29 k_Mo_327 (by first | assumption | exact zS0_at (by assumption) (by omega) | exact zS0_at rfl (by omega)) (t_Mo_refuse (by assumption)) ⟨Nat.le_of_ble_eq_true rfl, Nat.le_of_ble_eq_true rfl, Nat.le_of_ble_eq_true rfl, Nat.le_of_ble_eq_true rfl⟩ (Nat.le_of_ble_eq_true rfl) ?_
          intro r w hq
          obtain ⟨rfl, rfl⟩ := hq
          refine z_reti d_Mo_pass_32 ?_
          exact ⟨by first | rfl | assumption | (rw [e150]), _, _, rfl, (by repeat (first | exact h1 | refine mqF_z ?_ (by decide))), mqJ_r, (by first | exact zu_same _ _ _ _ | exact h0)⟩)
theorem t_Tf_pass_g {t q : Nat} (Z : clOk f d P S) (N : fenIn I f nt np nl nn) (ht : t < nn) (hq : q < np) (hg : I (f + 6) t = -1) : zEi G y_Tf_pass prog_1_method_18_code 4 (some .int) 4 [.ref 0, .int (nI t), .int (nI q)] (I, J, P, S) (fun r w => r = -1 ∧ cW I J P S 9 w) := by
  obtain ⟨⟨c0, c3, c1s⟩, ⟨c5, c2s, ctr⟩, ⟨c6, c11s, c11, c13s⟩, ⟨c7, c15s, c15⟩, ⟨c8, c16s, c16a, c16b, c17s⟩, ⟨c9, c10, cfd, F, Fd⟩, ⟨c11b, Ft⟩, ⟨c12, c69s, cmk⟩, ⟨c14, c121s, c121, c122s⟩, ⟨c15b, c123s, c123, c124s⟩, ⟨c16, c125s, c125, c126s⟩, ⟨c17, c127s, c127, c128s, ctb⟩, ⟨c18, c139s, c139, c140s⟩, ⟨c19, c141s, ⟨c141a, c142s⟩, ⟨c141b, c143s⟩, ⟨c141c, c144s⟩⟩, M⟩ := id Z
  obtain ⟨F0, ⟨F8, F8s⟩, ⟨F9, F9s⟩, ⟨F10, F10s⟩, ⟨F11, F11s⟩, ⟨F12, F12s⟩, ⟨F13, F13s⟩, ⟨F14, F14s⟩, ⟨F15, F15s⟩, ⟨F16, F16s⟩, ⟨F17, F17s⟩, ⟨F18, F18s⟩, ⟨F19, F19s⟩, ⟨Y3, Y3s⟩, ⟨Y4, Y4s⟩, ⟨Y5, Y5s⟩, ⟨Y6, Y6s⟩⟩ := id F
  obtain ⟨⟨n1, n1b⟩, ⟨n2, n2b⟩, ⟨n3, n3b⟩, ⟨n4, n4b⟩, nof, non⟩ := id N
  have hz : zin (nI t) nn := ⟨t, by omega, rfl⟩
  have hzq : zin (nI q) np := ⟨q, by omega, rfl⟩
  refine zEi_of (lv := [some (.ref 0), some (.int (nI t)), some (.int (nI q)), none]) (by decide) rfl (Nat.le_of_ble_eq_true rfl) ?_
  refine z_aload_0 d_Tf_pass_0 ?_
  refine z_iload_1 d_Tf_pass_1 ?_
  refine z_Vi1 d_Tf_pass_2 k_Tf_249 (by first | assumption | exact zS0_at (by assumption) (by omega) | exact zS0_at rfl (by omega)) (t_Tf_noTin Z N) ⟨Nat.le_of_ble_eq_true rfl, Nat.le_of_ble_eq_true rfl, Nat.le_of_ble_eq_true rfl, Nat.le_of_ble_eq_true rfl⟩ (Nat.le_of_ble_eq_true rfl) ?_
  intro r w hq
  rcases hq with ⟨⟨hz2, rfl⟩ | ⟨hz2, rfl⟩, rfl⟩
  · first
    | contradiction
    | ( skip
        refine z_if_ne (tgt := 16) d_Tf_pass_5 (by decide) (fun _ => ?_) (fun h => absurd h (by decide))
        refine z_aload_0 d_Tf_pass_16 ?_
        refine z_iconst (a := nI 2) d_Tf_pass_17 (by decide) ?_
        refine z_Vi1 d_Tf_pass_18 k_Tf_138 (by first | assumption | exact zS0_at (by assumption) (by omega) | exact zS0_at rfl (by omega)) (t_Tf_fail (by assumption)) ⟨Nat.le_of_ble_eq_true rfl, Nat.le_of_ble_eq_true rfl, Nat.le_of_ble_eq_true rfl, Nat.le_of_ble_eq_true rfl⟩ (Nat.le_of_ble_eq_true rfl) ?_
        intro r w hq
        obtain ⟨rfl, rfl⟩ := hq
        refine z_reti d_Tf_pass_21 ?_
        exact ⟨by first | rfl | assumption, cW_0⟩)
  · first
    | contradiction
    | ( skip
        refine z_if_ne (tgt := 16) d_Tf_pass_5 (by decide) (fun h => absurd h (by decide)) (fun _ => ?_)
        refine z_aload_0 d_Tf_pass_8 ?_
        refine z_iload_2 d_Tf_pass_9 ?_
        refine z_Vi1 d_Tf_pass_10 k_Tf_234 (by first | assumption | exact zS0_at (by assumption) (by omega) | exact zS0_at rfl (by omega)) (t_Tf_noPerson Z N) ⟨Nat.le_of_ble_eq_true rfl, Nat.le_of_ble_eq_true rfl, Nat.le_of_ble_eq_true rfl, Nat.le_of_ble_eq_true rfl⟩ (Nat.le_of_ble_eq_true rfl) ?_
        intro r w hq
        rcases hq with ⟨⟨hz10, rfl⟩ | ⟨hz10, rfl⟩, rfl⟩
        · first
          | contradiction
          | ( skip
              refine z_if_eq (tgt := 22) d_Tf_pass_13 (by decide) (fun h => absurd h (by decide)) (fun _ => ?_)
              refine z_aload_0 d_Tf_pass_16 ?_
              refine z_iconst (a := nI 2) d_Tf_pass_17 (by decide) ?_
              refine z_Vi1 d_Tf_pass_18 k_Tf_138 (by first | assumption | exact zS0_at (by assumption) (by omega) | exact zS0_at rfl (by omega)) (t_Tf_fail (by assumption)) ⟨Nat.le_of_ble_eq_true rfl, Nat.le_of_ble_eq_true rfl, Nat.le_of_ble_eq_true rfl, Nat.le_of_ble_eq_true rfl⟩ (Nat.le_of_ble_eq_true rfl) ?_
              intro r w hq
              obtain ⟨rfl, rfl⟩ := hq
              refine z_reti d_Tf_pass_21 ?_
              exact ⟨by first | rfl | assumption, cW_0⟩)
        · first
          | contradiction
          | ( skip
              refine z_if_eq (tgt := 22) d_Tf_pass_13 (by decide) (fun _ => ?_) (fun h => absurd h (by decide))
              refine z_aload_0 d_Tf_pass_22 ?_
              refine z_getR d_Tf_pass_23 f_Tf_60 (by first | assumption | exact zS0_at (by assumption) (by omega) | exact zS0_at rfl (by omega)) (by first | assumption | exact zS0_at (by assumption) (by omega) | exact zS0_at rfl (by omega)) ?_
              refine z_iload_1 d_Tf_pass_26 ?_
              refine z_iload_2 d_Tf_pass_27 ?_
              refine z_Vi2 d_Tf_pass_28 k_Tf_270 (by first | assumption | exact zS0_at (by assumption) (by omega) | exact zS0_at rfl (by omega)) (t_Fen_canHand0 F N ht hg) ⟨Nat.le_of_ble_eq_true rfl, Nat.le_of_ble_eq_true rfl, Nat.le_of_ble_eq_true rfl, Nat.le_of_ble_eq_true rfl⟩ (Nat.le_of_ble_eq_true rfl) ?_
              intro r w hq
              obtain ⟨rfl, rfl⟩ := hq
              refine z_if_ne (tgt := 41) d_Tf_pass_31 (by decide) (fun h31 => ?_) (fun h31 => ?_)
              · first
                | (simp (disch := omega) only [← nI_0, nI_leI, nI_ltI, nI_eq, not_true_eq_false, not_false_eq_true] at h31; done)
                | (simp (disch := omega) only [← nI_0, nI_leI, nI_ltI, nI_eq, not_true_eq_false, not_false_eq_true] at h31; omega)
                | contradiction
                | exact absurd h31 (Int32.not_lt.mpr (by assumption))
                | exact absurd h31 (Int32.not_le.mpr (by assumption))
                | exact absurd h31 (by decide)
                | exact absurd (by decide) h31
                | ( try simp (disch := omega) only [← nI_0, nI_leI, nI_ltI, nI_eq, not_true_eq_false, not_false_eq_true] at h31
                    (try have h31b := zbit_n0.mp h31); (try have h31b := zbit_p0.mp h31)
                    contradiction)
              · first
                | (simp (disch := omega) only [← nI_0, nI_leI, nI_ltI, nI_eq, not_true_eq_false, not_false_eq_true] at h31; done)
                | (simp (disch := omega) only [← nI_0, nI_leI, nI_ltI, nI_eq, not_true_eq_false, not_false_eq_true] at h31; omega)
                | contradiction
                | exact absurd h31 (Int32.not_lt.mpr (by assumption))
                | exact absurd h31 (Int32.not_le.mpr (by assumption))
                | exact absurd h31 (by decide)
                | exact absurd (by decide) h31
                | ( try simp (disch := omega) only [← nI_0, nI_leI, nI_ltI, nI_eq, not_true_eq_false, not_false_eq_true] at h31
                    (try have h31b := zbit_n0.mp h31); (try have h31b := zbit_p0.mp h31)
                    refine z_aload_0 d_Tf_pass_34 ?_
                    refine z_bipush (a := nI 9) d_Tf_pass_35 (by decide) ?_
                    refine z_Vi1 d_Tf_pass_37 k_Tf_138 (by first | assumption | exact zS0_at (by assumption) (by omega) | exact zS0_at rfl (by omega)) (t_Tf_fail (by assumption)) ⟨Nat.le_of_ble_eq_true rfl, Nat.le_of_ble_eq_true rfl, Nat.le_of_ble_eq_true rfl, Nat.le_of_ble_eq_true rfl⟩ (Nat.le_of_ble_eq_true rfl) ?_
                    intro r w hq
                    obtain ⟨rfl, rfl⟩ := hq
                    refine z_reti d_Tf_pass_40 ?_
                    exact ⟨by first | rfl | assumption, cW_0⟩)))
theorem t_Tf_pass_n {t q k p : Nat} (Z : clOk f d P S) (N : fenIn I f nt np nl nn) (ht : t < nn) (hq : q < np) (hk : I (f + 5) t = nI k) (hp : I (f + 6) t = nI p) (hp2 : p < np) (hn : ¬ (zbit (I (f + 3) p) q ∧ zbit (I (f + 2) q) k)) : zEi G y_Tf_pass prog_1_method_18_code 4 (some .int) 4 [.ref 0, .int (nI t), .int (nI q)] (I, J, P, S) (fun r w => r = -1 ∧ cW I J P S 9 w) := by
  obtain ⟨⟨c0, c3, c1s⟩, ⟨c5, c2s, ctr⟩, ⟨c6, c11s, c11, c13s⟩, ⟨c7, c15s, c15⟩, ⟨c8, c16s, c16a, c16b, c17s⟩, ⟨c9, c10, cfd, F, Fd⟩, ⟨c11b, Ft⟩, ⟨c12, c69s, cmk⟩, ⟨c14, c121s, c121, c122s⟩, ⟨c15b, c123s, c123, c124s⟩, ⟨c16, c125s, c125, c126s⟩, ⟨c17, c127s, c127, c128s, ctb⟩, ⟨c18, c139s, c139, c140s⟩, ⟨c19, c141s, ⟨c141a, c142s⟩, ⟨c141b, c143s⟩, ⟨c141c, c144s⟩⟩, M⟩ := id Z
  obtain ⟨F0, ⟨F8, F8s⟩, ⟨F9, F9s⟩, ⟨F10, F10s⟩, ⟨F11, F11s⟩, ⟨F12, F12s⟩, ⟨F13, F13s⟩, ⟨F14, F14s⟩, ⟨F15, F15s⟩, ⟨F16, F16s⟩, ⟨F17, F17s⟩, ⟨F18, F18s⟩, ⟨F19, F19s⟩, ⟨Y3, Y3s⟩, ⟨Y4, Y4s⟩, ⟨Y5, Y5s⟩, ⟨Y6, Y6s⟩⟩ := id F
  obtain ⟨⟨n1, n1b⟩, ⟨n2, n2b⟩, ⟨n3, n3b⟩, ⟨n4, n4b⟩, nof, non⟩ := id N
  have hz : zin (nI t) nn := ⟨t, by omega, rfl⟩
  have hzq : zin (nI q) np := ⟨q, by omega, rfl⟩
  refine zEi_of (lv := [some (.ref 0), some (.int (nI t)), some (.int (nI q)), none]) (by decide) rfl (Nat.le_of_ble_eq_true rfl) ?_
  refine z_aload_0 d_Tf_pass_0 ?_
  refine z_iload_1 d_Tf_pass_1 ?_
  refine z_Vi1 d_Tf_pass_2 k_Tf_249 (by first | assumption | exact zS0_at (by assumption) (by omega) | exact zS0_at rfl (by omega)) (t_Tf_noTin Z N) ⟨Nat.le_of_ble_eq_true rfl, Nat.le_of_ble_eq_true rfl, Nat.le_of_ble_eq_true rfl, Nat.le_of_ble_eq_true rfl⟩ (Nat.le_of_ble_eq_true rfl) ?_
  intro r w hq
  rcases hq with ⟨⟨hz2, rfl⟩ | ⟨hz2, rfl⟩, rfl⟩
  · first
    | contradiction
    | ( skip
        refine z_if_ne (tgt := 16) d_Tf_pass_5 (by decide) (fun _ => ?_) (fun h => absurd h (by decide))
        refine z_aload_0 d_Tf_pass_16 ?_
        refine z_iconst (a := nI 2) d_Tf_pass_17 (by decide) ?_
        refine z_Vi1 d_Tf_pass_18 k_Tf_138 (by first | assumption | exact zS0_at (by assumption) (by omega) | exact zS0_at rfl (by omega)) (t_Tf_fail (by assumption)) ⟨Nat.le_of_ble_eq_true rfl, Nat.le_of_ble_eq_true rfl, Nat.le_of_ble_eq_true rfl, Nat.le_of_ble_eq_true rfl⟩ (Nat.le_of_ble_eq_true rfl) ?_
        intro r w hq
        obtain ⟨rfl, rfl⟩ := hq
        refine z_reti d_Tf_pass_21 ?_
        exact ⟨by first | rfl | assumption, cW_0⟩)
  · first
    | contradiction
    | ( skip
        refine z_if_ne (tgt := 16) d_Tf_pass_5 (by decide) (fun h => absurd h (by decide)) (fun _ => ?_)
        refine z_aload_0 d_Tf_pass_8 ?_
        refine z_iload_2 d_Tf_pass_9 ?_
        refine z_Vi1 d_Tf_pass_10 k_Tf_234 (by first | assumption | exact zS0_at (by assumption) (by omega) | exact zS0_at rfl (by omega)) (t_Tf_noPerson Z N) ⟨Nat.le_of_ble_eq_true rfl, Nat.le_of_ble_eq_true rfl, Nat.le_of_ble_eq_true rfl, Nat.le_of_ble_eq_true rfl⟩ (Nat.le_of_ble_eq_true rfl) ?_
        intro r w hq
        rcases hq with ⟨⟨hz10, rfl⟩ | ⟨hz10, rfl⟩, rfl⟩
        · first
          | contradiction
          | ( skip
              refine z_if_eq (tgt := 22) d_Tf_pass_13 (by decide) (fun h => absurd h (by decide)) (fun _ => ?_)
              refine z_aload_0 d_Tf_pass_16 ?_
              refine z_iconst (a := nI 2) d_Tf_pass_17 (by decide) ?_
              refine z_Vi1 d_Tf_pass_18 k_Tf_138 (by first | assumption | exact zS0_at (by assumption) (by omega) | exact zS0_at rfl (by omega)) (t_Tf_fail (by assumption)) ⟨Nat.le_of_ble_eq_true rfl, Nat.le_of_ble_eq_true rfl, Nat.le_of_ble_eq_true rfl, Nat.le_of_ble_eq_true rfl⟩ (Nat.le_of_ble_eq_true rfl) ?_
              intro r w hq
              obtain ⟨rfl, rfl⟩ := hq
              refine z_reti d_Tf_pass_21 ?_
              exact ⟨by first | rfl | assumption, cW_0⟩)
        · first
          | contradiction
          | ( skip
              refine z_if_eq (tgt := 22) d_Tf_pass_13 (by decide) (fun _ => ?_) (fun h => absurd h (by decide))
              refine z_aload_0 d_Tf_pass_22 ?_
              refine z_getR d_Tf_pass_23 f_Tf_60 (by first | assumption | exact zS0_at (by assumption) (by omega) | exact zS0_at rfl (by omega)) (by first | assumption | exact zS0_at (by assumption) (by omega) | exact zS0_at rfl (by omega)) ?_
              refine z_iload_1 d_Tf_pass_26 ?_
              refine z_iload_2 d_Tf_pass_27 ?_
              refine z_Vi2 d_Tf_pass_28 k_Tf_270 (by first | assumption | exact zS0_at (by assumption) (by omega) | exact zS0_at rfl (by omega)) (t_Fen_canHand F N ht hk hp hp2 hq) ⟨Nat.le_of_ble_eq_true rfl, Nat.le_of_ble_eq_true rfl, Nat.le_of_ble_eq_true rfl, Nat.le_of_ble_eq_true rfl⟩ (Nat.le_of_ble_eq_true rfl) ?_
              intro r w hq
              rcases hq with ⟨⟨hz28, rfl⟩ | ⟨hz28, rfl⟩, rfl⟩
              · first
                | contradiction
                | ( skip
                    refine z_if_ne (tgt := 41) d_Tf_pass_31 (by decide) (fun _ => ?_) (fun h => absurd h (by decide))
                    contradiction)
              · first
                | contradiction
                | ( skip
                    refine z_if_ne (tgt := 41) d_Tf_pass_31 (by decide) (fun h => absurd h (by decide)) (fun _ => ?_)
                    refine z_aload_0 d_Tf_pass_34 ?_
                    refine z_bipush (a := nI 9) d_Tf_pass_35 (by decide) ?_
                    refine z_Vi1 d_Tf_pass_37 k_Tf_138 (by first | assumption | exact zS0_at (by assumption) (by omega) | exact zS0_at rfl (by omega)) (t_Tf_fail (by assumption)) ⟨Nat.le_of_ble_eq_true rfl, Nat.le_of_ble_eq_true rfl, Nat.le_of_ble_eq_true rfl, Nat.le_of_ble_eq_true rfl⟩ (Nat.le_of_ble_eq_true rfl) ?_
                    intro r w hq
                    obtain ⟨rfl, rfl⟩ := hq
                    refine z_reti d_Tf_pass_40 ?_
                    exact ⟨by first | rfl | assumption, cW_0⟩)))
theorem t_Tf_pass {t q k p : Nat} (Z : clOk f d P S) (N : fenIn I f nt np nl nn) (ht : t < nn) (hq : q < np) (hk : I (f + 5) t = nI k) (hk2 : k < nt) (hp : I (f + 6) t = nI p) (hp2 : p < np) (hn : zbit (I (f + 3) p) q ∧ zbit (I (f + 2) q) k) : zEi G y_Tf_pass prog_1_method_18_code 4 (some .int) 4 [.ref 0, .int (nI t), .int (nI q)] (I, J, P, S) (fun r w => r = I (f + 4) p + I (f + 1) k ∧ w = (zu (s_hand I f t k p q) 0 0 (nI 0), J, P, S)) := by
  obtain ⟨⟨c0, c3, c1s⟩, ⟨c5, c2s, ctr⟩, ⟨c6, c11s, c11, c13s⟩, ⟨c7, c15s, c15⟩, ⟨c8, c16s, c16a, c16b, c17s⟩, ⟨c9, c10, cfd, F, Fd⟩, ⟨c11b, Ft⟩, ⟨c12, c69s, cmk⟩, ⟨c14, c121s, c121, c122s⟩, ⟨c15b, c123s, c123, c124s⟩, ⟨c16, c125s, c125, c126s⟩, ⟨c17, c127s, c127, c128s, ctb⟩, ⟨c18, c139s, c139, c140s⟩, ⟨c19, c141s, ⟨c141a, c142s⟩, ⟨c141b, c143s⟩, ⟨c141c, c144s⟩⟩, M⟩ := id Z
  obtain ⟨F0, ⟨F8, F8s⟩, ⟨F9, F9s⟩, ⟨F10, F10s⟩, ⟨F11, F11s⟩, ⟨F12, F12s⟩, ⟨F13, F13s⟩, ⟨F14, F14s⟩, ⟨F15, F15s⟩, ⟨F16, F16s⟩, ⟨F17, F17s⟩, ⟨F18, F18s⟩, ⟨F19, F19s⟩, ⟨Y3, Y3s⟩, ⟨Y4, Y4s⟩, ⟨Y5, Y5s⟩, ⟨Y6, Y6s⟩⟩ := id F
  obtain ⟨⟨n1, n1b⟩, ⟨n2, n2b⟩, ⟨n3, n3b⟩, ⟨n4, n4b⟩, nof, non⟩ := id N
  have hz : zin (nI t) nn := ⟨t, by omega, rfl⟩
  have hzq : zin (nI q) np := ⟨q, by omega, rfl⟩
  have hgot : s_hand I f t k p q (f + 4) p = I (f + 4) p + I (f + 1) k := by
    unfold s_hand
    rw [zu_ne _ _ _ _ (by omega), zu_ne _ _ _ _ (by omega), zu_ne _ _ _ _ (by omega), zu_ne _ _ _ _ (by omega), zu_same]
  refine zEi_of (lv := [some (.ref 0), some (.int (nI t)), some (.int (nI q)), none]) (by decide) rfl (Nat.le_of_ble_eq_true rfl) ?_
  refine z_aload_0 d_Tf_pass_0 ?_
  refine z_iload_1 d_Tf_pass_1 ?_
  refine z_Vi1 d_Tf_pass_2 k_Tf_249 (by first | assumption | exact zS0_at (by assumption) (by omega) | exact zS0_at rfl (by omega)) (t_Tf_noTin Z N) ⟨Nat.le_of_ble_eq_true rfl, Nat.le_of_ble_eq_true rfl, Nat.le_of_ble_eq_true rfl, Nat.le_of_ble_eq_true rfl⟩ (Nat.le_of_ble_eq_true rfl) ?_
  intro r w hq
  rcases hq with ⟨⟨hz2, rfl⟩ | ⟨hz2, rfl⟩, rfl⟩
  · first
    | contradiction
    | ( skip
        refine z_if_ne (tgt := 16) d_Tf_pass_5 (by decide) (fun _ => ?_) (fun h => absurd h (by decide))
        refine z_aload_0 d_Tf_pass_16 ?_
        refine z_iconst (a := nI 2) d_Tf_pass_17 (by decide) ?_
        refine z_Vi1 d_Tf_pass_18 k_Tf_138 (by first | assumption | exact zS0_at (by assumption) (by omega) | exact zS0_at rfl (by omega)) (t_Tf_fail (by assumption)) ⟨Nat.le_of_ble_eq_true rfl, Nat.le_of_ble_eq_true rfl, Nat.le_of_ble_eq_true rfl, Nat.le_of_ble_eq_true rfl⟩ (Nat.le_of_ble_eq_true rfl) ?_
        intro r w hq
        obtain ⟨rfl, rfl⟩ := hq
        refine z_reti d_Tf_pass_21 ?_
        exact ⟨rfl, rfl⟩)
  · first
    | contradiction
    | ( skip
        refine z_if_ne (tgt := 16) d_Tf_pass_5 (by decide) (fun h => absurd h (by decide)) (fun _ => ?_)
        refine z_aload_0 d_Tf_pass_8 ?_
        refine z_iload_2 d_Tf_pass_9 ?_
        refine z_Vi1 d_Tf_pass_10 k_Tf_234 (by first | assumption | exact zS0_at (by assumption) (by omega) | exact zS0_at rfl (by omega)) (t_Tf_noPerson Z N) ⟨Nat.le_of_ble_eq_true rfl, Nat.le_of_ble_eq_true rfl, Nat.le_of_ble_eq_true rfl, Nat.le_of_ble_eq_true rfl⟩ (Nat.le_of_ble_eq_true rfl) ?_
        intro r w hq
        rcases hq with ⟨⟨hz10, rfl⟩ | ⟨hz10, rfl⟩, rfl⟩
        · first
          | contradiction
          | ( skip
              refine z_if_eq (tgt := 22) d_Tf_pass_13 (by decide) (fun h => absurd h (by decide)) (fun _ => ?_)
              refine z_aload_0 d_Tf_pass_16 ?_
              refine z_iconst (a := nI 2) d_Tf_pass_17 (by decide) ?_
              refine z_Vi1 d_Tf_pass_18 k_Tf_138 (by first | assumption | exact zS0_at (by assumption) (by omega) | exact zS0_at rfl (by omega)) (t_Tf_fail (by assumption)) ⟨Nat.le_of_ble_eq_true rfl, Nat.le_of_ble_eq_true rfl, Nat.le_of_ble_eq_true rfl, Nat.le_of_ble_eq_true rfl⟩ (Nat.le_of_ble_eq_true rfl) ?_
              intro r w hq
              obtain ⟨rfl, rfl⟩ := hq
              refine z_reti d_Tf_pass_21 ?_
              exact ⟨rfl, rfl⟩)
        · first
          | contradiction
          | ( skip
              refine z_if_eq (tgt := 22) d_Tf_pass_13 (by decide) (fun _ => ?_) (fun h => absurd h (by decide))
              refine z_aload_0 d_Tf_pass_22 ?_
              refine z_getR d_Tf_pass_23 f_Tf_60 (by first | assumption | exact zS0_at (by assumption) (by omega) | exact zS0_at rfl (by omega)) (by first | assumption | exact zS0_at (by assumption) (by omega) | exact zS0_at rfl (by omega)) ?_
              refine z_iload_1 d_Tf_pass_26 ?_
              refine z_iload_2 d_Tf_pass_27 ?_
              refine z_Vi2 d_Tf_pass_28 k_Tf_270 (by first | assumption | exact zS0_at (by assumption) (by omega) | exact zS0_at rfl (by omega)) (t_Fen_canHand F N ht hk hp hp2 hq) ⟨Nat.le_of_ble_eq_true rfl, Nat.le_of_ble_eq_true rfl, Nat.le_of_ble_eq_true rfl, Nat.le_of_ble_eq_true rfl⟩ (Nat.le_of_ble_eq_true rfl) ?_
              intro r w hq
              rcases hq with ⟨⟨hz28, rfl⟩ | ⟨hz28, rfl⟩, rfl⟩
              · first
                | contradiction
                | ( skip
                    refine z_if_ne (tgt := 41) d_Tf_pass_31 (by decide) (fun _ => ?_) (fun h => absurd h (by decide))
                    refine z_aload_0 d_Tf_pass_41 ?_
                    refine z_getR d_Tf_pass_42 f_Tf_60 (by first | assumption | exact zS0_at (by assumption) (by omega) | exact zS0_at rfl (by omega)) (by first | assumption | exact zS0_at (by assumption) (by omega) | exact zS0_at rfl (by omega)) ?_
                    refine z_getR d_Tf_pass_45 f_Tf_258 (by first | assumption | exact zS0_at (by assumption) (by omega) | exact zS0_at rfl (by omega)) (by first | assumption | exact zS0_at (by assumption) (by omega) | exact zS0_at rfl (by omega)) ?_
                    refine z_iload_1 d_Tf_pass_48 ?_
                    first | refine z_ialdNv d_Tf_pass_49 (by first | assumption | exact zS0_at (by assumption) (by omega) | exact zS0_at rfl (by omega)) (by omega) (by first | decide | omega) (by first | assumption | ((try simp (disch := omega) only [zu_same, zu_ne, zcp_ne, zfl_ne]); first | assumption | rfl)) ?_ | refine z_iald d_Tf_pass_49 (by first | assumption | exact zS0_at (by assumption) (by omega) | exact zS0_at rfl (by omega)) (by first | assumption | exact zS0_at (by assumption) (by omega) | exact zS0_at rfl (by omega)) ?_
                    first | refine z_istore_3 d_Tf_pass_50 rfl ?_ | (refine z_forget_2 ?_; refine z_istore_3 d_Tf_pass_50 rfl ?_)
                    refine z_aload_0 d_Tf_pass_51 ?_
                    refine z_getR d_Tf_pass_52 f_Tf_60 (by first | assumption | exact zS0_at (by assumption) (by omega) | exact zS0_at rfl (by omega)) (by first | assumption | exact zS0_at (by assumption) (by omega) | exact zS0_at rfl (by omega)) ?_
                    refine z_iload_1 d_Tf_pass_55 ?_
                    refine z_iload_2 d_Tf_pass_56 ?_
                    refine z_Vv2 d_Tf_pass_57 k_Tf_273 (by first | assumption | exact zS0_at (by assumption) (by omega) | exact zS0_at rfl (by omega)) (t_Fen_hand F N ht hk hk2 hp hp2) ⟨Nat.le_of_ble_eq_true rfl, Nat.le_of_ble_eq_true rfl, Nat.le_of_ble_eq_true rfl, Nat.le_of_ble_eq_true rfl⟩ (Nat.le_of_ble_eq_true rfl) ?_
                    intro w hq
                    obtain rfl := hq
                    refine z_aload_0 d_Tf_pass_60 ?_
                    refine z_aload_0 d_Tf_pass_61 ?_
                    refine z_getR d_Tf_pass_62 f_Tf_60 (by first | assumption | exact zS0_at (by assumption) (by omega) | exact zS0_at rfl (by omega)) (by first | assumption | exact zS0_at (by assumption) (by omega) | exact zS0_at rfl (by omega)) ?_
                    refine z_getR d_Tf_pass_65 f_Tf_243 (by first | assumption | exact zS0_at (by assumption) (by omega) | exact zS0_at rfl (by omega)) (by first | assumption | exact zS0_at (by assumption) (by omega) | exact zS0_at rfl (by omega)) ?_
                    refine z_iload_3 d_Tf_pass_68 ?_
                    first | refine z_ialdNv d_Tf_pass_69 (by first | assumption | exact zS0_at (by assumption) (by omega) | exact zS0_at rfl (by omega)) (by omega) (by first | decide | omega) (by first | assumption | ((try simp (disch := omega) only [zu_same, zu_ne, zcp_ne, zfl_ne]); first | assumption | rfl)) ?_ | refine z_iald d_Tf_pass_69 (by first | assumption | exact zS0_at (by assumption) (by omega) | exact zS0_at rfl (by omega)) (by first | assumption | exact zS0_at (by assumption) (by omega) | exact zS0_at rfl (by omega)) ?_
                    refine z_Vi1 d_Tf_pass_70 k_Tf_174 (by first | assumption | exact zS0_at (by assumption) (by omega) | exact zS0_at rfl (by omega)) (t_Tf_give (by assumption)) ⟨Nat.le_of_ble_eq_true rfl, Nat.le_of_ble_eq_true rfl, Nat.le_of_ble_eq_true rfl, Nat.le_of_ble_eq_true rfl⟩ (Nat.le_of_ble_eq_true rfl) ?_
                    intro r w hq
                    obtain ⟨rfl, rfl⟩ := hq
                    refine z_reti d_Tf_pass_73 ?_
                    exact ⟨rfl, rfl⟩)
              · first
                | contradiction
                | ( skip
                    refine z_if_ne (tgt := 41) d_Tf_pass_31 (by decide) (fun h => absurd h (by decide)) (fun _ => ?_)
                    refine z_aload_0 d_Tf_pass_34 ?_
                    refine z_bipush (a := nI 9) d_Tf_pass_35 (by decide) ?_
                    refine z_Vi1 d_Tf_pass_37 k_Tf_138 (by first | assumption | exact zS0_at (by assumption) (by omega) | exact zS0_at rfl (by omega)) (t_Tf_fail (by assumption)) ⟨Nat.le_of_ble_eq_true rfl, Nat.le_of_ble_eq_true rfl, Nat.le_of_ble_eq_true rfl, Nat.le_of_ble_eq_true rfl⟩ (Nat.le_of_ble_eq_true rfl) ?_
                    intro r w hq
                    obtain ⟨rfl, rfl⟩ := hq
                    refine z_reti d_Tf_pass_40 ?_
                    exact ⟨rfl, rfl⟩)))
theorem t_Mo_pass_g {t q : Nat} (M : modOk P S) (N : modIn I nt np nl nn) (ht : t < nn) (hq : q < np) (hg : I 150 (42 + t) = -1) : zEi G y_Mo_pass prog_14_method_91_code 4 (some .int) 6 [.ref 145, .int (nI t), .int (nI q)] (I, J, P, S) (fun r w => r = -1 ∧ mW I J P S 9 w) := by
  obtain ⟨M0, ⟨M4, M4s⟩, ⟨M5, M5s⟩, ⟨M6, M6s⟩, ⟨M7, M7s⟩, ⟨M20, M20s⟩, ⟨M21, M21s⟩, ⟨M22, M22s⟩, ⟨M26, M26s⟩, ⟨M27, M27s⟩, ⟨M28, M28s⟩, ⟨M30, M30s⟩, ⟨M34, M34s⟩, ⟨M36, M36s⟩, ⟨M37, M37s⟩⟩ := id M
  obtain ⟨I1, hI1, N1, h1, h0, e150, er, ek⟩ := mo_beg N
  obtain ⟨⟨m0, m0b⟩, ⟨m1, m1b⟩, ⟨m2, m2b⟩, ⟨m3, m3b⟩, mof, mon⟩ := id N1
  have hD : mD I I1 := ⟨h1, h0, e150, er⟩
  refine zEi_of (lv := [some (.ref 145), some (.int (nI t)), some (.int (nI q)), none]) (by decide) rfl (Nat.le_of_ble_eq_true rfl) ?_
  refine z_aload_0 d_Mo_pass_0 ?_
  refine z_iconst (a := nI 0) d_Mo_pass_1 (by decide) ?_
  refine z_putI d_Mo_pass_2 f_Mo_70 (by first | assumption | exact zS0_at (by assumption) (by omega) | exact zS0_at rfl (by omega)) ?_
  refine z_aload_0 d_Mo_pass_5 ?_
  refine z_iconst (a := nI 0) d_Mo_pass_6 (by decide) ?_
  refine z_putI d_Mo_pass_7 f_Mo_73 (by first | assumption | exact zS0_at (by assumption) (by omega) | exact zS0_at rfl (by omega)) ?_
  rw [← hI1]
  have hz : zin (nI t) nn := ⟨t, by omega, rfl⟩
  have hzq : zin (nI q) np := ⟨q, by omega, rfl⟩
  have hg1 : I1 150 (42 + t) = -1 := by rw [e150, hg]
  refine z_aload_0 d_Mo_pass_10 ?_
  refine z_iload_1 d_Mo_pass_11 ?_
  refine z_Vi1 d_Mo_pass_12 k_Mo_344 (by first | assumption | exact zS0_at (by assumption) (by omega) | exact zS0_at rfl (by omega)) (t_Mo_isTinAt M N1) ⟨Nat.le_of_ble_eq_true rfl, Nat.le_of_ble_eq_true rfl, Nat.le_of_ble_eq_true rfl, Nat.le_of_ble_eq_true rfl⟩ (Nat.le_of_ble_eq_true rfl) ?_
  intro r w hq
  rcases hq with ⟨⟨hz12, rfl⟩ | ⟨hz12, rfl⟩, rfl⟩
  · first
    | contradiction
    | ( skip
        refine z_if_eq (tgt := 27) d_Mo_pass_15 (by decide) (fun h => absurd h (by decide)) (fun _ => ?_)
        refine z_aload_0 d_Mo_pass_18 ?_
        refine z_iload_2 d_Mo_pass_19 ?_
        refine z_i2l d_Mo_pass_20 ?_
        refine z_Vi1 d_Mo_pass_21 k_Mo_336 (by first | assumption | exact zS0_at (by assumption) (by omega) | exact zS0_at rfl (by omega)) (t_Mo_isPersonAtI M N1) ⟨Nat.le_of_ble_eq_true rfl, Nat.le_of_ble_eq_true rfl, Nat.le_of_ble_eq_true rfl, Nat.le_of_ble_eq_true rfl⟩ (Nat.le_of_ble_eq_true rfl) ?_
        intro r w hq
        rcases hq with ⟨⟨hz21, rfl⟩ | ⟨hz21, rfl⟩, rfl⟩
        · first
          | contradiction
          | ( skip
              refine z_if_ne (tgt := 33) d_Mo_pass_24 (by decide) (fun _ => ?_) (fun h => absurd h (by decide))
              refine z_aload_0 d_Mo_pass_33 ?_
              refine z_getR d_Mo_pass_34 f_Mo_35 (by first | assumption | exact zS0_at (by assumption) (by omega) | exact zS0_at rfl (by omega)) (by first | assumption | exact zS0_at (by assumption) (by omega) | exact zS0_at rfl (by omega)) ?_
              refine z_bipush (a := nI 42) d_Mo_pass_37 (by decide) ?_
              refine z_iload_1 d_Mo_pass_39 ?_
              first | refine z_iaddN d_Mo_pass_40 ?_ | refine z_iadd d_Mo_pass_40 ?_
              first | refine z_ialdNv d_Mo_pass_41 (by first | assumption | exact zS0_at (by assumption) (by omega) | exact zS0_at rfl (by omega)) (by omega) (by first | decide | omega) (by first | assumption | ((try simp (disch := omega) only [zu_same, zu_ne, zcp_ne, zfl_ne]); first | assumption | rfl)) ?_ | refine z_iald d_Mo_pass_41 (by first | assumption | exact zS0_at (by assumption) (by omega) | exact zS0_at rfl (by omega)) (by first | assumption | exact zS0_at (by assumption) (by omega) | exact zS0_at rfl (by omega)) ?_
              first | refine z_istore_3 d_Mo_pass_42 rfl ?_ | (refine z_forget_2 ?_; refine z_istore_3 d_Mo_pass_42 rfl ?_)
              refine z_aload_0 d_Mo_pass_43 ?_
              refine z_iload_1 d_Mo_pass_44 ?_
              refine z_iload_2 d_Mo_pass_45 ?_
              refine z_Vi2 d_Mo_pass_46 k_Mo_360 (by first | assumption | exact zS0_at (by assumption) (by omega) | exact zS0_at rfl (by omega)) (t_Mo_passes0 M N1 ht hg1) ⟨Nat.le_of_ble_eq_true rfl, Nat.le_of_ble_eq_true rfl, Nat.le_of_ble_eq_true rfl, Nat.le_of_ble_eq_true rfl⟩ (Nat.le_of_ble_eq_true rfl) ?_
              intro r w hq
              obtain ⟨rfl, rfl⟩ := hq
              refine z_if_eq (tgt := 64) d_Mo_pass_49 (by decide) (fun h49 => ?_) (fun h49 => ?_)
              · first
                | (simp (disch := omega) only [← nI_0, nI_leI, nI_ltI, nI_eq, not_true_eq_false, not_false_eq_true] at h49; done)
                | (simp (disch := omega) only [← nI_0, nI_leI, nI_ltI, nI_eq, not_true_eq_false, not_false_eq_true] at h49; omega)
                | contradiction
                | exact absurd h49 (Int32.not_lt.mpr (by assumption))
                | exact absurd h49 (Int32.not_le.mpr (by assumption))
                | exact absurd h49 (by decide)
                | exact absurd (by decide) h49
                | ( try simp (disch := omega) only [← nI_0, nI_leI, nI_ltI, nI_eq, not_true_eq_false, not_false_eq_true] at h49
                    (try have h49b := zbit_n0.mp h49); (try have h49b := zbit_p0.mp h49)
                    refine z_aload_0 d_Mo_pass_64 ?_
                    refine z_bipush (a := nI 9) d_Mo_pass_65 (by decide) ?_
                    refine z_Vi1 d_Mo_pass_67 k_Mo_327 (by first | assumption | exact zS0_at (by assumption) (by omega) | exact zS0_at rfl (by omega)) (t_Mo_refuse (by assumption)) ⟨Nat.le_of_ble_eq_true rfl, Nat.le_of_ble_eq_true rfl, Nat.le_of_ble_eq_true rfl, Nat.le_of_ble_eq_true rfl⟩ (Nat.le_of_ble_eq_true rfl) ?_
                    intro r w hq
                    obtain ⟨rfl, rfl⟩ := hq
                    refine z_reti d_Mo_pass_70 ?_
                    exact ⟨by first | rfl | assumption | (rw [e150]), _, _, rfl, (by repeat (first | exact h1 | refine mqF_z ?_ (by decide))), mqJ_r, (by first | exact zu_same _ _ _ _ | exact h0)⟩)
              · first
                | (simp (disch := omega) only [← nI_0, nI_leI, nI_ltI, nI_eq, not_true_eq_false, not_false_eq_true] at h49; done)
                | (simp (disch := omega) only [← nI_0, nI_leI, nI_ltI, nI_eq, not_true_eq_false, not_false_eq_true] at h49; omega)
                | contradiction
                | exact absurd h49 (Int32.not_lt.mpr (by assumption))
                | exact absurd h49 (Int32.not_le.mpr (by assumption))
                | exact absurd h49 (by decide)
                | exact absurd (by decide) h49
                | ( try simp (disch := omega) only [← nI_0, nI_leI, nI_ltI, nI_eq, not_true_eq_false, not_false_eq_true] at h49
                    (try have h49b := zbit_n0.mp h49); (try have h49b := zbit_p0.mp h49)
                    contradiction))
        · first
          | contradiction
          | ( skip
              refine z_if_ne (tgt := 33) d_Mo_pass_24 (by decide) (fun h => absurd h (by decide)) (fun _ => ?_)
              refine z_aload_0 d_Mo_pass_27 ?_
              refine z_iconst (a := nI 2) d_Mo_pass_28 (by decide) ?_
              refine z_Vi1 d_Mo_pass_29 k_Mo_327 (by first | assumption | exact zS0_at (by assumption) (by omega) | exact zS0_at rfl (by omega)) (t_Mo_refuse (by assumption)) ⟨Nat.le_of_ble_eq_true rfl, Nat.le_of_ble_eq_true rfl, Nat.le_of_ble_eq_true rfl, Nat.le_of_ble_eq_true rfl⟩ (Nat.le_of_ble_eq_true rfl) ?_
              intro r w hq
              obtain ⟨rfl, rfl⟩ := hq
              refine z_reti d_Mo_pass_32 ?_
              exact ⟨by first | rfl | assumption | (rw [e150]), _, _, rfl, (by repeat (first | exact h1 | refine mqF_z ?_ (by decide))), mqJ_r, (by first | exact zu_same _ _ _ _ | exact h0)⟩))
  · first
    | contradiction
    | ( skip
        refine z_if_eq (tgt := 27) d_Mo_pass_15 (by decide) (fun _ => ?_) (fun h => absurd h (by decide))
        refine z_aload_0 d_Mo_pass_27 ?_
        refine z_iconst (a := nI 2) d_Mo_pass_28 (by decide) ?_
        refine z_Vi1 d_Mo_pass_29 k_Mo_327 (by first | assumption | exact zS0_at (by assumption) (by omega) | exact zS0_at rfl (by omega)) (t_Mo_refuse (by assumption)) ⟨Nat.le_of_ble_eq_true rfl, Nat.le_of_ble_eq_true rfl, Nat.le_of_ble_eq_true rfl, Nat.le_of_ble_eq_true rfl⟩ (Nat.le_of_ble_eq_true rfl) ?_
        intro r w hq
        obtain ⟨rfl, rfl⟩ := hq
        refine z_reti d_Mo_pass_32 ?_
        exact ⟨by first | rfl | assumption | (rw [e150]), _, _, rfl, (by repeat (first | exact h1 | refine mqF_z ?_ (by decide))), mqJ_r, (by first | exact zu_same _ _ _ _ | exact h0)⟩)
theorem t_Mo_passes_n {t k p q : Nat} (M : modOk P S) (N : modIn I nt np nl nn) (ht : t < nn) (hk : I 150 (33 + t) = nI k) (hk6 : k < 6) (hp : I 150 (42 + t) = nI p) (hp2 : p < np) (hq : q < np) (hn : ¬ (zbit (I 150 (19 + p)) q ∧ zbit (I 150 (12 + q)) k)) : zEi G y_Mo_passes prog_14_method_90_code 4 (some .boolean) 4 [.ref 145, .int (nI t), .int (nI q)] (I, J, P, S) (fun r w => r = nI 0 ∧ w = (I, J, P, S)) := by
  refine zEi_mono (t_Mo_passes M N ht hk hk6 hp hp2 hq) ?_
  rintro r w (⟨h, -⟩ | ⟨-, h1, h2⟩)
  · exact absurd h hn
  · exact ⟨h1, h2⟩
theorem t_Mo_passes_y {t k p q : Nat} (M : modOk P S) (N : modIn I nt np nl nn) (ht : t < nn) (hk : I 150 (33 + t) = nI k) (hk6 : k < 6) (hp : I 150 (42 + t) = nI p) (hp2 : p < np) (hq : q < np) (hn : zbit (I 150 (19 + p)) q ∧ zbit (I 150 (12 + q)) k) : zEi G y_Mo_passes prog_14_method_90_code 4 (some .boolean) 4 [.ref 145, .int (nI t), .int (nI q)] (I, J, P, S) (fun r w => r = nI 1 ∧ w = (m_hand I t k p q, J, P, S)) := by
  refine zEi_mono (t_Mo_passes M N ht hk hk6 hp hp2 hq) ?_
  rintro r w (⟨-, h1, h2⟩ | ⟨h, -⟩)
  · exact ⟨h1, h2⟩
  · exact absurd hn h
theorem t_Mo_pass_n {t q k p : Nat} (M : modOk P S) (N : modIn I nt np nl nn) (ht : t < nn) (hq : q < np) (hk : I 150 (33 + t) = nI k) (hk6 : k < 6) (hp : I 150 (42 + t) = nI p) (hp2 : p < np) (hn : ¬ (zbit (I 150 (19 + p)) q ∧ zbit (I 150 (12 + q)) k)) : zEi G y_Mo_pass prog_14_method_91_code 4 (some .int) 6 [.ref 145, .int (nI t), .int (nI q)] (I, J, P, S) (fun r w => r = -1 ∧ mW I J P S 9 w) := by
  obtain ⟨M0, ⟨M4, M4s⟩, ⟨M5, M5s⟩, ⟨M6, M6s⟩, ⟨M7, M7s⟩, ⟨M20, M20s⟩, ⟨M21, M21s⟩, ⟨M22, M22s⟩, ⟨M26, M26s⟩, ⟨M27, M27s⟩, ⟨M28, M28s⟩, ⟨M30, M30s⟩, ⟨M34, M34s⟩, ⟨M36, M36s⟩, ⟨M37, M37s⟩⟩ := id M
  obtain ⟨I1, hI1, N1, h1, h0, e150, er, ek⟩ := mo_beg N
  obtain ⟨⟨m0, m0b⟩, ⟨m1, m1b⟩, ⟨m2, m2b⟩, ⟨m3, m3b⟩, mof, mon⟩ := id N1
  have hD : mD I I1 := ⟨h1, h0, e150, er⟩
  refine zEi_of (lv := [some (.ref 145), some (.int (nI t)), some (.int (nI q)), none]) (by decide) rfl (Nat.le_of_ble_eq_true rfl) ?_
  refine z_aload_0 d_Mo_pass_0 ?_
  refine z_iconst (a := nI 0) d_Mo_pass_1 (by decide) ?_
  refine z_putI d_Mo_pass_2 f_Mo_70 (by first | assumption | exact zS0_at (by assumption) (by omega) | exact zS0_at rfl (by omega)) ?_
  refine z_aload_0 d_Mo_pass_5 ?_
  refine z_iconst (a := nI 0) d_Mo_pass_6 (by decide) ?_
  refine z_putI d_Mo_pass_7 f_Mo_73 (by first | assumption | exact zS0_at (by assumption) (by omega) | exact zS0_at rfl (by omega)) ?_
  rw [← hI1]
  have hz : zin (nI t) nn := ⟨t, by omega, rfl⟩
  have hzq : zin (nI q) np := ⟨q, by omega, rfl⟩
  have hk1 : I1 150 (33 + t) = nI k := by rw [e150, hk]
  have hp1 : I1 150 (42 + t) = nI p := by rw [e150, hp]
  have hn1 : ¬ (zbit (I1 150 (19 + p)) q ∧ zbit (I1 150 (12 + q)) k) := by rw [e150]; exact hn
  refine z_aload_0 d_Mo_pass_10 ?_
  refine z_iload_1 d_Mo_pass_11 ?_
  refine z_Vi1 d_Mo_pass_12 k_Mo_344 (by first | assumption | exact zS0_at (by assumption) (by omega) | exact zS0_at rfl (by omega)) (t_Mo_isTinAt M N1) ⟨Nat.le_of_ble_eq_true rfl, Nat.le_of_ble_eq_true rfl, Nat.le_of_ble_eq_true rfl, Nat.le_of_ble_eq_true rfl⟩ (Nat.le_of_ble_eq_true rfl) ?_
  intro r w hq
  rcases hq with ⟨⟨hz12, rfl⟩ | ⟨hz12, rfl⟩, rfl⟩
  · first
    | contradiction
    | ( skip
        refine z_if_eq (tgt := 27) d_Mo_pass_15 (by decide) (fun h => absurd h (by decide)) (fun _ => ?_)
        refine z_aload_0 d_Mo_pass_18 ?_
        refine z_iload_2 d_Mo_pass_19 ?_
        refine z_i2l d_Mo_pass_20 ?_
        refine z_Vi1 d_Mo_pass_21 k_Mo_336 (by first | assumption | exact zS0_at (by assumption) (by omega) | exact zS0_at rfl (by omega)) (t_Mo_isPersonAtI M N1) ⟨Nat.le_of_ble_eq_true rfl, Nat.le_of_ble_eq_true rfl, Nat.le_of_ble_eq_true rfl, Nat.le_of_ble_eq_true rfl⟩ (Nat.le_of_ble_eq_true rfl) ?_
        intro r w hq
        rcases hq with ⟨⟨hz21, rfl⟩ | ⟨hz21, rfl⟩, rfl⟩
        · first
          | contradiction
          | ( skip
              refine z_if_ne (tgt := 33) d_Mo_pass_24 (by decide) (fun _ => ?_) (fun h => absurd h (by decide))
              refine z_aload_0 d_Mo_pass_33 ?_
              refine z_getR d_Mo_pass_34 f_Mo_35 (by first | assumption | exact zS0_at (by assumption) (by omega) | exact zS0_at rfl (by omega)) (by first | assumption | exact zS0_at (by assumption) (by omega) | exact zS0_at rfl (by omega)) ?_
              refine z_bipush (a := nI 42) d_Mo_pass_37 (by decide) ?_
              refine z_iload_1 d_Mo_pass_39 ?_
              first | refine z_iaddN d_Mo_pass_40 ?_ | refine z_iadd d_Mo_pass_40 ?_
              first | refine z_ialdNv d_Mo_pass_41 (by first | assumption | exact zS0_at (by assumption) (by omega) | exact zS0_at rfl (by omega)) (by omega) (by first | decide | omega) (by first | assumption | ((try simp (disch := omega) only [zu_same, zu_ne, zcp_ne, zfl_ne]); first | assumption | rfl)) ?_ | refine z_iald d_Mo_pass_41 (by first | assumption | exact zS0_at (by assumption) (by omega) | exact zS0_at rfl (by omega)) (by first | assumption | exact zS0_at (by assumption) (by omega) | exact zS0_at rfl (by omega)) ?_
              first | refine z_istore_3 d_Mo_pass_42 rfl ?_ | (refine z_forget_2 ?_; refine z_istore_3 d_Mo_pass_42 rfl ?_)
              refine z_aload_0 d_Mo_pass_43 ?_
              refine z_iload_1 d_Mo_pass_44 ?_
              refine z_iload_2 d_Mo_pass_45 ?_
              refine z_Vi2 d_Mo_pass_46 k_Mo_360 (by first | assumption | exact zS0_at (by assumption) (by omega) | exact zS0_at rfl (by omega)) (t_Mo_passes_n M N1 ht hk1 hk6 hp1 hp2 hq hn1) ⟨Nat.le_of_ble_eq_true rfl, Nat.le_of_ble_eq_true rfl, Nat.le_of_ble_eq_true rfl, Nat.le_of_ble_eq_true rfl⟩ (Nat.le_of_ble_eq_true rfl) ?_
              intro r w hq
              obtain ⟨rfl, rfl⟩ := hq
              refine z_if_eq (tgt := 64) d_Mo_pass_49 (by decide) (fun h49 => ?_) (fun h49 => ?_)
              · first
                | (simp (disch := omega) only [← nI_0, nI_leI, nI_ltI, nI_eq, not_true_eq_false, not_false_eq_true] at h49; done)
                | (simp (disch := omega) only [← nI_0, nI_leI, nI_ltI, nI_eq, not_true_eq_false, not_false_eq_true] at h49; omega)
                | contradiction
                | exact absurd h49 (Int32.not_lt.mpr (by assumption))
                | exact absurd h49 (Int32.not_le.mpr (by assumption))
                | exact absurd h49 (by decide)
                | exact absurd (by decide) h49
                | ( try simp (disch := omega) only [← nI_0, nI_leI, nI_ltI, nI_eq, not_true_eq_false, not_false_eq_true] at h49
                    (try have h49b := zbit_n0.mp h49); (try have h49b := zbit_p0.mp h49)
                    refine z_aload_0 d_Mo_pass_64 ?_
                    refine z_bipush (a := nI 9) d_Mo_pass_65 (by decide) ?_
                    refine z_Vi1 d_Mo_pass_67 k_Mo_327 (by first | assumption | exact zS0_at (by assumption) (by omega) | exact zS0_at rfl (by omega)) (t_Mo_refuse (by assumption)) ⟨Nat.le_of_ble_eq_true rfl, Nat.le_of_ble_eq_true rfl, Nat.le_of_ble_eq_true rfl, Nat.le_of_ble_eq_true rfl⟩ (Nat.le_of_ble_eq_true rfl) ?_
                    intro r w hq
                    obtain ⟨rfl, rfl⟩ := hq
                    refine z_reti d_Mo_pass_70 ?_
                    exact ⟨by first | rfl | assumption | (rw [e150]), _, _, rfl, (by repeat (first | exact h1 | refine mqF_z ?_ (by decide))), mqJ_r, (by first | exact zu_same _ _ _ _ | exact h0)⟩)
              · first
                | (simp (disch := omega) only [← nI_0, nI_leI, nI_ltI, nI_eq, not_true_eq_false, not_false_eq_true] at h49; done)
                | (simp (disch := omega) only [← nI_0, nI_leI, nI_ltI, nI_eq, not_true_eq_false, not_false_eq_true] at h49; omega)
                | contradiction
                | exact absurd h49 (Int32.not_lt.mpr (by assumption))
                | exact absurd h49 (Int32.not_le.mpr (by assumption))
                | exact absurd h49 (by decide)
                | exact absurd (by decide) h49
                | ( try simp (disch := omega) only [← nI_0, nI_leI, nI_ltI, nI_eq, not_true_eq_false, not_false_eq_true] at h49
                    (try have h49b := zbit_n0.mp h49); (try have h49b := zbit_p0.mp h49)
                    contradiction))
        · first
          | contradiction
          | ( skip
              refine z_if_ne (tgt := 33) d_Mo_pass_24 (by decide) (fun h => absurd h (by decide)) (fun _ => ?_)
              refine z_aload_0 d_Mo_pass_27 ?_
              refine z_iconst (a := nI 2) d_Mo_pass_28 (by decide) ?_
              refine z_Vi1 d_Mo_pass_29 k_Mo_327 (by first | assumption | exact zS0_at (by assumption) (by omega) | exact zS0_at rfl (by omega)) (t_Mo_refuse (by assumption)) ⟨Nat.le_of_ble_eq_true rfl, Nat.le_of_ble_eq_true rfl, Nat.le_of_ble_eq_true rfl, Nat.le_of_ble_eq_true rfl⟩ (Nat.le_of_ble_eq_true rfl) ?_
              intro r w hq
              obtain ⟨rfl, rfl⟩ := hq
              refine z_reti d_Mo_pass_32 ?_
              exact ⟨by first | rfl | assumption | (rw [e150]), _, _, rfl, (by repeat (first | exact h1 | refine mqF_z ?_ (by decide))), mqJ_r, (by first | exact zu_same _ _ _ _ | exact h0)⟩))
  · first
    | contradiction
    | ( skip
        refine z_if_eq (tgt := 27) d_Mo_pass_15 (by decide) (fun _ => ?_) (fun h => absurd h (by decide))
        refine z_aload_0 d_Mo_pass_27 ?_
        refine z_iconst (a := nI 2) d_Mo_pass_28 (by decide) ?_
        refine z_Vi1 d_Mo_pass_29 k_Mo_327 (by first | assumption | exact zS0_at (by assumption) (by omega) | exact zS0_at rfl (by omega)) (t_Mo_refuse (by assumption)) ⟨Nat.le_of_ble_eq_true rfl, Nat.le_of_ble_eq_true rfl, Nat.le_of_ble_eq_true rfl, Nat.le_of_ble_eq_true rfl⟩ (Nat.le_of_ble_eq_true rfl) ?_
        intro r w hq
        obtain ⟨rfl, rfl⟩ := hq
        refine z_reti d_Mo_pass_32 ?_
        exact ⟨by first | rfl | assumption | (rw [e150]), _, _, rfl, (by repeat (first | exact h1 | refine mqF_z ?_ (by decide))), mqJ_r, (by first | exact zu_same _ _ _ _ | exact h0)⟩)
theorem t_Mo_pass {t q k p : Nat} (M : modOk P S) (N : modIn I nt np nl nn) (ht : t < nn) (hq : q < np) (hk : I 150 (33 + t) = nI k) (hk6 : k < 6) (hp : I 150 (42 + t) = nI p) (hp2 : p < np) (hn : zbit (I 150 (19 + p)) q ∧ zbit (I 150 (12 + q)) k) : zEi G y_Mo_pass prog_14_method_91_code 4 (some .int) 6 [.ref 145, .int (nI t), .int (nI q)] (I, J, P, S) (fun r w => r = I 150 (26 + p) + I 150 (6 + k) ∧ ∃ I1, mD I I1 ∧ w = (m_hand I1 t k p q, J, P, S)) := by
  obtain ⟨M0, ⟨M4, M4s⟩, ⟨M5, M5s⟩, ⟨M6, M6s⟩, ⟨M7, M7s⟩, ⟨M20, M20s⟩, ⟨M21, M21s⟩, ⟨M22, M22s⟩, ⟨M26, M26s⟩, ⟨M27, M27s⟩, ⟨M28, M28s⟩, ⟨M30, M30s⟩, ⟨M34, M34s⟩, ⟨M36, M36s⟩, ⟨M37, M37s⟩⟩ := id M
  obtain ⟨I1, hI1, N1, h1, h0, e150, er, ek⟩ := mo_beg N
  obtain ⟨⟨m0, m0b⟩, ⟨m1, m1b⟩, ⟨m2, m2b⟩, ⟨m3, m3b⟩, mof, mon⟩ := id N1
  have hD : mD I I1 := ⟨h1, h0, e150, er⟩
  refine zEi_of (lv := [some (.ref 145), some (.int (nI t)), some (.int (nI q)), none]) (by decide) rfl (Nat.le_of_ble_eq_true rfl) ?_
  refine z_aload_0 d_Mo_pass_0 ?_
  refine z_iconst (a := nI 0) d_Mo_pass_1 (by decide) ?_
  refine z_putI d_Mo_pass_2 f_Mo_70 (by first | assumption | exact zS0_at (by assumption) (by omega) | exact zS0_at rfl (by omega)) ?_
  refine z_aload_0 d_Mo_pass_5 ?_
  refine z_iconst (a := nI 0) d_Mo_pass_6 (by decide) ?_
  refine z_putI d_Mo_pass_7 f_Mo_73 (by first | assumption | exact zS0_at (by assumption) (by omega) | exact zS0_at rfl (by omega)) ?_
  rw [← hI1]
  have hz : zin (nI t) nn := ⟨t, by omega, rfl⟩
  have hzq : zin (nI q) np := ⟨q, by omega, rfl⟩
  have hk1 : I1 150 (33 + t) = nI k := by rw [e150, hk]
  have hp1 : I1 150 (42 + t) = nI p := by rw [e150, hp]
  have hn1 : zbit (I1 150 (19 + p)) q ∧ zbit (I1 150 (12 + q)) k := by rw [e150]; exact hn
  have hgot : m_hand I1 t k p q 150 (26 + p) = I 150 (26 + p) + I 150 (6 + k) := by
    unfold m_hand
    rw [zu_ne _ _ _ _ (by omega), zu_ne _ _ _ _ (by omega), zu_ne _ _ _ _ (by omega), zu_ne _ _ _ _ (by omega), zu_same, e150]
  refine z_aload_0 d_Mo_pass_10 ?_
  refine z_iload_1 d_Mo_pass_11 ?_
  refine z_Vi1 d_Mo_pass_12 k_Mo_344 (by first | assumption | exact zS0_at (by assumption) (by omega) | exact zS0_at rfl (by omega)) (t_Mo_isTinAt M N1) ⟨Nat.le_of_ble_eq_true rfl, Nat.le_of_ble_eq_true rfl, Nat.le_of_ble_eq_true rfl, Nat.le_of_ble_eq_true rfl⟩ (Nat.le_of_ble_eq_true rfl) ?_
  intro r w hq
  rcases hq with ⟨⟨hz12, rfl⟩ | ⟨hz12, rfl⟩, rfl⟩
  · first
    | contradiction
    | ( skip
        refine z_if_eq (tgt := 27) d_Mo_pass_15 (by decide) (fun h => absurd h (by decide)) (fun _ => ?_)
        refine z_aload_0 d_Mo_pass_18 ?_
        refine z_iload_2 d_Mo_pass_19 ?_
        refine z_i2l d_Mo_pass_20 ?_
        refine z_Vi1 d_Mo_pass_21 k_Mo_336 (by first | assumption | exact zS0_at (by assumption) (by omega) | exact zS0_at rfl (by omega)) (t_Mo_isPersonAtI M N1) ⟨Nat.le_of_ble_eq_true rfl, Nat.le_of_ble_eq_true rfl, Nat.le_of_ble_eq_true rfl, Nat.le_of_ble_eq_true rfl⟩ (Nat.le_of_ble_eq_true rfl) ?_
        intro r w hq
        rcases hq with ⟨⟨hz21, rfl⟩ | ⟨hz21, rfl⟩, rfl⟩
        · first
          | contradiction
          | ( skip
              refine z_if_ne (tgt := 33) d_Mo_pass_24 (by decide) (fun _ => ?_) (fun h => absurd h (by decide))
              refine z_aload_0 d_Mo_pass_33 ?_
              refine z_getR d_Mo_pass_34 f_Mo_35 (by first | assumption | exact zS0_at (by assumption) (by omega) | exact zS0_at rfl (by omega)) (by first | assumption | exact zS0_at (by assumption) (by omega) | exact zS0_at rfl (by omega)) ?_
              refine z_bipush (a := nI 42) d_Mo_pass_37 (by decide) ?_
              refine z_iload_1 d_Mo_pass_39 ?_
              first | refine z_iaddN d_Mo_pass_40 ?_ | refine z_iadd d_Mo_pass_40 ?_
              first | refine z_ialdNv d_Mo_pass_41 (by first | assumption | exact zS0_at (by assumption) (by omega) | exact zS0_at rfl (by omega)) (by omega) (by first | decide | omega) (by first | assumption | ((try simp (disch := omega) only [zu_same, zu_ne, zcp_ne, zfl_ne]); first | assumption | rfl)) ?_ | refine z_iald d_Mo_pass_41 (by first | assumption | exact zS0_at (by assumption) (by omega) | exact zS0_at rfl (by omega)) (by first | assumption | exact zS0_at (by assumption) (by omega) | exact zS0_at rfl (by omega)) ?_
              first | refine z_istore_3 d_Mo_pass_42 rfl ?_ | (refine z_forget_2 ?_; refine z_istore_3 d_Mo_pass_42 rfl ?_)
              refine z_aload_0 d_Mo_pass_43 ?_
              refine z_iload_1 d_Mo_pass_44 ?_
              refine z_iload_2 d_Mo_pass_45 ?_
              refine z_Vi2 d_Mo_pass_46 k_Mo_360 (by first | assumption | exact zS0_at (by assumption) (by omega) | exact zS0_at rfl (by omega)) (t_Mo_passes_y M N1 ht hk1 hk6 hp1 hp2 hq hn1) ⟨Nat.le_of_ble_eq_true rfl, Nat.le_of_ble_eq_true rfl, Nat.le_of_ble_eq_true rfl, Nat.le_of_ble_eq_true rfl⟩ (Nat.le_of_ble_eq_true rfl) ?_
              intro r w hq
              obtain ⟨rfl, rfl⟩ := hq
              refine z_if_eq (tgt := 64) d_Mo_pass_49 (by decide) (fun h49 => ?_) (fun h49 => ?_)
              · first
                | (simp (disch := omega) only [← nI_0, nI_leI, nI_ltI, nI_eq, not_true_eq_false, not_false_eq_true] at h49; done)
                | (simp (disch := omega) only [← nI_0, nI_leI, nI_ltI, nI_eq, not_true_eq_false, not_false_eq_true] at h49; omega)
                | contradiction
                | exact absurd h49 (Int32.not_lt.mpr (by assumption))
                | exact absurd h49 (Int32.not_le.mpr (by assumption))
                | exact absurd h49 (by decide)
                | exact absurd (by decide) h49
                | ( try simp (disch := omega) only [← nI_0, nI_leI, nI_ltI, nI_eq, not_true_eq_false, not_false_eq_true] at h49
                    (try have h49b := zbit_n0.mp h49); (try have h49b := zbit_p0.mp h49)
                    refine z_aload_0 d_Mo_pass_64 ?_
                    refine z_bipush (a := nI 9) d_Mo_pass_65 (by decide) ?_
                    refine z_Vi1 d_Mo_pass_67 k_Mo_327 (by first | assumption | exact zS0_at (by assumption) (by omega) | exact zS0_at rfl (by omega)) (t_Mo_refuse (by assumption)) ⟨Nat.le_of_ble_eq_true rfl, Nat.le_of_ble_eq_true rfl, Nat.le_of_ble_eq_true rfl, Nat.le_of_ble_eq_true rfl⟩ (Nat.le_of_ble_eq_true rfl) ?_
                    intro r w hq
                    obtain ⟨rfl, rfl⟩ := hq
                    refine z_reti d_Mo_pass_70 ?_
                    exact ⟨rfl, I1, hD, rfl⟩)
              · first
                | (simp (disch := omega) only [← nI_0, nI_leI, nI_ltI, nI_eq, not_true_eq_false, not_false_eq_true] at h49; done)
                | (simp (disch := omega) only [← nI_0, nI_leI, nI_ltI, nI_eq, not_true_eq_false, not_false_eq_true] at h49; omega)
                | contradiction
                | exact absurd h49 (Int32.not_lt.mpr (by assumption))
                | exact absurd h49 (Int32.not_le.mpr (by assumption))
                | exact absurd h49 (by decide)
                | exact absurd (by decide) h49
                | ( try simp (disch := omega) only [← nI_0, nI_leI, nI_ltI, nI_eq, not_true_eq_false, not_false_eq_true] at h49
                    (try have h49b := zbit_n0.mp h49); (try have h49b := zbit_p0.mp h49)
                    refine z_aload_0 d_Mo_pass_52 ?_
                    refine z_getR d_Mo_pass_53 f_Mo_35 (by first | assumption | exact zS0_at (by assumption) (by omega) | exact zS0_at rfl (by omega)) (by first | assumption | exact zS0_at (by assumption) (by omega) | exact zS0_at rfl (by omega)) ?_
                    refine z_bipush (a := nI 26) d_Mo_pass_56 (by decide) ?_
                    refine z_iload_3 d_Mo_pass_58 ?_
                    first | refine z_iaddN d_Mo_pass_59 ?_ | refine z_iadd d_Mo_pass_59 ?_
                    first | refine z_ialdNv d_Mo_pass_60 (by first | assumption | exact zS0_at (by assumption) (by omega) | exact zS0_at rfl (by omega)) (by omega) (by first | decide | omega) (by first | assumption | ((try simp (disch := omega) only [zu_same, zu_ne, zcp_ne, zfl_ne]); first | assumption | rfl)) ?_ | refine z_iald d_Mo_pass_60 (by first | assumption | exact zS0_at (by assumption) (by omega) | exact zS0_at rfl (by omega)) (by first | assumption | exact zS0_at (by assumption) (by omega) | exact zS0_at rfl (by omega)) ?_
                    refine z_goto (tgt := 70) d_Mo_pass_61 (by decide) ?_
                    refine z_reti d_Mo_pass_70 ?_
                    exact ⟨rfl, I1, hD, rfl⟩))
        · first
          | contradiction
          | ( skip
              refine z_if_ne (tgt := 33) d_Mo_pass_24 (by decide) (fun h => absurd h (by decide)) (fun _ => ?_)
              refine z_aload_0 d_Mo_pass_27 ?_
              refine z_iconst (a := nI 2) d_Mo_pass_28 (by decide) ?_
              refine z_Vi1 d_Mo_pass_29 k_Mo_327 (by first | assumption | exact zS0_at (by assumption) (by omega) | exact zS0_at rfl (by omega)) (t_Mo_refuse (by assumption)) ⟨Nat.le_of_ble_eq_true rfl, Nat.le_of_ble_eq_true rfl, Nat.le_of_ble_eq_true rfl, Nat.le_of_ble_eq_true rfl⟩ (Nat.le_of_ble_eq_true rfl) ?_
              intro r w hq
              obtain ⟨rfl, rfl⟩ := hq
              refine z_reti d_Mo_pass_32 ?_
              exact ⟨rfl, I1, hD, rfl⟩))
  · first
    | contradiction
    | ( skip
        refine z_if_eq (tgt := 27) d_Mo_pass_15 (by decide) (fun _ => ?_) (fun h => absurd h (by decide))
        refine z_aload_0 d_Mo_pass_27 ?_
        refine z_iconst (a := nI 2) d_Mo_pass_28 (by decide) ?_
        refine z_Vi1 d_Mo_pass_29 k_Mo_327 (by first | assumption | exact zS0_at (by assumption) (by omega) | exact zS0_at rfl (by omega)) (t_Mo_refuse (by assumption)) ⟨Nat.le_of_ble_eq_true rfl, Nat.le_of_ble_eq_true rfl, Nat.le_of_ble_eq_true rfl, Nat.le_of_ble_eq_true rfl⟩ (Nat.le_of_ble_eq_true rfl) ?_
        intro r w hq
        obtain ⟨rfl, rfl⟩ := hq
        refine z_reti d_Mo_pass_32 ?_
        exact ⟨rfl, I1, hD, rfl⟩)
theorem L_pass (h : zInv n w) : zEi G y_Tf_pass prog_1_method_18_code 4 (some .int) 4 [.ref 0, .int a, .int b] w (fun r w1 => w1.2.2.2 = w.2.2.2 ∧ zEi G y_Mo_pass prog_14_method_91_code 4 (some .int) 6 [.ref 145, .int a, .int b] w1 (fun r' w2 => r' = r ∧ zInv (n + 1) w2)) := by
  obtain ⟨f, d, nt, np, nl, nn, fed, mk, I, J, P, S, rfl, Z, X⟩ := h
  have M := clOk_M Z
  have hf := clOk_f Z
  have N := stR_fen X
  have N0 := stR_mod X
  have fm := stR_fm X
  obtain ⟨⟨⟨a1, r1, b1⟩, ⟨a2, r2, b2⟩, ⟨a3, r3, b3⟩, ⟨a4, r4, b4⟩⟩, ⟨⟨o, ob, ao, ro⟩, r5⟩, fw, fp, ft, fz⟩ := id fm
  by_cases ha : zin a nn
  rotate_left
  · exact L_q Z X (t_Tf_pass_o Z N (Or.inl ha)) (fun I' J' e _ => ⟨_, rfl, t_Mo_pass_o M (modIn_c N0 (e 150 (by decide))) (Or.inl ha)⟩)
  by_cases hb : zin b np
  rotate_left
  · exact L_q Z X (t_Tf_pass_o Z N (Or.inr hb)) (fun I' J' e _ => ⟨_, rfl, t_Mo_pass_o M (modIn_c N0 (e 150 (by decide))) (Or.inr hb)⟩)
  obtain ⟨t, ht, rfl⟩ := ha
  obtain ⟨q, hq, rfl⟩ := hb
  obtain ⟨⟨k, hk, k1, k2⟩, ⟨g1, g2⟩, g3, g4, g5, -⟩ := ft t ht
  have k1 : I (f + 5) t = nI k := k1
  have g2 : I 150 (42 + t) = I (f + 6) t := g2
  have g4 : I 150 (60 + t) = zb (I f 7) t := g4
  have e12 : I 150 (12 + q) = I (f + 2) q := (fp q hq).1
  rcases g1 with g1 | ⟨p, hp, g1⟩
  · exact L_q Z X (t_Tf_pass_g Z N ht hq g1) (fun I' J' e _ => ⟨_, rfl, t_Mo_pass_g M (modIn_c N0 (e 150 (by decide))) ht hq (by rw [e 150 (by decide)]; exact g2.trans g1)⟩)
  have e19 : I 150 (19 + p) = I (f + 3) p := (fp p hp).2.1
  have hs : ∀ a, ¬ (f ≤ a ∧ a ≤ f + 8) → s_hand I f t k p q a = I a := fun a ha => by
    unfold s_hand
    rw [zu_row _ _ _ _ (by omega), zu_row _ _ _ _ (by omega), zu_row _ _ _ _ (by omega), zu_row _ _ _ _ (by omega), zu_row _ _ _ _ (by omega)]
  have h150 : zu (s_hand I f t k p q) 0 0 (nI 0) 150 = I 150 := by rw [zu_row _ _ _ _ (by decide), hs 150 (by omega)]
  by_cases hn : zbit (I (f + 3) p) q ∧ zbit (I (f + 2) q) k
  rotate_left
  · exact L_q Z X (t_Tf_pass_n Z N ht hq k1 g1 hp hn) (fun I' J' e _ => ⟨_, rfl, t_Mo_pass_n M (modIn_c N0 (e 150 (by decide))) ht hq (by rw [e 150 (by decide)]; exact k2) (by omega) (by rw [e 150 (by decide)]; exact g2.trans g1) hp (by rw [e 150 (by decide), e19, e12]; exact hn)⟩)
  refine zEi_mono (t_Tf_pass Z N ht hq k1 hk g1 hp hn) ?_
  rintro r w ⟨rfl, rfl⟩
  refine ⟨rfl, zEi_mono (t_Mo_pass M (modIn_c N0 h150) ht hq (by rw [h150]; exact k2) (by omega) (by rw [h150]; exact g2.trans g1) hp (by rw [h150, e19, e12]; exact hn)) ?_⟩
  rintro r w ⟨rfl, I1, hD, rfl⟩
  refine ⟨by rw [h150]; obtain ⟨-, -, v, -, v1, v2⟩ := fp p hp; obtain ⟨u, -, u1, u2⟩ := fw k hk; have v3 : I (f + 4) p = nI v := v1; have u3 : I (f + 1) k = nI u := u1; rw [v2, u2, v3, u3], L_fin (nl' := nl) (nn' := nn) Z X (hs) hD (fun a ha => by unfold m_hand; rw [zu_row _ _ _ _ ha, zu_row _ _ _ _ ha, zu_row _ _ _ _ ha, zu_row _ _ _ _ ha, zu_row _ _ _ _ ha]) (fun k hk => by unfold m_hand; rw [zu_ne _ _ _ _ (by omega), zu_ne _ _ _ _ (by omega), zu_ne _ _ _ _ (by omega), zu_ne _ _ _ _ (by omega), zu_ne _ _ _ _ (by omega)]) ?_ (Nat.le_refl _) (jL_r) ⟨X.1.2.1, X.1.2.2⟩ (fun k _ _ => by omega)⟩
  rw [sf_hand]; exact fmR_g (fmR_hand ht k1 hk g1 hp hq (by rw [hD.2.2.1, h150]; exact fm)) (by omega)
end OD0
