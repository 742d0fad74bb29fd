/-! the call fen, both sides, on -/
section FN1
variable {G : zG} {I I' I1 I2 : Nat → Nat → Int32} {J J' J1 J2 : Nat → Nat → Int64} {P P' : Nat → Nat → Option Nat} {S : List (Nat × Nat)} {f d nt np nl nn n fed mk m : Nat} {w : zW} {a : Int32} {s : pS}
theorem modOk_P (M : modOk P S) (h : ∀ k, P' 145 k = P 145 k) : modOk P' S := by
  unfold modOk
  rw [h, h, h, h, h, h, h, h, h, h, h, h, h, h]
  exact M
theorem clOk_P {f' d' : Nat} (Z : clOk f d P S) (h : ∀ a k, ¬ (a = 11 ∧ k = 0) → ¬ (a = 0 ∧ (k = 9 ∨ k = 10)) → P' a k = P a k) (h9 : P' 0 9 = some f') (h10 : P' 0 10 = some d') (hfd : f' = f ∧ d' = d ∨ f' = d ∧ d' = f) : clOk f' d' P' S := by
  obtain ⟨⟨c0, c3, c1s⟩, ⟨c5, c2s, ctr⟩, ⟨c6, c11s, c11, c13s⟩, ⟨c7, c15s, c15⟩, ⟨c8, c16s, c16a, c16b, c17s⟩, ⟨c9, c10, cfd, F, Fd⟩, ⟨c11b, Ft⟩, ⟨c12, c69s, cmk⟩, ⟨c14, c121s, c121, c122s⟩, ⟨c15b, c123s, c123, c124s⟩, ⟨c16, c125s, c125, c126s⟩, ⟨c17, c127s, c127, c128s, ctb⟩, ⟨c18, c139s, c139, c140s⟩, ⟨c19, c141s, ⟨c141a, c142s⟩, ⟨c141b, c143s⟩, ⟨c141c, c144s⟩⟩, M⟩ := id Z
  have hr : ∀ a, 12 ≤ a → P' a = P a := fun a ha => by funext k; exact h a k (by omega) (by omega)
  have Fo : ∀ x, 12 ≤ x → fenOk P S x → fenOk P' S x := fun x hx q => fenOk_P q (fun a ha => hr a (by omega))
  have h0 : ∀ k, k ≠ 9 → k ≠ 10 → P' 0 k = P 0 k := fun k g1 g2 => h 0 k (by omega) (by omega)
  have F1 := Fo f (by omega) F
  have F2 := Fo d (by omega) Fd
  refine ⟨⟨c0, (h0 _ (by decide) (by decide)).trans c3, c1s⟩, ⟨(h0 _ (by decide) (by decide)).trans c5, c2s, fun t ht => ?_⟩, ⟨(h0 _ (by decide) (by decide)).trans c6, c11s, (h _ _ (by omega) (by omega)).trans c11, c13s⟩, ⟨(h0 _ (by decide) (by decide)).trans c7, c15s, (h _ _ (by omega) (by omega)).trans c15⟩, ⟨(h0 _ (by decide) (by decide)).trans c8, c16s, (h _ _ (by omega) (by omega)).trans c16a, (h _ _ (by omega) (by omega)).trans c16b, c17s⟩, ⟨h9, h10, by omega, ?_, ?_⟩, ⟨(h0 _ (by decide) (by decide)).trans c11b, Fo 52 (by omega) Ft⟩, ⟨(h0 _ (by decide) (by decide)).trans c12, c69s, fun m hm => ?_⟩, ⟨(h0 _ (by decide) (by decide)).trans c14, c121s, (h _ _ (by omega) (by omega)).trans c121, c122s⟩, ⟨(h0 _ (by decide) (by decide)).trans c15b, c123s, (h _ _ (by omega) (by omega)).trans c123, c124s⟩, ⟨(h0 _ (by decide) (by decide)).trans c16, c125s, (h _ _ (by omega) (by omega)).trans c125, c126s⟩, ⟨(h0 _ (by decide) (by decide)).trans c17, c127s, (h _ _ (by omega) (by omega)).trans c127, c128s, fun i hi => ?_⟩, ⟨(h0 _ (by decide) (by decide)).trans c18, c139s, (h _ _ (by omega) (by omega)).trans c139, c140s⟩, ⟨(h0 _ (by decide) (by decide)).trans c19, c141s, ⟨(h _ _ (by omega) (by omega)).trans c141a, c142s⟩, ⟨(h _ _ (by omega) (by omega)).trans c141b, c143s⟩, ⟨(h _ _ (by omega) (by omega)).trans c141c, c144s⟩⟩, modOk_P M (fun k => h _ _ (by omega) (by omega))⟩
  · obtain ⟨q1, q2, q3, q4⟩ := ctr t ht
    exact ⟨(h _ _ (by omega) (by omega)).trans q1, q2, (h _ _ (by omega) (by omega)).trans q3, q4⟩
  · rcases hfd with ⟨rfl, rfl⟩ | ⟨rfl, rfl⟩
    · exact F1
    · exact F2
  · rcases hfd with ⟨rfl, rfl⟩ | ⟨rfl, rfl⟩
    · exact F2
    · exact F1
  · obtain ⟨q1, q2⟩ := cmk m hm
    exact ⟨(h _ _ (by omega) (by omega)).trans q1, Fo _ (by omega) q2⟩
  · obtain ⟨q1, q2⟩ := ctb i hi
    exact ⟨(h _ _ (by omega) (by omega)).trans q1, q2⟩
theorem t_Tf_fen_x (Z : clOk f d P S) (h4 : I 0 4 = nI fed) (hf9 : fed ≤ 900) (h : ¬ zin a (fed + 1)) : zEi G y_Tf_fen prog_1_method_10_code 4 (some .int) 9 [.ref 0, .int a] (I, J, P, S) (fun r w => r = -1 ∧ cW I J P S 5 w) := by
  obtain ⟨⟨c0, c3, c1s⟩, ⟨c5, c2s, ctr⟩, ⟨c6, c11s, c11, c13s⟩, ⟨c7, c15s, c15⟩, ⟨c8, c16s, c16a, c16b, c17s⟩, ⟨c9, c10, cfd, F, Fd⟩, ⟨c11b, Ft⟩, ⟨c12, c69s, cmk⟩, ⟨c14, c121s, c121, c122s⟩, ⟨c15b, c123s, c123, c124s⟩, ⟨c16, c125s, c125, c126s⟩, ⟨c17, c127s, c127, c128s, ctb⟩, ⟨c18, c139s, c139, c140s⟩, ⟨c19, c141s, ⟨c141a, c142s⟩, ⟨c141b, c143s⟩, ⟨c141c, c144s⟩⟩, M⟩ := id Z
  have h := zin_not (by omega) h
  refine zEi_of (lv := [some (.ref 0), some (.int a), none, none]) (by decide) rfl (Nat.le_of_ble_eq_true rfl) ?_
  rcases h with h | h
  · refine z_iload_1 d_Tf_fen_0 ?_
    refine z_if_lt (tgt := 12) d_Tf_fen_1 (by decide) (fun h1 => ?_) (fun h1 => ?_)
    · first
      | (simp (disch := omega) only [← nI_0, nI_leI, nI_ltI, nI_eq, not_true_eq_false, not_false_eq_true] at h1; done)
      | (simp (disch := omega) only [← nI_0, nI_leI, nI_ltI, nI_eq, not_true_eq_false, not_false_eq_true] at h1; omega)
      | contradiction
      | exact absurd h1 (Int32.not_lt.mpr (by assumption))
      | exact absurd h1 (Int32.not_le.mpr (by assumption))
      | exact absurd h1 (by decide)
      | exact absurd (by decide) h1
      | ( try simp (disch := omega) only [← nI_0, nI_leI, nI_ltI, nI_eq, not_true_eq_false, not_false_eq_true] at h1
          (try have h1b := zbit_n0.mp h1); (try have h1b := zbit_p0.mp h1)
          refine z_aload_0 d_Tf_fen_12 ?_
          refine z_iconst (a := nI 5) d_Tf_fen_13 (by decide) ?_
          refine z_Vi1 d_Tf_fen_14 k_Tf_138 (by first | assumption | exact zS0_at (by assumption) (by omega) | exact zS0_at rfl (by omega)) (t_Tf_fail (by assumption)) ⟨Nat.le_of_ble_eq_true rfl, Nat.le_of_ble_eq_true rfl, Nat.le_of_ble_eq_true rfl, Nat.le_of_ble_eq_true rfl⟩ (Nat.le_of_ble_eq_true rfl) ?_
          intro r w hq
          obtain ⟨rfl, rfl⟩ := hq
          refine z_reti d_Tf_fen_17 ?_
          exact ⟨rfl, cW_0⟩)
    · first
      | (simp (disch := omega) only [← nI_0, nI_leI, nI_ltI, nI_eq, not_true_eq_false, not_false_eq_true] at h1; done)
      | (simp (disch := omega) only [← nI_0, nI_leI, nI_ltI, nI_eq, not_true_eq_false, not_false_eq_true] at h1; omega)
      | contradiction
      | exact absurd h1 (Int32.not_lt.mpr (by assumption))
      | exact absurd h1 (Int32.not_le.mpr (by assumption))
      | exact absurd h1 (by decide)
      | exact absurd (by decide) h1
      | ( try simp (disch := omega) only [← nI_0, nI_leI, nI_ltI, nI_eq, not_true_eq_false, not_false_eq_true] at h1
          (try have h1b := zbit_n0.mp h1); (try have h1b := zbit_p0.mp h1)
          refine z_iload_1 d_Tf_fen_4 ?_
          refine z_aload_0 d_Tf_fen_5 ?_
          refine z_getIv d_Tf_fen_6 f_Tf_24 (by first | assumption | exact zS0_at (by assumption) (by omega) | exact zS0_at rfl (by omega)) (by first | assumption | ((try simp (disch := omega) only [zu_same, zu_ne, zcp_ne, zfl_ne]); first | assumption | rfl)) ?_
          refine z_icmp_le (tgt := 18) d_Tf_fen_9 (by decide) (fun h9 => ?_) (fun h9 => ?_)
          · first
            | (simp (disch := omega) only [← nI_0, nI_leI, nI_ltI, nI_eq, not_true_eq_false, not_false_eq_true] at h9; done)
            | (simp (disch := omega) only [← nI_0, nI_leI, nI_ltI, nI_eq, not_true_eq_false, not_false_eq_true] at h9; omega)
            | contradiction
            | exact absurd h9 (Int32.not_lt.mpr (by assumption))
            | exact absurd h9 (Int32.not_le.mpr (by assumption))
            | exact absurd h9 (by decide)
            | exact absurd (by decide) h9
            | ( try simp (disch := omega) only [← nI_0, nI_leI, nI_ltI, nI_eq, not_true_eq_false, not_false_eq_true] at h9
                (try have h9b := zbit_n0.mp h9); (try have h9b := zbit_p0.mp h9)
                fail)
          · first
            | (simp (disch := omega) only [← nI_0, nI_leI, nI_ltI, nI_eq, not_true_eq_false, not_false_eq_true] at h9; done)
            | (simp (disch := omega) only [← nI_0, nI_leI, nI_ltI, nI_eq, not_true_eq_false, not_false_eq_true] at h9; omega)
            | contradiction
            | exact absurd h9 (Int32.not_lt.mpr (by assumption))
            | exact absurd h9 (Int32.not_le.mpr (by assumption))
            | exact absurd h9 (by decide)
            | exact absurd (by decide) h9
            | ( try simp (disch := omega) only [← nI_0, nI_leI, nI_ltI, nI_eq, not_true_eq_false, not_false_eq_true] at h9
                (try have h9b := zbit_n0.mp h9); (try have h9b := zbit_p0.mp h9)
                refine z_aload_0 d_Tf_fen_12 ?_
                refine z_iconst (a := nI 5) d_Tf_fen_13 (by decide) ?_
                refine z_Vi1 d_Tf_fen_14 k_Tf_138 (by first | assumption | exact zS0_at (by assumption) (by omega) | exact zS0_at rfl (by omega)) (t_Tf_fail (by assumption)) ⟨Nat.le_of_ble_eq_true rfl, Nat.le_of_ble_eq_true rfl, Nat.le_of_ble_eq_true rfl, Nat.le_of_ble_eq_true rfl⟩ (Nat.le_of_ble_eq_true rfl) ?_
                intro r w hq
                obtain ⟨rfl, rfl⟩ := hq
                refine z_reti d_Tf_fen_17 ?_
                exact ⟨rfl, cW_0⟩))
  · refine z_iload_1 d_Tf_fen_0 ?_
    refine z_if_lt (tgt := 12) d_Tf_fen_1 (by decide) (fun h1 => ?_) (fun h1 => ?_)
    · first
      | (simp (disch := omega) only [← nI_0, nI_leI, nI_ltI, nI_eq, not_true_eq_false, not_false_eq_true] at h1; done)
      | (simp (disch := omega) only [← nI_0, nI_leI, nI_ltI, nI_eq, not_true_eq_false, not_false_eq_true] at h1; omega)
      | contradiction
      | exact absurd h1 (Int32.not_lt.mpr (by assumption))
      | exact absurd h1 (Int32.not_le.mpr (by assumption))
      | exact absurd h1 (by decide)
      | exact absurd (by decide) h1
      | ( try simp (disch := omega) only [← nI_0, nI_leI, nI_ltI, nI_eq, not_true_eq_false, not_false_eq_true] at h1
          (try have h1b := zbit_n0.mp h1); (try have h1b := zbit_p0.mp h1)
          refine z_aload_0 d_Tf_fen_12 ?_
          refine z_iconst (a := nI 5) d_Tf_fen_13 (by decide) ?_
          refine z_Vi1 d_Tf_fen_14 k_Tf_138 (by first | assumption | exact zS0_at (by assumption) (by omega) | exact zS0_at rfl (by omega)) (t_Tf_fail (by assumption)) ⟨Nat.le_of_ble_eq_true rfl, Nat.le_of_ble_eq_true rfl, Nat.le_of_ble_eq_true rfl, Nat.le_of_ble_eq_true rfl⟩ (Nat.le_of_ble_eq_true rfl) ?_
          intro r w hq
          obtain ⟨rfl, rfl⟩ := hq
          refine z_reti d_Tf_fen_17 ?_
          exact ⟨rfl, cW_0⟩)
    · first
      | (simp (disch := omega) only [← nI_0, nI_leI, nI_ltI, nI_eq, not_true_eq_false, not_false_eq_true] at h1; done)
      | (simp (disch := omega) only [← nI_0, nI_leI, nI_ltI, nI_eq, not_true_eq_false, not_false_eq_true] at h1; omega)
      | contradiction
      | exact absurd h1 (Int32.not_lt.mpr (by assumption))
      | exact absurd h1 (Int32.not_le.mpr (by assumption))
      | exact absurd h1 (by decide)
      | exact absurd (by decide) h1
      | ( try simp (disch := omega) only [← nI_0, nI_leI, nI_ltI, nI_eq, not_true_eq_false, not_false_eq_true] at h1
          (try have h1b := zbit_n0.mp h1); (try have h1b := zbit_p0.mp h1)
          refine z_iload_1 d_Tf_fen_4 ?_
          refine z_aload_0 d_Tf_fen_5 ?_
          refine z_getIv d_Tf_fen_6 f_Tf_24 (by first | assumption | exact zS0_at (by assumption) (by omega) | exact zS0_at rfl (by omega)) (by first | assumption | ((try simp (disch := omega) only [zu_same, zu_ne, zcp_ne, zfl_ne]); first | assumption | rfl)) ?_
          refine z_icmp_le (tgt := 18) d_Tf_fen_9 (by decide) (fun h9 => ?_) (fun h9 => ?_)
          · first
            | (simp (disch := omega) only [← nI_0, nI_leI, nI_ltI, nI_eq, not_true_eq_false, not_false_eq_true] at h9; done)
            | (simp (disch := omega) only [← nI_0, nI_leI, nI_ltI, nI_eq, not_true_eq_false, not_false_eq_true] at h9; omega)
            | contradiction
            | exact absurd h9 (Int32.not_lt.mpr (by assumption))
            | exact absurd h9 (Int32.not_le.mpr (by assumption))
            | exact absurd h9 (by decide)
            | exact absurd (by decide) h9
            | ( try simp (disch := omega) only [← nI_0, nI_leI, nI_ltI, nI_eq, not_true_eq_false, not_false_eq_true] at h9
                (try have h9b := zbit_n0.mp h9); (try have h9b := zbit_p0.mp h9)
                fail)
          · first
            | (simp (disch := omega) only [← nI_0, nI_leI, nI_ltI, nI_eq, not_true_eq_false, not_false_eq_true] at h9; done)
            | (simp (disch := omega) only [← nI_0, nI_leI, nI_ltI, nI_eq, not_true_eq_false, not_false_eq_true] at h9; omega)
            | contradiction
            | exact absurd h9 (Int32.not_lt.mpr (by assumption))
            | exact absurd h9 (Int32.not_le.mpr (by assumption))
            | exact absurd h9 (by decide)
            | exact absurd (by decide) h9
            | ( try simp (disch := omega) only [← nI_0, nI_leI, nI_ltI, nI_eq, not_true_eq_false, not_false_eq_true] at h9
                (try have h9b := zbit_n0.mp h9); (try have h9b := zbit_p0.mp h9)
                refine z_aload_0 d_Tf_fen_12 ?_
                refine z_iconst (a := nI 5) d_Tf_fen_13 (by decide) ?_
                refine z_Vi1 d_Tf_fen_14 k_Tf_138 (by first | assumption | exact zS0_at (by assumption) (by omega) | exact zS0_at rfl (by omega)) (t_Tf_fail (by assumption)) ⟨Nat.le_of_ble_eq_true rfl, Nat.le_of_ble_eq_true rfl, Nat.le_of_ble_eq_true rfl, Nat.le_of_ble_eq_true rfl⟩ (Nat.le_of_ble_eq_true rfl) ?_
                intro r w hq
                obtain ⟨rfl, rfl⟩ := hq
                refine z_reti d_Tf_fen_17 ?_
                exact ⟨rfl, cW_0⟩))
theorem t_Tf_fen (Z : clOk f d P S) (h4 : I 0 4 = nI fed) (hf9 : fed ≤ 900) (hm : m ≤ fed) : zEi G y_Tf_fen prog_1_method_10_code 4 (some .int) 9 [.ref 0, .int (nI m)] (I, J, P, S) (fun r w => pQ (p_fen (I 1) m (J 13) (sf d I) (sf d J)) (fun e => r = -1 ∧ ∃ I1 J1, w = (zu (zu I1 0 4 (nI 0)) 0 0 (nI 10), J1, zu P 11 0 (some 1), S) ∧ frF d I I1 ∧ frF d J J1 ∧ I1 11 10 = nI e.1 ∧ I1 11 11 = nI e.2) (fun s => r = nI s.1.2.2.2.1 ∧ ∃ I1 J1, w = (zu (zu I1 0 4 (nI 0)) 0 0 (nI 0), J1, zu (zu (zu P 11 0 (some 1)) 0 9 (some d)) 0 10 (some f), S) ∧ frF d I I1 ∧ frF d J J1 ∧ I1 11 10 = nI 0 ∧ I1 11 11 = -1 ∧ sf d I1 = s.2.1 ∧ sf d J1 = s.2.2 ∧ I1 d 1 = nI s.1.1 ∧ I1 d 2 = nI s.1.2.1 ∧ I1 d 3 = nI s.1.2.2.1 ∧ I1 d 4 = nI s.1.2.2.2.1)) := by
  obtain ⟨⟨c0, c3, c1s⟩, ⟨c5, c2s, ctr⟩, ⟨c6, c11s, c11, c13s⟩, ⟨c7, c15s, c15⟩, ⟨c8, c16s, c16a, c16b, c17s⟩, ⟨c9, c10, cfd, F, Fd⟩, ⟨c11b, Ft⟩, ⟨c12, c69s, cmk⟩, ⟨c14, c121s, c121, c122s⟩, ⟨c15b, c123s, c123, c124s⟩, ⟨c16, c125s, c125, c126s⟩, ⟨c17, c127s, c127, c128s, ctb⟩, ⟨c18, c139s, c139, c140s⟩, ⟨c19, c141s, ⟨c141a, c142s⟩, ⟨c141b, c143s⟩, ⟨c141c, c144s⟩⟩, M⟩ := id Z
  have F0 := F.1
  have Fd0 := Fd.1
  have p9 : zu P 11 0 (some 1) 0 9 = some f := by rw [zu_row _ _ _ _ (by decide)]; exact c9
  have p10 : zu P 11 0 (some 1) 0 10 = some d := by rw [zu_row _ _ _ _ (by decide)]; exact c10
  have q10 : zu (zu P 11 0 (some 1)) 0 9 (some d) 0 10 = some d := by rw [zu_ne _ _ _ _ (by omega)]; exact p10
  have q9 : zu (zu (zu P 11 0 (some 1)) 0 9 (some d)) 0 10 (some f) 0 9 = some d := by rw [zu_ne _ _ _ _ (by omega), zu_same]
  refine zEi_of (lv := [some (.ref 0), some (.int (nI m)), none, none]) (by decide) rfl (Nat.le_of_ble_eq_true rfl) ?_
  refine z_iload_1 d_Tf_fen_0 ?_
  refine z_if_lt (tgt := 12) d_Tf_fen_1 (by decide) (fun h => absurd h (nI_pos (by omega))) (fun _ => ?_)
  refine z_iload_1 d_Tf_fen_4 ?_
  refine z_aload_0 d_Tf_fen_5 ?_
  refine z_getIv d_Tf_fen_6 f_Tf_24 (by first | assumption | exact zS0_at (by assumption) (by omega) | exact zS0_at rfl (by omega)) (by first | assumption | ((try simp (disch := omega) only [zu_same, zu_ne, zcp_ne, zfl_ne]); first | assumption | rfl)) ?_
  refine z_icmp_le (tgt := 18) d_Tf_fen_9 (by decide) (fun _ => ?_) (fun h => absurd (nI_le hm (by omega)) h)
  refine z_aload_0 d_Tf_fen_18 ?_
  refine z_getR d_Tf_fen_19 f_Tf_46 (by first | assumption | exact zS0_at (by assumption) (by omega) | exact zS0_at rfl (by omega)) (by first | assumption | exact zS0_at (by assumption) (by omega) | exact zS0_at rfl (by omega)) ?_
  refine z_aload_0 d_Tf_fen_22 ?_
  refine z_getR d_Tf_fen_23 f_Tf_64 (by first | assumption | exact zS0_at (by assumption) (by omega) | exact zS0_at rfl (by omega)) (by first | assumption | exact zS0_at (by assumption) (by omega) | exact zS0_at rfl (by omega)) ?_
  refine z_aload_0 d_Tf_fen_26 ?_
  refine z_getR d_Tf_fen_27 f_Tf_20 (by first | assumption | exact zS0_at (by assumption) (by omega) | exact zS0_at rfl (by omega)) (by first | assumption | exact zS0_at (by assumption) (by omega) | exact zS0_at rfl (by omega)) ?_
  refine z_iload_1 d_Tf_fen_30 ?_
  refine z_Vi3 d_Tf_fen_31 k_Tf_167 (by first | assumption | exact zS0_at (by assumption) (by omega) | exact zS0_at rfl (by omega)) (t_FenR_readInto Fd ⟨c15s, c15, by omega⟩ c11s c11 c13s c1s (by omega)) ⟨Nat.le_of_ble_eq_true rfl, Nat.le_of_ble_eq_true rfl, Nat.le_of_ble_eq_true rfl, Nat.le_of_ble_eq_true rfl⟩ (Nat.le_of_ble_eq_true rfl) ?_
  intro r w hq
  generalize hx : p_fen (I 1) m (J 13) (sf d I) (sf d J) = x at hq ⊢
  cases x with
  | inl e =>
    obtain ⟨rfl, I1, J1, rfl, g1, g2, g3, g4⟩ := hq
    first | refine z_istore_2 d_Tf_fen_34 rfl ?_ | (refine z_forget_1 ?_; refine z_istore_2 d_Tf_fen_34 rfl ?_)
    refine z_aload_0 d_Tf_fen_35 ?_
    refine z_iconst (a := nI 0) d_Tf_fen_36 (by decide) ?_
    refine z_putI d_Tf_fen_37 f_Tf_24 (by first | assumption | exact zS0_at (by assumption) (by omega) | exact zS0_at rfl (by omega)) ?_
    refine z_iload_2 d_Tf_fen_40 ?_
    refine z_if_ne (tgt := 51) d_Tf_fen_41 (by decide) (fun h => absurd (by decide) h) (fun _ => ?_)
    refine z_aload_0 d_Tf_fen_44 ?_
    refine z_bipush (a := nI 10) d_Tf_fen_45 (by decide) ?_
    refine z_Vi1 d_Tf_fen_47 k_Tf_138 (by first | assumption | exact zS0_at (by assumption) (by omega) | exact zS0_at rfl (by omega)) (t_Tf_fail c0) ⟨Nat.le_of_ble_eq_true rfl, Nat.le_of_ble_eq_true rfl, Nat.le_of_ble_eq_true rfl, Nat.le_of_ble_eq_true rfl⟩ (Nat.le_of_ble_eq_true rfl) ?_
    intro r w hq
    obtain ⟨rfl, rfl⟩ := hq
    refine z_reti d_Tf_fen_50 ?_
    exact ⟨rfl, I1, J1, rfl, g1, g2, g3, g4⟩
  | inr s =>
    obtain ⟨rfl, I1, J1, rfl, g1, g2, g3, g4, g5, g6, ⟨g7, -⟩, ⟨g8, -⟩, ⟨g9, -⟩, ⟨g10, -⟩⟩ := hq
    have t4 : zu I1 0 4 (nI 0) d 4 = nI s.1.2.2.2.1 := by rw [zu_row _ _ _ _ (by omega)]; exact g10
    first | refine z_istore_2 d_Tf_fen_34 rfl ?_ | (refine z_forget_1 ?_; refine z_istore_2 d_Tf_fen_34 rfl ?_)
    refine z_aload_0 d_Tf_fen_35 ?_
    refine z_iconst (a := nI 0) d_Tf_fen_36 (by decide) ?_
    refine z_putI d_Tf_fen_37 f_Tf_24 (by first | assumption | exact zS0_at (by assumption) (by omega) | exact zS0_at rfl (by omega)) ?_
    refine z_iload_2 d_Tf_fen_40 ?_
    refine z_if_ne (tgt := 51) d_Tf_fen_41 (by decide) (fun _ => ?_) (fun h => absurd h (by decide))
    refine z_aload_0 d_Tf_fen_51 ?_
    refine z_getR d_Tf_fen_52 f_Tf_60 (by first | assumption | exact zS0_at (by assumption) (by omega) | exact zS0_at rfl (by omega)) (by first | assumption | exact zS0_at (by assumption) (by omega) | exact zS0_at rfl (by omega)) ?_
    first | refine z_astore_3 d_Tf_fen_55 rfl ?_ | (refine z_forget_2 ?_; refine z_astore_3 d_Tf_fen_55 rfl ?_)
    refine z_aload_0 d_Tf_fen_56 ?_
    refine z_aload_0 d_Tf_fen_57 ?_
    refine z_getR d_Tf_fen_58 f_Tf_64 (by first | assumption | exact zS0_at (by assumption) (by omega) | exact zS0_at rfl (by omega)) (by first | assumption | exact zS0_at (by assumption) (by omega) | exact zS0_at rfl (by omega)) ?_
    refine z_putR d_Tf_fen_61 f_Tf_60 (by first | assumption | exact zS0_at (by assumption) (by omega) | exact zS0_at rfl (by omega)) (fun _ => ⟨rfl, rfl⟩) ?_
    refine z_aload_0 d_Tf_fen_64 ?_
    refine z_aload_3 d_Tf_fen_65 ?_
    refine z_putR d_Tf_fen_66 f_Tf_64 (by first | assumption | exact zS0_at (by assumption) (by omega) | exact zS0_at rfl (by omega)) (fun _ => ⟨rfl, rfl⟩) ?_
    refine z_aload_0 d_Tf_fen_69 ?_
    refine z_aload_0 d_Tf_fen_70 ?_
    refine z_getR d_Tf_fen_71 f_Tf_60 (by first | assumption | exact zS0_at (by assumption) (by omega) | exact zS0_at rfl (by omega)) (by first | assumption | exact zS0_at (by assumption) (by omega) | exact zS0_at rfl (by omega)) ?_
    refine z_getIv d_Tf_fen_74 f_Tf_171 (by first | assumption | exact zS0_at (by assumption) (by omega) | exact zS0_at rfl (by omega)) (by first | assumption | ((try simp (disch := omega) only [zu_same, zu_ne, zcp_ne, zfl_ne]); first | assumption | rfl)) ?_
    refine z_Vi1 d_Tf_fen_77 k_Tf_174 (by first | assumption | exact zS0_at (by assumption) (by omega) | exact zS0_at rfl (by omega)) (t_Tf_give c0) ⟨Nat.le_of_ble_eq_true rfl, Nat.le_of_ble_eq_true rfl, Nat.le_of_ble_eq_true rfl, Nat.le_of_ble_eq_true rfl⟩ (Nat.le_of_ble_eq_true rfl) ?_
    intro r w hq
    obtain ⟨rfl, rfl⟩ := hq
    refine z_reti d_Tf_fen_80 ?_
    exact ⟨rfl, I1, J1, rfl, g1, g2, g3, g4, g5, g6, g7, g8, g9, g10⟩
theorem L_fen (h : zInv n w) : zEi G y_Tf_fen prog_1_method_10_code 4 (some .int) 9 [.ref 0, .int a] w (fun r w1 => w1.2.2.2 = w.2.2.2 ∧ zEi G y_Mo_fen prog_14_method_68_code 2 (some .int) 10 [.ref 145, .int a] w1 (fun r' w2 => r' = r ∧ zInv (n + 1) w2)) := by
  obtain ⟨f, d, nt, np, nl, nn, fed, mk, I, J, P, S, rfl, Z, X⟩ := h
  have M := clOk_M Z
  have hf := clOk_f Z
  have N := stR_fen X
  have N0 := stR_mod X
  have fm := stR_fm X
  obtain ⟨⟨⟨a1, r1, b1⟩, ⟨a2, r2, b2⟩, ⟨a3, r3, b3⟩, ⟨a4, r4, b4⟩⟩, ⟨⟨o, ob, ao, ro⟩, r5⟩, fw, fp, ft, fz⟩ := id fm
  obtain ⟨⟨x1, x2, x3⟩, x4, ⟨⟨x5, x6, x7⟩, x8, x9⟩, ⟨x10, x11⟩, x12, x13, ⟨⟨x14, x15, x16⟩, x17⟩, x18⟩ := id X
  have hd : d = 18 ∨ d = 35 := by have := Z.2.2.2.2.2.1.2.2.1; omega
  have hfd : f = 18 ∧ d = 35 ∨ f = 35 ∧ d = 18 := Z.2.2.2.2.2.1.2.2.1
  by_cases ha : zin a (fed + 1)
  rotate_left
  · exact L_q Z X (t_Tf_fen_x Z x5 x7 ha) (fun I' J' e _ => ⟨_, rfl, zEi_mono (m_fen0 M (by rw [e 145 (by decide)]; exact x6) x7 ha) (fun r w h => ⟨h.1, _, _, h.2, mqF_z (mqF_z (mqF_z mqF_r (by decide)) (by decide)) (by decide), mqJ_r, zu_same _ _ _ _⟩)⟩)
  obtain ⟨m, hm, rfl⟩ := ha
  refine zEi_mono (t_Tf_fen Z x5 x7 (Nat.le_of_lt_succ hm)) ?_
  intro r w hq
  have hbd : ∀ s, p_fen (I 1) m (J 13) (sf d I) (sf d J) = .inr s → pBd s := fun s h => p_fen_bd h
  have mf : ∀ (Ia : Nat → Nat → Int32) (Ja : Nat → Nat → Int64) (Pa : Nat → Nat → Option Nat), modOk Pa S → Ia 145 8 = nI fed → (∀ k, k < 900 → Ia 149 k = I 1 k) → zEi G y_Mo_fen prog_14_method_68_code 2 (some .int) 10 [.ref 145, .int (nI m)] (Ia, Ja, Pa, S) (fun r w => pQ (p_fen (I 1) m (J 13) (sf d I) (sf d J)) (fun e => r = -1 ∧ ∃ I' J', w = (I', J', Pa, S) ∧ mfF Ia I' ∧ mQ Ja J' ∧ I' 145 0 = nI 10 ∧ I' 145 8 = nI 0 ∧ I' 145 10 = nI e.1 ∧ I' 145 11 = nI e.2) (fun s => r = nI s.1.2.2.2.1 ∧ ∃ I' J', w = (zcp I' 150 150 1436 0 359, zcp J' 152 152 88 0 22, Pa, S) ∧ mfF Ia I' ∧ mQ Ja J' ∧ moS I' J' s ∧ I' 145 0 = nI 0 ∧ I' 145 8 = nI 0 ∧ I' 145 10 = nI 0 ∧ I' 145 11 = -1)) := fun Ia Ja Pa hM h8 hT => m_fen (G := G) (P := Pa) (S := S) (I := Ia) (J := Ja) (T := I 1) (K := J 13) (A := sf d I) (B := sf d J) hM h8 x7 (Nat.le_of_lt_succ hm) hT x9 x12
  generalize hx : p_fen (I 1) m (J 13) (sf d I) (sf d J) = y at hq mf hbd
  cases y with
  | inl e =>
    obtain ⟨rfl, I1, J1, rfl, g1, g2, g3, g4⟩ := hq
    have r1 : ∀ a, a ≠ 0 → a ≠ 11 → a ≠ 15 → ¬ (d ≤ a ∧ a ≤ d + 12) → zu (zu I1 0 4 (nI 0)) 0 0 (nI 10) a = I a := fun a h0 h1 h2 h3 => by rw [zu_row _ _ _ _ h0, zu_row _ _ _ _ h0]; exact g1 a h1 h2 h3
    refine ⟨rfl, zEi_mono (mf _ J1 _ (modOk_P M (fun k => by rw [zu_row _ _ _ _ (by decide)])) (by rw [r1 145 (by omega) (by omega) (by omega) (by omega)]; exact x6) (fun k hk => by rw [r1 149 (by omega) (by omega) (by omega) (by omega)]; exact x8 k hk)) ?_⟩
    rintro r w ⟨rfl, I2, J2, rfl, u1, u2, u3, u4, u5, u6⟩
    have er : ∀ a, a ≠ 0 → a ≠ 11 → a ≠ 15 → ¬ (d ≤ a ∧ a ≤ d + 12) → a ≠ 145 → a ≠ 150 → I2 a = I a := fun a h0 h1 h2 h3 h4 h5 => (u1.1 a h4 h5).trans (r1 a h0 h1 h2 h3)
    have ej : ∀ a, a ≠ 11 → a ≠ 15 → ¬ (d ≤ a ∧ a ≤ d + 12) → a ≠ 145 → a ≠ 152 → J2 a = J a := fun a h1 h2 h3 h4 h5 => (u2.1 a h4 h5).trans (g2 a h1 h2 h3)
    have e0 : ∀ k, k ≠ 0 → k ≠ 4 → I2 0 k = I 0 k := fun k h1 h2 => by rw [u1.1 0 (by omega) (by omega), zu_ne _ _ _ _ (by omega), zu_ne _ _ _ _ (by omega), g1 0 (by omega) (by omega) (by omega)]
    have e145 : ∀ k, (k = 23 ∨ 26 ≤ k) → I2 145 k = I 145 k := fun k hk => by rw [u1.2.2 k hk, r1 145 (by omega) (by omega) (by omega) (by omega)]
    have e150 : ∀ k, k < 1436 → I2 150 k = I 150 k := fun k hk => by rw [u1.2.1 k hk, r1 150 (by omega) (by omega) (by omega) (by omega)]
    have e152 : ∀ k, k < 88 → J2 152 k = J 152 k := fun k hk => by rw [u2.2.1 k hk, g2 152 (by omega) (by omega) (by omega)]
    have j145 : ∀ k, k ≠ 19 → J2 145 k = J 145 k := fun k hk => by rw [u2.2.2 k hk, g2 145 (by omega) (by omega) (by omega)]
    refine ⟨rfl, f, d, nt, np, nl, nn, 0, mk, I2, J2, _, S, rfl, clOk_P Z (fun a k h1 h2 => zu_ne _ _ _ _ h1) (by rw [zu_row _ _ _ _ (by decide)]; exact Z.2.2.2.2.2.1.1) (by rw [zu_row _ _ _ _ (by decide)]; exact Z.2.2.2.2.2.1.2.1) (Or.inl ⟨rfl, rfl⟩), ?_⟩
    refine ⟨⟨?_, ?_, ?_⟩, fun t ht => ?_, ⟨⟨?_, u4, by omega⟩, fun k hk => ?_, ?_⟩, ⟨?_, ?_⟩, fun i hi => ?_, ?_, ⟨⟨(e0 13 (by omega) (by omega)).trans x14, (e145 23 (by omega)).trans x15, x16⟩, fun m' hm' => ?_⟩, ?_⟩
    · rw [u3, u1.1 0 (by omega) (by omega), zu_same]
    · rw [j145 2 (by omega), ej 0 (by omega) (by omega) (by omega) (by omega) (by omega)]; exact x2
    · rw [j145 3 (by omega), ej 0 (by omega) (by omega) (by omega) (by omega) (by omega)]; exact x3
    · exact trR_c (x4 t ht) (er _ (by omega) (by omega) (by omega) (by omega) (by omega) (by omega)) (by rw [er 147 (by omega) (by omega) (by omega) (by omega) (by omega) (by omega)]) (by rw [er 146 (by omega) (by omega) (by omega) (by omega) (by omega) (by omega)]) (ej _ (by omega) (by omega) (by omega) (by omega) (by omega)) (fun p _ => by rw [ej 148 (by omega) (by omega) (by omega) (by omega) (by omega)])
    · rw [u1.1 0 (by omega) (by omega), zu_ne _ _ _ _ (by omega), zu_same]
    · rw [er 149 (by omega) (by omega) (by omega) (by omega) (by omega) (by omega), er 1 (by omega) (by omega) (by omega) (by omega) (by omega) (by omega)]; exact x8 k hk
    · rw [er 1 (by omega) (by omega) (by omega) (by omega) (by omega) (by omega)]; exact x9
    · rw [u5, u1.1 11 (by omega) (by omega), zu_row _ _ _ _ (by omega), zu_row _ _ _ _ (by omega), g3]
    · rw [u6, u1.1 11 (by omega) (by omega), zu_row _ _ _ _ (by omega), zu_row _ _ _ _ (by omega), g4]
    · rw [ej 13 (by omega) (by omega) (by omega) (by omega) (by omega)]; exact x12 i hi
    · exact fnR_g (fnR_c x13 (fun a h1 h2 => er a (by omega) (by omega) (by omega) (by omega) (by omega) (by omega)) (fun k hk => e150 _ (by omega)) (fun a h1 h2 => ej a (by omega) (by omega) (by omega) (by omega) (by omega)) (fun k hk => e152 _ (by omega))) (by omega)
    · obtain ⟨nt', np', nl', nn', q⟩ := x17 m' (by omega)
      exact ⟨nt', np', nl', nn', fnR_g (fnR_c q (fun a h1 h2 => er a (by omega) (by omega) (by omega) (by omega) (by omega) (by omega)) (fun k hk => e150 _ (by omega)) (fun a h1 h2 => ej a (by omega) (by omega) (by omega) (by omega) (by omega)) (fun k hk => e152 _ (by omega))) (by omega)⟩
    · unfold lvR at x18 ⊢
      rw [er 121 (by omega) (by omega) (by omega) (by omega) (by omega) (by omega), er 159 (by omega) (by omega) (by omega) (by omega) (by omega) (by omega), e145 38 (by omega)]
      exact x18
  | inr s =>
    have hb := hbd s rfl
    obtain ⟨rfl, I1, J1, rfl, g1, g2, g3, g4, g5, g6, g7, g8, g9, g10⟩ := hq
    have r1 : ∀ a, a ≠ 0 → a ≠ 11 → a ≠ 15 → ¬ (d ≤ a ∧ a ≤ d + 12) → zu (zu I1 0 4 (nI 0)) 0 0 (nI 0) a = I a := fun a h0 h1 h2 h3 => by rw [zu_row _ _ _ _ h0, zu_row _ _ _ _ h0]; exact g1 a h1 h2 h3
    refine ⟨rfl, zEi_mono (mf _ J1 _ (modOk_P M (fun k => by rw [zu_row _ _ _ _ (by decide), zu_row _ _ _ _ (by decide), zu_row _ _ _ _ (by decide)])) (by rw [r1 145 (by omega) (by omega) (by omega) (by omega)]; exact x6) (fun k hk => by rw [r1 149 (by omega) (by omega) (by omega) (by omega)]; exact x8 k hk)) ?_⟩
    rintro r w ⟨rfl, I2, J2, rfl, u1, u2, hS, u3, u4, u5, u6⟩
    refine ⟨rfl, d, f, s.1.1, s.1.2.1, s.1.2.2.1, s.1.2.2.2.1, 0, mk, _, _, _, S, rfl, clOk_P Z (fun a k h1 h2 => by rw [zu_ne _ _ _ _ (by omega), zu_ne _ _ _ _ (by omega), zu_ne _ _ _ _ h1]) (by rw [zu_ne _ _ _ _ (by omega), zu_same]) (zu_same _ _ _ _) (Or.inr ⟨rfl, rfl⟩), ?_⟩
    generalize hI3 : zcp I2 150 150 1436 0 359 = I3
    generalize hJ3 : zcp J2 152 152 88 0 22 = J3
    have eI : ∀ a, a ≠ 150 → I3 a = I2 a := fun a h => by rw [← hI3, zcp_ne h]
    have eJ : ∀ a, a ≠ 152 → J3 a = J2 a := fun a h => by rw [← hJ3, zcp_ne h]
    have e1 : ∀ a, a ≠ 0 → a ≠ 145 → a ≠ 150 → I3 a = I1 a := fun a h0 h1 h2 => by rw [eI a h2, u1.1 a h1 h2, zu_row _ _ _ _ h0, zu_row _ _ _ _ h0]
    have j1 : ∀ a, a ≠ 145 → a ≠ 152 → J3 a = J1 a := fun a h1 h2 => by rw [eJ a h2, u2.1 a h1 h2]
    have er : ∀ a, a ≠ 0 → a ≠ 11 → a ≠ 15 → ¬ (d ≤ a ∧ a ≤ d + 12) → a ≠ 145 → a ≠ 150 → I3 a = I a := fun a h0 h1 h2 h3 h4 h5 => (e1 a h0 h4 h5).trans (g1 a h1 h2 h3)
    have ej : ∀ a, a ≠ 11 → a ≠ 15 → ¬ (d ≤ a ∧ a ≤ d + 12) → a ≠ 145 → a ≠ 152 → J3 a = J a := fun a h1 h2 h3 h4 h5 => (j1 a h4 h5).trans (g2 a h1 h2 h3)
    have e0 : ∀ k, k ≠ 0 → k ≠ 4 → I3 0 k = I 0 k := fun k h1 h2 => by rw [eI 0 (by omega), u1.1 0 (by omega) (by omega), zu_ne _ _ _ _ (by omega), zu_ne _ _ _ _ (by omega), g1 0 (by omega) (by omega) (by omega)]
    have e145 : ∀ k, (k = 23 ∨ 26 ≤ k) → I3 145 k = I 145 k := fun k hk => by rw [eI 145 (by omega), u1.2.2 k hk, r1 145 (by omega) (by omega) (by omega) (by omega)]
    have e150 : ∀ k, 359 ≤ k → k < 1436 → I3 150 k = I 150 k := fun k h1 hk => by rw [← hI3, zcp_out (by omega), u1.2.1 k hk, r1 150 (by omega) (by omega) (by omega) (by omega)]
    have en : ∀ k, k < 359 → I3 150 (359 * 0 + k) = I2 150 (1436 + k) := fun k hk => by rw [← hI3, zcp_in (by omega) (by omega), show 1436 + (359 * 0 + k - 0) = 1436 + k by omega]
    have e152 : ∀ k, 22 ≤ k → k < 88 → J3 152 k = J 152 k := fun k h1 hk => by rw [← hJ3, zcp_out (by omega), u2.2.1 k hk, g2 152 (by omega) (by omega) (by omega)]
    have jn : ∀ k, k < 22 → J3 152 (22 * 0 + k) = J2 152 (88 + k) := fun k hk => by rw [← hJ3, zcp_in (by omega) (by omega), show 88 + (22 * 0 + k - 0) = 88 + k by omega]
    have j145 : ∀ k, k ≠ 19 → J3 145 k = J 145 k := fun k hk => by rw [eJ 145 (by omega), u2.2.2 k hk, g2 145 (by omega) (by omega) (by omega)]
    have cA : ∀ i k, I1 (d + i) k = s.2.1 i k := fun i k => by rw [← g5]; rfl
    have cB : ∀ i k, J1 (d + i) k = s.2.2 i k := fun i k => by rw [← g6]; rfl
    have hF := fmR_S hb hS ((cA 0 1).symm.trans g7) ((cA 0 2).symm.trans g8) ((cA 0 3).symm.trans g9) ((cA 0 4).symm.trans g10)
    obtain ⟨-, -, -, -, -, -, m6, m7, -, -, m10, -, -, -, m15, m16⟩ := hS
    obtain ⟨⟨z1, z2, z3⟩, -, -, -, z4, z5⟩ := id hb
    refine ⟨⟨?_, ?_, ?_⟩, fun t ht => ?_, ⟨⟨?_, ?_, by omega⟩, fun k hk => ?_, ?_⟩, ⟨?_, ?_⟩, fun i hi => ?_, ⟨?_, ⟨fun k hk => ?_, fun k hk => ?_, fun k hk => ?_⟩, Or.inl ⟨?_, ?_, ?_⟩⟩, ⟨⟨(e0 13 (by omega) (by omega)).trans x14, (e145 23 (by omega)).trans x15, x16⟩, fun m' hm' => ?_⟩, ?_⟩
    · rw [eI 145 (by omega), u3, eI 0 (by omega), u1.1 0 (by omega) (by omega), zu_same]
    · rw [j145 2 (by omega), ej 0 (by omega) (by omega) (by omega) (by omega) (by omega)]; exact x2
    · rw [j145 3 (by omega), ej 0 (by omega) (by omega) (by omega) (by omega) (by omega)]; exact x3
    · exact trR_c (x4 t ht) (er _ (by omega) (by omega) (by omega) (by omega) (by omega) (by omega)) (by rw [er 147 (by omega) (by omega) (by omega) (by omega) (by omega) (by omega)]) (by rw [er 146 (by omega) (by omega) (by omega) (by omega) (by omega) (by omega)]) (ej _ (by omega) (by omega) (by omega) (by omega) (by omega)) (fun p _ => by rw [ej 148 (by omega) (by omega) (by omega) (by omega) (by omega)])
    · rw [eI 0 (by omega), u1.1 0 (by omega) (by omega), zu_ne _ _ _ _ (by omega), zu_same]
    · rw [eI 145 (by omega)]; exact u4
    · rw [er 149 (by omega) (by omega) (by omega) (by omega) (by omega) (by omega), er 1 (by omega) (by omega) (by omega) (by omega) (by omega) (by omega)]; exact x8 k hk
    · rw [er 1 (by omega) (by omega) (by omega) (by omega) (by omega) (by omega)]; exact x9
    · rw [eI 145 (by omega), u5, e1 11 (by omega) (by omega) (by omega), g3]
    · rw [eI 145 (by omega), u6, e1 11 (by omega) (by omega) (by omega), g4]
    · rw [ej 13 (by omega) (by omega) (by omega) (by omega) (by omega)]; exact x12 i hi
    · exact fmR_R (fmR_A (fmR_g hF (by omega)) (fun r hr => by funext k; show I3 (d + r) k = _; rw [e1 _ (by omega) (by omega) (by omega)]; exact cA r k)) (fun k hk => en k (by omega))
    · rw [jn k (by omega), j1 _ (by omega) (by omega), cB 9 k]; exact (m6 k hk).2
    · rw [Nat.add_assoc, jn (6 + k) (by omega), j1 _ (by omega) (by omega), cB 10 k, show 88 + (6 + k) = 94 + k by omega]; exact (m7 k hk).2.2.2
    · rw [Nat.add_assoc, jn (13 + k) (by omega), j1 _ (by omega) (by omega), cB 11 k, show 88 + (13 + k) = 101 + k by omega]; exact (m10 k hk).2.2.2.2.2.2
    · rw [e1 _ (by omega) (by omega) (by omega), cA 12 0]; exact z4
    · rw [en 87 (by omega)]; exact m15
    · rw [e1 _ (by omega) (by omega) (by omega), cA 12 2]; exact z5
    · obtain ⟨nt', np', nl', nn', q⟩ := x17 m' (by omega)
      exact ⟨nt', np', nl', nn', fnR_g (fnR_c q (fun a h1 h2 => er a (by omega) (by omega) (by omega) (by omega) (by omega) (by omega)) (fun k hk => e150 _ (by omega) (by omega)) (fun a h1 h2 => ej a (by omega) (by omega) (by omega) (by omega) (by omega)) (fun k hk => e152 _ (by omega) (by omega))) (by omega)⟩
    · unfold lvR at x18 ⊢
      rw [er 121 (by omega) (by omega) (by omega) (by omega) (by omega) (by omega), er 159 (by omega) (by omega) (by omega) (by omega) (by omega) (by omega), e145 38 (by omega)]
      exact x18
end FN1
