/-! given: both sides, together -/
section GO0
variable {G : zG} {I I' I1 I2 I3 : Nat → Nat → Int32} {J J' J2 : Nat → Nat → Int64} {P : Nat → Nat → Option Nat} {S : List (Nat × Nat)} {f d nt np nl nn n fed mk t k p q s al r fr us m i u st : Nat} {a c x : Int32} {w : zW} {kk : Nat → Nat} {tr : Nat → Nat → Bool} {inS : Nat → Bool}
theorem t_Tf_given_x (Z : clOk f d P S) (N : fenIn I f nt np nl nn) (h : ¬ zin c nn ∧ st = 2 ∨ ∃ t, t < nn ∧ c = nI t ∧ (¬ zbit a t ∧ st = 5 ∨ zbit a t ∧ (¬ zin a (2 ^ nn) ∧ st = 5 ∨ ∃ s, s < 2 ^ nn ∧ a = nI s ∧ ¬ nI s &&& cGo I f nn = 0 ∧ st = 9))) : zEi G y_Tf_given prog_1_method_35_code 5 (some .int) 5 [.ref 0, .int a, .int c] (I, J, P, S) (fun r w => r = -1 ∧ cW I J P S st w) := by
  obtain ⟨⟨c0, c3, c1s⟩, ⟨c5, c2s, ctr⟩, ⟨c6, c11s, c11, c13s⟩, ⟨c7, c15s, c15⟩, ⟨c8, c16s, c16a, c16b, c17s⟩, ⟨c9, c10, cfd, F, Fd⟩, ⟨c11b, Ft⟩, ⟨c12, c69s, cmk⟩, ⟨c14, c121s, c121, c122s⟩, ⟨c15b, c123s, c123, c124s⟩, ⟨c16, c125s, c125, c126s⟩, ⟨c17, c127s, c127, c128s, ctb⟩, ⟨c18, c139s, c139, c140s⟩, ⟨c19, c141s, ⟨c141a, c142s⟩, ⟨c141b, c143s⟩, ⟨c141c, c144s⟩⟩, M⟩ := id Z
  obtain ⟨F0, ⟨F8, F8s⟩, ⟨F9, F9s⟩, ⟨F10, F10s⟩, ⟨F11, F11s⟩, ⟨F12, F12s⟩, ⟨F13, F13s⟩, ⟨F14, F14s⟩, ⟨F15, F15s⟩, ⟨F16, F16s⟩, ⟨F17, F17s⟩, ⟨F18, F18s⟩, ⟨F19, F19s⟩, ⟨Y3, Y3s⟩, ⟨Y4, Y4s⟩, ⟨Y5, Y5s⟩, ⟨Y6, Y6s⟩⟩ := id F
  obtain ⟨⟨n1, n1b⟩, ⟨n2, n2b⟩, ⟨n3, n3b⟩, ⟨n4, n4b⟩, nof, non⟩ := id N
  refine zEi_of (lv := [some (.ref 0), some (.int a), some (.int c), none, none]) (by decide) rfl (Nat.le_of_ble_eq_true rfl) ?_
  refine z_aload_0 d_Tf_given_0 ?_
  refine z_iload_2 d_Tf_given_1 ?_
  refine z_Vi1 d_Tf_given_2 k_Tf_249 (by first | assumption | exact zS0_at (by assumption) (by omega) | exact zS0_at rfl (by omega)) (t_Tf_noTin Z N) ⟨Nat.le_of_ble_eq_true rfl, Nat.le_of_ble_eq_true rfl, Nat.le_of_ble_eq_true rfl, Nat.le_of_ble_eq_true rfl⟩ (Nat.le_of_ble_eq_true rfl) ?_
  intro r w hq
  rcases hq with ⟨⟨hz, rfl⟩ | ⟨hz, rfl⟩, rfl⟩
  · rcases h with ⟨-, rfl⟩ | ⟨t, ht, rfl, -⟩
    · refine z_if_eq (tgt := 14) d_Tf_given_5 (by decide) (fun h => absurd h (by decide)) (fun _ => ?_)
      refine z_aload_0 d_Tf_given_8 ?_
      refine z_iconst (a := nI 2) d_Tf_given_9 (by decide) ?_
      refine z_Vi1 d_Tf_given_10 k_Tf_138 (by first | assumption | exact zS0_at (by assumption) (by omega) | exact zS0_at rfl (by omega)) (t_Tf_fail (by assumption)) ⟨Nat.le_of_ble_eq_true rfl, Nat.le_of_ble_eq_true rfl, Nat.le_of_ble_eq_true rfl, Nat.le_of_ble_eq_true rfl⟩ (Nat.le_of_ble_eq_true rfl) ?_
      intro r w hq
      obtain ⟨rfl, rfl⟩ := hq
      refine z_reti d_Tf_given_13 ?_
      exact ⟨rfl, cW_0⟩
    · exact absurd ⟨t, ht, rfl⟩ hz
  · rcases h with ⟨h, -⟩ | ⟨t, ht, rfl, h⟩
    · exact absurd hz h
    refine z_if_eq (tgt := 14) d_Tf_given_5 (by decide) (fun _ => ?_) (fun h => absurd (by decide) h)
    refine z_iload_1 d_Tf_given_14 ?_
    refine z_iload_2 d_Tf_given_15 ?_
    refine z_ishr d_Tf_given_16 ?_
    refine z_iconst (a := nI 1) d_Tf_given_17 (by decide) ?_
    refine z_iand d_Tf_given_18 ?_
    rcases h with ⟨hbt, rfl⟩ | ⟨hbt, h2⟩
    · refine z_if_ne (tgt := 28) d_Tf_given_19 (by decide) (fun h => absurd (zbit_n.mpr hbt) h) (fun _ => ?_)
      refine z_aload_0 d_Tf_given_22 ?_
      refine z_iconst (a := nI 5) d_Tf_given_23 (by decide) ?_
      refine z_Vi1 d_Tf_given_24 k_Tf_138 (by first | assumption | exact zS0_at (by assumption) (by omega) | exact zS0_at rfl (by omega)) (t_Tf_fail (by assumption)) ⟨Nat.le_of_ble_eq_true rfl, Nat.le_of_ble_eq_true rfl, Nat.le_of_ble_eq_true rfl, Nat.le_of_ble_eq_true rfl⟩ (Nat.le_of_ble_eq_true rfl) ?_
      intro r w hq
      obtain ⟨rfl, rfl⟩ := hq
      refine z_reti d_Tf_given_27 ?_
      exact ⟨rfl, cW_0⟩
    · refine z_if_ne (tgt := 28) d_Tf_given_19 (by decide) (fun _ => ?_) (fun h => absurd h (zbit_p.mpr hbt))
      refine z_aload_0 d_Tf_given_28 ?_
      refine z_iload_1 d_Tf_given_29 ?_
      rcases h2 with ⟨h2, rfl⟩ | ⟨s, hs, rfl, h2, rfl⟩
      · refine z_Vi1 d_Tf_given_30 k_Tf_328 (by first | assumption | exact zS0_at (by assumption) (by omega) | exact zS0_at rfl (by omega)) (t_Tf_heap_o Z N h2) ⟨Nat.le_of_ble_eq_true rfl, Nat.le_of_ble_eq_true rfl, Nat.le_of_ble_eq_true rfl, Nat.le_of_ble_eq_true rfl⟩ (Nat.le_of_ble_eq_true rfl) ?_
        intro r w hq
        obtain ⟨rfl, rfl⟩ := hq
        first | refine z_istore_3 d_Tf_given_33 rfl ?_ | (refine z_forget_2 ?_; refine z_istore_3 d_Tf_given_33 rfl ?_)
        refine z_iload_3 d_Tf_given_34 ?_
        refine z_if_eq (tgt := 44) d_Tf_given_35 (by decide) (fun h => absurd h (by decide)) (fun _ => ?_)
        refine z_aload_0 d_Tf_given_38 ?_
        refine z_iload_3 d_Tf_given_39 ?_
        refine z_Vi1 d_Tf_given_40 k_Tf_138 (by first | assumption | exact zS0_at (by assumption) (by omega) | exact zS0_at rfl (by omega)) (t_Tf_fail (by assumption)) ⟨Nat.le_of_ble_eq_true rfl, Nat.le_of_ble_eq_true rfl, Nat.le_of_ble_eq_true rfl, Nat.le_of_ble_eq_true rfl⟩ (Nat.le_of_ble_eq_true rfl) ?_
        intro r w hq
        obtain ⟨rfl, rfl⟩ := hq
        refine z_reti d_Tf_given_43 ?_
        exact ⟨rfl, cW_0⟩
      · refine z_Vi1 d_Tf_given_30 k_Tf_328 (by first | assumption | exact zS0_at (by assumption) (by omega) | exact zS0_at rfl (by omega)) (t_Tf_heap_g Z N hs h2) ⟨Nat.le_of_ble_eq_true rfl, Nat.le_of_ble_eq_true rfl, Nat.le_of_ble_eq_true rfl, Nat.le_of_ble_eq_true rfl⟩ (Nat.le_of_ble_eq_true rfl) ?_
        intro r w hq
        obtain ⟨rfl, rfl⟩ := hq
        first | refine z_istore_3 d_Tf_given_33 rfl ?_ | (refine z_forget_2 ?_; refine z_istore_3 d_Tf_given_33 rfl ?_)
        refine z_iload_3 d_Tf_given_34 ?_
        refine z_if_eq (tgt := 44) d_Tf_given_35 (by decide) (fun h => absurd h (by decide)) (fun _ => ?_)
        refine z_aload_0 d_Tf_given_38 ?_
        refine z_iload_3 d_Tf_given_39 ?_
        refine z_Vi1 d_Tf_given_40 k_Tf_138 (by first | assumption | exact zS0_at (by assumption) (by omega) | exact zS0_at rfl (by omega)) (t_Tf_fail (by assumption)) ⟨Nat.le_of_ble_eq_true rfl, Nat.le_of_ble_eq_true rfl, Nat.le_of_ble_eq_true rfl, Nat.le_of_ble_eq_true rfl⟩ (Nat.le_of_ble_eq_true rfl) ?_
        intro r w hq
        obtain ⟨rfl, rfl⟩ := hq
        refine z_reti d_Tf_given_43 ?_
        exact ⟨rfl, cW_0⟩
theorem t_Tf_given_n (Z : clOk f d P S) (N : fenIn I f nt np nl nn) (ht : t < nn) (hz : zbit (nI s) t) (hs : s < 2 ^ nn) (hg : nI s &&& cGo I f nn = 0) (hK : ∀ t, t < nn → I (f + 5) t = nI (kk t)) (h0 : gW (gTr (I (f + 2)) kk np) (zB (nI s)) nn nn 0 = 0) : zEi G y_Tf_given prog_1_method_35_code 5 (some .int) 5 [.ref 0, .int (nI s), .int (nI t)] (I, J, P, S) (fun r w => r = -1 ∧ cW I J P S 8 w) := by
  obtain ⟨⟨c0, c3, c1s⟩, ⟨c5, c2s, ctr⟩, ⟨c6, c11s, c11, c13s⟩, ⟨c7, c15s, c15⟩, ⟨c8, c16s, c16a, c16b, c17s⟩, ⟨c9, c10, cfd, F, Fd⟩, ⟨c11b, Ft⟩, ⟨c12, c69s, cmk⟩, ⟨c14, c121s, c121, c122s⟩, ⟨c15b, c123s, c123, c124s⟩, ⟨c16, c125s, c125, c126s⟩, ⟨c17, c127s, c127, c128s, ctb⟩, ⟨c18, c139s, c139, c140s⟩, ⟨c19, c141s, ⟨c141a, c142s⟩, ⟨c141b, c143s⟩, ⟨c141c, c144s⟩⟩, M⟩ := id Z
  obtain ⟨⟨n1, n1b⟩, ⟨n2, n2b⟩, ⟨n3, n3b⟩, ⟨n4, n4b⟩, nof, non⟩ := id N
  refine zEi_of (lv := [some (.ref 0), some (.int (nI s)), some (.int (nI t)), none, none]) (by decide) rfl (Nat.le_of_ble_eq_true rfl) ?_
  refine z_aload_0 d_Tf_given_0 ?_
  refine z_iload_2 d_Tf_given_1 ?_
  refine z_Vi1 d_Tf_given_2 k_Tf_249 (by first | assumption | exact zS0_at (by assumption) (by omega) | exact zS0_at rfl (by omega)) (t_Tf_noTin Z N) ⟨Nat.le_of_ble_eq_true rfl, Nat.le_of_ble_eq_true rfl, Nat.le_of_ble_eq_true rfl, Nat.le_of_ble_eq_true rfl⟩ (Nat.le_of_ble_eq_true rfl) ?_
  intro r w hq
  rcases hq with ⟨⟨hz1, rfl⟩ | ⟨hz1, rfl⟩, rfl⟩
  · exact absurd ⟨t, ht, rfl⟩ hz1
  · refine z_if_eq (tgt := 14) d_Tf_given_5 (by decide) (fun _ => ?_) (fun h => absurd (by decide) h)
    refine z_iload_1 d_Tf_given_14 ?_
    refine z_iload_2 d_Tf_given_15 ?_
    refine z_ishr d_Tf_given_16 ?_
    refine z_iconst (a := nI 1) d_Tf_given_17 (by decide) ?_
    refine z_iand d_Tf_given_18 ?_
    refine z_if_ne (tgt := 28) d_Tf_given_19 (by decide) (fun _ => ?_) (fun h => absurd h (zbit_p.mpr hz))
    refine z_aload_0 d_Tf_given_28 ?_
    refine z_iload_1 d_Tf_given_29 ?_
    refine z_Vi1 d_Tf_given_30 k_Tf_328 (by first | assumption | exact zS0_at (by assumption) (by omega) | exact zS0_at rfl (by omega)) (t_Tf_heap_p Z N hs hg) ⟨Nat.le_of_ble_eq_true rfl, Nat.le_of_ble_eq_true rfl, Nat.le_of_ble_eq_true rfl, Nat.le_of_ble_eq_true rfl⟩ (Nat.le_of_ble_eq_true rfl) ?_
    intro r w hq
    obtain ⟨rfl, rfl⟩ := hq
    first | refine z_istore_3 d_Tf_given_33 rfl ?_ | (refine z_forget_2 ?_; refine z_istore_3 d_Tf_given_33 rfl ?_)
    refine z_iload_3 d_Tf_given_34 ?_
    refine z_if_eq (tgt := 44) d_Tf_given_35 (by decide) (fun _ => ?_) (fun h => absurd (by decide) h)
    refine z_aload_0 d_Tf_given_44 ?_
    refine z_getR d_Tf_given_45 f_Tf_97 (by first | assumption | exact zS0_at (by assumption) (by omega) | exact zS0_at rfl (by omega)) (by first | assumption | exact zS0_at (by assumption) (by omega) | exact zS0_at rfl (by omega)) ?_
    refine z_aload_0 d_Tf_given_48 ?_
    refine z_getR d_Tf_given_49 f_Tf_60 (by first | assumption | exact zS0_at (by assumption) (by omega) | exact zS0_at rfl (by omega)) (by first | assumption | exact zS0_at (by assumption) (by omega) | exact zS0_at rfl (by omega)) ?_
    refine z_iload_1 d_Tf_given_52 ?_
    refine z_iload_2 d_Tf_given_53 ?_
    refine z_Vi3 d_Tf_given_54 k_Tf_337 (by first | assumption | exact zS0_at (by assumption) (by omega) | exact zS0_at rfl (by omega)) (t_Giv_firstGiving0 Z N hK h0) ⟨Nat.le_of_ble_eq_true rfl, Nat.le_of_ble_eq_true rfl, Nat.le_of_ble_eq_true rfl, Nat.le_of_ble_eq_true rfl⟩ (Nat.le_of_ble_eq_true rfl) ?_
    rintro r w ⟨rfl, I2, rfl, g1⟩
    first | refine z_istore_4 d_Tf_given_57 rfl ?_ | (refine z_forget_3 ?_; refine z_istore_4 d_Tf_given_57 rfl ?_)
    refine z_iload_4 d_Tf_given_59 ?_
    refine z_if_ge (tgt := 73) d_Tf_given_61 (by decide) (fun h => absurd h (by decide)) (fun _ => ?_)
    refine z_aload_0 d_Tf_given_64 ?_
    refine z_bipush (a := nI 8) d_Tf_given_65 (by decide) ?_
    refine z_Vi1 d_Tf_given_67 k_Tf_138 (by first | assumption | exact zS0_at (by assumption) (by omega) | exact zS0_at rfl (by omega)) (t_Tf_fail (by assumption)) ⟨Nat.le_of_ble_eq_true rfl, Nat.le_of_ble_eq_true rfl, Nat.le_of_ble_eq_true rfl, Nat.le_of_ble_eq_true rfl⟩ (Nat.le_of_ble_eq_true rfl) ?_
    intro r w hq
    obtain ⟨rfl, rfl⟩ := hq
    refine z_goto (tgt := 79) d_Tf_given_70 (by decide) ?_
    refine z_reti d_Tf_given_79 ?_
    exact ⟨rfl, _, _, rfl, cqF_0 (tbF_q g1), cqJ_r, zu_same _ _ _ _⟩
theorem t_Tf_given (Z : clOk f d P S) (N : fenIn I f nt np nl nn) (ht : t < nn) (hz : zbit (nI s) t) (hs : s < 2 ^ nn) (hg : nI s &&& cGo I f nn = 0) (hK : ∀ t, t < nn → I (f + 5) t = nI (kk t)) (h0 : 0 < gW (gTr (I (f + 2)) kk np) (zB (nI s)) nn nn 0) : zEi G y_Tf_given prog_1_method_35_code 5 (some .int) 5 [.ref 0, .int (nI s), .int (nI t)] (I, J, P, S) (fun r w => r = nI (gNx (gTr (I (f + 2)) kk np) (zB (nI s)) nn np t (gU (gTr (I (f + 2)) kk np) (zB (nI s)) nn np t)) ∧ cW I J P S 0 w) := by
  obtain ⟨⟨c0, c3, c1s⟩, ⟨c5, c2s, ctr⟩, ⟨c6, c11s, c11, c13s⟩, ⟨c7, c15s, c15⟩, ⟨c8, c16s, c16a, c16b, c17s⟩, ⟨c9, c10, cfd, F, Fd⟩, ⟨c11b, Ft⟩, ⟨c12, c69s, cmk⟩, ⟨c14, c121s, c121, c122s⟩, ⟨c15b, c123s, c123, c124s⟩, ⟨c16, c125s, c125, c126s⟩, ⟨c17, c127s, c127, c128s, ctb⟩, ⟨c18, c139s, c139, c140s⟩, ⟨c19, c141s, ⟨c141a, c142s⟩, ⟨c141b, c143s⟩, ⟨c141c, c144s⟩⟩, M⟩ := id Z
  obtain ⟨⟨n1, n1b⟩, ⟨n2, n2b⟩, ⟨n3, n3b⟩, ⟨n4, n4b⟩, nof, non⟩ := id N
  have htr : ∀ t p, p < 7 → gTr (I (f + 2)) kk np t p = true → p < np := fun t p hp h => gTr_lt n2b (by omega) h
  have hx := (gNx_ok n2b htr ht hz (gU_ok n2b htr h0 t (by omega)).2).1
  have eL : gL (gTr (I (f + 2)) kk np) (zB (nI s)) nn np (t + 1) = nI (gNx (gTr (I (f + 2)) kk np) (zB (nI s)) nn np t (gU (gTr (I (f + 2)) kk np) (zB (nI s)) nn np t)) := by rw [gL, if_pos hz]
  refine zEi_of (lv := [some (.ref 0), some (.int (nI s)), some (.int (nI t)), none, none]) (by decide) rfl (Nat.le_of_ble_eq_true rfl) ?_
  refine z_aload_0 d_Tf_given_0 ?_
  refine z_iload_2 d_Tf_given_1 ?_
  refine z_Vi1 d_Tf_given_2 k_Tf_249 (by first | assumption | exact zS0_at (by assumption) (by omega) | exact zS0_at rfl (by omega)) (t_Tf_noTin Z N) ⟨Nat.le_of_ble_eq_true rfl, Nat.le_of_ble_eq_true rfl, Nat.le_of_ble_eq_true rfl, Nat.le_of_ble_eq_true rfl⟩ (Nat.le_of_ble_eq_true rfl) ?_
  intro r w hq
  rcases hq with ⟨⟨hz1, rfl⟩ | ⟨hz1, rfl⟩, rfl⟩
  · exact absurd ⟨t, ht, rfl⟩ hz1
  · refine z_if_eq (tgt := 14) d_Tf_given_5 (by decide) (fun _ => ?_) (fun h => absurd (by decide) h)
    refine z_iload_1 d_Tf_given_14 ?_
    refine z_iload_2 d_Tf_given_15 ?_
    refine z_ishr d_Tf_given_16 ?_
    refine z_iconst (a := nI 1) d_Tf_given_17 (by decide) ?_
    refine z_iand d_Tf_given_18 ?_
    refine z_if_ne (tgt := 28) d_Tf_given_19 (by decide) (fun _ => ?_) (fun h => absurd h (zbit_p.mpr hz))
    refine z_aload_0 d_Tf_given_28 ?_
    refine z_iload_1 d_Tf_given_29 ?_
    refine z_Vi1 d_Tf_given_30 k_Tf_328 (by first | assumption | exact zS0_at (by assumption) (by omega) | exact zS0_at rfl (by omega)) (t_Tf_heap_p Z N hs hg) ⟨Nat.le_of_ble_eq_true rfl, Nat.le_of_ble_eq_true rfl, Nat.le_of_ble_eq_true rfl, Nat.le_of_ble_eq_true rfl⟩ (Nat.le_of_ble_eq_true rfl) ?_
    intro r w hq
    obtain ⟨rfl, rfl⟩ := hq
    first | refine z_istore_3 d_Tf_given_33 rfl ?_ | (refine z_forget_2 ?_; refine z_istore_3 d_Tf_given_33 rfl ?_)
    refine z_iload_3 d_Tf_given_34 ?_
    refine z_if_eq (tgt := 44) d_Tf_given_35 (by decide) (fun _ => ?_) (fun h => absurd (by decide) h)
    refine z_aload_0 d_Tf_given_44 ?_
    refine z_getR d_Tf_given_45 f_Tf_97 (by first | assumption | exact zS0_at (by assumption) (by omega) | exact zS0_at rfl (by omega)) (by first | assumption | exact zS0_at (by assumption) (by omega) | exact zS0_at rfl (by omega)) ?_
    refine z_aload_0 d_Tf_given_48 ?_
    refine z_getR d_Tf_given_49 f_Tf_60 (by first | assumption | exact zS0_at (by assumption) (by omega) | exact zS0_at rfl (by omega)) (by first | assumption | exact zS0_at (by assumption) (by omega) | exact zS0_at rfl (by omega)) ?_
    refine z_iload_1 d_Tf_given_52 ?_
    refine z_iload_2 d_Tf_given_53 ?_
    refine z_Vi3 d_Tf_given_54 k_Tf_337 (by first | assumption | exact zS0_at (by assumption) (by omega) | exact zS0_at rfl (by omega)) (t_Giv_firstGiving Z N hK h0 ht) ⟨Nat.le_of_ble_eq_true rfl, Nat.le_of_ble_eq_true rfl, Nat.le_of_ble_eq_true rfl, Nat.le_of_ble_eq_true rfl⟩ (Nat.le_of_ble_eq_true rfl) ?_
    rintro r w ⟨rfl, I2, rfl, g1⟩
    rw [eL]
    first | refine z_istore_4 d_Tf_given_57 rfl ?_ | (refine z_forget_3 ?_; refine z_istore_4 d_Tf_given_57 rfl ?_)
    refine z_iload_4 d_Tf_given_59 ?_
    refine z_if_ge (tgt := 73) d_Tf_given_61 (by decide) (fun _ => ?_) (fun h => absurd (nI_pos' (by omega)) h)
    refine z_aload_0 d_Tf_given_73 ?_
    refine z_iload_4 d_Tf_given_74 ?_
    refine z_Vi1 d_Tf_given_76 k_Tf_174 (by first | assumption | exact zS0_at (by assumption) (by omega) | exact zS0_at rfl (by omega)) (t_Tf_give (by assumption)) ⟨Nat.le_of_ble_eq_true rfl, Nat.le_of_ble_eq_true rfl, Nat.le_of_ble_eq_true rfl, Nat.le_of_ble_eq_true rfl⟩ (Nat.le_of_ble_eq_true rfl) ?_
    intro r w hq
    obtain ⟨rfl, rfl⟩ := hq
    refine z_reti d_Tf_given_79 ?_
    exact ⟨rfl, _, _, rfl, cqF_0 (tbF_q g1), cqJ_r, zu_same _ _ _ _⟩
theorem t_Mo_given_x (M : modOk P S) (N : modIn I nt np nl nn) (h : ¬ zin c nn ∧ st = 2 ∨ ∃ t, t < nn ∧ c = nI t ∧ (¬ zbit a t ∧ st = 5 ∨ zbit a t ∧ (¬ zin a (2 ^ nn) ∧ st = 5 ∨ zin a (2 ^ nn) ∧ ¬ a &&& mGo I nn = 0 ∧ st = 9))) : zEi G y_Mo_given prog_14_method_118_code 6 (some .int) 5 [.ref 145, .int a, .int c] (I, J, P, S) (fun r w => r = -1 ∧ mW I J P S st w) := by
  obtain ⟨M0, ⟨M4, M4s⟩, ⟨M5, M5s⟩, ⟨M6, M6s⟩, ⟨M7, M7s⟩, ⟨M20, M20s⟩, ⟨M21, M21s⟩, ⟨M22, M22s⟩, ⟨M26, M26s⟩, ⟨M27, M27s⟩, ⟨M28, M28s⟩, ⟨M30, M30s⟩, ⟨M34, M34s⟩, ⟨M36, M36s⟩, ⟨M37, M37s⟩⟩ := id M
  obtain ⟨⟨m0, m0b⟩, ⟨m1, m1b⟩, ⟨m2, m2b⟩, ⟨m3, m3b⟩, mof, mon⟩ := id N
  have eG : mGo (zu I 145 1 (nI 0)) nn = mGo I nn := by unfold mGo; rw [zu_row _ _ _ _ (by decide)]
  refine zEi_of (lv := [some (.ref 145), some (.int a), some (.int c), none, none, none]) (by decide) rfl (Nat.le_of_ble_eq_true rfl) ?_
  have f68 : ∀ (I2 : Nat → Nat → Int32), 0 < st → st < 10 → I2 145 0 = nI st → mqF I I2 → zA G y_Mo_given prog_14_method_118_code 6 (some .int) (zRm 5 0 0) (zM G 0 0 (fun r w' => ∃ x, r = some (.int x) ∧ (fun r w => r = -1 ∧ mW I J P S st w) x w')) 68 [some (.ref 145), some (.int a), some (.int c), none, none, none] [] (I2, J, P, S) 0 0 := by
    intro I2 h1 h2 h3 h4
    refine z_aload_0 d_Mo_given_68 ?_
    refine z_getIv d_Mo_given_69 f_Mo_73 (by first | assumption | exact zS0_at (by assumption) (by omega) | exact zS0_at rfl (by omega)) (by first | assumption | ((try simp (disch := omega) only [zu_same, zu_ne, zcp_ne, zfl_ne]); first | assumption | rfl)) ?_
    refine z_if_le (tgt := 77) d_Mo_given_72 (by decide) (fun h => absurd h (fun q => by rw [← nI_0] at q; have := (nI_leI (by omega) (by omega)).mp q; omega)) (fun _ => ?_)
    refine z_iconst (a := -1) d_Mo_given_75 (by decide) ?_
    refine z_reti d_Mo_given_76 ?_
    exact ⟨rfl, _, _, rfl, h4, mqJ_r, h3⟩
  have mq2 : ∀ x : Int32, mqF I (zu (zu I 145 1 (nI 0)) 145 0 x) := fun x => mqF_z (mqF_z mqF_r (by decide)) (by decide)
  refine z_aload_0 d_Mo_given_0 ?_
  refine z_iconst (a := nI 0) d_Mo_given_1 (by decide) ?_
  refine z_putI d_Mo_given_2 f_Mo_70 (by first | assumption | exact zS0_at (by assumption) (by omega) | exact zS0_at rfl (by omega)) ?_
  refine z_aload_0 d_Mo_given_5 ?_
  refine z_aload_0 d_Mo_given_6 ?_
  refine z_iload_2 d_Mo_given_7 ?_
  refine z_Vi1 d_Mo_given_8 k_Mo_344 (by first | assumption | exact zS0_at (by assumption) (by omega) | exact zS0_at rfl (by omega)) (t_Mo_isTinAt M (modIn_z N)) ⟨Nat.le_of_ble_eq_true rfl, Nat.le_of_ble_eq_true rfl, Nat.le_of_ble_eq_true rfl, Nat.le_of_ble_eq_true rfl⟩ (Nat.le_of_ble_eq_true rfl) ?_
  intro r w hq
  rcases hq with ⟨⟨hz, rfl⟩ | ⟨hz, rfl⟩, rfl⟩
  · rcases h with ⟨h, -⟩ | ⟨t, ht, rfl, h⟩
    · exact absurd hz h
    refine z_if_ne (tgt := 18) d_Mo_given_11 (by decide) (fun _ => ?_) (fun h => absurd h (by decide))
    refine z_aload_0 d_Mo_given_18 ?_
    refine z_iload_1 d_Mo_given_19 ?_
    refine z_Vi1 d_Mo_given_20 k_Mo_399 (by first | assumption | exact zS0_at (by assumption) (by omega) | exact zS0_at rfl (by omega)) (t_Mo_tins_x M (modIn_z N)) ⟨Nat.le_of_ble_eq_true rfl, Nat.le_of_ble_eq_true rfl, Nat.le_of_ble_eq_true rfl, Nat.le_of_ble_eq_true rfl⟩ (Nat.le_of_ble_eq_true rfl) ?_
    rintro r w ⟨hr, rfl⟩
    rw [eG] at hr
    rcases h with ⟨h, hst⟩ | ⟨h, h2⟩
    · have hs5 : ∀ x : Int32, zA G y_Mo_given prog_14_method_118_code 6 (some .int) (zRm 5 0 0) (zM G 0 0 (fun r w' => ∃ x, r = some (.int x) ∧ (fun r w => r = -1 ∧ mW I J P S st w) x w')) 68 [some (.ref 145), some (.int a), some (.int (nI t)), none, none, none] [] (zu (zu (zu I 145 1 (nI 0)) 145 0 x) 145 0 (nI 5), J, P, S) 0 0 := fun x => f68 _ (by omega) (by omega) (by rw [hst]; exact zu_same _ _ _ _) (mqF_z (mq2 x) (by decide))
      have hs5' : zA G y_Mo_given prog_14_method_118_code 6 (some .int) (zRm 5 0 0) (zM G 0 0 (fun r w' => ∃ x, r = some (.int x) ∧ (fun r w => r = -1 ∧ mW I J P S st w) x w')) 68 [some (.ref 145), some (.int a), some (.int (nI t)), none, none, none] [] (zu (zu I 145 1 (nI 0)) 145 0 (nI 5), J, P, S) 0 0 := f68 _ (by omega) (by omega) (by rw [hst]; exact zu_same _ _ _ _) (mq2 _)
      rcases hr with ⟨-, rfl⟩ | ⟨-, ⟨-, rfl⟩ | ⟨-, rfl⟩⟩
      · refine z_putI d_Mo_given_23 f_Mo_73 (by first | assumption | exact zS0_at (by assumption) (by omega) | exact zS0_at rfl (by omega)) ?_
        refine z_aload_0 d_Mo_given_26 ?_
        refine z_getIv d_Mo_given_27 f_Mo_73 (by first | assumption | exact zS0_at (by assumption) (by omega) | exact zS0_at rfl (by omega)) (by first | assumption | ((try simp (disch := omega) only [zu_same, zu_ne, zcp_ne, zfl_ne]); first | assumption | rfl)) ?_
        refine z_if_ne (tgt := 46) d_Mo_given_30 (by decide) (fun _ => ?_) (fun h => absurd h (by decide))
        refine z_aload_0 d_Mo_given_46 ?_
        refine z_getIv d_Mo_given_47 f_Mo_73 (by first | assumption | exact zS0_at (by assumption) (by omega) | exact zS0_at rfl (by omega)) (by first | assumption | ((try simp (disch := omega) only [zu_same, zu_ne, zcp_ne, zfl_ne]); first | assumption | rfl)) ?_
        refine z_bipush (a := nI 9) d_Mo_given_50 (by decide) ?_
        refine z_icmp_ne (tgt := 68) d_Mo_given_52 (by decide) (fun _ => ?_) (fun h => absurd h (by decide))
        exact hs5'
      · refine z_putI d_Mo_given_23 f_Mo_73 (by first | assumption | exact zS0_at (by assumption) (by omega) | exact zS0_at rfl (by omega)) ?_
        refine z_aload_0 d_Mo_given_26 ?_
        refine z_getIv d_Mo_given_27 f_Mo_73 (by first | assumption | exact zS0_at (by assumption) (by omega) | exact zS0_at rfl (by omega)) (by first | assumption | ((try simp (disch := omega) only [zu_same, zu_ne, zcp_ne, zfl_ne]); first | assumption | rfl)) ?_
        refine z_if_ne (tgt := 46) d_Mo_given_30 (by decide) (fun _ => ?_) (fun h => absurd h (by decide))
        refine z_aload_0 d_Mo_given_46 ?_
        refine z_getIv d_Mo_given_47 f_Mo_73 (by first | assumption | exact zS0_at (by assumption) (by omega) | exact zS0_at rfl (by omega)) (by first | assumption | ((try simp (disch := omega) only [zu_same, zu_ne, zcp_ne, zfl_ne]); first | assumption | rfl)) ?_
        refine z_bipush (a := nI 9) d_Mo_given_50 (by decide) ?_
        refine z_icmp_ne (tgt := 68) d_Mo_given_52 (by decide) (fun h => absurd (by decide) h) (fun _ => ?_)
        refine z_iload_1 d_Mo_given_55 ?_
        refine z_iload_2 d_Mo_given_56 ?_
        refine z_Si2 d_Mo_given_57 k_Mo_109 (t_Mo_has) ⟨Nat.le_of_ble_eq_true rfl, Nat.le_of_ble_eq_true rfl, Nat.le_of_ble_eq_true rfl, Nat.le_of_ble_eq_true rfl⟩ (Nat.le_of_ble_eq_true rfl) ?_
        intro r w hq
        rcases hq with ⟨⟨hz1, rfl⟩ | ⟨hz1, rfl⟩, rfl⟩
        · exact absurd hz1 h
        · refine z_if_ne (tgt := 68) d_Mo_given_60 (by decide) (fun h => absurd (by decide) h) (fun _ => ?_)
          refine z_aload_0 d_Mo_given_63 ?_
          refine z_iconst (a := nI 5) d_Mo_given_64 (by decide) ?_
          refine z_putI d_Mo_given_65 f_Mo_73 (by first | assumption | exact zS0_at (by assumption) (by omega) | exact zS0_at rfl (by omega)) ?_
          exact hs5 _
      · refine z_putI d_Mo_given_23 f_Mo_73 (by first | assumption | exact zS0_at (by assumption) (by omega) | exact zS0_at rfl (by omega)) ?_
        refine z_aload_0 d_Mo_given_26 ?_
        refine z_getIv d_Mo_given_27 f_Mo_73 (by first | assumption | exact zS0_at (by assumption) (by omega) | exact zS0_at rfl (by omega)) (by first | assumption | ((try simp (disch := omega) only [zu_same, zu_ne, zcp_ne, zfl_ne]); first | assumption | rfl)) ?_
        refine z_if_ne (tgt := 46) d_Mo_given_30 (by decide) (fun h => absurd (by decide) h) (fun _ => ?_)
        refine z_iload_1 d_Mo_given_33 ?_
        refine z_iload_2 d_Mo_given_34 ?_
        refine z_Si2 d_Mo_given_35 k_Mo_109 (t_Mo_has) ⟨Nat.le_of_ble_eq_true rfl, Nat.le_of_ble_eq_true rfl, Nat.le_of_ble_eq_true rfl, Nat.le_of_ble_eq_true rfl⟩ (Nat.le_of_ble_eq_true rfl) ?_
        intro r w hq
        rcases hq with ⟨⟨hz1, rfl⟩ | ⟨hz1, rfl⟩, rfl⟩
        · exact absurd hz1 h
        · refine z_if_ne (tgt := 46) d_Mo_given_38 (by decide) (fun h => absurd (by decide) h) (fun _ => ?_)
          refine z_aload_0 d_Mo_given_41 ?_
          refine z_iconst (a := nI 5) d_Mo_given_42 (by decide) ?_
          refine z_putI d_Mo_given_43 f_Mo_73 (by first | assumption | exact zS0_at (by assumption) (by omega) | exact zS0_at rfl (by omega)) ?_
          refine z_aload_0 d_Mo_given_46 ?_
          refine z_getIv d_Mo_given_47 f_Mo_73 (by first | assumption | exact zS0_at (by assumption) (by omega) | exact zS0_at rfl (by omega)) (by first | assumption | ((try simp (disch := omega) only [zu_same, zu_ne, zcp_ne, zfl_ne]); first | assumption | rfl)) ?_
          refine z_bipush (a := nI 9) d_Mo_given_50 (by decide) ?_
          refine z_icmp_ne (tgt := 68) d_Mo_given_52 (by decide) (fun _ => ?_) (fun h => absurd h (by decide))
          exact hs5 _
    · have hr : r = nI st ∧ (st = 5 ∨ st = 9) := by
        rcases h2 with ⟨h2, rfl⟩ | ⟨h2, h3, rfl⟩
        · rcases hr with ⟨-, hr⟩ | ⟨g, -⟩
          · exact ⟨hr, Or.inl rfl⟩
          · exact absurd g h2
        · rcases hr with ⟨g, -⟩ | ⟨-, ⟨-, hr⟩ | ⟨g, -⟩⟩
          · exact absurd h2 g
          · exact ⟨hr, Or.inr rfl⟩
          · exact absurd g h3
      obtain ⟨rfl, h5⟩ := hr
      have q := f68 _ (by omega) (by omega) (zu_same _ _ _ _) (mq2 (nI st))
      refine z_putI d_Mo_given_23 f_Mo_73 (by first | assumption | exact zS0_at (by assumption) (by omega) | exact zS0_at rfl (by omega)) ?_
      refine z_aload_0 d_Mo_given_26 ?_
      refine z_getIv d_Mo_given_27 f_Mo_73 (by first | assumption | exact zS0_at (by assumption) (by omega) | exact zS0_at rfl (by omega)) (by first | assumption | ((try simp (disch := omega) only [zu_same, zu_ne, zcp_ne, zfl_ne]); first | assumption | rfl)) ?_
      refine z_if_ne (tgt := 46) d_Mo_given_30 (by decide) (fun _ => ?_) (fun h => absurd h (fun q => by rw [← nI_0] at q; have := (nI_eq (by omega) (by omega)).mp q; omega))
      refine z_aload_0 d_Mo_given_46 ?_
      refine z_getIv d_Mo_given_47 f_Mo_73 (by first | assumption | exact zS0_at (by assumption) (by omega) | exact zS0_at rfl (by omega)) (by first | assumption | ((try simp (disch := omega) only [zu_same, zu_ne, zcp_ne, zfl_ne]); first | assumption | rfl)) ?_
      refine z_bipush (a := nI 9) d_Mo_given_50 (by decide) ?_
      rcases h5 with rfl | rfl
      · refine z_icmp_ne (tgt := 68) d_Mo_given_52 (by decide) (fun _ => ?_) (fun h => absurd h (by decide))
        exact q
      · refine z_icmp_ne (tgt := 68) d_Mo_given_52 (by decide) (fun h => absurd (by decide) h) (fun _ => ?_)
        refine z_iload_1 d_Mo_given_55 ?_
        refine z_iload_2 d_Mo_given_56 ?_
        refine z_Si2 d_Mo_given_57 k_Mo_109 (t_Mo_has) ⟨Nat.le_of_ble_eq_true rfl, Nat.le_of_ble_eq_true rfl, Nat.le_of_ble_eq_true rfl, Nat.le_of_ble_eq_true rfl⟩ (Nat.le_of_ble_eq_true rfl) ?_
        intro r w hq
        rcases hq with ⟨⟨hz1, rfl⟩ | ⟨hz1, rfl⟩, rfl⟩
        · refine z_if_ne (tgt := 68) d_Mo_given_60 (by decide) (fun _ => ?_) (fun h => absurd h (by decide))
          exact q
        · exact absurd h hz1
  · rcases h with ⟨-, rfl⟩ | ⟨t, ht, rfl, -⟩
    · refine z_if_ne (tgt := 18) d_Mo_given_11 (by decide) (fun h => absurd (by decide) h) (fun _ => ?_)
      refine z_iconst (a := nI 2) d_Mo_given_14 (by decide) ?_
      refine z_goto (tgt := 23) d_Mo_given_15 (by decide) ?_
      refine z_putI d_Mo_given_23 f_Mo_73 (by first | assumption | exact zS0_at (by assumption) (by omega) | exact zS0_at rfl (by omega)) ?_
      refine z_aload_0 d_Mo_given_26 ?_
      refine z_getIv d_Mo_given_27 f_Mo_73 (by first | assumption | exact zS0_at (by assumption) (by omega) | exact zS0_at rfl (by omega)) (by first | assumption | ((try simp (disch := omega) only [zu_same, zu_ne, zcp_ne, zfl_ne]); first | assumption | rfl)) ?_
      refine z_if_ne (tgt := 46) d_Mo_given_30 (by decide) (fun _ => ?_) (fun h => absurd h (by decide))
      refine z_aload_0 d_Mo_given_46 ?_
      refine z_getIv d_Mo_given_47 f_Mo_73 (by first | assumption | exact zS0_at (by assumption) (by omega) | exact zS0_at rfl (by omega)) (by first | assumption | ((try simp (disch := omega) only [zu_same, zu_ne, zcp_ne, zfl_ne]); first | assumption | rfl)) ?_
      refine z_bipush (a := nI 9) d_Mo_given_50 (by decide) ?_
      refine z_icmp_ne (tgt := 68) d_Mo_given_52 (by decide) (fun _ => ?_) (fun h => absurd h (by decide))
      exact f68 _ (by omega) (by omega) (zu_same _ _ _ _) (mq2 _)
    · exact absurd ⟨t, ht, rfl⟩ hz
theorem t_Mo_given (M : modOk P S) (N : modIn I nt np nl nn) (ht : t < nn) (hz : zbit a t) (ha : zin a (2 ^ nn)) (hg : a &&& mGo I nn = 0) (hK : ∀ t, t < nn → I 150 (33 + t) = nI (kk t)) (hT : tr = gTr (fun p => I 150 (12 + p)) kk np) : zEi G y_Mo_given prog_14_method_118_code 6 (some .int) 5 [.ref 145, .int a, .int (nI t)] (I, J, P, S) (fun r w => (gW tr (zB a) nn nn 0 = 0 ∧ r = -1 ∧ mW I J P S 8 w) ∨ (0 < gW tr (zB a) nn nn 0 ∧ r = nI (gNx tr (zB a) nn np t (gU tr (zB a) nn np t)) ∧ mW I J P S 0 w)) := by
  obtain ⟨M0, ⟨M4, M4s⟩, ⟨M5, M5s⟩, ⟨M6, M6s⟩, ⟨M7, M7s⟩, ⟨M20, M20s⟩, ⟨M21, M21s⟩, ⟨M22, M22s⟩, ⟨M26, M26s⟩, ⟨M27, M27s⟩, ⟨M28, M28s⟩, ⟨M30, M30s⟩, ⟨M34, M34s⟩, ⟨M36, M36s⟩, ⟨M37, M37s⟩⟩ := id M
  obtain ⟨I1, hI1, N1, h1, h0, e150, er, ek⟩ := mo_beg N
  obtain ⟨⟨m0, m0b⟩, ⟨m1, m1b⟩, ⟨m2, m2b⟩, ⟨m3, m3b⟩, mof, mon⟩ := id N
  have h128 : 2 ^ np ≤ 128 := Nat.pow_le_pow_right (n := 2) (by decide) m1b
  have eG : mGo (zu I 145 1 (nI 0)) nn = mGo I nn := by unfold mGo; rw [zu_row _ _ _ _ (by decide)]
  have htr : ∀ t p, p < 7 → tr t p = true → p < np := fun t p hp h => by rw [hT] at h; exact gTr_lt m1b (by omega) h
  have hlt : ∀ r s, r ≤ nn → gW tr (zB a) nn r s < 2 ^ 30 := fun r s hr => gW_lt (by omega)
  have lays : ∀ I2, I2 150 = I 150 → ∀ fr us, fr ≤ nn → us < 128 → zEi G y_Mo_laysGivings prog_14_method_113_code 7 (some .int) 4 [.ref 145, .int a, .int (nI fr), .int (nI us), .int (nI 1)] (I2, J, P, S) (fun r w => r = nI (gW tr (zB a) nn (nn - fr) us) ∧ ∃ I', w = (I', J, P, S) ∧ xF 156 I2 I') := fun I2 e fr us hfr hus => by
    have q := t_Mo_lays1 (G := G) (J := J) (a := a) (kk := kk) (fr := fr) (us := us) M (modIn_c N e) (fun t ht => by rw [e]; exact hK t ht) hfr hus
    rw [e, ← hT] at q
    exact q
  refine zEi_of (lv := [some (.ref 145), some (.int a), some (.int (nI t)), none, none, none]) (by decide) rfl (Nat.le_of_ble_eq_true rfl) ?_
  refine z_aload_0 d_Mo_given_0 ?_
  refine z_iconst (a := nI 0) d_Mo_given_1 (by decide) ?_
  refine z_putI d_Mo_given_2 f_Mo_70 (by first | assumption | exact zS0_at (by assumption) (by omega) | exact zS0_at rfl (by omega)) ?_
  refine z_aload_0 d_Mo_given_5 ?_
  refine z_aload_0 d_Mo_given_6 ?_
  refine z_iload_2 d_Mo_given_7 ?_
  refine z_Vi1 d_Mo_given_8 k_Mo_344 (by first | assumption | exact zS0_at (by assumption) (by omega) | exact zS0_at rfl (by omega)) (t_Mo_isTinAt M (modIn_z N)) ⟨Nat.le_of_ble_eq_true rfl, Nat.le_of_ble_eq_true rfl, Nat.le_of_ble_eq_true rfl, Nat.le_of_ble_eq_true rfl⟩ (Nat.le_of_ble_eq_true rfl) ?_
  intro r w hq
  rcases hq with ⟨⟨hz0, rfl⟩ | ⟨hz0, rfl⟩, rfl⟩
  case inr => exact absurd ⟨t, ht, rfl⟩ hz0
  refine z_if_ne (tgt := 18) d_Mo_given_11 (by decide) (fun _ => ?_) (fun h => absurd h (by decide))
  refine z_aload_0 d_Mo_given_18 ?_
  refine z_iload_1 d_Mo_given_19 ?_
  refine z_Vi1 d_Mo_given_20 k_Mo_399 (by first | assumption | exact zS0_at (by assumption) (by omega) | exact zS0_at rfl (by omega)) (t_Mo_tins_x M (modIn_z N)) ⟨Nat.le_of_ble_eq_true rfl, Nat.le_of_ble_eq_true rfl, Nat.le_of_ble_eq_true rfl, Nat.le_of_ble_eq_true rfl⟩ (Nat.le_of_ble_eq_true rfl) ?_
  rintro r w ⟨hr, rfl⟩
  rw [eG] at hr
  have hr : r = nI 0 := by
    rcases hr with ⟨g, -⟩ | ⟨-, ⟨g, -⟩ | ⟨-, hr⟩⟩
    · exact absurd ha g
    · exact absurd hg g
    · exact hr
  subst hr
  refine z_putI d_Mo_given_23 f_Mo_73 (by first | assumption | exact zS0_at (by assumption) (by omega) | exact zS0_at rfl (by omega)) ?_
  rw [← hI1]
  refine z_aload_0 d_Mo_given_26 ?_
  refine z_getIv d_Mo_given_27 f_Mo_73 (by first | assumption | exact zS0_at (by assumption) (by omega) | exact zS0_at rfl (by omega)) (by first | assumption | ((try simp (disch := omega) only [zu_same, zu_ne, zcp_ne, zfl_ne]); first | assumption | rfl)) ?_
  refine z_if_ne (tgt := 46) d_Mo_given_30 (by decide) (fun h => absurd (by decide) h) (fun _ => ?_)
  refine z_iload_1 d_Mo_given_33 ?_
  refine z_iload_2 d_Mo_given_34 ?_
  refine z_Si2 d_Mo_given_35 k_Mo_109 (t_Mo_has) ⟨Nat.le_of_ble_eq_true rfl, Nat.le_of_ble_eq_true rfl, Nat.le_of_ble_eq_true rfl, Nat.le_of_ble_eq_true rfl⟩ (Nat.le_of_ble_eq_true rfl) ?_
  intro r w hq
  rcases hq with ⟨⟨hz1, rfl⟩ | ⟨hz1, rfl⟩, rfl⟩
  case inr => exact absurd hz hz1
  refine z_if_ne (tgt := 46) d_Mo_given_38 (by decide) (fun _ => ?_) (fun h => absurd h (by decide))
  refine z_aload_0 d_Mo_given_46 ?_
  refine z_getIv d_Mo_given_47 f_Mo_73 (by first | assumption | exact zS0_at (by assumption) (by omega) | exact zS0_at rfl (by omega)) (by first | assumption | ((try simp (disch := omega) only [zu_same, zu_ne, zcp_ne, zfl_ne]); first | assumption | rfl)) ?_
  refine z_bipush (a := nI 9) d_Mo_given_50 (by decide) ?_
  refine z_icmp_ne (tgt := 68) d_Mo_given_52 (by decide) (fun _ => ?_) (fun h => absurd h (by decide))
  refine z_aload_0 d_Mo_given_68 ?_
  refine z_getIv d_Mo_given_69 f_Mo_73 (by first | assumption | exact zS0_at (by assumption) (by omega) | exact zS0_at rfl (by omega)) (by first | assumption | ((try simp (disch := omega) only [zu_same, zu_ne, zcp_ne, zfl_ne]); first | assumption | rfl)) ?_
  refine z_if_le (tgt := 77) d_Mo_given_72 (by decide) (fun _ => ?_) (fun h => absurd (by decide) h)
  refine z_aload_0 d_Mo_given_77 ?_
  refine z_iload_1 d_Mo_given_78 ?_
  refine z_iconst (a := nI 0) d_Mo_given_79 (by decide) ?_
  refine z_iconst (a := nI 0) d_Mo_given_80 (by decide) ?_
  refine z_iconst (a := nI 1) d_Mo_given_81 (by decide) ?_
  refine z_Vi4 d_Mo_given_82 k_Mo_402 (by first | assumption | exact zS0_at (by assumption) (by omega) | exact zS0_at rfl (by omega)) (lays I1 e150 0 0 (Nat.zero_le _) (by decide)) ⟨Nat.le_of_ble_eq_true rfl, Nat.le_of_ble_eq_true rfl, Nat.le_of_ble_eq_true rfl, Nat.le_of_ble_eq_true rfl⟩ (Nat.le_of_ble_eq_true rfl) ?_
  rintro r w ⟨rfl, I2, rfl, g1⟩
  have e2 : I2 150 = I 150 := (g1 150 (by decide)).trans e150
  have f2 : mqF I I2 := mqF_t h1 (xF_m g1 (by omega))
  have s2 : I2 145 0 = nI 0 := by rw [g1 145 (by decide)]; exact h0
  have hl0 := hlt nn 0 (Nat.le_refl _)
  rw [Nat.sub_zero]
  refine z_if_ne (tgt := 95) d_Mo_given_85 (by decide) (fun hb => ?_) (fun hb => ?_)
  · have hb : 0 < gW tr (zB a) nn nn 0 := by
      rcases Nat.eq_zero_or_pos (gW tr (zB a) nn nn 0) with h | h
      · rw [h] at hb; exact absurd (by decide) hb
      · exact h
    have hU := gU_ok m1b htr hb
    have lp : ∀ m j I2, t + 1 - j < m → j ≤ t + 1 → I2 150 = I 150 → mqF I I2 → I2 145 0 = nI 0 → zA G y_Mo_given prog_14_method_118_code 6 (some .int) (zRm 5 0 0) (zM G 0 0 (fun r w' => ∃ x, r = some (.int x) ∧ (fun r w => (gW tr (zB a) nn nn 0 = 0 ∧ r = -1 ∧ mW I J P S 8 w) ∨ (0 < gW tr (zB a) nn nn 0 ∧ r = nI (gNx tr (zB a) nn np t (gU tr (zB a) nn np t)) ∧ mW I J P S 0 w)) x w')) 103 [some (.ref 145), some (.int a), some (.int (nI t)), some (.int (nI (gU tr (zB a) nn np j))), some (.int (gL tr (zB a) nn np j)), some (.int (nI j))] [] (I2, J, P, S) 0 0 := by
      intro m
      induction m with
      | zero => intro j I2 h; exact absurd h (Nat.not_lt_zero _)
      | succ m ih =>
        intro j I2 hm hj e2 f2 s2
        refine z_iload_5 d_Mo_given_103 ?_
        refine z_iload_2 d_Mo_given_105 ?_
        refine z_icmp_gt (tgt := 182) d_Mo_given_106 (by decide) (fun hc => ?_) (fun hc => ?_)
        · have hc := (nI_ltI (by omega) (by omega)).mp hc
          obtain rfl : j = t + 1 := by omega
          refine z_iload_4 d_Mo_given_182 ?_
          refine z_reti d_Mo_given_184 ?_
          exact Or.inr ⟨hb, by rw [gL, if_pos hz], _, _, rfl, f2, mqJ_r, s2⟩
        · have hc : j ≤ t := Nat.le_of_not_lt (fun q => hc (nI_lt q (by omega)))
          obtain ⟨u1, u2⟩ := hU j (by omega)
          have q0 := fun I3 => ih (j + 1) I3 (by omega) (by omega)
          rw [show gU tr (zB a) nn np (j + 1) = if zB a j then gU tr (zB a) nn np j ||| 2 ^ gNx tr (zB a) nn np j (gU tr (zB a) nn np j) else gU tr (zB a) nn np j from rfl, show gL tr (zB a) nn np (j + 1) = if zB a j then nI (gNx tr (zB a) nn np j (gU tr (zB a) nn np j)) else gL tr (zB a) nn np j from rfl] at q0
          refine z_iload_1 d_Mo_given_109 ?_
          refine z_iload_5 d_Mo_given_110 ?_
          refine z_Si2 d_Mo_given_112 k_Mo_109 (t_Mo_has) ⟨Nat.le_of_ble_eq_true rfl, Nat.le_of_ble_eq_true rfl, Nat.le_of_ble_eq_true rfl, Nat.le_of_ble_eq_true rfl⟩ (Nat.le_of_ble_eq_true rfl) ?_
          intro r w hq
          rcases hq with ⟨⟨hzj, rfl⟩ | ⟨hzj, rfl⟩, rfl⟩
          · refine z_if_ne (tgt := 121) d_Mo_given_115 (by decide) (fun _ => ?_) (fun h => absurd h (by decide))
            rw [if_pos hzj, if_pos hzj] at q0
            obtain ⟨x1, -, x3, x4⟩ := gNx_ok m1b htr (show j < nn by omega) hzj u2
            generalize gU tr (zB a) nn np j = u at u1 u2 x1 x3 x4 q0 ⊢
            generalize gNx tr (zB a) nn np j u = z at x1 x3 x4 q0 ⊢
            have inn : ∀ y to I2, z - to < y → to ≤ z → I2 150 = I 150 → mqF I I2 → I2 145 0 = nI 0 → zA G y_Mo_given prog_14_method_118_code 6 (some .int) (zRm 5 0 0) (zM G 0 0 (fun r w' => ∃ x, r = some (.int x) ∧ (fun r w => (gW tr (zB a) nn nn 0 = 0 ∧ r = -1 ∧ mW I J P S 8 w) ∨ (0 < gW tr (zB a) nn nn 0 ∧ r = nI (gNx tr (zB a) nn np t (gU tr (zB a) nn np t)) ∧ mW I J P S 0 w)) x w')) 124 [some (.ref 145), some (.int a), some (.int (nI t)), some (.int (nI u)), some (.int (nI to)), some (.int (nI j))] [] (I2, J, P, S) 0 0 := by
              intro y
              induction y with
              | zero => intro to I2 h; exact absurd h (Nat.not_lt_zero _)
              | succ y ihy =>
                intro to I2 hy hto e2 f2 s2
                have eC : gC tr (zB a) nn j u to = (tr j to && !u.testBit to && decide (0 < gW tr (zB a) nn (nn - (j + 1)) (u ||| 2 ^ to))) := rfl
                have no : gC tr (zB a) nn j u to = false → ∀ I3, I3 150 = I 150 → mqF I I3 → I3 145 0 = nI 0 → zA G y_Mo_given prog_14_method_118_code 6 (some .int) (zRm 5 0 0) (zM G 0 0 (fun r w' => ∃ x, r = some (.int x) ∧ (fun r w => (gW tr (zB a) nn nn 0 = 0 ∧ r = -1 ∧ mW I J P S 8 w) ∨ (0 < gW tr (zB a) nn nn 0 ∧ r = nI (gNx tr (zB a) nn np t (gU tr (zB a) nn np t)) ∧ mW I J P S 0 w)) x w')) 163 [some (.ref 145), some (.int a), some (.int (nI t)), some (.int (nI u)), some (.int (nI to)), some (.int (nI j))] [] (I3, J, P, S) 0 0 := by
                  intro h I3 e3 f3 s3
                  have hne : to ≠ z := fun e => by rw [e, x3] at h; exact absurd h (by decide)
                  first | refine z_iinc_4 d_Mo_given_163 rfl (zi_inc _) ?_ | refine z_iinc_4 d_Mo_given_163 rfl rfl ?_
                  refine z_goto (tgt := 124) d_Mo_given_166 (by decide) ?_
                  exact ihy (to + 1) I3 (by omega) (by omega) e3 f3 s3
                have ub : zbit (nI u) to ↔ u.testBit to = true := by rw [zbit, zB_nI (by omega)]
                refine z_iload_3 d_Mo_given_124 ?_
                refine z_iload_4 d_Mo_given_125 ?_
                refine z_Si2 d_Mo_given_127 k_Mo_109 (t_Mo_has) ⟨Nat.le_of_ble_eq_true rfl, Nat.le_of_ble_eq_true rfl, Nat.le_of_ble_eq_true rfl, Nat.le_of_ble_eq_true rfl⟩ (Nat.le_of_ble_eq_true rfl) ?_
                intro r w hq
                rcases hq with ⟨⟨hz2, rfl⟩ | ⟨hz2, rfl⟩, rfl⟩
                · refine z_if_ne (tgt := 163) d_Mo_given_130 (by decide) (fun _ => ?_) (fun h => absurd h (by decide))
                  exact no (by rw [eC, ub.mp hz2]; cases tr j to <;> rfl) I2 e2 f2 s2
                · have hu : u.testBit to = false := Bool.eq_false_iff.mpr (fun q => hz2 (ub.mpr q))
                  refine z_if_ne (tgt := 163) d_Mo_given_130 (by decide) (fun h => absurd (by decide) h) (fun _ => ?_)
                  refine z_aload_0 d_Mo_given_133 ?_
                  refine z_iload_5 d_Mo_given_134 ?_
                  refine z_iload_4 d_Mo_given_136 ?_
                  refine z_Vi2 d_Mo_given_138 k_Mo_354 (by first | assumption | exact zS0_at (by assumption) (by omega) | exact zS0_at rfl (by omega)) (t_Mo_isTrue (k := kk j) M (by omega) (by omega) (by rw [e2]; exact hK j (by omega))) ⟨Nat.le_of_ble_eq_true rfl, Nat.le_of_ble_eq_true rfl, Nat.le_of_ble_eq_true rfl, Nat.le_of_ble_eq_true rfl⟩ (Nat.le_of_ble_eq_true rfl) ?_
                  intro r w hq
                  rw [e2] at hq
                  have ebt : tr j to = zB (I 150 (12 + to)) (kk j) := by rw [hT]; exact gTr_bit m1b (by omega)
                  rcases hq with ⟨⟨hz3, rfl⟩ | ⟨hz3, rfl⟩, rfl⟩
                  · have hor : u ||| 2 ^ to < 128 := or_lt7 (by omega) (by omega)
                    have hl1 := hlt (nn - (j + 1)) (u ||| 2 ^ to) (by omega)
                    refine z_if_eq (tgt := 163) d_Mo_given_141 (by decide) (fun h => absurd h (by decide)) (fun _ => ?_)
                    refine z_aload_0 d_Mo_given_144 ?_
                    refine z_iload_1 d_Mo_given_145 ?_
                    refine z_iload_5 d_Mo_given_146 ?_
                    refine z_iconst (a := nI 1) d_Mo_given_148 (by decide) ?_
                    first | refine z_iaddN d_Mo_given_149 ?_ | refine z_iadd d_Mo_given_149 ?_
                    refine z_iload_3 d_Mo_given_150 ?_
                    refine z_iconst (a := nI 1) d_Mo_given_151 (by decide) ?_
                    refine z_iload_4 d_Mo_given_152 ?_
                    refine z_ishl d_Mo_given_154 ?_
                    refine z_ior d_Mo_given_155 ?_
                    rw [or_lt7' (by omega) (by omega)]
                    refine z_iconst (a := nI 1) d_Mo_given_156 (by decide) ?_
                    refine z_Vi4 d_Mo_given_157 k_Mo_402 (by first | assumption | exact zS0_at (by assumption) (by omega) | exact zS0_at rfl (by omega)) (lays I2 e2 (j + 1) (u ||| 2 ^ to) (by omega) hor) ⟨Nat.le_of_ble_eq_true rfl, Nat.le_of_ble_eq_true rfl, Nat.le_of_ble_eq_true rfl, Nat.le_of_ble_eq_true rfl⟩ (Nat.le_of_ble_eq_true rfl) ?_
                    rintro r w ⟨rfl, I3, rfl, g3⟩
                    have e3 : I3 150 = I 150 := (g3 150 (by decide)).trans e2
                    have f3 : mqF I I3 := mqF_t f2 (xF_m g3 (by omega))
                    have s3 : I3 145 0 = nI 0 := by rw [g3 145 (by decide)]; exact s2
                    rw [ebt, show zB (I 150 (12 + to)) (kk j) = true from hz3, hu] at eC
                    refine z_if_ne (tgt := 169) d_Mo_given_160 (by decide) (fun hd => ?_) (fun hd => ?_)
                    · have hd : 0 < gW tr (zB a) nn (nn - (j + 1)) (u ||| 2 ^ to) := by
                        rcases Nat.eq_zero_or_pos (gW tr (zB a) nn (nn - (j + 1)) (u ||| 2 ^ to)) with h | h
                        · rw [h] at hd; exact absurd (by decide) hd
                        · exact h
                      have : to = z := by
                        rcases Nat.lt_or_ge to z with h | h
                        · have := x4 to h
                          rw [eC, decide_eq_true hd] at this
                          exact absurd this (by decide)
                        · omega
                      subst this
                      refine z_iload_3 d_Mo_given_169 ?_
                      refine z_iconst (a := nI 1) d_Mo_given_170 (by decide) ?_
                      refine z_iload_4 d_Mo_given_171 ?_
                      refine z_ishl d_Mo_given_173 ?_
                      refine z_ior d_Mo_given_174 ?_
                      rw [or_lt7' (by omega) (by omega)]
                      first | refine z_istore_3 d_Mo_given_175 rfl ?_ | (refine z_forget_2 ?_; refine z_istore_3 d_Mo_given_175 rfl ?_)
                      first | refine z_iinc_5 d_Mo_given_176 rfl (zi_inc _) ?_ | refine z_iinc_5 d_Mo_given_176 rfl rfl ?_
                      refine z_goto (tgt := 103) d_Mo_given_179 (by decide) ?_
                      exact q0 I3 e3 f3 s3
                    · rw [← nI_0] at hd
                      have hd := (nI_eq (by omega) (by omega)).mp hd
                      exact no (by rw [eC, decide_eq_false (by omega)]; rfl) I3 e3 f3 s3
                  · refine z_if_eq (tgt := 163) d_Mo_given_141 (by decide) (fun _ => ?_) (fun h => absurd (by decide) h)
                    exact no (by rw [eC, ebt, show zB (I 150 (12 + to)) (kk j) = false from Bool.eq_false_iff.mpr hz3]; rfl) I2 e2 f2 s2
            refine z_iconst (a := nI 0) d_Mo_given_121 (by decide) ?_
            first | refine z_istore_4 d_Mo_given_122 rfl ?_ | (refine z_forget_3 ?_; refine z_istore_4 d_Mo_given_122 rfl ?_)
            exact inn (z + 1) 0 I2 (by omega) (by omega) e2 f2 s2
          · refine z_if_ne (tgt := 121) d_Mo_given_115 (by decide) (fun h => absurd (by decide) h) (fun _ => ?_)
            rw [if_neg hzj, if_neg hzj] at q0
            refine z_goto (tgt := 176) d_Mo_given_118 (by decide) ?_
            first | refine z_iinc_5 d_Mo_given_176 rfl (zi_inc _) ?_ | refine z_iinc_5 d_Mo_given_176 rfl rfl ?_
            refine z_goto (tgt := 103) d_Mo_given_179 (by decide) ?_
            exact q0 I2 e2 f2 s2
    refine z_iconst (a := nI 0) d_Mo_given_95 (by decide) ?_
    first | refine z_istore_3 d_Mo_given_96 rfl ?_ | (refine z_forget_2 ?_; refine z_istore_3 d_Mo_given_96 rfl ?_)
    refine z_iconst (a := -1) d_Mo_given_97 (by decide) ?_
    first | refine z_istore_4 d_Mo_given_98 rfl ?_ | (refine z_forget_3 ?_; refine z_istore_4 d_Mo_given_98 rfl ?_)
    refine z_iconst (a := nI 0) d_Mo_given_100 (by decide) ?_
    first | refine z_istore_5 d_Mo_given_101 rfl ?_ | (refine z_forget_4 ?_; refine z_istore_5 d_Mo_given_101 rfl ?_)
    exact lp (t + 2) 0 I2 (by omega) (by omega) e2 f2 s2
  · rw [← nI_0] at hb
    have hb := (nI_eq (by omega) (by omega)).mp hb
    refine z_aload_0 d_Mo_given_88 ?_
    refine z_bipush (a := nI 8) d_Mo_given_89 (by decide) ?_
    refine z_Vi1 d_Mo_given_91 k_Mo_327 (by first | assumption | exact zS0_at (by assumption) (by omega) | exact zS0_at rfl (by omega)) (t_Mo_refuse (by assumption)) ⟨Nat.le_of_ble_eq_true rfl, Nat.le_of_ble_eq_true rfl, Nat.le_of_ble_eq_true rfl, Nat.le_of_ble_eq_true rfl⟩ (Nat.le_of_ble_eq_true rfl) ?_
    intro r w hq
    obtain ⟨rfl, rfl⟩ := hq
    refine z_reti d_Mo_given_94 ?_
    exact Or.inl ⟨hb, rfl, _, _, rfl, mqF_z f2 (by decide), mqJ_r, zu_same _ _ _ _⟩
theorem L_given (h : zInv n w) : zEi G y_Tf_given prog_1_method_35_code 5 (some .int) 5 [.ref 0, .int a, .int c] w (fun r w1 => w1.2.2.2 = w.2.2.2 ∧ zEi G y_Mo_given prog_14_method_118_code 6 (some .int) 5 [.ref 145, .int a, .int c] w1 (fun r' w2 => r' = r ∧ zInv (n + 1) w2)) := by
  obtain ⟨f, d, nt, np, nl, nn, fed, mk, I, J, P, S, rfl, Z, X⟩ := h
  have M := clOk_M Z
  have hf := clOk_f Z
  have N := stR_fen X
  have N0 := stR_mod X
  have fm := stR_fm X
  obtain ⟨⟨⟨a1, r1, b1⟩, ⟨a2, r2, b2⟩, ⟨a3, r3, b3⟩, ⟨a4, r4, b4⟩⟩, ⟨⟨o, ob, ao, ro⟩, r5⟩, fw, fp, ft, fz⟩ := id fm
  have eG : ∀ I', I' 150 = I 150 → mGo I' nn = cGo I f nn := fun I' e => by
    unfold mGo cGo
    rw [e]
    exact set_gone (R := I (f + 6)) (R' := fun t => I 150 (42 + t)) (fun t ht => (ft t ht).2.1) b2
  by_cases hc : zin c nn
  case neg => exact L_q Z X (t_Tf_given_x Z N (Or.inl ⟨hc, rfl⟩)) (fun I' J' e _ => ⟨_, rfl, t_Mo_given_x M (modIn_c N0 (e 150 (by decide))) (Or.inl ⟨hc, rfl⟩)⟩)
  obtain ⟨t, ht, rfl⟩ := hc
  by_cases hz : zbit a t
  case neg => exact L_q Z X (t_Tf_given_x Z N (Or.inr ⟨t, ht, rfl, Or.inl ⟨hz, rfl⟩⟩)) (fun I' J' e _ => ⟨_, rfl, t_Mo_given_x M (modIn_c N0 (e 150 (by decide))) (Or.inr ⟨t, ht, rfl, Or.inl ⟨hz, rfl⟩⟩)⟩)
  by_cases ha : zin a (2 ^ nn)
  case neg => exact L_q Z X (t_Tf_given_x Z N (Or.inr ⟨t, ht, rfl, Or.inr ⟨hz, Or.inl ⟨ha, rfl⟩⟩⟩)) (fun I' J' e _ => ⟨_, rfl, t_Mo_given_x M (modIn_c N0 (e 150 (by decide))) (Or.inr ⟨t, ht, rfl, Or.inr ⟨hz, Or.inl ⟨ha, rfl⟩⟩⟩)⟩)
  obtain ⟨s, hs, rfl⟩ := id ha
  by_cases hg : nI s &&& cGo I f nn = 0
  case neg => exact L_q Z X (t_Tf_given_x Z N (Or.inr ⟨t, ht, rfl, Or.inr ⟨hz, Or.inr ⟨s, hs, rfl, hg, rfl⟩⟩⟩)) (fun I' J' e _ => ⟨_, rfl, t_Mo_given_x M (modIn_c N0 (e 150 (by decide))) (Or.inr ⟨t, ht, rfl, Or.inr ⟨hz, Or.inr ⟨ha, by rw [eG I' (e 150 (by decide))]; exact hg, rfl⟩⟩⟩)⟩)
  obtain ⟨kk, hk1, hk2⟩ := kk_ok (I := I) (f := f) (fun t ht => (ft t ht).1) b1
  have eT : ∀ I' : Nat → Nat → Int32, I' 150 = I 150 → gTr (I (f + 2)) kk np = gTr (fun p => I' 150 (12 + p)) kk np := fun I' e => by
    rw [e]
    exact (gTr_c (A := I (f + 2)) (fun p hp => (fp p hp).1)).symm
  rcases Nat.eq_zero_or_pos (gW (gTr (I (f + 2)) kk np) (zB (nI s)) nn nn 0) with h0 | h0
  · refine L_q Z X (t_Tf_given_n Z N ht hz hs hg hk1 h0) (fun I' J' e _ => ⟨-1, rfl, zEi_mono (t_Mo_given (kk := kk) M (modIn_c N0 (e 150 (by decide))) ht hz ha (by rw [eG I' (e 150 (by decide))]; exact hg) (fun t ht => by rw [e 150 (by decide)]; exact hk2 t ht) (eT I' (e 150 (by decide)))) ?_⟩)
    rintro r w (⟨-, h⟩ | ⟨h, -⟩)
    · exact h
    · omega
  · refine L_q Z X (t_Tf_given Z N ht hz hs hg hk1 h0) (fun I' J' e _ => ⟨_, rfl, zEi_mono (t_Mo_given (kk := kk) M (modIn_c N0 (e 150 (by decide))) ht hz ha (by rw [eG I' (e 150 (by decide))]; exact hg) (fun t ht => by rw [e 150 (by decide)]; exact hk2 t ht) (eT I' (e 150 (by decide)))) ?_⟩)
    rintro r w (⟨h, -⟩ | ⟨-, h⟩)
    · omega
    · exact h
end GO0
