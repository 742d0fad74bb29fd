/-! small questions, both sides -/
section OQ0
variable {G : zG} {I I' : Nat → Nat → Int32} {J J' : Nat → Nat → Int64} {P : Nat → Nat → Option Nat} {S : List (Nat × Nat)} {f d nt np nl nn n fed mk st : Nat} {a b : Int32} {w : zW}
def mD (I I1 : Nat → Nat → Int32) : Prop := mqF I I1 ∧ I1 145 0 = nI 0 ∧ I1 150 = I 150 ∧ ∀ a, a ≠ 145 → I1 a = I a
theorem zb_i (x : Int32) (t : Nat) : zb x t = (x >>> (nI t &&& 31)) &&& nI 1 := by
  unfold zb
  split
  · rename_i h
    exact (zbit_i.mpr h).symm
  · rename_i h
    exact (zbit_n0.mpr h).symm
theorem zb_1 (x : Int32) (t : Nat) : decide (zb x t = nI 1) = zB x t := by
  unfold zb
  cases h : zB x t with
  | false => decide
  | true => decide
/-- a set by its bits, by the reference's row -/
theorem set_bits {x : Int32} {R : Nat → Int32} (h1 : ∀ t, t < nn → R t = zb x t) (h2 : ∀ t, nn ≤ t → t < 32 → zB x t = false) (hn : nn ≤ 9) : s_set (fun t => decide (R t = nI 1)) nn = x := by
  apply zB_ext
  intro i hi
  rw [s_set_bit _ hi (by omega)]
  by_cases h : i < nn
  · rw [h1 i h, zb_1]; simp [h]
  · rw [h2 i (by omega) hi]; simp [h]
theorem set_gone {R R' : Nat → Int32} (h : ∀ t, t < nn → (R t = -1 ∨ ∃ p, p < np ∧ R t = nI p) ∧ R' t = R t) (hp : np ≤ 7) : s_set (fun t => decide (R' t < 0)) nn = s_set (fun t => decide (R t = -1)) nn := by
  apply s_set_congr
  intro t ht
  obtain ⟨h1, h2⟩ := h t ht
  rw [h2]
  have q := neg1_of h1 (by omega)
  by_cases h3 : R t = -1
  · rw [decide_eq_true (q.mpr h3), decide_eq_true h3]
  · rw [decide_eq_false (fun h => h3 (q.mp h)), decide_eq_false h3]
theorem set_next {m : Int32} {tr : Nat → Int32} {k : Nat} (hp : np ≤ 7) : s_set (fun q => zB m q && zB (tr q) k) np = m &&& s_set (fun q => zB (tr q) k) np := by
  apply zB_ext
  intro i hi
  rw [zB_and hi, s_set_bit _ hi (by omega), s_set_bit _ hi (by omega)]
  cases decide (i < np) <;> cases zB m i <;> cases zB (tr i) k <;> rfl
theorem t_Mo_allTins (M : modOk P S) (N : modIn I nt np nl nn) : zEi G y_Mo_allTins prog_14_method_82_code 1 (some .int) 1 [.ref 145] (I, J, P, S) (fun r w => r = nI (2 ^ nn - 1) ∧ w = (I, J, P, S)) := by
  obtain ⟨M0, ⟨M4, M4s⟩, ⟨M5, M5s⟩, ⟨M6, M6s⟩, ⟨M7, M7s⟩, ⟨M20, M20s⟩, ⟨M21, M21s⟩, ⟨M22, M22s⟩, ⟨M26, M26s⟩, ⟨M27, M27s⟩, ⟨M28, M28s⟩, ⟨M30, M30s⟩, ⟨M34, M34s⟩, ⟨M36, M36s⟩, ⟨M37, M37s⟩⟩ := id M
  obtain ⟨⟨m0, m0b⟩, ⟨m1, m1b⟩, ⟨m2, m2b⟩, ⟨m3, m3b⟩, mof, mon⟩ := id N
  have hp : 0 < 2 ^ nn := Nat.pow_pos (by decide)
  refine zEi_of (lv := [some (.ref 145)]) (by decide) rfl (Nat.le_of_ble_eq_true rfl) ?_
  refine z_iconst (a := nI 1) d_Mo_allTins_0 (by decide) ?_
  refine z_aload_0 d_Mo_allTins_1 ?_
  refine z_getR d_Mo_allTins_2 f_Mo_35 (by first | assumption | exact zS0_at (by assumption) (by omega) | exact zS0_at rfl (by omega)) (by first | assumption | exact zS0_at (by assumption) (by omega) | exact zS0_at rfl (by omega)) ?_
  refine z_iconst (a := nI 3) d_Mo_allTins_5 (by decide) ?_
  first | refine z_ialdNv d_Mo_allTins_6 (by first | assumption | exact zS0_at (by assumption) (by omega) | exact zS0_at rfl (by omega)) (by omega) (by first | decide | omega) (by first | assumption | ((try simp (disch := omega) only [zu_same, zu_ne, zcp_ne, zfl_ne]); first | assumption | rfl)) ?_ | refine z_iald d_Mo_allTins_6 (by first | assumption | exact zS0_at (by assumption) (by omega) | exact zS0_at rfl (by omega)) (by first | assumption | exact zS0_at (by assumption) (by omega) | exact zS0_at rfl (by omega)) ?_
  refine z_ishl d_Mo_allTins_7 ?_
  rw [nx_sh nn (by omega)]
  refine z_iconst (a := nI 1) d_Mo_allTins_8 (by decide) ?_
  first | refine z_isubN d_Mo_allTins_9 (by omega) ?_ | refine z_isub d_Mo_allTins_9 ?_
  refine z_reti d_Mo_allTins_10 ?_
  exact ⟨rfl, rfl⟩
theorem t_Mo_allThere (M : modOk P S) (N : modIn I nt np nl nn) : zEi G y_Mo_allThere prog_14_method_83_code 1 (some .int) 3 [.ref 145] (I, J, P, S) (fun r w => r = s_sum (zB (nI (2 ^ nn - 1) &&& (s_set (fun t => decide (I 150 (42 + t) < 0)) nn ^^^ -1))) (fun t => I 150 (6 + (I 150 (33 + t)).toNatClampNeg)) nn ∧ w = (I, J, P, S)) := by
  obtain ⟨M0, ⟨M4, M4s⟩, ⟨M5, M5s⟩, ⟨M6, M6s⟩, ⟨M7, M7s⟩, ⟨M20, M20s⟩, ⟨M21, M21s⟩, ⟨M22, M22s⟩, ⟨M26, M26s⟩, ⟨M27, M27s⟩, ⟨M28, M28s⟩, ⟨M30, M30s⟩, ⟨M34, M34s⟩, ⟨M36, M36s⟩, ⟨M37, M37s⟩⟩ := id M
  refine zEi_of (lv := [some (.ref 145)]) (by decide) rfl (Nat.le_of_ble_eq_true rfl) ?_
  refine z_aload_0 d_Mo_allThere_0 ?_
  refine z_aload_0 d_Mo_allThere_1 ?_
  refine z_Vi0 d_Mo_allThere_2 k_Mo_316 (by first | assumption | exact zS0_at (by assumption) (by omega) | exact zS0_at rfl (by omega)) (t_Mo_allTins M N) ⟨Nat.le_of_ble_eq_true rfl, Nat.le_of_ble_eq_true rfl, Nat.le_of_ble_eq_true rfl, Nat.le_of_ble_eq_true rfl⟩ (Nat.le_of_ble_eq_true rfl) ?_
  intro r w hq
  obtain ⟨rfl, rfl⟩ := hq
  refine z_aload_0 d_Mo_allThere_5 ?_
  refine z_iconst (a := nI 0) d_Mo_allThere_6 (by decide) ?_
  refine z_Vi1 d_Mo_allThere_7 k_Mo_319 (by first | assumption | exact zS0_at (by assumption) (by omega) | exact zS0_at rfl (by omega)) (t_Mo_tinsThat0 M N) ⟨Nat.le_of_ble_eq_true rfl, Nat.le_of_ble_eq_true rfl, Nat.le_of_ble_eq_true rfl, Nat.le_of_ble_eq_true rfl⟩ (Nat.le_of_ble_eq_true rfl) ?_
  intro r w hq
  obtain ⟨rfl, rfl⟩ := hq
  refine z_iconst (a := -1) d_Mo_allThere_10 (by decide) ?_
  refine z_ixor d_Mo_allThere_11 ?_
  refine z_iand d_Mo_allThere_12 ?_
  refine z_Vi1 d_Mo_allThere_13 k_Mo_322 (by first | assumption | exact zS0_at (by assumption) (by omega) | exact zS0_at rfl (by omega)) (t_Mo_worthAll M N) ⟨Nat.le_of_ble_eq_true rfl, Nat.le_of_ble_eq_true rfl, Nat.le_of_ble_eq_true rfl, Nat.le_of_ble_eq_true rfl⟩ (Nat.le_of_ble_eq_true rfl) ?_
  intro r w hq
  obtain ⟨rfl, rfl⟩ := hq
  refine z_reti d_Mo_allThere_16 ?_
  exact ⟨rfl, rfl⟩
theorem worth_eq {Wc Tc : Nat → Int32} {R : Nat → Int32} (hw : ∀ k, k < nt → ∃ v, v ≤ 99 ∧ Wc k = nI v ∧ R (6 + k) = nI v) (ht : ∀ t, t < nn → ∃ k, k < nt ∧ Tc t = nI k ∧ R (33 + t) = nI k) (hnt : nt ≤ 6) {b b' : Nat → Bool} (hb : ∀ t, t < nn → b' t = b t) : s_sum b' (fun t => R (6 + (R (33 + t)).toNatClampNeg)) nn = s_sum b (fun t => Wc (Tc t).toNatClampNeg) nn := by
  apply s_sum_congr
  intro t h
  refine ⟨hb t h, fun _ => ?_⟩
  obtain ⟨k, hk, k1, k2⟩ := ht t h
  obtain ⟨v, -, v1, v2⟩ := hw k hk
  rw [k1, k2, nI_clamp (by omega), v1, v2]
theorem zB_full {t : Nat} (h : t < nn) (hn : nn ≤ 9) : zB (nI (2 ^ nn - 1)) t = true := by
  rw [zB_nI (by omega), Nat.testBit_two_pow_sub_one]
  simp [h]
theorem t_Tf_worth_o (Z : clOk f d P S) (N : fenIn I f nt np nl nn) (h : ¬ zin a nt) : zEi G y_Tf_worth prog_1_method_14_code 2 (some .int) 3 [.ref 0, .int a] (I, J, P, S) (fun r w => r = -1 ∧ cW I J P S 2 w) := by
  obtain ⟨⟨c0, c3, c1s⟩, ⟨c5, c2s, ctr⟩, ⟨c6, c11s, c11, c13s⟩, ⟨c7, c15s, c15⟩, ⟨c8, c16s, c16a, c16b, c17s⟩, ⟨c9, c10, cfd, F, Fd⟩, ⟨c11b, Ft⟩, ⟨c12, c69s, cmk⟩, ⟨c14, c121s, c121, c122s⟩, ⟨c15b, c123s, c123, c124s⟩, ⟨c16, c125s, c125, c126s⟩, ⟨c17, c127s, c127, c128s, ctb⟩, ⟨c18, c139s, c139, c140s⟩, ⟨c19, c141s, ⟨c141a, c142s⟩, ⟨c141b, c143s⟩, ⟨c141c, c144s⟩⟩, M⟩ := id Z
  obtain ⟨F0, ⟨F8, F8s⟩, ⟨F9, F9s⟩, ⟨F10, F10s⟩, ⟨F11, F11s⟩, ⟨F12, F12s⟩, ⟨F13, F13s⟩, ⟨F14, F14s⟩, ⟨F15, F15s⟩, ⟨F16, F16s⟩, ⟨F17, F17s⟩, ⟨F18, F18s⟩, ⟨F19, F19s⟩, ⟨Y3, Y3s⟩, ⟨Y4, Y4s⟩, ⟨Y5, Y5s⟩, ⟨Y6, Y6s⟩⟩ := id F
  obtain ⟨⟨n1, n1b⟩, ⟨n2, n2b⟩, ⟨n3, n3b⟩, ⟨n4, n4b⟩, nof, non⟩ := id N
  refine zEi_of (lv := [some (.ref 0), some (.int a)]) (by decide) rfl (Nat.le_of_ble_eq_true rfl) ?_
  refine z_aload_0 d_Tf_worth_0 ?_
  refine z_iload_1 d_Tf_worth_1 ?_
  refine z_Vi1 d_Tf_worth_2 k_Tf_227 (by first | assumption | exact zS0_at (by assumption) (by omega) | exact zS0_at rfl (by omega)) (t_Tf_noTrait Z N) ⟨Nat.le_of_ble_eq_true rfl, Nat.le_of_ble_eq_true rfl, Nat.le_of_ble_eq_true rfl, Nat.le_of_ble_eq_true rfl⟩ (Nat.le_of_ble_eq_true rfl) ?_
  intro r w hq
  rcases hq with ⟨⟨hz2, rfl⟩ | ⟨hz2, rfl⟩, rfl⟩
  · first
    | contradiction
    | ( skip
        refine z_if_eq (tgt := 14) d_Tf_worth_5 (by decide) (fun h => absurd h (by decide)) (fun _ => ?_)
        refine z_aload_0 d_Tf_worth_8 ?_
        refine z_iconst (a := nI 2) d_Tf_worth_9 (by decide) ?_
        refine z_Vi1 d_Tf_worth_10 k_Tf_138 (by first | assumption | exact zS0_at (by assumption) (by omega) | exact zS0_at rfl (by omega)) (t_Tf_fail (by assumption)) ⟨Nat.le_of_ble_eq_true rfl, Nat.le_of_ble_eq_true rfl, Nat.le_of_ble_eq_true rfl, Nat.le_of_ble_eq_true rfl⟩ (Nat.le_of_ble_eq_true rfl) ?_
        intro r w hq
        obtain ⟨rfl, rfl⟩ := hq
        refine z_reti d_Tf_worth_13 ?_
        exact ⟨by first | rfl | assumption, cW_0⟩)
  · first
    | contradiction
    | ( skip
        refine z_if_eq (tgt := 14) d_Tf_worth_5 (by decide) (fun _ => ?_) (fun h => absurd h (by decide))
        contradiction)
theorem t_Tf_worth {k : Nat} (Z : clOk f d P S) (N : fenIn I f nt np nl nn) (hk : k < nt) : zEi G y_Tf_worth prog_1_method_14_code 2 (some .int) 3 [.ref 0, .int (nI k)] (I, J, P, S) (fun r w => r = I (f + 1) k ∧ cW I J P S 0 w) := by
  obtain ⟨⟨c0, c3, c1s⟩, ⟨c5, c2s, ctr⟩, ⟨c6, c11s, c11, c13s⟩, ⟨c7, c15s, c15⟩, ⟨c8, c16s, c16a, c16b, c17s⟩, ⟨c9, c10, cfd, F, Fd⟩, ⟨c11b, Ft⟩, ⟨c12, c69s, cmk⟩, ⟨c14, c121s, c121, c122s⟩, ⟨c15b, c123s, c123, c124s⟩, ⟨c16, c125s, c125, c126s⟩, ⟨c17, c127s, c127, c128s, ctb⟩, ⟨c18, c139s, c139, c140s⟩, ⟨c19, c141s, ⟨c141a, c142s⟩, ⟨c141b, c143s⟩, ⟨c141c, c144s⟩⟩, M⟩ := id Z
  obtain ⟨F0, ⟨F8, F8s⟩, ⟨F9, F9s⟩, ⟨F10, F10s⟩, ⟨F11, F11s⟩, ⟨F12, F12s⟩, ⟨F13, F13s⟩, ⟨F14, F14s⟩, ⟨F15, F15s⟩, ⟨F16, F16s⟩, ⟨F17, F17s⟩, ⟨F18, F18s⟩, ⟨F19, F19s⟩, ⟨Y3, Y3s⟩, ⟨Y4, Y4s⟩, ⟨Y5, Y5s⟩, ⟨Y6, Y6s⟩⟩ := id F
  obtain ⟨⟨n1, n1b⟩, ⟨n2, n2b⟩, ⟨n3, n3b⟩, ⟨n4, n4b⟩, nof, non⟩ := id N
  have hz : zin (nI k) nt := ⟨k, by omega, rfl⟩
  refine zEi_of (lv := [some (.ref 0), some (.int (nI k))]) (by decide) rfl (Nat.le_of_ble_eq_true rfl) ?_
  refine z_aload_0 d_Tf_worth_0 ?_
  refine z_iload_1 d_Tf_worth_1 ?_
  refine z_Vi1 d_Tf_worth_2 k_Tf_227 (by first | assumption | exact zS0_at (by assumption) (by omega) | exact zS0_at rfl (by omega)) (t_Tf_noTrait Z N) ⟨Nat.le_of_ble_eq_true rfl, Nat.le_of_ble_eq_true rfl, Nat.le_of_ble_eq_true rfl, Nat.le_of_ble_eq_true rfl⟩ (Nat.le_of_ble_eq_true rfl) ?_
  intro r w hq
  rcases hq with ⟨⟨hz2, rfl⟩ | ⟨hz2, rfl⟩, rfl⟩
  · first
    | contradiction
    | ( skip
        refine z_if_eq (tgt := 14) d_Tf_worth_5 (by decide) (fun h => absurd h (by decide)) (fun _ => ?_)
        refine z_aload_0 d_Tf_worth_8 ?_
        refine z_iconst (a := nI 2) d_Tf_worth_9 (by decide) ?_
        refine z_Vi1 d_Tf_worth_10 k_Tf_138 (by first | assumption | exact zS0_at (by assumption) (by omega) | exact zS0_at rfl (by omega)) (t_Tf_fail (by assumption)) ⟨Nat.le_of_ble_eq_true rfl, Nat.le_of_ble_eq_true rfl, Nat.le_of_ble_eq_true rfl, Nat.le_of_ble_eq_true rfl⟩ (Nat.le_of_ble_eq_true rfl) ?_
        intro r w hq
        obtain ⟨rfl, rfl⟩ := hq
        refine z_reti d_Tf_worth_13 ?_
        exact ⟨by first | rfl | assumption, cW_0⟩)
  · first
    | contradiction
    | ( skip
        refine z_if_eq (tgt := 14) d_Tf_worth_5 (by decide) (fun _ => ?_) (fun h => absurd h (by decide))
        refine z_aload_0 d_Tf_worth_14 ?_
        refine z_aload_0 d_Tf_worth_15 ?_
        refine z_getR d_Tf_worth_16 f_Tf_60 (by first | assumption | exact zS0_at (by assumption) (by omega) | exact zS0_at rfl (by omega)) (by first | assumption | exact zS0_at (by assumption) (by omega) | exact zS0_at rfl (by omega)) ?_
        refine z_getR d_Tf_worth_19 f_Tf_230 (by first | assumption | exact zS0_at (by assumption) (by omega) | exact zS0_at rfl (by omega)) (by first | assumption | exact zS0_at (by assumption) (by omega) | exact zS0_at rfl (by omega)) ?_
        refine z_iload_1 d_Tf_worth_22 ?_
        first | refine z_ialdNv d_Tf_worth_23 (by first | assumption | exact zS0_at (by assumption) (by omega) | exact zS0_at rfl (by omega)) (by omega) (by first | decide | omega) (by first | assumption | ((try simp (disch := omega) only [zu_same, zu_ne, zcp_ne, zfl_ne]); first | assumption | rfl)) ?_ | refine z_iald d_Tf_worth_23 (by first | assumption | exact zS0_at (by assumption) (by omega) | exact zS0_at rfl (by omega)) (by first | assumption | exact zS0_at (by assumption) (by omega) | exact zS0_at rfl (by omega)) ?_
        refine z_Vi1 d_Tf_worth_24 k_Tf_174 (by first | assumption | exact zS0_at (by assumption) (by omega) | exact zS0_at rfl (by omega)) (t_Tf_give (by assumption)) ⟨Nat.le_of_ble_eq_true rfl, Nat.le_of_ble_eq_true rfl, Nat.le_of_ble_eq_true rfl, Nat.le_of_ble_eq_true rfl⟩ (Nat.le_of_ble_eq_true rfl) ?_
        intro r w hq
        obtain ⟨rfl, rfl⟩ := hq
        refine z_reti d_Tf_worth_27 ?_
        exact ⟨by first | rfl | assumption, cW_0⟩)
theorem t_Mo_worth_o (M : modOk P S) (N : modIn I nt np nl nn) (h : ¬ zin a nt) : zEi G y_Mo_worth prog_14_method_85_code 2 (some .int) 3 [.ref 145, .int a] (I, J, P, S) (fun r w => r = -1 ∧ mW I J P S 2 w) := by
  obtain ⟨M0, ⟨M4, M4s⟩, ⟨M5, M5s⟩, ⟨M6, M6s⟩, ⟨M7, M7s⟩, ⟨M20, M20s⟩, ⟨M21, M21s⟩, ⟨M22, M22s⟩, ⟨M26, M26s⟩, ⟨M27, M27s⟩, ⟨M28, M28s⟩, ⟨M30, M30s⟩, ⟨M34, M34s⟩, ⟨M36, M36s⟩, ⟨M37, M37s⟩⟩ := id M
  obtain ⟨I1, hI1, N1, h1, h0, e150, er, ek⟩ := mo_beg N
  obtain ⟨⟨m0, m0b⟩, ⟨m1, m1b⟩, ⟨m2, m2b⟩, ⟨m3, m3b⟩, mof, mon⟩ := id N1
  have hD : mD I I1 := ⟨h1, h0, e150, er⟩
  refine zEi_of (lv := [some (.ref 145), some (.int a)]) (by decide) rfl (Nat.le_of_ble_eq_true rfl) ?_
  refine z_aload_0 d_Mo_worth_0 ?_
  refine z_iconst (a := nI 0) d_Mo_worth_1 (by decide) ?_
  refine z_putI d_Mo_worth_2 f_Mo_70 (by first | assumption | exact zS0_at (by assumption) (by omega) | exact zS0_at rfl (by omega)) ?_
  refine z_aload_0 d_Mo_worth_5 ?_
  refine z_iconst (a := nI 0) d_Mo_worth_6 (by decide) ?_
  refine z_putI d_Mo_worth_7 f_Mo_73 (by first | assumption | exact zS0_at (by assumption) (by omega) | exact zS0_at rfl (by omega)) ?_
  rw [← hI1]
  refine z_aload_0 d_Mo_worth_10 ?_
  refine z_iload_1 d_Mo_worth_11 ?_
  refine z_Vi1 d_Mo_worth_12 k_Mo_333 (by first | assumption | exact zS0_at (by assumption) (by omega) | exact zS0_at rfl (by omega)) (t_Mo_isTraitAt M N1) ⟨Nat.le_of_ble_eq_true rfl, Nat.le_of_ble_eq_true rfl, Nat.le_of_ble_eq_true rfl, Nat.le_of_ble_eq_true rfl⟩ (Nat.le_of_ble_eq_true rfl) ?_
  intro r w hq
  rcases hq with ⟨⟨hz12, rfl⟩ | ⟨hz12, rfl⟩, rfl⟩
  · first
    | contradiction
    | ( skip
        refine z_if_eq (tgt := 30) d_Mo_worth_15 (by decide) (fun h => absurd h (by decide)) (fun _ => ?_)
        contradiction)
  · first
    | contradiction
    | ( skip
        refine z_if_eq (tgt := 30) d_Mo_worth_15 (by decide) (fun _ => ?_) (fun h => absurd h (by decide))
        refine z_aload_0 d_Mo_worth_30 ?_
        refine z_iconst (a := nI 2) d_Mo_worth_31 (by decide) ?_
        refine z_Vi1 d_Mo_worth_32 k_Mo_327 (by first | assumption | exact zS0_at (by assumption) (by omega) | exact zS0_at rfl (by omega)) (t_Mo_refuse (by assumption)) ⟨Nat.le_of_ble_eq_true rfl, Nat.le_of_ble_eq_true rfl, Nat.le_of_ble_eq_true rfl, Nat.le_of_ble_eq_true rfl⟩ (Nat.le_of_ble_eq_true rfl) ?_
        intro r w hq
        obtain ⟨rfl, rfl⟩ := hq
        refine z_reti d_Mo_worth_35 ?_
        exact ⟨by first | rfl | assumption | (rw [e150]), _, _, rfl, (by repeat (first | exact h1 | refine mqF_z ?_ (by decide))), mqJ_r, (by first | exact zu_same _ _ _ _ | exact h0)⟩)
theorem t_Mo_worth {k : Nat} (M : modOk P S) (N : modIn I nt np nl nn) (hk : k < nt) : zEi G y_Mo_worth prog_14_method_85_code 2 (some .int) 3 [.ref 145, .int (nI k)] (I, J, P, S) (fun r w => r = I 150 (6 + k) ∧ mW I J P S 0 w) := by
  obtain ⟨M0, ⟨M4, M4s⟩, ⟨M5, M5s⟩, ⟨M6, M6s⟩, ⟨M7, M7s⟩, ⟨M20, M20s⟩, ⟨M21, M21s⟩, ⟨M22, M22s⟩, ⟨M26, M26s⟩, ⟨M27, M27s⟩, ⟨M28, M28s⟩, ⟨M30, M30s⟩, ⟨M34, M34s⟩, ⟨M36, M36s⟩, ⟨M37, M37s⟩⟩ := id M
  obtain ⟨I1, hI1, N1, h1, h0, e150, er, ek⟩ := mo_beg N
  obtain ⟨⟨m0, m0b⟩, ⟨m1, m1b⟩, ⟨m2, m2b⟩, ⟨m3, m3b⟩, mof, mon⟩ := id N1
  have hD : mD I I1 := ⟨h1, h0, e150, er⟩
  refine zEi_of (lv := [some (.ref 145), some (.int (nI k))]) (by decide) rfl (Nat.le_of_ble_eq_true rfl) ?_
  refine z_aload_0 d_Mo_worth_0 ?_
  refine z_iconst (a := nI 0) d_Mo_worth_1 (by decide) ?_
  refine z_putI d_Mo_worth_2 f_Mo_70 (by first | assumption | exact zS0_at (by assumption) (by omega) | exact zS0_at rfl (by omega)) ?_
  refine z_aload_0 d_Mo_worth_5 ?_
  refine z_iconst (a := nI 0) d_Mo_worth_6 (by decide) ?_
  refine z_putI d_Mo_worth_7 f_Mo_73 (by first | assumption | exact zS0_at (by assumption) (by omega) | exact zS0_at rfl (by omega)) ?_
  rw [← hI1]
  have hz : zin (nI k) nt := ⟨k, by omega, rfl⟩
  have hr : I1 150 (6 + k) = I 150 (6 + k) := by rw [e150]
  refine z_aload_0 d_Mo_worth_10 ?_
  refine z_iload_1 d_Mo_worth_11 ?_
  refine z_Vi1 d_Mo_worth_12 k_Mo_333 (by first | assumption | exact zS0_at (by assumption) (by omega) | exact zS0_at rfl (by omega)) (t_Mo_isTraitAt M N1) ⟨Nat.le_of_ble_eq_true rfl, Nat.le_of_ble_eq_true rfl, Nat.le_of_ble_eq_true rfl, Nat.le_of_ble_eq_true rfl⟩ (Nat.le_of_ble_eq_true rfl) ?_
  intro r w hq
  rcases hq with ⟨⟨hz12, rfl⟩ | ⟨hz12, rfl⟩, rfl⟩
  · first
    | contradiction
    | ( skip
        refine z_if_eq (tgt := 30) d_Mo_worth_15 (by decide) (fun h => absurd h (by decide)) (fun _ => ?_)
        refine z_aload_0 d_Mo_worth_18 ?_
        refine z_getR d_Mo_worth_19 f_Mo_35 (by first | assumption | exact zS0_at (by assumption) (by omega) | exact zS0_at rfl (by omega)) (by first | assumption | exact zS0_at (by assumption) (by omega) | exact zS0_at rfl (by omega)) ?_
        refine z_bipush (a := nI 6) d_Mo_worth_22 (by decide) ?_
        refine z_iload_1 d_Mo_worth_24 ?_
        first | refine z_iaddN d_Mo_worth_25 ?_ | refine z_iadd d_Mo_worth_25 ?_
        first | refine z_ialdNv d_Mo_worth_26 (by first | assumption | exact zS0_at (by assumption) (by omega) | exact zS0_at rfl (by omega)) (by omega) (by first | decide | omega) (by first | assumption | ((try simp (disch := omega) only [zu_same, zu_ne, zcp_ne, zfl_ne]); first | assumption | rfl)) ?_ | refine z_iald d_Mo_worth_26 (by first | assumption | exact zS0_at (by assumption) (by omega) | exact zS0_at rfl (by omega)) (by first | assumption | exact zS0_at (by assumption) (by omega) | exact zS0_at rfl (by omega)) ?_
        refine z_goto (tgt := 35) d_Mo_worth_27 (by decide) ?_
        refine z_reti d_Mo_worth_35 ?_
        exact ⟨by first | rfl | assumption | (rw [e150]), _, _, rfl, (by repeat (first | exact h1 | refine mqF_z ?_ (by decide))), mqJ_r, (by first | exact zu_same _ _ _ _ | exact h0)⟩)
  · first
    | contradiction
    | ( skip
        refine z_if_eq (tgt := 30) d_Mo_worth_15 (by decide) (fun _ => ?_) (fun h => absurd h (by decide))
        refine z_aload_0 d_Mo_worth_30 ?_
        refine z_iconst (a := nI 2) d_Mo_worth_31 (by decide) ?_
        refine z_Vi1 d_Mo_worth_32 k_Mo_327 (by first | assumption | exact zS0_at (by assumption) (by omega) | exact zS0_at rfl (by omega)) (t_Mo_refuse (by assumption)) ⟨Nat.le_of_ble_eq_true rfl, Nat.le_of_ble_eq_true rfl, Nat.le_of_ble_eq_true rfl, Nat.le_of_ble_eq_true rfl⟩ (Nat.le_of_ble_eq_true rfl) ?_
        intro r w hq
        obtain ⟨rfl, rfl⟩ := hq
        refine z_reti d_Mo_worth_35 ?_
        exact ⟨by first | rfl | assumption | (rw [e150]), _, _, rfl, (by repeat (first | exact h1 | refine mqF_z ?_ (by decide))), mqJ_r, (by first | exact zu_same _ _ _ _ | exact h0)⟩)
theorem L_worth (h : zInv n w) : zEi G y_Tf_worth prog_1_method_14_code 2 (some .int) 3 [.ref 0, .int a] w (fun r w1 => w1.2.2.2 = w.2.2.2 ∧ zEi G y_Mo_worth prog_14_method_85_code 2 (some .int) 3 [.ref 145, .int a] w1 (fun r' w2 => r' = r ∧ zInv (n + 1) w2)) := by
  obtain ⟨f, d, nt, np, nl, nn, fed, mk, I, J, P, S, rfl, Z, X⟩ := h
  have M := clOk_M Z
  have hf := clOk_f Z
  have N := stR_fen X
  have N0 := stR_mod X
  have fm := stR_fm X
  obtain ⟨⟨⟨a1, r1, b1⟩, ⟨a2, r2, b2⟩, ⟨a3, r3, b3⟩, ⟨a4, r4, b4⟩⟩, ⟨⟨o, ob, ao, ro⟩, r5⟩, fw, fp, ft, fz⟩ := id fm
  rcases zin_or a nt (by omega) with ⟨-, h⟩ | ⟨k, hk, rfl⟩
  · exact L_q Z X (t_Tf_worth_o Z N h) (fun I' J' e _ => ⟨_, rfl, t_Mo_worth_o M (modIn_c N0 (e 150 (by decide))) h⟩)
  · exact L_q Z X (t_Tf_worth Z N hk) (fun I' J' e _ => ⟨_, by rw [e 150 (by decide)]; obtain ⟨v, -, h1, h2⟩ := fw k hk; exact h2.trans h1.symm, t_Mo_worth M (modIn_c N0 (e 150 (by decide))) hk⟩)
theorem t_Tf_person_o (Z : clOk f d P S) (N : fenIn I f nt np nl nn) (h : ¬ zin a np) : zEi G y_Tf_person prog_1_method_15_code 3 (some .int) 4 [.ref 0, .int a, .int b] (I, J, P, S) (fun r w => r = -1 ∧ cW I J P S 2 w) := by
  obtain ⟨⟨c0, c3, c1s⟩, ⟨c5, c2s, ctr⟩, ⟨c6, c11s, c11, c13s⟩, ⟨c7, c15s, c15⟩, ⟨c8, c16s, c16a, c16b, c17s⟩, ⟨c9, c10, cfd, F, Fd⟩, ⟨c11b, Ft⟩, ⟨c12, c69s, cmk⟩, ⟨c14, c121s, c121, c122s⟩, ⟨c15b, c123s, c123, c124s⟩, ⟨c16, c125s, c125, c126s⟩, ⟨c17, c127s, c127, c128s, ctb⟩, ⟨c18, c139s, c139, c140s⟩, ⟨c19, c141s, ⟨c141a, c142s⟩, ⟨c141b, c143s⟩, ⟨c141c, c144s⟩⟩, M⟩ := id Z
  obtain ⟨F0, ⟨F8, F8s⟩, ⟨F9, F9s⟩, ⟨F10, F10s⟩, ⟨F11, F11s⟩, ⟨F12, F12s⟩, ⟨F13, F13s⟩, ⟨F14, F14s⟩, ⟨F15, F15s⟩, ⟨F16, F16s⟩, ⟨F17, F17s⟩, ⟨F18, F18s⟩, ⟨F19, F19s⟩, ⟨Y3, Y3s⟩, ⟨Y4, Y4s⟩, ⟨Y5, Y5s⟩, ⟨Y6, Y6s⟩⟩ := id F
  obtain ⟨⟨n1, n1b⟩, ⟨n2, n2b⟩, ⟨n3, n3b⟩, ⟨n4, n4b⟩, nof, non⟩ := id N
  refine zEi_of (lv := [some (.ref 0), some (.int a), some (.int b)]) (by decide) rfl (Nat.le_of_ble_eq_true rfl) ?_
  refine z_aload_0 d_Tf_person_0 ?_
  refine z_iload_1 d_Tf_person_1 ?_
  refine z_Vi1 d_Tf_person_2 k_Tf_234 (by first | assumption | exact zS0_at (by assumption) (by omega) | exact zS0_at rfl (by omega)) (t_Tf_noPerson Z N) ⟨Nat.le_of_ble_eq_true rfl, Nat.le_of_ble_eq_true rfl, Nat.le_of_ble_eq_true rfl, Nat.le_of_ble_eq_true rfl⟩ (Nat.le_of_ble_eq_true rfl) ?_
  intro r w hq
  rcases hq with ⟨⟨hz2, rfl⟩ | ⟨hz2, rfl⟩, rfl⟩
  · first
    | contradiction
    | ( skip
        refine z_if_eq (tgt := 14) d_Tf_person_5 (by decide) (fun h => absurd h (by decide)) (fun _ => ?_)
        refine z_aload_0 d_Tf_person_8 ?_
        refine z_iconst (a := nI 2) d_Tf_person_9 (by decide) ?_
        refine z_Vi1 d_Tf_person_10 k_Tf_138 (by first | assumption | exact zS0_at (by assumption) (by omega) | exact zS0_at rfl (by omega)) (t_Tf_fail (by assumption)) ⟨Nat.le_of_ble_eq_true rfl, Nat.le_of_ble_eq_true rfl, Nat.le_of_ble_eq_true rfl, Nat.le_of_ble_eq_true rfl⟩ (Nat.le_of_ble_eq_true rfl) ?_
        intro r w hq
        obtain ⟨rfl, rfl⟩ := hq
        refine z_reti d_Tf_person_13 ?_
        exact ⟨by first | rfl | assumption, cW_0⟩)
  · first
    | contradiction
    | ( skip
        refine z_if_eq (tgt := 14) d_Tf_person_5 (by decide) (fun _ => ?_) (fun h => absurd h (by decide))
        contradiction)
theorem t_Tf_person_b {p : Nat} (Z : clOk f d P S) (N : fenIn I f nt np nl nn) (hp : p < np) (hb : ¬ zin b 5) : zEi G y_Tf_person prog_1_method_15_code 3 (some .int) 4 [.ref 0, .int (nI p), .int b] (I, J, P, S) (fun r w => r = -1 ∧ cW I J P S 5 w) := by
  obtain ⟨⟨c0, c3, c1s⟩, ⟨c5, c2s, ctr⟩, ⟨c6, c11s, c11, c13s⟩, ⟨c7, c15s, c15⟩, ⟨c8, c16s, c16a, c16b, c17s⟩, ⟨c9, c10, cfd, F, Fd⟩, ⟨c11b, Ft⟩, ⟨c12, c69s, cmk⟩, ⟨c14, c121s, c121, c122s⟩, ⟨c15b, c123s, c123, c124s⟩, ⟨c16, c125s, c125, c126s⟩, ⟨c17, c127s, c127, c128s, ctb⟩, ⟨c18, c139s, c139, c140s⟩, ⟨c19, c141s, ⟨c141a, c142s⟩, ⟨c141b, c143s⟩, ⟨c141c, c144s⟩⟩, M⟩ := id Z
  obtain ⟨F0, ⟨F8, F8s⟩, ⟨F9, F9s⟩, ⟨F10, F10s⟩, ⟨F11, F11s⟩, ⟨F12, F12s⟩, ⟨F13, F13s⟩, ⟨F14, F14s⟩, ⟨F15, F15s⟩, ⟨F16, F16s⟩, ⟨F17, F17s⟩, ⟨F18, F18s⟩, ⟨F19, F19s⟩, ⟨Y3, Y3s⟩, ⟨Y4, Y4s⟩, ⟨Y5, Y5s⟩, ⟨Y6, Y6s⟩⟩ := id F
  obtain ⟨⟨n1, n1b⟩, ⟨n2, n2b⟩, ⟨n3, n3b⟩, ⟨n4, n4b⟩, nof, non⟩ := id N
  have hz : zin (nI p) np := ⟨p, by omega, rfl⟩
  have hbo : b.toInt < 0 ∨ (4 : Int) < b.toInt := by rw [zin_int (by decide)] at hb; omega
  refine zEi_of (lv := [some (.ref 0), some (.int (nI p)), some (.int b)]) (by decide) rfl (Nat.le_of_ble_eq_true rfl) ?_
  refine z_aload_0 d_Tf_person_0 ?_
  refine z_iload_1 d_Tf_person_1 ?_
  refine z_Vi1 d_Tf_person_2 k_Tf_234 (by first | assumption | exact zS0_at (by assumption) (by omega) | exact zS0_at rfl (by omega)) (t_Tf_noPerson Z N) ⟨Nat.le_of_ble_eq_true rfl, Nat.le_of_ble_eq_true rfl, Nat.le_of_ble_eq_true rfl, Nat.le_of_ble_eq_true rfl⟩ (Nat.le_of_ble_eq_true rfl) ?_
  intro r w hq
  rcases hq with ⟨⟨hz2, rfl⟩ | ⟨hz2, rfl⟩, rfl⟩
  · first
    | contradiction
    | ( skip
        refine z_if_eq (tgt := 14) d_Tf_person_5 (by decide) (fun h => absurd h (by decide)) (fun _ => ?_)
        refine z_aload_0 d_Tf_person_8 ?_
        refine z_iconst (a := nI 2) d_Tf_person_9 (by decide) ?_
        refine z_Vi1 d_Tf_person_10 k_Tf_138 (by first | assumption | exact zS0_at (by assumption) (by omega) | exact zS0_at rfl (by omega)) (t_Tf_fail (by assumption)) ⟨Nat.le_of_ble_eq_true rfl, Nat.le_of_ble_eq_true rfl, Nat.le_of_ble_eq_true rfl, Nat.le_of_ble_eq_true rfl⟩ (Nat.le_of_ble_eq_true rfl) ?_
        intro r w hq
        obtain ⟨rfl, rfl⟩ := hq
        refine z_reti d_Tf_person_13 ?_
        exact ⟨by first | rfl | assumption, cW_0⟩)
  · first
    | contradiction
    | ( skip
        refine z_if_eq (tgt := 14) d_Tf_person_5 (by decide) (fun _ => ?_) (fun h => absurd h (by decide))
        refine z_iload_2 d_Tf_person_14 ?_
        refine z_tableOut (tgt := 123) d_Tf_person_15 (hbo) (by decide) ?_
        refine z_aload_0 d_Tf_person_123 ?_
        refine z_iconst (a := nI 5) d_Tf_person_124 (by decide) ?_
        refine z_Vi1 d_Tf_person_125 k_Tf_138 (by first | assumption | exact zS0_at (by assumption) (by omega) | exact zS0_at rfl (by omega)) (t_Tf_fail (by assumption)) ⟨Nat.le_of_ble_eq_true rfl, Nat.le_of_ble_eq_true rfl, Nat.le_of_ble_eq_true rfl, Nat.le_of_ble_eq_true rfl⟩ (Nat.le_of_ble_eq_true rfl) ?_
        intro r w hq
        obtain ⟨rfl, rfl⟩ := hq
        refine z_reti d_Tf_person_128 ?_
        exact ⟨by first | rfl | assumption, cW_0⟩)
theorem t_Tf_person_0 {p : Nat} (Z : clOk f d P S) (N : fenIn I f nt np nl nn) (hp : p < np) : zEi G y_Tf_person prog_1_method_15_code 3 (some .int) 4 [.ref 0, .int (nI p), .int (nI 0)] (I, J, P, S) (fun r w => r = I (f + 2) p ∧ cW I J P S 0 w) := by
  obtain ⟨⟨c0, c3, c1s⟩, ⟨c5, c2s, ctr⟩, ⟨c6, c11s, c11, c13s⟩, ⟨c7, c15s, c15⟩, ⟨c8, c16s, c16a, c16b, c17s⟩, ⟨c9, c10, cfd, F, Fd⟩, ⟨c11b, Ft⟩, ⟨c12, c69s, cmk⟩, ⟨c14, c121s, c121, c122s⟩, ⟨c15b, c123s, c123, c124s⟩, ⟨c16, c125s, c125, c126s⟩, ⟨c17, c127s, c127, c128s, ctb⟩, ⟨c18, c139s, c139, c140s⟩, ⟨c19, c141s, ⟨c141a, c142s⟩, ⟨c141b, c143s⟩, ⟨c141c, c144s⟩⟩, M⟩ := id Z
  obtain ⟨F0, ⟨F8, F8s⟩, ⟨F9, F9s⟩, ⟨F10, F10s⟩, ⟨F11, F11s⟩, ⟨F12, F12s⟩, ⟨F13, F13s⟩, ⟨F14, F14s⟩, ⟨F15, F15s⟩, ⟨F16, F16s⟩, ⟨F17, F17s⟩, ⟨F18, F18s⟩, ⟨F19, F19s⟩, ⟨Y3, Y3s⟩, ⟨Y4, Y4s⟩, ⟨Y5, Y5s⟩, ⟨Y6, Y6s⟩⟩ := id F
  obtain ⟨⟨n1, n1b⟩, ⟨n2, n2b⟩, ⟨n3, n3b⟩, ⟨n4, n4b⟩, nof, non⟩ := id N
  have hz : zin (nI p) np := ⟨p, by omega, rfl⟩
  refine zEi_of (lv := [some (.ref 0), some (.int (nI p)), some (.int (nI 0))]) (by decide) rfl (Nat.le_of_ble_eq_true rfl) ?_
  refine z_aload_0 d_Tf_person_0 ?_
  refine z_iload_1 d_Tf_person_1 ?_
  refine z_Vi1 d_Tf_person_2 k_Tf_234 (by first | assumption | exact zS0_at (by assumption) (by omega) | exact zS0_at rfl (by omega)) (t_Tf_noPerson Z N) ⟨Nat.le_of_ble_eq_true rfl, Nat.le_of_ble_eq_true rfl, Nat.le_of_ble_eq_true rfl, Nat.le_of_ble_eq_true rfl⟩ (Nat.le_of_ble_eq_true rfl) ?_
  intro r w hq
  rcases hq with ⟨⟨hz2, rfl⟩ | ⟨hz2, rfl⟩, rfl⟩
  · first
    | contradiction
    | ( skip
        refine z_if_eq (tgt := 14) d_Tf_person_5 (by decide) (fun h => absurd h (by decide)) (fun _ => ?_)
        refine z_aload_0 d_Tf_person_8 ?_
        refine z_iconst (a := nI 2) d_Tf_person_9 (by decide) ?_
        refine z_Vi1 d_Tf_person_10 k_Tf_138 (by first | assumption | exact zS0_at (by assumption) (by omega) | exact zS0_at rfl (by omega)) (t_Tf_fail (by assumption)) ⟨Nat.le_of_ble_eq_true rfl, Nat.le_of_ble_eq_true rfl, Nat.le_of_ble_eq_true rfl, Nat.le_of_ble_eq_true rfl⟩ (Nat.le_of_ble_eq_true rfl) ?_
        intro r w hq
        obtain ⟨rfl, rfl⟩ := hq
        refine z_reti d_Tf_person_13 ?_
        exact ⟨by first | rfl | assumption, cW_0⟩)
  · first
    | contradiction
    | ( skip
        refine z_if_eq (tgt := 14) d_Tf_person_5 (by decide) (fun _ => ?_) (fun h => absurd h (by decide))
        refine z_iload_2 d_Tf_person_14 ?_
        refine z_tableIn (off := 33) (tgt := 48) d_Tf_person_15 (by decide) (by decide) (by decide) (by decide) ?_
        refine z_aload_0 d_Tf_person_48 ?_
        refine z_aload_0 d_Tf_person_49 ?_
        refine z_getR d_Tf_person_50 f_Tf_60 (by first | assumption | exact zS0_at (by assumption) (by omega) | exact zS0_at rfl (by omega)) (by first | assumption | exact zS0_at (by assumption) (by omega) | exact zS0_at rfl (by omega)) ?_
        refine z_getR d_Tf_person_53 f_Tf_237 (by first | assumption | exact zS0_at (by assumption) (by omega) | exact zS0_at rfl (by omega)) (by first | assumption | exact zS0_at (by assumption) (by omega) | exact zS0_at rfl (by omega)) ?_
        refine z_iload_1 d_Tf_person_56 ?_
        first | refine z_ialdNv d_Tf_person_57 (by first | assumption | exact zS0_at (by assumption) (by omega) | exact zS0_at rfl (by omega)) (by omega) (by first | decide | omega) (by first | assumption | ((try simp (disch := omega) only [zu_same, zu_ne, zcp_ne, zfl_ne]); first | assumption | rfl)) ?_ | refine z_iald d_Tf_person_57 (by first | assumption | exact zS0_at (by assumption) (by omega) | exact zS0_at rfl (by omega)) (by first | assumption | exact zS0_at (by assumption) (by omega) | exact zS0_at rfl (by omega)) ?_
        refine z_Vi1 d_Tf_person_58 k_Tf_174 (by first | assumption | exact zS0_at (by assumption) (by omega) | exact zS0_at rfl (by omega)) (t_Tf_give (by assumption)) ⟨Nat.le_of_ble_eq_true rfl, Nat.le_of_ble_eq_true rfl, Nat.le_of_ble_eq_true rfl, Nat.le_of_ble_eq_true rfl⟩ (Nat.le_of_ble_eq_true rfl) ?_
        intro r w hq
        obtain ⟨rfl, rfl⟩ := hq
        refine z_reti d_Tf_person_61 ?_
        exact ⟨by first | rfl | assumption, cW_0⟩)
theorem t_Tf_person_1 {p : Nat} (Z : clOk f d P S) (N : fenIn I f nt np nl nn) (hp : p < np) : zEi G y_Tf_person prog_1_method_15_code 3 (some .int) 4 [.ref 0, .int (nI p), .int (nI 1)] (I, J, P, S) (fun r w => r = I (f + 3) p ∧ cW I J P S 0 w) := by
  obtain ⟨⟨c0, c3, c1s⟩, ⟨c5, c2s, ctr⟩, ⟨c6, c11s, c11, c13s⟩, ⟨c7, c15s, c15⟩, ⟨c8, c16s, c16a, c16b, c17s⟩, ⟨c9, c10, cfd, F, Fd⟩, ⟨c11b, Ft⟩, ⟨c12, c69s, cmk⟩, ⟨c14, c121s, c121, c122s⟩, ⟨c15b, c123s, c123, c124s⟩, ⟨c16, c125s, c125, c126s⟩, ⟨c17, c127s, c127, c128s, ctb⟩, ⟨c18, c139s, c139, c140s⟩, ⟨c19, c141s, ⟨c141a, c142s⟩, ⟨c141b, c143s⟩, ⟨c141c, c144s⟩⟩, M⟩ := id Z
  obtain ⟨F0, ⟨F8, F8s⟩, ⟨F9, F9s⟩, ⟨F10, F10s⟩, ⟨F11, F11s⟩, ⟨F12, F12s⟩, ⟨F13, F13s⟩, ⟨F14, F14s⟩, ⟨F15, F15s⟩, ⟨F16, F16s⟩, ⟨F17, F17s⟩, ⟨F18, F18s⟩, ⟨F19, F19s⟩, ⟨Y3, Y3s⟩, ⟨Y4, Y4s⟩, ⟨Y5, Y5s⟩, ⟨Y6, Y6s⟩⟩ := id F
  obtain ⟨⟨n1, n1b⟩, ⟨n2, n2b⟩, ⟨n3, n3b⟩, ⟨n4, n4b⟩, nof, non⟩ := id N
  have hz : zin (nI p) np := ⟨p, by omega, rfl⟩
  refine zEi_of (lv := [some (.ref 0), some (.int (nI p)), some (.int (nI 1))]) (by decide) rfl (Nat.le_of_ble_eq_true rfl) ?_
  refine z_aload_0 d_Tf_person_0 ?_
  refine z_iload_1 d_Tf_person_1 ?_
  refine z_Vi1 d_Tf_person_2 k_Tf_234 (by first | assumption | exact zS0_at (by assumption) (by omega) | exact zS0_at rfl (by omega)) (t_Tf_noPerson Z N) ⟨Nat.le_of_ble_eq_true rfl, Nat.le_of_ble_eq_true rfl, Nat.le_of_ble_eq_true rfl, Nat.le_of_ble_eq_true rfl⟩ (Nat.le_of_ble_eq_true rfl) ?_
  intro r w hq
  rcases hq with ⟨⟨hz2, rfl⟩ | ⟨hz2, rfl⟩, rfl⟩
  · first
    | contradiction
    | ( skip
        refine z_if_eq (tgt := 14) d_Tf_person_5 (by decide) (fun h => absurd h (by decide)) (fun _ => ?_)
        refine z_aload_0 d_Tf_person_8 ?_
        refine z_iconst (a := nI 2) d_Tf_person_9 (by decide) ?_
        refine z_Vi1 d_Tf_person_10 k_Tf_138 (by first | assumption | exact zS0_at (by assumption) (by omega) | exact zS0_at rfl (by omega)) (t_Tf_fail (by assumption)) ⟨Nat.le_of_ble_eq_true rfl, Nat.le_of_ble_eq_true rfl, Nat.le_of_ble_eq_true rfl, Nat.le_of_ble_eq_true rfl⟩ (Nat.le_of_ble_eq_true rfl) ?_
        intro r w hq
        obtain ⟨rfl, rfl⟩ := hq
        refine z_reti d_Tf_person_13 ?_
        exact ⟨by first | rfl | assumption, cW_0⟩)
  · first
    | contradiction
    | ( skip
        refine z_if_eq (tgt := 14) d_Tf_person_5 (by decide) (fun _ => ?_) (fun h => absurd h (by decide))
        refine z_iload_2 d_Tf_person_14 ?_
        refine z_tableIn (off := 47) (tgt := 62) d_Tf_person_15 (by decide) (by decide) (by decide) (by decide) ?_
        refine z_aload_0 d_Tf_person_62 ?_
        refine z_aload_0 d_Tf_person_63 ?_
        refine z_getR d_Tf_person_64 f_Tf_60 (by first | assumption | exact zS0_at (by assumption) (by omega) | exact zS0_at rfl (by omega)) (by first | assumption | exact zS0_at (by assumption) (by omega) | exact zS0_at rfl (by omega)) ?_
        refine z_getR d_Tf_person_67 f_Tf_240 (by first | assumption | exact zS0_at (by assumption) (by omega) | exact zS0_at rfl (by omega)) (by first | assumption | exact zS0_at (by assumption) (by omega) | exact zS0_at rfl (by omega)) ?_
        refine z_iload_1 d_Tf_person_70 ?_
        first | refine z_ialdNv d_Tf_person_71 (by first | assumption | exact zS0_at (by assumption) (by omega) | exact zS0_at rfl (by omega)) (by omega) (by first | decide | omega) (by first | assumption | ((try simp (disch := omega) only [zu_same, zu_ne, zcp_ne, zfl_ne]); first | assumption | rfl)) ?_ | refine z_iald d_Tf_person_71 (by first | assumption | exact zS0_at (by assumption) (by omega) | exact zS0_at rfl (by omega)) (by first | assumption | exact zS0_at (by assumption) (by omega) | exact zS0_at rfl (by omega)) ?_
        refine z_Vi1 d_Tf_person_72 k_Tf_174 (by first | assumption | exact zS0_at (by assumption) (by omega) | exact zS0_at rfl (by omega)) (t_Tf_give (by assumption)) ⟨Nat.le_of_ble_eq_true rfl, Nat.le_of_ble_eq_true rfl, Nat.le_of_ble_eq_true rfl, Nat.le_of_ble_eq_true rfl⟩ (Nat.le_of_ble_eq_true rfl) ?_
        intro r w hq
        obtain ⟨rfl, rfl⟩ := hq
        refine z_reti d_Tf_person_75 ?_
        exact ⟨by first | rfl | assumption, cW_0⟩)
theorem t_Tf_person_2 {p : Nat} (Z : clOk f d P S) (N : fenIn I f nt np nl nn) (hp : p < np) : zEi G y_Tf_person prog_1_method_15_code 3 (some .int) 4 [.ref 0, .int (nI p), .int (nI 2)] (I, J, P, S) (fun r w => r = s_set (fun t => decide (I (f + 6) t = nI p)) nn ∧ cW I J P S 0 w) := by
  obtain ⟨⟨c0, c3, c1s⟩, ⟨c5, c2s, ctr⟩, ⟨c6, c11s, c11, c13s⟩, ⟨c7, c15s, c15⟩, ⟨c8, c16s, c16a, c16b, c17s⟩, ⟨c9, c10, cfd, F, Fd⟩, ⟨c11b, Ft⟩, ⟨c12, c69s, cmk⟩, ⟨c14, c121s, c121, c122s⟩, ⟨c15b, c123s, c123, c124s⟩, ⟨c16, c125s, c125, c126s⟩, ⟨c17, c127s, c127, c128s, ctb⟩, ⟨c18, c139s, c139, c140s⟩, ⟨c19, c141s, ⟨c141a, c142s⟩, ⟨c141b, c143s⟩, ⟨c141c, c144s⟩⟩, M⟩ := id Z
  obtain ⟨F0, ⟨F8, F8s⟩, ⟨F9, F9s⟩, ⟨F10, F10s⟩, ⟨F11, F11s⟩, ⟨F12, F12s⟩, ⟨F13, F13s⟩, ⟨F14, F14s⟩, ⟨F15, F15s⟩, ⟨F16, F16s⟩, ⟨F17, F17s⟩, ⟨F18, F18s⟩, ⟨F19, F19s⟩, ⟨Y3, Y3s⟩, ⟨Y4, Y4s⟩, ⟨Y5, Y5s⟩, ⟨Y6, Y6s⟩⟩ := id F
  obtain ⟨⟨n1, n1b⟩, ⟨n2, n2b⟩, ⟨n3, n3b⟩, ⟨n4, n4b⟩, nof, non⟩ := id N
  have hz : zin (nI p) np := ⟨p, by omega, rfl⟩
  refine zEi_of (lv := [some (.ref 0), some (.int (nI p)), some (.int (nI 2))]) (by decide) rfl (Nat.le_of_ble_eq_true rfl) ?_
  refine z_aload_0 d_Tf_person_0 ?_
  refine z_iload_1 d_Tf_person_1 ?_
  refine z_Vi1 d_Tf_person_2 k_Tf_234 (by first | assumption | exact zS0_at (by assumption) (by omega) | exact zS0_at rfl (by omega)) (t_Tf_noPerson Z N) ⟨Nat.le_of_ble_eq_true rfl, Nat.le_of_ble_eq_true rfl, Nat.le_of_ble_eq_true rfl, Nat.le_of_ble_eq_true rfl⟩ (Nat.le_of_ble_eq_true rfl) ?_
  intro r w hq
  rcases hq with ⟨⟨hz2, rfl⟩ | ⟨hz2, rfl⟩, rfl⟩
  · first
    | contradiction
    | ( skip
        refine z_if_eq (tgt := 14) d_Tf_person_5 (by decide) (fun h => absurd h (by decide)) (fun _ => ?_)
        refine z_aload_0 d_Tf_person_8 ?_
        refine z_iconst (a := nI 2) d_Tf_person_9 (by decide) ?_
        refine z_Vi1 d_Tf_person_10 k_Tf_138 (by first | assumption | exact zS0_at (by assumption) (by omega) | exact zS0_at rfl (by omega)) (t_Tf_fail (by assumption)) ⟨Nat.le_of_ble_eq_true rfl, Nat.le_of_ble_eq_true rfl, Nat.le_of_ble_eq_true rfl, Nat.le_of_ble_eq_true rfl⟩ (Nat.le_of_ble_eq_true rfl) ?_
        intro r w hq
        obtain ⟨rfl, rfl⟩ := hq
        refine z_reti d_Tf_person_13 ?_
        exact ⟨by first | rfl | assumption, cW_0⟩)
  · first
    | contradiction
    | ( skip
        refine z_if_eq (tgt := 14) d_Tf_person_5 (by decide) (fun _ => ?_) (fun h => absurd h (by decide))
        refine z_iload_2 d_Tf_person_14 ?_
        refine z_tableIn (off := 61) (tgt := 76) d_Tf_person_15 (by decide) (by decide) (by decide) (by decide) ?_
        refine z_aload_0 d_Tf_person_76 ?_
        refine z_aload_0 d_Tf_person_77 ?_
        refine z_getR d_Tf_person_78 f_Tf_60 (by first | assumption | exact zS0_at (by assumption) (by omega) | exact zS0_at rfl (by omega)) (by first | assumption | exact zS0_at (by assumption) (by omega) | exact zS0_at rfl (by omega)) ?_
        refine z_iload_1 d_Tf_person_81 ?_
        refine z_Vi1 d_Tf_person_82 k_Tf_214 (by first | assumption | exact zS0_at (by assumption) (by omega) | exact zS0_at rfl (by omega)) (t_Fen_wornBy (by assumption) (by assumption)) ⟨Nat.le_of_ble_eq_true rfl, Nat.le_of_ble_eq_true rfl, Nat.le_of_ble_eq_true rfl, Nat.le_of_ble_eq_true rfl⟩ (Nat.le_of_ble_eq_true rfl) ?_
        intro r w hq
        obtain ⟨rfl, rfl⟩ := hq
        refine z_Vi1 d_Tf_person_85 k_Tf_174 (by first | assumption | exact zS0_at (by assumption) (by omega) | exact zS0_at rfl (by omega)) (t_Tf_give (by assumption)) ⟨Nat.le_of_ble_eq_true rfl, Nat.le_of_ble_eq_true rfl, Nat.le_of_ble_eq_true rfl, Nat.le_of_ble_eq_true rfl⟩ (Nat.le_of_ble_eq_true rfl) ?_
        intro r w hq
        obtain ⟨rfl, rfl⟩ := hq
        refine z_reti d_Tf_person_88 ?_
        exact ⟨by first | rfl | assumption, cW_0⟩)
theorem t_Tf_person_3 {p : Nat} (Z : clOk f d P S) (N : fenIn I f nt np nl nn) (hp : p < np) : zEi G y_Tf_person prog_1_method_15_code 3 (some .int) 4 [.ref 0, .int (nI p), .int (nI 3)] (I, J, P, S) (fun r w => r = I (f + 4) p ∧ cW I J P S 0 w) := by
  obtain ⟨⟨c0, c3, c1s⟩, ⟨c5, c2s, ctr⟩, ⟨c6, c11s, c11, c13s⟩, ⟨c7, c15s, c15⟩, ⟨c8, c16s, c16a, c16b, c17s⟩, ⟨c9, c10, cfd, F, Fd⟩, ⟨c11b, Ft⟩, ⟨c12, c69s, cmk⟩, ⟨c14, c121s, c121, c122s⟩, ⟨c15b, c123s, c123, c124s⟩, ⟨c16, c125s, c125, c126s⟩, ⟨c17, c127s, c127, c128s, ctb⟩, ⟨c18, c139s, c139, c140s⟩, ⟨c19, c141s, ⟨c141a, c142s⟩, ⟨c141b, c143s⟩, ⟨c141c, c144s⟩⟩, M⟩ := id Z
  obtain ⟨F0, ⟨F8, F8s⟩, ⟨F9, F9s⟩, ⟨F10, F10s⟩, ⟨F11, F11s⟩, ⟨F12, F12s⟩, ⟨F13, F13s⟩, ⟨F14, F14s⟩, ⟨F15, F15s⟩, ⟨F16, F16s⟩, ⟨F17, F17s⟩, ⟨F18, F18s⟩, ⟨F19, F19s⟩, ⟨Y3, Y3s⟩, ⟨Y4, Y4s⟩, ⟨Y5, Y5s⟩, ⟨Y6, Y6s⟩⟩ := id F
  obtain ⟨⟨n1, n1b⟩, ⟨n2, n2b⟩, ⟨n3, n3b⟩, ⟨n4, n4b⟩, nof, non⟩ := id N
  have hz : zin (nI p) np := ⟨p, by omega, rfl⟩
  refine zEi_of (lv := [some (.ref 0), some (.int (nI p)), some (.int (nI 3))]) (by decide) rfl (Nat.le_of_ble_eq_true rfl) ?_
  refine z_aload_0 d_Tf_person_0 ?_
  refine z_iload_1 d_Tf_person_1 ?_
  refine z_Vi1 d_Tf_person_2 k_Tf_234 (by first | assumption | exact zS0_at (by assumption) (by omega) | exact zS0_at rfl (by omega)) (t_Tf_noPerson Z N) ⟨Nat.le_of_ble_eq_true rfl, Nat.le_of_ble_eq_true rfl, Nat.le_of_ble_eq_true rfl, Nat.le_of_ble_eq_true rfl⟩ (Nat.le_of_ble_eq_true rfl) ?_
  intro r w hq
  rcases hq with ⟨⟨hz2, rfl⟩ | ⟨hz2, rfl⟩, rfl⟩
  · first
    | contradiction
    | ( skip
        refine z_if_eq (tgt := 14) d_Tf_person_5 (by decide) (fun h => absurd h (by decide)) (fun _ => ?_)
        refine z_aload_0 d_Tf_person_8 ?_
        refine z_iconst (a := nI 2) d_Tf_person_9 (by decide) ?_
        refine z_Vi1 d_Tf_person_10 k_Tf_138 (by first | assumption | exact zS0_at (by assumption) (by omega) | exact zS0_at rfl (by omega)) (t_Tf_fail (by assumption)) ⟨Nat.le_of_ble_eq_true rfl, Nat.le_of_ble_eq_true rfl, Nat.le_of_ble_eq_true rfl, Nat.le_of_ble_eq_true rfl⟩ (Nat.le_of_ble_eq_true rfl) ?_
        intro r w hq
        obtain ⟨rfl, rfl⟩ := hq
        refine z_reti d_Tf_person_13 ?_
        exact ⟨by first | rfl | assumption, cW_0⟩)
  · first
    | contradiction
    | ( skip
        refine z_if_eq (tgt := 14) d_Tf_person_5 (by decide) (fun _ => ?_) (fun h => absurd h (by decide))
        refine z_iload_2 d_Tf_person_14 ?_
        refine z_tableIn (off := 74) (tgt := 89) d_Tf_person_15 (by decide) (by decide) (by decide) (by decide) ?_
        refine z_aload_0 d_Tf_person_89 ?_
        refine z_aload_0 d_Tf_person_90 ?_
        refine z_getR d_Tf_person_91 f_Tf_60 (by first | assumption | exact zS0_at (by assumption) (by omega) | exact zS0_at rfl (by omega)) (by first | assumption | exact zS0_at (by assumption) (by omega) | exact zS0_at rfl (by omega)) ?_
        refine z_getR d_Tf_person_94 f_Tf_243 (by first | assumption | exact zS0_at (by assumption) (by omega) | exact zS0_at rfl (by omega)) (by first | assumption | exact zS0_at (by assumption) (by omega) | exact zS0_at rfl (by omega)) ?_
        refine z_iload_1 d_Tf_person_97 ?_
        first | refine z_ialdNv d_Tf_person_98 (by first | assumption | exact zS0_at (by assumption) (by omega) | exact zS0_at rfl (by omega)) (by omega) (by first | decide | omega) (by first | assumption | ((try simp (disch := omega) only [zu_same, zu_ne, zcp_ne, zfl_ne]); first | assumption | rfl)) ?_ | refine z_iald d_Tf_person_98 (by first | assumption | exact zS0_at (by assumption) (by omega) | exact zS0_at rfl (by omega)) (by first | assumption | exact zS0_at (by assumption) (by omega) | exact zS0_at rfl (by omega)) ?_
        refine z_Vi1 d_Tf_person_99 k_Tf_174 (by first | assumption | exact zS0_at (by assumption) (by omega) | exact zS0_at rfl (by omega)) (t_Tf_give (by assumption)) ⟨Nat.le_of_ble_eq_true rfl, Nat.le_of_ble_eq_true rfl, Nat.le_of_ble_eq_true rfl, Nat.le_of_ble_eq_true rfl⟩ (Nat.le_of_ble_eq_true rfl) ?_
        intro r w hq
        obtain ⟨rfl, rfl⟩ := hq
        refine z_reti d_Tf_person_102 ?_
        exact ⟨by first | rfl | assumption, cW_0⟩)
theorem t_Tf_person_4 {p : Nat} (Z : clOk f d P S) (N : fenIn I f nt np nl nn) (hp : p < np) : zEi G y_Tf_person prog_1_method_15_code 3 (some .int) 4 [.ref 0, .int (nI p), .int (nI 4)] (I, J, P, S) (fun r w => r = s_sum (fun t => zB (s_set (fun t => decide (I (f + 6) t = nI p)) nn) t) (fun t => I (f + 1) (I (f + 5) t).toNatClampNeg) nn ∧ cW I J P S 0 w) := by
  obtain ⟨⟨c0, c3, c1s⟩, ⟨c5, c2s, ctr⟩, ⟨c6, c11s, c11, c13s⟩, ⟨c7, c15s, c15⟩, ⟨c8, c16s, c16a, c16b, c17s⟩, ⟨c9, c10, cfd, F, Fd⟩, ⟨c11b, Ft⟩, ⟨c12, c69s, cmk⟩, ⟨c14, c121s, c121, c122s⟩, ⟨c15b, c123s, c123, c124s⟩, ⟨c16, c125s, c125, c126s⟩, ⟨c17, c127s, c127, c128s, ctb⟩, ⟨c18, c139s, c139, c140s⟩, ⟨c19, c141s, ⟨c141a, c142s⟩, ⟨c141b, c143s⟩, ⟨c141c, c144s⟩⟩, M⟩ := id Z
  obtain ⟨F0, ⟨F8, F8s⟩, ⟨F9, F9s⟩, ⟨F10, F10s⟩, ⟨F11, F11s⟩, ⟨F12, F12s⟩, ⟨F13, F13s⟩, ⟨F14, F14s⟩, ⟨F15, F15s⟩, ⟨F16, F16s⟩, ⟨F17, F17s⟩, ⟨F18, F18s⟩, ⟨F19, F19s⟩, ⟨Y3, Y3s⟩, ⟨Y4, Y4s⟩, ⟨Y5, Y5s⟩, ⟨Y6, Y6s⟩⟩ := id F
  obtain ⟨⟨n1, n1b⟩, ⟨n2, n2b⟩, ⟨n3, n3b⟩, ⟨n4, n4b⟩, nof, non⟩ := id N
  have hz : zin (nI p) np := ⟨p, by omega, rfl⟩
  refine zEi_of (lv := [some (.ref 0), some (.int (nI p)), some (.int (nI 4))]) (by decide) rfl (Nat.le_of_ble_eq_true rfl) ?_
  refine z_aload_0 d_Tf_person_0 ?_
  refine z_iload_1 d_Tf_person_1 ?_
  refine z_Vi1 d_Tf_person_2 k_Tf_234 (by first | assumption | exact zS0_at (by assumption) (by omega) | exact zS0_at rfl (by omega)) (t_Tf_noPerson Z N) ⟨Nat.le_of_ble_eq_true rfl, Nat.le_of_ble_eq_true rfl, Nat.le_of_ble_eq_true rfl, Nat.le_of_ble_eq_true rfl⟩ (Nat.le_of_ble_eq_true rfl) ?_
  intro r w hq
  rcases hq with ⟨⟨hz2, rfl⟩ | ⟨hz2, rfl⟩, rfl⟩
  · first
    | contradiction
    | ( skip
        refine z_if_eq (tgt := 14) d_Tf_person_5 (by decide) (fun h => absurd h (by decide)) (fun _ => ?_)
        refine z_aload_0 d_Tf_person_8 ?_
        refine z_iconst (a := nI 2) d_Tf_person_9 (by decide) ?_
        refine z_Vi1 d_Tf_person_10 k_Tf_138 (by first | assumption | exact zS0_at (by assumption) (by omega) | exact zS0_at rfl (by omega)) (t_Tf_fail (by assumption)) ⟨Nat.le_of_ble_eq_true rfl, Nat.le_of_ble_eq_true rfl, Nat.le_of_ble_eq_true rfl, Nat.le_of_ble_eq_true rfl⟩ (Nat.le_of_ble_eq_true rfl) ?_
        intro r w hq
        obtain ⟨rfl, rfl⟩ := hq
        refine z_reti d_Tf_person_13 ?_
        exact ⟨by first | rfl | assumption, cW_0⟩)
  · first
    | contradiction
    | ( skip
        refine z_if_eq (tgt := 14) d_Tf_person_5 (by decide) (fun _ => ?_) (fun h => absurd h (by decide))
        refine z_iload_2 d_Tf_person_14 ?_
        refine z_tableIn (off := 88) (tgt := 103) d_Tf_person_15 (by decide) (by decide) (by decide) (by decide) ?_
        refine z_aload_0 d_Tf_person_103 ?_
        refine z_aload_0 d_Tf_person_104 ?_
        refine z_getR d_Tf_person_105 f_Tf_60 (by first | assumption | exact zS0_at (by assumption) (by omega) | exact zS0_at rfl (by omega)) (by first | assumption | exact zS0_at (by assumption) (by omega) | exact zS0_at rfl (by omega)) ?_
        refine z_aload_0 d_Tf_person_108 ?_
        refine z_getR d_Tf_person_109 f_Tf_60 (by first | assumption | exact zS0_at (by assumption) (by omega) | exact zS0_at rfl (by omega)) (by first | assumption | exact zS0_at (by assumption) (by omega) | exact zS0_at rfl (by omega)) ?_
        refine z_iload_1 d_Tf_person_112 ?_
        refine z_Vi1 d_Tf_person_113 k_Tf_214 (by first | assumption | exact zS0_at (by assumption) (by omega) | exact zS0_at rfl (by omega)) (t_Fen_wornBy (by assumption) (by assumption)) ⟨Nat.le_of_ble_eq_true rfl, Nat.le_of_ble_eq_true rfl, Nat.le_of_ble_eq_true rfl, Nat.le_of_ble_eq_true rfl⟩ (Nat.le_of_ble_eq_true rfl) ?_
        intro r w hq
        obtain ⟨rfl, rfl⟩ := hq
        refine z_Vi1 d_Tf_person_116 k_Tf_246 (by first | assumption | exact zS0_at (by assumption) (by omega) | exact zS0_at rfl (by omega)) (t_Fen_worthOf (by assumption) (by assumption)) ⟨Nat.le_of_ble_eq_true rfl, Nat.le_of_ble_eq_true rfl, Nat.le_of_ble_eq_true rfl, Nat.le_of_ble_eq_true rfl⟩ (Nat.le_of_ble_eq_true rfl) ?_
        intro r w hq
        obtain ⟨rfl, rfl⟩ := hq
        refine z_Vi1 d_Tf_person_119 k_Tf_174 (by first | assumption | exact zS0_at (by assumption) (by omega) | exact zS0_at rfl (by omega)) (t_Tf_give (by assumption)) ⟨Nat.le_of_ble_eq_true rfl, Nat.le_of_ble_eq_true rfl, Nat.le_of_ble_eq_true rfl, Nat.le_of_ble_eq_true rfl⟩ (Nat.le_of_ble_eq_true rfl) ?_
        intro r w hq
        obtain ⟨rfl, rfl⟩ := hq
        refine z_reti d_Tf_person_122 ?_
        exact ⟨by first | rfl | assumption, cW_0⟩)
theorem t_Mo_person_o (M : modOk P S) (N : modIn I nt np nl nn) (h : ¬ zin a np) : zEi G y_Mo_person prog_14_method_86_code 3 (some .int) 4 [.ref 145, .int a, .int b] (I, J, P, S) (fun r w => r = -1 ∧ mW I J P S 2 w) := by
  obtain ⟨M0, ⟨M4, M4s⟩, ⟨M5, M5s⟩, ⟨M6, M6s⟩, ⟨M7, M7s⟩, ⟨M20, M20s⟩, ⟨M21, M21s⟩, ⟨M22, M22s⟩, ⟨M26, M26s⟩, ⟨M27, M27s⟩, ⟨M28, M28s⟩, ⟨M30, M30s⟩, ⟨M34, M34s⟩, ⟨M36, M36s⟩, ⟨M37, M37s⟩⟩ := id M
  obtain ⟨I1, hI1, N1, h1, h0, e150, er, ek⟩ := mo_beg N
  obtain ⟨⟨m0, m0b⟩, ⟨m1, m1b⟩, ⟨m2, m2b⟩, ⟨m3, m3b⟩, mof, mon⟩ := id N1
  have hD : mD I I1 := ⟨h1, h0, e150, er⟩
  refine zEi_of (lv := [some (.ref 145), some (.int a), some (.int b)]) (by decide) rfl (Nat.le_of_ble_eq_true rfl) ?_
  refine z_aload_0 d_Mo_person_0 ?_
  refine z_iconst (a := nI 0) d_Mo_person_1 (by decide) ?_
  refine z_putI d_Mo_person_2 f_Mo_70 (by first | assumption | exact zS0_at (by assumption) (by omega) | exact zS0_at rfl (by omega)) ?_
  refine z_aload_0 d_Mo_person_5 ?_
  refine z_iconst (a := nI 0) d_Mo_person_6 (by decide) ?_
  refine z_putI d_Mo_person_7 f_Mo_73 (by first | assumption | exact zS0_at (by assumption) (by omega) | exact zS0_at rfl (by omega)) ?_
  rw [← hI1]
  refine z_aload_0 d_Mo_person_10 ?_
  refine z_iload_1 d_Mo_person_11 ?_
  refine z_i2l d_Mo_person_12 ?_
  refine z_Vi1 d_Mo_person_13 k_Mo_336 (by first | assumption | exact zS0_at (by assumption) (by omega) | exact zS0_at rfl (by omega)) (t_Mo_isPersonAtI M N1) ⟨Nat.le_of_ble_eq_true rfl, Nat.le_of_ble_eq_true rfl, Nat.le_of_ble_eq_true rfl, Nat.le_of_ble_eq_true rfl⟩ (Nat.le_of_ble_eq_true rfl) ?_
  intro r w hq
  rcases hq with ⟨⟨hz13, rfl⟩ | ⟨hz13, rfl⟩, rfl⟩
  · first
    | contradiction
    | ( skip
        refine z_if_ne (tgt := 25) d_Mo_person_16 (by decide) (fun _ => ?_) (fun h => absurd h (by decide))
        contradiction)
  · first
    | contradiction
    | ( skip
        refine z_if_ne (tgt := 25) d_Mo_person_16 (by decide) (fun h => absurd h (by decide)) (fun _ => ?_)
        refine z_aload_0 d_Mo_person_19 ?_
        refine z_iconst (a := nI 2) d_Mo_person_20 (by decide) ?_
        refine z_Vi1 d_Mo_person_21 k_Mo_327 (by first | assumption | exact zS0_at (by assumption) (by omega) | exact zS0_at rfl (by omega)) (t_Mo_refuse (by assumption)) ⟨Nat.le_of_ble_eq_true rfl, Nat.le_of_ble_eq_true rfl, Nat.le_of_ble_eq_true rfl, Nat.le_of_ble_eq_true rfl⟩ (Nat.le_of_ble_eq_true rfl) ?_
        intro r w hq
        obtain ⟨rfl, rfl⟩ := hq
        refine z_reti d_Mo_person_24 ?_
        exact ⟨by first | rfl | assumption | (rw [e150]), _, _, rfl, (by repeat (first | exact h1 | refine mqF_z ?_ (by decide))), mqJ_r, (by first | exact zu_same _ _ _ _ | exact h0)⟩)
theorem t_Mo_person_b {p : Nat} (M : modOk P S) (N : modIn I nt np nl nn) (hp : p < np) (hb : ¬ zin b 5) : zEi G y_Mo_person prog_14_method_86_code 3 (some .int) 4 [.ref 145, .int (nI p), .int b] (I, J, P, S) (fun r w => r = -1 ∧ mW I J P S 5 w) := by
  obtain ⟨M0, ⟨M4, M4s⟩, ⟨M5, M5s⟩, ⟨M6, M6s⟩, ⟨M7, M7s⟩, ⟨M20, M20s⟩, ⟨M21, M21s⟩, ⟨M22, M22s⟩, ⟨M26, M26s⟩, ⟨M27, M27s⟩, ⟨M28, M28s⟩, ⟨M30, M30s⟩, ⟨M34, M34s⟩, ⟨M36, M36s⟩, ⟨M37, M37s⟩⟩ := id M
  obtain ⟨I1, hI1, N1, h1, h0, e150, er, ek⟩ := mo_beg N
  obtain ⟨⟨m0, m0b⟩, ⟨m1, m1b⟩, ⟨m2, m2b⟩, ⟨m3, m3b⟩, mof, mon⟩ := id N1
  have hD : mD I I1 := ⟨h1, h0, e150, er⟩
  refine zEi_of (lv := [some (.ref 145), some (.int (nI p)), some (.int b)]) (by decide) rfl (Nat.le_of_ble_eq_true rfl) ?_
  refine z_aload_0 d_Mo_person_0 ?_
  refine z_iconst (a := nI 0) d_Mo_person_1 (by decide) ?_
  refine z_putI d_Mo_person_2 f_Mo_70 (by first | assumption | exact zS0_at (by assumption) (by omega) | exact zS0_at rfl (by omega)) ?_
  refine z_aload_0 d_Mo_person_5 ?_
  refine z_iconst (a := nI 0) d_Mo_person_6 (by decide) ?_
  refine z_putI d_Mo_person_7 f_Mo_73 (by first | assumption | exact zS0_at (by assumption) (by omega) | exact zS0_at rfl (by omega)) ?_
  rw [← hI1]
  have hz : zin (nI p) np := ⟨p, by omega, rfl⟩
  refine z_aload_0 d_Mo_person_10 ?_
  refine z_iload_1 d_Mo_person_11 ?_
  refine z_i2l d_Mo_person_12 ?_
  refine z_Vi1 d_Mo_person_13 k_Mo_336 (by first | assumption | exact zS0_at (by assumption) (by omega) | exact zS0_at rfl (by omega)) (t_Mo_isPersonAtI M N1) ⟨Nat.le_of_ble_eq_true rfl, Nat.le_of_ble_eq_true rfl, Nat.le_of_ble_eq_true rfl, Nat.le_of_ble_eq_true rfl⟩ (Nat.le_of_ble_eq_true rfl) ?_
  intro r w hq
  rcases hq with ⟨⟨hz13, rfl⟩ | ⟨hz13, rfl⟩, rfl⟩
  · first
    | contradiction
    | ( skip
        refine z_if_ne (tgt := 25) d_Mo_person_16 (by decide) (fun _ => ?_) (fun h => absurd h (by decide))
        refine z_iload_2 d_Mo_person_25 ?_
        refine z_i2l d_Mo_person_26 ?_
        refine z_lconst (f := lN 0) d_Mo_person_27 rfl ?_
        refine z_ldc2 d_Mo_person_28 c_Mo_339 ?_
        refine z_Si3 d_Mo_person_31 k_Mo_105 (t_Mo_isInZ (m := 5) (by decide) (by decide)) ⟨Nat.le_of_ble_eq_true rfl, Nat.le_of_ble_eq_true rfl, Nat.le_of_ble_eq_true rfl, Nat.le_of_ble_eq_true rfl⟩ (Nat.le_of_ble_eq_true rfl) ?_
        intro r w hq
        rcases hq with ⟨⟨hz31, rfl⟩ | ⟨hz31, rfl⟩, rfl⟩
        · first
          | contradiction
          | ( skip
              refine z_if_ne (tgt := 43) d_Mo_person_34 (by decide) (fun _ => ?_) (fun h => absurd h (by decide))
              contradiction)
        · first
          | contradiction
          | ( skip
              refine z_if_ne (tgt := 43) d_Mo_person_34 (by decide) (fun h => absurd h (by decide)) (fun _ => ?_)
              refine z_aload_0 d_Mo_person_37 ?_
              refine z_iconst (a := nI 5) d_Mo_person_38 (by decide) ?_
              refine z_Vi1 d_Mo_person_39 k_Mo_327 (by first | assumption | exact zS0_at (by assumption) (by omega) | exact zS0_at rfl (by omega)) (t_Mo_refuse (by assumption)) ⟨Nat.le_of_ble_eq_true rfl, Nat.le_of_ble_eq_true rfl, Nat.le_of_ble_eq_true rfl, Nat.le_of_ble_eq_true rfl⟩ (Nat.le_of_ble_eq_true rfl) ?_
              intro r w hq
              obtain ⟨rfl, rfl⟩ := hq
              refine z_reti d_Mo_person_42 ?_
              exact ⟨by first | rfl | assumption | (rw [e150]), _, _, rfl, (by repeat (first | exact h1 | refine mqF_z ?_ (by decide))), mqJ_r, (by first | exact zu_same _ _ _ _ | exact h0)⟩))
  · first
    | contradiction
    | ( skip
        refine z_if_ne (tgt := 25) d_Mo_person_16 (by decide) (fun h => absurd h (by decide)) (fun _ => ?_)
        refine z_aload_0 d_Mo_person_19 ?_
        refine z_iconst (a := nI 2) d_Mo_person_20 (by decide) ?_
        refine z_Vi1 d_Mo_person_21 k_Mo_327 (by first | assumption | exact zS0_at (by assumption) (by omega) | exact zS0_at rfl (by omega)) (t_Mo_refuse (by assumption)) ⟨Nat.le_of_ble_eq_true rfl, Nat.le_of_ble_eq_true rfl, Nat.le_of_ble_eq_true rfl, Nat.le_of_ble_eq_true rfl⟩ (Nat.le_of_ble_eq_true rfl) ?_
        intro r w hq
        obtain ⟨rfl, rfl⟩ := hq
        refine z_reti d_Mo_person_24 ?_
        exact ⟨by first | rfl | assumption | (rw [e150]), _, _, rfl, (by repeat (first | exact h1 | refine mqF_z ?_ (by decide))), mqJ_r, (by first | exact zu_same _ _ _ _ | exact h0)⟩)
theorem t_Mo_person_0 {p : Nat} (M : modOk P S) (N : modIn I nt np nl nn) (hp : p < np) : zEi G y_Mo_person prog_14_method_86_code 3 (some .int) 4 [.ref 145, .int (nI p), .int (nI 0)] (I, J, P, S) (fun r w => r = I 150 (12 + p) ∧ mW I J P S 0 w) := by
  obtain ⟨M0, ⟨M4, M4s⟩, ⟨M5, M5s⟩, ⟨M6, M6s⟩, ⟨M7, M7s⟩, ⟨M20, M20s⟩, ⟨M21, M21s⟩, ⟨M22, M22s⟩, ⟨M26, M26s⟩, ⟨M27, M27s⟩, ⟨M28, M28s⟩, ⟨M30, M30s⟩, ⟨M34, M34s⟩, ⟨M36, M36s⟩, ⟨M37, M37s⟩⟩ := id M
  obtain ⟨I1, hI1, N1, h1, h0, e150, er, ek⟩ := mo_beg N
  obtain ⟨⟨m0, m0b⟩, ⟨m1, m1b⟩, ⟨m2, m2b⟩, ⟨m3, m3b⟩, mof, mon⟩ := id N1
  have hD : mD I I1 := ⟨h1, h0, e150, er⟩
  refine zEi_of (lv := [some (.ref 145), some (.int (nI p)), some (.int (nI 0))]) (by decide) rfl (Nat.le_of_ble_eq_true rfl) ?_
  refine z_aload_0 d_Mo_person_0 ?_
  refine z_iconst (a := nI 0) d_Mo_person_1 (by decide) ?_
  refine z_putI d_Mo_person_2 f_Mo_70 (by first | assumption | exact zS0_at (by assumption) (by omega) | exact zS0_at rfl (by omega)) ?_
  refine z_aload_0 d_Mo_person_5 ?_
  refine z_iconst (a := nI 0) d_Mo_person_6 (by decide) ?_
  refine z_putI d_Mo_person_7 f_Mo_73 (by first | assumption | exact zS0_at (by assumption) (by omega) | exact zS0_at rfl (by omega)) ?_
  rw [← hI1]
  have hz : zin (nI p) np := ⟨p, by omega, rfl⟩
  have hzb : zin (nI 0) 5 := ⟨0, by decide, rfl⟩
  have hr : I1 150 (12 + p) = I 150 (12 + p) := by rw [e150]
  refine z_aload_0 d_Mo_person_10 ?_
  refine z_iload_1 d_Mo_person_11 ?_
  refine z_i2l d_Mo_person_12 ?_
  refine z_Vi1 d_Mo_person_13 k_Mo_336 (by first | assumption | exact zS0_at (by assumption) (by omega) | exact zS0_at rfl (by omega)) (t_Mo_isPersonAtI M N1) ⟨Nat.le_of_ble_eq_true rfl, Nat.le_of_ble_eq_true rfl, Nat.le_of_ble_eq_true rfl, Nat.le_of_ble_eq_true rfl⟩ (Nat.le_of_ble_eq_true rfl) ?_
  intro r w hq
  rcases hq with ⟨⟨hz13, rfl⟩ | ⟨hz13, rfl⟩, rfl⟩
  · first
    | contradiction
    | ( skip
        refine z_if_ne (tgt := 25) d_Mo_person_16 (by decide) (fun _ => ?_) (fun h => absurd h (by decide))
        refine z_iload_2 d_Mo_person_25 ?_
        refine z_i2l d_Mo_person_26 ?_
        refine z_lconst (f := lN 0) d_Mo_person_27 rfl ?_
        refine z_ldc2 d_Mo_person_28 c_Mo_339 ?_
        refine z_Si3 d_Mo_person_31 k_Mo_105 (t_Mo_isInZ (m := 5) (by decide) (by decide)) ⟨Nat.le_of_ble_eq_true rfl, Nat.le_of_ble_eq_true rfl, Nat.le_of_ble_eq_true rfl, Nat.le_of_ble_eq_true rfl⟩ (Nat.le_of_ble_eq_true rfl) ?_
        intro r w hq
        rcases hq with ⟨⟨hz31, rfl⟩ | ⟨hz31, rfl⟩, rfl⟩
        · first
          | contradiction
          | ( skip
              refine z_if_ne (tgt := 43) d_Mo_person_34 (by decide) (fun _ => ?_) (fun h => absurd h (by decide))
              refine z_iload_2 d_Mo_person_43 ?_
              refine z_iconst (a := nI 2) d_Mo_person_44 (by decide) ?_
              refine z_icmp_ne (tgt := 54) d_Mo_person_45 (by decide) (fun h45 => ?_) (fun h45 => ?_)
              · first
                | (simp (disch := omega) only [← nI_0, nI_leI, nI_ltI, nI_eq, not_true_eq_false, not_false_eq_true] at h45; done)
                | (simp (disch := omega) only [← nI_0, nI_leI, nI_ltI, nI_eq, not_true_eq_false, not_false_eq_true] at h45; omega)
                | contradiction
                | exact absurd h45 (Int32.not_lt.mpr (by assumption))
                | exact absurd h45 (Int32.not_le.mpr (by assumption))
                | exact absurd h45 (by decide)
                | exact absurd (by decide) h45
                | ( try simp (disch := omega) only [← nI_0, nI_leI, nI_ltI, nI_eq, not_true_eq_false, not_false_eq_true] at h45
                    (try have h45b := zbit_n0.mp h45); (try have h45b := zbit_p0.mp h45)
                    refine z_iload_2 d_Mo_person_54 ?_
                    refine z_iconst (a := nI 4) d_Mo_person_55 (by decide) ?_
                    refine z_icmp_ne (tgt := 69) d_Mo_person_56 (by decide) (fun h56 => ?_) (fun h56 => ?_)
                    · first
                      | (simp (disch := omega) only [← nI_0, nI_leI, nI_ltI, nI_eq, not_true_eq_false, not_false_eq_true] at h56; done)
                      | (simp (disch := omega) only [← nI_0, nI_leI, nI_ltI, nI_eq, not_true_eq_false, not_false_eq_true] at h56; omega)
                      | contradiction
                      | exact absurd h56 (Int32.not_lt.mpr (by assumption))
                      | exact absurd h56 (Int32.not_le.mpr (by assumption))
                      | exact absurd h56 (by decide)
                      | exact absurd (by decide) h56
                      | ( try simp (disch := omega) only [← nI_0, nI_leI, nI_ltI, nI_eq, not_true_eq_false, not_false_eq_true] at h56
                          (try have h56b := zbit_n0.mp h56); (try have h56b := zbit_p0.mp h56)
                          refine z_aload_0 d_Mo_person_69 ?_
                          refine z_getR d_Mo_person_70 f_Mo_35 (by first | assumption | exact zS0_at (by assumption) (by omega) | exact zS0_at rfl (by omega)) (by first | assumption | exact zS0_at (by assumption) (by omega) | exact zS0_at rfl (by omega)) ?_
                          refine z_iload_2 d_Mo_person_73 ?_
                          refine z_if_ne (tgt := 82) d_Mo_person_74 (by decide) (fun h74 => ?_) (fun h74 => ?_)
                          · first
                            | (simp (disch := omega) only [← nI_0, nI_leI, nI_ltI, nI_eq, not_true_eq_false, not_false_eq_true] at h74; done)
                            | (simp (disch := omega) only [← nI_0, nI_leI, nI_ltI, nI_eq, not_true_eq_false, not_false_eq_true] at h74; omega)
                            | contradiction
                            | exact absurd h74 (Int32.not_lt.mpr (by assumption))
                            | exact absurd h74 (Int32.not_le.mpr (by assumption))
                            | exact absurd h74 (by decide)
                            | exact absurd (by decide) h74
                            | ( try simp (disch := omega) only [← nI_0, nI_leI, nI_ltI, nI_eq, not_true_eq_false, not_false_eq_true] at h74
                                (try have h74b := zbit_n0.mp h74); (try have h74b := zbit_p0.mp h74)
                                refine z_iload_2 d_Mo_person_82 ?_
                                refine z_iconst (a := nI 1) d_Mo_person_83 (by decide) ?_
                                refine z_icmp_ne (tgt := 92) d_Mo_person_84 (by decide) (fun h84 => ?_) (fun h84 => ?_)
                                · first
                                  | (simp (disch := omega) only [← nI_0, nI_leI, nI_ltI, nI_eq, not_true_eq_false, not_false_eq_true] at h84; done)
                                  | (simp (disch := omega) only [← nI_0, nI_leI, nI_ltI, nI_eq, not_true_eq_false, not_false_eq_true] at h84; omega)
                                  | contradiction
                                  | exact absurd h84 (Int32.not_lt.mpr (by assumption))
                                  | exact absurd h84 (Int32.not_le.mpr (by assumption))
                                  | exact absurd h84 (by decide)
                                  | exact absurd (by decide) h84
                                  | ( try simp (disch := omega) only [← nI_0, nI_leI, nI_ltI, nI_eq, not_true_eq_false, not_false_eq_true] at h84
                                      (try have h84b := zbit_n0.mp h84); (try have h84b := zbit_p0.mp h84)
                                      refine z_bipush (a := nI 26) d_Mo_person_92 (by decide) ?_
                                      refine z_iload_1 d_Mo_person_94 ?_
                                      first | refine z_iaddN d_Mo_person_95 ?_ | refine z_iadd d_Mo_person_95 ?_
                                      first | refine z_ialdNv d_Mo_person_96 (by first | assumption | exact zS0_at (by assumption) (by omega) | exact zS0_at rfl (by omega)) (by omega) (by first | decide | omega) (by first | assumption | ((try simp (disch := omega) only [zu_same, zu_ne, zcp_ne, zfl_ne]); first | assumption | rfl)) ?_ | refine z_iald d_Mo_person_96 (by first | assumption | exact zS0_at (by assumption) (by omega) | exact zS0_at rfl (by omega)) (by first | assumption | exact zS0_at (by assumption) (by omega) | exact zS0_at rfl (by omega)) ?_
                                      refine z_reti d_Mo_person_97 ?_
                                      exact ⟨by first | rfl | assumption | (rw [e150]), _, _, rfl, (by repeat (first | exact h1 | refine mqF_z ?_ (by decide))), mqJ_r, (by first | exact zu_same _ _ _ _ | exact h0)⟩)
                                · first
                                  | (simp (disch := omega) only [← nI_0, nI_leI, nI_ltI, nI_eq, not_true_eq_false, not_false_eq_true] at h84; done)
                                  | (simp (disch := omega) only [← nI_0, nI_leI, nI_ltI, nI_eq, not_true_eq_false, not_false_eq_true] at h84; omega)
                                  | contradiction
                                  | exact absurd h84 (Int32.not_lt.mpr (by assumption))
                                  | exact absurd h84 (Int32.not_le.mpr (by assumption))
                                  | exact absurd h84 (by decide)
                                  | exact absurd (by decide) h84
                                  | ( try simp (disch := omega) only [← nI_0, nI_leI, nI_ltI, nI_eq, not_true_eq_false, not_false_eq_true] at h84
                                      (try have h84b := zbit_n0.mp h84); (try have h84b := zbit_p0.mp h84)
                                      refine z_bipush (a := nI 19) d_Mo_person_87 (by decide) ?_
                                      refine z_goto (tgt := 94) d_Mo_person_89 (by decide) ?_
                                      refine z_iload_1 d_Mo_person_94 ?_
                                      first | refine z_iaddN d_Mo_person_95 ?_ | refine z_iadd d_Mo_person_95 ?_
                                      first | refine z_ialdNv d_Mo_person_96 (by first | assumption | exact zS0_at (by assumption) (by omega) | exact zS0_at rfl (by omega)) (by omega) (by first | decide | omega) (by first | assumption | ((try simp (disch := omega) only [zu_same, zu_ne, zcp_ne, zfl_ne]); first | assumption | rfl)) ?_ | refine z_iald d_Mo_person_96 (by first | assumption | exact zS0_at (by assumption) (by omega) | exact zS0_at rfl (by omega)) (by first | assumption | exact zS0_at (by assumption) (by omega) | exact zS0_at rfl (by omega)) ?_
                                      refine z_reti d_Mo_person_97 ?_
                                      exact ⟨by first | rfl | assumption | (rw [e150]), _, _, rfl, (by repeat (first | exact h1 | refine mqF_z ?_ (by decide))), mqJ_r, (by first | exact zu_same _ _ _ _ | exact h0)⟩))
                          · first
                            | (simp (disch := omega) only [← nI_0, nI_leI, nI_ltI, nI_eq, not_true_eq_false, not_false_eq_true] at h74; done)
                            | (simp (disch := omega) only [← nI_0, nI_leI, nI_ltI, nI_eq, not_true_eq_false, not_false_eq_true] at h74; omega)
                            | contradiction
                            | exact absurd h74 (Int32.not_lt.mpr (by assumption))
                            | exact absurd h74 (Int32.not_le.mpr (by assumption))
                            | exact absurd h74 (by decide)
                            | exact absurd (by decide) h74
                            | ( try simp (disch := omega) only [← nI_0, nI_leI, nI_ltI, nI_eq, not_true_eq_false, not_false_eq_true] at h74
                                (try have h74b := zbit_n0.mp h74); (try have h74b := zbit_p0.mp h74)
                                refine z_bipush (a := nI 12) d_Mo_person_77 (by decide) ?_
                                refine z_goto (tgt := 94) d_Mo_person_79 (by decide) ?_
                                refine z_iload_1 d_Mo_person_94 ?_
                                first | refine z_iaddN d_Mo_person_95 ?_ | refine z_iadd d_Mo_person_95 ?_
                                first | refine z_ialdNv d_Mo_person_96 (by first | assumption | exact zS0_at (by assumption) (by omega) | exact zS0_at rfl (by omega)) (by omega) (by first | decide | omega) (by first | assumption | ((try simp (disch := omega) only [zu_same, zu_ne, zcp_ne, zfl_ne]); first | assumption | rfl)) ?_ | refine z_iald d_Mo_person_96 (by first | assumption | exact zS0_at (by assumption) (by omega) | exact zS0_at rfl (by omega)) (by first | assumption | exact zS0_at (by assumption) (by omega) | exact zS0_at rfl (by omega)) ?_
                                refine z_reti d_Mo_person_97 ?_
                                exact ⟨by first | rfl | assumption | (rw [e150]), _, _, rfl, (by repeat (first | exact h1 | refine mqF_z ?_ (by decide))), mqJ_r, (by first | exact zu_same _ _ _ _ | exact h0)⟩))
                    · first
                      | (simp (disch := omega) only [← nI_0, nI_leI, nI_ltI, nI_eq, not_true_eq_false, not_false_eq_true] at h56; done)
                      | (simp (disch := omega) only [← nI_0, nI_leI, nI_ltI, nI_eq, not_true_eq_false, not_false_eq_true] at h56; omega)
                      | contradiction
                      | exact absurd h56 (Int32.not_lt.mpr (by assumption))
                      | exact absurd h56 (Int32.not_le.mpr (by assumption))
                      | exact absurd h56 (by decide)
                      | exact absurd (by decide) h56
                      | ( try simp (disch := omega) only [← nI_0, nI_leI, nI_ltI, nI_eq, not_true_eq_false, not_false_eq_true] at h56
                          (try have h56b := zbit_n0.mp h56); (try have h56b := zbit_p0.mp h56)
                          refine z_aload_0 d_Mo_person_59 ?_
                          refine z_aload_0 d_Mo_person_60 ?_
                          refine z_iload_1 d_Mo_person_61 ?_
                          refine z_Vi1 d_Mo_person_62 k_Mo_341 (by first | assumption | exact zS0_at (by assumption) (by omega) | exact zS0_at rfl (by omega)) (t_Mo_tinsOn M N1) ⟨Nat.le_of_ble_eq_true rfl, Nat.le_of_ble_eq_true rfl, Nat.le_of_ble_eq_true rfl, Nat.le_of_ble_eq_true rfl⟩ (Nat.le_of_ble_eq_true rfl) ?_
                          intro r w hq
                          obtain ⟨rfl, rfl⟩ := hq
                          refine z_Vi1 d_Mo_person_65 k_Mo_322 (by first | assumption | exact zS0_at (by assumption) (by omega) | exact zS0_at rfl (by omega)) (t_Mo_worthAll M N1) ⟨Nat.le_of_ble_eq_true rfl, Nat.le_of_ble_eq_true rfl, Nat.le_of_ble_eq_true rfl, Nat.le_of_ble_eq_true rfl⟩ (Nat.le_of_ble_eq_true rfl) ?_
                          intro r w hq
                          obtain ⟨rfl, rfl⟩ := hq
                          refine z_reti d_Mo_person_68 ?_
                          exact ⟨by first | rfl | assumption | (rw [e150]), _, _, rfl, (by repeat (first | exact h1 | refine mqF_z ?_ (by decide))), mqJ_r, (by first | exact zu_same _ _ _ _ | exact h0)⟩))
              · first
                | (simp (disch := omega) only [← nI_0, nI_leI, nI_ltI, nI_eq, not_true_eq_false, not_false_eq_true] at h45; done)
                | (simp (disch := omega) only [← nI_0, nI_leI, nI_ltI, nI_eq, not_true_eq_false, not_false_eq_true] at h45; omega)
                | contradiction
                | exact absurd h45 (Int32.not_lt.mpr (by assumption))
                | exact absurd h45 (Int32.not_le.mpr (by assumption))
                | exact absurd h45 (by decide)
                | exact absurd (by decide) h45
                | ( try simp (disch := omega) only [← nI_0, nI_leI, nI_ltI, nI_eq, not_true_eq_false, not_false_eq_true] at h45
                    (try have h45b := zbit_n0.mp h45); (try have h45b := zbit_p0.mp h45)
                    refine z_aload_0 d_Mo_person_48 ?_
                    refine z_iload_1 d_Mo_person_49 ?_
                    refine z_Vi1 d_Mo_person_50 k_Mo_341 (by first | assumption | exact zS0_at (by assumption) (by omega) | exact zS0_at rfl (by omega)) (t_Mo_tinsOn M N1) ⟨Nat.le_of_ble_eq_true rfl, Nat.le_of_ble_eq_true rfl, Nat.le_of_ble_eq_true rfl, Nat.le_of_ble_eq_true rfl⟩ (Nat.le_of_ble_eq_true rfl) ?_
                    intro r w hq
                    obtain ⟨rfl, rfl⟩ := hq
                    refine z_reti d_Mo_person_53 ?_
                    exact ⟨by first | rfl | assumption | (rw [e150]), _, _, rfl, (by repeat (first | exact h1 | refine mqF_z ?_ (by decide))), mqJ_r, (by first | exact zu_same _ _ _ _ | exact h0)⟩))
        · first
          | contradiction
          | ( skip
              refine z_if_ne (tgt := 43) d_Mo_person_34 (by decide) (fun h => absurd h (by decide)) (fun _ => ?_)
              refine z_aload_0 d_Mo_person_37 ?_
              refine z_iconst (a := nI 5) d_Mo_person_38 (by decide) ?_
              refine z_Vi1 d_Mo_person_39 k_Mo_327 (by first | assumption | exact zS0_at (by assumption) (by omega) | exact zS0_at rfl (by omega)) (t_Mo_refuse (by assumption)) ⟨Nat.le_of_ble_eq_true rfl, Nat.le_of_ble_eq_true rfl, Nat.le_of_ble_eq_true rfl, Nat.le_of_ble_eq_true rfl⟩ (Nat.le_of_ble_eq_true rfl) ?_
              intro r w hq
              obtain ⟨rfl, rfl⟩ := hq
              refine z_reti d_Mo_person_42 ?_
              exact ⟨by first | rfl | assumption | (rw [e150]), _, _, rfl, (by repeat (first | exact h1 | refine mqF_z ?_ (by decide))), mqJ_r, (by first | exact zu_same _ _ _ _ | exact h0)⟩))
  · first
    | contradiction
    | ( skip
        refine z_if_ne (tgt := 25) d_Mo_person_16 (by decide) (fun h => absurd h (by decide)) (fun _ => ?_)
        refine z_aload_0 d_Mo_person_19 ?_
        refine z_iconst (a := nI 2) d_Mo_person_20 (by decide) ?_
        refine z_Vi1 d_Mo_person_21 k_Mo_327 (by first | assumption | exact zS0_at (by assumption) (by omega) | exact zS0_at rfl (by omega)) (t_Mo_refuse (by assumption)) ⟨Nat.le_of_ble_eq_true rfl, Nat.le_of_ble_eq_true rfl, Nat.le_of_ble_eq_true rfl, Nat.le_of_ble_eq_true rfl⟩ (Nat.le_of_ble_eq_true rfl) ?_
        intro r w hq
        obtain ⟨rfl, rfl⟩ := hq
        refine z_reti d_Mo_person_24 ?_
        exact ⟨by first | rfl | assumption | (rw [e150]), _, _, rfl, (by repeat (first | exact h1 | refine mqF_z ?_ (by decide))), mqJ_r, (by first | exact zu_same _ _ _ _ | exact h0)⟩)
theorem t_Mo_person_1 {p : Nat} (M : modOk P S) (N : modIn I nt np nl nn) (hp : p < np) : zEi G y_Mo_person prog_14_method_86_code 3 (some .int) 4 [.ref 145, .int (nI p), .int (nI 1)] (I, J, P, S) (fun r w => r = I 150 (19 + p) ∧ mW I J P S 0 w) := by
  obtain ⟨M0, ⟨M4, M4s⟩, ⟨M5, M5s⟩, ⟨M6, M6s⟩, ⟨M7, M7s⟩, ⟨M20, M20s⟩, ⟨M21, M21s⟩, ⟨M22, M22s⟩, ⟨M26, M26s⟩, ⟨M27, M27s⟩, ⟨M28, M28s⟩, ⟨M30, M30s⟩, ⟨M34, M34s⟩, ⟨M36, M36s⟩, ⟨M37, M37s⟩⟩ := id M
  obtain ⟨I1, hI1, N1, h1, h0, e150, er, ek⟩ := mo_beg N
  obtain ⟨⟨m0, m0b⟩, ⟨m1, m1b⟩, ⟨m2, m2b⟩, ⟨m3, m3b⟩, mof, mon⟩ := id N1
  have hD : mD I I1 := ⟨h1, h0, e150, er⟩
  refine zEi_of (lv := [some (.ref 145), some (.int (nI p)), some (.int (nI 1))]) (by decide) rfl (Nat.le_of_ble_eq_true rfl) ?_
  refine z_aload_0 d_Mo_person_0 ?_
  refine z_iconst (a := nI 0) d_Mo_person_1 (by decide) ?_
  refine z_putI d_Mo_person_2 f_Mo_70 (by first | assumption | exact zS0_at (by assumption) (by omega) | exact zS0_at rfl (by omega)) ?_
  refine z_aload_0 d_Mo_person_5 ?_
  refine z_iconst (a := nI 0) d_Mo_person_6 (by decide) ?_
  refine z_putI d_Mo_person_7 f_Mo_73 (by first | assumption | exact zS0_at (by assumption) (by omega) | exact zS0_at rfl (by omega)) ?_
  rw [← hI1]
  have hz : zin (nI p) np := ⟨p, by omega, rfl⟩
  have hzb : zin (nI 1) 5 := ⟨1, by decide, rfl⟩
  have hr : I1 150 (19 + p) = I 150 (19 + p) := by rw [e150]
  refine z_aload_0 d_Mo_person_10 ?_
  refine z_iload_1 d_Mo_person_11 ?_
  refine z_i2l d_Mo_person_12 ?_
  refine z_Vi1 d_Mo_person_13 k_Mo_336 (by first | assumption | exact zS0_at (by assumption) (by omega) | exact zS0_at rfl (by omega)) (t_Mo_isPersonAtI M N1) ⟨Nat.le_of_ble_eq_true rfl, Nat.le_of_ble_eq_true rfl, Nat.le_of_ble_eq_true rfl, Nat.le_of_ble_eq_true rfl⟩ (Nat.le_of_ble_eq_true rfl) ?_
  intro r w hq
  rcases hq with ⟨⟨hz13, rfl⟩ | ⟨hz13, rfl⟩, rfl⟩
  · first
    | contradiction
    | ( skip
        refine z_if_ne (tgt := 25) d_Mo_person_16 (by decide) (fun _ => ?_) (fun h => absurd h (by decide))
        refine z_iload_2 d_Mo_person_25 ?_
        refine z_i2l d_Mo_person_26 ?_
        refine z_lconst (f := lN 0) d_Mo_person_27 rfl ?_
        refine z_ldc2 d_Mo_person_28 c_Mo_339 ?_
        refine z_Si3 d_Mo_person_31 k_Mo_105 (t_Mo_isInZ (m := 5) (by decide) (by decide)) ⟨Nat.le_of_ble_eq_true rfl, Nat.le_of_ble_eq_true rfl, Nat.le_of_ble_eq_true rfl, Nat.le_of_ble_eq_true rfl⟩ (Nat.le_of_ble_eq_true rfl) ?_
        intro r w hq
        rcases hq with ⟨⟨hz31, rfl⟩ | ⟨hz31, rfl⟩, rfl⟩
        · first
          | contradiction
          | ( skip
              refine z_if_ne (tgt := 43) d_Mo_person_34 (by decide) (fun _ => ?_) (fun h => absurd h (by decide))
              refine z_iload_2 d_Mo_person_43 ?_
              refine z_iconst (a := nI 2) d_Mo_person_44 (by decide) ?_
              refine z_icmp_ne (tgt := 54) d_Mo_person_45 (by decide) (fun h45 => ?_) (fun h45 => ?_)
              · first
                | (simp (disch := omega) only [← nI_0, nI_leI, nI_ltI, nI_eq, not_true_eq_false, not_false_eq_true] at h45; done)
                | (simp (disch := omega) only [← nI_0, nI_leI, nI_ltI, nI_eq, not_true_eq_false, not_false_eq_true] at h45; omega)
                | contradiction
                | exact absurd h45 (Int32.not_lt.mpr (by assumption))
                | exact absurd h45 (Int32.not_le.mpr (by assumption))
                | exact absurd h45 (by decide)
                | exact absurd (by decide) h45
                | ( try simp (disch := omega) only [← nI_0, nI_leI, nI_ltI, nI_eq, not_true_eq_false, not_false_eq_true] at h45
                    (try have h45b := zbit_n0.mp h45); (try have h45b := zbit_p0.mp h45)
                    refine z_iload_2 d_Mo_person_54 ?_
                    refine z_iconst (a := nI 4) d_Mo_person_55 (by decide) ?_
                    refine z_icmp_ne (tgt := 69) d_Mo_person_56 (by decide) (fun h56 => ?_) (fun h56 => ?_)
                    · first
                      | (simp (disch := omega) only [← nI_0, nI_leI, nI_ltI, nI_eq, not_true_eq_false, not_false_eq_true] at h56; done)
                      | (simp (disch := omega) only [← nI_0, nI_leI, nI_ltI, nI_eq, not_true_eq_false, not_false_eq_true] at h56; omega)
                      | contradiction
                      | exact absurd h56 (Int32.not_lt.mpr (by assumption))
                      | exact absurd h56 (Int32.not_le.mpr (by assumption))
                      | exact absurd h56 (by decide)
                      | exact absurd (by decide) h56
                      | ( try simp (disch := omega) only [← nI_0, nI_leI, nI_ltI, nI_eq, not_true_eq_false, not_false_eq_true] at h56
                          (try have h56b := zbit_n0.mp h56); (try have h56b := zbit_p0.mp h56)
                          refine z_aload_0 d_Mo_person_69 ?_
                          refine z_getR d_Mo_person_70 f_Mo_35 (by first | assumption | exact zS0_at (by assumption) (by omega) | exact zS0_at rfl (by omega)) (by first | assumption | exact zS0_at (by assumption) (by omega) | exact zS0_at rfl (by omega)) ?_
                          refine z_iload_2 d_Mo_person_73 ?_
                          refine z_if_ne (tgt := 82) d_Mo_person_74 (by decide) (fun h74 => ?_) (fun h74 => ?_)
                          · first
                            | (simp (disch := omega) only [← nI_0, nI_leI, nI_ltI, nI_eq, not_true_eq_false, not_false_eq_true] at h74; done)
                            | (simp (disch := omega) only [← nI_0, nI_leI, nI_ltI, nI_eq, not_true_eq_false, not_false_eq_true] at h74; omega)
                            | contradiction
                            | exact absurd h74 (Int32.not_lt.mpr (by assumption))
                            | exact absurd h74 (Int32.not_le.mpr (by assumption))
                            | exact absurd h74 (by decide)
                            | exact absurd (by decide) h74
                            | ( try simp (disch := omega) only [← nI_0, nI_leI, nI_ltI, nI_eq, not_true_eq_false, not_false_eq_true] at h74
                                (try have h74b := zbit_n0.mp h74); (try have h74b := zbit_p0.mp h74)
                                refine z_iload_2 d_Mo_person_82 ?_
                                refine z_iconst (a := nI 1) d_Mo_person_83 (by decide) ?_
                                refine z_icmp_ne (tgt := 92) d_Mo_person_84 (by decide) (fun h84 => ?_) (fun h84 => ?_)
                                · first
                                  | (simp (disch := omega) only [← nI_0, nI_leI, nI_ltI, nI_eq, not_true_eq_false, not_false_eq_true] at h84; done)
                                  | (simp (disch := omega) only [← nI_0, nI_leI, nI_ltI, nI_eq, not_true_eq_false, not_false_eq_true] at h84; omega)
                                  | contradiction
                                  | exact absurd h84 (Int32.not_lt.mpr (by assumption))
                                  | exact absurd h84 (Int32.not_le.mpr (by assumption))
                                  | exact absurd h84 (by decide)
                                  | exact absurd (by decide) h84
                                  | ( try simp (disch := omega) only [← nI_0, nI_leI, nI_ltI, nI_eq, not_true_eq_false, not_false_eq_true] at h84
                                      (try have h84b := zbit_n0.mp h84); (try have h84b := zbit_p0.mp h84)
                                      refine z_bipush (a := nI 26) d_Mo_person_92 (by decide) ?_
                                      refine z_iload_1 d_Mo_person_94 ?_
                                      first | refine z_iaddN d_Mo_person_95 ?_ | refine z_iadd d_Mo_person_95 ?_
                                      first | refine z_ialdNv d_Mo_person_96 (by first | assumption | exact zS0_at (by assumption) (by omega) | exact zS0_at rfl (by omega)) (by omega) (by first | decide | omega) (by first | assumption | ((try simp (disch := omega) only [zu_same, zu_ne, zcp_ne, zfl_ne]); first | assumption | rfl)) ?_ | refine z_iald d_Mo_person_96 (by first | assumption | exact zS0_at (by assumption) (by omega) | exact zS0_at rfl (by omega)) (by first | assumption | exact zS0_at (by assumption) (by omega) | exact zS0_at rfl (by omega)) ?_
                                      refine z_reti d_Mo_person_97 ?_
                                      exact ⟨by first | rfl | assumption | (rw [e150]), _, _, rfl, (by repeat (first | exact h1 | refine mqF_z ?_ (by decide))), mqJ_r, (by first | exact zu_same _ _ _ _ | exact h0)⟩)
                                · first
                                  | (simp (disch := omega) only [← nI_0, nI_leI, nI_ltI, nI_eq, not_true_eq_false, not_false_eq_true] at h84; done)
                                  | (simp (disch := omega) only [← nI_0, nI_leI, nI_ltI, nI_eq, not_true_eq_false, not_false_eq_true] at h84; omega)
                                  | contradiction
                                  | exact absurd h84 (Int32.not_lt.mpr (by assumption))
                                  | exact absurd h84 (Int32.not_le.mpr (by assumption))
                                  | exact absurd h84 (by decide)
                                  | exact absurd (by decide) h84
                                  | ( try simp (disch := omega) only [← nI_0, nI_leI, nI_ltI, nI_eq, not_true_eq_false, not_false_eq_true] at h84
                                      (try have h84b := zbit_n0.mp h84); (try have h84b := zbit_p0.mp h84)
                                      refine z_bipush (a := nI 19) d_Mo_person_87 (by decide) ?_
                                      refine z_goto (tgt := 94) d_Mo_person_89 (by decide) ?_
                                      refine z_iload_1 d_Mo_person_94 ?_
                                      first | refine z_iaddN d_Mo_person_95 ?_ | refine z_iadd d_Mo_person_95 ?_
                                      first | refine z_ialdNv d_Mo_person_96 (by first | assumption | exact zS0_at (by assumption) (by omega) | exact zS0_at rfl (by omega)) (by omega) (by first | decide | omega) (by first | assumption | ((try simp (disch := omega) only [zu_same, zu_ne, zcp_ne, zfl_ne]); first | assumption | rfl)) ?_ | refine z_iald d_Mo_person_96 (by first | assumption | exact zS0_at (by assumption) (by omega) | exact zS0_at rfl (by omega)) (by first | assumption | exact zS0_at (by assumption) (by omega) | exact zS0_at rfl (by omega)) ?_
                                      refine z_reti d_Mo_person_97 ?_
                                      exact ⟨by first | rfl | assumption | (rw [e150]), _, _, rfl, (by repeat (first | exact h1 | refine mqF_z ?_ (by decide))), mqJ_r, (by first | exact zu_same _ _ _ _ | exact h0)⟩))
                          · first
                            | (simp (disch := omega) only [← nI_0, nI_leI, nI_ltI, nI_eq, not_true_eq_false, not_false_eq_true] at h74; done)
                            | (simp (disch := omega) only [← nI_0, nI_leI, nI_ltI, nI_eq, not_true_eq_false, not_false_eq_true] at h74; omega)
                            | contradiction
                            | exact absurd h74 (Int32.not_lt.mpr (by assumption))
                            | exact absurd h74 (Int32.not_le.mpr (by assumption))
                            | exact absurd h74 (by decide)
                            | exact absurd (by decide) h74
                            | ( try simp (disch := omega) only [← nI_0, nI_leI, nI_ltI, nI_eq, not_true_eq_false, not_false_eq_true] at h74
                                (try have h74b := zbit_n0.mp h74); (try have h74b := zbit_p0.mp h74)
                                refine z_bipush (a := nI 12) d_Mo_person_77 (by decide) ?_
                                refine z_goto (tgt := 94) d_Mo_person_79 (by decide) ?_
                                refine z_iload_1 d_Mo_person_94 ?_
                                first | refine z_iaddN d_Mo_person_95 ?_ | refine z_iadd d_Mo_person_95 ?_
                                first | refine z_ialdNv d_Mo_person_96 (by first | assumption | exact zS0_at (by assumption) (by omega) | exact zS0_at rfl (by omega)) (by omega) (by first | decide | omega) (by first | assumption | ((try simp (disch := omega) only [zu_same, zu_ne, zcp_ne, zfl_ne]); first | assumption | rfl)) ?_ | refine z_iald d_Mo_person_96 (by first | assumption | exact zS0_at (by assumption) (by omega) | exact zS0_at rfl (by omega)) (by first | assumption | exact zS0_at (by assumption) (by omega) | exact zS0_at rfl (by omega)) ?_
                                refine z_reti d_Mo_person_97 ?_
                                exact ⟨by first | rfl | assumption | (rw [e150]), _, _, rfl, (by repeat (first | exact h1 | refine mqF_z ?_ (by decide))), mqJ_r, (by first | exact zu_same _ _ _ _ | exact h0)⟩))
                    · first
                      | (simp (disch := omega) only [← nI_0, nI_leI, nI_ltI, nI_eq, not_true_eq_false, not_false_eq_true] at h56; done)
                      | (simp (disch := omega) only [← nI_0, nI_leI, nI_ltI, nI_eq, not_true_eq_false, not_false_eq_true] at h56; omega)
                      | contradiction
                      | exact absurd h56 (Int32.not_lt.mpr (by assumption))
                      | exact absurd h56 (Int32.not_le.mpr (by assumption))
                      | exact absurd h56 (by decide)
                      | exact absurd (by decide) h56
                      | ( try simp (disch := omega) only [← nI_0, nI_leI, nI_ltI, nI_eq, not_true_eq_false, not_false_eq_true] at h56
                          (try have h56b := zbit_n0.mp h56); (try have h56b := zbit_p0.mp h56)
                          refine z_aload_0 d_Mo_person_59 ?_
                          refine z_aload_0 d_Mo_person_60 ?_
                          refine z_iload_1 d_Mo_person_61 ?_
                          refine z_Vi1 d_Mo_person_62 k_Mo_341 (by first | assumption | exact zS0_at (by assumption) (by omega) | exact zS0_at rfl (by omega)) (t_Mo_tinsOn M N1) ⟨Nat.le_of_ble_eq_true rfl, Nat.le_of_ble_eq_true rfl, Nat.le_of_ble_eq_true rfl, Nat.le_of_ble_eq_true rfl⟩ (Nat.le_of_ble_eq_true rfl) ?_
                          intro r w hq
                          obtain ⟨rfl, rfl⟩ := hq
                          refine z_Vi1 d_Mo_person_65 k_Mo_322 (by first | assumption | exact zS0_at (by assumption) (by omega) | exact zS0_at rfl (by omega)) (t_Mo_worthAll M N1) ⟨Nat.le_of_ble_eq_true rfl, Nat.le_of_ble_eq_true rfl, Nat.le_of_ble_eq_true rfl, Nat.le_of_ble_eq_true rfl⟩ (Nat.le_of_ble_eq_true rfl) ?_
                          intro r w hq
                          obtain ⟨rfl, rfl⟩ := hq
                          refine z_reti d_Mo_person_68 ?_
                          exact ⟨by first | rfl | assumption | (rw [e150]), _, _, rfl, (by repeat (first | exact h1 | refine mqF_z ?_ (by decide))), mqJ_r, (by first | exact zu_same _ _ _ _ | exact h0)⟩))
              · first
                | (simp (disch := omega) only [← nI_0, nI_leI, nI_ltI, nI_eq, not_true_eq_false, not_false_eq_true] at h45; done)
                | (simp (disch := omega) only [← nI_0, nI_leI, nI_ltI, nI_eq, not_true_eq_false, not_false_eq_true] at h45; omega)
                | contradiction
                | exact absurd h45 (Int32.not_lt.mpr (by assumption))
                | exact absurd h45 (Int32.not_le.mpr (by assumption))
                | exact absurd h45 (by decide)
                | exact absurd (by decide) h45
                | ( try simp (disch := omega) only [← nI_0, nI_leI, nI_ltI, nI_eq, not_true_eq_false, not_false_eq_true] at h45
                    (try have h45b := zbit_n0.mp h45); (try have h45b := zbit_p0.mp h45)
                    refine z_aload_0 d_Mo_person_48 ?_
                    refine z_iload_1 d_Mo_person_49 ?_
                    refine z_Vi1 d_Mo_person_50 k_Mo_341 (by first | assumption | exact zS0_at (by assumption) (by omega) | exact zS0_at rfl (by omega)) (t_Mo_tinsOn M N1) ⟨Nat.le_of_ble_eq_true rfl, Nat.le_of_ble_eq_true rfl, Nat.le_of_ble_eq_true rfl, Nat.le_of_ble_eq_true rfl⟩ (Nat.le_of_ble_eq_true rfl) ?_
                    intro r w hq
                    obtain ⟨rfl, rfl⟩ := hq
                    refine z_reti d_Mo_person_53 ?_
                    exact ⟨by first | rfl | assumption | (rw [e150]), _, _, rfl, (by repeat (first | exact h1 | refine mqF_z ?_ (by decide))), mqJ_r, (by first | exact zu_same _ _ _ _ | exact h0)⟩))
        · first
          | contradiction
          | ( skip
              refine z_if_ne (tgt := 43) d_Mo_person_34 (by decide) (fun h => absurd h (by decide)) (fun _ => ?_)
              refine z_aload_0 d_Mo_person_37 ?_
              refine z_iconst (a := nI 5) d_Mo_person_38 (by decide) ?_
              refine z_Vi1 d_Mo_person_39 k_Mo_327 (by first | assumption | exact zS0_at (by assumption) (by omega) | exact zS0_at rfl (by omega)) (t_Mo_refuse (by assumption)) ⟨Nat.le_of_ble_eq_true rfl, Nat.le_of_ble_eq_true rfl, Nat.le_of_ble_eq_true rfl, Nat.le_of_ble_eq_true rfl⟩ (Nat.le_of_ble_eq_true rfl) ?_
              intro r w hq
              obtain ⟨rfl, rfl⟩ := hq
              refine z_reti d_Mo_person_42 ?_
              exact ⟨by first | rfl | assumption | (rw [e150]), _, _, rfl, (by repeat (first | exact h1 | refine mqF_z ?_ (by decide))), mqJ_r, (by first | exact zu_same _ _ _ _ | exact h0)⟩))
  · first
    | contradiction
    | ( skip
        refine z_if_ne (tgt := 25) d_Mo_person_16 (by decide) (fun h => absurd h (by decide)) (fun _ => ?_)
        refine z_aload_0 d_Mo_person_19 ?_
        refine z_iconst (a := nI 2) d_Mo_person_20 (by decide) ?_
        refine z_Vi1 d_Mo_person_21 k_Mo_327 (by first | assumption | exact zS0_at (by assumption) (by omega) | exact zS0_at rfl (by omega)) (t_Mo_refuse (by assumption)) ⟨Nat.le_of_ble_eq_true rfl, Nat.le_of_ble_eq_true rfl, Nat.le_of_ble_eq_true rfl, Nat.le_of_ble_eq_true rfl⟩ (Nat.le_of_ble_eq_true rfl) ?_
        intro r w hq
        obtain ⟨rfl, rfl⟩ := hq
        refine z_reti d_Mo_person_24 ?_
        exact ⟨by first | rfl | assumption | (rw [e150]), _, _, rfl, (by repeat (first | exact h1 | refine mqF_z ?_ (by decide))), mqJ_r, (by first | exact zu_same _ _ _ _ | exact h0)⟩)
theorem t_Mo_person_2 {p : Nat} (M : modOk P S) (N : modIn I nt np nl nn) (hp : p < np) : zEi G y_Mo_person prog_14_method_86_code 3 (some .int) 4 [.ref 145, .int (nI p), .int (nI 2)] (I, J, P, S) (fun r w => r = s_set (fun t => decide (I 150 (42 + t) = nI p)) nn ∧ mW I J P S 0 w) := by
  obtain ⟨M0, ⟨M4, M4s⟩, ⟨M5, M5s⟩, ⟨M6, M6s⟩, ⟨M7, M7s⟩, ⟨M20, M20s⟩, ⟨M21, M21s⟩, ⟨M22, M22s⟩, ⟨M26, M26s⟩, ⟨M27, M27s⟩, ⟨M28, M28s⟩, ⟨M30, M30s⟩, ⟨M34, M34s⟩, ⟨M36, M36s⟩, ⟨M37, M37s⟩⟩ := id M
  obtain ⟨I1, hI1, N1, h1, h0, e150, er, ek⟩ := mo_beg N
  obtain ⟨⟨m0, m0b⟩, ⟨m1, m1b⟩, ⟨m2, m2b⟩, ⟨m3, m3b⟩, mof, mon⟩ := id N1
  have hD : mD I I1 := ⟨h1, h0, e150, er⟩
  refine zEi_of (lv := [some (.ref 145), some (.int (nI p)), some (.int (nI 2))]) (by decide) rfl (Nat.le_of_ble_eq_true rfl) ?_
  refine z_aload_0 d_Mo_person_0 ?_
  refine z_iconst (a := nI 0) d_Mo_person_1 (by decide) ?_
  refine z_putI d_Mo_person_2 f_Mo_70 (by first | assumption | exact zS0_at (by assumption) (by omega) | exact zS0_at rfl (by omega)) ?_
  refine z_aload_0 d_Mo_person_5 ?_
  refine z_iconst (a := nI 0) d_Mo_person_6 (by decide) ?_
  refine z_putI d_Mo_person_7 f_Mo_73 (by first | assumption | exact zS0_at (by assumption) (by omega) | exact zS0_at rfl (by omega)) ?_
  rw [← hI1]
  have hz : zin (nI p) np := ⟨p, by omega, rfl⟩
  have hzb : zin (nI 2) 5 := ⟨2, by decide, rfl⟩
  refine z_aload_0 d_Mo_person_10 ?_
  refine z_iload_1 d_Mo_person_11 ?_
  refine z_i2l d_Mo_person_12 ?_
  refine z_Vi1 d_Mo_person_13 k_Mo_336 (by first | assumption | exact zS0_at (by assumption) (by omega) | exact zS0_at rfl (by omega)) (t_Mo_isPersonAtI M N1) ⟨Nat.le_of_ble_eq_true rfl, Nat.le_of_ble_eq_true rfl, Nat.le_of_ble_eq_true rfl, Nat.le_of_ble_eq_true rfl⟩ (Nat.le_of_ble_eq_true rfl) ?_
  intro r w hq
  rcases hq with ⟨⟨hz13, rfl⟩ | ⟨hz13, rfl⟩, rfl⟩
  · first
    | contradiction
    | ( skip
        refine z_if_ne (tgt := 25) d_Mo_person_16 (by decide) (fun _ => ?_) (fun h => absurd h (by decide))
        refine z_iload_2 d_Mo_person_25 ?_
        refine z_i2l d_Mo_person_26 ?_
        refine z_lconst (f := lN 0) d_Mo_person_27 rfl ?_
        refine z_ldc2 d_Mo_person_28 c_Mo_339 ?_
        refine z_Si3 d_Mo_person_31 k_Mo_105 (t_Mo_isInZ (m := 5) (by decide) (by decide)) ⟨Nat.le_of_ble_eq_true rfl, Nat.le_of_ble_eq_true rfl, Nat.le_of_ble_eq_true rfl, Nat.le_of_ble_eq_true rfl⟩ (Nat.le_of_ble_eq_true rfl) ?_
        intro r w hq
        rcases hq with ⟨⟨hz31, rfl⟩ | ⟨hz31, rfl⟩, rfl⟩
        · first
          | contradiction
          | ( skip
              refine z_if_ne (tgt := 43) d_Mo_person_34 (by decide) (fun _ => ?_) (fun h => absurd h (by decide))
              refine z_iload_2 d_Mo_person_43 ?_
              refine z_iconst (a := nI 2) d_Mo_person_44 (by decide) ?_
              refine z_icmp_ne (tgt := 54) d_Mo_person_45 (by decide) (fun h45 => ?_) (fun h45 => ?_)
              · first
                | (simp (disch := omega) only [← nI_0, nI_leI, nI_ltI, nI_eq, not_true_eq_false, not_false_eq_true] at h45; done)
                | (simp (disch := omega) only [← nI_0, nI_leI, nI_ltI, nI_eq, not_true_eq_false, not_false_eq_true] at h45; omega)
                | contradiction
                | exact absurd h45 (Int32.not_lt.mpr (by assumption))
                | exact absurd h45 (Int32.not_le.mpr (by assumption))
                | exact absurd h45 (by decide)
                | exact absurd (by decide) h45
                | ( try simp (disch := omega) only [← nI_0, nI_leI, nI_ltI, nI_eq, not_true_eq_false, not_false_eq_true] at h45
                    (try have h45b := zbit_n0.mp h45); (try have h45b := zbit_p0.mp h45)
                    refine z_iload_2 d_Mo_person_54 ?_
                    refine z_iconst (a := nI 4) d_Mo_person_55 (by decide) ?_
                    refine z_icmp_ne (tgt := 69) d_Mo_person_56 (by decide) (fun h56 => ?_) (fun h56 => ?_)
                    · first
                      | (simp (disch := omega) only [← nI_0, nI_leI, nI_ltI, nI_eq, not_true_eq_false, not_false_eq_true] at h56; done)
                      | (simp (disch := omega) only [← nI_0, nI_leI, nI_ltI, nI_eq, not_true_eq_false, not_false_eq_true] at h56; omega)
                      | contradiction
                      | exact absurd h56 (Int32.not_lt.mpr (by assumption))
                      | exact absurd h56 (Int32.not_le.mpr (by assumption))
                      | exact absurd h56 (by decide)
                      | exact absurd (by decide) h56
                      | ( try simp (disch := omega) only [← nI_0, nI_leI, nI_ltI, nI_eq, not_true_eq_false, not_false_eq_true] at h56
                          (try have h56b := zbit_n0.mp h56); (try have h56b := zbit_p0.mp h56)
                          refine z_aload_0 d_Mo_person_69 ?_
                          refine z_getR d_Mo_person_70 f_Mo_35 (by first | assumption | exact zS0_at (by assumption) (by omega) | exact zS0_at rfl (by omega)) (by first | assumption | exact zS0_at (by assumption) (by omega) | exact zS0_at rfl (by omega)) ?_
                          refine z_iload_2 d_Mo_person_73 ?_
                          refine z_if_ne (tgt := 82) d_Mo_person_74 (by decide) (fun h74 => ?_) (fun h74 => ?_)
                          · first
                            | (simp (disch := omega) only [← nI_0, nI_leI, nI_ltI, nI_eq, not_true_eq_false, not_false_eq_true] at h74; done)
                            | (simp (disch := omega) only [← nI_0, nI_leI, nI_ltI, nI_eq, not_true_eq_false, not_false_eq_true] at h74; omega)
                            | contradiction
                            | exact absurd h74 (Int32.not_lt.mpr (by assumption))
                            | exact absurd h74 (Int32.not_le.mpr (by assumption))
                            | exact absurd h74 (by decide)
                            | exact absurd (by decide) h74
                            | ( try simp (disch := omega) only [← nI_0, nI_leI, nI_ltI, nI_eq, not_true_eq_false, not_false_eq_true] at h74
                                (try have h74b := zbit_n0.mp h74); (try have h74b := zbit_p0.mp h74)
                                refine z_iload_2 d_Mo_person_82 ?_
                                refine z_iconst (a := nI 1) d_Mo_person_83 (by decide) ?_
                                refine z_icmp_ne (tgt := 92) d_Mo_person_84 (by decide) (fun h84 => ?_) (fun h84 => ?_)
                                · first
                                  | (simp (disch := omega) only [← nI_0, nI_leI, nI_ltI, nI_eq, not_true_eq_false, not_false_eq_true] at h84; done)
                                  | (simp (disch := omega) only [← nI_0, nI_leI, nI_ltI, nI_eq, not_true_eq_false, not_false_eq_true] at h84; omega)
                                  | contradiction
                                  | exact absurd h84 (Int32.not_lt.mpr (by assumption))
                                  | exact absurd h84 (Int32.not_le.mpr (by assumption))
                                  | exact absurd h84 (by decide)
                                  | exact absurd (by decide) h84
                                  | ( try simp (disch := omega) only [← nI_0, nI_leI, nI_ltI, nI_eq, not_true_eq_false, not_false_eq_true] at h84
                                      (try have h84b := zbit_n0.mp h84); (try have h84b := zbit_p0.mp h84)
                                      refine z_bipush (a := nI 26) d_Mo_person_92 (by decide) ?_
                                      refine z_iload_1 d_Mo_person_94 ?_
                                      first | refine z_iaddN d_Mo_person_95 ?_ | refine z_iadd d_Mo_person_95 ?_
                                      first | refine z_ialdNv d_Mo_person_96 (by first | assumption | exact zS0_at (by assumption) (by omega) | exact zS0_at rfl (by omega)) (by omega) (by first | decide | omega) (by first | assumption | ((try simp (disch := omega) only [zu_same, zu_ne, zcp_ne, zfl_ne]); first | assumption | rfl)) ?_ | refine z_iald d_Mo_person_96 (by first | assumption | exact zS0_at (by assumption) (by omega) | exact zS0_at rfl (by omega)) (by first | assumption | exact zS0_at (by assumption) (by omega) | exact zS0_at rfl (by omega)) ?_
                                      refine z_reti d_Mo_person_97 ?_
                                      exact ⟨by first | rfl | assumption | (rw [e150]), _, _, rfl, (by repeat (first | exact h1 | refine mqF_z ?_ (by decide))), mqJ_r, (by first | exact zu_same _ _ _ _ | exact h0)⟩)
                                · first
                                  | (simp (disch := omega) only [← nI_0, nI_leI, nI_ltI, nI_eq, not_true_eq_false, not_false_eq_true] at h84; done)
                                  | (simp (disch := omega) only [← nI_0, nI_leI, nI_ltI, nI_eq, not_true_eq_false, not_false_eq_true] at h84; omega)
                                  | contradiction
                                  | exact absurd h84 (Int32.not_lt.mpr (by assumption))
                                  | exact absurd h84 (Int32.not_le.mpr (by assumption))
                                  | exact absurd h84 (by decide)
                                  | exact absurd (by decide) h84
                                  | ( try simp (disch := omega) only [← nI_0, nI_leI, nI_ltI, nI_eq, not_true_eq_false, not_false_eq_true] at h84
                                      (try have h84b := zbit_n0.mp h84); (try have h84b := zbit_p0.mp h84)
                                      refine z_bipush (a := nI 19) d_Mo_person_87 (by decide) ?_
                                      refine z_goto (tgt := 94) d_Mo_person_89 (by decide) ?_
                                      refine z_iload_1 d_Mo_person_94 ?_
                                      first | refine z_iaddN d_Mo_person_95 ?_ | refine z_iadd d_Mo_person_95 ?_
                                      first | refine z_ialdNv d_Mo_person_96 (by first | assumption | exact zS0_at (by assumption) (by omega) | exact zS0_at rfl (by omega)) (by omega) (by first | decide | omega) (by first | assumption | ((try simp (disch := omega) only [zu_same, zu_ne, zcp_ne, zfl_ne]); first | assumption | rfl)) ?_ | refine z_iald d_Mo_person_96 (by first | assumption | exact zS0_at (by assumption) (by omega) | exact zS0_at rfl (by omega)) (by first | assumption | exact zS0_at (by assumption) (by omega) | exact zS0_at rfl (by omega)) ?_
                                      refine z_reti d_Mo_person_97 ?_
                                      exact ⟨by first | rfl | assumption | (rw [e150]), _, _, rfl, (by repeat (first | exact h1 | refine mqF_z ?_ (by decide))), mqJ_r, (by first | exact zu_same _ _ _ _ | exact h0)⟩))
                          · first
                            | (simp (disch := omega) only [← nI_0, nI_leI, nI_ltI, nI_eq, not_true_eq_false, not_false_eq_true] at h74; done)
                            | (simp (disch := omega) only [← nI_0, nI_leI, nI_ltI, nI_eq, not_true_eq_false, not_false_eq_true] at h74; omega)
                            | contradiction
                            | exact absurd h74 (Int32.not_lt.mpr (by assumption))
                            | exact absurd h74 (Int32.not_le.mpr (by assumption))
                            | exact absurd h74 (by decide)
                            | exact absurd (by decide) h74
                            | ( try simp (disch := omega) only [← nI_0, nI_leI, nI_ltI, nI_eq, not_true_eq_false, not_false_eq_true] at h74
                                (try have h74b := zbit_n0.mp h74); (try have h74b := zbit_p0.mp h74)
                                refine z_bipush (a := nI 12) d_Mo_person_77 (by decide) ?_
                                refine z_goto (tgt := 94) d_Mo_person_79 (by decide) ?_
                                refine z_iload_1 d_Mo_person_94 ?_
                                first | refine z_iaddN d_Mo_person_95 ?_ | refine z_iadd d_Mo_person_95 ?_
                                first | refine z_ialdNv d_Mo_person_96 (by first | assumption | exact zS0_at (by assumption) (by omega) | exact zS0_at rfl (by omega)) (by omega) (by first | decide | omega) (by first | assumption | ((try simp (disch := omega) only [zu_same, zu_ne, zcp_ne, zfl_ne]); first | assumption | rfl)) ?_ | refine z_iald d_Mo_person_96 (by first | assumption | exact zS0_at (by assumption) (by omega) | exact zS0_at rfl (by omega)) (by first | assumption | exact zS0_at (by assumption) (by omega) | exact zS0_at rfl (by omega)) ?_
                                refine z_reti d_Mo_person_97 ?_
                                exact ⟨by first | rfl | assumption | (rw [e150]), _, _, rfl, (by repeat (first | exact h1 | refine mqF_z ?_ (by decide))), mqJ_r, (by first | exact zu_same _ _ _ _ | exact h0)⟩))
                    · first
                      | (simp (disch := omega) only [← nI_0, nI_leI, nI_ltI, nI_eq, not_true_eq_false, not_false_eq_true] at h56; done)
                      | (simp (disch := omega) only [← nI_0, nI_leI, nI_ltI, nI_eq, not_true_eq_false, not_false_eq_true] at h56; omega)
                      | contradiction
                      | exact absurd h56 (Int32.not_lt.mpr (by assumption))
                      | exact absurd h56 (Int32.not_le.mpr (by assumption))
                      | exact absurd h56 (by decide)
                      | exact absurd (by decide) h56
                      | ( try simp (disch := omega) only [← nI_0, nI_leI, nI_ltI, nI_eq, not_true_eq_false, not_false_eq_true] at h56
                          (try have h56b := zbit_n0.mp h56); (try have h56b := zbit_p0.mp h56)
                          refine z_aload_0 d_Mo_person_59 ?_
                          refine z_aload_0 d_Mo_person_60 ?_
                          refine z_iload_1 d_Mo_person_61 ?_
                          refine z_Vi1 d_Mo_person_62 k_Mo_341 (by first | assumption | exact zS0_at (by assumption) (by omega) | exact zS0_at rfl (by omega)) (t_Mo_tinsOn M N1) ⟨Nat.le_of_ble_eq_true rfl, Nat.le_of_ble_eq_true rfl, Nat.le_of_ble_eq_true rfl, Nat.le_of_ble_eq_true rfl⟩ (Nat.le_of_ble_eq_true rfl) ?_
                          intro r w hq
                          obtain ⟨rfl, rfl⟩ := hq
                          refine z_Vi1 d_Mo_person_65 k_Mo_322 (by first | assumption | exact zS0_at (by assumption) (by omega) | exact zS0_at rfl (by omega)) (t_Mo_worthAll M N1) ⟨Nat.le_of_ble_eq_true rfl, Nat.le_of_ble_eq_true rfl, Nat.le_of_ble_eq_true rfl, Nat.le_of_ble_eq_true rfl⟩ (Nat.le_of_ble_eq_true rfl) ?_
                          intro r w hq
                          obtain ⟨rfl, rfl⟩ := hq
                          refine z_reti d_Mo_person_68 ?_
                          exact ⟨by first | rfl | assumption | (rw [e150]), _, _, rfl, (by repeat (first | exact h1 | refine mqF_z ?_ (by decide))), mqJ_r, (by first | exact zu_same _ _ _ _ | exact h0)⟩))
              · first
                | (simp (disch := omega) only [← nI_0, nI_leI, nI_ltI, nI_eq, not_true_eq_false, not_false_eq_true] at h45; done)
                | (simp (disch := omega) only [← nI_0, nI_leI, nI_ltI, nI_eq, not_true_eq_false, not_false_eq_true] at h45; omega)
                | contradiction
                | exact absurd h45 (Int32.not_lt.mpr (by assumption))
                | exact absurd h45 (Int32.not_le.mpr (by assumption))
                | exact absurd h45 (by decide)
                | exact absurd (by decide) h45
                | ( try simp (disch := omega) only [← nI_0, nI_leI, nI_ltI, nI_eq, not_true_eq_false, not_false_eq_true] at h45
                    (try have h45b := zbit_n0.mp h45); (try have h45b := zbit_p0.mp h45)
                    refine z_aload_0 d_Mo_person_48 ?_
                    refine z_iload_1 d_Mo_person_49 ?_
                    refine z_Vi1 d_Mo_person_50 k_Mo_341 (by first | assumption | exact zS0_at (by assumption) (by omega) | exact zS0_at rfl (by omega)) (t_Mo_tinsOn M N1) ⟨Nat.le_of_ble_eq_true rfl, Nat.le_of_ble_eq_true rfl, Nat.le_of_ble_eq_true rfl, Nat.le_of_ble_eq_true rfl⟩ (Nat.le_of_ble_eq_true rfl) ?_
                    intro r w hq
                    obtain ⟨rfl, rfl⟩ := hq
                    refine z_reti d_Mo_person_53 ?_
                    exact ⟨by first | rfl | assumption | (rw [e150]), _, _, rfl, (by repeat (first | exact h1 | refine mqF_z ?_ (by decide))), mqJ_r, (by first | exact zu_same _ _ _ _ | exact h0)⟩))
        · first
          | contradiction
          | ( skip
              refine z_if_ne (tgt := 43) d_Mo_person_34 (by decide) (fun h => absurd h (by decide)) (fun _ => ?_)
              refine z_aload_0 d_Mo_person_37 ?_
              refine z_iconst (a := nI 5) d_Mo_person_38 (by decide) ?_
              refine z_Vi1 d_Mo_person_39 k_Mo_327 (by first | assumption | exact zS0_at (by assumption) (by omega) | exact zS0_at rfl (by omega)) (t_Mo_refuse (by assumption)) ⟨Nat.le_of_ble_eq_true rfl, Nat.le_of_ble_eq_true rfl, Nat.le_of_ble_eq_true rfl, Nat.le_of_ble_eq_true rfl⟩ (Nat.le_of_ble_eq_true rfl) ?_
              intro r w hq
              obtain ⟨rfl, rfl⟩ := hq
              refine z_reti d_Mo_person_42 ?_
              exact ⟨by first | rfl | assumption | (rw [e150]), _, _, rfl, (by repeat (first | exact h1 | refine mqF_z ?_ (by decide))), mqJ_r, (by first | exact zu_same _ _ _ _ | exact h0)⟩))
  · first
    | contradiction
    | ( skip
        refine z_if_ne (tgt := 25) d_Mo_person_16 (by decide) (fun h => absurd h (by decide)) (fun _ => ?_)
        refine z_aload_0 d_Mo_person_19 ?_
        refine z_iconst (a := nI 2) d_Mo_person_20 (by decide) ?_
        refine z_Vi1 d_Mo_person_21 k_Mo_327 (by first | assumption | exact zS0_at (by assumption) (by omega) | exact zS0_at rfl (by omega)) (t_Mo_refuse (by assumption)) ⟨Nat.le_of_ble_eq_true rfl, Nat.le_of_ble_eq_true rfl, Nat.le_of_ble_eq_true rfl, Nat.le_of_ble_eq_true rfl⟩ (Nat.le_of_ble_eq_true rfl) ?_
        intro r w hq
        obtain ⟨rfl, rfl⟩ := hq
        refine z_reti d_Mo_person_24 ?_
        exact ⟨by first | rfl | assumption | (rw [e150]), _, _, rfl, (by repeat (first | exact h1 | refine mqF_z ?_ (by decide))), mqJ_r, (by first | exact zu_same _ _ _ _ | exact h0)⟩)
theorem t_Mo_person_3 {p : Nat} (M : modOk P S) (N : modIn I nt np nl nn) (hp : p < np) : zEi G y_Mo_person prog_14_method_86_code 3 (some .int) 4 [.ref 145, .int (nI p), .int (nI 3)] (I, J, P, S) (fun r w => r = I 150 (26 + p) ∧ mW I J P S 0 w) := by
  obtain ⟨M0, ⟨M4, M4s⟩, ⟨M5, M5s⟩, ⟨M6, M6s⟩, ⟨M7, M7s⟩, ⟨M20, M20s⟩, ⟨M21, M21s⟩, ⟨M22, M22s⟩, ⟨M26, M26s⟩, ⟨M27, M27s⟩, ⟨M28, M28s⟩, ⟨M30, M30s⟩, ⟨M34, M34s⟩, ⟨M36, M36s⟩, ⟨M37, M37s⟩⟩ := id M
  obtain ⟨I1, hI1, N1, h1, h0, e150, er, ek⟩ := mo_beg N
  obtain ⟨⟨m0, m0b⟩, ⟨m1, m1b⟩, ⟨m2, m2b⟩, ⟨m3, m3b⟩, mof, mon⟩ := id N1
  have hD : mD I I1 := ⟨h1, h0, e150, er⟩
  refine zEi_of (lv := [some (.ref 145), some (.int (nI p)), some (.int (nI 3))]) (by decide) rfl (Nat.le_of_ble_eq_true rfl) ?_
  refine z_aload_0 d_Mo_person_0 ?_
  refine z_iconst (a := nI 0) d_Mo_person_1 (by decide) ?_
  refine z_putI d_Mo_person_2 f_Mo_70 (by first | assumption | exact zS0_at (by assumption) (by omega) | exact zS0_at rfl (by omega)) ?_
  refine z_aload_0 d_Mo_person_5 ?_
  refine z_iconst (a := nI 0) d_Mo_person_6 (by decide) ?_
  refine z_putI d_Mo_person_7 f_Mo_73 (by first | assumption | exact zS0_at (by assumption) (by omega) | exact zS0_at rfl (by omega)) ?_
  rw [← hI1]
  have hz : zin (nI p) np := ⟨p, by omega, rfl⟩
  have hzb : zin (nI 3) 5 := ⟨3, by decide, rfl⟩
  have hr : I1 150 (26 + p) = I 150 (26 + p) := by rw [e150]
  refine z_aload_0 d_Mo_person_10 ?_
  refine z_iload_1 d_Mo_person_11 ?_
  refine z_i2l d_Mo_person_12 ?_
  refine z_Vi1 d_Mo_person_13 k_Mo_336 (by first | assumption | exact zS0_at (by assumption) (by omega) | exact zS0_at rfl (by omega)) (t_Mo_isPersonAtI M N1) ⟨Nat.le_of_ble_eq_true rfl, Nat.le_of_ble_eq_true rfl, Nat.le_of_ble_eq_true rfl, Nat.le_of_ble_eq_true rfl⟩ (Nat.le_of_ble_eq_true rfl) ?_
  intro r w hq
  rcases hq with ⟨⟨hz13, rfl⟩ | ⟨hz13, rfl⟩, rfl⟩
  · first
    | contradiction
    | ( skip
        refine z_if_ne (tgt := 25) d_Mo_person_16 (by decide) (fun _ => ?_) (fun h => absurd h (by decide))
        refine z_iload_2 d_Mo_person_25 ?_
        refine z_i2l d_Mo_person_26 ?_
        refine z_lconst (f := lN 0) d_Mo_person_27 rfl ?_
        refine z_ldc2 d_Mo_person_28 c_Mo_339 ?_
        refine z_Si3 d_Mo_person_31 k_Mo_105 (t_Mo_isInZ (m := 5) (by decide) (by decide)) ⟨Nat.le_of_ble_eq_true rfl, Nat.le_of_ble_eq_true rfl, Nat.le_of_ble_eq_true rfl, Nat.le_of_ble_eq_true rfl⟩ (Nat.le_of_ble_eq_true rfl) ?_
        intro r w hq
        rcases hq with ⟨⟨hz31, rfl⟩ | ⟨hz31, rfl⟩, rfl⟩
        · first
          | contradiction
          | ( skip
              refine z_if_ne (tgt := 43) d_Mo_person_34 (by decide) (fun _ => ?_) (fun h => absurd h (by decide))
              refine z_iload_2 d_Mo_person_43 ?_
              refine z_iconst (a := nI 2) d_Mo_person_44 (by decide) ?_
              refine z_icmp_ne (tgt := 54) d_Mo_person_45 (by decide) (fun h45 => ?_) (fun h45 => ?_)
              · first
                | (simp (disch := omega) only [← nI_0, nI_leI, nI_ltI, nI_eq, not_true_eq_false, not_false_eq_true] at h45; done)
                | (simp (disch := omega) only [← nI_0, nI_leI, nI_ltI, nI_eq, not_true_eq_false, not_false_eq_true] at h45; omega)
                | contradiction
                | exact absurd h45 (Int32.not_lt.mpr (by assumption))
                | exact absurd h45 (Int32.not_le.mpr (by assumption))
                | exact absurd h45 (by decide)
                | exact absurd (by decide) h45
                | ( try simp (disch := omega) only [← nI_0, nI_leI, nI_ltI, nI_eq, not_true_eq_false, not_false_eq_true] at h45
                    (try have h45b := zbit_n0.mp h45); (try have h45b := zbit_p0.mp h45)
                    refine z_iload_2 d_Mo_person_54 ?_
                    refine z_iconst (a := nI 4) d_Mo_person_55 (by decide) ?_
                    refine z_icmp_ne (tgt := 69) d_Mo_person_56 (by decide) (fun h56 => ?_) (fun h56 => ?_)
                    · first
                      | (simp (disch := omega) only [← nI_0, nI_leI, nI_ltI, nI_eq, not_true_eq_false, not_false_eq_true] at h56; done)
                      | (simp (disch := omega) only [← nI_0, nI_leI, nI_ltI, nI_eq, not_true_eq_false, not_false_eq_true] at h56; omega)
                      | contradiction
                      | exact absurd h56 (Int32.not_lt.mpr (by assumption))
                      | exact absurd h56 (Int32.not_le.mpr (by assumption))
                      | exact absurd h56 (by decide)
                      | exact absurd (by decide) h56
                      | ( try simp (disch := omega) only [← nI_0, nI_leI, nI_ltI, nI_eq, not_true_eq_false, not_false_eq_true] at h56
                          (try have h56b := zbit_n0.mp h56); (try have h56b := zbit_p0.mp h56)
                          refine z_aload_0 d_Mo_person_69 ?_
                          refine z_getR d_Mo_person_70 f_Mo_35 (by first | assumption | exact zS0_at (by assumption) (by omega) | exact zS0_at rfl (by omega)) (by first | assumption | exact zS0_at (by assumption) (by omega) | exact zS0_at rfl (by omega)) ?_
                          refine z_iload_2 d_Mo_person_73 ?_
                          refine z_if_ne (tgt := 82) d_Mo_person_74 (by decide) (fun h74 => ?_) (fun h74 => ?_)
                          · first
                            | (simp (disch := omega) only [← nI_0, nI_leI, nI_ltI, nI_eq, not_true_eq_false, not_false_eq_true] at h74; done)
                            | (simp (disch := omega) only [← nI_0, nI_leI, nI_ltI, nI_eq, not_true_eq_false, not_false_eq_true] at h74; omega)
                            | contradiction
                            | exact absurd h74 (Int32.not_lt.mpr (by assumption))
                            | exact absurd h74 (Int32.not_le.mpr (by assumption))
                            | exact absurd h74 (by decide)
                            | exact absurd (by decide) h74
                            | ( try simp (disch := omega) only [← nI_0, nI_leI, nI_ltI, nI_eq, not_true_eq_false, not_false_eq_true] at h74
                                (try have h74b := zbit_n0.mp h74); (try have h74b := zbit_p0.mp h74)
                                refine z_iload_2 d_Mo_person_82 ?_
                                refine z_iconst (a := nI 1) d_Mo_person_83 (by decide) ?_
                                refine z_icmp_ne (tgt := 92) d_Mo_person_84 (by decide) (fun h84 => ?_) (fun h84 => ?_)
                                · first
                                  | (simp (disch := omega) only [← nI_0, nI_leI, nI_ltI, nI_eq, not_true_eq_false, not_false_eq_true] at h84; done)
                                  | (simp (disch := omega) only [← nI_0, nI_leI, nI_ltI, nI_eq, not_true_eq_false, not_false_eq_true] at h84; omega)
                                  | contradiction
                                  | exact absurd h84 (Int32.not_lt.mpr (by assumption))
                                  | exact absurd h84 (Int32.not_le.mpr (by assumption))
                                  | exact absurd h84 (by decide)
                                  | exact absurd (by decide) h84
                                  | ( try simp (disch := omega) only [← nI_0, nI_leI, nI_ltI, nI_eq, not_true_eq_false, not_false_eq_true] at h84
                                      (try have h84b := zbit_n0.mp h84); (try have h84b := zbit_p0.mp h84)
                                      refine z_bipush (a := nI 26) d_Mo_person_92 (by decide) ?_
                                      refine z_iload_1 d_Mo_person_94 ?_
                                      first | refine z_iaddN d_Mo_person_95 ?_ | refine z_iadd d_Mo_person_95 ?_
                                      first | refine z_ialdNv d_Mo_person_96 (by first | assumption | exact zS0_at (by assumption) (by omega) | exact zS0_at rfl (by omega)) (by omega) (by first | decide | omega) (by first | assumption | ((try simp (disch := omega) only [zu_same, zu_ne, zcp_ne, zfl_ne]); first | assumption | rfl)) ?_ | refine z_iald d_Mo_person_96 (by first | assumption | exact zS0_at (by assumption) (by omega) | exact zS0_at rfl (by omega)) (by first | assumption | exact zS0_at (by assumption) (by omega) | exact zS0_at rfl (by omega)) ?_
                                      refine z_reti d_Mo_person_97 ?_
                                      exact ⟨by first | rfl | assumption | (rw [e150]), _, _, rfl, (by repeat (first | exact h1 | refine mqF_z ?_ (by decide))), mqJ_r, (by first | exact zu_same _ _ _ _ | exact h0)⟩)
                                · first
                                  | (simp (disch := omega) only [← nI_0, nI_leI, nI_ltI, nI_eq, not_true_eq_false, not_false_eq_true] at h84; done)
                                  | (simp (disch := omega) only [← nI_0, nI_leI, nI_ltI, nI_eq, not_true_eq_false, not_false_eq_true] at h84; omega)
                                  | contradiction
                                  | exact absurd h84 (Int32.not_lt.mpr (by assumption))
                                  | exact absurd h84 (Int32.not_le.mpr (by assumption))
                                  | exact absurd h84 (by decide)
                                  | exact absurd (by decide) h84
                                  | ( try simp (disch := omega) only [← nI_0, nI_leI, nI_ltI, nI_eq, not_true_eq_false, not_false_eq_true] at h84
                                      (try have h84b := zbit_n0.mp h84); (try have h84b := zbit_p0.mp h84)
                                      refine z_bipush (a := nI 19) d_Mo_person_87 (by decide) ?_
                                      refine z_goto (tgt := 94) d_Mo_person_89 (by decide) ?_
                                      refine z_iload_1 d_Mo_person_94 ?_
                                      first | refine z_iaddN d_Mo_person_95 ?_ | refine z_iadd d_Mo_person_95 ?_
                                      first | refine z_ialdNv d_Mo_person_96 (by first | assumption | exact zS0_at (by assumption) (by omega) | exact zS0_at rfl (by omega)) (by omega) (by first | decide | omega) (by first | assumption | ((try simp (disch := omega) only [zu_same, zu_ne, zcp_ne, zfl_ne]); first | assumption | rfl)) ?_ | refine z_iald d_Mo_person_96 (by first | assumption | exact zS0_at (by assumption) (by omega) | exact zS0_at rfl (by omega)) (by first | assumption | exact zS0_at (by assumption) (by omega) | exact zS0_at rfl (by omega)) ?_
                                      refine z_reti d_Mo_person_97 ?_
                                      exact ⟨by first | rfl | assumption | (rw [e150]), _, _, rfl, (by repeat (first | exact h1 | refine mqF_z ?_ (by decide))), mqJ_r, (by first | exact zu_same _ _ _ _ | exact h0)⟩))
                          · first
                            | (simp (disch := omega) only [← nI_0, nI_leI, nI_ltI, nI_eq, not_true_eq_false, not_false_eq_true] at h74; done)
                            | (simp (disch := omega) only [← nI_0, nI_leI, nI_ltI, nI_eq, not_true_eq_false, not_false_eq_true] at h74; omega)
                            | contradiction
                            | exact absurd h74 (Int32.not_lt.mpr (by assumption))
                            | exact absurd h74 (Int32.not_le.mpr (by assumption))
                            | exact absurd h74 (by decide)
                            | exact absurd (by decide) h74
                            | ( try simp (disch := omega) only [← nI_0, nI_leI, nI_ltI, nI_eq, not_true_eq_false, not_false_eq_true] at h74
                                (try have h74b := zbit_n0.mp h74); (try have h74b := zbit_p0.mp h74)
                                refine z_bipush (a := nI 12) d_Mo_person_77 (by decide) ?_
                                refine z_goto (tgt := 94) d_Mo_person_79 (by decide) ?_
                                refine z_iload_1 d_Mo_person_94 ?_
                                first | refine z_iaddN d_Mo_person_95 ?_ | refine z_iadd d_Mo_person_95 ?_
                                first | refine z_ialdNv d_Mo_person_96 (by first | assumption | exact zS0_at (by assumption) (by omega) | exact zS0_at rfl (by omega)) (by omega) (by first | decide | omega) (by first | assumption | ((try simp (disch := omega) only [zu_same, zu_ne, zcp_ne, zfl_ne]); first | assumption | rfl)) ?_ | refine z_iald d_Mo_person_96 (by first | assumption | exact zS0_at (by assumption) (by omega) | exact zS0_at rfl (by omega)) (by first | assumption | exact zS0_at (by assumption) (by omega) | exact zS0_at rfl (by omega)) ?_
                                refine z_reti d_Mo_person_97 ?_
                                exact ⟨by first | rfl | assumption | (rw [e150]), _, _, rfl, (by repeat (first | exact h1 | refine mqF_z ?_ (by decide))), mqJ_r, (by first | exact zu_same _ _ _ _ | exact h0)⟩))
                    · first
                      | (simp (disch := omega) only [← nI_0, nI_leI, nI_ltI, nI_eq, not_true_eq_false, not_false_eq_true] at h56; done)
                      | (simp (disch := omega) only [← nI_0, nI_leI, nI_ltI, nI_eq, not_true_eq_false, not_false_eq_true] at h56; omega)
                      | contradiction
                      | exact absurd h56 (Int32.not_lt.mpr (by assumption))
                      | exact absurd h56 (Int32.not_le.mpr (by assumption))
                      | exact absurd h56 (by decide)
                      | exact absurd (by decide) h56
                      | ( try simp (disch := omega) only [← nI_0, nI_leI, nI_ltI, nI_eq, not_true_eq_false, not_false_eq_true] at h56
                          (try have h56b := zbit_n0.mp h56); (try have h56b := zbit_p0.mp h56)
                          refine z_aload_0 d_Mo_person_59 ?_
                          refine z_aload_0 d_Mo_person_60 ?_
                          refine z_iload_1 d_Mo_person_61 ?_
                          refine z_Vi1 d_Mo_person_62 k_Mo_341 (by first | assumption | exact zS0_at (by assumption) (by omega) | exact zS0_at rfl (by omega)) (t_Mo_tinsOn M N1) ⟨Nat.le_of_ble_eq_true rfl, Nat.le_of_ble_eq_true rfl, Nat.le_of_ble_eq_true rfl, Nat.le_of_ble_eq_true rfl⟩ (Nat.le_of_ble_eq_true rfl) ?_
                          intro r w hq
                          obtain ⟨rfl, rfl⟩ := hq
                          refine z_Vi1 d_Mo_person_65 k_Mo_322 (by first | assumption | exact zS0_at (by assumption) (by omega) | exact zS0_at rfl (by omega)) (t_Mo_worthAll M N1) ⟨Nat.le_of_ble_eq_true rfl, Nat.le_of_ble_eq_true rfl, Nat.le_of_ble_eq_true rfl, Nat.le_of_ble_eq_true rfl⟩ (Nat.le_of_ble_eq_true rfl) ?_
                          intro r w hq
                          obtain ⟨rfl, rfl⟩ := hq
                          refine z_reti d_Mo_person_68 ?_
                          exact ⟨by first | rfl | assumption | (rw [e150]), _, _, rfl, (by repeat (first | exact h1 | refine mqF_z ?_ (by decide))), mqJ_r, (by first | exact zu_same _ _ _ _ | exact h0)⟩))
              · first
                | (simp (disch := omega) only [← nI_0, nI_leI, nI_ltI, nI_eq, not_true_eq_false, not_false_eq_true] at h45; done)
                | (simp (disch := omega) only [← nI_0, nI_leI, nI_ltI, nI_eq, not_true_eq_false, not_false_eq_true] at h45; omega)
                | contradiction
                | exact absurd h45 (Int32.not_lt.mpr (by assumption))
                | exact absurd h45 (Int32.not_le.mpr (by assumption))
                | exact absurd h45 (by decide)
                | exact absurd (by decide) h45
                | ( try simp (disch := omega) only [← nI_0, nI_leI, nI_ltI, nI_eq, not_true_eq_false, not_false_eq_true] at h45
                    (try have h45b := zbit_n0.mp h45); (try have h45b := zbit_p0.mp h45)
                    refine z_aload_0 d_Mo_person_48 ?_
                    refine z_iload_1 d_Mo_person_49 ?_
                    refine z_Vi1 d_Mo_person_50 k_Mo_341 (by first | assumption | exact zS0_at (by assumption) (by omega) | exact zS0_at rfl (by omega)) (t_Mo_tinsOn M N1) ⟨Nat.le_of_ble_eq_true rfl, Nat.le_of_ble_eq_true rfl, Nat.le_of_ble_eq_true rfl, Nat.le_of_ble_eq_true rfl⟩ (Nat.le_of_ble_eq_true rfl) ?_
                    intro r w hq
                    obtain ⟨rfl, rfl⟩ := hq
                    refine z_reti d_Mo_person_53 ?_
                    exact ⟨by first | rfl | assumption | (rw [e150]), _, _, rfl, (by repeat (first | exact h1 | refine mqF_z ?_ (by decide))), mqJ_r, (by first | exact zu_same _ _ _ _ | exact h0)⟩))
        · first
          | contradiction
          | ( skip
              refine z_if_ne (tgt := 43) d_Mo_person_34 (by decide) (fun h => absurd h (by decide)) (fun _ => ?_)
              refine z_aload_0 d_Mo_person_37 ?_
              refine z_iconst (a := nI 5) d_Mo_person_38 (by decide) ?_
              refine z_Vi1 d_Mo_person_39 k_Mo_327 (by first | assumption | exact zS0_at (by assumption) (by omega) | exact zS0_at rfl (by omega)) (t_Mo_refuse (by assumption)) ⟨Nat.le_of_ble_eq_true rfl, Nat.le_of_ble_eq_true rfl, Nat.le_of_ble_eq_true rfl, Nat.le_of_ble_eq_true rfl⟩ (Nat.le_of_ble_eq_true rfl) ?_
              intro r w hq
              obtain ⟨rfl, rfl⟩ := hq
              refine z_reti d_Mo_person_42 ?_
              exact ⟨by first | rfl | assumption | (rw [e150]), _, _, rfl, (by repeat (first | exact h1 | refine mqF_z ?_ (by decide))), mqJ_r, (by first | exact zu_same _ _ _ _ | exact h0)⟩))
  · first
    | contradiction
    | ( skip
        refine z_if_ne (tgt := 25) d_Mo_person_16 (by decide) (fun h => absurd h (by decide)) (fun _ => ?_)
        refine z_aload_0 d_Mo_person_19 ?_
        refine z_iconst (a := nI 2) d_Mo_person_20 (by decide) ?_
        refine z_Vi1 d_Mo_person_21 k_Mo_327 (by first | assumption | exact zS0_at (by assumption) (by omega) | exact zS0_at rfl (by omega)) (t_Mo_refuse (by assumption)) ⟨Nat.le_of_ble_eq_true rfl, Nat.le_of_ble_eq_true rfl, Nat.le_of_ble_eq_true rfl, Nat.le_of_ble_eq_true rfl⟩ (Nat.le_of_ble_eq_true rfl) ?_
        intro r w hq
        obtain ⟨rfl, rfl⟩ := hq
        refine z_reti d_Mo_person_24 ?_
        exact ⟨by first | rfl | assumption | (rw [e150]), _, _, rfl, (by repeat (first | exact h1 | refine mqF_z ?_ (by decide))), mqJ_r, (by first | exact zu_same _ _ _ _ | exact h0)⟩)
theorem t_Mo_person_4 {p : Nat} (M : modOk P S) (N : modIn I nt np nl nn) (hp : p < np) : zEi G y_Mo_person prog_14_method_86_code 3 (some .int) 4 [.ref 145, .int (nI p), .int (nI 4)] (I, J, P, S) (fun r w => r = s_sum (zB (s_set (fun t => decide (I 150 (42 + t) = nI p)) nn)) (fun t => I 150 (6 + (I 150 (33 + t)).toNatClampNeg)) nn ∧ mW I J P S 0 w) := by
  obtain ⟨M0, ⟨M4, M4s⟩, ⟨M5, M5s⟩, ⟨M6, M6s⟩, ⟨M7, M7s⟩, ⟨M20, M20s⟩, ⟨M21, M21s⟩, ⟨M22, M22s⟩, ⟨M26, M26s⟩, ⟨M27, M27s⟩, ⟨M28, M28s⟩, ⟨M30, M30s⟩, ⟨M34, M34s⟩, ⟨M36, M36s⟩, ⟨M37, M37s⟩⟩ := id M
  obtain ⟨I1, hI1, N1, h1, h0, e150, er, ek⟩ := mo_beg N
  obtain ⟨⟨m0, m0b⟩, ⟨m1, m1b⟩, ⟨m2, m2b⟩, ⟨m3, m3b⟩, mof, mon⟩ := id N1
  have hD : mD I I1 := ⟨h1, h0, e150, er⟩
  refine zEi_of (lv := [some (.ref 145), some (.int (nI p)), some (.int (nI 4))]) (by decide) rfl (Nat.le_of_ble_eq_true rfl) ?_
  refine z_aload_0 d_Mo_person_0 ?_
  refine z_iconst (a := nI 0) d_Mo_person_1 (by decide) ?_
  refine z_putI d_Mo_person_2 f_Mo_70 (by first | assumption | exact zS0_at (by assumption) (by omega) | exact zS0_at rfl (by omega)) ?_
  refine z_aload_0 d_Mo_person_5 ?_
  refine z_iconst (a := nI 0) d_Mo_person_6 (by decide) ?_
  refine z_putI d_Mo_person_7 f_Mo_73 (by first | assumption | exact zS0_at (by assumption) (by omega) | exact zS0_at rfl (by omega)) ?_
  rw [← hI1]
  have hz : zin (nI p) np := ⟨p, by omega, rfl⟩
  have hzb : zin (nI 4) 5 := ⟨4, by decide, rfl⟩
  refine z_aload_0 d_Mo_person_10 ?_
  refine z_iload_1 d_Mo_person_11 ?_
  refine z_i2l d_Mo_person_12 ?_
  refine z_Vi1 d_Mo_person_13 k_Mo_336 (by first | assumption | exact zS0_at (by assumption) (by omega) | exact zS0_at rfl (by omega)) (t_Mo_isPersonAtI M N1) ⟨Nat.le_of_ble_eq_true rfl, Nat.le_of_ble_eq_true rfl, Nat.le_of_ble_eq_true rfl, Nat.le_of_ble_eq_true rfl⟩ (Nat.le_of_ble_eq_true rfl) ?_
  intro r w hq
  rcases hq with ⟨⟨hz13, rfl⟩ | ⟨hz13, rfl⟩, rfl⟩
  · first
    | contradiction
    | ( skip
        refine z_if_ne (tgt := 25) d_Mo_person_16 (by decide) (fun _ => ?_) (fun h => absurd h (by decide))
        refine z_iload_2 d_Mo_person_25 ?_
        refine z_i2l d_Mo_person_26 ?_
        refine z_lconst (f := lN 0) d_Mo_person_27 rfl ?_
        refine z_ldc2 d_Mo_person_28 c_Mo_339 ?_
        refine z_Si3 d_Mo_person_31 k_Mo_105 (t_Mo_isInZ (m := 5) (by decide) (by decide)) ⟨Nat.le_of_ble_eq_true rfl, Nat.le_of_ble_eq_true rfl, Nat.le_of_ble_eq_true rfl, Nat.le_of_ble_eq_true rfl⟩ (Nat.le_of_ble_eq_true rfl) ?_
        intro r w hq
        rcases hq with ⟨⟨hz31, rfl⟩ | ⟨hz31, rfl⟩, rfl⟩
        · first
          | contradiction
          | ( skip
              refine z_if_ne (tgt := 43) d_Mo_person_34 (by decide) (fun _ => ?_) (fun h => absurd h (by decide))
              refine z_iload_2 d_Mo_person_43 ?_
              refine z_iconst (a := nI 2) d_Mo_person_44 (by decide) ?_
              refine z_icmp_ne (tgt := 54) d_Mo_person_45 (by decide) (fun h45 => ?_) (fun h45 => ?_)
              · first
                | (simp (disch := omega) only [← nI_0, nI_leI, nI_ltI, nI_eq, not_true_eq_false, not_false_eq_true] at h45; done)
                | (simp (disch := omega) only [← nI_0, nI_leI, nI_ltI, nI_eq, not_true_eq_false, not_false_eq_true] at h45; omega)
                | contradiction
                | exact absurd h45 (Int32.not_lt.mpr (by assumption))
                | exact absurd h45 (Int32.not_le.mpr (by assumption))
                | exact absurd h45 (by decide)
                | exact absurd (by decide) h45
                | ( try simp (disch := omega) only [← nI_0, nI_leI, nI_ltI, nI_eq, not_true_eq_false, not_false_eq_true] at h45
                    (try have h45b := zbit_n0.mp h45); (try have h45b := zbit_p0.mp h45)
                    refine z_iload_2 d_Mo_person_54 ?_
                    refine z_iconst (a := nI 4) d_Mo_person_55 (by decide) ?_
                    refine z_icmp_ne (tgt := 69) d_Mo_person_56 (by decide) (fun h56 => ?_) (fun h56 => ?_)
                    · first
                      | (simp (disch := omega) only [← nI_0, nI_leI, nI_ltI, nI_eq, not_true_eq_false, not_false_eq_true] at h56; done)
                      | (simp (disch := omega) only [← nI_0, nI_leI, nI_ltI, nI_eq, not_true_eq_false, not_false_eq_true] at h56; omega)
                      | contradiction
                      | exact absurd h56 (Int32.not_lt.mpr (by assumption))
                      | exact absurd h56 (Int32.not_le.mpr (by assumption))
                      | exact absurd h56 (by decide)
                      | exact absurd (by decide) h56
                      | ( try simp (disch := omega) only [← nI_0, nI_leI, nI_ltI, nI_eq, not_true_eq_false, not_false_eq_true] at h56
                          (try have h56b := zbit_n0.mp h56); (try have h56b := zbit_p0.mp h56)
                          refine z_aload_0 d_Mo_person_69 ?_
                          refine z_getR d_Mo_person_70 f_Mo_35 (by first | assumption | exact zS0_at (by assumption) (by omega) | exact zS0_at rfl (by omega)) (by first | assumption | exact zS0_at (by assumption) (by omega) | exact zS0_at rfl (by omega)) ?_
                          refine z_iload_2 d_Mo_person_73 ?_
                          refine z_if_ne (tgt := 82) d_Mo_person_74 (by decide) (fun h74 => ?_) (fun h74 => ?_)
                          · first
                            | (simp (disch := omega) only [← nI_0, nI_leI, nI_ltI, nI_eq, not_true_eq_false, not_false_eq_true] at h74; done)
                            | (simp (disch := omega) only [← nI_0, nI_leI, nI_ltI, nI_eq, not_true_eq_false, not_false_eq_true] at h74; omega)
                            | contradiction
                            | exact absurd h74 (Int32.not_lt.mpr (by assumption))
                            | exact absurd h74 (Int32.not_le.mpr (by assumption))
                            | exact absurd h74 (by decide)
                            | exact absurd (by decide) h74
                            | ( try simp (disch := omega) only [← nI_0, nI_leI, nI_ltI, nI_eq, not_true_eq_false, not_false_eq_true] at h74
                                (try have h74b := zbit_n0.mp h74); (try have h74b := zbit_p0.mp h74)
                                refine z_iload_2 d_Mo_person_82 ?_
                                refine z_iconst (a := nI 1) d_Mo_person_83 (by decide) ?_
                                refine z_icmp_ne (tgt := 92) d_Mo_person_84 (by decide) (fun h84 => ?_) (fun h84 => ?_)
                                · first
                                  | (simp (disch := omega) only [← nI_0, nI_leI, nI_ltI, nI_eq, not_true_eq_false, not_false_eq_true] at h84; done)
                                  | (simp (disch := omega) only [← nI_0, nI_leI, nI_ltI, nI_eq, not_true_eq_false, not_false_eq_true] at h84; omega)
                                  | contradiction
                                  | exact absurd h84 (Int32.not_lt.mpr (by assumption))
                                  | exact absurd h84 (Int32.not_le.mpr (by assumption))
                                  | exact absurd h84 (by decide)
                                  | exact absurd (by decide) h84
                                  | ( try simp (disch := omega) only [← nI_0, nI_leI, nI_ltI, nI_eq, not_true_eq_false, not_false_eq_true] at h84
                                      (try have h84b := zbit_n0.mp h84); (try have h84b := zbit_p0.mp h84)
                                      refine z_bipush (a := nI 26) d_Mo_person_92 (by decide) ?_
                                      refine z_iload_1 d_Mo_person_94 ?_
                                      first | refine z_iaddN d_Mo_person_95 ?_ | refine z_iadd d_Mo_person_95 ?_
                                      first | refine z_ialdNv d_Mo_person_96 (by first | assumption | exact zS0_at (by assumption) (by omega) | exact zS0_at rfl (by omega)) (by omega) (by first | decide | omega) (by first | assumption | ((try simp (disch := omega) only [zu_same, zu_ne, zcp_ne, zfl_ne]); first | assumption | rfl)) ?_ | refine z_iald d_Mo_person_96 (by first | assumption | exact zS0_at (by assumption) (by omega) | exact zS0_at rfl (by omega)) (by first | assumption | exact zS0_at (by assumption) (by omega) | exact zS0_at rfl (by omega)) ?_
                                      refine z_reti d_Mo_person_97 ?_
                                      exact ⟨by first | rfl | assumption | (rw [e150]), _, _, rfl, (by repeat (first | exact h1 | refine mqF_z ?_ (by decide))), mqJ_r, (by first | exact zu_same _ _ _ _ | exact h0)⟩)
                                · first
                                  | (simp (disch := omega) only [← nI_0, nI_leI, nI_ltI, nI_eq, not_true_eq_false, not_false_eq_true] at h84; done)
                                  | (simp (disch := omega) only [← nI_0, nI_leI, nI_ltI, nI_eq, not_true_eq_false, not_false_eq_true] at h84; omega)
                                  | contradiction
                                  | exact absurd h84 (Int32.not_lt.mpr (by assumption))
                                  | exact absurd h84 (Int32.not_le.mpr (by assumption))
                                  | exact absurd h84 (by decide)
                                  | exact absurd (by decide) h84
                                  | ( try simp (disch := omega) only [← nI_0, nI_leI, nI_ltI, nI_eq, not_true_eq_false, not_false_eq_true] at h84
                                      (try have h84b := zbit_n0.mp h84); (try have h84b := zbit_p0.mp h84)
                                      refine z_bipush (a := nI 19) d_Mo_person_87 (by decide) ?_
                                      refine z_goto (tgt := 94) d_Mo_person_89 (by decide) ?_
                                      refine z_iload_1 d_Mo_person_94 ?_
                                      first | refine z_iaddN d_Mo_person_95 ?_ | refine z_iadd d_Mo_person_95 ?_
                                      first | refine z_ialdNv d_Mo_person_96 (by first | assumption | exact zS0_at (by assumption) (by omega) | exact zS0_at rfl (by omega)) (by omega) (by first | decide | omega) (by first | assumption | ((try simp (disch := omega) only [zu_same, zu_ne, zcp_ne, zfl_ne]); first | assumption | rfl)) ?_ | refine z_iald d_Mo_person_96 (by first | assumption | exact zS0_at (by assumption) (by omega) | exact zS0_at rfl (by omega)) (by first | assumption | exact zS0_at (by assumption) (by omega) | exact zS0_at rfl (by omega)) ?_
                                      refine z_reti d_Mo_person_97 ?_
                                      exact ⟨by first | rfl | assumption | (rw [e150]), _, _, rfl, (by repeat (first | exact h1 | refine mqF_z ?_ (by decide))), mqJ_r, (by first | exact zu_same _ _ _ _ | exact h0)⟩))
                          · first
                            | (simp (disch := omega) only [← nI_0, nI_leI, nI_ltI, nI_eq, not_true_eq_false, not_false_eq_true] at h74; done)
                            | (simp (disch := omega) only [← nI_0, nI_leI, nI_ltI, nI_eq, not_true_eq_false, not_false_eq_true] at h74; omega)
                            | contradiction
                            | exact absurd h74 (Int32.not_lt.mpr (by assumption))
                            | exact absurd h74 (Int32.not_le.mpr (by assumption))
                            | exact absurd h74 (by decide)
                            | exact absurd (by decide) h74
                            | ( try simp (disch := omega) only [← nI_0, nI_leI, nI_ltI, nI_eq, not_true_eq_false, not_false_eq_true] at h74
                                (try have h74b := zbit_n0.mp h74); (try have h74b := zbit_p0.mp h74)
                                refine z_bipush (a := nI 12) d_Mo_person_77 (by decide) ?_
                                refine z_goto (tgt := 94) d_Mo_person_79 (by decide) ?_
                                refine z_iload_1 d_Mo_person_94 ?_
                                first | refine z_iaddN d_Mo_person_95 ?_ | refine z_iadd d_Mo_person_95 ?_
                                first | refine z_ialdNv d_Mo_person_96 (by first | assumption | exact zS0_at (by assumption) (by omega) | exact zS0_at rfl (by omega)) (by omega) (by first | decide | omega) (by first | assumption | ((try simp (disch := omega) only [zu_same, zu_ne, zcp_ne, zfl_ne]); first | assumption | rfl)) ?_ | refine z_iald d_Mo_person_96 (by first | assumption | exact zS0_at (by assumption) (by omega) | exact zS0_at rfl (by omega)) (by first | assumption | exact zS0_at (by assumption) (by omega) | exact zS0_at rfl (by omega)) ?_
                                refine z_reti d_Mo_person_97 ?_
                                exact ⟨by first | rfl | assumption | (rw [e150]), _, _, rfl, (by repeat (first | exact h1 | refine mqF_z ?_ (by decide))), mqJ_r, (by first | exact zu_same _ _ _ _ | exact h0)⟩))
                    · first
                      | (simp (disch := omega) only [← nI_0, nI_leI, nI_ltI, nI_eq, not_true_eq_false, not_false_eq_true] at h56; done)
                      | (simp (disch := omega) only [← nI_0, nI_leI, nI_ltI, nI_eq, not_true_eq_false, not_false_eq_true] at h56; omega)
                      | contradiction
                      | exact absurd h56 (Int32.not_lt.mpr (by assumption))
                      | exact absurd h56 (Int32.not_le.mpr (by assumption))
                      | exact absurd h56 (by decide)
                      | exact absurd (by decide) h56
                      | ( try simp (disch := omega) only [← nI_0, nI_leI, nI_ltI, nI_eq, not_true_eq_false, not_false_eq_true] at h56
                          (try have h56b := zbit_n0.mp h56); (try have h56b := zbit_p0.mp h56)
                          refine z_aload_0 d_Mo_person_59 ?_
                          refine z_aload_0 d_Mo_person_60 ?_
                          refine z_iload_1 d_Mo_person_61 ?_
                          refine z_Vi1 d_Mo_person_62 k_Mo_341 (by first | assumption | exact zS0_at (by assumption) (by omega) | exact zS0_at rfl (by omega)) (t_Mo_tinsOn M N1) ⟨Nat.le_of_ble_eq_true rfl, Nat.le_of_ble_eq_true rfl, Nat.le_of_ble_eq_true rfl, Nat.le_of_ble_eq_true rfl⟩ (Nat.le_of_ble_eq_true rfl) ?_
                          intro r w hq
                          obtain ⟨rfl, rfl⟩ := hq
                          refine z_Vi1 d_Mo_person_65 k_Mo_322 (by first | assumption | exact zS0_at (by assumption) (by omega) | exact zS0_at rfl (by omega)) (t_Mo_worthAll M N1) ⟨Nat.le_of_ble_eq_true rfl, Nat.le_of_ble_eq_true rfl, Nat.le_of_ble_eq_true rfl, Nat.le_of_ble_eq_true rfl⟩ (Nat.le_of_ble_eq_true rfl) ?_
                          intro r w hq
                          obtain ⟨rfl, rfl⟩ := hq
                          refine z_reti d_Mo_person_68 ?_
                          exact ⟨by first | rfl | assumption | (rw [e150]), _, _, rfl, (by repeat (first | exact h1 | refine mqF_z ?_ (by decide))), mqJ_r, (by first | exact zu_same _ _ _ _ | exact h0)⟩))
              · first
                | (simp (disch := omega) only [← nI_0, nI_leI, nI_ltI, nI_eq, not_true_eq_false, not_false_eq_true] at h45; done)
                | (simp (disch := omega) only [← nI_0, nI_leI, nI_ltI, nI_eq, not_true_eq_false, not_false_eq_true] at h45; omega)
                | contradiction
                | exact absurd h45 (Int32.not_lt.mpr (by assumption))
                | exact absurd h45 (Int32.not_le.mpr (by assumption))
                | exact absurd h45 (by decide)
                | exact absurd (by decide) h45
                | ( try simp (disch := omega) only [← nI_0, nI_leI, nI_ltI, nI_eq, not_true_eq_false, not_false_eq_true] at h45
                    (try have h45b := zbit_n0.mp h45); (try have h45b := zbit_p0.mp h45)
                    refine z_aload_0 d_Mo_person_48 ?_
                    refine z_iload_1 d_Mo_person_49 ?_
                    refine z_Vi1 d_Mo_person_50 k_Mo_341 (by first | assumption | exact zS0_at (by assumption) (by omega) | exact zS0_at rfl (by omega)) (t_Mo_tinsOn M N1) ⟨Nat.le_of_ble_eq_true rfl, Nat.le_of_ble_eq_true rfl, Nat.le_of_ble_eq_true rfl, Nat.le_of_ble_eq_true rfl⟩ (Nat.le_of_ble_eq_true rfl) ?_
                    intro r w hq
                    obtain ⟨rfl, rfl⟩ := hq
                    refine z_reti d_Mo_person_53 ?_
                    exact ⟨by first | rfl | assumption | (rw [e150]), _, _, rfl, (by repeat (first | exact h1 | refine mqF_z ?_ (by decide))), mqJ_r, (by first | exact zu_same _ _ _ _ | exact h0)⟩))
        · first
          | contradiction
          | ( skip
              refine z_if_ne (tgt := 43) d_Mo_person_34 (by decide) (fun h => absurd h (by decide)) (fun _ => ?_)
              refine z_aload_0 d_Mo_person_37 ?_
              refine z_iconst (a := nI 5) d_Mo_person_38 (by decide) ?_
              refine z_Vi1 d_Mo_person_39 k_Mo_327 (by first | assumption | exact zS0_at (by assumption) (by omega) | exact zS0_at rfl (by omega)) (t_Mo_refuse (by assumption)) ⟨Nat.le_of_ble_eq_true rfl, Nat.le_of_ble_eq_true rfl, Nat.le_of_ble_eq_true rfl, Nat.le_of_ble_eq_true rfl⟩ (Nat.le_of_ble_eq_true rfl) ?_
              intro r w hq
              obtain ⟨rfl, rfl⟩ := hq
              refine z_reti d_Mo_person_42 ?_
              exact ⟨by first | rfl | assumption | (rw [e150]), _, _, rfl, (by repeat (first | exact h1 | refine mqF_z ?_ (by decide))), mqJ_r, (by first | exact zu_same _ _ _ _ | exact h0)⟩))
  · first
    | contradiction
    | ( skip
        refine z_if_ne (tgt := 25) d_Mo_person_16 (by decide) (fun h => absurd h (by decide)) (fun _ => ?_)
        refine z_aload_0 d_Mo_person_19 ?_
        refine z_iconst (a := nI 2) d_Mo_person_20 (by decide) ?_
        refine z_Vi1 d_Mo_person_21 k_Mo_327 (by first | assumption | exact zS0_at (by assumption) (by omega) | exact zS0_at rfl (by omega)) (t_Mo_refuse (by assumption)) ⟨Nat.le_of_ble_eq_true rfl, Nat.le_of_ble_eq_true rfl, Nat.le_of_ble_eq_true rfl, Nat.le_of_ble_eq_true rfl⟩ (Nat.le_of_ble_eq_true rfl) ?_
        intro r w hq
        obtain ⟨rfl, rfl⟩ := hq
        refine z_reti d_Mo_person_24 ?_
        exact ⟨by first | rfl | assumption | (rw [e150]), _, _, rfl, (by repeat (first | exact h1 | refine mqF_z ?_ (by decide))), mqJ_r, (by first | exact zu_same _ _ _ _ | exact h0)⟩)
theorem L_person (h : zInv n w) : zEi G y_Tf_person prog_1_method_15_code 3 (some .int) 4 [.ref 0, .int a, .int b] w (fun r w1 => w1.2.2.2 = w.2.2.2 ∧ zEi G y_Mo_person prog_14_method_86_code 3 (some .int) 4 [.ref 145, .int a, .int b] w1 (fun r' w2 => r' = r ∧ zInv (n + 1) w2)) := by
  obtain ⟨f, d, nt, np, nl, nn, fed, mk, I, J, P, S, rfl, Z, X⟩ := h
  have M := clOk_M Z
  have hf := clOk_f Z
  have N := stR_fen X
  have N0 := stR_mod X
  have fm := stR_fm X
  obtain ⟨⟨⟨a1, r1, b1⟩, ⟨a2, r2, b2⟩, ⟨a3, r3, b3⟩, ⟨a4, r4, b4⟩⟩, ⟨⟨o, ob, ao, ro⟩, r5⟩, fw, fp, ft, fz⟩ := id fm
  rcases zin_or a np (by omega) with ⟨-, h⟩ | ⟨p, hp, rfl⟩
  · exact L_q Z X (t_Tf_person_o Z N h) (fun I' J' e _ => ⟨_, rfl, t_Mo_person_o M (modIn_c N0 (e 150 (by decide))) h⟩)
  rcases zin_or b 5 (by omega) with ⟨-, h⟩ | ⟨j, hj, rfl⟩
  · exact L_q Z X (t_Tf_person_b Z N hp h) (fun I' J' e _ => ⟨_, rfl, t_Mo_person_b M (modIn_c N0 (e 150 (by decide))) hp h⟩)
  rcases (show j = 0 ∨ j = 1 ∨ j = 2 ∨ j = 3 ∨ j = 4 by omega) with rfl | rfl | rfl | rfl | rfl
  · exact L_q Z X (t_Tf_person_0 Z N hp) (fun I' J' e _ => ⟨_, by rw [e 150 (by decide)]; exact (fp p hp).1, t_Mo_person_0 M (modIn_c N0 (e 150 (by decide))) hp⟩)
  · exact L_q Z X (t_Tf_person_1 Z N hp) (fun I' J' e _ => ⟨_, by rw [e 150 (by decide)]; exact (fp p hp).2.1, t_Mo_person_1 M (modIn_c N0 (e 150 (by decide))) hp⟩)
  · exact L_q Z X (t_Tf_person_2 Z N hp) (fun I' J' e _ => ⟨_, by rw [e 150 (by decide)]; exact s_set_congr _ (fun t ht => by rw [(ft t ht).2.1.2]; rfl), t_Mo_person_2 M (modIn_c N0 (e 150 (by decide))) hp⟩)
  · exact L_q Z X (t_Tf_person_3 Z N hp) (fun I' J' e _ => ⟨_, by rw [e 150 (by decide)]; obtain ⟨-, -, v, -, v1, v2⟩ := fp p hp; exact v2.trans v1.symm, t_Mo_person_3 M (modIn_c N0 (e 150 (by decide))) hp⟩)
  · exact L_q Z X (t_Tf_person_4 Z N hp) (fun I' J' e _ => ⟨_, by rw [e 150 (by decide)]; exact worth_eq fw (fun t ht => (ft t ht).1) b1 (fun t ht => by rw [s_set_congr nn (fun t ht => by rw [(ft t ht).2.1.2])]; rfl), t_Mo_person_4 M (modIn_c N0 (e 150 (by decide))) hp⟩)
theorem t_Tf_tin_o (Z : clOk f d P S) (N : fenIn I f nt np nl nn) (h : ¬ zin a nn) : zEi G y_Tf_tin prog_1_method_16_code 3 (some .int) 4 [.ref 0, .int a, .int b] (I, J, P, S) (fun r w => r = -1 ∧ cW I J P S 2 w) := by
  obtain ⟨⟨c0, c3, c1s⟩, ⟨c5, c2s, ctr⟩, ⟨c6, c11s, c11, c13s⟩, ⟨c7, c15s, c15⟩, ⟨c8, c16s, c16a, c16b, c17s⟩, ⟨c9, c10, cfd, F, Fd⟩, ⟨c11b, Ft⟩, ⟨c12, c69s, cmk⟩, ⟨c14, c121s, c121, c122s⟩, ⟨c15b, c123s, c123, c124s⟩, ⟨c16, c125s, c125, c126s⟩, ⟨c17, c127s, c127, c128s, ctb⟩, ⟨c18, c139s, c139, c140s⟩, ⟨c19, c141s, ⟨c141a, c142s⟩, ⟨c141b, c143s⟩, ⟨c141c, c144s⟩⟩, M⟩ := id Z
  obtain ⟨F0, ⟨F8, F8s⟩, ⟨F9, F9s⟩, ⟨F10, F10s⟩, ⟨F11, F11s⟩, ⟨F12, F12s⟩, ⟨F13, F13s⟩, ⟨F14, F14s⟩, ⟨F15, F15s⟩, ⟨F16, F16s⟩, ⟨F17, F17s⟩, ⟨F18, F18s⟩, ⟨F19, F19s⟩, ⟨Y3, Y3s⟩, ⟨Y4, Y4s⟩, ⟨Y5, Y5s⟩, ⟨Y6, Y6s⟩⟩ := id F
  obtain ⟨⟨n1, n1b⟩, ⟨n2, n2b⟩, ⟨n3, n3b⟩, ⟨n4, n4b⟩, nof, non⟩ := id N
  refine zEi_of (lv := [some (.ref 0), some (.int a), some (.int b)]) (by decide) rfl (Nat.le_of_ble_eq_true rfl) ?_
  refine z_aload_0 d_Tf_tin_0 ?_
  refine z_iload_1 d_Tf_tin_1 ?_
  refine z_Vi1 d_Tf_tin_2 k_Tf_249 (by first | assumption | exact zS0_at (by assumption) (by omega) | exact zS0_at rfl (by omega)) (t_Tf_noTin Z N) ⟨Nat.le_of_ble_eq_true rfl, Nat.le_of_ble_eq_true rfl, Nat.le_of_ble_eq_true rfl, Nat.le_of_ble_eq_true rfl⟩ (Nat.le_of_ble_eq_true rfl) ?_
  intro r w hq
  rcases hq with ⟨⟨hz2, rfl⟩ | ⟨hz2, rfl⟩, rfl⟩
  · first
    | contradiction
    | ( skip
        refine z_if_eq (tgt := 14) d_Tf_tin_5 (by decide) (fun h => absurd h (by decide)) (fun _ => ?_)
        refine z_aload_0 d_Tf_tin_8 ?_
        refine z_iconst (a := nI 2) d_Tf_tin_9 (by decide) ?_
        refine z_Vi1 d_Tf_tin_10 k_Tf_138 (by first | assumption | exact zS0_at (by assumption) (by omega) | exact zS0_at rfl (by omega)) (t_Tf_fail (by assumption)) ⟨Nat.le_of_ble_eq_true rfl, Nat.le_of_ble_eq_true rfl, Nat.le_of_ble_eq_true rfl, Nat.le_of_ble_eq_true rfl⟩ (Nat.le_of_ble_eq_true rfl) ?_
        intro r w hq
        obtain ⟨rfl, rfl⟩ := hq
        refine z_reti d_Tf_tin_13 ?_
        exact ⟨by first | rfl | assumption, cW_0⟩)
  · first
    | contradiction
    | ( skip
        refine z_if_eq (tgt := 14) d_Tf_tin_5 (by decide) (fun _ => ?_) (fun h => absurd h (by decide))
        contradiction)
theorem t_Tf_tin_b {t : Nat} (Z : clOk f d P S) (N : fenIn I f nt np nl nn) (ht : t < nn) (hb : ¬ zin b 5) : zEi G y_Tf_tin prog_1_method_16_code 3 (some .int) 4 [.ref 0, .int (nI t), .int b] (I, J, P, S) (fun r w => r = -1 ∧ cW I J P S 5 w) := by
  obtain ⟨⟨c0, c3, c1s⟩, ⟨c5, c2s, ctr⟩, ⟨c6, c11s, c11, c13s⟩, ⟨c7, c15s, c15⟩, ⟨c8, c16s, c16a, c16b, c17s⟩, ⟨c9, c10, cfd, F, Fd⟩, ⟨c11b, Ft⟩, ⟨c12, c69s, cmk⟩, ⟨c14, c121s, c121, c122s⟩, ⟨c15b, c123s, c123, c124s⟩, ⟨c16, c125s, c125, c126s⟩, ⟨c17, c127s, c127, c128s, ctb⟩, ⟨c18, c139s, c139, c140s⟩, ⟨c19, c141s, ⟨c141a, c142s⟩, ⟨c141b, c143s⟩, ⟨c141c, c144s⟩⟩, M⟩ := id Z
  obtain ⟨F0, ⟨F8, F8s⟩, ⟨F9, F9s⟩, ⟨F10, F10s⟩, ⟨F11, F11s⟩, ⟨F12, F12s⟩, ⟨F13, F13s⟩, ⟨F14, F14s⟩, ⟨F15, F15s⟩, ⟨F16, F16s⟩, ⟨F17, F17s⟩, ⟨F18, F18s⟩, ⟨F19, F19s⟩, ⟨Y3, Y3s⟩, ⟨Y4, Y4s⟩, ⟨Y5, Y5s⟩, ⟨Y6, Y6s⟩⟩ := id F
  obtain ⟨⟨n1, n1b⟩, ⟨n2, n2b⟩, ⟨n3, n3b⟩, ⟨n4, n4b⟩, nof, non⟩ := id N
  have hz : zin (nI t) nn := ⟨t, by omega, rfl⟩
  have hbo : b.toInt < 0 ∨ (4 : Int) < b.toInt := by rw [zin_int (by decide)] at hb; omega
  refine zEi_of (lv := [some (.ref 0), some (.int (nI t)), some (.int b)]) (by decide) rfl (Nat.le_of_ble_eq_true rfl) ?_
  refine z_aload_0 d_Tf_tin_0 ?_
  refine z_iload_1 d_Tf_tin_1 ?_
  refine z_Vi1 d_Tf_tin_2 k_Tf_249 (by first | assumption | exact zS0_at (by assumption) (by omega) | exact zS0_at rfl (by omega)) (t_Tf_noTin Z N) ⟨Nat.le_of_ble_eq_true rfl, Nat.le_of_ble_eq_true rfl, Nat.le_of_ble_eq_true rfl, Nat.le_of_ble_eq_true rfl⟩ (Nat.le_of_ble_eq_true rfl) ?_
  intro r w hq
  rcases hq with ⟨⟨hz2, rfl⟩ | ⟨hz2, rfl⟩, rfl⟩
  · first
    | contradiction
    | ( skip
        refine z_if_eq (tgt := 14) d_Tf_tin_5 (by decide) (fun h => absurd h (by decide)) (fun _ => ?_)
        refine z_aload_0 d_Tf_tin_8 ?_
        refine z_iconst (a := nI 2) d_Tf_tin_9 (by decide) ?_
        refine z_Vi1 d_Tf_tin_10 k_Tf_138 (by first | assumption | exact zS0_at (by assumption) (by omega) | exact zS0_at rfl (by omega)) (t_Tf_fail (by assumption)) ⟨Nat.le_of_ble_eq_true rfl, Nat.le_of_ble_eq_true rfl, Nat.le_of_ble_eq_true rfl, Nat.le_of_ble_eq_true rfl⟩ (Nat.le_of_ble_eq_true rfl) ?_
        intro r w hq
        obtain ⟨rfl, rfl⟩ := hq
        refine z_reti d_Tf_tin_13 ?_
        exact ⟨by first | rfl | assumption, cW_0⟩)
  · first
    | contradiction
    | ( skip
        refine z_if_eq (tgt := 14) d_Tf_tin_5 (by decide) (fun _ => ?_) (fun h => absurd h (by decide))
        refine z_iload_2 d_Tf_tin_14 ?_
        refine z_tableOut (tgt := 140) d_Tf_tin_15 (hbo) (by decide) ?_
        refine z_aload_0 d_Tf_tin_140 ?_
        refine z_iconst (a := nI 5) d_Tf_tin_141 (by decide) ?_
        refine z_Vi1 d_Tf_tin_142 k_Tf_138 (by first | assumption | exact zS0_at (by assumption) (by omega) | exact zS0_at rfl (by omega)) (t_Tf_fail (by assumption)) ⟨Nat.le_of_ble_eq_true rfl, Nat.le_of_ble_eq_true rfl, Nat.le_of_ble_eq_true rfl, Nat.le_of_ble_eq_true rfl⟩ (Nat.le_of_ble_eq_true rfl) ?_
        intro r w hq
        obtain ⟨rfl, rfl⟩ := hq
        refine z_reti d_Tf_tin_145 ?_
        exact ⟨by first | rfl | assumption, cW_0⟩)
theorem t_Tf_tin_0 {t : Nat} (Z : clOk f d P S) (N : fenIn I f nt np nl nn) (ht : t < nn) : zEi G y_Tf_tin prog_1_method_16_code 3 (some .int) 4 [.ref 0, .int (nI t), .int (nI 0)] (I, J, P, S) (fun r w => r = I (f + 5) t ∧ cW I J P S 0 w) := by
  obtain ⟨⟨c0, c3, c1s⟩, ⟨c5, c2s, ctr⟩, ⟨c6, c11s, c11, c13s⟩, ⟨c7, c15s, c15⟩, ⟨c8, c16s, c16a, c16b, c17s⟩, ⟨c9, c10, cfd, F, Fd⟩, ⟨c11b, Ft⟩, ⟨c12, c69s, cmk⟩, ⟨c14, c121s, c121, c122s⟩, ⟨c15b, c123s, c123, c124s⟩, ⟨c16, c125s, c125, c126s⟩, ⟨c17, c127s, c127, c128s, ctb⟩, ⟨c18, c139s, c139, c140s⟩, ⟨c19, c141s, ⟨c141a, c142s⟩, ⟨c141b, c143s⟩, ⟨c141c, c144s⟩⟩, M⟩ := id Z
  obtain ⟨F0, ⟨F8, F8s⟩, ⟨F9, F9s⟩, ⟨F10, F10s⟩, ⟨F11, F11s⟩, ⟨F12, F12s⟩, ⟨F13, F13s⟩, ⟨F14, F14s⟩, ⟨F15, F15s⟩, ⟨F16, F16s⟩, ⟨F17, F17s⟩, ⟨F18, F18s⟩, ⟨F19, F19s⟩, ⟨Y3, Y3s⟩, ⟨Y4, Y4s⟩, ⟨Y5, Y5s⟩, ⟨Y6, Y6s⟩⟩ := id F
  obtain ⟨⟨n1, n1b⟩, ⟨n2, n2b⟩, ⟨n3, n3b⟩, ⟨n4, n4b⟩, nof, non⟩ := id N
  have hz : zin (nI t) nn := ⟨t, by omega, rfl⟩
  refine zEi_of (lv := [some (.ref 0), some (.int (nI t)), some (.int (nI 0))]) (by decide) rfl (Nat.le_of_ble_eq_true rfl) ?_
  refine z_aload_0 d_Tf_tin_0 ?_
  refine z_iload_1 d_Tf_tin_1 ?_
  refine z_Vi1 d_Tf_tin_2 k_Tf_249 (by first | assumption | exact zS0_at (by assumption) (by omega) | exact zS0_at rfl (by omega)) (t_Tf_noTin Z N) ⟨Nat.le_of_ble_eq_true rfl, Nat.le_of_ble_eq_true rfl, Nat.le_of_ble_eq_true rfl, Nat.le_of_ble_eq_true rfl⟩ (Nat.le_of_ble_eq_true rfl) ?_
  intro r w hq
  rcases hq with ⟨⟨hz2, rfl⟩ | ⟨hz2, rfl⟩, rfl⟩
  · first
    | contradiction
    | ( skip
        refine z_if_eq (tgt := 14) d_Tf_tin_5 (by decide) (fun h => absurd h (by decide)) (fun _ => ?_)
        refine z_aload_0 d_Tf_tin_8 ?_
        refine z_iconst (a := nI 2) d_Tf_tin_9 (by decide) ?_
        refine z_Vi1 d_Tf_tin_10 k_Tf_138 (by first | assumption | exact zS0_at (by assumption) (by omega) | exact zS0_at rfl (by omega)) (t_Tf_fail (by assumption)) ⟨Nat.le_of_ble_eq_true rfl, Nat.le_of_ble_eq_true rfl, Nat.le_of_ble_eq_true rfl, Nat.le_of_ble_eq_true rfl⟩ (Nat.le_of_ble_eq_true rfl) ?_
        intro r w hq
        obtain ⟨rfl, rfl⟩ := hq
        refine z_reti d_Tf_tin_13 ?_
        exact ⟨by first | rfl | assumption, cW_0⟩)
  · first
    | contradiction
    | ( skip
        refine z_if_eq (tgt := 14) d_Tf_tin_5 (by decide) (fun _ => ?_) (fun h => absurd h (by decide))
        refine z_iload_2 d_Tf_tin_14 ?_
        refine z_tableIn (off := 33) (tgt := 48) d_Tf_tin_15 (by decide) (by decide) (by decide) (by decide) ?_
        refine z_aload_0 d_Tf_tin_48 ?_
        refine z_aload_0 d_Tf_tin_49 ?_
        refine z_getR d_Tf_tin_50 f_Tf_60 (by first | assumption | exact zS0_at (by assumption) (by omega) | exact zS0_at rfl (by omega)) (by first | assumption | exact zS0_at (by assumption) (by omega) | exact zS0_at rfl (by omega)) ?_
        refine z_getR d_Tf_tin_53 f_Tf_252 (by first | assumption | exact zS0_at (by assumption) (by omega) | exact zS0_at rfl (by omega)) (by first | assumption | exact zS0_at (by assumption) (by omega) | exact zS0_at rfl (by omega)) ?_
        refine z_iload_1 d_Tf_tin_56 ?_
        first | refine z_ialdNv d_Tf_tin_57 (by first | assumption | exact zS0_at (by assumption) (by omega) | exact zS0_at rfl (by omega)) (by omega) (by first | decide | omega) (by first | assumption | ((try simp (disch := omega) only [zu_same, zu_ne, zcp_ne, zfl_ne]); first | assumption | rfl)) ?_ | refine z_iald d_Tf_tin_57 (by first | assumption | exact zS0_at (by assumption) (by omega) | exact zS0_at rfl (by omega)) (by first | assumption | exact zS0_at (by assumption) (by omega) | exact zS0_at rfl (by omega)) ?_
        refine z_Vi1 d_Tf_tin_58 k_Tf_174 (by first | assumption | exact zS0_at (by assumption) (by omega) | exact zS0_at rfl (by omega)) (t_Tf_give (by assumption)) ⟨Nat.le_of_ble_eq_true rfl, Nat.le_of_ble_eq_true rfl, Nat.le_of_ble_eq_true rfl, Nat.le_of_ble_eq_true rfl⟩ (Nat.le_of_ble_eq_true rfl) ?_
        intro r w hq
        obtain ⟨rfl, rfl⟩ := hq
        refine z_reti d_Tf_tin_61 ?_
        exact ⟨by first | rfl | assumption, cW_0⟩)
theorem t_Mo_tin_0 {t : Nat} (M : modOk P S) (N : modIn I nt np nl nn) (ht : t < nn) : zEi G y_Mo_tin prog_14_method_87_code 3 (some .int) 4 [.ref 145, .int (nI t), .int (nI 0)] (I, J, P, S) (fun r w => r = I 150 (33 + t) ∧ mW I J P S 0 w) := by
  obtain ⟨M0, ⟨M4, M4s⟩, ⟨M5, M5s⟩, ⟨M6, M6s⟩, ⟨M7, M7s⟩, ⟨M20, M20s⟩, ⟨M21, M21s⟩, ⟨M22, M22s⟩, ⟨M26, M26s⟩, ⟨M27, M27s⟩, ⟨M28, M28s⟩, ⟨M30, M30s⟩, ⟨M34, M34s⟩, ⟨M36, M36s⟩, ⟨M37, M37s⟩⟩ := id M
  obtain ⟨I1, hI1, N1, h1, h0, e150, er, ek⟩ := mo_beg N
  obtain ⟨⟨m0, m0b⟩, ⟨m1, m1b⟩, ⟨m2, m2b⟩, ⟨m3, m3b⟩, mof, mon⟩ := id N1
  have hD : mD I I1 := ⟨h1, h0, e150, er⟩
  refine zEi_of (lv := [some (.ref 145), some (.int (nI t)), some (.int (nI 0))]) (by decide) rfl (Nat.le_of_ble_eq_true rfl) ?_
  refine z_aload_0 d_Mo_tin_0 ?_
  refine z_iconst (a := nI 0) d_Mo_tin_1 (by decide) ?_
  refine z_putI d_Mo_tin_2 f_Mo_70 (by first | assumption | exact zS0_at (by assumption) (by omega) | exact zS0_at rfl (by omega)) ?_
  refine z_aload_0 d_Mo_tin_5 ?_
  refine z_iconst (a := nI 0) d_Mo_tin_6 (by decide) ?_
  refine z_putI d_Mo_tin_7 f_Mo_73 (by first | assumption | exact zS0_at (by assumption) (by omega) | exact zS0_at rfl (by omega)) ?_
  rw [← hI1]
  have hz : zin (nI t) nn := ⟨t, by omega, rfl⟩
  have hzb : zin (nI 0) 5 := ⟨0, by decide, rfl⟩
  have hr : I1 150 (33 + t) = I 150 (33 + t) := by rw [e150]
  refine z_aload_0 d_Mo_tin_10 ?_
  refine z_iload_1 d_Mo_tin_11 ?_
  refine z_Vi1 d_Mo_tin_12 k_Mo_344 (by first | assumption | exact zS0_at (by assumption) (by omega) | exact zS0_at rfl (by omega)) (t_Mo_isTinAt M N1) ⟨Nat.le_of_ble_eq_true rfl, Nat.le_of_ble_eq_true rfl, Nat.le_of_ble_eq_true rfl, Nat.le_of_ble_eq_true rfl⟩ (Nat.le_of_ble_eq_true rfl) ?_
  intro r w hq
  rcases hq with ⟨⟨hz12, rfl⟩ | ⟨hz12, rfl⟩, rfl⟩
  · first
    | contradiction
    | ( skip
        refine z_if_ne (tgt := 24) d_Mo_tin_15 (by decide) (fun _ => ?_) (fun h => absurd h (by decide))
        refine z_iload_2 d_Mo_tin_24 ?_
        refine z_i2l d_Mo_tin_25 ?_
        refine z_lconst (f := lN 0) d_Mo_tin_26 rfl ?_
        refine z_ldc2 d_Mo_tin_27 c_Mo_339 ?_
        refine z_Si3 d_Mo_tin_30 k_Mo_105 (t_Mo_isInZ (m := 5) (by decide) (by decide)) ⟨Nat.le_of_ble_eq_true rfl, Nat.le_of_ble_eq_true rfl, Nat.le_of_ble_eq_true rfl, Nat.le_of_ble_eq_true rfl⟩ (Nat.le_of_ble_eq_true rfl) ?_
        intro r w hq
        rcases hq with ⟨⟨hz30, rfl⟩ | ⟨hz30, rfl⟩, rfl⟩
        · first
          | contradiction
          | ( skip
              refine z_if_ne (tgt := 42) d_Mo_tin_33 (by decide) (fun _ => ?_) (fun h => absurd h (by decide))
              refine z_iload_2 d_Mo_tin_42 ?_
              refine z_iconst (a := nI 1) d_Mo_tin_43 (by decide) ?_
              refine z_icmp_ne (tgt := 74) d_Mo_tin_44 (by decide) (fun h44 => ?_) (fun h44 => ?_)
              · first
                | (simp (disch := omega) only [← nI_0, nI_leI, nI_ltI, nI_eq, not_true_eq_false, not_false_eq_true] at h44; done)
                | (simp (disch := omega) only [← nI_0, nI_leI, nI_ltI, nI_eq, not_true_eq_false, not_false_eq_true] at h44; omega)
                | contradiction
                | exact absurd h44 (Int32.not_lt.mpr (by assumption))
                | exact absurd h44 (Int32.not_le.mpr (by assumption))
                | exact absurd h44 (by decide)
                | exact absurd (by decide) h44
                | ( try simp (disch := omega) only [← nI_0, nI_leI, nI_ltI, nI_eq, not_true_eq_false, not_false_eq_true] at h44
                    (try have h44b := zbit_n0.mp h44); (try have h44b := zbit_p0.mp h44)
                    refine z_aload_0 d_Mo_tin_74 ?_
                    refine z_getR d_Mo_tin_75 f_Mo_35 (by first | assumption | exact zS0_at (by assumption) (by omega) | exact zS0_at rfl (by omega)) (by first | assumption | exact zS0_at (by assumption) (by omega) | exact zS0_at rfl (by omega)) ?_
                    refine z_iload_2 d_Mo_tin_78 ?_
                    refine z_if_ne (tgt := 87) d_Mo_tin_79 (by decide) (fun h79 => ?_) (fun h79 => ?_)
                    · first
                      | (simp (disch := omega) only [← nI_0, nI_leI, nI_ltI, nI_eq, not_true_eq_false, not_false_eq_true] at h79; done)
                      | (simp (disch := omega) only [← nI_0, nI_leI, nI_ltI, nI_eq, not_true_eq_false, not_false_eq_true] at h79; omega)
                      | contradiction
                      | exact absurd h79 (Int32.not_lt.mpr (by assumption))
                      | exact absurd h79 (Int32.not_le.mpr (by assumption))
                      | exact absurd h79 (by decide)
                      | exact absurd (by decide) h79
                      | ( try simp (disch := omega) only [← nI_0, nI_leI, nI_ltI, nI_eq, not_true_eq_false, not_false_eq_true] at h79
                          (try have h79b := zbit_n0.mp h79); (try have h79b := zbit_p0.mp h79)
                          refine z_iload_2 d_Mo_tin_87 ?_
                          refine z_iconst (a := nI 2) d_Mo_tin_88 (by decide) ?_
                          refine z_icmp_ne (tgt := 97) d_Mo_tin_89 (by decide) (fun h89 => ?_) (fun h89 => ?_)
                          · first
                            | (simp (disch := omega) only [← nI_0, nI_leI, nI_ltI, nI_eq, not_true_eq_false, not_false_eq_true] at h89; done)
                            | (simp (disch := omega) only [← nI_0, nI_leI, nI_ltI, nI_eq, not_true_eq_false, not_false_eq_true] at h89; omega)
                            | contradiction
                            | exact absurd h89 (Int32.not_lt.mpr (by assumption))
                            | exact absurd h89 (Int32.not_le.mpr (by assumption))
                            | exact absurd h89 (by decide)
                            | exact absurd (by decide) h89
                            | ( try simp (disch := omega) only [← nI_0, nI_leI, nI_ltI, nI_eq, not_true_eq_false, not_false_eq_true] at h89
                                (try have h89b := zbit_n0.mp h89); (try have h89b := zbit_p0.mp h89)
                                refine z_iload_2 d_Mo_tin_97 ?_
                                refine z_iconst (a := nI 3) d_Mo_tin_98 (by decide) ?_
                                refine z_icmp_ne (tgt := 107) d_Mo_tin_99 (by decide) (fun h99 => ?_) (fun h99 => ?_)
                                · first
                                  | (simp (disch := omega) only [← nI_0, nI_leI, nI_ltI, nI_eq, not_true_eq_false, not_false_eq_true] at h99; done)
                                  | (simp (disch := omega) only [← nI_0, nI_leI, nI_ltI, nI_eq, not_true_eq_false, not_false_eq_true] at h99; omega)
                                  | contradiction
                                  | exact absurd h99 (Int32.not_lt.mpr (by assumption))
                                  | exact absurd h99 (Int32.not_le.mpr (by assumption))
                                  | exact absurd h99 (by decide)
                                  | exact absurd (by decide) h99
                                  | ( try simp (disch := omega) only [← nI_0, nI_leI, nI_ltI, nI_eq, not_true_eq_false, not_false_eq_true] at h99
                                      (try have h99b := zbit_n0.mp h99); (try have h99b := zbit_p0.mp h99)
                                      refine z_bipush (a := nI 78) d_Mo_tin_107 (by decide) ?_
                                      refine z_iload_1 d_Mo_tin_109 ?_
                                      first | refine z_iaddN d_Mo_tin_110 ?_ | refine z_iadd d_Mo_tin_110 ?_
                                      first | refine z_ialdNv d_Mo_tin_111 (by first | assumption | exact zS0_at (by assumption) (by omega) | exact zS0_at rfl (by omega)) (by omega) (by first | decide | omega) (by first | assumption | ((try simp (disch := omega) only [zu_same, zu_ne, zcp_ne, zfl_ne]); first | assumption | rfl)) ?_ | refine z_iald d_Mo_tin_111 (by first | assumption | exact zS0_at (by assumption) (by omega) | exact zS0_at rfl (by omega)) (by first | assumption | exact zS0_at (by assumption) (by omega) | exact zS0_at rfl (by omega)) ?_
                                      refine z_reti d_Mo_tin_112 ?_
                                      exact ⟨by first | rfl | assumption | (rw [e150]), _, _, rfl, (by repeat (first | exact h1 | refine mqF_z ?_ (by decide))), mqJ_r, (by first | exact zu_same _ _ _ _ | exact h0)⟩)
                                · first
                                  | (simp (disch := omega) only [← nI_0, nI_leI, nI_ltI, nI_eq, not_true_eq_false, not_false_eq_true] at h99; done)
                                  | (simp (disch := omega) only [← nI_0, nI_leI, nI_ltI, nI_eq, not_true_eq_false, not_false_eq_true] at h99; omega)
                                  | contradiction
                                  | exact absurd h99 (Int32.not_lt.mpr (by assumption))
                                  | exact absurd h99 (Int32.not_le.mpr (by assumption))
                                  | exact absurd h99 (by decide)
                                  | exact absurd (by decide) h99
                                  | ( try simp (disch := omega) only [← nI_0, nI_leI, nI_ltI, nI_eq, not_true_eq_false, not_false_eq_true] at h99
                                      (try have h99b := zbit_n0.mp h99); (try have h99b := zbit_p0.mp h99)
                                      refine z_bipush (a := nI 69) d_Mo_tin_102 (by decide) ?_
                                      refine z_goto (tgt := 109) d_Mo_tin_104 (by decide) ?_
                                      refine z_iload_1 d_Mo_tin_109 ?_
                                      first | refine z_iaddN d_Mo_tin_110 ?_ | refine z_iadd d_Mo_tin_110 ?_
                                      first | refine z_ialdNv d_Mo_tin_111 (by first | assumption | exact zS0_at (by assumption) (by omega) | exact zS0_at rfl (by omega)) (by omega) (by first | decide | omega) (by first | assumption | ((try simp (disch := omega) only [zu_same, zu_ne, zcp_ne, zfl_ne]); first | assumption | rfl)) ?_ | refine z_iald d_Mo_tin_111 (by first | assumption | exact zS0_at (by assumption) (by omega) | exact zS0_at rfl (by omega)) (by first | assumption | exact zS0_at (by assumption) (by omega) | exact zS0_at rfl (by omega)) ?_
                                      refine z_reti d_Mo_tin_112 ?_
                                      exact ⟨by first | rfl | assumption | (rw [e150]), _, _, rfl, (by repeat (first | exact h1 | refine mqF_z ?_ (by decide))), mqJ_r, (by first | exact zu_same _ _ _ _ | exact h0)⟩))
                          · first
                            | (simp (disch := omega) only [← nI_0, nI_leI, nI_ltI, nI_eq, not_true_eq_false, not_false_eq_true] at h89; done)
                            | (simp (disch := omega) only [← nI_0, nI_leI, nI_ltI, nI_eq, not_true_eq_false, not_false_eq_true] at h89; omega)
                            | contradiction
                            | exact absurd h89 (Int32.not_lt.mpr (by assumption))
                            | exact absurd h89 (Int32.not_le.mpr (by assumption))
                            | exact absurd h89 (by decide)
                            | exact absurd (by decide) h89
                            | ( try simp (disch := omega) only [← nI_0, nI_leI, nI_ltI, nI_eq, not_true_eq_false, not_false_eq_true] at h89
                                (try have h89b := zbit_n0.mp h89); (try have h89b := zbit_p0.mp h89)
                                refine z_bipush (a := nI 51) d_Mo_tin_92 (by decide) ?_
                                refine z_goto (tgt := 109) d_Mo_tin_94 (by decide) ?_
                                refine z_iload_1 d_Mo_tin_109 ?_
                                first | refine z_iaddN d_Mo_tin_110 ?_ | refine z_iadd d_Mo_tin_110 ?_
                                first | refine z_ialdNv d_Mo_tin_111 (by first | assumption | exact zS0_at (by assumption) (by omega) | exact zS0_at rfl (by omega)) (by omega) (by first | decide | omega) (by first | assumption | ((try simp (disch := omega) only [zu_same, zu_ne, zcp_ne, zfl_ne]); first | assumption | rfl)) ?_ | refine z_iald d_Mo_tin_111 (by first | assumption | exact zS0_at (by assumption) (by omega) | exact zS0_at rfl (by omega)) (by first | assumption | exact zS0_at (by assumption) (by omega) | exact zS0_at rfl (by omega)) ?_
                                refine z_reti d_Mo_tin_112 ?_
                                exact ⟨by first | rfl | assumption | (rw [e150]), _, _, rfl, (by repeat (first | exact h1 | refine mqF_z ?_ (by decide))), mqJ_r, (by first | exact zu_same _ _ _ _ | exact h0)⟩))
                    · first
                      | (simp (disch := omega) only [← nI_0, nI_leI, nI_ltI, nI_eq, not_true_eq_false, not_false_eq_true] at h79; done)
                      | (simp (disch := omega) only [← nI_0, nI_leI, nI_ltI, nI_eq, not_true_eq_false, not_false_eq_true] at h79; omega)
                      | contradiction
                      | exact absurd h79 (Int32.not_lt.mpr (by assumption))
                      | exact absurd h79 (Int32.not_le.mpr (by assumption))
                      | exact absurd h79 (by decide)
                      | exact absurd (by decide) h79
                      | ( try simp (disch := omega) only [← nI_0, nI_leI, nI_ltI, nI_eq, not_true_eq_false, not_false_eq_true] at h79
                          (try have h79b := zbit_n0.mp h79); (try have h79b := zbit_p0.mp h79)
                          refine z_bipush (a := nI 33) d_Mo_tin_82 (by decide) ?_
                          refine z_goto (tgt := 109) d_Mo_tin_84 (by decide) ?_
                          refine z_iload_1 d_Mo_tin_109 ?_
                          first | refine z_iaddN d_Mo_tin_110 ?_ | refine z_iadd d_Mo_tin_110 ?_
                          first | refine z_ialdNv d_Mo_tin_111 (by first | assumption | exact zS0_at (by assumption) (by omega) | exact zS0_at rfl (by omega)) (by omega) (by first | decide | omega) (by first | assumption | ((try simp (disch := omega) only [zu_same, zu_ne, zcp_ne, zfl_ne]); first | assumption | rfl)) ?_ | refine z_iald d_Mo_tin_111 (by first | assumption | exact zS0_at (by assumption) (by omega) | exact zS0_at rfl (by omega)) (by first | assumption | exact zS0_at (by assumption) (by omega) | exact zS0_at rfl (by omega)) ?_
                          refine z_reti d_Mo_tin_112 ?_
                          exact ⟨by first | rfl | assumption | (rw [e150]), _, _, rfl, (by repeat (first | exact h1 | refine mqF_z ?_ (by decide))), mqJ_r, (by first | exact zu_same _ _ _ _ | exact h0)⟩))
              · first
                | (simp (disch := omega) only [← nI_0, nI_leI, nI_ltI, nI_eq, not_true_eq_false, not_false_eq_true] at h44; done)
                | (simp (disch := omega) only [← nI_0, nI_leI, nI_ltI, nI_eq, not_true_eq_false, not_false_eq_true] at h44; omega)
                | contradiction
                | exact absurd h44 (Int32.not_lt.mpr (by assumption))
                | exact absurd h44 (Int32.not_le.mpr (by assumption))
                | exact absurd h44 (by decide)
                | exact absurd (by decide) h44
                | ( try simp (disch := omega) only [← nI_0, nI_leI, nI_ltI, nI_eq, not_true_eq_false, not_false_eq_true] at h44
                    (try have h44b := zbit_n0.mp h44); (try have h44b := zbit_p0.mp h44)
                    refine z_aload_0 d_Mo_tin_47 ?_
                    refine z_iload_1 d_Mo_tin_48 ?_
                    refine z_Vi1 d_Mo_tin_49 k_Mo_310 (by first | assumption | exact zS0_at (by assumption) (by omega) | exact zS0_at rfl (by omega)) (t_Mo_isGone (by assumption) (by omega)) ⟨Nat.le_of_ble_eq_true rfl, Nat.le_of_ble_eq_true rfl, Nat.le_of_ble_eq_true rfl, Nat.le_of_ble_eq_true rfl⟩ (Nat.le_of_ble_eq_true rfl) ?_
                    intro r w hq
                    rcases hq with ⟨⟨hz49, rfl⟩ | ⟨hz49, rfl⟩, rfl⟩
                    · first
                      | contradiction
                      | ( skip
                          refine z_if_eq (tgt := 64) d_Mo_tin_52 (by decide) (fun h => absurd h (by decide)) (fun _ => ?_)
                          refine z_aload_0 d_Mo_tin_55 ?_
                          refine z_bipush (a := nI 8) d_Mo_tin_56 (by decide) ?_
                          refine z_Vi1 d_Mo_tin_58 k_Mo_327 (by first | assumption | exact zS0_at (by assumption) (by omega) | exact zS0_at rfl (by omega)) (t_Mo_refuse (by assumption)) ⟨Nat.le_of_ble_eq_true rfl, Nat.le_of_ble_eq_true rfl, Nat.le_of_ble_eq_true rfl, Nat.le_of_ble_eq_true rfl⟩ (Nat.le_of_ble_eq_true rfl) ?_
                          intro r w hq
                          obtain ⟨rfl, rfl⟩ := hq
                          refine z_goto (tgt := 73) d_Mo_tin_61 (by decide) ?_
                          refine z_reti d_Mo_tin_73 ?_
                          exact ⟨by first | rfl | assumption | (rw [e150]), _, _, rfl, (by repeat (first | exact h1 | refine mqF_z ?_ (by decide))), mqJ_r, (by first | exact zu_same _ _ _ _ | exact h0)⟩)
                    · first
                      | contradiction
                      | ( skip
                          refine z_if_eq (tgt := 64) d_Mo_tin_52 (by decide) (fun _ => ?_) (fun h => absurd h (by decide))
                          refine z_aload_0 d_Mo_tin_64 ?_
                          refine z_getR d_Mo_tin_65 f_Mo_35 (by first | assumption | exact zS0_at (by assumption) (by omega) | exact zS0_at rfl (by omega)) (by first | assumption | exact zS0_at (by assumption) (by omega) | exact zS0_at rfl (by omega)) ?_
                          refine z_bipush (a := nI 42) d_Mo_tin_68 (by decide) ?_
                          refine z_iload_1 d_Mo_tin_70 ?_
                          first | refine z_iaddN d_Mo_tin_71 ?_ | refine z_iadd d_Mo_tin_71 ?_
                          first | refine z_ialdNv d_Mo_tin_72 (by first | assumption | exact zS0_at (by assumption) (by omega) | exact zS0_at rfl (by omega)) (by omega) (by first | decide | omega) (by first | assumption | ((try simp (disch := omega) only [zu_same, zu_ne, zcp_ne, zfl_ne]); first | assumption | rfl)) ?_ | refine z_iald d_Mo_tin_72 (by first | assumption | exact zS0_at (by assumption) (by omega) | exact zS0_at rfl (by omega)) (by first | assumption | exact zS0_at (by assumption) (by omega) | exact zS0_at rfl (by omega)) ?_
                          refine z_reti d_Mo_tin_73 ?_
                          exact ⟨by first | rfl | assumption | (rw [e150]), _, _, rfl, (by repeat (first | exact h1 | refine mqF_z ?_ (by decide))), mqJ_r, (by first | exact zu_same _ _ _ _ | exact h0)⟩)))
        · first
          | contradiction
          | ( skip
              refine z_if_ne (tgt := 42) d_Mo_tin_33 (by decide) (fun h => absurd h (by decide)) (fun _ => ?_)
              refine z_aload_0 d_Mo_tin_36 ?_
              refine z_iconst (a := nI 5) d_Mo_tin_37 (by decide) ?_
              refine z_Vi1 d_Mo_tin_38 k_Mo_327 (by first | assumption | exact zS0_at (by assumption) (by omega) | exact zS0_at rfl (by omega)) (t_Mo_refuse (by assumption)) ⟨Nat.le_of_ble_eq_true rfl, Nat.le_of_ble_eq_true rfl, Nat.le_of_ble_eq_true rfl, Nat.le_of_ble_eq_true rfl⟩ (Nat.le_of_ble_eq_true rfl) ?_
              intro r w hq
              obtain ⟨rfl, rfl⟩ := hq
              refine z_reti d_Mo_tin_41 ?_
              exact ⟨by first | rfl | assumption | (rw [e150]), _, _, rfl, (by repeat (first | exact h1 | refine mqF_z ?_ (by decide))), mqJ_r, (by first | exact zu_same _ _ _ _ | exact h0)⟩))
  · first
    | contradiction
    | ( skip
        refine z_if_ne (tgt := 24) d_Mo_tin_15 (by decide) (fun h => absurd h (by decide)) (fun _ => ?_)
        refine z_aload_0 d_Mo_tin_18 ?_
        refine z_iconst (a := nI 2) d_Mo_tin_19 (by decide) ?_
        refine z_Vi1 d_Mo_tin_20 k_Mo_327 (by first | assumption | exact zS0_at (by assumption) (by omega) | exact zS0_at rfl (by omega)) (t_Mo_refuse (by assumption)) ⟨Nat.le_of_ble_eq_true rfl, Nat.le_of_ble_eq_true rfl, Nat.le_of_ble_eq_true rfl, Nat.le_of_ble_eq_true rfl⟩ (Nat.le_of_ble_eq_true rfl) ?_
        intro r w hq
        obtain ⟨rfl, rfl⟩ := hq
        refine z_reti d_Mo_tin_23 ?_
        exact ⟨by first | rfl | assumption | (rw [e150]), _, _, rfl, (by repeat (first | exact h1 | refine mqF_z ?_ (by decide))), mqJ_r, (by first | exact zu_same _ _ _ _ | exact h0)⟩)
theorem t_Tf_tin_2 {t : Nat} (Z : clOk f d P S) (N : fenIn I f nt np nl nn) (ht : t < nn) : zEi G y_Tf_tin prog_1_method_16_code 3 (some .int) 4 [.ref 0, .int (nI t), .int (nI 2)] (I, J, P, S) (fun r w => r = (I f 6 >>> (nI t &&& 31)) &&& nI 1 ∧ cW I J P S 0 w) := by
  obtain ⟨⟨c0, c3, c1s⟩, ⟨c5, c2s, ctr⟩, ⟨c6, c11s, c11, c13s⟩, ⟨c7, c15s, c15⟩, ⟨c8, c16s, c16a, c16b, c17s⟩, ⟨c9, c10, cfd, F, Fd⟩, ⟨c11b, Ft⟩, ⟨c12, c69s, cmk⟩, ⟨c14, c121s, c121, c122s⟩, ⟨c15b, c123s, c123, c124s⟩, ⟨c16, c125s, c125, c126s⟩, ⟨c17, c127s, c127, c128s, ctb⟩, ⟨c18, c139s, c139, c140s⟩, ⟨c19, c141s, ⟨c141a, c142s⟩, ⟨c141b, c143s⟩, ⟨c141c, c144s⟩⟩, M⟩ := id Z
  obtain ⟨F0, ⟨F8, F8s⟩, ⟨F9, F9s⟩, ⟨F10, F10s⟩, ⟨F11, F11s⟩, ⟨F12, F12s⟩, ⟨F13, F13s⟩, ⟨F14, F14s⟩, ⟨F15, F15s⟩, ⟨F16, F16s⟩, ⟨F17, F17s⟩, ⟨F18, F18s⟩, ⟨F19, F19s⟩, ⟨Y3, Y3s⟩, ⟨Y4, Y4s⟩, ⟨Y5, Y5s⟩, ⟨Y6, Y6s⟩⟩ := id F
  obtain ⟨⟨n1, n1b⟩, ⟨n2, n2b⟩, ⟨n3, n3b⟩, ⟨n4, n4b⟩, nof, non⟩ := id N
  have hz : zin (nI t) nn := ⟨t, by omega, rfl⟩
  refine zEi_of (lv := [some (.ref 0), some (.int (nI t)), some (.int (nI 2))]) (by decide) rfl (Nat.le_of_ble_eq_true rfl) ?_
  refine z_aload_0 d_Tf_tin_0 ?_
  refine z_iload_1 d_Tf_tin_1 ?_
  refine z_Vi1 d_Tf_tin_2 k_Tf_249 (by first | assumption | exact zS0_at (by assumption) (by omega) | exact zS0_at rfl (by omega)) (t_Tf_noTin Z N) ⟨Nat.le_of_ble_eq_true rfl, Nat.le_of_ble_eq_true rfl, Nat.le_of_ble_eq_true rfl, Nat.le_of_ble_eq_true rfl⟩ (Nat.le_of_ble_eq_true rfl) ?_
  intro r w hq
  rcases hq with ⟨⟨hz2, rfl⟩ | ⟨hz2, rfl⟩, rfl⟩
  · first
    | contradiction
    | ( skip
        refine z_if_eq (tgt := 14) d_Tf_tin_5 (by decide) (fun h => absurd h (by decide)) (fun _ => ?_)
        refine z_aload_0 d_Tf_tin_8 ?_
        refine z_iconst (a := nI 2) d_Tf_tin_9 (by decide) ?_
        refine z_Vi1 d_Tf_tin_10 k_Tf_138 (by first | assumption | exact zS0_at (by assumption) (by omega) | exact zS0_at rfl (by omega)) (t_Tf_fail (by assumption)) ⟨Nat.le_of_ble_eq_true rfl, Nat.le_of_ble_eq_true rfl, Nat.le_of_ble_eq_true rfl, Nat.le_of_ble_eq_true rfl⟩ (Nat.le_of_ble_eq_true rfl) ?_
        intro r w hq
        obtain ⟨rfl, rfl⟩ := hq
        refine z_reti d_Tf_tin_13 ?_
        exact ⟨by first | rfl | assumption, cW_0⟩)
  · first
    | contradiction
    | ( skip
        refine z_if_eq (tgt := 14) d_Tf_tin_5 (by decide) (fun _ => ?_) (fun h => absurd h (by decide))
        refine z_iload_2 d_Tf_tin_14 ?_
        refine z_tableIn (off := 81) (tgt := 96) d_Tf_tin_15 (by decide) (by decide) (by decide) (by decide) ?_
        refine z_aload_0 d_Tf_tin_96 ?_
        refine z_aload_0 d_Tf_tin_97 ?_
        refine z_getR d_Tf_tin_98 f_Tf_60 (by first | assumption | exact zS0_at (by assumption) (by omega) | exact zS0_at rfl (by omega)) (by first | assumption | exact zS0_at (by assumption) (by omega) | exact zS0_at rfl (by omega)) ?_
        refine z_getIv d_Tf_tin_101 f_Tf_220 (by first | assumption | exact zS0_at (by assumption) (by omega) | exact zS0_at rfl (by omega)) (by first | assumption | ((try simp (disch := omega) only [zu_same, zu_ne, zcp_ne, zfl_ne]); first | assumption | rfl)) ?_
        refine z_iload_1 d_Tf_tin_104 ?_
        refine z_ishr d_Tf_tin_105 ?_
        refine z_iconst (a := nI 1) d_Tf_tin_106 (by decide) ?_
        refine z_iand d_Tf_tin_107 ?_
        refine z_Vi1 d_Tf_tin_108 k_Tf_174 (by first | assumption | exact zS0_at (by assumption) (by omega) | exact zS0_at rfl (by omega)) (t_Tf_give (by assumption)) ⟨Nat.le_of_ble_eq_true rfl, Nat.le_of_ble_eq_true rfl, Nat.le_of_ble_eq_true rfl, Nat.le_of_ble_eq_true rfl⟩ (Nat.le_of_ble_eq_true rfl) ?_
        intro r w hq
        obtain ⟨rfl, rfl⟩ := hq
        refine z_reti d_Tf_tin_111 ?_
        exact ⟨by first | rfl | assumption, cW_0⟩)
theorem t_Mo_tin_2 {t : Nat} (M : modOk P S) (N : modIn I nt np nl nn) (ht : t < nn) : zEi G y_Mo_tin prog_14_method_87_code 3 (some .int) 4 [.ref 145, .int (nI t), .int (nI 2)] (I, J, P, S) (fun r w => r = I 150 (51 + t) ∧ mW I J P S 0 w) := by
  obtain ⟨M0, ⟨M4, M4s⟩, ⟨M5, M5s⟩, ⟨M6, M6s⟩, ⟨M7, M7s⟩, ⟨M20, M20s⟩, ⟨M21, M21s⟩, ⟨M22, M22s⟩, ⟨M26, M26s⟩, ⟨M27, M27s⟩, ⟨M28, M28s⟩, ⟨M30, M30s⟩, ⟨M34, M34s⟩, ⟨M36, M36s⟩, ⟨M37, M37s⟩⟩ := id M
  obtain ⟨I1, hI1, N1, h1, h0, e150, er, ek⟩ := mo_beg N
  obtain ⟨⟨m0, m0b⟩, ⟨m1, m1b⟩, ⟨m2, m2b⟩, ⟨m3, m3b⟩, mof, mon⟩ := id N1
  have hD : mD I I1 := ⟨h1, h0, e150, er⟩
  refine zEi_of (lv := [some (.ref 145), some (.int (nI t)), some (.int (nI 2))]) (by decide) rfl (Nat.le_of_ble_eq_true rfl) ?_
  refine z_aload_0 d_Mo_tin_0 ?_
  refine z_iconst (a := nI 0) d_Mo_tin_1 (by decide) ?_
  refine z_putI d_Mo_tin_2 f_Mo_70 (by first | assumption | exact zS0_at (by assumption) (by omega) | exact zS0_at rfl (by omega)) ?_
  refine z_aload_0 d_Mo_tin_5 ?_
  refine z_iconst (a := nI 0) d_Mo_tin_6 (by decide) ?_
  refine z_putI d_Mo_tin_7 f_Mo_73 (by first | assumption | exact zS0_at (by assumption) (by omega) | exact zS0_at rfl (by omega)) ?_
  rw [← hI1]
  have hz : zin (nI t) nn := ⟨t, by omega, rfl⟩
  have hzb : zin (nI 2) 5 := ⟨2, by decide, rfl⟩
  have hr : I1 150 (51 + t) = I 150 (51 + t) := by rw [e150]
  refine z_aload_0 d_Mo_tin_10 ?_
  refine z_iload_1 d_Mo_tin_11 ?_
  refine z_Vi1 d_Mo_tin_12 k_Mo_344 (by first | assumption | exact zS0_at (by assumption) (by omega) | exact zS0_at rfl (by omega)) (t_Mo_isTinAt M N1) ⟨Nat.le_of_ble_eq_true rfl, Nat.le_of_ble_eq_true rfl, Nat.le_of_ble_eq_true rfl, Nat.le_of_ble_eq_true rfl⟩ (Nat.le_of_ble_eq_true rfl) ?_
  intro r w hq
  rcases hq with ⟨⟨hz12, rfl⟩ | ⟨hz12, rfl⟩, rfl⟩
  · first
    | contradiction
    | ( skip
        refine z_if_ne (tgt := 24) d_Mo_tin_15 (by decide) (fun _ => ?_) (fun h => absurd h (by decide))
        refine z_iload_2 d_Mo_tin_24 ?_
        refine z_i2l d_Mo_tin_25 ?_
        refine z_lconst (f := lN 0) d_Mo_tin_26 rfl ?_
        refine z_ldc2 d_Mo_tin_27 c_Mo_339 ?_
        refine z_Si3 d_Mo_tin_30 k_Mo_105 (t_Mo_isInZ (m := 5) (by decide) (by decide)) ⟨Nat.le_of_ble_eq_true rfl, Nat.le_of_ble_eq_true rfl, Nat.le_of_ble_eq_true rfl, Nat.le_of_ble_eq_true rfl⟩ (Nat.le_of_ble_eq_true rfl) ?_
        intro r w hq
        rcases hq with ⟨⟨hz30, rfl⟩ | ⟨hz30, rfl⟩, rfl⟩
        · first
          | contradiction
          | ( skip
              refine z_if_ne (tgt := 42) d_Mo_tin_33 (by decide) (fun _ => ?_) (fun h => absurd h (by decide))
              refine z_iload_2 d_Mo_tin_42 ?_
              refine z_iconst (a := nI 1) d_Mo_tin_43 (by decide) ?_
              refine z_icmp_ne (tgt := 74) d_Mo_tin_44 (by decide) (fun h44 => ?_) (fun h44 => ?_)
              · first
                | (simp (disch := omega) only [← nI_0, nI_leI, nI_ltI, nI_eq, not_true_eq_false, not_false_eq_true] at h44; done)
                | (simp (disch := omega) only [← nI_0, nI_leI, nI_ltI, nI_eq, not_true_eq_false, not_false_eq_true] at h44; omega)
                | contradiction
                | exact absurd h44 (Int32.not_lt.mpr (by assumption))
                | exact absurd h44 (Int32.not_le.mpr (by assumption))
                | exact absurd h44 (by decide)
                | exact absurd (by decide) h44
                | ( try simp (disch := omega) only [← nI_0, nI_leI, nI_ltI, nI_eq, not_true_eq_false, not_false_eq_true] at h44
                    (try have h44b := zbit_n0.mp h44); (try have h44b := zbit_p0.mp h44)
                    refine z_aload_0 d_Mo_tin_74 ?_
                    refine z_getR d_Mo_tin_75 f_Mo_35 (by first | assumption | exact zS0_at (by assumption) (by omega) | exact zS0_at rfl (by omega)) (by first | assumption | exact zS0_at (by assumption) (by omega) | exact zS0_at rfl (by omega)) ?_
                    refine z_iload_2 d_Mo_tin_78 ?_
                    refine z_if_ne (tgt := 87) d_Mo_tin_79 (by decide) (fun h79 => ?_) (fun h79 => ?_)
                    · first
                      | (simp (disch := omega) only [← nI_0, nI_leI, nI_ltI, nI_eq, not_true_eq_false, not_false_eq_true] at h79; done)
                      | (simp (disch := omega) only [← nI_0, nI_leI, nI_ltI, nI_eq, not_true_eq_false, not_false_eq_true] at h79; omega)
                      | contradiction
                      | exact absurd h79 (Int32.not_lt.mpr (by assumption))
                      | exact absurd h79 (Int32.not_le.mpr (by assumption))
                      | exact absurd h79 (by decide)
                      | exact absurd (by decide) h79
                      | ( try simp (disch := omega) only [← nI_0, nI_leI, nI_ltI, nI_eq, not_true_eq_false, not_false_eq_true] at h79
                          (try have h79b := zbit_n0.mp h79); (try have h79b := zbit_p0.mp h79)
                          refine z_iload_2 d_Mo_tin_87 ?_
                          refine z_iconst (a := nI 2) d_Mo_tin_88 (by decide) ?_
                          refine z_icmp_ne (tgt := 97) d_Mo_tin_89 (by decide) (fun h89 => ?_) (fun h89 => ?_)
                          · first
                            | (simp (disch := omega) only [← nI_0, nI_leI, nI_ltI, nI_eq, not_true_eq_false, not_false_eq_true] at h89; done)
                            | (simp (disch := omega) only [← nI_0, nI_leI, nI_ltI, nI_eq, not_true_eq_false, not_false_eq_true] at h89; omega)
                            | contradiction
                            | exact absurd h89 (Int32.not_lt.mpr (by assumption))
                            | exact absurd h89 (Int32.not_le.mpr (by assumption))
                            | exact absurd h89 (by decide)
                            | exact absurd (by decide) h89
                            | ( try simp (disch := omega) only [← nI_0, nI_leI, nI_ltI, nI_eq, not_true_eq_false, not_false_eq_true] at h89
                                (try have h89b := zbit_n0.mp h89); (try have h89b := zbit_p0.mp h89)
                                refine z_iload_2 d_Mo_tin_97 ?_
                                refine z_iconst (a := nI 3) d_Mo_tin_98 (by decide) ?_
                                refine z_icmp_ne (tgt := 107) d_Mo_tin_99 (by decide) (fun h99 => ?_) (fun h99 => ?_)
                                · first
                                  | (simp (disch := omega) only [← nI_0, nI_leI, nI_ltI, nI_eq, not_true_eq_false, not_false_eq_true] at h99; done)
                                  | (simp (disch := omega) only [← nI_0, nI_leI, nI_ltI, nI_eq, not_true_eq_false, not_false_eq_true] at h99; omega)
                                  | contradiction
                                  | exact absurd h99 (Int32.not_lt.mpr (by assumption))
                                  | exact absurd h99 (Int32.not_le.mpr (by assumption))
                                  | exact absurd h99 (by decide)
                                  | exact absurd (by decide) h99
                                  | ( try simp (disch := omega) only [← nI_0, nI_leI, nI_ltI, nI_eq, not_true_eq_false, not_false_eq_true] at h99
                                      (try have h99b := zbit_n0.mp h99); (try have h99b := zbit_p0.mp h99)
                                      refine z_bipush (a := nI 78) d_Mo_tin_107 (by decide) ?_
                                      refine z_iload_1 d_Mo_tin_109 ?_
                                      first | refine z_iaddN d_Mo_tin_110 ?_ | refine z_iadd d_Mo_tin_110 ?_
                                      first | refine z_ialdNv d_Mo_tin_111 (by first | assumption | exact zS0_at (by assumption) (by omega) | exact zS0_at rfl (by omega)) (by omega) (by first | decide | omega) (by first | assumption | ((try simp (disch := omega) only [zu_same, zu_ne, zcp_ne, zfl_ne]); first | assumption | rfl)) ?_ | refine z_iald d_Mo_tin_111 (by first | assumption | exact zS0_at (by assumption) (by omega) | exact zS0_at rfl (by omega)) (by first | assumption | exact zS0_at (by assumption) (by omega) | exact zS0_at rfl (by omega)) ?_
                                      refine z_reti d_Mo_tin_112 ?_
                                      exact ⟨by first | rfl | assumption | (rw [e150]), _, _, rfl, (by repeat (first | exact h1 | refine mqF_z ?_ (by decide))), mqJ_r, (by first | exact zu_same _ _ _ _ | exact h0)⟩)
                                · first
                                  | (simp (disch := omega) only [← nI_0, nI_leI, nI_ltI, nI_eq, not_true_eq_false, not_false_eq_true] at h99; done)
                                  | (simp (disch := omega) only [← nI_0, nI_leI, nI_ltI, nI_eq, not_true_eq_false, not_false_eq_true] at h99; omega)
                                  | contradiction
                                  | exact absurd h99 (Int32.not_lt.mpr (by assumption))
                                  | exact absurd h99 (Int32.not_le.mpr (by assumption))
                                  | exact absurd h99 (by decide)
                                  | exact absurd (by decide) h99
                                  | ( try simp (disch := omega) only [← nI_0, nI_leI, nI_ltI, nI_eq, not_true_eq_false, not_false_eq_true] at h99
                                      (try have h99b := zbit_n0.mp h99); (try have h99b := zbit_p0.mp h99)
                                      refine z_bipush (a := nI 69) d_Mo_tin_102 (by decide) ?_
                                      refine z_goto (tgt := 109) d_Mo_tin_104 (by decide) ?_
                                      refine z_iload_1 d_Mo_tin_109 ?_
                                      first | refine z_iaddN d_Mo_tin_110 ?_ | refine z_iadd d_Mo_tin_110 ?_
                                      first | refine z_ialdNv d_Mo_tin_111 (by first | assumption | exact zS0_at (by assumption) (by omega) | exact zS0_at rfl (by omega)) (by omega) (by first | decide | omega) (by first | assumption | ((try simp (disch := omega) only [zu_same, zu_ne, zcp_ne, zfl_ne]); first | assumption | rfl)) ?_ | refine z_iald d_Mo_tin_111 (by first | assumption | exact zS0_at (by assumption) (by omega) | exact zS0_at rfl (by omega)) (by first | assumption | exact zS0_at (by assumption) (by omega) | exact zS0_at rfl (by omega)) ?_
                                      refine z_reti d_Mo_tin_112 ?_
                                      exact ⟨by first | rfl | assumption | (rw [e150]), _, _, rfl, (by repeat (first | exact h1 | refine mqF_z ?_ (by decide))), mqJ_r, (by first | exact zu_same _ _ _ _ | exact h0)⟩))
                          · first
                            | (simp (disch := omega) only [← nI_0, nI_leI, nI_ltI, nI_eq, not_true_eq_false, not_false_eq_true] at h89; done)
                            | (simp (disch := omega) only [← nI_0, nI_leI, nI_ltI, nI_eq, not_true_eq_false, not_false_eq_true] at h89; omega)
                            | contradiction
                            | exact absurd h89 (Int32.not_lt.mpr (by assumption))
                            | exact absurd h89 (Int32.not_le.mpr (by assumption))
                            | exact absurd h89 (by decide)
                            | exact absurd (by decide) h89
                            | ( try simp (disch := omega) only [← nI_0, nI_leI, nI_ltI, nI_eq, not_true_eq_false, not_false_eq_true] at h89
                                (try have h89b := zbit_n0.mp h89); (try have h89b := zbit_p0.mp h89)
                                refine z_bipush (a := nI 51) d_Mo_tin_92 (by decide) ?_
                                refine z_goto (tgt := 109) d_Mo_tin_94 (by decide) ?_
                                refine z_iload_1 d_Mo_tin_109 ?_
                                first | refine z_iaddN d_Mo_tin_110 ?_ | refine z_iadd d_Mo_tin_110 ?_
                                first | refine z_ialdNv d_Mo_tin_111 (by first | assumption | exact zS0_at (by assumption) (by omega) | exact zS0_at rfl (by omega)) (by omega) (by first | decide | omega) (by first | assumption | ((try simp (disch := omega) only [zu_same, zu_ne, zcp_ne, zfl_ne]); first | assumption | rfl)) ?_ | refine z_iald d_Mo_tin_111 (by first | assumption | exact zS0_at (by assumption) (by omega) | exact zS0_at rfl (by omega)) (by first | assumption | exact zS0_at (by assumption) (by omega) | exact zS0_at rfl (by omega)) ?_
                                refine z_reti d_Mo_tin_112 ?_
                                exact ⟨by first | rfl | assumption | (rw [e150]), _, _, rfl, (by repeat (first | exact h1 | refine mqF_z ?_ (by decide))), mqJ_r, (by first | exact zu_same _ _ _ _ | exact h0)⟩))
                    · first
                      | (simp (disch := omega) only [← nI_0, nI_leI, nI_ltI, nI_eq, not_true_eq_false, not_false_eq_true] at h79; done)
                      | (simp (disch := omega) only [← nI_0, nI_leI, nI_ltI, nI_eq, not_true_eq_false, not_false_eq_true] at h79; omega)
                      | contradiction
                      | exact absurd h79 (Int32.not_lt.mpr (by assumption))
                      | exact absurd h79 (Int32.not_le.mpr (by assumption))
                      | exact absurd h79 (by decide)
                      | exact absurd (by decide) h79
                      | ( try simp (disch := omega) only [← nI_0, nI_leI, nI_ltI, nI_eq, not_true_eq_false, not_false_eq_true] at h79
                          (try have h79b := zbit_n0.mp h79); (try have h79b := zbit_p0.mp h79)
                          refine z_bipush (a := nI 33) d_Mo_tin_82 (by decide) ?_
                          refine z_goto (tgt := 109) d_Mo_tin_84 (by decide) ?_
                          refine z_iload_1 d_Mo_tin_109 ?_
                          first | refine z_iaddN d_Mo_tin_110 ?_ | refine z_iadd d_Mo_tin_110 ?_
                          first | refine z_ialdNv d_Mo_tin_111 (by first | assumption | exact zS0_at (by assumption) (by omega) | exact zS0_at rfl (by omega)) (by omega) (by first | decide | omega) (by first | assumption | ((try simp (disch := omega) only [zu_same, zu_ne, zcp_ne, zfl_ne]); first | assumption | rfl)) ?_ | refine z_iald d_Mo_tin_111 (by first | assumption | exact zS0_at (by assumption) (by omega) | exact zS0_at rfl (by omega)) (by first | assumption | exact zS0_at (by assumption) (by omega) | exact zS0_at rfl (by omega)) ?_
                          refine z_reti d_Mo_tin_112 ?_
                          exact ⟨by first | rfl | assumption | (rw [e150]), _, _, rfl, (by repeat (first | exact h1 | refine mqF_z ?_ (by decide))), mqJ_r, (by first | exact zu_same _ _ _ _ | exact h0)⟩))
              · first
                | (simp (disch := omega) only [← nI_0, nI_leI, nI_ltI, nI_eq, not_true_eq_false, not_false_eq_true] at h44; done)
                | (simp (disch := omega) only [← nI_0, nI_leI, nI_ltI, nI_eq, not_true_eq_false, not_false_eq_true] at h44; omega)
                | contradiction
                | exact absurd h44 (Int32.not_lt.mpr (by assumption))
                | exact absurd h44 (Int32.not_le.mpr (by assumption))
                | exact absurd h44 (by decide)
                | exact absurd (by decide) h44
                | ( try simp (disch := omega) only [← nI_0, nI_leI, nI_ltI, nI_eq, not_true_eq_false, not_false_eq_true] at h44
                    (try have h44b := zbit_n0.mp h44); (try have h44b := zbit_p0.mp h44)
                    refine z_aload_0 d_Mo_tin_47 ?_
                    refine z_iload_1 d_Mo_tin_48 ?_
                    refine z_Vi1 d_Mo_tin_49 k_Mo_310 (by first | assumption | exact zS0_at (by assumption) (by omega) | exact zS0_at rfl (by omega)) (t_Mo_isGone (by assumption) (by omega)) ⟨Nat.le_of_ble_eq_true rfl, Nat.le_of_ble_eq_true rfl, Nat.le_of_ble_eq_true rfl, Nat.le_of_ble_eq_true rfl⟩ (Nat.le_of_ble_eq_true rfl) ?_
                    intro r w hq
                    rcases hq with ⟨⟨hz49, rfl⟩ | ⟨hz49, rfl⟩, rfl⟩
                    · first
                      | contradiction
                      | ( skip
                          refine z_if_eq (tgt := 64) d_Mo_tin_52 (by decide) (fun h => absurd h (by decide)) (fun _ => ?_)
                          refine z_aload_0 d_Mo_tin_55 ?_
                          refine z_bipush (a := nI 8) d_Mo_tin_56 (by decide) ?_
                          refine z_Vi1 d_Mo_tin_58 k_Mo_327 (by first | assumption | exact zS0_at (by assumption) (by omega) | exact zS0_at rfl (by omega)) (t_Mo_refuse (by assumption)) ⟨Nat.le_of_ble_eq_true rfl, Nat.le_of_ble_eq_true rfl, Nat.le_of_ble_eq_true rfl, Nat.le_of_ble_eq_true rfl⟩ (Nat.le_of_ble_eq_true rfl) ?_
                          intro r w hq
                          obtain ⟨rfl, rfl⟩ := hq
                          refine z_goto (tgt := 73) d_Mo_tin_61 (by decide) ?_
                          refine z_reti d_Mo_tin_73 ?_
                          exact ⟨by first | rfl | assumption | (rw [e150]), _, _, rfl, (by repeat (first | exact h1 | refine mqF_z ?_ (by decide))), mqJ_r, (by first | exact zu_same _ _ _ _ | exact h0)⟩)
                    · first
                      | contradiction
                      | ( skip
                          refine z_if_eq (tgt := 64) d_Mo_tin_52 (by decide) (fun _ => ?_) (fun h => absurd h (by decide))
                          refine z_aload_0 d_Mo_tin_64 ?_
                          refine z_getR d_Mo_tin_65 f_Mo_35 (by first | assumption | exact zS0_at (by assumption) (by omega) | exact zS0_at rfl (by omega)) (by first | assumption | exact zS0_at (by assumption) (by omega) | exact zS0_at rfl (by omega)) ?_
                          refine z_bipush (a := nI 42) d_Mo_tin_68 (by decide) ?_
                          refine z_iload_1 d_Mo_tin_70 ?_
                          first | refine z_iaddN d_Mo_tin_71 ?_ | refine z_iadd d_Mo_tin_71 ?_
                          first | refine z_ialdNv d_Mo_tin_72 (by first | assumption | exact zS0_at (by assumption) (by omega) | exact zS0_at rfl (by omega)) (by omega) (by first | decide | omega) (by first | assumption | ((try simp (disch := omega) only [zu_same, zu_ne, zcp_ne, zfl_ne]); first | assumption | rfl)) ?_ | refine z_iald d_Mo_tin_72 (by first | assumption | exact zS0_at (by assumption) (by omega) | exact zS0_at rfl (by omega)) (by first | assumption | exact zS0_at (by assumption) (by omega) | exact zS0_at rfl (by omega)) ?_
                          refine z_reti d_Mo_tin_73 ?_
                          exact ⟨by first | rfl | assumption | (rw [e150]), _, _, rfl, (by repeat (first | exact h1 | refine mqF_z ?_ (by decide))), mqJ_r, (by first | exact zu_same _ _ _ _ | exact h0)⟩)))
        · first
          | contradiction
          | ( skip
              refine z_if_ne (tgt := 42) d_Mo_tin_33 (by decide) (fun h => absurd h (by decide)) (fun _ => ?_)
              refine z_aload_0 d_Mo_tin_36 ?_
              refine z_iconst (a := nI 5) d_Mo_tin_37 (by decide) ?_
              refine z_Vi1 d_Mo_tin_38 k_Mo_327 (by first | assumption | exact zS0_at (by assumption) (by omega) | exact zS0_at rfl (by omega)) (t_Mo_refuse (by assumption)) ⟨Nat.le_of_ble_eq_true rfl, Nat.le_of_ble_eq_true rfl, Nat.le_of_ble_eq_true rfl, Nat.le_of_ble_eq_true rfl⟩ (Nat.le_of_ble_eq_true rfl) ?_
              intro r w hq
              obtain ⟨rfl, rfl⟩ := hq
              refine z_reti d_Mo_tin_41 ?_
              exact ⟨by first | rfl | assumption | (rw [e150]), _, _, rfl, (by repeat (first | exact h1 | refine mqF_z ?_ (by decide))), mqJ_r, (by first | exact zu_same _ _ _ _ | exact h0)⟩))
  · first
    | contradiction
    | ( skip
        refine z_if_ne (tgt := 24) d_Mo_tin_15 (by decide) (fun h => absurd h (by decide)) (fun _ => ?_)
        refine z_aload_0 d_Mo_tin_18 ?_
        refine z_iconst (a := nI 2) d_Mo_tin_19 (by decide) ?_
        refine z_Vi1 d_Mo_tin_20 k_Mo_327 (by first | assumption | exact zS0_at (by assumption) (by omega) | exact zS0_at rfl (by omega)) (t_Mo_refuse (by assumption)) ⟨Nat.le_of_ble_eq_true rfl, Nat.le_of_ble_eq_true rfl, Nat.le_of_ble_eq_true rfl, Nat.le_of_ble_eq_true rfl⟩ (Nat.le_of_ble_eq_true rfl) ?_
        intro r w hq
        obtain ⟨rfl, rfl⟩ := hq
        refine z_reti d_Mo_tin_23 ?_
        exact ⟨by first | rfl | assumption | (rw [e150]), _, _, rfl, (by repeat (first | exact h1 | refine mqF_z ?_ (by decide))), mqJ_r, (by first | exact zu_same _ _ _ _ | exact h0)⟩)
theorem t_Tf_tin_3 {t : Nat} (Z : clOk f d P S) (N : fenIn I f nt np nl nn) (ht : t < nn) : zEi G y_Tf_tin prog_1_method_16_code 3 (some .int) 4 [.ref 0, .int (nI t), .int (nI 3)] (I, J, P, S) (fun r w => r = I (f + 7) t ∧ cW I J P S 0 w) := by
  obtain ⟨⟨c0, c3, c1s⟩, ⟨c5, c2s, ctr⟩, ⟨c6, c11s, c11, c13s⟩, ⟨c7, c15s, c15⟩, ⟨c8, c16s, c16a, c16b, c17s⟩, ⟨c9, c10, cfd, F, Fd⟩, ⟨c11b, Ft⟩, ⟨c12, c69s, cmk⟩, ⟨c14, c121s, c121, c122s⟩, ⟨c15b, c123s, c123, c124s⟩, ⟨c16, c125s, c125, c126s⟩, ⟨c17, c127s, c127, c128s, ctb⟩, ⟨c18, c139s, c139, c140s⟩, ⟨c19, c141s, ⟨c141a, c142s⟩, ⟨c141b, c143s⟩, ⟨c141c, c144s⟩⟩, M⟩ := id Z
  obtain ⟨F0, ⟨F8, F8s⟩, ⟨F9, F9s⟩, ⟨F10, F10s⟩, ⟨F11, F11s⟩, ⟨F12, F12s⟩, ⟨F13, F13s⟩, ⟨F14, F14s⟩, ⟨F15, F15s⟩, ⟨F16, F16s⟩, ⟨F17, F17s⟩, ⟨F18, F18s⟩, ⟨F19, F19s⟩, ⟨Y3, Y3s⟩, ⟨Y4, Y4s⟩, ⟨Y5, Y5s⟩, ⟨Y6, Y6s⟩⟩ := id F
  obtain ⟨⟨n1, n1b⟩, ⟨n2, n2b⟩, ⟨n3, n3b⟩, ⟨n4, n4b⟩, nof, non⟩ := id N
  have hz : zin (nI t) nn := ⟨t, by omega, rfl⟩
  refine zEi_of (lv := [some (.ref 0), some (.int (nI t)), some (.int (nI 3))]) (by decide) rfl (Nat.le_of_ble_eq_true rfl) ?_
  refine z_aload_0 d_Tf_tin_0 ?_
  refine z_iload_1 d_Tf_tin_1 ?_
  refine z_Vi1 d_Tf_tin_2 k_Tf_249 (by first | assumption | exact zS0_at (by assumption) (by omega) | exact zS0_at rfl (by omega)) (t_Tf_noTin Z N) ⟨Nat.le_of_ble_eq_true rfl, Nat.le_of_ble_eq_true rfl, Nat.le_of_ble_eq_true rfl, Nat.le_of_ble_eq_true rfl⟩ (Nat.le_of_ble_eq_true rfl) ?_
  intro r w hq
  rcases hq with ⟨⟨hz2, rfl⟩ | ⟨hz2, rfl⟩, rfl⟩
  · first
    | contradiction
    | ( skip
        refine z_if_eq (tgt := 14) d_Tf_tin_5 (by decide) (fun h => absurd h (by decide)) (fun _ => ?_)
        refine z_aload_0 d_Tf_tin_8 ?_
        refine z_iconst (a := nI 2) d_Tf_tin_9 (by decide) ?_
        refine z_Vi1 d_Tf_tin_10 k_Tf_138 (by first | assumption | exact zS0_at (by assumption) (by omega) | exact zS0_at rfl (by omega)) (t_Tf_fail (by assumption)) ⟨Nat.le_of_ble_eq_true rfl, Nat.le_of_ble_eq_true rfl, Nat.le_of_ble_eq_true rfl, Nat.le_of_ble_eq_true rfl⟩ (Nat.le_of_ble_eq_true rfl) ?_
        intro r w hq
        obtain ⟨rfl, rfl⟩ := hq
        refine z_reti d_Tf_tin_13 ?_
        exact ⟨by first | rfl | assumption, cW_0⟩)
  · first
    | contradiction
    | ( skip
        refine z_if_eq (tgt := 14) d_Tf_tin_5 (by decide) (fun _ => ?_) (fun h => absurd h (by decide))
        refine z_iload_2 d_Tf_tin_14 ?_
        refine z_tableIn (off := 97) (tgt := 112) d_Tf_tin_15 (by decide) (by decide) (by decide) (by decide) ?_
        refine z_aload_0 d_Tf_tin_112 ?_
        refine z_aload_0 d_Tf_tin_113 ?_
        refine z_getR d_Tf_tin_114 f_Tf_60 (by first | assumption | exact zS0_at (by assumption) (by omega) | exact zS0_at rfl (by omega)) (by first | assumption | exact zS0_at (by assumption) (by omega) | exact zS0_at rfl (by omega)) ?_
        refine z_getR d_Tf_tin_117 f_Tf_261 (by first | assumption | exact zS0_at (by assumption) (by omega) | exact zS0_at rfl (by omega)) (by first | assumption | exact zS0_at (by assumption) (by omega) | exact zS0_at rfl (by omega)) ?_
        refine z_iload_1 d_Tf_tin_120 ?_
        first | refine z_ialdNv d_Tf_tin_121 (by first | assumption | exact zS0_at (by assumption) (by omega) | exact zS0_at rfl (by omega)) (by omega) (by first | decide | omega) (by first | assumption | ((try simp (disch := omega) only [zu_same, zu_ne, zcp_ne, zfl_ne]); first | assumption | rfl)) ?_ | refine z_iald d_Tf_tin_121 (by first | assumption | exact zS0_at (by assumption) (by omega) | exact zS0_at rfl (by omega)) (by first | assumption | exact zS0_at (by assumption) (by omega) | exact zS0_at rfl (by omega)) ?_
        refine z_Vi1 d_Tf_tin_122 k_Tf_174 (by first | assumption | exact zS0_at (by assumption) (by omega) | exact zS0_at rfl (by omega)) (t_Tf_give (by assumption)) ⟨Nat.le_of_ble_eq_true rfl, Nat.le_of_ble_eq_true rfl, Nat.le_of_ble_eq_true rfl, Nat.le_of_ble_eq_true rfl⟩ (Nat.le_of_ble_eq_true rfl) ?_
        intro r w hq
        obtain ⟨rfl, rfl⟩ := hq
        refine z_reti d_Tf_tin_125 ?_
        exact ⟨by first | rfl | assumption, cW_0⟩)
theorem t_Mo_tin_3 {t : Nat} (M : modOk P S) (N : modIn I nt np nl nn) (ht : t < nn) : zEi G y_Mo_tin prog_14_method_87_code 3 (some .int) 4 [.ref 145, .int (nI t), .int (nI 3)] (I, J, P, S) (fun r w => r = I 150 (69 + t) ∧ mW I J P S 0 w) := by
  obtain ⟨M0, ⟨M4, M4s⟩, ⟨M5, M5s⟩, ⟨M6, M6s⟩, ⟨M7, M7s⟩, ⟨M20, M20s⟩, ⟨M21, M21s⟩, ⟨M22, M22s⟩, ⟨M26, M26s⟩, ⟨M27, M27s⟩, ⟨M28, M28s⟩, ⟨M30, M30s⟩, ⟨M34, M34s⟩, ⟨M36, M36s⟩, ⟨M37, M37s⟩⟩ := id M
  obtain ⟨I1, hI1, N1, h1, h0, e150, er, ek⟩ := mo_beg N
  obtain ⟨⟨m0, m0b⟩, ⟨m1, m1b⟩, ⟨m2, m2b⟩, ⟨m3, m3b⟩, mof, mon⟩ := id N1
  have hD : mD I I1 := ⟨h1, h0, e150, er⟩
  refine zEi_of (lv := [some (.ref 145), some (.int (nI t)), some (.int (nI 3))]) (by decide) rfl (Nat.le_of_ble_eq_true rfl) ?_
  refine z_aload_0 d_Mo_tin_0 ?_
  refine z_iconst (a := nI 0) d_Mo_tin_1 (by decide) ?_
  refine z_putI d_Mo_tin_2 f_Mo_70 (by first | assumption | exact zS0_at (by assumption) (by omega) | exact zS0_at rfl (by omega)) ?_
  refine z_aload_0 d_Mo_tin_5 ?_
  refine z_iconst (a := nI 0) d_Mo_tin_6 (by decide) ?_
  refine z_putI d_Mo_tin_7 f_Mo_73 (by first | assumption | exact zS0_at (by assumption) (by omega) | exact zS0_at rfl (by omega)) ?_
  rw [← hI1]
  have hz : zin (nI t) nn := ⟨t, by omega, rfl⟩
  have hzb : zin (nI 3) 5 := ⟨3, by decide, rfl⟩
  have hr : I1 150 (69 + t) = I 150 (69 + t) := by rw [e150]
  refine z_aload_0 d_Mo_tin_10 ?_
  refine z_iload_1 d_Mo_tin_11 ?_
  refine z_Vi1 d_Mo_tin_12 k_Mo_344 (by first | assumption | exact zS0_at (by assumption) (by omega) | exact zS0_at rfl (by omega)) (t_Mo_isTinAt M N1) ⟨Nat.le_of_ble_eq_true rfl, Nat.le_of_ble_eq_true rfl, Nat.le_of_ble_eq_true rfl, Nat.le_of_ble_eq_true rfl⟩ (Nat.le_of_ble_eq_true rfl) ?_
  intro r w hq
  rcases hq with ⟨⟨hz12, rfl⟩ | ⟨hz12, rfl⟩, rfl⟩
  · first
    | contradiction
    | ( skip
        refine z_if_ne (tgt := 24) d_Mo_tin_15 (by decide) (fun _ => ?_) (fun h => absurd h (by decide))
        refine z_iload_2 d_Mo_tin_24 ?_
        refine z_i2l d_Mo_tin_25 ?_
        refine z_lconst (f := lN 0) d_Mo_tin_26 rfl ?_
        refine z_ldc2 d_Mo_tin_27 c_Mo_339 ?_
        refine z_Si3 d_Mo_tin_30 k_Mo_105 (t_Mo_isInZ (m := 5) (by decide) (by decide)) ⟨Nat.le_of_ble_eq_true rfl, Nat.le_of_ble_eq_true rfl, Nat.le_of_ble_eq_true rfl, Nat.le_of_ble_eq_true rfl⟩ (Nat.le_of_ble_eq_true rfl) ?_
        intro r w hq
        rcases hq with ⟨⟨hz30, rfl⟩ | ⟨hz30, rfl⟩, rfl⟩
        · first
          | contradiction
          | ( skip
              refine z_if_ne (tgt := 42) d_Mo_tin_33 (by decide) (fun _ => ?_) (fun h => absurd h (by decide))
              refine z_iload_2 d_Mo_tin_42 ?_
              refine z_iconst (a := nI 1) d_Mo_tin_43 (by decide) ?_
              refine z_icmp_ne (tgt := 74) d_Mo_tin_44 (by decide) (fun h44 => ?_) (fun h44 => ?_)
              · first
                | (simp (disch := omega) only [← nI_0, nI_leI, nI_ltI, nI_eq, not_true_eq_false, not_false_eq_true] at h44; done)
                | (simp (disch := omega) only [← nI_0, nI_leI, nI_ltI, nI_eq, not_true_eq_false, not_false_eq_true] at h44; omega)
                | contradiction
                | exact absurd h44 (Int32.not_lt.mpr (by assumption))
                | exact absurd h44 (Int32.not_le.mpr (by assumption))
                | exact absurd h44 (by decide)
                | exact absurd (by decide) h44
                | ( try simp (disch := omega) only [← nI_0, nI_leI, nI_ltI, nI_eq, not_true_eq_false, not_false_eq_true] at h44
                    (try have h44b := zbit_n0.mp h44); (try have h44b := zbit_p0.mp h44)
                    refine z_aload_0 d_Mo_tin_74 ?_
                    refine z_getR d_Mo_tin_75 f_Mo_35 (by first | assumption | exact zS0_at (by assumption) (by omega) | exact zS0_at rfl (by omega)) (by first | assumption | exact zS0_at (by assumption) (by omega) | exact zS0_at rfl (by omega)) ?_
                    refine z_iload_2 d_Mo_tin_78 ?_
                    refine z_if_ne (tgt := 87) d_Mo_tin_79 (by decide) (fun h79 => ?_) (fun h79 => ?_)
                    · first
                      | (simp (disch := omega) only [← nI_0, nI_leI, nI_ltI, nI_eq, not_true_eq_false, not_false_eq_true] at h79; done)
                      | (simp (disch := omega) only [← nI_0, nI_leI, nI_ltI, nI_eq, not_true_eq_false, not_false_eq_true] at h79; omega)
                      | contradiction
                      | exact absurd h79 (Int32.not_lt.mpr (by assumption))
                      | exact absurd h79 (Int32.not_le.mpr (by assumption))
                      | exact absurd h79 (by decide)
                      | exact absurd (by decide) h79
                      | ( try simp (disch := omega) only [← nI_0, nI_leI, nI_ltI, nI_eq, not_true_eq_false, not_false_eq_true] at h79
                          (try have h79b := zbit_n0.mp h79); (try have h79b := zbit_p0.mp h79)
                          refine z_iload_2 d_Mo_tin_87 ?_
                          refine z_iconst (a := nI 2) d_Mo_tin_88 (by decide) ?_
                          refine z_icmp_ne (tgt := 97) d_Mo_tin_89 (by decide) (fun h89 => ?_) (fun h89 => ?_)
                          · first
                            | (simp (disch := omega) only [← nI_0, nI_leI, nI_ltI, nI_eq, not_true_eq_false, not_false_eq_true] at h89; done)
                            | (simp (disch := omega) only [← nI_0, nI_leI, nI_ltI, nI_eq, not_true_eq_false, not_false_eq_true] at h89; omega)
                            | contradiction
                            | exact absurd h89 (Int32.not_lt.mpr (by assumption))
                            | exact absurd h89 (Int32.not_le.mpr (by assumption))
                            | exact absurd h89 (by decide)
                            | exact absurd (by decide) h89
                            | ( try simp (disch := omega) only [← nI_0, nI_leI, nI_ltI, nI_eq, not_true_eq_false, not_false_eq_true] at h89
                                (try have h89b := zbit_n0.mp h89); (try have h89b := zbit_p0.mp h89)
                                refine z_iload_2 d_Mo_tin_97 ?_
                                refine z_iconst (a := nI 3) d_Mo_tin_98 (by decide) ?_
                                refine z_icmp_ne (tgt := 107) d_Mo_tin_99 (by decide) (fun h99 => ?_) (fun h99 => ?_)
                                · first
                                  | (simp (disch := omega) only [← nI_0, nI_leI, nI_ltI, nI_eq, not_true_eq_false, not_false_eq_true] at h99; done)
                                  | (simp (disch := omega) only [← nI_0, nI_leI, nI_ltI, nI_eq, not_true_eq_false, not_false_eq_true] at h99; omega)
                                  | contradiction
                                  | exact absurd h99 (Int32.not_lt.mpr (by assumption))
                                  | exact absurd h99 (Int32.not_le.mpr (by assumption))
                                  | exact absurd h99 (by decide)
                                  | exact absurd (by decide) h99
                                  | ( try simp (disch := omega) only [← nI_0, nI_leI, nI_ltI, nI_eq, not_true_eq_false, not_false_eq_true] at h99
                                      (try have h99b := zbit_n0.mp h99); (try have h99b := zbit_p0.mp h99)
                                      refine z_bipush (a := nI 78) d_Mo_tin_107 (by decide) ?_
                                      refine z_iload_1 d_Mo_tin_109 ?_
                                      first | refine z_iaddN d_Mo_tin_110 ?_ | refine z_iadd d_Mo_tin_110 ?_
                                      first | refine z_ialdNv d_Mo_tin_111 (by first | assumption | exact zS0_at (by assumption) (by omega) | exact zS0_at rfl (by omega)) (by omega) (by first | decide | omega) (by first | assumption | ((try simp (disch := omega) only [zu_same, zu_ne, zcp_ne, zfl_ne]); first | assumption | rfl)) ?_ | refine z_iald d_Mo_tin_111 (by first | assumption | exact zS0_at (by assumption) (by omega) | exact zS0_at rfl (by omega)) (by first | assumption | exact zS0_at (by assumption) (by omega) | exact zS0_at rfl (by omega)) ?_
                                      refine z_reti d_Mo_tin_112 ?_
                                      exact ⟨by first | rfl | assumption | (rw [e150]), _, _, rfl, (by repeat (first | exact h1 | refine mqF_z ?_ (by decide))), mqJ_r, (by first | exact zu_same _ _ _ _ | exact h0)⟩)
                                · first
                                  | (simp (disch := omega) only [← nI_0, nI_leI, nI_ltI, nI_eq, not_true_eq_false, not_false_eq_true] at h99; done)
                                  | (simp (disch := omega) only [← nI_0, nI_leI, nI_ltI, nI_eq, not_true_eq_false, not_false_eq_true] at h99; omega)
                                  | contradiction
                                  | exact absurd h99 (Int32.not_lt.mpr (by assumption))
                                  | exact absurd h99 (Int32.not_le.mpr (by assumption))
                                  | exact absurd h99 (by decide)
                                  | exact absurd (by decide) h99
                                  | ( try simp (disch := omega) only [← nI_0, nI_leI, nI_ltI, nI_eq, not_true_eq_false, not_false_eq_true] at h99
                                      (try have h99b := zbit_n0.mp h99); (try have h99b := zbit_p0.mp h99)
                                      refine z_bipush (a := nI 69) d_Mo_tin_102 (by decide) ?_
                                      refine z_goto (tgt := 109) d_Mo_tin_104 (by decide) ?_
                                      refine z_iload_1 d_Mo_tin_109 ?_
                                      first | refine z_iaddN d_Mo_tin_110 ?_ | refine z_iadd d_Mo_tin_110 ?_
                                      first | refine z_ialdNv d_Mo_tin_111 (by first | assumption | exact zS0_at (by assumption) (by omega) | exact zS0_at rfl (by omega)) (by omega) (by first | decide | omega) (by first | assumption | ((try simp (disch := omega) only [zu_same, zu_ne, zcp_ne, zfl_ne]); first | assumption | rfl)) ?_ | refine z_iald d_Mo_tin_111 (by first | assumption | exact zS0_at (by assumption) (by omega) | exact zS0_at rfl (by omega)) (by first | assumption | exact zS0_at (by assumption) (by omega) | exact zS0_at rfl (by omega)) ?_
                                      refine z_reti d_Mo_tin_112 ?_
                                      exact ⟨by first | rfl | assumption | (rw [e150]), _, _, rfl, (by repeat (first | exact h1 | refine mqF_z ?_ (by decide))), mqJ_r, (by first | exact zu_same _ _ _ _ | exact h0)⟩))
                          · first
                            | (simp (disch := omega) only [← nI_0, nI_leI, nI_ltI, nI_eq, not_true_eq_false, not_false_eq_true] at h89; done)
                            | (simp (disch := omega) only [← nI_0, nI_leI, nI_ltI, nI_eq, not_true_eq_false, not_false_eq_true] at h89; omega)
                            | contradiction
                            | exact absurd h89 (Int32.not_lt.mpr (by assumption))
                            | exact absurd h89 (Int32.not_le.mpr (by assumption))
                            | exact absurd h89 (by decide)
                            | exact absurd (by decide) h89
                            | ( try simp (disch := omega) only [← nI_0, nI_leI, nI_ltI, nI_eq, not_true_eq_false, not_false_eq_true] at h89
                                (try have h89b := zbit_n0.mp h89); (try have h89b := zbit_p0.mp h89)
                                refine z_bipush (a := nI 51) d_Mo_tin_92 (by decide) ?_
                                refine z_goto (tgt := 109) d_Mo_tin_94 (by decide) ?_
                                refine z_iload_1 d_Mo_tin_109 ?_
                                first | refine z_iaddN d_Mo_tin_110 ?_ | refine z_iadd d_Mo_tin_110 ?_
                                first | refine z_ialdNv d_Mo_tin_111 (by first | assumption | exact zS0_at (by assumption) (by omega) | exact zS0_at rfl (by omega)) (by omega) (by first | decide | omega) (by first | assumption | ((try simp (disch := omega) only [zu_same, zu_ne, zcp_ne, zfl_ne]); first | assumption | rfl)) ?_ | refine z_iald d_Mo_tin_111 (by first | assumption | exact zS0_at (by assumption) (by omega) | exact zS0_at rfl (by omega)) (by first | assumption | exact zS0_at (by assumption) (by omega) | exact zS0_at rfl (by omega)) ?_
                                refine z_reti d_Mo_tin_112 ?_
                                exact ⟨by first | rfl | assumption | (rw [e150]), _, _, rfl, (by repeat (first | exact h1 | refine mqF_z ?_ (by decide))), mqJ_r, (by first | exact zu_same _ _ _ _ | exact h0)⟩))
                    · first
                      | (simp (disch := omega) only [← nI_0, nI_leI, nI_ltI, nI_eq, not_true_eq_false, not_false_eq_true] at h79; done)
                      | (simp (disch := omega) only [← nI_0, nI_leI, nI_ltI, nI_eq, not_true_eq_false, not_false_eq_true] at h79; omega)
                      | contradiction
                      | exact absurd h79 (Int32.not_lt.mpr (by assumption))
                      | exact absurd h79 (Int32.not_le.mpr (by assumption))
                      | exact absurd h79 (by decide)
                      | exact absurd (by decide) h79
                      | ( try simp (disch := omega) only [← nI_0, nI_leI, nI_ltI, nI_eq, not_true_eq_false, not_false_eq_true] at h79
                          (try have h79b := zbit_n0.mp h79); (try have h79b := zbit_p0.mp h79)
                          refine z_bipush (a := nI 33) d_Mo_tin_82 (by decide) ?_
                          refine z_goto (tgt := 109) d_Mo_tin_84 (by decide) ?_
                          refine z_iload_1 d_Mo_tin_109 ?_
                          first | refine z_iaddN d_Mo_tin_110 ?_ | refine z_iadd d_Mo_tin_110 ?_
                          first | refine z_ialdNv d_Mo_tin_111 (by first | assumption | exact zS0_at (by assumption) (by omega) | exact zS0_at rfl (by omega)) (by omega) (by first | decide | omega) (by first | assumption | ((try simp (disch := omega) only [zu_same, zu_ne, zcp_ne, zfl_ne]); first | assumption | rfl)) ?_ | refine z_iald d_Mo_tin_111 (by first | assumption | exact zS0_at (by assumption) (by omega) | exact zS0_at rfl (by omega)) (by first | assumption | exact zS0_at (by assumption) (by omega) | exact zS0_at rfl (by omega)) ?_
                          refine z_reti d_Mo_tin_112 ?_
                          exact ⟨by first | rfl | assumption | (rw [e150]), _, _, rfl, (by repeat (first | exact h1 | refine mqF_z ?_ (by decide))), mqJ_r, (by first | exact zu_same _ _ _ _ | exact h0)⟩))
              · first
                | (simp (disch := omega) only [← nI_0, nI_leI, nI_ltI, nI_eq, not_true_eq_false, not_false_eq_true] at h44; done)
                | (simp (disch := omega) only [← nI_0, nI_leI, nI_ltI, nI_eq, not_true_eq_false, not_false_eq_true] at h44; omega)
                | contradiction
                | exact absurd h44 (Int32.not_lt.mpr (by assumption))
                | exact absurd h44 (Int32.not_le.mpr (by assumption))
                | exact absurd h44 (by decide)
                | exact absurd (by decide) h44
                | ( try simp (disch := omega) only [← nI_0, nI_leI, nI_ltI, nI_eq, not_true_eq_false, not_false_eq_true] at h44
                    (try have h44b := zbit_n0.mp h44); (try have h44b := zbit_p0.mp h44)
                    refine z_aload_0 d_Mo_tin_47 ?_
                    refine z_iload_1 d_Mo_tin_48 ?_
                    refine z_Vi1 d_Mo_tin_49 k_Mo_310 (by first | assumption | exact zS0_at (by assumption) (by omega) | exact zS0_at rfl (by omega)) (t_Mo_isGone (by assumption) (by omega)) ⟨Nat.le_of_ble_eq_true rfl, Nat.le_of_ble_eq_true rfl, Nat.le_of_ble_eq_true rfl, Nat.le_of_ble_eq_true rfl⟩ (Nat.le_of_ble_eq_true rfl) ?_
                    intro r w hq
                    rcases hq with ⟨⟨hz49, rfl⟩ | ⟨hz49, rfl⟩, rfl⟩
                    · first
                      | contradiction
                      | ( skip
                          refine z_if_eq (tgt := 64) d_Mo_tin_52 (by decide) (fun h => absurd h (by decide)) (fun _ => ?_)
                          refine z_aload_0 d_Mo_tin_55 ?_
                          refine z_bipush (a := nI 8) d_Mo_tin_56 (by decide) ?_
                          refine z_Vi1 d_Mo_tin_58 k_Mo_327 (by first | assumption | exact zS0_at (by assumption) (by omega) | exact zS0_at rfl (by omega)) (t_Mo_refuse (by assumption)) ⟨Nat.le_of_ble_eq_true rfl, Nat.le_of_ble_eq_true rfl, Nat.le_of_ble_eq_true rfl, Nat.le_of_ble_eq_true rfl⟩ (Nat.le_of_ble_eq_true rfl) ?_
                          intro r w hq
                          obtain ⟨rfl, rfl⟩ := hq
                          refine z_goto (tgt := 73) d_Mo_tin_61 (by decide) ?_
                          refine z_reti d_Mo_tin_73 ?_
                          exact ⟨by first | rfl | assumption | (rw [e150]), _, _, rfl, (by repeat (first | exact h1 | refine mqF_z ?_ (by decide))), mqJ_r, (by first | exact zu_same _ _ _ _ | exact h0)⟩)
                    · first
                      | contradiction
                      | ( skip
                          refine z_if_eq (tgt := 64) d_Mo_tin_52 (by decide) (fun _ => ?_) (fun h => absurd h (by decide))
                          refine z_aload_0 d_Mo_tin_64 ?_
                          refine z_getR d_Mo_tin_65 f_Mo_35 (by first | assumption | exact zS0_at (by assumption) (by omega) | exact zS0_at rfl (by omega)) (by first | assumption | exact zS0_at (by assumption) (by omega) | exact zS0_at rfl (by omega)) ?_
                          refine z_bipush (a := nI 42) d_Mo_tin_68 (by decide) ?_
                          refine z_iload_1 d_Mo_tin_70 ?_
                          first | refine z_iaddN d_Mo_tin_71 ?_ | refine z_iadd d_Mo_tin_71 ?_
                          first | refine z_ialdNv d_Mo_tin_72 (by first | assumption | exact zS0_at (by assumption) (by omega) | exact zS0_at rfl (by omega)) (by omega) (by first | decide | omega) (by first | assumption | ((try simp (disch := omega) only [zu_same, zu_ne, zcp_ne, zfl_ne]); first | assumption | rfl)) ?_ | refine z_iald d_Mo_tin_72 (by first | assumption | exact zS0_at (by assumption) (by omega) | exact zS0_at rfl (by omega)) (by first | assumption | exact zS0_at (by assumption) (by omega) | exact zS0_at rfl (by omega)) ?_
                          refine z_reti d_Mo_tin_73 ?_
                          exact ⟨by first | rfl | assumption | (rw [e150]), _, _, rfl, (by repeat (first | exact h1 | refine mqF_z ?_ (by decide))), mqJ_r, (by first | exact zu_same _ _ _ _ | exact h0)⟩)))
        · first
          | contradiction
          | ( skip
              refine z_if_ne (tgt := 42) d_Mo_tin_33 (by decide) (fun h => absurd h (by decide)) (fun _ => ?_)
              refine z_aload_0 d_Mo_tin_36 ?_
              refine z_iconst (a := nI 5) d_Mo_tin_37 (by decide) ?_
              refine z_Vi1 d_Mo_tin_38 k_Mo_327 (by first | assumption | exact zS0_at (by assumption) (by omega) | exact zS0_at rfl (by omega)) (t_Mo_refuse (by assumption)) ⟨Nat.le_of_ble_eq_true rfl, Nat.le_of_ble_eq_true rfl, Nat.le_of_ble_eq_true rfl, Nat.le_of_ble_eq_true rfl⟩ (Nat.le_of_ble_eq_true rfl) ?_
              intro r w hq
              obtain ⟨rfl, rfl⟩ := hq
              refine z_reti d_Mo_tin_41 ?_
              exact ⟨by first | rfl | assumption | (rw [e150]), _, _, rfl, (by repeat (first | exact h1 | refine mqF_z ?_ (by decide))), mqJ_r, (by first | exact zu_same _ _ _ _ | exact h0)⟩))
  · first
    | contradiction
    | ( skip
        refine z_if_ne (tgt := 24) d_Mo_tin_15 (by decide) (fun h => absurd h (by decide)) (fun _ => ?_)
        refine z_aload_0 d_Mo_tin_18 ?_
        refine z_iconst (a := nI 2) d_Mo_tin_19 (by decide) ?_
        refine z_Vi1 d_Mo_tin_20 k_Mo_327 (by first | assumption | exact zS0_at (by assumption) (by omega) | exact zS0_at rfl (by omega)) (t_Mo_refuse (by assumption)) ⟨Nat.le_of_ble_eq_true rfl, Nat.le_of_ble_eq_true rfl, Nat.le_of_ble_eq_true rfl, Nat.le_of_ble_eq_true rfl⟩ (Nat.le_of_ble_eq_true rfl) ?_
        intro r w hq
        obtain ⟨rfl, rfl⟩ := hq
        refine z_reti d_Mo_tin_23 ?_
        exact ⟨by first | rfl | assumption | (rw [e150]), _, _, rfl, (by repeat (first | exact h1 | refine mqF_z ?_ (by decide))), mqJ_r, (by first | exact zu_same _ _ _ _ | exact h0)⟩)
theorem t_Tf_tin_4 {t : Nat} (Z : clOk f d P S) (N : fenIn I f nt np nl nn) (ht : t < nn) : zEi G y_Tf_tin prog_1_method_16_code 3 (some .int) 4 [.ref 0, .int (nI t), .int (nI 4)] (I, J, P, S) (fun r w => r = I (f + 8) t ∧ cW I J P S 0 w) := by
  obtain ⟨⟨c0, c3, c1s⟩, ⟨c5, c2s, ctr⟩, ⟨c6, c11s, c11, c13s⟩, ⟨c7, c15s, c15⟩, ⟨c8, c16s, c16a, c16b, c17s⟩, ⟨c9, c10, cfd, F, Fd⟩, ⟨c11b, Ft⟩, ⟨c12, c69s, cmk⟩, ⟨c14, c121s, c121, c122s⟩, ⟨c15b, c123s, c123, c124s⟩, ⟨c16, c125s, c125, c126s⟩, ⟨c17, c127s, c127, c128s, ctb⟩, ⟨c18, c139s, c139, c140s⟩, ⟨c19, c141s, ⟨c141a, c142s⟩, ⟨c141b, c143s⟩, ⟨c141c, c144s⟩⟩, M⟩ := id Z
  obtain ⟨F0, ⟨F8, F8s⟩, ⟨F9, F9s⟩, ⟨F10, F10s⟩, ⟨F11, F11s⟩, ⟨F12, F12s⟩, ⟨F13, F13s⟩, ⟨F14, F14s⟩, ⟨F15, F15s⟩, ⟨F16, F16s⟩, ⟨F17, F17s⟩, ⟨F18, F18s⟩, ⟨F19, F19s⟩, ⟨Y3, Y3s⟩, ⟨Y4, Y4s⟩, ⟨Y5, Y5s⟩, ⟨Y6, Y6s⟩⟩ := id F
  obtain ⟨⟨n1, n1b⟩, ⟨n2, n2b⟩, ⟨n3, n3b⟩, ⟨n4, n4b⟩, nof, non⟩ := id N
  have hz : zin (nI t) nn := ⟨t, by omega, rfl⟩
  refine zEi_of (lv := [some (.ref 0), some (.int (nI t)), some (.int (nI 4))]) (by decide) rfl (Nat.le_of_ble_eq_true rfl) ?_
  refine z_aload_0 d_Tf_tin_0 ?_
  refine z_iload_1 d_Tf_tin_1 ?_
  refine z_Vi1 d_Tf_tin_2 k_Tf_249 (by first | assumption | exact zS0_at (by assumption) (by omega) | exact zS0_at rfl (by omega)) (t_Tf_noTin Z N) ⟨Nat.le_of_ble_eq_true rfl, Nat.le_of_ble_eq_true rfl, Nat.le_of_ble_eq_true rfl, Nat.le_of_ble_eq_true rfl⟩ (Nat.le_of_ble_eq_true rfl) ?_
  intro r w hq
  rcases hq with ⟨⟨hz2, rfl⟩ | ⟨hz2, rfl⟩, rfl⟩
  · first
    | contradiction
    | ( skip
        refine z_if_eq (tgt := 14) d_Tf_tin_5 (by decide) (fun h => absurd h (by decide)) (fun _ => ?_)
        refine z_aload_0 d_Tf_tin_8 ?_
        refine z_iconst (a := nI 2) d_Tf_tin_9 (by decide) ?_
        refine z_Vi1 d_Tf_tin_10 k_Tf_138 (by first | assumption | exact zS0_at (by assumption) (by omega) | exact zS0_at rfl (by omega)) (t_Tf_fail (by assumption)) ⟨Nat.le_of_ble_eq_true rfl, Nat.le_of_ble_eq_true rfl, Nat.le_of_ble_eq_true rfl, Nat.le_of_ble_eq_true rfl⟩ (Nat.le_of_ble_eq_true rfl) ?_
        intro r w hq
        obtain ⟨rfl, rfl⟩ := hq
        refine z_reti d_Tf_tin_13 ?_
        exact ⟨by first | rfl | assumption, cW_0⟩)
  · first
    | contradiction
    | ( skip
        refine z_if_eq (tgt := 14) d_Tf_tin_5 (by decide) (fun _ => ?_) (fun h => absurd h (by decide))
        refine z_iload_2 d_Tf_tin_14 ?_
        refine z_tableIn (off := 111) (tgt := 126) d_Tf_tin_15 (by decide) (by decide) (by decide) (by decide) ?_
        refine z_aload_0 d_Tf_tin_126 ?_
        refine z_aload_0 d_Tf_tin_127 ?_
        refine z_getR d_Tf_tin_128 f_Tf_60 (by first | assumption | exact zS0_at (by assumption) (by omega) | exact zS0_at rfl (by omega)) (by first | assumption | exact zS0_at (by assumption) (by omega) | exact zS0_at rfl (by omega)) ?_
        refine z_getR d_Tf_tin_131 f_Tf_264 (by first | assumption | exact zS0_at (by assumption) (by omega) | exact zS0_at rfl (by omega)) (by first | assumption | exact zS0_at (by assumption) (by omega) | exact zS0_at rfl (by omega)) ?_
        refine z_iload_1 d_Tf_tin_134 ?_
        first | refine z_ialdNv d_Tf_tin_135 (by first | assumption | exact zS0_at (by assumption) (by omega) | exact zS0_at rfl (by omega)) (by omega) (by first | decide | omega) (by first | assumption | ((try simp (disch := omega) only [zu_same, zu_ne, zcp_ne, zfl_ne]); first | assumption | rfl)) ?_ | refine z_iald d_Tf_tin_135 (by first | assumption | exact zS0_at (by assumption) (by omega) | exact zS0_at rfl (by omega)) (by first | assumption | exact zS0_at (by assumption) (by omega) | exact zS0_at rfl (by omega)) ?_
        refine z_Vi1 d_Tf_tin_136 k_Tf_174 (by first | assumption | exact zS0_at (by assumption) (by omega) | exact zS0_at rfl (by omega)) (t_Tf_give (by assumption)) ⟨Nat.le_of_ble_eq_true rfl, Nat.le_of_ble_eq_true rfl, Nat.le_of_ble_eq_true rfl, Nat.le_of_ble_eq_true rfl⟩ (Nat.le_of_ble_eq_true rfl) ?_
        intro r w hq
        obtain ⟨rfl, rfl⟩ := hq
        refine z_reti d_Tf_tin_139 ?_
        exact ⟨by first | rfl | assumption, cW_0⟩)
theorem t_Mo_tin_4 {t : Nat} (M : modOk P S) (N : modIn I nt np nl nn) (ht : t < nn) : zEi G y_Mo_tin prog_14_method_87_code 3 (some .int) 4 [.ref 145, .int (nI t), .int (nI 4)] (I, J, P, S) (fun r w => r = I 150 (78 + t) ∧ mW I J P S 0 w) := by
  obtain ⟨M0, ⟨M4, M4s⟩, ⟨M5, M5s⟩, ⟨M6, M6s⟩, ⟨M7, M7s⟩, ⟨M20, M20s⟩, ⟨M21, M21s⟩, ⟨M22, M22s⟩, ⟨M26, M26s⟩, ⟨M27, M27s⟩, ⟨M28, M28s⟩, ⟨M30, M30s⟩, ⟨M34, M34s⟩, ⟨M36, M36s⟩, ⟨M37, M37s⟩⟩ := id M
  obtain ⟨I1, hI1, N1, h1, h0, e150, er, ek⟩ := mo_beg N
  obtain ⟨⟨m0, m0b⟩, ⟨m1, m1b⟩, ⟨m2, m2b⟩, ⟨m3, m3b⟩, mof, mon⟩ := id N1
  have hD : mD I I1 := ⟨h1, h0, e150, er⟩
  refine zEi_of (lv := [some (.ref 145), some (.int (nI t)), some (.int (nI 4))]) (by decide) rfl (Nat.le_of_ble_eq_true rfl) ?_
  refine z_aload_0 d_Mo_tin_0 ?_
  refine z_iconst (a := nI 0) d_Mo_tin_1 (by decide) ?_
  refine z_putI d_Mo_tin_2 f_Mo_70 (by first | assumption | exact zS0_at (by assumption) (by omega) | exact zS0_at rfl (by omega)) ?_
  refine z_aload_0 d_Mo_tin_5 ?_
  refine z_iconst (a := nI 0) d_Mo_tin_6 (by decide) ?_
  refine z_putI d_Mo_tin_7 f_Mo_73 (by first | assumption | exact zS0_at (by assumption) (by omega) | exact zS0_at rfl (by omega)) ?_
  rw [← hI1]
  have hz : zin (nI t) nn := ⟨t, by omega, rfl⟩
  have hzb : zin (nI 4) 5 := ⟨4, by decide, rfl⟩
  have hr : I1 150 (78 + t) = I 150 (78 + t) := by rw [e150]
  refine z_aload_0 d_Mo_tin_10 ?_
  refine z_iload_1 d_Mo_tin_11 ?_
  refine z_Vi1 d_Mo_tin_12 k_Mo_344 (by first | assumption | exact zS0_at (by assumption) (by omega) | exact zS0_at rfl (by omega)) (t_Mo_isTinAt M N1) ⟨Nat.le_of_ble_eq_true rfl, Nat.le_of_ble_eq_true rfl, Nat.le_of_ble_eq_true rfl, Nat.le_of_ble_eq_true rfl⟩ (Nat.le_of_ble_eq_true rfl) ?_
  intro r w hq
  rcases hq with ⟨⟨hz12, rfl⟩ | ⟨hz12, rfl⟩, rfl⟩
  · first
    | contradiction
    | ( skip
        refine z_if_ne (tgt := 24) d_Mo_tin_15 (by decide) (fun _ => ?_) (fun h => absurd h (by decide))
        refine z_iload_2 d_Mo_tin_24 ?_
        refine z_i2l d_Mo_tin_25 ?_
        refine z_lconst (f := lN 0) d_Mo_tin_26 rfl ?_
        refine z_ldc2 d_Mo_tin_27 c_Mo_339 ?_
        refine z_Si3 d_Mo_tin_30 k_Mo_105 (t_Mo_isInZ (m := 5) (by decide) (by decide)) ⟨Nat.le_of_ble_eq_true rfl, Nat.le_of_ble_eq_true rfl, Nat.le_of_ble_eq_true rfl, Nat.le_of_ble_eq_true rfl⟩ (Nat.le_of_ble_eq_true rfl) ?_
        intro r w hq
        rcases hq with ⟨⟨hz30, rfl⟩ | ⟨hz30, rfl⟩, rfl⟩
        · first
          | contradiction
          | ( skip
              refine z_if_ne (tgt := 42) d_Mo_tin_33 (by decide) (fun _ => ?_) (fun h => absurd h (by decide))
              refine z_iload_2 d_Mo_tin_42 ?_
              refine z_iconst (a := nI 1) d_Mo_tin_43 (by decide) ?_
              refine z_icmp_ne (tgt := 74) d_Mo_tin_44 (by decide) (fun h44 => ?_) (fun h44 => ?_)
              · first
                | (simp (disch := omega) only [← nI_0, nI_leI, nI_ltI, nI_eq, not_true_eq_false, not_false_eq_true] at h44; done)
                | (simp (disch := omega) only [← nI_0, nI_leI, nI_ltI, nI_eq, not_true_eq_false, not_false_eq_true] at h44; omega)
                | contradiction
                | exact absurd h44 (Int32.not_lt.mpr (by assumption))
                | exact absurd h44 (Int32.not_le.mpr (by assumption))
                | exact absurd h44 (by decide)
                | exact absurd (by decide) h44
                | ( try simp (disch := omega) only [← nI_0, nI_leI, nI_ltI, nI_eq, not_true_eq_false, not_false_eq_true] at h44
                    (try have h44b := zbit_n0.mp h44); (try have h44b := zbit_p0.mp h44)
                    refine z_aload_0 d_Mo_tin_74 ?_
                    refine z_getR d_Mo_tin_75 f_Mo_35 (by first | assumption | exact zS0_at (by assumption) (by omega) | exact zS0_at rfl (by omega)) (by first | assumption | exact zS0_at (by assumption) (by omega) | exact zS0_at rfl (by omega)) ?_
                    refine z_iload_2 d_Mo_tin_78 ?_
                    refine z_if_ne (tgt := 87) d_Mo_tin_79 (by decide) (fun h79 => ?_) (fun h79 => ?_)
                    · first
                      | (simp (disch := omega) only [← nI_0, nI_leI, nI_ltI, nI_eq, not_true_eq_false, not_false_eq_true] at h79; done)
                      | (simp (disch := omega) only [← nI_0, nI_leI, nI_ltI, nI_eq, not_true_eq_false, not_false_eq_true] at h79; omega)
                      | contradiction
                      | exact absurd h79 (Int32.not_lt.mpr (by assumption))
                      | exact absurd h79 (Int32.not_le.mpr (by assumption))
                      | exact absurd h79 (by decide)
                      | exact absurd (by decide) h79
                      | ( try simp (disch := omega) only [← nI_0, nI_leI, nI_ltI, nI_eq, not_true_eq_false, not_false_eq_true] at h79
                          (try have h79b := zbit_n0.mp h79); (try have h79b := zbit_p0.mp h79)
                          refine z_iload_2 d_Mo_tin_87 ?_
                          refine z_iconst (a := nI 2) d_Mo_tin_88 (by decide) ?_
                          refine z_icmp_ne (tgt := 97) d_Mo_tin_89 (by decide) (fun h89 => ?_) (fun h89 => ?_)
                          · first
                            | (simp (disch := omega) only [← nI_0, nI_leI, nI_ltI, nI_eq, not_true_eq_false, not_false_eq_true] at h89; done)
                            | (simp (disch := omega) only [← nI_0, nI_leI, nI_ltI, nI_eq, not_true_eq_false, not_false_eq_true] at h89; omega)
                            | contradiction
                            | exact absurd h89 (Int32.not_lt.mpr (by assumption))
                            | exact absurd h89 (Int32.not_le.mpr (by assumption))
                            | exact absurd h89 (by decide)
                            | exact absurd (by decide) h89
                            | ( try simp (disch := omega) only [← nI_0, nI_leI, nI_ltI, nI_eq, not_true_eq_false, not_false_eq_true] at h89
                                (try have h89b := zbit_n0.mp h89); (try have h89b := zbit_p0.mp h89)
                                refine z_iload_2 d_Mo_tin_97 ?_
                                refine z_iconst (a := nI 3) d_Mo_tin_98 (by decide) ?_
                                refine z_icmp_ne (tgt := 107) d_Mo_tin_99 (by decide) (fun h99 => ?_) (fun h99 => ?_)
                                · first
                                  | (simp (disch := omega) only [← nI_0, nI_leI, nI_ltI, nI_eq, not_true_eq_false, not_false_eq_true] at h99; done)
                                  | (simp (disch := omega) only [← nI_0, nI_leI, nI_ltI, nI_eq, not_true_eq_false, not_false_eq_true] at h99; omega)
                                  | contradiction
                                  | exact absurd h99 (Int32.not_lt.mpr (by assumption))
                                  | exact absurd h99 (Int32.not_le.mpr (by assumption))
                                  | exact absurd h99 (by decide)
                                  | exact absurd (by decide) h99
                                  | ( try simp (disch := omega) only [← nI_0, nI_leI, nI_ltI, nI_eq, not_true_eq_false, not_false_eq_true] at h99
                                      (try have h99b := zbit_n0.mp h99); (try have h99b := zbit_p0.mp h99)
                                      refine z_bipush (a := nI 78) d_Mo_tin_107 (by decide) ?_
                                      refine z_iload_1 d_Mo_tin_109 ?_
                                      first | refine z_iaddN d_Mo_tin_110 ?_ | refine z_iadd d_Mo_tin_110 ?_
                                      first | refine z_ialdNv d_Mo_tin_111 (by first | assumption | exact zS0_at (by assumption) (by omega) | exact zS0_at rfl (by omega)) (by omega) (by first | decide | omega) (by first | assumption | ((try simp (disch := omega) only [zu_same, zu_ne, zcp_ne, zfl_ne]); first | assumption | rfl)) ?_ | refine z_iald d_Mo_tin_111 (by first | assumption | exact zS0_at (by assumption) (by omega) | exact zS0_at rfl (by omega)) (by first | assumption | exact zS0_at (by assumption) (by omega) | exact zS0_at rfl (by omega)) ?_
                                      refine z_reti d_Mo_tin_112 ?_
                                      exact ⟨by first | rfl | assumption | (rw [e150]), _, _, rfl, (by repeat (first | exact h1 | refine mqF_z ?_ (by decide))), mqJ_r, (by first | exact zu_same _ _ _ _ | exact h0)⟩)
                                · first
                                  | (simp (disch := omega) only [← nI_0, nI_leI, nI_ltI, nI_eq, not_true_eq_false, not_false_eq_true] at h99; done)
                                  | (simp (disch := omega) only [← nI_0, nI_leI, nI_ltI, nI_eq, not_true_eq_false, not_false_eq_true] at h99; omega)
                                  | contradiction
                                  | exact absurd h99 (Int32.not_lt.mpr (by assumption))
                                  | exact absurd h99 (Int32.not_le.mpr (by assumption))
                                  | exact absurd h99 (by decide)
                                  | exact absurd (by decide) h99
                                  | ( try simp (disch := omega) only [← nI_0, nI_leI, nI_ltI, nI_eq, not_true_eq_false, not_false_eq_true] at h99
                                      (try have h99b := zbit_n0.mp h99); (try have h99b := zbit_p0.mp h99)
                                      refine z_bipush (a := nI 69) d_Mo_tin_102 (by decide) ?_
                                      refine z_goto (tgt := 109) d_Mo_tin_104 (by decide) ?_
                                      refine z_iload_1 d_Mo_tin_109 ?_
                                      first | refine z_iaddN d_Mo_tin_110 ?_ | refine z_iadd d_Mo_tin_110 ?_
                                      first | refine z_ialdNv d_Mo_tin_111 (by first | assumption | exact zS0_at (by assumption) (by omega) | exact zS0_at rfl (by omega)) (by omega) (by first | decide | omega) (by first | assumption | ((try simp (disch := omega) only [zu_same, zu_ne, zcp_ne, zfl_ne]); first | assumption | rfl)) ?_ | refine z_iald d_Mo_tin_111 (by first | assumption | exact zS0_at (by assumption) (by omega) | exact zS0_at rfl (by omega)) (by first | assumption | exact zS0_at (by assumption) (by omega) | exact zS0_at rfl (by omega)) ?_
                                      refine z_reti d_Mo_tin_112 ?_
                                      exact ⟨by first | rfl | assumption | (rw [e150]), _, _, rfl, (by repeat (first | exact h1 | refine mqF_z ?_ (by decide))), mqJ_r, (by first | exact zu_same _ _ _ _ | exact h0)⟩))
                          · first
                            | (simp (disch := omega) only [← nI_0, nI_leI, nI_ltI, nI_eq, not_true_eq_false, not_false_eq_true] at h89; done)
                            | (simp (disch := omega) only [← nI_0, nI_leI, nI_ltI, nI_eq, not_true_eq_false, not_false_eq_true] at h89; omega)
                            | contradiction
                            | exact absurd h89 (Int32.not_lt.mpr (by assumption))
                            | exact absurd h89 (Int32.not_le.mpr (by assumption))
                            | exact absurd h89 (by decide)
                            | exact absurd (by decide) h89
                            | ( try simp (disch := omega) only [← nI_0, nI_leI, nI_ltI, nI_eq, not_true_eq_false, not_false_eq_true] at h89
                                (try have h89b := zbit_n0.mp h89); (try have h89b := zbit_p0.mp h89)
                                refine z_bipush (a := nI 51) d_Mo_tin_92 (by decide) ?_
                                refine z_goto (tgt := 109) d_Mo_tin_94 (by decide) ?_
                                refine z_iload_1 d_Mo_tin_109 ?_
                                first | refine z_iaddN d_Mo_tin_110 ?_ | refine z_iadd d_Mo_tin_110 ?_
                                first | refine z_ialdNv d_Mo_tin_111 (by first | assumption | exact zS0_at (by assumption) (by omega) | exact zS0_at rfl (by omega)) (by omega) (by first | decide | omega) (by first | assumption | ((try simp (disch := omega) only [zu_same, zu_ne, zcp_ne, zfl_ne]); first | assumption | rfl)) ?_ | refine z_iald d_Mo_tin_111 (by first | assumption | exact zS0_at (by assumption) (by omega) | exact zS0_at rfl (by omega)) (by first | assumption | exact zS0_at (by assumption) (by omega) | exact zS0_at rfl (by omega)) ?_
                                refine z_reti d_Mo_tin_112 ?_
                                exact ⟨by first | rfl | assumption | (rw [e150]), _, _, rfl, (by repeat (first | exact h1 | refine mqF_z ?_ (by decide))), mqJ_r, (by first | exact zu_same _ _ _ _ | exact h0)⟩))
                    · first
                      | (simp (disch := omega) only [← nI_0, nI_leI, nI_ltI, nI_eq, not_true_eq_false, not_false_eq_true] at h79; done)
                      | (simp (disch := omega) only [← nI_0, nI_leI, nI_ltI, nI_eq, not_true_eq_false, not_false_eq_true] at h79; omega)
                      | contradiction
                      | exact absurd h79 (Int32.not_lt.mpr (by assumption))
                      | exact absurd h79 (Int32.not_le.mpr (by assumption))
                      | exact absurd h79 (by decide)
                      | exact absurd (by decide) h79
                      | ( try simp (disch := omega) only [← nI_0, nI_leI, nI_ltI, nI_eq, not_true_eq_false, not_false_eq_true] at h79
                          (try have h79b := zbit_n0.mp h79); (try have h79b := zbit_p0.mp h79)
                          refine z_bipush (a := nI 33) d_Mo_tin_82 (by decide) ?_
                          refine z_goto (tgt := 109) d_Mo_tin_84 (by decide) ?_
                          refine z_iload_1 d_Mo_tin_109 ?_
                          first | refine z_iaddN d_Mo_tin_110 ?_ | refine z_iadd d_Mo_tin_110 ?_
                          first | refine z_ialdNv d_Mo_tin_111 (by first | assumption | exact zS0_at (by assumption) (by omega) | exact zS0_at rfl (by omega)) (by omega) (by first | decide | omega) (by first | assumption | ((try simp (disch := omega) only [zu_same, zu_ne, zcp_ne, zfl_ne]); first | assumption | rfl)) ?_ | refine z_iald d_Mo_tin_111 (by first | assumption | exact zS0_at (by assumption) (by omega) | exact zS0_at rfl (by omega)) (by first | assumption | exact zS0_at (by assumption) (by omega) | exact zS0_at rfl (by omega)) ?_
                          refine z_reti d_Mo_tin_112 ?_
                          exact ⟨by first | rfl | assumption | (rw [e150]), _, _, rfl, (by repeat (first | exact h1 | refine mqF_z ?_ (by decide))), mqJ_r, (by first | exact zu_same _ _ _ _ | exact h0)⟩))
              · first
                | (simp (disch := omega) only [← nI_0, nI_leI, nI_ltI, nI_eq, not_true_eq_false, not_false_eq_true] at h44; done)
                | (simp (disch := omega) only [← nI_0, nI_leI, nI_ltI, nI_eq, not_true_eq_false, not_false_eq_true] at h44; omega)
                | contradiction
                | exact absurd h44 (Int32.not_lt.mpr (by assumption))
                | exact absurd h44 (Int32.not_le.mpr (by assumption))
                | exact absurd h44 (by decide)
                | exact absurd (by decide) h44
                | ( try simp (disch := omega) only [← nI_0, nI_leI, nI_ltI, nI_eq, not_true_eq_false, not_false_eq_true] at h44
                    (try have h44b := zbit_n0.mp h44); (try have h44b := zbit_p0.mp h44)
                    refine z_aload_0 d_Mo_tin_47 ?_
                    refine z_iload_1 d_Mo_tin_48 ?_
                    refine z_Vi1 d_Mo_tin_49 k_Mo_310 (by first | assumption | exact zS0_at (by assumption) (by omega) | exact zS0_at rfl (by omega)) (t_Mo_isGone (by assumption) (by omega)) ⟨Nat.le_of_ble_eq_true rfl, Nat.le_of_ble_eq_true rfl, Nat.le_of_ble_eq_true rfl, Nat.le_of_ble_eq_true rfl⟩ (Nat.le_of_ble_eq_true rfl) ?_
                    intro r w hq
                    rcases hq with ⟨⟨hz49, rfl⟩ | ⟨hz49, rfl⟩, rfl⟩
                    · first
                      | contradiction
                      | ( skip
                          refine z_if_eq (tgt := 64) d_Mo_tin_52 (by decide) (fun h => absurd h (by decide)) (fun _ => ?_)
                          refine z_aload_0 d_Mo_tin_55 ?_
                          refine z_bipush (a := nI 8) d_Mo_tin_56 (by decide) ?_
                          refine z_Vi1 d_Mo_tin_58 k_Mo_327 (by first | assumption | exact zS0_at (by assumption) (by omega) | exact zS0_at rfl (by omega)) (t_Mo_refuse (by assumption)) ⟨Nat.le_of_ble_eq_true rfl, Nat.le_of_ble_eq_true rfl, Nat.le_of_ble_eq_true rfl, Nat.le_of_ble_eq_true rfl⟩ (Nat.le_of_ble_eq_true rfl) ?_
                          intro r w hq
                          obtain ⟨rfl, rfl⟩ := hq
                          refine z_goto (tgt := 73) d_Mo_tin_61 (by decide) ?_
                          refine z_reti d_Mo_tin_73 ?_
                          exact ⟨by first | rfl | assumption | (rw [e150]), _, _, rfl, (by repeat (first | exact h1 | refine mqF_z ?_ (by decide))), mqJ_r, (by first | exact zu_same _ _ _ _ | exact h0)⟩)
                    · first
                      | contradiction
                      | ( skip
                          refine z_if_eq (tgt := 64) d_Mo_tin_52 (by decide) (fun _ => ?_) (fun h => absurd h (by decide))
                          refine z_aload_0 d_Mo_tin_64 ?_
                          refine z_getR d_Mo_tin_65 f_Mo_35 (by first | assumption | exact zS0_at (by assumption) (by omega) | exact zS0_at rfl (by omega)) (by first | assumption | exact zS0_at (by assumption) (by omega) | exact zS0_at rfl (by omega)) ?_
                          refine z_bipush (a := nI 42) d_Mo_tin_68 (by decide) ?_
                          refine z_iload_1 d_Mo_tin_70 ?_
                          first | refine z_iaddN d_Mo_tin_71 ?_ | refine z_iadd d_Mo_tin_71 ?_
                          first | refine z_ialdNv d_Mo_tin_72 (by first | assumption | exact zS0_at (by assumption) (by omega) | exact zS0_at rfl (by omega)) (by omega) (by first | decide | omega) (by first | assumption | ((try simp (disch := omega) only [zu_same, zu_ne, zcp_ne, zfl_ne]); first | assumption | rfl)) ?_ | refine z_iald d_Mo_tin_72 (by first | assumption | exact zS0_at (by assumption) (by omega) | exact zS0_at rfl (by omega)) (by first | assumption | exact zS0_at (by assumption) (by omega) | exact zS0_at rfl (by omega)) ?_
                          refine z_reti d_Mo_tin_73 ?_
                          exact ⟨by first | rfl | assumption | (rw [e150]), _, _, rfl, (by repeat (first | exact h1 | refine mqF_z ?_ (by decide))), mqJ_r, (by first | exact zu_same _ _ _ _ | exact h0)⟩)))
        · first
          | contradiction
          | ( skip
              refine z_if_ne (tgt := 42) d_Mo_tin_33 (by decide) (fun h => absurd h (by decide)) (fun _ => ?_)
              refine z_aload_0 d_Mo_tin_36 ?_
              refine z_iconst (a := nI 5) d_Mo_tin_37 (by decide) ?_
              refine z_Vi1 d_Mo_tin_38 k_Mo_327 (by first | assumption | exact zS0_at (by assumption) (by omega) | exact zS0_at rfl (by omega)) (t_Mo_refuse (by assumption)) ⟨Nat.le_of_ble_eq_true rfl, Nat.le_of_ble_eq_true rfl, Nat.le_of_ble_eq_true rfl, Nat.le_of_ble_eq_true rfl⟩ (Nat.le_of_ble_eq_true rfl) ?_
              intro r w hq
              obtain ⟨rfl, rfl⟩ := hq
              refine z_reti d_Mo_tin_41 ?_
              exact ⟨by first | rfl | assumption | (rw [e150]), _, _, rfl, (by repeat (first | exact h1 | refine mqF_z ?_ (by decide))), mqJ_r, (by first | exact zu_same _ _ _ _ | exact h0)⟩))
  · first
    | contradiction
    | ( skip
        refine z_if_ne (tgt := 24) d_Mo_tin_15 (by decide) (fun h => absurd h (by decide)) (fun _ => ?_)
        refine z_aload_0 d_Mo_tin_18 ?_
        refine z_iconst (a := nI 2) d_Mo_tin_19 (by decide) ?_
        refine z_Vi1 d_Mo_tin_20 k_Mo_327 (by first | assumption | exact zS0_at (by assumption) (by omega) | exact zS0_at rfl (by omega)) (t_Mo_refuse (by assumption)) ⟨Nat.le_of_ble_eq_true rfl, Nat.le_of_ble_eq_true rfl, Nat.le_of_ble_eq_true rfl, Nat.le_of_ble_eq_true rfl⟩ (Nat.le_of_ble_eq_true rfl) ?_
        intro r w hq
        obtain ⟨rfl, rfl⟩ := hq
        refine z_reti d_Mo_tin_23 ?_
        exact ⟨by first | rfl | assumption | (rw [e150]), _, _, rfl, (by repeat (first | exact h1 | refine mqF_z ?_ (by decide))), mqJ_r, (by first | exact zu_same _ _ _ _ | exact h0)⟩)
theorem t_Tf_tin_1g {t : Nat} (Z : clOk f d P S) (N : fenIn I f nt np nl nn) (ht : t < nn) (hg : I (f + 6) t = -1) : zEi G y_Tf_tin prog_1_method_16_code 3 (some .int) 4 [.ref 0, .int (nI t), .int (nI 1)] (I, J, P, S) (fun r w => r = -1 ∧ cW I J P S 8 w) := by
  obtain ⟨⟨c0, c3, c1s⟩, ⟨c5, c2s, ctr⟩, ⟨c6, c11s, c11, c13s⟩, ⟨c7, c15s, c15⟩, ⟨c8, c16s, c16a, c16b, c17s⟩, ⟨c9, c10, cfd, F, Fd⟩, ⟨c11b, Ft⟩, ⟨c12, c69s, cmk⟩, ⟨c14, c121s, c121, c122s⟩, ⟨c15b, c123s, c123, c124s⟩, ⟨c16, c125s, c125, c126s⟩, ⟨c17, c127s, c127, c128s, ctb⟩, ⟨c18, c139s, c139, c140s⟩, ⟨c19, c141s, ⟨c141a, c142s⟩, ⟨c141b, c143s⟩, ⟨c141c, c144s⟩⟩, M⟩ := id Z
  obtain ⟨F0, ⟨F8, F8s⟩, ⟨F9, F9s⟩, ⟨F10, F10s⟩, ⟨F11, F11s⟩, ⟨F12, F12s⟩, ⟨F13, F13s⟩, ⟨F14, F14s⟩, ⟨F15, F15s⟩, ⟨F16, F16s⟩, ⟨F17, F17s⟩, ⟨F18, F18s⟩, ⟨F19, F19s⟩, ⟨Y3, Y3s⟩, ⟨Y4, Y4s⟩, ⟨Y5, Y5s⟩, ⟨Y6, Y6s⟩⟩ := id F
  obtain ⟨⟨n1, n1b⟩, ⟨n2, n2b⟩, ⟨n3, n3b⟩, ⟨n4, n4b⟩, nof, non⟩ := id N
  have hz : zin (nI t) nn := ⟨t, by omega, rfl⟩
  have hg2 : I (f + 6) t < 0 := by rw [hg]; decide
  refine zEi_of (lv := [some (.ref 0), some (.int (nI t)), some (.int (nI 1))]) (by decide) rfl (Nat.le_of_ble_eq_true rfl) ?_
  refine z_aload_0 d_Tf_tin_0 ?_
  refine z_iload_1 d_Tf_tin_1 ?_
  refine z_Vi1 d_Tf_tin_2 k_Tf_249 (by first | assumption | exact zS0_at (by assumption) (by omega) | exact zS0_at rfl (by omega)) (t_Tf_noTin Z N) ⟨Nat.le_of_ble_eq_true rfl, Nat.le_of_ble_eq_true rfl, Nat.le_of_ble_eq_true rfl, Nat.le_of_ble_eq_true rfl⟩ (Nat.le_of_ble_eq_true rfl) ?_
  intro r w hq
  rcases hq with ⟨⟨hz2, rfl⟩ | ⟨hz2, rfl⟩, rfl⟩
  · first
    | contradiction
    | ( skip
        refine z_if_eq (tgt := 14) d_Tf_tin_5 (by decide) (fun h => absurd h (by decide)) (fun _ => ?_)
        refine z_aload_0 d_Tf_tin_8 ?_
        refine z_iconst (a := nI 2) d_Tf_tin_9 (by decide) ?_
        refine z_Vi1 d_Tf_tin_10 k_Tf_138 (by first | assumption | exact zS0_at (by assumption) (by omega) | exact zS0_at rfl (by omega)) (t_Tf_fail (by assumption)) ⟨Nat.le_of_ble_eq_true rfl, Nat.le_of_ble_eq_true rfl, Nat.le_of_ble_eq_true rfl, Nat.le_of_ble_eq_true rfl⟩ (Nat.le_of_ble_eq_true rfl) ?_
        intro r w hq
        obtain ⟨rfl, rfl⟩ := hq
        refine z_reti d_Tf_tin_13 ?_
        exact ⟨by first | rfl | assumption, cW_0⟩)
  · first
    | contradiction
    | ( skip
        refine z_if_eq (tgt := 14) d_Tf_tin_5 (by decide) (fun _ => ?_) (fun h => absurd h (by decide))
        refine z_iload_2 d_Tf_tin_14 ?_
        refine z_tableIn (off := 47) (tgt := 62) d_Tf_tin_15 (by decide) (by decide) (by decide) (by decide) ?_
        refine z_aload_0 d_Tf_tin_62 ?_
        refine z_getR d_Tf_tin_63 f_Tf_60 (by first | assumption | exact zS0_at (by assumption) (by omega) | exact zS0_at rfl (by omega)) (by first | assumption | exact zS0_at (by assumption) (by omega) | exact zS0_at rfl (by omega)) ?_
        refine z_iload_1 d_Tf_tin_66 ?_
        refine z_Vi1 d_Tf_tin_67 k_Tf_255 (by first | assumption | exact zS0_at (by assumption) (by omega) | exact zS0_at rfl (by omega)) (t_Fen_isGone (by assumption) (by omega)) ⟨Nat.le_of_ble_eq_true rfl, Nat.le_of_ble_eq_true rfl, Nat.le_of_ble_eq_true rfl, Nat.le_of_ble_eq_true rfl⟩ (Nat.le_of_ble_eq_true rfl) ?_
        intro r w hq
        rcases hq with ⟨⟨hz67, rfl⟩ | ⟨hz67, rfl⟩, rfl⟩
        · first
          | contradiction
          | ( skip
              refine z_if_eq (tgt := 82) d_Tf_tin_70 (by decide) (fun h => absurd h (by decide)) (fun _ => ?_)
              refine z_aload_0 d_Tf_tin_73 ?_
              refine z_bipush (a := nI 8) d_Tf_tin_74 (by decide) ?_
              refine z_Vi1 d_Tf_tin_76 k_Tf_138 (by first | assumption | exact zS0_at (by assumption) (by omega) | exact zS0_at rfl (by omega)) (t_Tf_fail (by assumption)) ⟨Nat.le_of_ble_eq_true rfl, Nat.le_of_ble_eq_true rfl, Nat.le_of_ble_eq_true rfl, Nat.le_of_ble_eq_true rfl⟩ (Nat.le_of_ble_eq_true rfl) ?_
              intro r w hq
              obtain ⟨rfl, rfl⟩ := hq
              refine z_goto (tgt := 95) d_Tf_tin_79 (by decide) ?_
              refine z_reti d_Tf_tin_95 ?_
              exact ⟨by first | rfl | assumption, cW_0⟩)
        · first
          | contradiction
          | ( skip
              refine z_if_eq (tgt := 82) d_Tf_tin_70 (by decide) (fun _ => ?_) (fun h => absurd h (by decide))
              refine z_aload_0 d_Tf_tin_82 ?_
              refine z_aload_0 d_Tf_tin_83 ?_
              refine z_getR d_Tf_tin_84 f_Tf_60 (by first | assumption | exact zS0_at (by assumption) (by omega) | exact zS0_at rfl (by omega)) (by first | assumption | exact zS0_at (by assumption) (by omega) | exact zS0_at rfl (by omega)) ?_
              refine z_getR d_Tf_tin_87 f_Tf_258 (by first | assumption | exact zS0_at (by assumption) (by omega) | exact zS0_at rfl (by omega)) (by first | assumption | exact zS0_at (by assumption) (by omega) | exact zS0_at rfl (by omega)) ?_
              refine z_iload_1 d_Tf_tin_90 ?_
              first | refine z_ialdNv d_Tf_tin_91 (by first | assumption | exact zS0_at (by assumption) (by omega) | exact zS0_at rfl (by omega)) (by omega) (by first | decide | omega) (by first | assumption | ((try simp (disch := omega) only [zu_same, zu_ne, zcp_ne, zfl_ne]); first | assumption | rfl)) ?_ | refine z_iald d_Tf_tin_91 (by first | assumption | exact zS0_at (by assumption) (by omega) | exact zS0_at rfl (by omega)) (by first | assumption | exact zS0_at (by assumption) (by omega) | exact zS0_at rfl (by omega)) ?_
              refine z_Vi1 d_Tf_tin_92 k_Tf_174 (by first | assumption | exact zS0_at (by assumption) (by omega) | exact zS0_at rfl (by omega)) (t_Tf_give (by assumption)) ⟨Nat.le_of_ble_eq_true rfl, Nat.le_of_ble_eq_true rfl, Nat.le_of_ble_eq_true rfl, Nat.le_of_ble_eq_true rfl⟩ (Nat.le_of_ble_eq_true rfl) ?_
              intro r w hq
              obtain ⟨rfl, rfl⟩ := hq
              refine z_reti d_Tf_tin_95 ?_
              exact ⟨by first | rfl | assumption, cW_0⟩))
theorem t_Tf_tin_1p {t p : Nat} (Z : clOk f d P S) (N : fenIn I f nt np nl nn) (ht : t < nn) (hg : I (f + 6) t = nI p) (hp : p < np) : zEi G y_Tf_tin prog_1_method_16_code 3 (some .int) 4 [.ref 0, .int (nI t), .int (nI 1)] (I, J, P, S) (fun r w => r = nI p ∧ cW I J P S 0 w) := by
  obtain ⟨⟨c0, c3, c1s⟩, ⟨c5, c2s, ctr⟩, ⟨c6, c11s, c11, c13s⟩, ⟨c7, c15s, c15⟩, ⟨c8, c16s, c16a, c16b, c17s⟩, ⟨c9, c10, cfd, F, Fd⟩, ⟨c11b, Ft⟩, ⟨c12, c69s, cmk⟩, ⟨c14, c121s, c121, c122s⟩, ⟨c15b, c123s, c123, c124s⟩, ⟨c16, c125s, c125, c126s⟩, ⟨c17, c127s, c127, c128s, ctb⟩, ⟨c18, c139s, c139, c140s⟩, ⟨c19, c141s, ⟨c141a, c142s⟩, ⟨c141b, c143s⟩, ⟨c141c, c144s⟩⟩, M⟩ := id Z
  obtain ⟨F0, ⟨F8, F8s⟩, ⟨F9, F9s⟩, ⟨F10, F10s⟩, ⟨F11, F11s⟩, ⟨F12, F12s⟩, ⟨F13, F13s⟩, ⟨F14, F14s⟩, ⟨F15, F15s⟩, ⟨F16, F16s⟩, ⟨F17, F17s⟩, ⟨F18, F18s⟩, ⟨F19, F19s⟩, ⟨Y3, Y3s⟩, ⟨Y4, Y4s⟩, ⟨Y5, Y5s⟩, ⟨Y6, Y6s⟩⟩ := id F
  obtain ⟨⟨n1, n1b⟩, ⟨n2, n2b⟩, ⟨n3, n3b⟩, ⟨n4, n4b⟩, nof, non⟩ := id N
  have hz : zin (nI t) nn := ⟨t, by omega, rfl⟩
  have hg2 : ¬ I (f + 6) t < 0 := by rw [hg]; exact nI_pos (by omega)
  refine zEi_of (lv := [some (.ref 0), some (.int (nI t)), some (.int (nI 1))]) (by decide) rfl (Nat.le_of_ble_eq_true rfl) ?_
  refine z_aload_0 d_Tf_tin_0 ?_
  refine z_iload_1 d_Tf_tin_1 ?_
  refine z_Vi1 d_Tf_tin_2 k_Tf_249 (by first | assumption | exact zS0_at (by assumption) (by omega) | exact zS0_at rfl (by omega)) (t_Tf_noTin Z N) ⟨Nat.le_of_ble_eq_true rfl, Nat.le_of_ble_eq_true rfl, Nat.le_of_ble_eq_true rfl, Nat.le_of_ble_eq_true rfl⟩ (Nat.le_of_ble_eq_true rfl) ?_
  intro r w hq
  rcases hq with ⟨⟨hz2, rfl⟩ | ⟨hz2, rfl⟩, rfl⟩
  · first
    | contradiction
    | ( skip
        refine z_if_eq (tgt := 14) d_Tf_tin_5 (by decide) (fun h => absurd h (by decide)) (fun _ => ?_)
        refine z_aload_0 d_Tf_tin_8 ?_
        refine z_iconst (a := nI 2) d_Tf_tin_9 (by decide) ?_
        refine z_Vi1 d_Tf_tin_10 k_Tf_138 (by first | assumption | exact zS0_at (by assumption) (by omega) | exact zS0_at rfl (by omega)) (t_Tf_fail (by assumption)) ⟨Nat.le_of_ble_eq_true rfl, Nat.le_of_ble_eq_true rfl, Nat.le_of_ble_eq_true rfl, Nat.le_of_ble_eq_true rfl⟩ (Nat.le_of_ble_eq_true rfl) ?_
        intro r w hq
        obtain ⟨rfl, rfl⟩ := hq
        refine z_reti d_Tf_tin_13 ?_
        exact ⟨by first | rfl | assumption, cW_0⟩)
  · first
    | contradiction
    | ( skip
        refine z_if_eq (tgt := 14) d_Tf_tin_5 (by decide) (fun _ => ?_) (fun h => absurd h (by decide))
        refine z_iload_2 d_Tf_tin_14 ?_
        refine z_tableIn (off := 47) (tgt := 62) d_Tf_tin_15 (by decide) (by decide) (by decide) (by decide) ?_
        refine z_aload_0 d_Tf_tin_62 ?_
        refine z_getR d_Tf_tin_63 f_Tf_60 (by first | assumption | exact zS0_at (by assumption) (by omega) | exact zS0_at rfl (by omega)) (by first | assumption | exact zS0_at (by assumption) (by omega) | exact zS0_at rfl (by omega)) ?_
        refine z_iload_1 d_Tf_tin_66 ?_
        refine z_Vi1 d_Tf_tin_67 k_Tf_255 (by first | assumption | exact zS0_at (by assumption) (by omega) | exact zS0_at rfl (by omega)) (t_Fen_isGone (by assumption) (by omega)) ⟨Nat.le_of_ble_eq_true rfl, Nat.le_of_ble_eq_true rfl, Nat.le_of_ble_eq_true rfl, Nat.le_of_ble_eq_true rfl⟩ (Nat.le_of_ble_eq_true rfl) ?_
        intro r w hq
        rcases hq with ⟨⟨hz67, rfl⟩ | ⟨hz67, rfl⟩, rfl⟩
        · first
          | contradiction
          | ( skip
              refine z_if_eq (tgt := 82) d_Tf_tin_70 (by decide) (fun h => absurd h (by decide)) (fun _ => ?_)
              refine z_aload_0 d_Tf_tin_73 ?_
              refine z_bipush (a := nI 8) d_Tf_tin_74 (by decide) ?_
              refine z_Vi1 d_Tf_tin_76 k_Tf_138 (by first | assumption | exact zS0_at (by assumption) (by omega) | exact zS0_at rfl (by omega)) (t_Tf_fail (by assumption)) ⟨Nat.le_of_ble_eq_true rfl, Nat.le_of_ble_eq_true rfl, Nat.le_of_ble_eq_true rfl, Nat.le_of_ble_eq_true rfl⟩ (Nat.le_of_ble_eq_true rfl) ?_
              intro r w hq
              obtain ⟨rfl, rfl⟩ := hq
              refine z_goto (tgt := 95) d_Tf_tin_79 (by decide) ?_
              refine z_reti d_Tf_tin_95 ?_
              exact ⟨by first | rfl | assumption, cW_0⟩)
        · first
          | contradiction
          | ( skip
              refine z_if_eq (tgt := 82) d_Tf_tin_70 (by decide) (fun _ => ?_) (fun h => absurd h (by decide))
              refine z_aload_0 d_Tf_tin_82 ?_
              refine z_aload_0 d_Tf_tin_83 ?_
              refine z_getR d_Tf_tin_84 f_Tf_60 (by first | assumption | exact zS0_at (by assumption) (by omega) | exact zS0_at rfl (by omega)) (by first | assumption | exact zS0_at (by assumption) (by omega) | exact zS0_at rfl (by omega)) ?_
              refine z_getR d_Tf_tin_87 f_Tf_258 (by first | assumption | exact zS0_at (by assumption) (by omega) | exact zS0_at rfl (by omega)) (by first | assumption | exact zS0_at (by assumption) (by omega) | exact zS0_at rfl (by omega)) ?_
              refine z_iload_1 d_Tf_tin_90 ?_
              first | refine z_ialdNv d_Tf_tin_91 (by first | assumption | exact zS0_at (by assumption) (by omega) | exact zS0_at rfl (by omega)) (by omega) (by first | decide | omega) (by first | assumption | ((try simp (disch := omega) only [zu_same, zu_ne, zcp_ne, zfl_ne]); first | assumption | rfl)) ?_ | refine z_iald d_Tf_tin_91 (by first | assumption | exact zS0_at (by assumption) (by omega) | exact zS0_at rfl (by omega)) (by first | assumption | exact zS0_at (by assumption) (by omega) | exact zS0_at rfl (by omega)) ?_
              refine z_Vi1 d_Tf_tin_92 k_Tf_174 (by first | assumption | exact zS0_at (by assumption) (by omega) | exact zS0_at rfl (by omega)) (t_Tf_give (by assumption)) ⟨Nat.le_of_ble_eq_true rfl, Nat.le_of_ble_eq_true rfl, Nat.le_of_ble_eq_true rfl, Nat.le_of_ble_eq_true rfl⟩ (Nat.le_of_ble_eq_true rfl) ?_
              intro r w hq
              obtain ⟨rfl, rfl⟩ := hq
              refine z_reti d_Tf_tin_95 ?_
              exact ⟨by first | rfl | assumption, cW_0⟩))
theorem t_Mo_tin_o (M : modOk P S) (N : modIn I nt np nl nn) (h : ¬ zin a nn) : zEi G y_Mo_tin prog_14_method_87_code 3 (some .int) 4 [.ref 145, .int a, .int b] (I, J, P, S) (fun r w => r = -1 ∧ mW I J P S 2 w) := by
  obtain ⟨M0, ⟨M4, M4s⟩, ⟨M5, M5s⟩, ⟨M6, M6s⟩, ⟨M7, M7s⟩, ⟨M20, M20s⟩, ⟨M21, M21s⟩, ⟨M22, M22s⟩, ⟨M26, M26s⟩, ⟨M27, M27s⟩, ⟨M28, M28s⟩, ⟨M30, M30s⟩, ⟨M34, M34s⟩, ⟨M36, M36s⟩, ⟨M37, M37s⟩⟩ := id M
  obtain ⟨I1, hI1, N1, h1, h0, e150, er, ek⟩ := mo_beg N
  obtain ⟨⟨m0, m0b⟩, ⟨m1, m1b⟩, ⟨m2, m2b⟩, ⟨m3, m3b⟩, mof, mon⟩ := id N1
  have hD : mD I I1 := ⟨h1, h0, e150, er⟩
  refine zEi_of (lv := [some (.ref 145), some (.int a), some (.int b)]) (by decide) rfl (Nat.le_of_ble_eq_true rfl) ?_
  refine z_aload_0 d_Mo_tin_0 ?_
  refine z_iconst (a := nI 0) d_Mo_tin_1 (by decide) ?_
  refine z_putI d_Mo_tin_2 f_Mo_70 (by first | assumption | exact zS0_at (by assumption) (by omega) | exact zS0_at rfl (by omega)) ?_
  refine z_aload_0 d_Mo_tin_5 ?_
  refine z_iconst (a := nI 0) d_Mo_tin_6 (by decide) ?_
  refine z_putI d_Mo_tin_7 f_Mo_73 (by first | assumption | exact zS0_at (by assumption) (by omega) | exact zS0_at rfl (by omega)) ?_
  rw [← hI1]
  refine z_aload_0 d_Mo_tin_10 ?_
  refine z_iload_1 d_Mo_tin_11 ?_
  refine z_Vi1 d_Mo_tin_12 k_Mo_344 (by first | assumption | exact zS0_at (by assumption) (by omega) | exact zS0_at rfl (by omega)) (t_Mo_isTinAt M N1) ⟨Nat.le_of_ble_eq_true rfl, Nat.le_of_ble_eq_true rfl, Nat.le_of_ble_eq_true rfl, Nat.le_of_ble_eq_true rfl⟩ (Nat.le_of_ble_eq_true rfl) ?_
  intro r w hq
  rcases hq with ⟨⟨hz12, rfl⟩ | ⟨hz12, rfl⟩, rfl⟩
  · first
    | contradiction
    | ( skip
        refine z_if_ne (tgt := 24) d_Mo_tin_15 (by decide) (fun _ => ?_) (fun h => absurd h (by decide))
        contradiction)
  · first
    | contradiction
    | ( skip
        refine z_if_ne (tgt := 24) d_Mo_tin_15 (by decide) (fun h => absurd h (by decide)) (fun _ => ?_)
        refine z_aload_0 d_Mo_tin_18 ?_
        refine z_iconst (a := nI 2) d_Mo_tin_19 (by decide) ?_
        refine z_Vi1 d_Mo_tin_20 k_Mo_327 (by first | assumption | exact zS0_at (by assumption) (by omega) | exact zS0_at rfl (by omega)) (t_Mo_refuse (by assumption)) ⟨Nat.le_of_ble_eq_true rfl, Nat.le_of_ble_eq_true rfl, Nat.le_of_ble_eq_true rfl, Nat.le_of_ble_eq_true rfl⟩ (Nat.le_of_ble_eq_true rfl) ?_
        intro r w hq
        obtain ⟨rfl, rfl⟩ := hq
        refine z_reti d_Mo_tin_23 ?_
        exact ⟨by first | rfl | assumption | (rw [e150]), _, _, rfl, (by repeat (first | exact h1 | refine mqF_z ?_ (by decide))), mqJ_r, (by first | exact zu_same _ _ _ _ | exact h0)⟩)
theorem t_Mo_tin_b {t : Nat} (M : modOk P S) (N : modIn I nt np nl nn) (ht : t < nn) (hb : ¬ zin b 5) : zEi G y_Mo_tin prog_14_method_87_code 3 (some .int) 4 [.ref 145, .int (nI t), .int b] (I, J, P, S) (fun r w => r = -1 ∧ mW I J P S 5 w) := by
  obtain ⟨M0, ⟨M4, M4s⟩, ⟨M5, M5s⟩, ⟨M6, M6s⟩, ⟨M7, M7s⟩, ⟨M20, M20s⟩, ⟨M21, M21s⟩, ⟨M22, M22s⟩, ⟨M26, M26s⟩, ⟨M27, M27s⟩, ⟨M28, M28s⟩, ⟨M30, M30s⟩, ⟨M34, M34s⟩, ⟨M36, M36s⟩, ⟨M37, M37s⟩⟩ := id M
  obtain ⟨I1, hI1, N1, h1, h0, e150, er, ek⟩ := mo_beg N
  obtain ⟨⟨m0, m0b⟩, ⟨m1, m1b⟩, ⟨m2, m2b⟩, ⟨m3, m3b⟩, mof, mon⟩ := id N1
  have hD : mD I I1 := ⟨h1, h0, e150, er⟩
  refine zEi_of (lv := [some (.ref 145), some (.int (nI t)), some (.int b)]) (by decide) rfl (Nat.le_of_ble_eq_true rfl) ?_
  refine z_aload_0 d_Mo_tin_0 ?_
  refine z_iconst (a := nI 0) d_Mo_tin_1 (by decide) ?_
  refine z_putI d_Mo_tin_2 f_Mo_70 (by first | assumption | exact zS0_at (by assumption) (by omega) | exact zS0_at rfl (by omega)) ?_
  refine z_aload_0 d_Mo_tin_5 ?_
  refine z_iconst (a := nI 0) d_Mo_tin_6 (by decide) ?_
  refine z_putI d_Mo_tin_7 f_Mo_73 (by first | assumption | exact zS0_at (by assumption) (by omega) | exact zS0_at rfl (by omega)) ?_
  rw [← hI1]
  have hz : zin (nI t) nn := ⟨t, by omega, rfl⟩
  refine z_aload_0 d_Mo_tin_10 ?_
  refine z_iload_1 d_Mo_tin_11 ?_
  refine z_Vi1 d_Mo_tin_12 k_Mo_344 (by first | assumption | exact zS0_at (by assumption) (by omega) | exact zS0_at rfl (by omega)) (t_Mo_isTinAt M N1) ⟨Nat.le_of_ble_eq_true rfl, Nat.le_of_ble_eq_true rfl, Nat.le_of_ble_eq_true rfl, Nat.le_of_ble_eq_true rfl⟩ (Nat.le_of_ble_eq_true rfl) ?_
  intro r w hq
  rcases hq with ⟨⟨hz12, rfl⟩ | ⟨hz12, rfl⟩, rfl⟩
  · first
    | contradiction
    | ( skip
        refine z_if_ne (tgt := 24) d_Mo_tin_15 (by decide) (fun _ => ?_) (fun h => absurd h (by decide))
        refine z_iload_2 d_Mo_tin_24 ?_
        refine z_i2l d_Mo_tin_25 ?_
        refine z_lconst (f := lN 0) d_Mo_tin_26 rfl ?_
        refine z_ldc2 d_Mo_tin_27 c_Mo_339 ?_
        refine z_Si3 d_Mo_tin_30 k_Mo_105 (t_Mo_isInZ (m := 5) (by decide) (by decide)) ⟨Nat.le_of_ble_eq_true rfl, Nat.le_of_ble_eq_true rfl, Nat.le_of_ble_eq_true rfl, Nat.le_of_ble_eq_true rfl⟩ (Nat.le_of_ble_eq_true rfl) ?_
        intro r w hq
        rcases hq with ⟨⟨hz30, rfl⟩ | ⟨hz30, rfl⟩, rfl⟩
        · first
          | contradiction
          | ( skip
              refine z_if_ne (tgt := 42) d_Mo_tin_33 (by decide) (fun _ => ?_) (fun h => absurd h (by decide))
              contradiction)
        · first
          | contradiction
          | ( skip
              refine z_if_ne (tgt := 42) d_Mo_tin_33 (by decide) (fun h => absurd h (by decide)) (fun _ => ?_)
              refine z_aload_0 d_Mo_tin_36 ?_
              refine z_iconst (a := nI 5) d_Mo_tin_37 (by decide) ?_
              refine z_Vi1 d_Mo_tin_38 k_Mo_327 (by first | assumption | exact zS0_at (by assumption) (by omega) | exact zS0_at rfl (by omega)) (t_Mo_refuse (by assumption)) ⟨Nat.le_of_ble_eq_true rfl, Nat.le_of_ble_eq_true rfl, Nat.le_of_ble_eq_true rfl, Nat.le_of_ble_eq_true rfl⟩ (Nat.le_of_ble_eq_true rfl) ?_
              intro r w hq
              obtain ⟨rfl, rfl⟩ := hq
              refine z_reti d_Mo_tin_41 ?_
              exact ⟨by first | rfl | assumption | (rw [e150]), _, _, rfl, (by repeat (first | exact h1 | refine mqF_z ?_ (by decide))), mqJ_r, (by first | exact zu_same _ _ _ _ | exact h0)⟩))
  · first
    | contradiction
    | ( skip
        refine z_if_ne (tgt := 24) d_Mo_tin_15 (by decide) (fun h => absurd h (by decide)) (fun _ => ?_)
        refine z_aload_0 d_Mo_tin_18 ?_
        refine z_iconst (a := nI 2) d_Mo_tin_19 (by decide) ?_
        refine z_Vi1 d_Mo_tin_20 k_Mo_327 (by first | assumption | exact zS0_at (by assumption) (by omega) | exact zS0_at rfl (by omega)) (t_Mo_refuse (by assumption)) ⟨Nat.le_of_ble_eq_true rfl, Nat.le_of_ble_eq_true rfl, Nat.le_of_ble_eq_true rfl, Nat.le_of_ble_eq_true rfl⟩ (Nat.le_of_ble_eq_true rfl) ?_
        intro r w hq
        obtain ⟨rfl, rfl⟩ := hq
        refine z_reti d_Mo_tin_23 ?_
        exact ⟨by first | rfl | assumption | (rw [e150]), _, _, rfl, (by repeat (first | exact h1 | refine mqF_z ?_ (by decide))), mqJ_r, (by first | exact zu_same _ _ _ _ | exact h0)⟩)
theorem t_Mo_tin_1g {t : Nat} (M : modOk P S) (N : modIn I nt np nl nn) (ht : t < nn) (hg : I 150 (42 + t) = -1) : zEi G y_Mo_tin prog_14_method_87_code 3 (some .int) 4 [.ref 145, .int (nI t), .int (nI 1)] (I, J, P, S) (fun r w => r = -1 ∧ mW I J P S 8 w) := by
  obtain ⟨M0, ⟨M4, M4s⟩, ⟨M5, M5s⟩, ⟨M6, M6s⟩, ⟨M7, M7s⟩, ⟨M20, M20s⟩, ⟨M21, M21s⟩, ⟨M22, M22s⟩, ⟨M26, M26s⟩, ⟨M27, M27s⟩, ⟨M28, M28s⟩, ⟨M30, M30s⟩, ⟨M34, M34s⟩, ⟨M36, M36s⟩, ⟨M37, M37s⟩⟩ := id M
  obtain ⟨I1, hI1, N1, h1, h0, e150, er, ek⟩ := mo_beg N
  obtain ⟨⟨m0, m0b⟩, ⟨m1, m1b⟩, ⟨m2, m2b⟩, ⟨m3, m3b⟩, mof, mon⟩ := id N1
  have hD : mD I I1 := ⟨h1, h0, e150, er⟩
  refine zEi_of (lv := [some (.ref 145), some (.int (nI t)), some (.int (nI 1))]) (by decide) rfl (Nat.le_of_ble_eq_true rfl) ?_
  refine z_aload_0 d_Mo_tin_0 ?_
  refine z_iconst (a := nI 0) d_Mo_tin_1 (by decide) ?_
  refine z_putI d_Mo_tin_2 f_Mo_70 (by first | assumption | exact zS0_at (by assumption) (by omega) | exact zS0_at rfl (by omega)) ?_
  refine z_aload_0 d_Mo_tin_5 ?_
  refine z_iconst (a := nI 0) d_Mo_tin_6 (by decide) ?_
  refine z_putI d_Mo_tin_7 f_Mo_73 (by first | assumption | exact zS0_at (by assumption) (by omega) | exact zS0_at rfl (by omega)) ?_
  rw [← hI1]
  have hz : zin (nI t) nn := ⟨t, by omega, rfl⟩
  have hzb : zin (nI 1) 5 := ⟨1, by decide, rfl⟩
  have hg2 : I1 150 (42 + t) < 0 := by rw [e150, hg]; decide
  refine z_aload_0 d_Mo_tin_10 ?_
  refine z_iload_1 d_Mo_tin_11 ?_
  refine z_Vi1 d_Mo_tin_12 k_Mo_344 (by first | assumption | exact zS0_at (by assumption) (by omega) | exact zS0_at rfl (by omega)) (t_Mo_isTinAt M N1) ⟨Nat.le_of_ble_eq_true rfl, Nat.le_of_ble_eq_true rfl, Nat.le_of_ble_eq_true rfl, Nat.le_of_ble_eq_true rfl⟩ (Nat.le_of_ble_eq_true rfl) ?_
  intro r w hq
  rcases hq with ⟨⟨hz12, rfl⟩ | ⟨hz12, rfl⟩, rfl⟩
  · first
    | contradiction
    | ( skip
        refine z_if_ne (tgt := 24) d_Mo_tin_15 (by decide) (fun _ => ?_) (fun h => absurd h (by decide))
        refine z_iload_2 d_Mo_tin_24 ?_
        refine z_i2l d_Mo_tin_25 ?_
        refine z_lconst (f := lN 0) d_Mo_tin_26 rfl ?_
        refine z_ldc2 d_Mo_tin_27 c_Mo_339 ?_
        refine z_Si3 d_Mo_tin_30 k_Mo_105 (t_Mo_isInZ (m := 5) (by decide) (by decide)) ⟨Nat.le_of_ble_eq_true rfl, Nat.le_of_ble_eq_true rfl, Nat.le_of_ble_eq_true rfl, Nat.le_of_ble_eq_true rfl⟩ (Nat.le_of_ble_eq_true rfl) ?_
        intro r w hq
        rcases hq with ⟨⟨hz30, rfl⟩ | ⟨hz30, rfl⟩, rfl⟩
        · first
          | contradiction
          | ( skip
              refine z_if_ne (tgt := 42) d_Mo_tin_33 (by decide) (fun _ => ?_) (fun h => absurd h (by decide))
              refine z_iload_2 d_Mo_tin_42 ?_
              refine z_iconst (a := nI 1) d_Mo_tin_43 (by decide) ?_
              refine z_icmp_ne (tgt := 74) d_Mo_tin_44 (by decide) (fun h44 => ?_) (fun h44 => ?_)
              · first
                | (simp (disch := omega) only [← nI_0, nI_leI, nI_ltI, nI_eq, not_true_eq_false, not_false_eq_true] at h44; done)
                | (simp (disch := omega) only [← nI_0, nI_leI, nI_ltI, nI_eq, not_true_eq_false, not_false_eq_true] at h44; omega)
                | contradiction
                | exact absurd h44 (Int32.not_lt.mpr (by assumption))
                | exact absurd h44 (Int32.not_le.mpr (by assumption))
                | exact absurd h44 (by decide)
                | exact absurd (by decide) h44
                | ( try simp (disch := omega) only [← nI_0, nI_leI, nI_ltI, nI_eq, not_true_eq_false, not_false_eq_true] at h44
                    (try have h44b := zbit_n0.mp h44); (try have h44b := zbit_p0.mp h44)
                    refine z_aload_0 d_Mo_tin_74 ?_
                    refine z_getR d_Mo_tin_75 f_Mo_35 (by first | assumption | exact zS0_at (by assumption) (by omega) | exact zS0_at rfl (by omega)) (by first | assumption | exact zS0_at (by assumption) (by omega) | exact zS0_at rfl (by omega)) ?_
                    refine z_iload_2 d_Mo_tin_78 ?_
                    refine z_if_ne (tgt := 87) d_Mo_tin_79 (by decide) (fun h79 => ?_) (fun h79 => ?_)
                    · first
                      | (simp (disch := omega) only [← nI_0, nI_leI, nI_ltI, nI_eq, not_true_eq_false, not_false_eq_true] at h79; done)
                      | (simp (disch := omega) only [← nI_0, nI_leI, nI_ltI, nI_eq, not_true_eq_false, not_false_eq_true] at h79; omega)
                      | contradiction
                      | exact absurd h79 (Int32.not_lt.mpr (by assumption))
                      | exact absurd h79 (Int32.not_le.mpr (by assumption))
                      | exact absurd h79 (by decide)
                      | exact absurd (by decide) h79
                      | ( try simp (disch := omega) only [← nI_0, nI_leI, nI_ltI, nI_eq, not_true_eq_false, not_false_eq_true] at h79
                          (try have h79b := zbit_n0.mp h79); (try have h79b := zbit_p0.mp h79)
                          refine z_iload_2 d_Mo_tin_87 ?_
                          refine z_iconst (a := nI 2) d_Mo_tin_88 (by decide) ?_
                          refine z_icmp_ne (tgt := 97) d_Mo_tin_89 (by decide) (fun h89 => ?_) (fun h89 => ?_)
                          · first
                            | (simp (disch := omega) only [← nI_0, nI_leI, nI_ltI, nI_eq, not_true_eq_false, not_false_eq_true] at h89; done)
                            | (simp (disch := omega) only [← nI_0, nI_leI, nI_ltI, nI_eq, not_true_eq_false, not_false_eq_true] at h89; omega)
                            | contradiction
                            | exact absurd h89 (Int32.not_lt.mpr (by assumption))
                            | exact absurd h89 (Int32.not_le.mpr (by assumption))
                            | exact absurd h89 (by decide)
                            | exact absurd (by decide) h89
                            | ( try simp (disch := omega) only [← nI_0, nI_leI, nI_ltI, nI_eq, not_true_eq_false, not_false_eq_true] at h89
                                (try have h89b := zbit_n0.mp h89); (try have h89b := zbit_p0.mp h89)
                                refine z_iload_2 d_Mo_tin_97 ?_
                                refine z_iconst (a := nI 3) d_Mo_tin_98 (by decide) ?_
                                refine z_icmp_ne (tgt := 107) d_Mo_tin_99 (by decide) (fun h99 => ?_) (fun h99 => ?_)
                                · first
                                  | (simp (disch := omega) only [← nI_0, nI_leI, nI_ltI, nI_eq, not_true_eq_false, not_false_eq_true] at h99; done)
                                  | (simp (disch := omega) only [← nI_0, nI_leI, nI_ltI, nI_eq, not_true_eq_false, not_false_eq_true] at h99; omega)
                                  | contradiction
                                  | exact absurd h99 (Int32.not_lt.mpr (by assumption))
                                  | exact absurd h99 (Int32.not_le.mpr (by assumption))
                                  | exact absurd h99 (by decide)
                                  | exact absurd (by decide) h99
                                  | ( try simp (disch := omega) only [← nI_0, nI_leI, nI_ltI, nI_eq, not_true_eq_false, not_false_eq_true] at h99
                                      (try have h99b := zbit_n0.mp h99); (try have h99b := zbit_p0.mp h99)
                                      refine z_bipush (a := nI 78) d_Mo_tin_107 (by decide) ?_
                                      refine z_iload_1 d_Mo_tin_109 ?_
                                      first | refine z_iaddN d_Mo_tin_110 ?_ | refine z_iadd d_Mo_tin_110 ?_
                                      first | refine z_ialdNv d_Mo_tin_111 (by first | assumption | exact zS0_at (by assumption) (by omega) | exact zS0_at rfl (by omega)) (by omega) (by first | decide | omega) (by first | assumption | ((try simp (disch := omega) only [zu_same, zu_ne, zcp_ne, zfl_ne]); first | assumption | rfl)) ?_ | refine z_iald d_Mo_tin_111 (by first | assumption | exact zS0_at (by assumption) (by omega) | exact zS0_at rfl (by omega)) (by first | assumption | exact zS0_at (by assumption) (by omega) | exact zS0_at rfl (by omega)) ?_
                                      refine z_reti d_Mo_tin_112 ?_
                                      exact ⟨by first | rfl | assumption | (rw [e150]), _, _, rfl, (by repeat (first | exact h1 | refine mqF_z ?_ (by decide))), mqJ_r, (by first | exact zu_same _ _ _ _ | exact h0)⟩)
                                · first
                                  | (simp (disch := omega) only [← nI_0, nI_leI, nI_ltI, nI_eq, not_true_eq_false, not_false_eq_true] at h99; done)
                                  | (simp (disch := omega) only [← nI_0, nI_leI, nI_ltI, nI_eq, not_true_eq_false, not_false_eq_true] at h99; omega)
                                  | contradiction
                                  | exact absurd h99 (Int32.not_lt.mpr (by assumption))
                                  | exact absurd h99 (Int32.not_le.mpr (by assumption))
                                  | exact absurd h99 (by decide)
                                  | exact absurd (by decide) h99
                                  | ( try simp (disch := omega) only [← nI_0, nI_leI, nI_ltI, nI_eq, not_true_eq_false, not_false_eq_true] at h99
                                      (try have h99b := zbit_n0.mp h99); (try have h99b := zbit_p0.mp h99)
                                      refine z_bipush (a := nI 69) d_Mo_tin_102 (by decide) ?_
                                      refine z_goto (tgt := 109) d_Mo_tin_104 (by decide) ?_
                                      refine z_iload_1 d_Mo_tin_109 ?_
                                      first | refine z_iaddN d_Mo_tin_110 ?_ | refine z_iadd d_Mo_tin_110 ?_
                                      first | refine z_ialdNv d_Mo_tin_111 (by first | assumption | exact zS0_at (by assumption) (by omega) | exact zS0_at rfl (by omega)) (by omega) (by first | decide | omega) (by first | assumption | ((try simp (disch := omega) only [zu_same, zu_ne, zcp_ne, zfl_ne]); first | assumption | rfl)) ?_ | refine z_iald d_Mo_tin_111 (by first | assumption | exact zS0_at (by assumption) (by omega) | exact zS0_at rfl (by omega)) (by first | assumption | exact zS0_at (by assumption) (by omega) | exact zS0_at rfl (by omega)) ?_
                                      refine z_reti d_Mo_tin_112 ?_
                                      exact ⟨by first | rfl | assumption | (rw [e150]), _, _, rfl, (by repeat (first | exact h1 | refine mqF_z ?_ (by decide))), mqJ_r, (by first | exact zu_same _ _ _ _ | exact h0)⟩))
                          · first
                            | (simp (disch := omega) only [← nI_0, nI_leI, nI_ltI, nI_eq, not_true_eq_false, not_false_eq_true] at h89; done)
                            | (simp (disch := omega) only [← nI_0, nI_leI, nI_ltI, nI_eq, not_true_eq_false, not_false_eq_true] at h89; omega)
                            | contradiction
                            | exact absurd h89 (Int32.not_lt.mpr (by assumption))
                            | exact absurd h89 (Int32.not_le.mpr (by assumption))
                            | exact absurd h89 (by decide)
                            | exact absurd (by decide) h89
                            | ( try simp (disch := omega) only [← nI_0, nI_leI, nI_ltI, nI_eq, not_true_eq_false, not_false_eq_true] at h89
                                (try have h89b := zbit_n0.mp h89); (try have h89b := zbit_p0.mp h89)
                                refine z_bipush (a := nI 51) d_Mo_tin_92 (by decide) ?_
                                refine z_goto (tgt := 109) d_Mo_tin_94 (by decide) ?_
                                refine z_iload_1 d_Mo_tin_109 ?_
                                first | refine z_iaddN d_Mo_tin_110 ?_ | refine z_iadd d_Mo_tin_110 ?_
                                first | refine z_ialdNv d_Mo_tin_111 (by first | assumption | exact zS0_at (by assumption) (by omega) | exact zS0_at rfl (by omega)) (by omega) (by first | decide | omega) (by first | assumption | ((try simp (disch := omega) only [zu_same, zu_ne, zcp_ne, zfl_ne]); first | assumption | rfl)) ?_ | refine z_iald d_Mo_tin_111 (by first | assumption | exact zS0_at (by assumption) (by omega) | exact zS0_at rfl (by omega)) (by first | assumption | exact zS0_at (by assumption) (by omega) | exact zS0_at rfl (by omega)) ?_
                                refine z_reti d_Mo_tin_112 ?_
                                exact ⟨by first | rfl | assumption | (rw [e150]), _, _, rfl, (by repeat (first | exact h1 | refine mqF_z ?_ (by decide))), mqJ_r, (by first | exact zu_same _ _ _ _ | exact h0)⟩))
                    · first
                      | (simp (disch := omega) only [← nI_0, nI_leI, nI_ltI, nI_eq, not_true_eq_false, not_false_eq_true] at h79; done)
                      | (simp (disch := omega) only [← nI_0, nI_leI, nI_ltI, nI_eq, not_true_eq_false, not_false_eq_true] at h79; omega)
                      | contradiction
                      | exact absurd h79 (Int32.not_lt.mpr (by assumption))
                      | exact absurd h79 (Int32.not_le.mpr (by assumption))
                      | exact absurd h79 (by decide)
                      | exact absurd (by decide) h79
                      | ( try simp (disch := omega) only [← nI_0, nI_leI, nI_ltI, nI_eq, not_true_eq_false, not_false_eq_true] at h79
                          (try have h79b := zbit_n0.mp h79); (try have h79b := zbit_p0.mp h79)
                          refine z_bipush (a := nI 33) d_Mo_tin_82 (by decide) ?_
                          refine z_goto (tgt := 109) d_Mo_tin_84 (by decide) ?_
                          refine z_iload_1 d_Mo_tin_109 ?_
                          first | refine z_iaddN d_Mo_tin_110 ?_ | refine z_iadd d_Mo_tin_110 ?_
                          first | refine z_ialdNv d_Mo_tin_111 (by first | assumption | exact zS0_at (by assumption) (by omega) | exact zS0_at rfl (by omega)) (by omega) (by first | decide | omega) (by first | assumption | ((try simp (disch := omega) only [zu_same, zu_ne, zcp_ne, zfl_ne]); first | assumption | rfl)) ?_ | refine z_iald d_Mo_tin_111 (by first | assumption | exact zS0_at (by assumption) (by omega) | exact zS0_at rfl (by omega)) (by first | assumption | exact zS0_at (by assumption) (by omega) | exact zS0_at rfl (by omega)) ?_
                          refine z_reti d_Mo_tin_112 ?_
                          exact ⟨by first | rfl | assumption | (rw [e150]), _, _, rfl, (by repeat (first | exact h1 | refine mqF_z ?_ (by decide))), mqJ_r, (by first | exact zu_same _ _ _ _ | exact h0)⟩))
              · first
                | (simp (disch := omega) only [← nI_0, nI_leI, nI_ltI, nI_eq, not_true_eq_false, not_false_eq_true] at h44; done)
                | (simp (disch := omega) only [← nI_0, nI_leI, nI_ltI, nI_eq, not_true_eq_false, not_false_eq_true] at h44; omega)
                | contradiction
                | exact absurd h44 (Int32.not_lt.mpr (by assumption))
                | exact absurd h44 (Int32.not_le.mpr (by assumption))
                | exact absurd h44 (by decide)
                | exact absurd (by decide) h44
                | ( try simp (disch := omega) only [← nI_0, nI_leI, nI_ltI, nI_eq, not_true_eq_false, not_false_eq_true] at h44
                    (try have h44b := zbit_n0.mp h44); (try have h44b := zbit_p0.mp h44)
                    refine z_aload_0 d_Mo_tin_47 ?_
                    refine z_iload_1 d_Mo_tin_48 ?_
                    refine z_Vi1 d_Mo_tin_49 k_Mo_310 (by first | assumption | exact zS0_at (by assumption) (by omega) | exact zS0_at rfl (by omega)) (t_Mo_isGone (by assumption) (by omega)) ⟨Nat.le_of_ble_eq_true rfl, Nat.le_of_ble_eq_true rfl, Nat.le_of_ble_eq_true rfl, Nat.le_of_ble_eq_true rfl⟩ (Nat.le_of_ble_eq_true rfl) ?_
                    intro r w hq
                    rcases hq with ⟨⟨hz49, rfl⟩ | ⟨hz49, rfl⟩, rfl⟩
                    · first
                      | contradiction
                      | ( skip
                          refine z_if_eq (tgt := 64) d_Mo_tin_52 (by decide) (fun h => absurd h (by decide)) (fun _ => ?_)
                          refine z_aload_0 d_Mo_tin_55 ?_
                          refine z_bipush (a := nI 8) d_Mo_tin_56 (by decide) ?_
                          refine z_Vi1 d_Mo_tin_58 k_Mo_327 (by first | assumption | exact zS0_at (by assumption) (by omega) | exact zS0_at rfl (by omega)) (t_Mo_refuse (by assumption)) ⟨Nat.le_of_ble_eq_true rfl, Nat.le_of_ble_eq_true rfl, Nat.le_of_ble_eq_true rfl, Nat.le_of_ble_eq_true rfl⟩ (Nat.le_of_ble_eq_true rfl) ?_
                          intro r w hq
                          obtain ⟨rfl, rfl⟩ := hq
                          refine z_goto (tgt := 73) d_Mo_tin_61 (by decide) ?_
                          refine z_reti d_Mo_tin_73 ?_
                          exact ⟨by first | rfl | assumption | (rw [e150]), _, _, rfl, (by repeat (first | exact h1 | refine mqF_z ?_ (by decide))), mqJ_r, (by first | exact zu_same _ _ _ _ | exact h0)⟩)
                    · first
                      | contradiction
                      | ( skip
                          refine z_if_eq (tgt := 64) d_Mo_tin_52 (by decide) (fun _ => ?_) (fun h => absurd h (by decide))
                          refine z_aload_0 d_Mo_tin_64 ?_
                          refine z_getR d_Mo_tin_65 f_Mo_35 (by first | assumption | exact zS0_at (by assumption) (by omega) | exact zS0_at rfl (by omega)) (by first | assumption | exact zS0_at (by assumption) (by omega) | exact zS0_at rfl (by omega)) ?_
                          refine z_bipush (a := nI 42) d_Mo_tin_68 (by decide) ?_
                          refine z_iload_1 d_Mo_tin_70 ?_
                          first | refine z_iaddN d_Mo_tin_71 ?_ | refine z_iadd d_Mo_tin_71 ?_
                          first | refine z_ialdNv d_Mo_tin_72 (by first | assumption | exact zS0_at (by assumption) (by omega) | exact zS0_at rfl (by omega)) (by omega) (by first | decide | omega) (by first | assumption | ((try simp (disch := omega) only [zu_same, zu_ne, zcp_ne, zfl_ne]); first | assumption | rfl)) ?_ | refine z_iald d_Mo_tin_72 (by first | assumption | exact zS0_at (by assumption) (by omega) | exact zS0_at rfl (by omega)) (by first | assumption | exact zS0_at (by assumption) (by omega) | exact zS0_at rfl (by omega)) ?_
                          refine z_reti d_Mo_tin_73 ?_
                          exact ⟨by first | rfl | assumption | (rw [e150]), _, _, rfl, (by repeat (first | exact h1 | refine mqF_z ?_ (by decide))), mqJ_r, (by first | exact zu_same _ _ _ _ | exact h0)⟩)))
        · first
          | contradiction
          | ( skip
              refine z_if_ne (tgt := 42) d_Mo_tin_33 (by decide) (fun h => absurd h (by decide)) (fun _ => ?_)
              refine z_aload_0 d_Mo_tin_36 ?_
              refine z_iconst (a := nI 5) d_Mo_tin_37 (by decide) ?_
              refine z_Vi1 d_Mo_tin_38 k_Mo_327 (by first | assumption | exact zS0_at (by assumption) (by omega) | exact zS0_at rfl (by omega)) (t_Mo_refuse (by assumption)) ⟨Nat.le_of_ble_eq_true rfl, Nat.le_of_ble_eq_true rfl, Nat.le_of_ble_eq_true rfl, Nat.le_of_ble_eq_true rfl⟩ (Nat.le_of_ble_eq_true rfl) ?_
              intro r w hq
              obtain ⟨rfl, rfl⟩ := hq
              refine z_reti d_Mo_tin_41 ?_
              exact ⟨by first | rfl | assumption | (rw [e150]), _, _, rfl, (by repeat (first | exact h1 | refine mqF_z ?_ (by decide))), mqJ_r, (by first | exact zu_same _ _ _ _ | exact h0)⟩))
  · first
    | contradiction
    | ( skip
        refine z_if_ne (tgt := 24) d_Mo_tin_15 (by decide) (fun h => absurd h (by decide)) (fun _ => ?_)
        refine z_aload_0 d_Mo_tin_18 ?_
        refine z_iconst (a := nI 2) d_Mo_tin_19 (by decide) ?_
        refine z_Vi1 d_Mo_tin_20 k_Mo_327 (by first | assumption | exact zS0_at (by assumption) (by omega) | exact zS0_at rfl (by omega)) (t_Mo_refuse (by assumption)) ⟨Nat.le_of_ble_eq_true rfl, Nat.le_of_ble_eq_true rfl, Nat.le_of_ble_eq_true rfl, Nat.le_of_ble_eq_true rfl⟩ (Nat.le_of_ble_eq_true rfl) ?_
        intro r w hq
        obtain ⟨rfl, rfl⟩ := hq
        refine z_reti d_Mo_tin_23 ?_
        exact ⟨by first | rfl | assumption | (rw [e150]), _, _, rfl, (by repeat (first | exact h1 | refine mqF_z ?_ (by decide))), mqJ_r, (by first | exact zu_same _ _ _ _ | exact h0)⟩)
theorem t_Mo_tin_1p {t p : Nat} (M : modOk P S) (N : modIn I nt np nl nn) (ht : t < nn) (hg : I 150 (42 + t) = nI p) (hp : p < np) : zEi G y_Mo_tin prog_14_method_87_code 3 (some .int) 4 [.ref 145, .int (nI t), .int (nI 1)] (I, J, P, S) (fun r w => r = nI p ∧ mW I J P S 0 w) := by
  obtain ⟨M0, ⟨M4, M4s⟩, ⟨M5, M5s⟩, ⟨M6, M6s⟩, ⟨M7, M7s⟩, ⟨M20, M20s⟩, ⟨M21, M21s⟩, ⟨M22, M22s⟩, ⟨M26, M26s⟩, ⟨M27, M27s⟩, ⟨M28, M28s⟩, ⟨M30, M30s⟩, ⟨M34, M34s⟩, ⟨M36, M36s⟩, ⟨M37, M37s⟩⟩ := id M
  obtain ⟨I1, hI1, N1, h1, h0, e150, er, ek⟩ := mo_beg N
  obtain ⟨⟨m0, m0b⟩, ⟨m1, m1b⟩, ⟨m2, m2b⟩, ⟨m3, m3b⟩, mof, mon⟩ := id N1
  have hD : mD I I1 := ⟨h1, h0, e150, er⟩
  refine zEi_of (lv := [some (.ref 145), some (.int (nI t)), some (.int (nI 1))]) (by decide) rfl (Nat.le_of_ble_eq_true rfl) ?_
  refine z_aload_0 d_Mo_tin_0 ?_
  refine z_iconst (a := nI 0) d_Mo_tin_1 (by decide) ?_
  refine z_putI d_Mo_tin_2 f_Mo_70 (by first | assumption | exact zS0_at (by assumption) (by omega) | exact zS0_at rfl (by omega)) ?_
  refine z_aload_0 d_Mo_tin_5 ?_
  refine z_iconst (a := nI 0) d_Mo_tin_6 (by decide) ?_
  refine z_putI d_Mo_tin_7 f_Mo_73 (by first | assumption | exact zS0_at (by assumption) (by omega) | exact zS0_at rfl (by omega)) ?_
  rw [← hI1]
  have hz : zin (nI t) nn := ⟨t, by omega, rfl⟩
  have hzb : zin (nI 1) 5 := ⟨1, by decide, rfl⟩
  have hr : I1 150 (42 + t) = nI p := by rw [e150, hg]
  have hg2 : ¬ I1 150 (42 + t) < 0 := by rw [hr]; exact nI_pos (by omega)
  refine z_aload_0 d_Mo_tin_10 ?_
  refine z_iload_1 d_Mo_tin_11 ?_
  refine z_Vi1 d_Mo_tin_12 k_Mo_344 (by first | assumption | exact zS0_at (by assumption) (by omega) | exact zS0_at rfl (by omega)) (t_Mo_isTinAt M N1) ⟨Nat.le_of_ble_eq_true rfl, Nat.le_of_ble_eq_true rfl, Nat.le_of_ble_eq_true rfl, Nat.le_of_ble_eq_true rfl⟩ (Nat.le_of_ble_eq_true rfl) ?_
  intro r w hq
  rcases hq with ⟨⟨hz12, rfl⟩ | ⟨hz12, rfl⟩, rfl⟩
  · first
    | contradiction
    | ( skip
        refine z_if_ne (tgt := 24) d_Mo_tin_15 (by decide) (fun _ => ?_) (fun h => absurd h (by decide))
        refine z_iload_2 d_Mo_tin_24 ?_
        refine z_i2l d_Mo_tin_25 ?_
        refine z_lconst (f := lN 0) d_Mo_tin_26 rfl ?_
        refine z_ldc2 d_Mo_tin_27 c_Mo_339 ?_
        refine z_Si3 d_Mo_tin_30 k_Mo_105 (t_Mo_isInZ (m := 5) (by decide) (by decide)) ⟨Nat.le_of_ble_eq_true rfl, Nat.le_of_ble_eq_true rfl, Nat.le_of_ble_eq_true rfl, Nat.le_of_ble_eq_true rfl⟩ (Nat.le_of_ble_eq_true rfl) ?_
        intro r w hq
        rcases hq with ⟨⟨hz30, rfl⟩ | ⟨hz30, rfl⟩, rfl⟩
        · first
          | contradiction
          | ( skip
              refine z_if_ne (tgt := 42) d_Mo_tin_33 (by decide) (fun _ => ?_) (fun h => absurd h (by decide))
              refine z_iload_2 d_Mo_tin_42 ?_
              refine z_iconst (a := nI 1) d_Mo_tin_43 (by decide) ?_
              refine z_icmp_ne (tgt := 74) d_Mo_tin_44 (by decide) (fun h44 => ?_) (fun h44 => ?_)
              · first
                | (simp (disch := omega) only [← nI_0, nI_leI, nI_ltI, nI_eq, not_true_eq_false, not_false_eq_true] at h44; done)
                | (simp (disch := omega) only [← nI_0, nI_leI, nI_ltI, nI_eq, not_true_eq_false, not_false_eq_true] at h44; omega)
                | contradiction
                | exact absurd h44 (Int32.not_lt.mpr (by assumption))
                | exact absurd h44 (Int32.not_le.mpr (by assumption))
                | exact absurd h44 (by decide)
                | exact absurd (by decide) h44
                | ( try simp (disch := omega) only [← nI_0, nI_leI, nI_ltI, nI_eq, not_true_eq_false, not_false_eq_true] at h44
                    (try have h44b := zbit_n0.mp h44); (try have h44b := zbit_p0.mp h44)
                    refine z_aload_0 d_Mo_tin_74 ?_
                    refine z_getR d_Mo_tin_75 f_Mo_35 (by first | assumption | exact zS0_at (by assumption) (by omega) | exact zS0_at rfl (by omega)) (by first | assumption | exact zS0_at (by assumption) (by omega) | exact zS0_at rfl (by omega)) ?_
                    refine z_iload_2 d_Mo_tin_78 ?_
                    refine z_if_ne (tgt := 87) d_Mo_tin_79 (by decide) (fun h79 => ?_) (fun h79 => ?_)
                    · first
                      | (simp (disch := omega) only [← nI_0, nI_leI, nI_ltI, nI_eq, not_true_eq_false, not_false_eq_true] at h79; done)
                      | (simp (disch := omega) only [← nI_0, nI_leI, nI_ltI, nI_eq, not_true_eq_false, not_false_eq_true] at h79; omega)
                      | contradiction
                      | exact absurd h79 (Int32.not_lt.mpr (by assumption))
                      | exact absurd h79 (Int32.not_le.mpr (by assumption))
                      | exact absurd h79 (by decide)
                      | exact absurd (by decide) h79
                      | ( try simp (disch := omega) only [← nI_0, nI_leI, nI_ltI, nI_eq, not_true_eq_false, not_false_eq_true] at h79
                          (try have h79b := zbit_n0.mp h79); (try have h79b := zbit_p0.mp h79)
                          refine z_iload_2 d_Mo_tin_87 ?_
                          refine z_iconst (a := nI 2) d_Mo_tin_88 (by decide) ?_
                          refine z_icmp_ne (tgt := 97) d_Mo_tin_89 (by decide) (fun h89 => ?_) (fun h89 => ?_)
                          · first
                            | (simp (disch := omega) only [← nI_0, nI_leI, nI_ltI, nI_eq, not_true_eq_false, not_false_eq_true] at h89; done)
                            | (simp (disch := omega) only [← nI_0, nI_leI, nI_ltI, nI_eq, not_true_eq_false, not_false_eq_true] at h89; omega)
                            | contradiction
                            | exact absurd h89 (Int32.not_lt.mpr (by assumption))
                            | exact absurd h89 (Int32.not_le.mpr (by assumption))
                            | exact absurd h89 (by decide)
                            | exact absurd (by decide) h89
                            | ( try simp (disch := omega) only [← nI_0, nI_leI, nI_ltI, nI_eq, not_true_eq_false, not_false_eq_true] at h89
                                (try have h89b := zbit_n0.mp h89); (try have h89b := zbit_p0.mp h89)
                                refine z_iload_2 d_Mo_tin_97 ?_
                                refine z_iconst (a := nI 3) d_Mo_tin_98 (by decide) ?_
                                refine z_icmp_ne (tgt := 107) d_Mo_tin_99 (by decide) (fun h99 => ?_) (fun h99 => ?_)
                                · first
                                  | (simp (disch := omega) only [← nI_0, nI_leI, nI_ltI, nI_eq, not_true_eq_false, not_false_eq_true] at h99; done)
                                  | (simp (disch := omega) only [← nI_0, nI_leI, nI_ltI, nI_eq, not_true_eq_false, not_false_eq_true] at h99; omega)
                                  | contradiction
                                  | exact absurd h99 (Int32.not_lt.mpr (by assumption))
                                  | exact absurd h99 (Int32.not_le.mpr (by assumption))
                                  | exact absurd h99 (by decide)
                                  | exact absurd (by decide) h99
                                  | ( try simp (disch := omega) only [← nI_0, nI_leI, nI_ltI, nI_eq, not_true_eq_false, not_false_eq_true] at h99
                                      (try have h99b := zbit_n0.mp h99); (try have h99b := zbit_p0.mp h99)
                                      refine z_bipush (a := nI 78) d_Mo_tin_107 (by decide) ?_
                                      refine z_iload_1 d_Mo_tin_109 ?_
                                      first | refine z_iaddN d_Mo_tin_110 ?_ | refine z_iadd d_Mo_tin_110 ?_
                                      first | refine z_ialdNv d_Mo_tin_111 (by first | assumption | exact zS0_at (by assumption) (by omega) | exact zS0_at rfl (by omega)) (by omega) (by first | decide | omega) (by first | assumption | ((try simp (disch := omega) only [zu_same, zu_ne, zcp_ne, zfl_ne]); first | assumption | rfl)) ?_ | refine z_iald d_Mo_tin_111 (by first | assumption | exact zS0_at (by assumption) (by omega) | exact zS0_at rfl (by omega)) (by first | assumption | exact zS0_at (by assumption) (by omega) | exact zS0_at rfl (by omega)) ?_
                                      refine z_reti d_Mo_tin_112 ?_
                                      exact ⟨by first | rfl | assumption | (rw [e150]), _, _, rfl, (by repeat (first | exact h1 | refine mqF_z ?_ (by decide))), mqJ_r, (by first | exact zu_same _ _ _ _ | exact h0)⟩)
                                · first
                                  | (simp (disch := omega) only [← nI_0, nI_leI, nI_ltI, nI_eq, not_true_eq_false, not_false_eq_true] at h99; done)
                                  | (simp (disch := omega) only [← nI_0, nI_leI, nI_ltI, nI_eq, not_true_eq_false, not_false_eq_true] at h99; omega)
                                  | contradiction
                                  | exact absurd h99 (Int32.not_lt.mpr (by assumption))
                                  | exact absurd h99 (Int32.not_le.mpr (by assumption))
                                  | exact absurd h99 (by decide)
                                  | exact absurd (by decide) h99
                                  | ( try simp (disch := omega) only [← nI_0, nI_leI, nI_ltI, nI_eq, not_true_eq_false, not_false_eq_true] at h99
                                      (try have h99b := zbit_n0.mp h99); (try have h99b := zbit_p0.mp h99)
                                      refine z_bipush (a := nI 69) d_Mo_tin_102 (by decide) ?_
                                      refine z_goto (tgt := 109) d_Mo_tin_104 (by decide) ?_
                                      refine z_iload_1 d_Mo_tin_109 ?_
                                      first | refine z_iaddN d_Mo_tin_110 ?_ | refine z_iadd d_Mo_tin_110 ?_
                                      first | refine z_ialdNv d_Mo_tin_111 (by first | assumption | exact zS0_at (by assumption) (by omega) | exact zS0_at rfl (by omega)) (by omega) (by first | decide | omega) (by first | assumption | ((try simp (disch := omega) only [zu_same, zu_ne, zcp_ne, zfl_ne]); first | assumption | rfl)) ?_ | refine z_iald d_Mo_tin_111 (by first | assumption | exact zS0_at (by assumption) (by omega) | exact zS0_at rfl (by omega)) (by first | assumption | exact zS0_at (by assumption) (by omega) | exact zS0_at rfl (by omega)) ?_
                                      refine z_reti d_Mo_tin_112 ?_
                                      exact ⟨by first | rfl | assumption | (rw [e150]), _, _, rfl, (by repeat (first | exact h1 | refine mqF_z ?_ (by decide))), mqJ_r, (by first | exact zu_same _ _ _ _ | exact h0)⟩))
                          · first
                            | (simp (disch := omega) only [← nI_0, nI_leI, nI_ltI, nI_eq, not_true_eq_false, not_false_eq_true] at h89; done)
                            | (simp (disch := omega) only [← nI_0, nI_leI, nI_ltI, nI_eq, not_true_eq_false, not_false_eq_true] at h89; omega)
                            | contradiction
                            | exact absurd h89 (Int32.not_lt.mpr (by assumption))
                            | exact absurd h89 (Int32.not_le.mpr (by assumption))
                            | exact absurd h89 (by decide)
                            | exact absurd (by decide) h89
                            | ( try simp (disch := omega) only [← nI_0, nI_leI, nI_ltI, nI_eq, not_true_eq_false, not_false_eq_true] at h89
                                (try have h89b := zbit_n0.mp h89); (try have h89b := zbit_p0.mp h89)
                                refine z_bipush (a := nI 51) d_Mo_tin_92 (by decide) ?_
                                refine z_goto (tgt := 109) d_Mo_tin_94 (by decide) ?_
                                refine z_iload_1 d_Mo_tin_109 ?_
                                first | refine z_iaddN d_Mo_tin_110 ?_ | refine z_iadd d_Mo_tin_110 ?_
                                first | refine z_ialdNv d_Mo_tin_111 (by first | assumption | exact zS0_at (by assumption) (by omega) | exact zS0_at rfl (by omega)) (by omega) (by first | decide | omega) (by first | assumption | ((try simp (disch := omega) only [zu_same, zu_ne, zcp_ne, zfl_ne]); first | assumption | rfl)) ?_ | refine z_iald d_Mo_tin_111 (by first | assumption | exact zS0_at (by assumption) (by omega) | exact zS0_at rfl (by omega)) (by first | assumption | exact zS0_at (by assumption) (by omega) | exact zS0_at rfl (by omega)) ?_
                                refine z_reti d_Mo_tin_112 ?_
                                exact ⟨by first | rfl | assumption | (rw [e150]), _, _, rfl, (by repeat (first | exact h1 | refine mqF_z ?_ (by decide))), mqJ_r, (by first | exact zu_same _ _ _ _ | exact h0)⟩))
                    · first
                      | (simp (disch := omega) only [← nI_0, nI_leI, nI_ltI, nI_eq, not_true_eq_false, not_false_eq_true] at h79; done)
                      | (simp (disch := omega) only [← nI_0, nI_leI, nI_ltI, nI_eq, not_true_eq_false, not_false_eq_true] at h79; omega)
                      | contradiction
                      | exact absurd h79 (Int32.not_lt.mpr (by assumption))
                      | exact absurd h79 (Int32.not_le.mpr (by assumption))
                      | exact absurd h79 (by decide)
                      | exact absurd (by decide) h79
                      | ( try simp (disch := omega) only [← nI_0, nI_leI, nI_ltI, nI_eq, not_true_eq_false, not_false_eq_true] at h79
                          (try have h79b := zbit_n0.mp h79); (try have h79b := zbit_p0.mp h79)
                          refine z_bipush (a := nI 33) d_Mo_tin_82 (by decide) ?_
                          refine z_goto (tgt := 109) d_Mo_tin_84 (by decide) ?_
                          refine z_iload_1 d_Mo_tin_109 ?_
                          first | refine z_iaddN d_Mo_tin_110 ?_ | refine z_iadd d_Mo_tin_110 ?_
                          first | refine z_ialdNv d_Mo_tin_111 (by first | assumption | exact zS0_at (by assumption) (by omega) | exact zS0_at rfl (by omega)) (by omega) (by first | decide | omega) (by first | assumption | ((try simp (disch := omega) only [zu_same, zu_ne, zcp_ne, zfl_ne]); first | assumption | rfl)) ?_ | refine z_iald d_Mo_tin_111 (by first | assumption | exact zS0_at (by assumption) (by omega) | exact zS0_at rfl (by omega)) (by first | assumption | exact zS0_at (by assumption) (by omega) | exact zS0_at rfl (by omega)) ?_
                          refine z_reti d_Mo_tin_112 ?_
                          exact ⟨by first | rfl | assumption | (rw [e150]), _, _, rfl, (by repeat (first | exact h1 | refine mqF_z ?_ (by decide))), mqJ_r, (by first | exact zu_same _ _ _ _ | exact h0)⟩))
              · first
                | (simp (disch := omega) only [← nI_0, nI_leI, nI_ltI, nI_eq, not_true_eq_false, not_false_eq_true] at h44; done)
                | (simp (disch := omega) only [← nI_0, nI_leI, nI_ltI, nI_eq, not_true_eq_false, not_false_eq_true] at h44; omega)
                | contradiction
                | exact absurd h44 (Int32.not_lt.mpr (by assumption))
                | exact absurd h44 (Int32.not_le.mpr (by assumption))
                | exact absurd h44 (by decide)
                | exact absurd (by decide) h44
                | ( try simp (disch := omega) only [← nI_0, nI_leI, nI_ltI, nI_eq, not_true_eq_false, not_false_eq_true] at h44
                    (try have h44b := zbit_n0.mp h44); (try have h44b := zbit_p0.mp h44)
                    refine z_aload_0 d_Mo_tin_47 ?_
                    refine z_iload_1 d_Mo_tin_48 ?_
                    refine z_Vi1 d_Mo_tin_49 k_Mo_310 (by first | assumption | exact zS0_at (by assumption) (by omega) | exact zS0_at rfl (by omega)) (t_Mo_isGone (by assumption) (by omega)) ⟨Nat.le_of_ble_eq_true rfl, Nat.le_of_ble_eq_true rfl, Nat.le_of_ble_eq_true rfl, Nat.le_of_ble_eq_true rfl⟩ (Nat.le_of_ble_eq_true rfl) ?_
                    intro r w hq
                    rcases hq with ⟨⟨hz49, rfl⟩ | ⟨hz49, rfl⟩, rfl⟩
                    · first
                      | contradiction
                      | ( skip
                          refine z_if_eq (tgt := 64) d_Mo_tin_52 (by decide) (fun h => absurd h (by decide)) (fun _ => ?_)
                          refine z_aload_0 d_Mo_tin_55 ?_
                          refine z_bipush (a := nI 8) d_Mo_tin_56 (by decide) ?_
                          refine z_Vi1 d_Mo_tin_58 k_Mo_327 (by first | assumption | exact zS0_at (by assumption) (by omega) | exact zS0_at rfl (by omega)) (t_Mo_refuse (by assumption)) ⟨Nat.le_of_ble_eq_true rfl, Nat.le_of_ble_eq_true rfl, Nat.le_of_ble_eq_true rfl, Nat.le_of_ble_eq_true rfl⟩ (Nat.le_of_ble_eq_true rfl) ?_
                          intro r w hq
                          obtain ⟨rfl, rfl⟩ := hq
                          refine z_goto (tgt := 73) d_Mo_tin_61 (by decide) ?_
                          refine z_reti d_Mo_tin_73 ?_
                          exact ⟨by first | rfl | assumption | (rw [e150]), _, _, rfl, (by repeat (first | exact h1 | refine mqF_z ?_ (by decide))), mqJ_r, (by first | exact zu_same _ _ _ _ | exact h0)⟩)
                    · first
                      | contradiction
                      | ( skip
                          refine z_if_eq (tgt := 64) d_Mo_tin_52 (by decide) (fun _ => ?_) (fun h => absurd h (by decide))
                          refine z_aload_0 d_Mo_tin_64 ?_
                          refine z_getR d_Mo_tin_65 f_Mo_35 (by first | assumption | exact zS0_at (by assumption) (by omega) | exact zS0_at rfl (by omega)) (by first | assumption | exact zS0_at (by assumption) (by omega) | exact zS0_at rfl (by omega)) ?_
                          refine z_bipush (a := nI 42) d_Mo_tin_68 (by decide) ?_
                          refine z_iload_1 d_Mo_tin_70 ?_
                          first | refine z_iaddN d_Mo_tin_71 ?_ | refine z_iadd d_Mo_tin_71 ?_
                          first | refine z_ialdNv d_Mo_tin_72 (by first | assumption | exact zS0_at (by assumption) (by omega) | exact zS0_at rfl (by omega)) (by omega) (by first | decide | omega) (by first | assumption | ((try simp (disch := omega) only [zu_same, zu_ne, zcp_ne, zfl_ne]); first | assumption | rfl)) ?_ | refine z_iald d_Mo_tin_72 (by first | assumption | exact zS0_at (by assumption) (by omega) | exact zS0_at rfl (by omega)) (by first | assumption | exact zS0_at (by assumption) (by omega) | exact zS0_at rfl (by omega)) ?_
                          refine z_reti d_Mo_tin_73 ?_
                          exact ⟨by first | rfl | assumption | (rw [e150]), _, _, rfl, (by repeat (first | exact h1 | refine mqF_z ?_ (by decide))), mqJ_r, (by first | exact zu_same _ _ _ _ | exact h0)⟩)))
        · first
          | contradiction
          | ( skip
              refine z_if_ne (tgt := 42) d_Mo_tin_33 (by decide) (fun h => absurd h (by decide)) (fun _ => ?_)
              refine z_aload_0 d_Mo_tin_36 ?_
              refine z_iconst (a := nI 5) d_Mo_tin_37 (by decide) ?_
              refine z_Vi1 d_Mo_tin_38 k_Mo_327 (by first | assumption | exact zS0_at (by assumption) (by omega) | exact zS0_at rfl (by omega)) (t_Mo_refuse (by assumption)) ⟨Nat.le_of_ble_eq_true rfl, Nat.le_of_ble_eq_true rfl, Nat.le_of_ble_eq_true rfl, Nat.le_of_ble_eq_true rfl⟩ (Nat.le_of_ble_eq_true rfl) ?_
              intro r w hq
              obtain ⟨rfl, rfl⟩ := hq
              refine z_reti d_Mo_tin_41 ?_
              exact ⟨by first | rfl | assumption | (rw [e150]), _, _, rfl, (by repeat (first | exact h1 | refine mqF_z ?_ (by decide))), mqJ_r, (by first | exact zu_same _ _ _ _ | exact h0)⟩))
  · first
    | contradiction
    | ( skip
        refine z_if_ne (tgt := 24) d_Mo_tin_15 (by decide) (fun h => absurd h (by decide)) (fun _ => ?_)
        refine z_aload_0 d_Mo_tin_18 ?_
        refine z_iconst (a := nI 2) d_Mo_tin_19 (by decide) ?_
        refine z_Vi1 d_Mo_tin_20 k_Mo_327 (by first | assumption | exact zS0_at (by assumption) (by omega) | exact zS0_at rfl (by omega)) (t_Mo_refuse (by assumption)) ⟨Nat.le_of_ble_eq_true rfl, Nat.le_of_ble_eq_true rfl, Nat.le_of_ble_eq_true rfl, Nat.le_of_ble_eq_true rfl⟩ (Nat.le_of_ble_eq_true rfl) ?_
        intro r w hq
        obtain ⟨rfl, rfl⟩ := hq
        refine z_reti d_Mo_tin_23 ?_
        exact ⟨by first | rfl | assumption | (rw [e150]), _, _, rfl, (by repeat (first | exact h1 | refine mqF_z ?_ (by decide))), mqJ_r, (by first | exact zu_same _ _ _ _ | exact h0)⟩)
theorem L_tin (h : zInv n w) : zEi G y_Tf_tin prog_1_method_16_code 3 (some .int) 4 [.ref 0, .int a, .int b] w (fun r w1 => w1.2.2.2 = w.2.2.2 ∧ zEi G y_Mo_tin prog_14_method_87_code 3 (some .int) 4 [.ref 145, .int a, .int b] w1 (fun r' w2 => r' = r ∧ zInv (n + 1) w2)) := by
  obtain ⟨f, d, nt, np, nl, nn, fed, mk, I, J, P, S, rfl, Z, X⟩ := h
  have M := clOk_M Z
  have hf := clOk_f Z
  have N := stR_fen X
  have N0 := stR_mod X
  have fm := stR_fm X
  obtain ⟨⟨⟨a1, r1, b1⟩, ⟨a2, r2, b2⟩, ⟨a3, r3, b3⟩, ⟨a4, r4, b4⟩⟩, ⟨⟨o, ob, ao, ro⟩, r5⟩, fw, fp, ft, fz⟩ := id fm
  rcases zin_or a nn (by omega) with ⟨-, h⟩ | ⟨t, ht, rfl⟩
  · exact L_q Z X (t_Tf_tin_o Z N h) (fun I' J' e _ => ⟨_, rfl, t_Mo_tin_o M (modIn_c N0 (e 150 (by decide))) h⟩)
  rcases zin_or b 5 (by omega) with ⟨-, h⟩ | ⟨j, hj, rfl⟩
  · exact L_q Z X (t_Tf_tin_b Z N ht h) (fun I' J' e _ => ⟨_, rfl, t_Mo_tin_b M (modIn_c N0 (e 150 (by decide))) ht h⟩)
  rcases (show j = 0 ∨ j = 1 ∨ j = 2 ∨ j = 3 ∨ j = 4 by omega) with rfl | rfl | rfl | rfl | rfl
  · exact L_q Z X (t_Tf_tin_0 Z N ht) (fun I' J' e _ => ⟨_, by rw [e 150 (by decide)]; obtain ⟨⟨k, -, k1, k2⟩, -⟩ := ft t ht; exact k2.trans k1.symm, t_Mo_tin_0 M (modIn_c N0 (e 150 (by decide))) ht⟩)
  · obtain ⟨-, ⟨h1, h2⟩, -⟩ := ft t ht
    rcases h1 with h1 | ⟨p, hp, h1⟩
    · exact L_q Z X (t_Tf_tin_1g Z N ht h1) (fun I' J' e _ => ⟨_, rfl, t_Mo_tin_1g M (modIn_c N0 (e 150 (by decide))) ht (by rw [e 150 (by decide)]; exact h2.trans h1)⟩)
    · exact L_q Z X (t_Tf_tin_1p Z N ht h1 hp) (fun I' J' e _ => ⟨_, rfl, t_Mo_tin_1p M (modIn_c N0 (e 150 (by decide))) ht (by rw [e 150 (by decide)]; exact h2.trans h1) hp⟩)
  · exact L_q Z X (t_Tf_tin_2 Z N ht) (fun I' J' e _ => ⟨_, by rw [e 150 (by decide)]; exact (ft t ht).2.2.1.trans (zb_i _ _), t_Mo_tin_2 M (modIn_c N0 (e 150 (by decide))) ht⟩)
  · exact L_q Z X (t_Tf_tin_3 Z N ht) (fun I' J' e _ => ⟨_, by rw [e 150 (by decide)]; exact (ft t ht).2.2.2.2.2.1.1, t_Mo_tin_3 M (modIn_c N0 (e 150 (by decide))) ht⟩)
  · exact L_q Z X (t_Tf_tin_4 Z N ht) (fun I' J' e _ => ⟨_, by rw [e 150 (by decide)]; exact (ft t ht).2.2.2.2.2.2, t_Mo_tin_4 M (modIn_c N0 (e 150 (by decide))) ht⟩)
theorem t_Tf_many_b (Z : clOk f d P S) (N : fenIn I f nt np nl nn) (hb : ¬ zin b 10) : zEi G y_Tf_many prog_1_method_13_code 2 (some .int) 4 [.ref 0, .int b] (I, J, P, S) (fun r w => r = -1 ∧ cW I J P S 5 w) := by
  obtain ⟨⟨c0, c3, c1s⟩, ⟨c5, c2s, ctr⟩, ⟨c6, c11s, c11, c13s⟩, ⟨c7, c15s, c15⟩, ⟨c8, c16s, c16a, c16b, c17s⟩, ⟨c9, c10, cfd, F, Fd⟩, ⟨c11b, Ft⟩, ⟨c12, c69s, cmk⟩, ⟨c14, c121s, c121, c122s⟩, ⟨c15b, c123s, c123, c124s⟩, ⟨c16, c125s, c125, c126s⟩, ⟨c17, c127s, c127, c128s, ctb⟩, ⟨c18, c139s, c139, c140s⟩, ⟨c19, c141s, ⟨c141a, c142s⟩, ⟨c141b, c143s⟩, ⟨c141c, c144s⟩⟩, M⟩ := id Z
  obtain ⟨F0, ⟨F8, F8s⟩, ⟨F9, F9s⟩, ⟨F10, F10s⟩, ⟨F11, F11s⟩, ⟨F12, F12s⟩, ⟨F13, F13s⟩, ⟨F14, F14s⟩, ⟨F15, F15s⟩, ⟨F16, F16s⟩, ⟨F17, F17s⟩, ⟨F18, F18s⟩, ⟨F19, F19s⟩, ⟨Y3, Y3s⟩, ⟨Y4, Y4s⟩, ⟨Y5, Y5s⟩, ⟨Y6, Y6s⟩⟩ := id F
  obtain ⟨⟨n1, n1b⟩, ⟨n2, n2b⟩, ⟨n3, n3b⟩, ⟨n4, n4b⟩, nof, non⟩ := id N
  have hbo : b.toInt < 0 ∨ (9 : Int) < b.toInt := by rw [zin_int (by decide)] at hb; omega
  refine zEi_of (lv := [some (.ref 0), some (.int b)]) (by decide) rfl (Nat.le_of_ble_eq_true rfl) ?_
  refine z_iload_1 d_Tf_many_0 ?_
  refine z_tableOut (tgt := 177) d_Tf_many_1 (hbo) (by decide) ?_
  refine z_aload_0 d_Tf_many_177 ?_
  refine z_iconst (a := nI 5) d_Tf_many_178 (by decide) ?_
  refine z_Vi1 d_Tf_many_179 k_Tf_138 (by first | assumption | exact zS0_at (by assumption) (by omega) | exact zS0_at rfl (by omega)) (t_Tf_fail (by assumption)) ⟨Nat.le_of_ble_eq_true rfl, Nat.le_of_ble_eq_true rfl, Nat.le_of_ble_eq_true rfl, Nat.le_of_ble_eq_true rfl⟩ (Nat.le_of_ble_eq_true rfl) ?_
  intro r w hq
  obtain ⟨rfl, rfl⟩ := hq
  refine z_reti d_Tf_many_182 ?_
  exact ⟨by first | rfl | assumption, cW_0⟩
theorem t_Mo_many_b (M : modOk P S) (N : modIn I nt np nl nn) (hb : ¬ zin b 10) : zEi G y_Mo_many prog_14_method_84_code 2 (some .int) 5 [.ref 145, .int b] (I, J, P, S) (fun r w => r = -1 ∧ mW I J P S 5 w) := by
  obtain ⟨M0, ⟨M4, M4s⟩, ⟨M5, M5s⟩, ⟨M6, M6s⟩, ⟨M7, M7s⟩, ⟨M20, M20s⟩, ⟨M21, M21s⟩, ⟨M22, M22s⟩, ⟨M26, M26s⟩, ⟨M27, M27s⟩, ⟨M28, M28s⟩, ⟨M30, M30s⟩, ⟨M34, M34s⟩, ⟨M36, M36s⟩, ⟨M37, M37s⟩⟩ := id M
  obtain ⟨I1, hI1, N1, h1, h0, e150, er, ek⟩ := mo_beg N
  obtain ⟨⟨m0, m0b⟩, ⟨m1, m1b⟩, ⟨m2, m2b⟩, ⟨m3, m3b⟩, mof, mon⟩ := id N1
  have hD : mD I I1 := ⟨h1, h0, e150, er⟩
  refine zEi_of (lv := [some (.ref 145), some (.int b)]) (by decide) rfl (Nat.le_of_ble_eq_true rfl) ?_
  refine z_aload_0 d_Mo_many_0 ?_
  refine z_iconst (a := nI 0) d_Mo_many_1 (by decide) ?_
  refine z_putI d_Mo_many_2 f_Mo_70 (by first | assumption | exact zS0_at (by assumption) (by omega) | exact zS0_at rfl (by omega)) ?_
  refine z_aload_0 d_Mo_many_5 ?_
  refine z_iconst (a := nI 0) d_Mo_many_6 (by decide) ?_
  refine z_putI d_Mo_many_7 f_Mo_73 (by first | assumption | exact zS0_at (by assumption) (by omega) | exact zS0_at rfl (by omega)) ?_
  rw [← hI1]
  refine z_iload_1 d_Mo_many_10 ?_
  refine z_i2l d_Mo_many_11 ?_
  refine z_lconst (f := lN 0) d_Mo_many_12 rfl ?_
  refine z_ldc2 d_Mo_many_13 c_Mo_325 ?_
  refine z_Si3 d_Mo_many_16 k_Mo_105 (t_Mo_isInZ (m := 10) (by decide) (by decide)) ⟨Nat.le_of_ble_eq_true rfl, Nat.le_of_ble_eq_true rfl, Nat.le_of_ble_eq_true rfl, Nat.le_of_ble_eq_true rfl⟩ (Nat.le_of_ble_eq_true rfl) ?_
  intro r w hq
  rcases hq with ⟨⟨hz16, rfl⟩ | ⟨hz16, rfl⟩, rfl⟩
  · first
    | contradiction
    | ( skip
        refine z_if_ne (tgt := 28) d_Mo_many_19 (by decide) (fun _ => ?_) (fun h => absurd h (by decide))
        contradiction)
  · first
    | contradiction
    | ( skip
        refine z_if_ne (tgt := 28) d_Mo_many_19 (by decide) (fun h => absurd h (by decide)) (fun _ => ?_)
        refine z_aload_0 d_Mo_many_22 ?_
        refine z_iconst (a := nI 5) d_Mo_many_23 (by decide) ?_
        refine z_Vi1 d_Mo_many_24 k_Mo_327 (by first | assumption | exact zS0_at (by assumption) (by omega) | exact zS0_at rfl (by omega)) (t_Mo_refuse (by assumption)) ⟨Nat.le_of_ble_eq_true rfl, Nat.le_of_ble_eq_true rfl, Nat.le_of_ble_eq_true rfl, Nat.le_of_ble_eq_true rfl⟩ (Nat.le_of_ble_eq_true rfl) ?_
        intro r w hq
        obtain ⟨rfl, rfl⟩ := hq
        refine z_reti d_Mo_many_27 ?_
        exact ⟨by first | rfl | assumption | (rw [e150]), _, _, rfl, (by repeat (first | exact h1 | refine mqF_z ?_ (by decide))), mqJ_r, (by first | exact zu_same _ _ _ _ | exact h0)⟩)
theorem t_Tf_many_0 (Z : clOk f d P S) (N : fenIn I f nt np nl nn) : zEi G y_Tf_many prog_1_method_13_code 2 (some .int) 4 [.ref 0, .int (nI 0)] (I, J, P, S) (fun r w => r = nI nt ∧ cW I J P S 0 w) := by
  obtain ⟨⟨c0, c3, c1s⟩, ⟨c5, c2s, ctr⟩, ⟨c6, c11s, c11, c13s⟩, ⟨c7, c15s, c15⟩, ⟨c8, c16s, c16a, c16b, c17s⟩, ⟨c9, c10, cfd, F, Fd⟩, ⟨c11b, Ft⟩, ⟨c12, c69s, cmk⟩, ⟨c14, c121s, c121, c122s⟩, ⟨c15b, c123s, c123, c124s⟩, ⟨c16, c125s, c125, c126s⟩, ⟨c17, c127s, c127, c128s, ctb⟩, ⟨c18, c139s, c139, c140s⟩, ⟨c19, c141s, ⟨c141a, c142s⟩, ⟨c141b, c143s⟩, ⟨c141c, c144s⟩⟩, M⟩ := id Z
  obtain ⟨F0, ⟨F8, F8s⟩, ⟨F9, F9s⟩, ⟨F10, F10s⟩, ⟨F11, F11s⟩, ⟨F12, F12s⟩, ⟨F13, F13s⟩, ⟨F14, F14s⟩, ⟨F15, F15s⟩, ⟨F16, F16s⟩, ⟨F17, F17s⟩, ⟨F18, F18s⟩, ⟨F19, F19s⟩, ⟨Y3, Y3s⟩, ⟨Y4, Y4s⟩, ⟨Y5, Y5s⟩, ⟨Y6, Y6s⟩⟩ := id F
  obtain ⟨⟨n1, n1b⟩, ⟨n2, n2b⟩, ⟨n3, n3b⟩, ⟨n4, n4b⟩, nof, non⟩ := id N
  refine zEi_of (lv := [some (.ref 0), some (.int (nI 0))]) (by decide) rfl (Nat.le_of_ble_eq_true rfl) ?_
  refine z_iload_1 d_Tf_many_0 ?_
  refine z_tableIn (off := 55) (tgt := 56) d_Tf_many_1 (by decide) (by decide) (by decide) (by decide) ?_
  refine z_aload_0 d_Tf_many_56 ?_
  refine z_aload_0 d_Tf_many_57 ?_
  refine z_getR d_Tf_many_58 f_Tf_60 (by first | assumption | exact zS0_at (by assumption) (by omega) | exact zS0_at rfl (by omega)) (by first | assumption | exact zS0_at (by assumption) (by omega) | exact zS0_at rfl (by omega)) ?_
  refine z_getIv d_Tf_many_61 f_Tf_199 (by first | assumption | exact zS0_at (by assumption) (by omega) | exact zS0_at rfl (by omega)) (by first | assumption | ((try simp (disch := omega) only [zu_same, zu_ne, zcp_ne, zfl_ne]); first | assumption | rfl)) ?_
  refine z_Vi1 d_Tf_many_64 k_Tf_174 (by first | assumption | exact zS0_at (by assumption) (by omega) | exact zS0_at rfl (by omega)) (t_Tf_give (by assumption)) ⟨Nat.le_of_ble_eq_true rfl, Nat.le_of_ble_eq_true rfl, Nat.le_of_ble_eq_true rfl, Nat.le_of_ble_eq_true rfl⟩ (Nat.le_of_ble_eq_true rfl) ?_
  intro r w hq
  obtain ⟨rfl, rfl⟩ := hq
  refine z_reti d_Tf_many_67 ?_
  exact ⟨by first | rfl | assumption, cW_0⟩
theorem t_Mo_many_0 (M : modOk P S) (N : modIn I nt np nl nn) : zEi G y_Mo_many prog_14_method_84_code 2 (some .int) 5 [.ref 145, .int (nI 0)] (I, J, P, S) (fun r w => r = nI nt ∧ mW I J P S 0 w) := by
  obtain ⟨M0, ⟨M4, M4s⟩, ⟨M5, M5s⟩, ⟨M6, M6s⟩, ⟨M7, M7s⟩, ⟨M20, M20s⟩, ⟨M21, M21s⟩, ⟨M22, M22s⟩, ⟨M26, M26s⟩, ⟨M27, M27s⟩, ⟨M28, M28s⟩, ⟨M30, M30s⟩, ⟨M34, M34s⟩, ⟨M36, M36s⟩, ⟨M37, M37s⟩⟩ := id M
  obtain ⟨I1, hI1, N1, h1, h0, e150, er, ek⟩ := mo_beg N
  obtain ⟨⟨m0, m0b⟩, ⟨m1, m1b⟩, ⟨m2, m2b⟩, ⟨m3, m3b⟩, mof, mon⟩ := id N1
  have hD : mD I I1 := ⟨h1, h0, e150, er⟩
  refine zEi_of (lv := [some (.ref 145), some (.int (nI 0))]) (by decide) rfl (Nat.le_of_ble_eq_true rfl) ?_
  refine z_aload_0 d_Mo_many_0 ?_
  refine z_iconst (a := nI 0) d_Mo_many_1 (by decide) ?_
  refine z_putI d_Mo_many_2 f_Mo_70 (by first | assumption | exact zS0_at (by assumption) (by omega) | exact zS0_at rfl (by omega)) ?_
  refine z_aload_0 d_Mo_many_5 ?_
  refine z_iconst (a := nI 0) d_Mo_many_6 (by decide) ?_
  refine z_putI d_Mo_many_7 f_Mo_73 (by first | assumption | exact zS0_at (by assumption) (by omega) | exact zS0_at rfl (by omega)) ?_
  rw [← hI1]
  have hzb : zin (nI 0) 10 := ⟨0, by decide, rfl⟩
  refine z_iload_1 d_Mo_many_10 ?_
  refine z_i2l d_Mo_many_11 ?_
  refine z_lconst (f := lN 0) d_Mo_many_12 rfl ?_
  refine z_ldc2 d_Mo_many_13 c_Mo_325 ?_
  refine z_Si3 d_Mo_many_16 k_Mo_105 (t_Mo_isInZ (m := 10) (by decide) (by decide)) ⟨Nat.le_of_ble_eq_true rfl, Nat.le_of_ble_eq_true rfl, Nat.le_of_ble_eq_true rfl, Nat.le_of_ble_eq_true rfl⟩ (Nat.le_of_ble_eq_true rfl) ?_
  intro r w hq
  rcases hq with ⟨⟨hz16, rfl⟩ | ⟨hz16, rfl⟩, rfl⟩
  · first
    | contradiction
    | ( skip
        refine z_if_ne (tgt := 28) d_Mo_many_19 (by decide) (fun _ => ?_) (fun h => absurd h (by decide))
        refine z_iload_1 d_Mo_many_28 ?_
        refine z_bipush (a := nI 6) d_Mo_many_29 (by decide) ?_
        refine z_icmp_ge (tgt := 43) d_Mo_many_31 (by decide) (fun h31 => ?_) (fun h31 => ?_)
        · first
          | (simp (disch := omega) only [← nI_0, nI_leI, nI_ltI, nI_eq, not_true_eq_false, not_false_eq_true] at h31; done)
          | (simp (disch := omega) only [← nI_0, nI_leI, nI_ltI, nI_eq, not_true_eq_false, not_false_eq_true] at h31; omega)
          | contradiction
          | exact absurd h31 (Int32.not_lt.mpr (by assumption))
          | exact absurd h31 (Int32.not_le.mpr (by assumption))
          | exact absurd h31 (by decide)
          | exact absurd (by decide) h31
          | ( try simp (disch := omega) only [← nI_0, nI_leI, nI_ltI, nI_eq, not_true_eq_false, not_false_eq_true] at h31
              (try have h31b := zbit_n0.mp h31); (try have h31b := zbit_p0.mp h31)
              refine z_iload_1 d_Mo_many_43 ?_
              refine z_bipush (a := nI 9) d_Mo_many_44 (by decide) ?_
              refine z_icmp_ge (tgt := 60) d_Mo_many_46 (by decide) (fun h46 => ?_) (fun h46 => ?_)
              · first
                | (simp (disch := omega) only [← nI_0, nI_leI, nI_ltI, nI_eq, not_true_eq_false, not_false_eq_true] at h46; done)
                | (simp (disch := omega) only [← nI_0, nI_leI, nI_ltI, nI_eq, not_true_eq_false, not_false_eq_true] at h46; omega)
                | contradiction
                | exact absurd h46 (Int32.not_lt.mpr (by assumption))
                | exact absurd h46 (Int32.not_le.mpr (by assumption))
                | exact absurd h46 (by decide)
                | exact absurd (by decide) h46
                | ( try simp (disch := omega) only [← nI_0, nI_leI, nI_ltI, nI_eq, not_true_eq_false, not_false_eq_true] at h46
                    (try have h46b := zbit_n0.mp h46); (try have h46b := zbit_p0.mp h46)
                    refine z_aload_0 d_Mo_many_60 ?_
                    fail)
              · first
                | (simp (disch := omega) only [← nI_0, nI_leI, nI_ltI, nI_eq, not_true_eq_false, not_false_eq_true] at h46; done)
                | (simp (disch := omega) only [← nI_0, nI_leI, nI_ltI, nI_eq, not_true_eq_false, not_false_eq_true] at h46; omega)
                | contradiction
                | exact absurd h46 (Int32.not_lt.mpr (by assumption))
                | exact absurd h46 (Int32.not_le.mpr (by assumption))
                | exact absurd h46 (by decide)
                | exact absurd (by decide) h46
                | ( try simp (disch := omega) only [← nI_0, nI_leI, nI_ltI, nI_eq, not_true_eq_false, not_false_eq_true] at h46
                    (try have h46b := zbit_n0.mp h46); (try have h46b := zbit_p0.mp h46)
                    refine z_aload_0 d_Mo_many_49 ?_
                    refine z_iload_1 d_Mo_many_50 ?_
                    refine z_bipush (a := nI 6) d_Mo_many_51 (by decide) ?_
                    first | refine z_isubN d_Mo_many_53 (by omega) ?_ | refine z_isub d_Mo_many_53 ?_
                    fail))
        · first
          | (simp (disch := omega) only [← nI_0, nI_leI, nI_ltI, nI_eq, not_true_eq_false, not_false_eq_true] at h31; done)
          | (simp (disch := omega) only [← nI_0, nI_leI, nI_ltI, nI_eq, not_true_eq_false, not_false_eq_true] at h31; omega)
          | contradiction
          | exact absurd h31 (Int32.not_lt.mpr (by assumption))
          | exact absurd h31 (Int32.not_le.mpr (by assumption))
          | exact absurd h31 (by decide)
          | exact absurd (by decide) h31
          | ( try simp (disch := omega) only [← nI_0, nI_leI, nI_ltI, nI_eq, not_true_eq_false, not_false_eq_true] at h31
              (try have h31b := zbit_n0.mp h31); (try have h31b := zbit_p0.mp h31)
              refine z_aload_0 d_Mo_many_34 ?_
              refine z_getR d_Mo_many_35 f_Mo_35 (by first | assumption | exact zS0_at (by assumption) (by omega) | exact zS0_at rfl (by omega)) (by first | assumption | exact zS0_at (by assumption) (by omega) | exact zS0_at rfl (by omega)) ?_
              refine z_iload_1 d_Mo_many_38 ?_
              first | refine z_ialdNv d_Mo_many_39 (by first | assumption | exact zS0_at (by assumption) (by omega) | exact zS0_at rfl (by omega)) (by omega) (by first | decide | omega) (by first | assumption | ((try simp (disch := omega) only [zu_same, zu_ne, zcp_ne, zfl_ne]); first | assumption | rfl)) ?_ | refine z_iald d_Mo_many_39 (by first | assumption | exact zS0_at (by assumption) (by omega) | exact zS0_at rfl (by omega)) (by first | assumption | exact zS0_at (by assumption) (by omega) | exact zS0_at rfl (by omega)) ?_
              refine z_goto (tgt := 64) d_Mo_many_40 (by decide) ?_
              refine z_reti d_Mo_many_64 ?_
              exact ⟨by first | rfl | assumption | (rw [e150]), _, _, rfl, (by repeat (first | exact h1 | refine mqF_z ?_ (by decide))), mqJ_r, (by first | exact zu_same _ _ _ _ | exact h0)⟩))
  · first
    | contradiction
    | ( skip
        refine z_if_ne (tgt := 28) d_Mo_many_19 (by decide) (fun h => absurd h (by decide)) (fun _ => ?_)
        refine z_aload_0 d_Mo_many_22 ?_
        refine z_iconst (a := nI 5) d_Mo_many_23 (by decide) ?_
        refine z_Vi1 d_Mo_many_24 k_Mo_327 (by first | assumption | exact zS0_at (by assumption) (by omega) | exact zS0_at rfl (by omega)) (t_Mo_refuse (by assumption)) ⟨Nat.le_of_ble_eq_true rfl, Nat.le_of_ble_eq_true rfl, Nat.le_of_ble_eq_true rfl, Nat.le_of_ble_eq_true rfl⟩ (Nat.le_of_ble_eq_true rfl) ?_
        intro r w hq
        obtain ⟨rfl, rfl⟩ := hq
        refine z_reti d_Mo_many_27 ?_
        exact ⟨by first | rfl | assumption | (rw [e150]), _, _, rfl, (by repeat (first | exact h1 | refine mqF_z ?_ (by decide))), mqJ_r, (by first | exact zu_same _ _ _ _ | exact h0)⟩)
theorem t_Tf_many_1 (Z : clOk f d P S) (N : fenIn I f nt np nl nn) : zEi G y_Tf_many prog_1_method_13_code 2 (some .int) 4 [.ref 0, .int (nI 1)] (I, J, P, S) (fun r w => r = nI np ∧ cW I J P S 0 w) := by
  obtain ⟨⟨c0, c3, c1s⟩, ⟨c5, c2s, ctr⟩, ⟨c6, c11s, c11, c13s⟩, ⟨c7, c15s, c15⟩, ⟨c8, c16s, c16a, c16b, c17s⟩, ⟨c9, c10, cfd, F, Fd⟩, ⟨c11b, Ft⟩, ⟨c12, c69s, cmk⟩, ⟨c14, c121s, c121, c122s⟩, ⟨c15b, c123s, c123, c124s⟩, ⟨c16, c125s, c125, c126s⟩, ⟨c17, c127s, c127, c128s, ctb⟩, ⟨c18, c139s, c139, c140s⟩, ⟨c19, c141s, ⟨c141a, c142s⟩, ⟨c141b, c143s⟩, ⟨c141c, c144s⟩⟩, M⟩ := id Z
  obtain ⟨F0, ⟨F8, F8s⟩, ⟨F9, F9s⟩, ⟨F10, F10s⟩, ⟨F11, F11s⟩, ⟨F12, F12s⟩, ⟨F13, F13s⟩, ⟨F14, F14s⟩, ⟨F15, F15s⟩, ⟨F16, F16s⟩, ⟨F17, F17s⟩, ⟨F18, F18s⟩, ⟨F19, F19s⟩, ⟨Y3, Y3s⟩, ⟨Y4, Y4s⟩, ⟨Y5, Y5s⟩, ⟨Y6, Y6s⟩⟩ := id F
  obtain ⟨⟨n1, n1b⟩, ⟨n2, n2b⟩, ⟨n3, n3b⟩, ⟨n4, n4b⟩, nof, non⟩ := id N
  refine zEi_of (lv := [some (.ref 0), some (.int (nI 1))]) (by decide) rfl (Nat.le_of_ble_eq_true rfl) ?_
  refine z_iload_1 d_Tf_many_0 ?_
  refine z_tableIn (off := 67) (tgt := 68) d_Tf_many_1 (by decide) (by decide) (by decide) (by decide) ?_
  refine z_aload_0 d_Tf_many_68 ?_
  refine z_aload_0 d_Tf_many_69 ?_
  refine z_getR d_Tf_many_70 f_Tf_60 (by first | assumption | exact zS0_at (by assumption) (by omega) | exact zS0_at rfl (by omega)) (by first | assumption | exact zS0_at (by assumption) (by omega) | exact zS0_at rfl (by omega)) ?_
  refine z_getIv d_Tf_many_73 f_Tf_202 (by first | assumption | exact zS0_at (by assumption) (by omega) | exact zS0_at rfl (by omega)) (by first | assumption | ((try simp (disch := omega) only [zu_same, zu_ne, zcp_ne, zfl_ne]); first | assumption | rfl)) ?_
  refine z_Vi1 d_Tf_many_76 k_Tf_174 (by first | assumption | exact zS0_at (by assumption) (by omega) | exact zS0_at rfl (by omega)) (t_Tf_give (by assumption)) ⟨Nat.le_of_ble_eq_true rfl, Nat.le_of_ble_eq_true rfl, Nat.le_of_ble_eq_true rfl, Nat.le_of_ble_eq_true rfl⟩ (Nat.le_of_ble_eq_true rfl) ?_
  intro r w hq
  obtain ⟨rfl, rfl⟩ := hq
  refine z_reti d_Tf_many_79 ?_
  exact ⟨by first | rfl | assumption, cW_0⟩
theorem t_Mo_many_1 (M : modOk P S) (N : modIn I nt np nl nn) : zEi G y_Mo_many prog_14_method_84_code 2 (some .int) 5 [.ref 145, .int (nI 1)] (I, J, P, S) (fun r w => r = nI np ∧ mW I J P S 0 w) := by
  obtain ⟨M0, ⟨M4, M4s⟩, ⟨M5, M5s⟩, ⟨M6, M6s⟩, ⟨M7, M7s⟩, ⟨M20, M20s⟩, ⟨M21, M21s⟩, ⟨M22, M22s⟩, ⟨M26, M26s⟩, ⟨M27, M27s⟩, ⟨M28, M28s⟩, ⟨M30, M30s⟩, ⟨M34, M34s⟩, ⟨M36, M36s⟩, ⟨M37, M37s⟩⟩ := id M
  obtain ⟨I1, hI1, N1, h1, h0, e150, er, ek⟩ := mo_beg N
  obtain ⟨⟨m0, m0b⟩, ⟨m1, m1b⟩, ⟨m2, m2b⟩, ⟨m3, m3b⟩, mof, mon⟩ := id N1
  have hD : mD I I1 := ⟨h1, h0, e150, er⟩
  refine zEi_of (lv := [some (.ref 145), some (.int (nI 1))]) (by decide) rfl (Nat.le_of_ble_eq_true rfl) ?_
  refine z_aload_0 d_Mo_many_0 ?_
  refine z_iconst (a := nI 0) d_Mo_many_1 (by decide) ?_
  refine z_putI d_Mo_many_2 f_Mo_70 (by first | assumption | exact zS0_at (by assumption) (by omega) | exact zS0_at rfl (by omega)) ?_
  refine z_aload_0 d_Mo_many_5 ?_
  refine z_iconst (a := nI 0) d_Mo_many_6 (by decide) ?_
  refine z_putI d_Mo_many_7 f_Mo_73 (by first | assumption | exact zS0_at (by assumption) (by omega) | exact zS0_at rfl (by omega)) ?_
  rw [← hI1]
  have hzb : zin (nI 1) 10 := ⟨1, by decide, rfl⟩
  refine z_iload_1 d_Mo_many_10 ?_
  refine z_i2l d_Mo_many_11 ?_
  refine z_lconst (f := lN 0) d_Mo_many_12 rfl ?_
  refine z_ldc2 d_Mo_many_13 c_Mo_325 ?_
  refine z_Si3 d_Mo_many_16 k_Mo_105 (t_Mo_isInZ (m := 10) (by decide) (by decide)) ⟨Nat.le_of_ble_eq_true rfl, Nat.le_of_ble_eq_true rfl, Nat.le_of_ble_eq_true rfl, Nat.le_of_ble_eq_true rfl⟩ (Nat.le_of_ble_eq_true rfl) ?_
  intro r w hq
  rcases hq with ⟨⟨hz16, rfl⟩ | ⟨hz16, rfl⟩, rfl⟩
  · first
    | contradiction
    | ( skip
        refine z_if_ne (tgt := 28) d_Mo_many_19 (by decide) (fun _ => ?_) (fun h => absurd h (by decide))
        refine z_iload_1 d_Mo_many_28 ?_
        refine z_bipush (a := nI 6) d_Mo_many_29 (by decide) ?_
        refine z_icmp_ge (tgt := 43) d_Mo_many_31 (by decide) (fun h31 => ?_) (fun h31 => ?_)
        · first
          | (simp (disch := omega) only [← nI_0, nI_leI, nI_ltI, nI_eq, not_true_eq_false, not_false_eq_true] at h31; done)
          | (simp (disch := omega) only [← nI_0, nI_leI, nI_ltI, nI_eq, not_true_eq_false, not_false_eq_true] at h31; omega)
          | contradiction
          | exact absurd h31 (Int32.not_lt.mpr (by assumption))
          | exact absurd h31 (Int32.not_le.mpr (by assumption))
          | exact absurd h31 (by decide)
          | exact absurd (by decide) h31
          | ( try simp (disch := omega) only [← nI_0, nI_leI, nI_ltI, nI_eq, not_true_eq_false, not_false_eq_true] at h31
              (try have h31b := zbit_n0.mp h31); (try have h31b := zbit_p0.mp h31)
              refine z_iload_1 d_Mo_many_43 ?_
              refine z_bipush (a := nI 9) d_Mo_many_44 (by decide) ?_
              refine z_icmp_ge (tgt := 60) d_Mo_many_46 (by decide) (fun h46 => ?_) (fun h46 => ?_)
              · first
                | (simp (disch := omega) only [← nI_0, nI_leI, nI_ltI, nI_eq, not_true_eq_false, not_false_eq_true] at h46; done)
                | (simp (disch := omega) only [← nI_0, nI_leI, nI_ltI, nI_eq, not_true_eq_false, not_false_eq_true] at h46; omega)
                | contradiction
                | exact absurd h46 (Int32.not_lt.mpr (by assumption))
                | exact absurd h46 (Int32.not_le.mpr (by assumption))
                | exact absurd h46 (by decide)
                | exact absurd (by decide) h46
                | ( try simp (disch := omega) only [← nI_0, nI_leI, nI_ltI, nI_eq, not_true_eq_false, not_false_eq_true] at h46
                    (try have h46b := zbit_n0.mp h46); (try have h46b := zbit_p0.mp h46)
                    refine z_aload_0 d_Mo_many_60 ?_
                    fail)
              · first
                | (simp (disch := omega) only [← nI_0, nI_leI, nI_ltI, nI_eq, not_true_eq_false, not_false_eq_true] at h46; done)
                | (simp (disch := omega) only [← nI_0, nI_leI, nI_ltI, nI_eq, not_true_eq_false, not_false_eq_true] at h46; omega)
                | contradiction
                | exact absurd h46 (Int32.not_lt.mpr (by assumption))
                | exact absurd h46 (Int32.not_le.mpr (by assumption))
                | exact absurd h46 (by decide)
                | exact absurd (by decide) h46
                | ( try simp (disch := omega) only [← nI_0, nI_leI, nI_ltI, nI_eq, not_true_eq_false, not_false_eq_true] at h46
                    (try have h46b := zbit_n0.mp h46); (try have h46b := zbit_p0.mp h46)
                    refine z_aload_0 d_Mo_many_49 ?_
                    refine z_iload_1 d_Mo_many_50 ?_
                    refine z_bipush (a := nI 6) d_Mo_many_51 (by decide) ?_
                    first | refine z_isubN d_Mo_many_53 (by omega) ?_ | refine z_isub d_Mo_many_53 ?_
                    fail))
        · first
          | (simp (disch := omega) only [← nI_0, nI_leI, nI_ltI, nI_eq, not_true_eq_false, not_false_eq_true] at h31; done)
          | (simp (disch := omega) only [← nI_0, nI_leI, nI_ltI, nI_eq, not_true_eq_false, not_false_eq_true] at h31; omega)
          | contradiction
          | exact absurd h31 (Int32.not_lt.mpr (by assumption))
          | exact absurd h31 (Int32.not_le.mpr (by assumption))
          | exact absurd h31 (by decide)
          | exact absurd (by decide) h31
          | ( try simp (disch := omega) only [← nI_0, nI_leI, nI_ltI, nI_eq, not_true_eq_false, not_false_eq_true] at h31
              (try have h31b := zbit_n0.mp h31); (try have h31b := zbit_p0.mp h31)
              refine z_aload_0 d_Mo_many_34 ?_
              refine z_getR d_Mo_many_35 f_Mo_35 (by first | assumption | exact zS0_at (by assumption) (by omega) | exact zS0_at rfl (by omega)) (by first | assumption | exact zS0_at (by assumption) (by omega) | exact zS0_at rfl (by omega)) ?_
              refine z_iload_1 d_Mo_many_38 ?_
              first | refine z_ialdNv d_Mo_many_39 (by first | assumption | exact zS0_at (by assumption) (by omega) | exact zS0_at rfl (by omega)) (by omega) (by first | decide | omega) (by first | assumption | ((try simp (disch := omega) only [zu_same, zu_ne, zcp_ne, zfl_ne]); first | assumption | rfl)) ?_ | refine z_iald d_Mo_many_39 (by first | assumption | exact zS0_at (by assumption) (by omega) | exact zS0_at rfl (by omega)) (by first | assumption | exact zS0_at (by assumption) (by omega) | exact zS0_at rfl (by omega)) ?_
              refine z_goto (tgt := 64) d_Mo_many_40 (by decide) ?_
              refine z_reti d_Mo_many_64 ?_
              exact ⟨by first | rfl | assumption | (rw [e150]), _, _, rfl, (by repeat (first | exact h1 | refine mqF_z ?_ (by decide))), mqJ_r, (by first | exact zu_same _ _ _ _ | exact h0)⟩))
  · first
    | contradiction
    | ( skip
        refine z_if_ne (tgt := 28) d_Mo_many_19 (by decide) (fun h => absurd h (by decide)) (fun _ => ?_)
        refine z_aload_0 d_Mo_many_22 ?_
        refine z_iconst (a := nI 5) d_Mo_many_23 (by decide) ?_
        refine z_Vi1 d_Mo_many_24 k_Mo_327 (by first | assumption | exact zS0_at (by assumption) (by omega) | exact zS0_at rfl (by omega)) (t_Mo_refuse (by assumption)) ⟨Nat.le_of_ble_eq_true rfl, Nat.le_of_ble_eq_true rfl, Nat.le_of_ble_eq_true rfl, Nat.le_of_ble_eq_true rfl⟩ (Nat.le_of_ble_eq_true rfl) ?_
        intro r w hq
        obtain ⟨rfl, rfl⟩ := hq
        refine z_reti d_Mo_many_27 ?_
        exact ⟨by first | rfl | assumption | (rw [e150]), _, _, rfl, (by repeat (first | exact h1 | refine mqF_z ?_ (by decide))), mqJ_r, (by first | exact zu_same _ _ _ _ | exact h0)⟩)
theorem t_Tf_many_2 (Z : clOk f d P S) (N : fenIn I f nt np nl nn) : zEi G y_Tf_many prog_1_method_13_code 2 (some .int) 4 [.ref 0, .int (nI 2)] (I, J, P, S) (fun r w => r = nI nl ∧ cW I J P S 0 w) := by
  obtain ⟨⟨c0, c3, c1s⟩, ⟨c5, c2s, ctr⟩, ⟨c6, c11s, c11, c13s⟩, ⟨c7, c15s, c15⟩, ⟨c8, c16s, c16a, c16b, c17s⟩, ⟨c9, c10, cfd, F, Fd⟩, ⟨c11b, Ft⟩, ⟨c12, c69s, cmk⟩, ⟨c14, c121s, c121, c122s⟩, ⟨c15b, c123s, c123, c124s⟩, ⟨c16, c125s, c125, c126s⟩, ⟨c17, c127s, c127, c128s, ctb⟩, ⟨c18, c139s, c139, c140s⟩, ⟨c19, c141s, ⟨c141a, c142s⟩, ⟨c141b, c143s⟩, ⟨c141c, c144s⟩⟩, M⟩ := id Z
  obtain ⟨F0, ⟨F8, F8s⟩, ⟨F9, F9s⟩, ⟨F10, F10s⟩, ⟨F11, F11s⟩, ⟨F12, F12s⟩, ⟨F13, F13s⟩, ⟨F14, F14s⟩, ⟨F15, F15s⟩, ⟨F16, F16s⟩, ⟨F17, F17s⟩, ⟨F18, F18s⟩, ⟨F19, F19s⟩, ⟨Y3, Y3s⟩, ⟨Y4, Y4s⟩, ⟨Y5, Y5s⟩, ⟨Y6, Y6s⟩⟩ := id F
  obtain ⟨⟨n1, n1b⟩, ⟨n2, n2b⟩, ⟨n3, n3b⟩, ⟨n4, n4b⟩, nof, non⟩ := id N
  refine zEi_of (lv := [some (.ref 0), some (.int (nI 2))]) (by decide) rfl (Nat.le_of_ble_eq_true rfl) ?_
  refine z_iload_1 d_Tf_many_0 ?_
  refine z_tableIn (off := 79) (tgt := 80) d_Tf_many_1 (by decide) (by decide) (by decide) (by decide) ?_
  refine z_aload_0 d_Tf_many_80 ?_
  refine z_aload_0 d_Tf_many_81 ?_
  refine z_getR d_Tf_many_82 f_Tf_60 (by first | assumption | exact zS0_at (by assumption) (by omega) | exact zS0_at rfl (by omega)) (by first | assumption | exact zS0_at (by assumption) (by omega) | exact zS0_at rfl (by omega)) ?_
  refine z_getIv d_Tf_many_85 f_Tf_205 (by first | assumption | exact zS0_at (by assumption) (by omega) | exact zS0_at rfl (by omega)) (by first | assumption | ((try simp (disch := omega) only [zu_same, zu_ne, zcp_ne, zfl_ne]); first | assumption | rfl)) ?_
  refine z_Vi1 d_Tf_many_88 k_Tf_174 (by first | assumption | exact zS0_at (by assumption) (by omega) | exact zS0_at rfl (by omega)) (t_Tf_give (by assumption)) ⟨Nat.le_of_ble_eq_true rfl, Nat.le_of_ble_eq_true rfl, Nat.le_of_ble_eq_true rfl, Nat.le_of_ble_eq_true rfl⟩ (Nat.le_of_ble_eq_true rfl) ?_
  intro r w hq
  obtain ⟨rfl, rfl⟩ := hq
  refine z_reti d_Tf_many_91 ?_
  exact ⟨by first | rfl | assumption, cW_0⟩
theorem t_Mo_many_2 (M : modOk P S) (N : modIn I nt np nl nn) : zEi G y_Mo_many prog_14_method_84_code 2 (some .int) 5 [.ref 145, .int (nI 2)] (I, J, P, S) (fun r w => r = nI nl ∧ mW I J P S 0 w) := by
  obtain ⟨M0, ⟨M4, M4s⟩, ⟨M5, M5s⟩, ⟨M6, M6s⟩, ⟨M7, M7s⟩, ⟨M20, M20s⟩, ⟨M21, M21s⟩, ⟨M22, M22s⟩, ⟨M26, M26s⟩, ⟨M27, M27s⟩, ⟨M28, M28s⟩, ⟨M30, M30s⟩, ⟨M34, M34s⟩, ⟨M36, M36s⟩, ⟨M37, M37s⟩⟩ := id M
  obtain ⟨I1, hI1, N1, h1, h0, e150, er, ek⟩ := mo_beg N
  obtain ⟨⟨m0, m0b⟩, ⟨m1, m1b⟩, ⟨m2, m2b⟩, ⟨m3, m3b⟩, mof, mon⟩ := id N1
  have hD : mD I I1 := ⟨h1, h0, e150, er⟩
  refine zEi_of (lv := [some (.ref 145), some (.int (nI 2))]) (by decide) rfl (Nat.le_of_ble_eq_true rfl) ?_
  refine z_aload_0 d_Mo_many_0 ?_
  refine z_iconst (a := nI 0) d_Mo_many_1 (by decide) ?_
  refine z_putI d_Mo_many_2 f_Mo_70 (by first | assumption | exact zS0_at (by assumption) (by omega) | exact zS0_at rfl (by omega)) ?_
  refine z_aload_0 d_Mo_many_5 ?_
  refine z_iconst (a := nI 0) d_Mo_many_6 (by decide) ?_
  refine z_putI d_Mo_many_7 f_Mo_73 (by first | assumption | exact zS0_at (by assumption) (by omega) | exact zS0_at rfl (by omega)) ?_
  rw [← hI1]
  have hzb : zin (nI 2) 10 := ⟨2, by decide, rfl⟩
  refine z_iload_1 d_Mo_many_10 ?_
  refine z_i2l d_Mo_many_11 ?_
  refine z_lconst (f := lN 0) d_Mo_many_12 rfl ?_
  refine z_ldc2 d_Mo_many_13 c_Mo_325 ?_
  refine z_Si3 d_Mo_many_16 k_Mo_105 (t_Mo_isInZ (m := 10) (by decide) (by decide)) ⟨Nat.le_of_ble_eq_true rfl, Nat.le_of_ble_eq_true rfl, Nat.le_of_ble_eq_true rfl, Nat.le_of_ble_eq_true rfl⟩ (Nat.le_of_ble_eq_true rfl) ?_
  intro r w hq
  rcases hq with ⟨⟨hz16, rfl⟩ | ⟨hz16, rfl⟩, rfl⟩
  · first
    | contradiction
    | ( skip
        refine z_if_ne (tgt := 28) d_Mo_many_19 (by decide) (fun _ => ?_) (fun h => absurd h (by decide))
        refine z_iload_1 d_Mo_many_28 ?_
        refine z_bipush (a := nI 6) d_Mo_many_29 (by decide) ?_
        refine z_icmp_ge (tgt := 43) d_Mo_many_31 (by decide) (fun h31 => ?_) (fun h31 => ?_)
        · first
          | (simp (disch := omega) only [← nI_0, nI_leI, nI_ltI, nI_eq, not_true_eq_false, not_false_eq_true] at h31; done)
          | (simp (disch := omega) only [← nI_0, nI_leI, nI_ltI, nI_eq, not_true_eq_false, not_false_eq_true] at h31; omega)
          | contradiction
          | exact absurd h31 (Int32.not_lt.mpr (by assumption))
          | exact absurd h31 (Int32.not_le.mpr (by assumption))
          | exact absurd h31 (by decide)
          | exact absurd (by decide) h31
          | ( try simp (disch := omega) only [← nI_0, nI_leI, nI_ltI, nI_eq, not_true_eq_false, not_false_eq_true] at h31
              (try have h31b := zbit_n0.mp h31); (try have h31b := zbit_p0.mp h31)
              refine z_iload_1 d_Mo_many_43 ?_
              refine z_bipush (a := nI 9) d_Mo_many_44 (by decide) ?_
              refine z_icmp_ge (tgt := 60) d_Mo_many_46 (by decide) (fun h46 => ?_) (fun h46 => ?_)
              · first
                | (simp (disch := omega) only [← nI_0, nI_leI, nI_ltI, nI_eq, not_true_eq_false, not_false_eq_true] at h46; done)
                | (simp (disch := omega) only [← nI_0, nI_leI, nI_ltI, nI_eq, not_true_eq_false, not_false_eq_true] at h46; omega)
                | contradiction
                | exact absurd h46 (Int32.not_lt.mpr (by assumption))
                | exact absurd h46 (Int32.not_le.mpr (by assumption))
                | exact absurd h46 (by decide)
                | exact absurd (by decide) h46
                | ( try simp (disch := omega) only [← nI_0, nI_leI, nI_ltI, nI_eq, not_true_eq_false, not_false_eq_true] at h46
                    (try have h46b := zbit_n0.mp h46); (try have h46b := zbit_p0.mp h46)
                    refine z_aload_0 d_Mo_many_60 ?_
                    fail)
              · first
                | (simp (disch := omega) only [← nI_0, nI_leI, nI_ltI, nI_eq, not_true_eq_false, not_false_eq_true] at h46; done)
                | (simp (disch := omega) only [← nI_0, nI_leI, nI_ltI, nI_eq, not_true_eq_false, not_false_eq_true] at h46; omega)
                | contradiction
                | exact absurd h46 (Int32.not_lt.mpr (by assumption))
                | exact absurd h46 (Int32.not_le.mpr (by assumption))
                | exact absurd h46 (by decide)
                | exact absurd (by decide) h46
                | ( try simp (disch := omega) only [← nI_0, nI_leI, nI_ltI, nI_eq, not_true_eq_false, not_false_eq_true] at h46
                    (try have h46b := zbit_n0.mp h46); (try have h46b := zbit_p0.mp h46)
                    refine z_aload_0 d_Mo_many_49 ?_
                    refine z_iload_1 d_Mo_many_50 ?_
                    refine z_bipush (a := nI 6) d_Mo_many_51 (by decide) ?_
                    first | refine z_isubN d_Mo_many_53 (by omega) ?_ | refine z_isub d_Mo_many_53 ?_
                    fail))
        · first
          | (simp (disch := omega) only [← nI_0, nI_leI, nI_ltI, nI_eq, not_true_eq_false, not_false_eq_true] at h31; done)
          | (simp (disch := omega) only [← nI_0, nI_leI, nI_ltI, nI_eq, not_true_eq_false, not_false_eq_true] at h31; omega)
          | contradiction
          | exact absurd h31 (Int32.not_lt.mpr (by assumption))
          | exact absurd h31 (Int32.not_le.mpr (by assumption))
          | exact absurd h31 (by decide)
          | exact absurd (by decide) h31
          | ( try simp (disch := omega) only [← nI_0, nI_leI, nI_ltI, nI_eq, not_true_eq_false, not_false_eq_true] at h31
              (try have h31b := zbit_n0.mp h31); (try have h31b := zbit_p0.mp h31)
              refine z_aload_0 d_Mo_many_34 ?_
              refine z_getR d_Mo_many_35 f_Mo_35 (by first | assumption | exact zS0_at (by assumption) (by omega) | exact zS0_at rfl (by omega)) (by first | assumption | exact zS0_at (by assumption) (by omega) | exact zS0_at rfl (by omega)) ?_
              refine z_iload_1 d_Mo_many_38 ?_
              first | refine z_ialdNv d_Mo_many_39 (by first | assumption | exact zS0_at (by assumption) (by omega) | exact zS0_at rfl (by omega)) (by omega) (by first | decide | omega) (by first | assumption | ((try simp (disch := omega) only [zu_same, zu_ne, zcp_ne, zfl_ne]); first | assumption | rfl)) ?_ | refine z_iald d_Mo_many_39 (by first | assumption | exact zS0_at (by assumption) (by omega) | exact zS0_at rfl (by omega)) (by first | assumption | exact zS0_at (by assumption) (by omega) | exact zS0_at rfl (by omega)) ?_
              refine z_goto (tgt := 64) d_Mo_many_40 (by decide) ?_
              refine z_reti d_Mo_many_64 ?_
              exact ⟨by first | rfl | assumption | (rw [e150]), _, _, rfl, (by repeat (first | exact h1 | refine mqF_z ?_ (by decide))), mqJ_r, (by first | exact zu_same _ _ _ _ | exact h0)⟩))
  · first
    | contradiction
    | ( skip
        refine z_if_ne (tgt := 28) d_Mo_many_19 (by decide) (fun h => absurd h (by decide)) (fun _ => ?_)
        refine z_aload_0 d_Mo_many_22 ?_
        refine z_iconst (a := nI 5) d_Mo_many_23 (by decide) ?_
        refine z_Vi1 d_Mo_many_24 k_Mo_327 (by first | assumption | exact zS0_at (by assumption) (by omega) | exact zS0_at rfl (by omega)) (t_Mo_refuse (by assumption)) ⟨Nat.le_of_ble_eq_true rfl, Nat.le_of_ble_eq_true rfl, Nat.le_of_ble_eq_true rfl, Nat.le_of_ble_eq_true rfl⟩ (Nat.le_of_ble_eq_true rfl) ?_
        intro r w hq
        obtain ⟨rfl, rfl⟩ := hq
        refine z_reti d_Mo_many_27 ?_
        exact ⟨by first | rfl | assumption | (rw [e150]), _, _, rfl, (by repeat (first | exact h1 | refine mqF_z ?_ (by decide))), mqJ_r, (by first | exact zu_same _ _ _ _ | exact h0)⟩)
theorem t_Tf_many_3 (Z : clOk f d P S) (N : fenIn I f nt np nl nn) : zEi G y_Tf_many prog_1_method_13_code 2 (some .int) 4 [.ref 0, .int (nI 3)] (I, J, P, S) (fun r w => r = nI nn ∧ cW I J P S 0 w) := by
  obtain ⟨⟨c0, c3, c1s⟩, ⟨c5, c2s, ctr⟩, ⟨c6, c11s, c11, c13s⟩, ⟨c7, c15s, c15⟩, ⟨c8, c16s, c16a, c16b, c17s⟩, ⟨c9, c10, cfd, F, Fd⟩, ⟨c11b, Ft⟩, ⟨c12, c69s, cmk⟩, ⟨c14, c121s, c121, c122s⟩, ⟨c15b, c123s, c123, c124s⟩, ⟨c16, c125s, c125, c126s⟩, ⟨c17, c127s, c127, c128s, ctb⟩, ⟨c18, c139s, c139, c140s⟩, ⟨c19, c141s, ⟨c141a, c142s⟩, ⟨c141b, c143s⟩, ⟨c141c, c144s⟩⟩, M⟩ := id Z
  obtain ⟨F0, ⟨F8, F8s⟩, ⟨F9, F9s⟩, ⟨F10, F10s⟩, ⟨F11, F11s⟩, ⟨F12, F12s⟩, ⟨F13, F13s⟩, ⟨F14, F14s⟩, ⟨F15, F15s⟩, ⟨F16, F16s⟩, ⟨F17, F17s⟩, ⟨F18, F18s⟩, ⟨F19, F19s⟩, ⟨Y3, Y3s⟩, ⟨Y4, Y4s⟩, ⟨Y5, Y5s⟩, ⟨Y6, Y6s⟩⟩ := id F
  obtain ⟨⟨n1, n1b⟩, ⟨n2, n2b⟩, ⟨n3, n3b⟩, ⟨n4, n4b⟩, nof, non⟩ := id N
  refine zEi_of (lv := [some (.ref 0), some (.int (nI 3))]) (by decide) rfl (Nat.le_of_ble_eq_true rfl) ?_
  refine z_iload_1 d_Tf_many_0 ?_
  refine z_tableIn (off := 91) (tgt := 92) d_Tf_many_1 (by decide) (by decide) (by decide) (by decide) ?_
  refine z_aload_0 d_Tf_many_92 ?_
  refine z_aload_0 d_Tf_many_93 ?_
  refine z_getR d_Tf_many_94 f_Tf_60 (by first | assumption | exact zS0_at (by assumption) (by omega) | exact zS0_at rfl (by omega)) (by first | assumption | exact zS0_at (by assumption) (by omega) | exact zS0_at rfl (by omega)) ?_
  refine z_getIv d_Tf_many_97 f_Tf_171 (by first | assumption | exact zS0_at (by assumption) (by omega) | exact zS0_at rfl (by omega)) (by first | assumption | ((try simp (disch := omega) only [zu_same, zu_ne, zcp_ne, zfl_ne]); first | assumption | rfl)) ?_
  refine z_Vi1 d_Tf_many_100 k_Tf_174 (by first | assumption | exact zS0_at (by assumption) (by omega) | exact zS0_at rfl (by omega)) (t_Tf_give (by assumption)) ⟨Nat.le_of_ble_eq_true rfl, Nat.le_of_ble_eq_true rfl, Nat.le_of_ble_eq_true rfl, Nat.le_of_ble_eq_true rfl⟩ (Nat.le_of_ble_eq_true rfl) ?_
  intro r w hq
  obtain ⟨rfl, rfl⟩ := hq
  refine z_reti d_Tf_many_103 ?_
  exact ⟨by first | rfl | assumption, cW_0⟩
theorem t_Mo_many_3 (M : modOk P S) (N : modIn I nt np nl nn) : zEi G y_Mo_many prog_14_method_84_code 2 (some .int) 5 [.ref 145, .int (nI 3)] (I, J, P, S) (fun r w => r = nI nn ∧ mW I J P S 0 w) := by
  obtain ⟨M0, ⟨M4, M4s⟩, ⟨M5, M5s⟩, ⟨M6, M6s⟩, ⟨M7, M7s⟩, ⟨M20, M20s⟩, ⟨M21, M21s⟩, ⟨M22, M22s⟩, ⟨M26, M26s⟩, ⟨M27, M27s⟩, ⟨M28, M28s⟩, ⟨M30, M30s⟩, ⟨M34, M34s⟩, ⟨M36, M36s⟩, ⟨M37, M37s⟩⟩ := id M
  obtain ⟨I1, hI1, N1, h1, h0, e150, er, ek⟩ := mo_beg N
  obtain ⟨⟨m0, m0b⟩, ⟨m1, m1b⟩, ⟨m2, m2b⟩, ⟨m3, m3b⟩, mof, mon⟩ := id N1
  have hD : mD I I1 := ⟨h1, h0, e150, er⟩
  refine zEi_of (lv := [some (.ref 145), some (.int (nI 3))]) (by decide) rfl (Nat.le_of_ble_eq_true rfl) ?_
  refine z_aload_0 d_Mo_many_0 ?_
  refine z_iconst (a := nI 0) d_Mo_many_1 (by decide) ?_
  refine z_putI d_Mo_many_2 f_Mo_70 (by first | assumption | exact zS0_at (by assumption) (by omega) | exact zS0_at rfl (by omega)) ?_
  refine z_aload_0 d_Mo_many_5 ?_
  refine z_iconst (a := nI 0) d_Mo_many_6 (by decide) ?_
  refine z_putI d_Mo_many_7 f_Mo_73 (by first | assumption | exact zS0_at (by assumption) (by omega) | exact zS0_at rfl (by omega)) ?_
  rw [← hI1]
  have hzb : zin (nI 3) 10 := ⟨3, by decide, rfl⟩
  refine z_iload_1 d_Mo_many_10 ?_
  refine z_i2l d_Mo_many_11 ?_
  refine z_lconst (f := lN 0) d_Mo_many_12 rfl ?_
  refine z_ldc2 d_Mo_many_13 c_Mo_325 ?_
  refine z_Si3 d_Mo_many_16 k_Mo_105 (t_Mo_isInZ (m := 10) (by decide) (by decide)) ⟨Nat.le_of_ble_eq_true rfl, Nat.le_of_ble_eq_true rfl, Nat.le_of_ble_eq_true rfl, Nat.le_of_ble_eq_true rfl⟩ (Nat.le_of_ble_eq_true rfl) ?_
  intro r w hq
  rcases hq with ⟨⟨hz16, rfl⟩ | ⟨hz16, rfl⟩, rfl⟩
  · first
    | contradiction
    | ( skip
        refine z_if_ne (tgt := 28) d_Mo_many_19 (by decide) (fun _ => ?_) (fun h => absurd h (by decide))
        refine z_iload_1 d_Mo_many_28 ?_
        refine z_bipush (a := nI 6) d_Mo_many_29 (by decide) ?_
        refine z_icmp_ge (tgt := 43) d_Mo_many_31 (by decide) (fun h31 => ?_) (fun h31 => ?_)
        · first
          | (simp (disch := omega) only [← nI_0, nI_leI, nI_ltI, nI_eq, not_true_eq_false, not_false_eq_true] at h31; done)
          | (simp (disch := omega) only [← nI_0, nI_leI, nI_ltI, nI_eq, not_true_eq_false, not_false_eq_true] at h31; omega)
          | contradiction
          | exact absurd h31 (Int32.not_lt.mpr (by assumption))
          | exact absurd h31 (Int32.not_le.mpr (by assumption))
          | exact absurd h31 (by decide)
          | exact absurd (by decide) h31
          | ( try simp (disch := omega) only [← nI_0, nI_leI, nI_ltI, nI_eq, not_true_eq_false, not_false_eq_true] at h31
              (try have h31b := zbit_n0.mp h31); (try have h31b := zbit_p0.mp h31)
              refine z_iload_1 d_Mo_many_43 ?_
              refine z_bipush (a := nI 9) d_Mo_many_44 (by decide) ?_
              refine z_icmp_ge (tgt := 60) d_Mo_many_46 (by decide) (fun h46 => ?_) (fun h46 => ?_)
              · first
                | (simp (disch := omega) only [← nI_0, nI_leI, nI_ltI, nI_eq, not_true_eq_false, not_false_eq_true] at h46; done)
                | (simp (disch := omega) only [← nI_0, nI_leI, nI_ltI, nI_eq, not_true_eq_false, not_false_eq_true] at h46; omega)
                | contradiction
                | exact absurd h46 (Int32.not_lt.mpr (by assumption))
                | exact absurd h46 (Int32.not_le.mpr (by assumption))
                | exact absurd h46 (by decide)
                | exact absurd (by decide) h46
                | ( try simp (disch := omega) only [← nI_0, nI_leI, nI_ltI, nI_eq, not_true_eq_false, not_false_eq_true] at h46
                    (try have h46b := zbit_n0.mp h46); (try have h46b := zbit_p0.mp h46)
                    refine z_aload_0 d_Mo_many_60 ?_
                    fail)
              · first
                | (simp (disch := omega) only [← nI_0, nI_leI, nI_ltI, nI_eq, not_true_eq_false, not_false_eq_true] at h46; done)
                | (simp (disch := omega) only [← nI_0, nI_leI, nI_ltI, nI_eq, not_true_eq_false, not_false_eq_true] at h46; omega)
                | contradiction
                | exact absurd h46 (Int32.not_lt.mpr (by assumption))
                | exact absurd h46 (Int32.not_le.mpr (by assumption))
                | exact absurd h46 (by decide)
                | exact absurd (by decide) h46
                | ( try simp (disch := omega) only [← nI_0, nI_leI, nI_ltI, nI_eq, not_true_eq_false, not_false_eq_true] at h46
                    (try have h46b := zbit_n0.mp h46); (try have h46b := zbit_p0.mp h46)
                    refine z_aload_0 d_Mo_many_49 ?_
                    refine z_iload_1 d_Mo_many_50 ?_
                    refine z_bipush (a := nI 6) d_Mo_many_51 (by decide) ?_
                    first | refine z_isubN d_Mo_many_53 (by omega) ?_ | refine z_isub d_Mo_many_53 ?_
                    fail))
        · first
          | (simp (disch := omega) only [← nI_0, nI_leI, nI_ltI, nI_eq, not_true_eq_false, not_false_eq_true] at h31; done)
          | (simp (disch := omega) only [← nI_0, nI_leI, nI_ltI, nI_eq, not_true_eq_false, not_false_eq_true] at h31; omega)
          | contradiction
          | exact absurd h31 (Int32.not_lt.mpr (by assumption))
          | exact absurd h31 (Int32.not_le.mpr (by assumption))
          | exact absurd h31 (by decide)
          | exact absurd (by decide) h31
          | ( try simp (disch := omega) only [← nI_0, nI_leI, nI_ltI, nI_eq, not_true_eq_false, not_false_eq_true] at h31
              (try have h31b := zbit_n0.mp h31); (try have h31b := zbit_p0.mp h31)
              refine z_aload_0 d_Mo_many_34 ?_
              refine z_getR d_Mo_many_35 f_Mo_35 (by first | assumption | exact zS0_at (by assumption) (by omega) | exact zS0_at rfl (by omega)) (by first | assumption | exact zS0_at (by assumption) (by omega) | exact zS0_at rfl (by omega)) ?_
              refine z_iload_1 d_Mo_many_38 ?_
              first | refine z_ialdNv d_Mo_many_39 (by first | assumption | exact zS0_at (by assumption) (by omega) | exact zS0_at rfl (by omega)) (by omega) (by first | decide | omega) (by first | assumption | ((try simp (disch := omega) only [zu_same, zu_ne, zcp_ne, zfl_ne]); first | assumption | rfl)) ?_ | refine z_iald d_Mo_many_39 (by first | assumption | exact zS0_at (by assumption) (by omega) | exact zS0_at rfl (by omega)) (by first | assumption | exact zS0_at (by assumption) (by omega) | exact zS0_at rfl (by omega)) ?_
              refine z_goto (tgt := 64) d_Mo_many_40 (by decide) ?_
              refine z_reti d_Mo_many_64 ?_
              exact ⟨by first | rfl | assumption | (rw [e150]), _, _, rfl, (by repeat (first | exact h1 | refine mqF_z ?_ (by decide))), mqJ_r, (by first | exact zu_same _ _ _ _ | exact h0)⟩))
  · first
    | contradiction
    | ( skip
        refine z_if_ne (tgt := 28) d_Mo_many_19 (by decide) (fun h => absurd h (by decide)) (fun _ => ?_)
        refine z_aload_0 d_Mo_many_22 ?_
        refine z_iconst (a := nI 5) d_Mo_many_23 (by decide) ?_
        refine z_Vi1 d_Mo_many_24 k_Mo_327 (by first | assumption | exact zS0_at (by assumption) (by omega) | exact zS0_at rfl (by omega)) (t_Mo_refuse (by assumption)) ⟨Nat.le_of_ble_eq_true rfl, Nat.le_of_ble_eq_true rfl, Nat.le_of_ble_eq_true rfl, Nat.le_of_ble_eq_true rfl⟩ (Nat.le_of_ble_eq_true rfl) ?_
        intro r w hq
        obtain ⟨rfl, rfl⟩ := hq
        refine z_reti d_Mo_many_27 ?_
        exact ⟨by first | rfl | assumption | (rw [e150]), _, _, rfl, (by repeat (first | exact h1 | refine mqF_z ?_ (by decide))), mqJ_r, (by first | exact zu_same _ _ _ _ | exact h0)⟩)
theorem t_Tf_many_4 (Z : clOk f d P S) (N : fenIn I f nt np nl nn) : zEi G y_Tf_many prog_1_method_13_code 2 (some .int) 4 [.ref 0, .int (nI 4)] (I, J, P, S) (fun r w => r = I f 0 ∧ cW I J P S 0 w) := by
  obtain ⟨⟨c0, c3, c1s⟩, ⟨c5, c2s, ctr⟩, ⟨c6, c11s, c11, c13s⟩, ⟨c7, c15s, c15⟩, ⟨c8, c16s, c16a, c16b, c17s⟩, ⟨c9, c10, cfd, F, Fd⟩, ⟨c11b, Ft⟩, ⟨c12, c69s, cmk⟩, ⟨c14, c121s, c121, c122s⟩, ⟨c15b, c123s, c123, c124s⟩, ⟨c16, c125s, c125, c126s⟩, ⟨c17, c127s, c127, c128s, ctb⟩, ⟨c18, c139s, c139, c140s⟩, ⟨c19, c141s, ⟨c141a, c142s⟩, ⟨c141b, c143s⟩, ⟨c141c, c144s⟩⟩, M⟩ := id Z
  obtain ⟨F0, ⟨F8, F8s⟩, ⟨F9, F9s⟩, ⟨F10, F10s⟩, ⟨F11, F11s⟩, ⟨F12, F12s⟩, ⟨F13, F13s⟩, ⟨F14, F14s⟩, ⟨F15, F15s⟩, ⟨F16, F16s⟩, ⟨F17, F17s⟩, ⟨F18, F18s⟩, ⟨F19, F19s⟩, ⟨Y3, Y3s⟩, ⟨Y4, Y4s⟩, ⟨Y5, Y5s⟩, ⟨Y6, Y6s⟩⟩ := id F
  obtain ⟨⟨n1, n1b⟩, ⟨n2, n2b⟩, ⟨n3, n3b⟩, ⟨n4, n4b⟩, nof, non⟩ := id N
  refine zEi_of (lv := [some (.ref 0), some (.int (nI 4))]) (by decide) rfl (Nat.le_of_ble_eq_true rfl) ?_
  refine z_iload_1 d_Tf_many_0 ?_
  refine z_tableIn (off := 103) (tgt := 104) d_Tf_many_1 (by decide) (by decide) (by decide) (by decide) ?_
  refine z_aload_0 d_Tf_many_104 ?_
  refine z_aload_0 d_Tf_many_105 ?_
  refine z_getR d_Tf_many_106 f_Tf_60 (by first | assumption | exact zS0_at (by assumption) (by omega) | exact zS0_at rfl (by omega)) (by first | assumption | exact zS0_at (by assumption) (by omega) | exact zS0_at rfl (by omega)) ?_
  refine z_getIv d_Tf_many_109 f_Tf_208 (by first | assumption | exact zS0_at (by assumption) (by omega) | exact zS0_at rfl (by omega)) (by first | assumption | ((try simp (disch := omega) only [zu_same, zu_ne, zcp_ne, zfl_ne]); first | assumption | rfl)) ?_
  refine z_Vi1 d_Tf_many_112 k_Tf_174 (by first | assumption | exact zS0_at (by assumption) (by omega) | exact zS0_at rfl (by omega)) (t_Tf_give (by assumption)) ⟨Nat.le_of_ble_eq_true rfl, Nat.le_of_ble_eq_true rfl, Nat.le_of_ble_eq_true rfl, Nat.le_of_ble_eq_true rfl⟩ (Nat.le_of_ble_eq_true rfl) ?_
  intro r w hq
  obtain ⟨rfl, rfl⟩ := hq
  refine z_reti d_Tf_many_115 ?_
  exact ⟨by first | rfl | assumption, cW_0⟩
theorem t_Mo_many_4 (M : modOk P S) (N : modIn I nt np nl nn) : zEi G y_Mo_many prog_14_method_84_code 2 (some .int) 5 [.ref 145, .int (nI 4)] (I, J, P, S) (fun r w => r = I 150 4 ∧ mW I J P S 0 w) := by
  obtain ⟨M0, ⟨M4, M4s⟩, ⟨M5, M5s⟩, ⟨M6, M6s⟩, ⟨M7, M7s⟩, ⟨M20, M20s⟩, ⟨M21, M21s⟩, ⟨M22, M22s⟩, ⟨M26, M26s⟩, ⟨M27, M27s⟩, ⟨M28, M28s⟩, ⟨M30, M30s⟩, ⟨M34, M34s⟩, ⟨M36, M36s⟩, ⟨M37, M37s⟩⟩ := id M
  obtain ⟨I1, hI1, N1, h1, h0, e150, er, ek⟩ := mo_beg N
  obtain ⟨⟨m0, m0b⟩, ⟨m1, m1b⟩, ⟨m2, m2b⟩, ⟨m3, m3b⟩, mof, mon⟩ := id N1
  have hD : mD I I1 := ⟨h1, h0, e150, er⟩
  refine zEi_of (lv := [some (.ref 145), some (.int (nI 4))]) (by decide) rfl (Nat.le_of_ble_eq_true rfl) ?_
  refine z_aload_0 d_Mo_many_0 ?_
  refine z_iconst (a := nI 0) d_Mo_many_1 (by decide) ?_
  refine z_putI d_Mo_many_2 f_Mo_70 (by first | assumption | exact zS0_at (by assumption) (by omega) | exact zS0_at rfl (by omega)) ?_
  refine z_aload_0 d_Mo_many_5 ?_
  refine z_iconst (a := nI 0) d_Mo_many_6 (by decide) ?_
  refine z_putI d_Mo_many_7 f_Mo_73 (by first | assumption | exact zS0_at (by assumption) (by omega) | exact zS0_at rfl (by omega)) ?_
  rw [← hI1]
  have hzb : zin (nI 4) 10 := ⟨4, by decide, rfl⟩
  have hr : I1 150 (4) = I 150 (4) := by rw [e150]
  refine z_iload_1 d_Mo_many_10 ?_
  refine z_i2l d_Mo_many_11 ?_
  refine z_lconst (f := lN 0) d_Mo_many_12 rfl ?_
  refine z_ldc2 d_Mo_many_13 c_Mo_325 ?_
  refine z_Si3 d_Mo_many_16 k_Mo_105 (t_Mo_isInZ (m := 10) (by decide) (by decide)) ⟨Nat.le_of_ble_eq_true rfl, Nat.le_of_ble_eq_true rfl, Nat.le_of_ble_eq_true rfl, Nat.le_of_ble_eq_true rfl⟩ (Nat.le_of_ble_eq_true rfl) ?_
  intro r w hq
  rcases hq with ⟨⟨hz16, rfl⟩ | ⟨hz16, rfl⟩, rfl⟩
  · first
    | contradiction
    | ( skip
        refine z_if_ne (tgt := 28) d_Mo_many_19 (by decide) (fun _ => ?_) (fun h => absurd h (by decide))
        refine z_iload_1 d_Mo_many_28 ?_
        refine z_bipush (a := nI 6) d_Mo_many_29 (by decide) ?_
        refine z_icmp_ge (tgt := 43) d_Mo_many_31 (by decide) (fun h31 => ?_) (fun h31 => ?_)
        · first
          | (simp (disch := omega) only [← nI_0, nI_leI, nI_ltI, nI_eq, not_true_eq_false, not_false_eq_true] at h31; done)
          | (simp (disch := omega) only [← nI_0, nI_leI, nI_ltI, nI_eq, not_true_eq_false, not_false_eq_true] at h31; omega)
          | contradiction
          | exact absurd h31 (Int32.not_lt.mpr (by assumption))
          | exact absurd h31 (Int32.not_le.mpr (by assumption))
          | exact absurd h31 (by decide)
          | exact absurd (by decide) h31
          | ( try simp (disch := omega) only [← nI_0, nI_leI, nI_ltI, nI_eq, not_true_eq_false, not_false_eq_true] at h31
              (try have h31b := zbit_n0.mp h31); (try have h31b := zbit_p0.mp h31)
              refine z_iload_1 d_Mo_many_43 ?_
              refine z_bipush (a := nI 9) d_Mo_many_44 (by decide) ?_
              refine z_icmp_ge (tgt := 60) d_Mo_many_46 (by decide) (fun h46 => ?_) (fun h46 => ?_)
              · first
                | (simp (disch := omega) only [← nI_0, nI_leI, nI_ltI, nI_eq, not_true_eq_false, not_false_eq_true] at h46; done)
                | (simp (disch := omega) only [← nI_0, nI_leI, nI_ltI, nI_eq, not_true_eq_false, not_false_eq_true] at h46; omega)
                | contradiction
                | exact absurd h46 (Int32.not_lt.mpr (by assumption))
                | exact absurd h46 (Int32.not_le.mpr (by assumption))
                | exact absurd h46 (by decide)
                | exact absurd (by decide) h46
                | ( try simp (disch := omega) only [← nI_0, nI_leI, nI_ltI, nI_eq, not_true_eq_false, not_false_eq_true] at h46
                    (try have h46b := zbit_n0.mp h46); (try have h46b := zbit_p0.mp h46)
                    refine z_aload_0 d_Mo_many_60 ?_
                    fail)
              · first
                | (simp (disch := omega) only [← nI_0, nI_leI, nI_ltI, nI_eq, not_true_eq_false, not_false_eq_true] at h46; done)
                | (simp (disch := omega) only [← nI_0, nI_leI, nI_ltI, nI_eq, not_true_eq_false, not_false_eq_true] at h46; omega)
                | contradiction
                | exact absurd h46 (Int32.not_lt.mpr (by assumption))
                | exact absurd h46 (Int32.not_le.mpr (by assumption))
                | exact absurd h46 (by decide)
                | exact absurd (by decide) h46
                | ( try simp (disch := omega) only [← nI_0, nI_leI, nI_ltI, nI_eq, not_true_eq_false, not_false_eq_true] at h46
                    (try have h46b := zbit_n0.mp h46); (try have h46b := zbit_p0.mp h46)
                    refine z_aload_0 d_Mo_many_49 ?_
                    refine z_iload_1 d_Mo_many_50 ?_
                    refine z_bipush (a := nI 6) d_Mo_many_51 (by decide) ?_
                    first | refine z_isubN d_Mo_many_53 (by omega) ?_ | refine z_isub d_Mo_many_53 ?_
                    fail))
        · first
          | (simp (disch := omega) only [← nI_0, nI_leI, nI_ltI, nI_eq, not_true_eq_false, not_false_eq_true] at h31; done)
          | (simp (disch := omega) only [← nI_0, nI_leI, nI_ltI, nI_eq, not_true_eq_false, not_false_eq_true] at h31; omega)
          | contradiction
          | exact absurd h31 (Int32.not_lt.mpr (by assumption))
          | exact absurd h31 (Int32.not_le.mpr (by assumption))
          | exact absurd h31 (by decide)
          | exact absurd (by decide) h31
          | ( try simp (disch := omega) only [← nI_0, nI_leI, nI_ltI, nI_eq, not_true_eq_false, not_false_eq_true] at h31
              (try have h31b := zbit_n0.mp h31); (try have h31b := zbit_p0.mp h31)
              refine z_aload_0 d_Mo_many_34 ?_
              refine z_getR d_Mo_many_35 f_Mo_35 (by first | assumption | exact zS0_at (by assumption) (by omega) | exact zS0_at rfl (by omega)) (by first | assumption | exact zS0_at (by assumption) (by omega) | exact zS0_at rfl (by omega)) ?_
              refine z_iload_1 d_Mo_many_38 ?_
              first | refine z_ialdNv d_Mo_many_39 (by first | assumption | exact zS0_at (by assumption) (by omega) | exact zS0_at rfl (by omega)) (by omega) (by first | decide | omega) (by first | assumption | ((try simp (disch := omega) only [zu_same, zu_ne, zcp_ne, zfl_ne]); first | assumption | rfl)) ?_ | refine z_iald d_Mo_many_39 (by first | assumption | exact zS0_at (by assumption) (by omega) | exact zS0_at rfl (by omega)) (by first | assumption | exact zS0_at (by assumption) (by omega) | exact zS0_at rfl (by omega)) ?_
              refine z_goto (tgt := 64) d_Mo_many_40 (by decide) ?_
              refine z_reti d_Mo_many_64 ?_
              exact ⟨by first | rfl | assumption | (rw [e150]), _, _, rfl, (by repeat (first | exact h1 | refine mqF_z ?_ (by decide))), mqJ_r, (by first | exact zu_same _ _ _ _ | exact h0)⟩))
  · first
    | contradiction
    | ( skip
        refine z_if_ne (tgt := 28) d_Mo_many_19 (by decide) (fun h => absurd h (by decide)) (fun _ => ?_)
        refine z_aload_0 d_Mo_many_22 ?_
        refine z_iconst (a := nI 5) d_Mo_many_23 (by decide) ?_
        refine z_Vi1 d_Mo_many_24 k_Mo_327 (by first | assumption | exact zS0_at (by assumption) (by omega) | exact zS0_at rfl (by omega)) (t_Mo_refuse (by assumption)) ⟨Nat.le_of_ble_eq_true rfl, Nat.le_of_ble_eq_true rfl, Nat.le_of_ble_eq_true rfl, Nat.le_of_ble_eq_true rfl⟩ (Nat.le_of_ble_eq_true rfl) ?_
        intro r w hq
        obtain ⟨rfl, rfl⟩ := hq
        refine z_reti d_Mo_many_27 ?_
        exact ⟨by first | rfl | assumption | (rw [e150]), _, _, rfl, (by repeat (first | exact h1 | refine mqF_z ?_ (by decide))), mqJ_r, (by first | exact zu_same _ _ _ _ | exact h0)⟩)
theorem t_Tf_many_5 (Z : clOk f d P S) (N : fenIn I f nt np nl nn) : zEi G y_Tf_many prog_1_method_13_code 2 (some .int) 4 [.ref 0, .int (nI 5)] (I, J, P, S) (fun r w => r = I f 5 ∧ cW I J P S 0 w) := by
  obtain ⟨⟨c0, c3, c1s⟩, ⟨c5, c2s, ctr⟩, ⟨c6, c11s, c11, c13s⟩, ⟨c7, c15s, c15⟩, ⟨c8, c16s, c16a, c16b, c17s⟩, ⟨c9, c10, cfd, F, Fd⟩, ⟨c11b, Ft⟩, ⟨c12, c69s, cmk⟩, ⟨c14, c121s, c121, c122s⟩, ⟨c15b, c123s, c123, c124s⟩, ⟨c16, c125s, c125, c126s⟩, ⟨c17, c127s, c127, c128s, ctb⟩, ⟨c18, c139s, c139, c140s⟩, ⟨c19, c141s, ⟨c141a, c142s⟩, ⟨c141b, c143s⟩, ⟨c141c, c144s⟩⟩, M⟩ := id Z
  obtain ⟨F0, ⟨F8, F8s⟩, ⟨F9, F9s⟩, ⟨F10, F10s⟩, ⟨F11, F11s⟩, ⟨F12, F12s⟩, ⟨F13, F13s⟩, ⟨F14, F14s⟩, ⟨F15, F15s⟩, ⟨F16, F16s⟩, ⟨F17, F17s⟩, ⟨F18, F18s⟩, ⟨F19, F19s⟩, ⟨Y3, Y3s⟩, ⟨Y4, Y4s⟩, ⟨Y5, Y5s⟩, ⟨Y6, Y6s⟩⟩ := id F
  obtain ⟨⟨n1, n1b⟩, ⟨n2, n2b⟩, ⟨n3, n3b⟩, ⟨n4, n4b⟩, nof, non⟩ := id N
  refine zEi_of (lv := [some (.ref 0), some (.int (nI 5))]) (by decide) rfl (Nat.le_of_ble_eq_true rfl) ?_
  refine z_iload_1 d_Tf_many_0 ?_
  refine z_tableIn (off := 115) (tgt := 116) d_Tf_many_1 (by decide) (by decide) (by decide) (by decide) ?_
  refine z_aload_0 d_Tf_many_116 ?_
  refine z_aload_0 d_Tf_many_117 ?_
  refine z_getR d_Tf_many_118 f_Tf_60 (by first | assumption | exact zS0_at (by assumption) (by omega) | exact zS0_at rfl (by omega)) (by first | assumption | exact zS0_at (by assumption) (by omega) | exact zS0_at rfl (by omega)) ?_
  refine z_getIv d_Tf_many_121 f_Tf_211 (by first | assumption | exact zS0_at (by assumption) (by omega) | exact zS0_at rfl (by omega)) (by first | assumption | ((try simp (disch := omega) only [zu_same, zu_ne, zcp_ne, zfl_ne]); first | assumption | rfl)) ?_
  refine z_Vi1 d_Tf_many_124 k_Tf_174 (by first | assumption | exact zS0_at (by assumption) (by omega) | exact zS0_at rfl (by omega)) (t_Tf_give (by assumption)) ⟨Nat.le_of_ble_eq_true rfl, Nat.le_of_ble_eq_true rfl, Nat.le_of_ble_eq_true rfl, Nat.le_of_ble_eq_true rfl⟩ (Nat.le_of_ble_eq_true rfl) ?_
  intro r w hq
  obtain ⟨rfl, rfl⟩ := hq
  refine z_reti d_Tf_many_127 ?_
  exact ⟨by first | rfl | assumption, cW_0⟩
theorem t_Mo_many_5 (M : modOk P S) (N : modIn I nt np nl nn) : zEi G y_Mo_many prog_14_method_84_code 2 (some .int) 5 [.ref 145, .int (nI 5)] (I, J, P, S) (fun r w => r = I 150 5 ∧ mW I J P S 0 w) := by
  obtain ⟨M0, ⟨M4, M4s⟩, ⟨M5, M5s⟩, ⟨M6, M6s⟩, ⟨M7, M7s⟩, ⟨M20, M20s⟩, ⟨M21, M21s⟩, ⟨M22, M22s⟩, ⟨M26, M26s⟩, ⟨M27, M27s⟩, ⟨M28, M28s⟩, ⟨M30, M30s⟩, ⟨M34, M34s⟩, ⟨M36, M36s⟩, ⟨M37, M37s⟩⟩ := id M
  obtain ⟨I1, hI1, N1, h1, h0, e150, er, ek⟩ := mo_beg N
  obtain ⟨⟨m0, m0b⟩, ⟨m1, m1b⟩, ⟨m2, m2b⟩, ⟨m3, m3b⟩, mof, mon⟩ := id N1
  have hD : mD I I1 := ⟨h1, h0, e150, er⟩
  refine zEi_of (lv := [some (.ref 145), some (.int (nI 5))]) (by decide) rfl (Nat.le_of_ble_eq_true rfl) ?_
  refine z_aload_0 d_Mo_many_0 ?_
  refine z_iconst (a := nI 0) d_Mo_many_1 (by decide) ?_
  refine z_putI d_Mo_many_2 f_Mo_70 (by first | assumption | exact zS0_at (by assumption) (by omega) | exact zS0_at rfl (by omega)) ?_
  refine z_aload_0 d_Mo_many_5 ?_
  refine z_iconst (a := nI 0) d_Mo_many_6 (by decide) ?_
  refine z_putI d_Mo_many_7 f_Mo_73 (by first | assumption | exact zS0_at (by assumption) (by omega) | exact zS0_at rfl (by omega)) ?_
  rw [← hI1]
  have hzb : zin (nI 5) 10 := ⟨5, by decide, rfl⟩
  have hr : I1 150 (5) = I 150 (5) := by rw [e150]
  refine z_iload_1 d_Mo_many_10 ?_
  refine z_i2l d_Mo_many_11 ?_
  refine z_lconst (f := lN 0) d_Mo_many_12 rfl ?_
  refine z_ldc2 d_Mo_many_13 c_Mo_325 ?_
  refine z_Si3 d_Mo_many_16 k_Mo_105 (t_Mo_isInZ (m := 10) (by decide) (by decide)) ⟨Nat.le_of_ble_eq_true rfl, Nat.le_of_ble_eq_true rfl, Nat.le_of_ble_eq_true rfl, Nat.le_of_ble_eq_true rfl⟩ (Nat.le_of_ble_eq_true rfl) ?_
  intro r w hq
  rcases hq with ⟨⟨hz16, rfl⟩ | ⟨hz16, rfl⟩, rfl⟩
  · first
    | contradiction
    | ( skip
        refine z_if_ne (tgt := 28) d_Mo_many_19 (by decide) (fun _ => ?_) (fun h => absurd h (by decide))
        refine z_iload_1 d_Mo_many_28 ?_
        refine z_bipush (a := nI 6) d_Mo_many_29 (by decide) ?_
        refine z_icmp_ge (tgt := 43) d_Mo_many_31 (by decide) (fun h31 => ?_) (fun h31 => ?_)
        · first
          | (simp (disch := omega) only [← nI_0, nI_leI, nI_ltI, nI_eq, not_true_eq_false, not_false_eq_true] at h31; done)
          | (simp (disch := omega) only [← nI_0, nI_leI, nI_ltI, nI_eq, not_true_eq_false, not_false_eq_true] at h31; omega)
          | contradiction
          | exact absurd h31 (Int32.not_lt.mpr (by assumption))
          | exact absurd h31 (Int32.not_le.mpr (by assumption))
          | exact absurd h31 (by decide)
          | exact absurd (by decide) h31
          | ( try simp (disch := omega) only [← nI_0, nI_leI, nI_ltI, nI_eq, not_true_eq_false, not_false_eq_true] at h31
              (try have h31b := zbit_n0.mp h31); (try have h31b := zbit_p0.mp h31)
              refine z_iload_1 d_Mo_many_43 ?_
              refine z_bipush (a := nI 9) d_Mo_many_44 (by decide) ?_
              refine z_icmp_ge (tgt := 60) d_Mo_many_46 (by decide) (fun h46 => ?_) (fun h46 => ?_)
              · first
                | (simp (disch := omega) only [← nI_0, nI_leI, nI_ltI, nI_eq, not_true_eq_false, not_false_eq_true] at h46; done)
                | (simp (disch := omega) only [← nI_0, nI_leI, nI_ltI, nI_eq, not_true_eq_false, not_false_eq_true] at h46; omega)
                | contradiction
                | exact absurd h46 (Int32.not_lt.mpr (by assumption))
                | exact absurd h46 (Int32.not_le.mpr (by assumption))
                | exact absurd h46 (by decide)
                | exact absurd (by decide) h46
                | ( try simp (disch := omega) only [← nI_0, nI_leI, nI_ltI, nI_eq, not_true_eq_false, not_false_eq_true] at h46
                    (try have h46b := zbit_n0.mp h46); (try have h46b := zbit_p0.mp h46)
                    refine z_aload_0 d_Mo_many_60 ?_
                    fail)
              · first
                | (simp (disch := omega) only [← nI_0, nI_leI, nI_ltI, nI_eq, not_true_eq_false, not_false_eq_true] at h46; done)
                | (simp (disch := omega) only [← nI_0, nI_leI, nI_ltI, nI_eq, not_true_eq_false, not_false_eq_true] at h46; omega)
                | contradiction
                | exact absurd h46 (Int32.not_lt.mpr (by assumption))
                | exact absurd h46 (Int32.not_le.mpr (by assumption))
                | exact absurd h46 (by decide)
                | exact absurd (by decide) h46
                | ( try simp (disch := omega) only [← nI_0, nI_leI, nI_ltI, nI_eq, not_true_eq_false, not_false_eq_true] at h46
                    (try have h46b := zbit_n0.mp h46); (try have h46b := zbit_p0.mp h46)
                    refine z_aload_0 d_Mo_many_49 ?_
                    refine z_iload_1 d_Mo_many_50 ?_
                    refine z_bipush (a := nI 6) d_Mo_many_51 (by decide) ?_
                    first | refine z_isubN d_Mo_many_53 (by omega) ?_ | refine z_isub d_Mo_many_53 ?_
                    fail))
        · first
          | (simp (disch := omega) only [← nI_0, nI_leI, nI_ltI, nI_eq, not_true_eq_false, not_false_eq_true] at h31; done)
          | (simp (disch := omega) only [← nI_0, nI_leI, nI_ltI, nI_eq, not_true_eq_false, not_false_eq_true] at h31; omega)
          | contradiction
          | exact absurd h31 (Int32.not_lt.mpr (by assumption))
          | exact absurd h31 (Int32.not_le.mpr (by assumption))
          | exact absurd h31 (by decide)
          | exact absurd (by decide) h31
          | ( try simp (disch := omega) only [← nI_0, nI_leI, nI_ltI, nI_eq, not_true_eq_false, not_false_eq_true] at h31
              (try have h31b := zbit_n0.mp h31); (try have h31b := zbit_p0.mp h31)
              refine z_aload_0 d_Mo_many_34 ?_
              refine z_getR d_Mo_many_35 f_Mo_35 (by first | assumption | exact zS0_at (by assumption) (by omega) | exact zS0_at rfl (by omega)) (by first | assumption | exact zS0_at (by assumption) (by omega) | exact zS0_at rfl (by omega)) ?_
              refine z_iload_1 d_Mo_many_38 ?_
              first | refine z_ialdNv d_Mo_many_39 (by first | assumption | exact zS0_at (by assumption) (by omega) | exact zS0_at rfl (by omega)) (by omega) (by first | decide | omega) (by first | assumption | ((try simp (disch := omega) only [zu_same, zu_ne, zcp_ne, zfl_ne]); first | assumption | rfl)) ?_ | refine z_iald d_Mo_many_39 (by first | assumption | exact zS0_at (by assumption) (by omega) | exact zS0_at rfl (by omega)) (by first | assumption | exact zS0_at (by assumption) (by omega) | exact zS0_at rfl (by omega)) ?_
              refine z_goto (tgt := 64) d_Mo_many_40 (by decide) ?_
              refine z_reti d_Mo_many_64 ?_
              exact ⟨by first | rfl | assumption | (rw [e150]), _, _, rfl, (by repeat (first | exact h1 | refine mqF_z ?_ (by decide))), mqJ_r, (by first | exact zu_same _ _ _ _ | exact h0)⟩))
  · first
    | contradiction
    | ( skip
        refine z_if_ne (tgt := 28) d_Mo_many_19 (by decide) (fun h => absurd h (by decide)) (fun _ => ?_)
        refine z_aload_0 d_Mo_many_22 ?_
        refine z_iconst (a := nI 5) d_Mo_many_23 (by decide) ?_
        refine z_Vi1 d_Mo_many_24 k_Mo_327 (by first | assumption | exact zS0_at (by assumption) (by omega) | exact zS0_at rfl (by omega)) (t_Mo_refuse (by assumption)) ⟨Nat.le_of_ble_eq_true rfl, Nat.le_of_ble_eq_true rfl, Nat.le_of_ble_eq_true rfl, Nat.le_of_ble_eq_true rfl⟩ (Nat.le_of_ble_eq_true rfl) ?_
        intro r w hq
        obtain ⟨rfl, rfl⟩ := hq
        refine z_reti d_Mo_many_27 ?_
        exact ⟨by first | rfl | assumption | (rw [e150]), _, _, rfl, (by repeat (first | exact h1 | refine mqF_z ?_ (by decide))), mqJ_r, (by first | exact zu_same _ _ _ _ | exact h0)⟩)
theorem t_Tf_many_6 (Z : clOk f d P S) (N : fenIn I f nt np nl nn) : zEi G y_Tf_many prog_1_method_13_code 2 (some .int) 4 [.ref 0, .int (nI 6)] (I, J, P, S) (fun r w => r = s_set (fun t => decide (I (f + 6) t = -1)) nn ∧ cW I J P S 0 w) := by
  obtain ⟨⟨c0, c3, c1s⟩, ⟨c5, c2s, ctr⟩, ⟨c6, c11s, c11, c13s⟩, ⟨c7, c15s, c15⟩, ⟨c8, c16s, c16a, c16b, c17s⟩, ⟨c9, c10, cfd, F, Fd⟩, ⟨c11b, Ft⟩, ⟨c12, c69s, cmk⟩, ⟨c14, c121s, c121, c122s⟩, ⟨c15b, c123s, c123, c124s⟩, ⟨c16, c125s, c125, c126s⟩, ⟨c17, c127s, c127, c128s, ctb⟩, ⟨c18, c139s, c139, c140s⟩, ⟨c19, c141s, ⟨c141a, c142s⟩, ⟨c141b, c143s⟩, ⟨c141c, c144s⟩⟩, M⟩ := id Z
  obtain ⟨F0, ⟨F8, F8s⟩, ⟨F9, F9s⟩, ⟨F10, F10s⟩, ⟨F11, F11s⟩, ⟨F12, F12s⟩, ⟨F13, F13s⟩, ⟨F14, F14s⟩, ⟨F15, F15s⟩, ⟨F16, F16s⟩, ⟨F17, F17s⟩, ⟨F18, F18s⟩, ⟨F19, F19s⟩, ⟨Y3, Y3s⟩, ⟨Y4, Y4s⟩, ⟨Y5, Y5s⟩, ⟨Y6, Y6s⟩⟩ := id F
  obtain ⟨⟨n1, n1b⟩, ⟨n2, n2b⟩, ⟨n3, n3b⟩, ⟨n4, n4b⟩, nof, non⟩ := id N
  refine zEi_of (lv := [some (.ref 0), some (.int (nI 6))]) (by decide) rfl (Nat.le_of_ble_eq_true rfl) ?_
  refine z_iload_1 d_Tf_many_0 ?_
  refine z_tableIn (off := 127) (tgt := 128) d_Tf_many_1 (by decide) (by decide) (by decide) (by decide) ?_
  refine z_aload_0 d_Tf_many_128 ?_
  refine z_aload_0 d_Tf_many_129 ?_
  refine z_getR d_Tf_many_130 f_Tf_60 (by first | assumption | exact zS0_at (by assumption) (by omega) | exact zS0_at rfl (by omega)) (by first | assumption | exact zS0_at (by assumption) (by omega) | exact zS0_at rfl (by omega)) ?_
  refine z_iconst (a := -1) d_Tf_many_133 (by decide) ?_
  refine z_Vi1 d_Tf_many_134 k_Tf_214 (by first | assumption | exact zS0_at (by assumption) (by omega) | exact zS0_at rfl (by omega)) (t_Fen_wornBy (by assumption) (by assumption)) ⟨Nat.le_of_ble_eq_true rfl, Nat.le_of_ble_eq_true rfl, Nat.le_of_ble_eq_true rfl, Nat.le_of_ble_eq_true rfl⟩ (Nat.le_of_ble_eq_true rfl) ?_
  intro r w hq
  obtain ⟨rfl, rfl⟩ := hq
  refine z_Vi1 d_Tf_many_137 k_Tf_174 (by first | assumption | exact zS0_at (by assumption) (by omega) | exact zS0_at rfl (by omega)) (t_Tf_give (by assumption)) ⟨Nat.le_of_ble_eq_true rfl, Nat.le_of_ble_eq_true rfl, Nat.le_of_ble_eq_true rfl, Nat.le_of_ble_eq_true rfl⟩ (Nat.le_of_ble_eq_true rfl) ?_
  intro r w hq
  obtain ⟨rfl, rfl⟩ := hq
  refine z_reti d_Tf_many_140 ?_
  exact ⟨by first | rfl | assumption, cW_0⟩
theorem t_Mo_many_6 (M : modOk P S) (N : modIn I nt np nl nn) : zEi G y_Mo_many prog_14_method_84_code 2 (some .int) 5 [.ref 145, .int (nI 6)] (I, J, P, S) (fun r w => r = s_set (fun t => decide (I 150 (42 + t) < 0)) nn ∧ mW I J P S 0 w) := by
  obtain ⟨M0, ⟨M4, M4s⟩, ⟨M5, M5s⟩, ⟨M6, M6s⟩, ⟨M7, M7s⟩, ⟨M20, M20s⟩, ⟨M21, M21s⟩, ⟨M22, M22s⟩, ⟨M26, M26s⟩, ⟨M27, M27s⟩, ⟨M28, M28s⟩, ⟨M30, M30s⟩, ⟨M34, M34s⟩, ⟨M36, M36s⟩, ⟨M37, M37s⟩⟩ := id M
  obtain ⟨I1, hI1, N1, h1, h0, e150, er, ek⟩ := mo_beg N
  obtain ⟨⟨m0, m0b⟩, ⟨m1, m1b⟩, ⟨m2, m2b⟩, ⟨m3, m3b⟩, mof, mon⟩ := id N1
  have hD : mD I I1 := ⟨h1, h0, e150, er⟩
  refine zEi_of (lv := [some (.ref 145), some (.int (nI 6))]) (by decide) rfl (Nat.le_of_ble_eq_true rfl) ?_
  refine z_aload_0 d_Mo_many_0 ?_
  refine z_iconst (a := nI 0) d_Mo_many_1 (by decide) ?_
  refine z_putI d_Mo_many_2 f_Mo_70 (by first | assumption | exact zS0_at (by assumption) (by omega) | exact zS0_at rfl (by omega)) ?_
  refine z_aload_0 d_Mo_many_5 ?_
  refine z_iconst (a := nI 0) d_Mo_many_6 (by decide) ?_
  refine z_putI d_Mo_many_7 f_Mo_73 (by first | assumption | exact zS0_at (by assumption) (by omega) | exact zS0_at rfl (by omega)) ?_
  rw [← hI1]
  have hzb : zin (nI 6) 10 := ⟨6, by decide, rfl⟩
  refine z_iload_1 d_Mo_many_10 ?_
  refine z_i2l d_Mo_many_11 ?_
  refine z_lconst (f := lN 0) d_Mo_many_12 rfl ?_
  refine z_ldc2 d_Mo_many_13 c_Mo_325 ?_
  refine z_Si3 d_Mo_many_16 k_Mo_105 (t_Mo_isInZ (m := 10) (by decide) (by decide)) ⟨Nat.le_of_ble_eq_true rfl, Nat.le_of_ble_eq_true rfl, Nat.le_of_ble_eq_true rfl, Nat.le_of_ble_eq_true rfl⟩ (Nat.le_of_ble_eq_true rfl) ?_
  intro r w hq
  rcases hq with ⟨⟨hz16, rfl⟩ | ⟨hz16, rfl⟩, rfl⟩
  · first
    | contradiction
    | ( skip
        refine z_if_ne (tgt := 28) d_Mo_many_19 (by decide) (fun _ => ?_) (fun h => absurd h (by decide))
        refine z_iload_1 d_Mo_many_28 ?_
        refine z_bipush (a := nI 6) d_Mo_many_29 (by decide) ?_
        refine z_icmp_ge (tgt := 43) d_Mo_many_31 (by decide) (fun h31 => ?_) (fun h31 => ?_)
        · first
          | (simp (disch := omega) only [← nI_0, nI_leI, nI_ltI, nI_eq, not_true_eq_false, not_false_eq_true] at h31; done)
          | (simp (disch := omega) only [← nI_0, nI_leI, nI_ltI, nI_eq, not_true_eq_false, not_false_eq_true] at h31; omega)
          | contradiction
          | exact absurd h31 (Int32.not_lt.mpr (by assumption))
          | exact absurd h31 (Int32.not_le.mpr (by assumption))
          | exact absurd h31 (by decide)
          | exact absurd (by decide) h31
          | ( try simp (disch := omega) only [← nI_0, nI_leI, nI_ltI, nI_eq, not_true_eq_false, not_false_eq_true] at h31
              (try have h31b := zbit_n0.mp h31); (try have h31b := zbit_p0.mp h31)
              refine z_iload_1 d_Mo_many_43 ?_
              refine z_bipush (a := nI 9) d_Mo_many_44 (by decide) ?_
              refine z_icmp_ge (tgt := 60) d_Mo_many_46 (by decide) (fun h46 => ?_) (fun h46 => ?_)
              · first
                | (simp (disch := omega) only [← nI_0, nI_leI, nI_ltI, nI_eq, not_true_eq_false, not_false_eq_true] at h46; done)
                | (simp (disch := omega) only [← nI_0, nI_leI, nI_ltI, nI_eq, not_true_eq_false, not_false_eq_true] at h46; omega)
                | contradiction
                | exact absurd h46 (Int32.not_lt.mpr (by assumption))
                | exact absurd h46 (Int32.not_le.mpr (by assumption))
                | exact absurd h46 (by decide)
                | exact absurd (by decide) h46
                | ( try simp (disch := omega) only [← nI_0, nI_leI, nI_ltI, nI_eq, not_true_eq_false, not_false_eq_true] at h46
                    (try have h46b := zbit_n0.mp h46); (try have h46b := zbit_p0.mp h46)
                    refine z_aload_0 d_Mo_many_60 ?_
                    fail)
              · first
                | (simp (disch := omega) only [← nI_0, nI_leI, nI_ltI, nI_eq, not_true_eq_false, not_false_eq_true] at h46; done)
                | (simp (disch := omega) only [← nI_0, nI_leI, nI_ltI, nI_eq, not_true_eq_false, not_false_eq_true] at h46; omega)
                | contradiction
                | exact absurd h46 (Int32.not_lt.mpr (by assumption))
                | exact absurd h46 (Int32.not_le.mpr (by assumption))
                | exact absurd h46 (by decide)
                | exact absurd (by decide) h46
                | ( try simp (disch := omega) only [← nI_0, nI_leI, nI_ltI, nI_eq, not_true_eq_false, not_false_eq_true] at h46
                    (try have h46b := zbit_n0.mp h46); (try have h46b := zbit_p0.mp h46)
                    refine z_aload_0 d_Mo_many_49 ?_
                    refine z_iload_1 d_Mo_many_50 ?_
                    refine z_bipush (a := nI 6) d_Mo_many_51 (by decide) ?_
                    first | refine z_isubN d_Mo_many_53 (by omega) ?_ | refine z_isub d_Mo_many_53 ?_
                    refine z_Vi1 d_Mo_many_54 k_Mo_319 (by first | assumption | exact zS0_at (by assumption) (by omega) | exact zS0_at rfl (by omega)) (t_Mo_tinsThat0 M N1) ⟨Nat.le_of_ble_eq_true rfl, Nat.le_of_ble_eq_true rfl, Nat.le_of_ble_eq_true rfl, Nat.le_of_ble_eq_true rfl⟩ (Nat.le_of_ble_eq_true rfl) ?_
                    intro r w hq
                    obtain ⟨rfl, rfl⟩ := hq
                    refine z_goto (tgt := 64) d_Mo_many_57 (by decide) ?_
                    refine z_reti d_Mo_many_64 ?_
                    exact ⟨by first | rfl | assumption | (rw [e150]), _, _, rfl, (by repeat (first | exact h1 | refine mqF_z ?_ (by decide))), mqJ_r, (by first | exact zu_same _ _ _ _ | exact h0)⟩))
        · first
          | (simp (disch := omega) only [← nI_0, nI_leI, nI_ltI, nI_eq, not_true_eq_false, not_false_eq_true] at h31; done)
          | (simp (disch := omega) only [← nI_0, nI_leI, nI_ltI, nI_eq, not_true_eq_false, not_false_eq_true] at h31; omega)
          | contradiction
          | exact absurd h31 (Int32.not_lt.mpr (by assumption))
          | exact absurd h31 (Int32.not_le.mpr (by assumption))
          | exact absurd h31 (by decide)
          | exact absurd (by decide) h31
          | ( try simp (disch := omega) only [← nI_0, nI_leI, nI_ltI, nI_eq, not_true_eq_false, not_false_eq_true] at h31
              (try have h31b := zbit_n0.mp h31); (try have h31b := zbit_p0.mp h31)
              refine z_aload_0 d_Mo_many_34 ?_
              refine z_getR d_Mo_many_35 f_Mo_35 (by first | assumption | exact zS0_at (by assumption) (by omega) | exact zS0_at rfl (by omega)) (by first | assumption | exact zS0_at (by assumption) (by omega) | exact zS0_at rfl (by omega)) ?_
              refine z_iload_1 d_Mo_many_38 ?_
              first | refine z_ialdNv d_Mo_many_39 (by first | assumption | exact zS0_at (by assumption) (by omega) | exact zS0_at rfl (by omega)) (by omega) (by first | decide | omega) (by first | assumption | ((try simp (disch := omega) only [zu_same, zu_ne, zcp_ne, zfl_ne]); first | assumption | rfl)) ?_ | refine z_iald d_Mo_many_39 (by first | assumption | exact zS0_at (by assumption) (by omega) | exact zS0_at rfl (by omega)) (by first | assumption | exact zS0_at (by assumption) (by omega) | exact zS0_at rfl (by omega)) ?_
              refine z_goto (tgt := 64) d_Mo_many_40 (by decide) ?_
              refine z_reti d_Mo_many_64 ?_
              exact ⟨by first | rfl | assumption | (rw [e150]), _, _, rfl, (by repeat (first | exact h1 | refine mqF_z ?_ (by decide))), mqJ_r, (by first | exact zu_same _ _ _ _ | exact h0)⟩))
  · first
    | contradiction
    | ( skip
        refine z_if_ne (tgt := 28) d_Mo_many_19 (by decide) (fun h => absurd h (by decide)) (fun _ => ?_)
        refine z_aload_0 d_Mo_many_22 ?_
        refine z_iconst (a := nI 5) d_Mo_many_23 (by decide) ?_
        refine z_Vi1 d_Mo_many_24 k_Mo_327 (by first | assumption | exact zS0_at (by assumption) (by omega) | exact zS0_at rfl (by omega)) (t_Mo_refuse (by assumption)) ⟨Nat.le_of_ble_eq_true rfl, Nat.le_of_ble_eq_true rfl, Nat.le_of_ble_eq_true rfl, Nat.le_of_ble_eq_true rfl⟩ (Nat.le_of_ble_eq_true rfl) ?_
        intro r w hq
        obtain ⟨rfl, rfl⟩ := hq
        refine z_reti d_Mo_many_27 ?_
        exact ⟨by first | rfl | assumption | (rw [e150]), _, _, rfl, (by repeat (first | exact h1 | refine mqF_z ?_ (by decide))), mqJ_r, (by first | exact zu_same _ _ _ _ | exact h0)⟩)
theorem t_Tf_many_7 (Z : clOk f d P S) (N : fenIn I f nt np nl nn) : zEi G y_Tf_many prog_1_method_13_code 2 (some .int) 4 [.ref 0, .int (nI 7)] (I, J, P, S) (fun r w => r = I f 7 ∧ cW I J P S 0 w) := by
  obtain ⟨⟨c0, c3, c1s⟩, ⟨c5, c2s, ctr⟩, ⟨c6, c11s, c11, c13s⟩, ⟨c7, c15s, c15⟩, ⟨c8, c16s, c16a, c16b, c17s⟩, ⟨c9, c10, cfd, F, Fd⟩, ⟨c11b, Ft⟩, ⟨c12, c69s, cmk⟩, ⟨c14, c121s, c121, c122s⟩, ⟨c15b, c123s, c123, c124s⟩, ⟨c16, c125s, c125, c126s⟩, ⟨c17, c127s, c127, c128s, ctb⟩, ⟨c18, c139s, c139, c140s⟩, ⟨c19, c141s, ⟨c141a, c142s⟩, ⟨c141b, c143s⟩, ⟨c141c, c144s⟩⟩, M⟩ := id Z
  obtain ⟨F0, ⟨F8, F8s⟩, ⟨F9, F9s⟩, ⟨F10, F10s⟩, ⟨F11, F11s⟩, ⟨F12, F12s⟩, ⟨F13, F13s⟩, ⟨F14, F14s⟩, ⟨F15, F15s⟩, ⟨F16, F16s⟩, ⟨F17, F17s⟩, ⟨F18, F18s⟩, ⟨F19, F19s⟩, ⟨Y3, Y3s⟩, ⟨Y4, Y4s⟩, ⟨Y5, Y5s⟩, ⟨Y6, Y6s⟩⟩ := id F
  obtain ⟨⟨n1, n1b⟩, ⟨n2, n2b⟩, ⟨n3, n3b⟩, ⟨n4, n4b⟩, nof, non⟩ := id N
  refine zEi_of (lv := [some (.ref 0), some (.int (nI 7))]) (by decide) rfl (Nat.le_of_ble_eq_true rfl) ?_
  refine z_iload_1 d_Tf_many_0 ?_
  refine z_tableIn (off := 140) (tgt := 141) d_Tf_many_1 (by decide) (by decide) (by decide) (by decide) ?_
  refine z_aload_0 d_Tf_many_141 ?_
  refine z_aload_0 d_Tf_many_142 ?_
  refine z_getR d_Tf_many_143 f_Tf_60 (by first | assumption | exact zS0_at (by assumption) (by omega) | exact zS0_at rfl (by omega)) (by first | assumption | exact zS0_at (by assumption) (by omega) | exact zS0_at rfl (by omega)) ?_
  refine z_getIv d_Tf_many_146 f_Tf_217 (by first | assumption | exact zS0_at (by assumption) (by omega) | exact zS0_at rfl (by omega)) (by first | assumption | ((try simp (disch := omega) only [zu_same, zu_ne, zcp_ne, zfl_ne]); first | assumption | rfl)) ?_
  refine z_Vi1 d_Tf_many_149 k_Tf_174 (by first | assumption | exact zS0_at (by assumption) (by omega) | exact zS0_at rfl (by omega)) (t_Tf_give (by assumption)) ⟨Nat.le_of_ble_eq_true rfl, Nat.le_of_ble_eq_true rfl, Nat.le_of_ble_eq_true rfl, Nat.le_of_ble_eq_true rfl⟩ (Nat.le_of_ble_eq_true rfl) ?_
  intro r w hq
  obtain ⟨rfl, rfl⟩ := hq
  refine z_reti d_Tf_many_152 ?_
  exact ⟨by first | rfl | assumption, cW_0⟩
theorem t_Mo_many_7 (M : modOk P S) (N : modIn I nt np nl nn) : zEi G y_Mo_many prog_14_method_84_code 2 (some .int) 5 [.ref 145, .int (nI 7)] (I, J, P, S) (fun r w => r = s_set (fun t => decide (I 150 (60 + t) = nI 1)) nn ∧ mW I J P S 0 w) := by
  obtain ⟨M0, ⟨M4, M4s⟩, ⟨M5, M5s⟩, ⟨M6, M6s⟩, ⟨M7, M7s⟩, ⟨M20, M20s⟩, ⟨M21, M21s⟩, ⟨M22, M22s⟩, ⟨M26, M26s⟩, ⟨M27, M27s⟩, ⟨M28, M28s⟩, ⟨M30, M30s⟩, ⟨M34, M34s⟩, ⟨M36, M36s⟩, ⟨M37, M37s⟩⟩ := id M
  obtain ⟨I1, hI1, N1, h1, h0, e150, er, ek⟩ := mo_beg N
  obtain ⟨⟨m0, m0b⟩, ⟨m1, m1b⟩, ⟨m2, m2b⟩, ⟨m3, m3b⟩, mof, mon⟩ := id N1
  have hD : mD I I1 := ⟨h1, h0, e150, er⟩
  refine zEi_of (lv := [some (.ref 145), some (.int (nI 7))]) (by decide) rfl (Nat.le_of_ble_eq_true rfl) ?_
  refine z_aload_0 d_Mo_many_0 ?_
  refine z_iconst (a := nI 0) d_Mo_many_1 (by decide) ?_
  refine z_putI d_Mo_many_2 f_Mo_70 (by first | assumption | exact zS0_at (by assumption) (by omega) | exact zS0_at rfl (by omega)) ?_
  refine z_aload_0 d_Mo_many_5 ?_
  refine z_iconst (a := nI 0) d_Mo_many_6 (by decide) ?_
  refine z_putI d_Mo_many_7 f_Mo_73 (by first | assumption | exact zS0_at (by assumption) (by omega) | exact zS0_at rfl (by omega)) ?_
  rw [← hI1]
  have hzb : zin (nI 7) 10 := ⟨7, by decide, rfl⟩
  refine z_iload_1 d_Mo_many_10 ?_
  refine z_i2l d_Mo_many_11 ?_
  refine z_lconst (f := lN 0) d_Mo_many_12 rfl ?_
  refine z_ldc2 d_Mo_many_13 c_Mo_325 ?_
  refine z_Si3 d_Mo_many_16 k_Mo_105 (t_Mo_isInZ (m := 10) (by decide) (by decide)) ⟨Nat.le_of_ble_eq_true rfl, Nat.le_of_ble_eq_true rfl, Nat.le_of_ble_eq_true rfl, Nat.le_of_ble_eq_true rfl⟩ (Nat.le_of_ble_eq_true rfl) ?_
  intro r w hq
  rcases hq with ⟨⟨hz16, rfl⟩ | ⟨hz16, rfl⟩, rfl⟩
  · first
    | contradiction
    | ( skip
        refine z_if_ne (tgt := 28) d_Mo_many_19 (by decide) (fun _ => ?_) (fun h => absurd h (by decide))
        refine z_iload_1 d_Mo_many_28 ?_
        refine z_bipush (a := nI 6) d_Mo_many_29 (by decide) ?_
        refine z_icmp_ge (tgt := 43) d_Mo_many_31 (by decide) (fun h31 => ?_) (fun h31 => ?_)
        · first
          | (simp (disch := omega) only [← nI_0, nI_leI, nI_ltI, nI_eq, not_true_eq_false, not_false_eq_true] at h31; done)
          | (simp (disch := omega) only [← nI_0, nI_leI, nI_ltI, nI_eq, not_true_eq_false, not_false_eq_true] at h31; omega)
          | contradiction
          | exact absurd h31 (Int32.not_lt.mpr (by assumption))
          | exact absurd h31 (Int32.not_le.mpr (by assumption))
          | exact absurd h31 (by decide)
          | exact absurd (by decide) h31
          | ( try simp (disch := omega) only [← nI_0, nI_leI, nI_ltI, nI_eq, not_true_eq_false, not_false_eq_true] at h31
              (try have h31b := zbit_n0.mp h31); (try have h31b := zbit_p0.mp h31)
              refine z_iload_1 d_Mo_many_43 ?_
              refine z_bipush (a := nI 9) d_Mo_many_44 (by decide) ?_
              refine z_icmp_ge (tgt := 60) d_Mo_many_46 (by decide) (fun h46 => ?_) (fun h46 => ?_)
              · first
                | (simp (disch := omega) only [← nI_0, nI_leI, nI_ltI, nI_eq, not_true_eq_false, not_false_eq_true] at h46; done)
                | (simp (disch := omega) only [← nI_0, nI_leI, nI_ltI, nI_eq, not_true_eq_false, not_false_eq_true] at h46; omega)
                | contradiction
                | exact absurd h46 (Int32.not_lt.mpr (by assumption))
                | exact absurd h46 (Int32.not_le.mpr (by assumption))
                | exact absurd h46 (by decide)
                | exact absurd (by decide) h46
                | ( try simp (disch := omega) only [← nI_0, nI_leI, nI_ltI, nI_eq, not_true_eq_false, not_false_eq_true] at h46
                    (try have h46b := zbit_n0.mp h46); (try have h46b := zbit_p0.mp h46)
                    refine z_aload_0 d_Mo_many_60 ?_
                    fail)
              · first
                | (simp (disch := omega) only [← nI_0, nI_leI, nI_ltI, nI_eq, not_true_eq_false, not_false_eq_true] at h46; done)
                | (simp (disch := omega) only [← nI_0, nI_leI, nI_ltI, nI_eq, not_true_eq_false, not_false_eq_true] at h46; omega)
                | contradiction
                | exact absurd h46 (Int32.not_lt.mpr (by assumption))
                | exact absurd h46 (Int32.not_le.mpr (by assumption))
                | exact absurd h46 (by decide)
                | exact absurd (by decide) h46
                | ( try simp (disch := omega) only [← nI_0, nI_leI, nI_ltI, nI_eq, not_true_eq_false, not_false_eq_true] at h46
                    (try have h46b := zbit_n0.mp h46); (try have h46b := zbit_p0.mp h46)
                    refine z_aload_0 d_Mo_many_49 ?_
                    refine z_iload_1 d_Mo_many_50 ?_
                    refine z_bipush (a := nI 6) d_Mo_many_51 (by decide) ?_
                    first | refine z_isubN d_Mo_many_53 (by omega) ?_ | refine z_isub d_Mo_many_53 ?_
                    refine z_Vi1 d_Mo_many_54 k_Mo_319 (by first | assumption | exact zS0_at (by assumption) (by omega) | exact zS0_at rfl (by omega)) (t_Mo_tinsThat1 M N1) ⟨Nat.le_of_ble_eq_true rfl, Nat.le_of_ble_eq_true rfl, Nat.le_of_ble_eq_true rfl, Nat.le_of_ble_eq_true rfl⟩ (Nat.le_of_ble_eq_true rfl) ?_
                    intro r w hq
                    obtain ⟨rfl, rfl⟩ := hq
                    refine z_goto (tgt := 64) d_Mo_many_57 (by decide) ?_
                    refine z_reti d_Mo_many_64 ?_
                    exact ⟨by first | rfl | assumption | (rw [e150]), _, _, rfl, (by repeat (first | exact h1 | refine mqF_z ?_ (by decide))), mqJ_r, (by first | exact zu_same _ _ _ _ | exact h0)⟩))
        · first
          | (simp (disch := omega) only [← nI_0, nI_leI, nI_ltI, nI_eq, not_true_eq_false, not_false_eq_true] at h31; done)
          | (simp (disch := omega) only [← nI_0, nI_leI, nI_ltI, nI_eq, not_true_eq_false, not_false_eq_true] at h31; omega)
          | contradiction
          | exact absurd h31 (Int32.not_lt.mpr (by assumption))
          | exact absurd h31 (Int32.not_le.mpr (by assumption))
          | exact absurd h31 (by decide)
          | exact absurd (by decide) h31
          | ( try simp (disch := omega) only [← nI_0, nI_leI, nI_ltI, nI_eq, not_true_eq_false, not_false_eq_true] at h31
              (try have h31b := zbit_n0.mp h31); (try have h31b := zbit_p0.mp h31)
              refine z_aload_0 d_Mo_many_34 ?_
              refine z_getR d_Mo_many_35 f_Mo_35 (by first | assumption | exact zS0_at (by assumption) (by omega) | exact zS0_at rfl (by omega)) (by first | assumption | exact zS0_at (by assumption) (by omega) | exact zS0_at rfl (by omega)) ?_
              refine z_iload_1 d_Mo_many_38 ?_
              first | refine z_ialdNv d_Mo_many_39 (by first | assumption | exact zS0_at (by assumption) (by omega) | exact zS0_at rfl (by omega)) (by omega) (by first | decide | omega) (by first | assumption | ((try simp (disch := omega) only [zu_same, zu_ne, zcp_ne, zfl_ne]); first | assumption | rfl)) ?_ | refine z_iald d_Mo_many_39 (by first | assumption | exact zS0_at (by assumption) (by omega) | exact zS0_at rfl (by omega)) (by first | assumption | exact zS0_at (by assumption) (by omega) | exact zS0_at rfl (by omega)) ?_
              refine z_goto (tgt := 64) d_Mo_many_40 (by decide) ?_
              refine z_reti d_Mo_many_64 ?_
              exact ⟨by first | rfl | assumption | (rw [e150]), _, _, rfl, (by repeat (first | exact h1 | refine mqF_z ?_ (by decide))), mqJ_r, (by first | exact zu_same _ _ _ _ | exact h0)⟩))
  · first
    | contradiction
    | ( skip
        refine z_if_ne (tgt := 28) d_Mo_many_19 (by decide) (fun h => absurd h (by decide)) (fun _ => ?_)
        refine z_aload_0 d_Mo_many_22 ?_
        refine z_iconst (a := nI 5) d_Mo_many_23 (by decide) ?_
        refine z_Vi1 d_Mo_many_24 k_Mo_327 (by first | assumption | exact zS0_at (by assumption) (by omega) | exact zS0_at rfl (by omega)) (t_Mo_refuse (by assumption)) ⟨Nat.le_of_ble_eq_true rfl, Nat.le_of_ble_eq_true rfl, Nat.le_of_ble_eq_true rfl, Nat.le_of_ble_eq_true rfl⟩ (Nat.le_of_ble_eq_true rfl) ?_
        intro r w hq
        obtain ⟨rfl, rfl⟩ := hq
        refine z_reti d_Mo_many_27 ?_
        exact ⟨by first | rfl | assumption | (rw [e150]), _, _, rfl, (by repeat (first | exact h1 | refine mqF_z ?_ (by decide))), mqJ_r, (by first | exact zu_same _ _ _ _ | exact h0)⟩)
theorem t_Tf_many_8 (Z : clOk f d P S) (N : fenIn I f nt np nl nn) : zEi G y_Tf_many prog_1_method_13_code 2 (some .int) 4 [.ref 0, .int (nI 8)] (I, J, P, S) (fun r w => r = I f 6 ∧ cW I J P S 0 w) := by
  obtain ⟨⟨c0, c3, c1s⟩, ⟨c5, c2s, ctr⟩, ⟨c6, c11s, c11, c13s⟩, ⟨c7, c15s, c15⟩, ⟨c8, c16s, c16a, c16b, c17s⟩, ⟨c9, c10, cfd, F, Fd⟩, ⟨c11b, Ft⟩, ⟨c12, c69s, cmk⟩, ⟨c14, c121s, c121, c122s⟩, ⟨c15b, c123s, c123, c124s⟩, ⟨c16, c125s, c125, c126s⟩, ⟨c17, c127s, c127, c128s, ctb⟩, ⟨c18, c139s, c139, c140s⟩, ⟨c19, c141s, ⟨c141a, c142s⟩, ⟨c141b, c143s⟩, ⟨c141c, c144s⟩⟩, M⟩ := id Z
  obtain ⟨F0, ⟨F8, F8s⟩, ⟨F9, F9s⟩, ⟨F10, F10s⟩, ⟨F11, F11s⟩, ⟨F12, F12s⟩, ⟨F13, F13s⟩, ⟨F14, F14s⟩, ⟨F15, F15s⟩, ⟨F16, F16s⟩, ⟨F17, F17s⟩, ⟨F18, F18s⟩, ⟨F19, F19s⟩, ⟨Y3, Y3s⟩, ⟨Y4, Y4s⟩, ⟨Y5, Y5s⟩, ⟨Y6, Y6s⟩⟩ := id F
  obtain ⟨⟨n1, n1b⟩, ⟨n2, n2b⟩, ⟨n3, n3b⟩, ⟨n4, n4b⟩, nof, non⟩ := id N
  refine zEi_of (lv := [some (.ref 0), some (.int (nI 8))]) (by decide) rfl (Nat.le_of_ble_eq_true rfl) ?_
  refine z_iload_1 d_Tf_many_0 ?_
  refine z_tableIn (off := 152) (tgt := 153) d_Tf_many_1 (by decide) (by decide) (by decide) (by decide) ?_
  refine z_aload_0 d_Tf_many_153 ?_
  refine z_aload_0 d_Tf_many_154 ?_
  refine z_getR d_Tf_many_155 f_Tf_60 (by first | assumption | exact zS0_at (by assumption) (by omega) | exact zS0_at rfl (by omega)) (by first | assumption | exact zS0_at (by assumption) (by omega) | exact zS0_at rfl (by omega)) ?_
  refine z_getIv d_Tf_many_158 f_Tf_220 (by first | assumption | exact zS0_at (by assumption) (by omega) | exact zS0_at rfl (by omega)) (by first | assumption | ((try simp (disch := omega) only [zu_same, zu_ne, zcp_ne, zfl_ne]); first | assumption | rfl)) ?_
  refine z_Vi1 d_Tf_many_161 k_Tf_174 (by first | assumption | exact zS0_at (by assumption) (by omega) | exact zS0_at rfl (by omega)) (t_Tf_give (by assumption)) ⟨Nat.le_of_ble_eq_true rfl, Nat.le_of_ble_eq_true rfl, Nat.le_of_ble_eq_true rfl, Nat.le_of_ble_eq_true rfl⟩ (Nat.le_of_ble_eq_true rfl) ?_
  intro r w hq
  obtain ⟨rfl, rfl⟩ := hq
  refine z_reti d_Tf_many_164 ?_
  exact ⟨by first | rfl | assumption, cW_0⟩
theorem t_Mo_many_8 (M : modOk P S) (N : modIn I nt np nl nn) : zEi G y_Mo_many prog_14_method_84_code 2 (some .int) 5 [.ref 145, .int (nI 8)] (I, J, P, S) (fun r w => r = s_set (fun t => decide (I 150 (51 + t) = nI 1)) nn ∧ mW I J P S 0 w) := by
  obtain ⟨M0, ⟨M4, M4s⟩, ⟨M5, M5s⟩, ⟨M6, M6s⟩, ⟨M7, M7s⟩, ⟨M20, M20s⟩, ⟨M21, M21s⟩, ⟨M22, M22s⟩, ⟨M26, M26s⟩, ⟨M27, M27s⟩, ⟨M28, M28s⟩, ⟨M30, M30s⟩, ⟨M34, M34s⟩, ⟨M36, M36s⟩, ⟨M37, M37s⟩⟩ := id M
  obtain ⟨I1, hI1, N1, h1, h0, e150, er, ek⟩ := mo_beg N
  obtain ⟨⟨m0, m0b⟩, ⟨m1, m1b⟩, ⟨m2, m2b⟩, ⟨m3, m3b⟩, mof, mon⟩ := id N1
  have hD : mD I I1 := ⟨h1, h0, e150, er⟩
  refine zEi_of (lv := [some (.ref 145), some (.int (nI 8))]) (by decide) rfl (Nat.le_of_ble_eq_true rfl) ?_
  refine z_aload_0 d_Mo_many_0 ?_
  refine z_iconst (a := nI 0) d_Mo_many_1 (by decide) ?_
  refine z_putI d_Mo_many_2 f_Mo_70 (by first | assumption | exact zS0_at (by assumption) (by omega) | exact zS0_at rfl (by omega)) ?_
  refine z_aload_0 d_Mo_many_5 ?_
  refine z_iconst (a := nI 0) d_Mo_many_6 (by decide) ?_
  refine z_putI d_Mo_many_7 f_Mo_73 (by first | assumption | exact zS0_at (by assumption) (by omega) | exact zS0_at rfl (by omega)) ?_
  rw [← hI1]
  have hzb : zin (nI 8) 10 := ⟨8, by decide, rfl⟩
  refine z_iload_1 d_Mo_many_10 ?_
  refine z_i2l d_Mo_many_11 ?_
  refine z_lconst (f := lN 0) d_Mo_many_12 rfl ?_
  refine z_ldc2 d_Mo_many_13 c_Mo_325 ?_
  refine z_Si3 d_Mo_many_16 k_Mo_105 (t_Mo_isInZ (m := 10) (by decide) (by decide)) ⟨Nat.le_of_ble_eq_true rfl, Nat.le_of_ble_eq_true rfl, Nat.le_of_ble_eq_true rfl, Nat.le_of_ble_eq_true rfl⟩ (Nat.le_of_ble_eq_true rfl) ?_
  intro r w hq
  rcases hq with ⟨⟨hz16, rfl⟩ | ⟨hz16, rfl⟩, rfl⟩
  · first
    | contradiction
    | ( skip
        refine z_if_ne (tgt := 28) d_Mo_many_19 (by decide) (fun _ => ?_) (fun h => absurd h (by decide))
        refine z_iload_1 d_Mo_many_28 ?_
        refine z_bipush (a := nI 6) d_Mo_many_29 (by decide) ?_
        refine z_icmp_ge (tgt := 43) d_Mo_many_31 (by decide) (fun h31 => ?_) (fun h31 => ?_)
        · first
          | (simp (disch := omega) only [← nI_0, nI_leI, nI_ltI, nI_eq, not_true_eq_false, not_false_eq_true] at h31; done)
          | (simp (disch := omega) only [← nI_0, nI_leI, nI_ltI, nI_eq, not_true_eq_false, not_false_eq_true] at h31; omega)
          | contradiction
          | exact absurd h31 (Int32.not_lt.mpr (by assumption))
          | exact absurd h31 (Int32.not_le.mpr (by assumption))
          | exact absurd h31 (by decide)
          | exact absurd (by decide) h31
          | ( try simp (disch := omega) only [← nI_0, nI_leI, nI_ltI, nI_eq, not_true_eq_false, not_false_eq_true] at h31
              (try have h31b := zbit_n0.mp h31); (try have h31b := zbit_p0.mp h31)
              refine z_iload_1 d_Mo_many_43 ?_
              refine z_bipush (a := nI 9) d_Mo_many_44 (by decide) ?_
              refine z_icmp_ge (tgt := 60) d_Mo_many_46 (by decide) (fun h46 => ?_) (fun h46 => ?_)
              · first
                | (simp (disch := omega) only [← nI_0, nI_leI, nI_ltI, nI_eq, not_true_eq_false, not_false_eq_true] at h46; done)
                | (simp (disch := omega) only [← nI_0, nI_leI, nI_ltI, nI_eq, not_true_eq_false, not_false_eq_true] at h46; omega)
                | contradiction
                | exact absurd h46 (Int32.not_lt.mpr (by assumption))
                | exact absurd h46 (Int32.not_le.mpr (by assumption))
                | exact absurd h46 (by decide)
                | exact absurd (by decide) h46
                | ( try simp (disch := omega) only [← nI_0, nI_leI, nI_ltI, nI_eq, not_true_eq_false, not_false_eq_true] at h46
                    (try have h46b := zbit_n0.mp h46); (try have h46b := zbit_p0.mp h46)
                    refine z_aload_0 d_Mo_many_60 ?_
                    fail)
              · first
                | (simp (disch := omega) only [← nI_0, nI_leI, nI_ltI, nI_eq, not_true_eq_false, not_false_eq_true] at h46; done)
                | (simp (disch := omega) only [← nI_0, nI_leI, nI_ltI, nI_eq, not_true_eq_false, not_false_eq_true] at h46; omega)
                | contradiction
                | exact absurd h46 (Int32.not_lt.mpr (by assumption))
                | exact absurd h46 (Int32.not_le.mpr (by assumption))
                | exact absurd h46 (by decide)
                | exact absurd (by decide) h46
                | ( try simp (disch := omega) only [← nI_0, nI_leI, nI_ltI, nI_eq, not_true_eq_false, not_false_eq_true] at h46
                    (try have h46b := zbit_n0.mp h46); (try have h46b := zbit_p0.mp h46)
                    refine z_aload_0 d_Mo_many_49 ?_
                    refine z_iload_1 d_Mo_many_50 ?_
                    refine z_bipush (a := nI 6) d_Mo_many_51 (by decide) ?_
                    first | refine z_isubN d_Mo_many_53 (by omega) ?_ | refine z_isub d_Mo_many_53 ?_
                    refine z_Vi1 d_Mo_many_54 k_Mo_319 (by first | assumption | exact zS0_at (by assumption) (by omega) | exact zS0_at rfl (by omega)) (t_Mo_tinsThat2 M N1) ⟨Nat.le_of_ble_eq_true rfl, Nat.le_of_ble_eq_true rfl, Nat.le_of_ble_eq_true rfl, Nat.le_of_ble_eq_true rfl⟩ (Nat.le_of_ble_eq_true rfl) ?_
                    intro r w hq
                    obtain ⟨rfl, rfl⟩ := hq
                    refine z_goto (tgt := 64) d_Mo_many_57 (by decide) ?_
                    refine z_reti d_Mo_many_64 ?_
                    exact ⟨by first | rfl | assumption | (rw [e150]), _, _, rfl, (by repeat (first | exact h1 | refine mqF_z ?_ (by decide))), mqJ_r, (by first | exact zu_same _ _ _ _ | exact h0)⟩))
        · first
          | (simp (disch := omega) only [← nI_0, nI_leI, nI_ltI, nI_eq, not_true_eq_false, not_false_eq_true] at h31; done)
          | (simp (disch := omega) only [← nI_0, nI_leI, nI_ltI, nI_eq, not_true_eq_false, not_false_eq_true] at h31; omega)
          | contradiction
          | exact absurd h31 (Int32.not_lt.mpr (by assumption))
          | exact absurd h31 (Int32.not_le.mpr (by assumption))
          | exact absurd h31 (by decide)
          | exact absurd (by decide) h31
          | ( try simp (disch := omega) only [← nI_0, nI_leI, nI_ltI, nI_eq, not_true_eq_false, not_false_eq_true] at h31
              (try have h31b := zbit_n0.mp h31); (try have h31b := zbit_p0.mp h31)
              refine z_aload_0 d_Mo_many_34 ?_
              refine z_getR d_Mo_many_35 f_Mo_35 (by first | assumption | exact zS0_at (by assumption) (by omega) | exact zS0_at rfl (by omega)) (by first | assumption | exact zS0_at (by assumption) (by omega) | exact zS0_at rfl (by omega)) ?_
              refine z_iload_1 d_Mo_many_38 ?_
              first | refine z_ialdNv d_Mo_many_39 (by first | assumption | exact zS0_at (by assumption) (by omega) | exact zS0_at rfl (by omega)) (by omega) (by first | decide | omega) (by first | assumption | ((try simp (disch := omega) only [zu_same, zu_ne, zcp_ne, zfl_ne]); first | assumption | rfl)) ?_ | refine z_iald d_Mo_many_39 (by first | assumption | exact zS0_at (by assumption) (by omega) | exact zS0_at rfl (by omega)) (by first | assumption | exact zS0_at (by assumption) (by omega) | exact zS0_at rfl (by omega)) ?_
              refine z_goto (tgt := 64) d_Mo_many_40 (by decide) ?_
              refine z_reti d_Mo_many_64 ?_
              exact ⟨by first | rfl | assumption | (rw [e150]), _, _, rfl, (by repeat (first | exact h1 | refine mqF_z ?_ (by decide))), mqJ_r, (by first | exact zu_same _ _ _ _ | exact h0)⟩))
  · first
    | contradiction
    | ( skip
        refine z_if_ne (tgt := 28) d_Mo_many_19 (by decide) (fun h => absurd h (by decide)) (fun _ => ?_)
        refine z_aload_0 d_Mo_many_22 ?_
        refine z_iconst (a := nI 5) d_Mo_many_23 (by decide) ?_
        refine z_Vi1 d_Mo_many_24 k_Mo_327 (by first | assumption | exact zS0_at (by assumption) (by omega) | exact zS0_at rfl (by omega)) (t_Mo_refuse (by assumption)) ⟨Nat.le_of_ble_eq_true rfl, Nat.le_of_ble_eq_true rfl, Nat.le_of_ble_eq_true rfl, Nat.le_of_ble_eq_true rfl⟩ (Nat.le_of_ble_eq_true rfl) ?_
        intro r w hq
        obtain ⟨rfl, rfl⟩ := hq
        refine z_reti d_Mo_many_27 ?_
        exact ⟨by first | rfl | assumption | (rw [e150]), _, _, rfl, (by repeat (first | exact h1 | refine mqF_z ?_ (by decide))), mqJ_r, (by first | exact zu_same _ _ _ _ | exact h0)⟩)
theorem t_Tf_many_9 (Z : clOk f d P S) (N : fenIn I f nt np nl nn) : zEi G y_Tf_many prog_1_method_13_code 2 (some .int) 4 [.ref 0, .int (nI 9)] (I, J, P, S) (fun r w => r = s_sum (fun t => zB (s_set (fun t => decide (I (f + 6) t = -1)) nn ^^^ -1) t) (fun t => I (f + 1) (I (f + 5) t).toNatClampNeg) nn ∧ cW I J P S 0 w) := by
  obtain ⟨⟨c0, c3, c1s⟩, ⟨c5, c2s, ctr⟩, ⟨c6, c11s, c11, c13s⟩, ⟨c7, c15s, c15⟩, ⟨c8, c16s, c16a, c16b, c17s⟩, ⟨c9, c10, cfd, F, Fd⟩, ⟨c11b, Ft⟩, ⟨c12, c69s, cmk⟩, ⟨c14, c121s, c121, c122s⟩, ⟨c15b, c123s, c123, c124s⟩, ⟨c16, c125s, c125, c126s⟩, ⟨c17, c127s, c127, c128s, ctb⟩, ⟨c18, c139s, c139, c140s⟩, ⟨c19, c141s, ⟨c141a, c142s⟩, ⟨c141b, c143s⟩, ⟨c141c, c144s⟩⟩, M⟩ := id Z
  obtain ⟨F0, ⟨F8, F8s⟩, ⟨F9, F9s⟩, ⟨F10, F10s⟩, ⟨F11, F11s⟩, ⟨F12, F12s⟩, ⟨F13, F13s⟩, ⟨F14, F14s⟩, ⟨F15, F15s⟩, ⟨F16, F16s⟩, ⟨F17, F17s⟩, ⟨F18, F18s⟩, ⟨F19, F19s⟩, ⟨Y3, Y3s⟩, ⟨Y4, Y4s⟩, ⟨Y5, Y5s⟩, ⟨Y6, Y6s⟩⟩ := id F
  obtain ⟨⟨n1, n1b⟩, ⟨n2, n2b⟩, ⟨n3, n3b⟩, ⟨n4, n4b⟩, nof, non⟩ := id N
  refine zEi_of (lv := [some (.ref 0), some (.int (nI 9))]) (by decide) rfl (Nat.le_of_ble_eq_true rfl) ?_
  refine z_iload_1 d_Tf_many_0 ?_
  refine z_tableIn (off := 164) (tgt := 165) d_Tf_many_1 (by decide) (by decide) (by decide) (by decide) ?_
  refine z_aload_0 d_Tf_many_165 ?_
  refine z_aload_0 d_Tf_many_166 ?_
  refine z_getR d_Tf_many_167 f_Tf_60 (by first | assumption | exact zS0_at (by assumption) (by omega) | exact zS0_at rfl (by omega)) (by first | assumption | exact zS0_at (by assumption) (by omega) | exact zS0_at rfl (by omega)) ?_
  refine z_Vi0 d_Tf_many_170 k_Tf_223 (by first | assumption | exact zS0_at (by assumption) (by omega) | exact zS0_at rfl (by omega)) (t_Fen_worthOfAll (by assumption) (by assumption)) ⟨Nat.le_of_ble_eq_true rfl, Nat.le_of_ble_eq_true rfl, Nat.le_of_ble_eq_true rfl, Nat.le_of_ble_eq_true rfl⟩ (Nat.le_of_ble_eq_true rfl) ?_
  intro r w hq
  obtain ⟨rfl, rfl⟩ := hq
  refine z_Vi1 d_Tf_many_173 k_Tf_174 (by first | assumption | exact zS0_at (by assumption) (by omega) | exact zS0_at rfl (by omega)) (t_Tf_give (by assumption)) ⟨Nat.le_of_ble_eq_true rfl, Nat.le_of_ble_eq_true rfl, Nat.le_of_ble_eq_true rfl, Nat.le_of_ble_eq_true rfl⟩ (Nat.le_of_ble_eq_true rfl) ?_
  intro r w hq
  obtain ⟨rfl, rfl⟩ := hq
  refine z_reti d_Tf_many_176 ?_
  exact ⟨by first | rfl | assumption, cW_0⟩
theorem t_Mo_many_9 (M : modOk P S) (N : modIn I nt np nl nn) : zEi G y_Mo_many prog_14_method_84_code 2 (some .int) 5 [.ref 145, .int (nI 9)] (I, J, P, S) (fun r w => r = s_sum (zB (nI (2 ^ nn - 1) &&& (s_set (fun t => decide (I 150 (42 + t) < 0)) nn ^^^ -1))) (fun t => I 150 (6 + (I 150 (33 + t)).toNatClampNeg)) nn ∧ mW I J P S 0 w) := by
  obtain ⟨M0, ⟨M4, M4s⟩, ⟨M5, M5s⟩, ⟨M6, M6s⟩, ⟨M7, M7s⟩, ⟨M20, M20s⟩, ⟨M21, M21s⟩, ⟨M22, M22s⟩, ⟨M26, M26s⟩, ⟨M27, M27s⟩, ⟨M28, M28s⟩, ⟨M30, M30s⟩, ⟨M34, M34s⟩, ⟨M36, M36s⟩, ⟨M37, M37s⟩⟩ := id M
  obtain ⟨I1, hI1, N1, h1, h0, e150, er, ek⟩ := mo_beg N
  obtain ⟨⟨m0, m0b⟩, ⟨m1, m1b⟩, ⟨m2, m2b⟩, ⟨m3, m3b⟩, mof, mon⟩ := id N1
  have hD : mD I I1 := ⟨h1, h0, e150, er⟩
  refine zEi_of (lv := [some (.ref 145), some (.int (nI 9))]) (by decide) rfl (Nat.le_of_ble_eq_true rfl) ?_
  refine z_aload_0 d_Mo_many_0 ?_
  refine z_iconst (a := nI 0) d_Mo_many_1 (by decide) ?_
  refine z_putI d_Mo_many_2 f_Mo_70 (by first | assumption | exact zS0_at (by assumption) (by omega) | exact zS0_at rfl (by omega)) ?_
  refine z_aload_0 d_Mo_many_5 ?_
  refine z_iconst (a := nI 0) d_Mo_many_6 (by decide) ?_
  refine z_putI d_Mo_many_7 f_Mo_73 (by first | assumption | exact zS0_at (by assumption) (by omega) | exact zS0_at rfl (by omega)) ?_
  rw [← hI1]
  have hzb : zin (nI 9) 10 := ⟨9, by decide, rfl⟩
  refine z_iload_1 d_Mo_many_10 ?_
  refine z_i2l d_Mo_many_11 ?_
  refine z_lconst (f := lN 0) d_Mo_many_12 rfl ?_
  refine z_ldc2 d_Mo_many_13 c_Mo_325 ?_
  refine z_Si3 d_Mo_many_16 k_Mo_105 (t_Mo_isInZ (m := 10) (by decide) (by decide)) ⟨Nat.le_of_ble_eq_true rfl, Nat.le_of_ble_eq_true rfl, Nat.le_of_ble_eq_true rfl, Nat.le_of_ble_eq_true rfl⟩ (Nat.le_of_ble_eq_true rfl) ?_
  intro r w hq
  rcases hq with ⟨⟨hz16, rfl⟩ | ⟨hz16, rfl⟩, rfl⟩
  · first
    | contradiction
    | ( skip
        refine z_if_ne (tgt := 28) d_Mo_many_19 (by decide) (fun _ => ?_) (fun h => absurd h (by decide))
        refine z_iload_1 d_Mo_many_28 ?_
        refine z_bipush (a := nI 6) d_Mo_many_29 (by decide) ?_
        refine z_icmp_ge (tgt := 43) d_Mo_many_31 (by decide) (fun h31 => ?_) (fun h31 => ?_)
        · first
          | (simp (disch := omega) only [← nI_0, nI_leI, nI_ltI, nI_eq, not_true_eq_false, not_false_eq_true] at h31; done)
          | (simp (disch := omega) only [← nI_0, nI_leI, nI_ltI, nI_eq, not_true_eq_false, not_false_eq_true] at h31; omega)
          | contradiction
          | exact absurd h31 (Int32.not_lt.mpr (by assumption))
          | exact absurd h31 (Int32.not_le.mpr (by assumption))
          | exact absurd h31 (by decide)
          | exact absurd (by decide) h31
          | ( try simp (disch := omega) only [← nI_0, nI_leI, nI_ltI, nI_eq, not_true_eq_false, not_false_eq_true] at h31
              (try have h31b := zbit_n0.mp h31); (try have h31b := zbit_p0.mp h31)
              refine z_iload_1 d_Mo_many_43 ?_
              refine z_bipush (a := nI 9) d_Mo_many_44 (by decide) ?_
              refine z_icmp_ge (tgt := 60) d_Mo_many_46 (by decide) (fun h46 => ?_) (fun h46 => ?_)
              · first
                | (simp (disch := omega) only [← nI_0, nI_leI, nI_ltI, nI_eq, not_true_eq_false, not_false_eq_true] at h46; done)
                | (simp (disch := omega) only [← nI_0, nI_leI, nI_ltI, nI_eq, not_true_eq_false, not_false_eq_true] at h46; omega)
                | contradiction
                | exact absurd h46 (Int32.not_lt.mpr (by assumption))
                | exact absurd h46 (Int32.not_le.mpr (by assumption))
                | exact absurd h46 (by decide)
                | exact absurd (by decide) h46
                | ( try simp (disch := omega) only [← nI_0, nI_leI, nI_ltI, nI_eq, not_true_eq_false, not_false_eq_true] at h46
                    (try have h46b := zbit_n0.mp h46); (try have h46b := zbit_p0.mp h46)
                    refine z_aload_0 d_Mo_many_60 ?_
                    refine z_Vi0 d_Mo_many_61 k_Mo_330 (by first | assumption | exact zS0_at (by assumption) (by omega) | exact zS0_at rfl (by omega)) (t_Mo_allThere M N1) ⟨Nat.le_of_ble_eq_true rfl, Nat.le_of_ble_eq_true rfl, Nat.le_of_ble_eq_true rfl, Nat.le_of_ble_eq_true rfl⟩ (Nat.le_of_ble_eq_true rfl) ?_
                    intro r w hq
                    obtain ⟨rfl, rfl⟩ := hq
                    refine z_reti d_Mo_many_64 ?_
                    exact ⟨by first | rfl | assumption | (rw [e150]), _, _, rfl, (by repeat (first | exact h1 | refine mqF_z ?_ (by decide))), mqJ_r, (by first | exact zu_same _ _ _ _ | exact h0)⟩)
              · first
                | (simp (disch := omega) only [← nI_0, nI_leI, nI_ltI, nI_eq, not_true_eq_false, not_false_eq_true] at h46; done)
                | (simp (disch := omega) only [← nI_0, nI_leI, nI_ltI, nI_eq, not_true_eq_false, not_false_eq_true] at h46; omega)
                | contradiction
                | exact absurd h46 (Int32.not_lt.mpr (by assumption))
                | exact absurd h46 (Int32.not_le.mpr (by assumption))
                | exact absurd h46 (by decide)
                | exact absurd (by decide) h46
                | ( try simp (disch := omega) only [← nI_0, nI_leI, nI_ltI, nI_eq, not_true_eq_false, not_false_eq_true] at h46
                    (try have h46b := zbit_n0.mp h46); (try have h46b := zbit_p0.mp h46)
                    refine z_aload_0 d_Mo_many_49 ?_
                    refine z_iload_1 d_Mo_many_50 ?_
                    refine z_bipush (a := nI 6) d_Mo_many_51 (by decide) ?_
                    first | refine z_isubN d_Mo_many_53 (by omega) ?_ | refine z_isub d_Mo_many_53 ?_
                    fail))
        · first
          | (simp (disch := omega) only [← nI_0, nI_leI, nI_ltI, nI_eq, not_true_eq_false, not_false_eq_true] at h31; done)
          | (simp (disch := omega) only [← nI_0, nI_leI, nI_ltI, nI_eq, not_true_eq_false, not_false_eq_true] at h31; omega)
          | contradiction
          | exact absurd h31 (Int32.not_lt.mpr (by assumption))
          | exact absurd h31 (Int32.not_le.mpr (by assumption))
          | exact absurd h31 (by decide)
          | exact absurd (by decide) h31
          | ( try simp (disch := omega) only [← nI_0, nI_leI, nI_ltI, nI_eq, not_true_eq_false, not_false_eq_true] at h31
              (try have h31b := zbit_n0.mp h31); (try have h31b := zbit_p0.mp h31)
              refine z_aload_0 d_Mo_many_34 ?_
              refine z_getR d_Mo_many_35 f_Mo_35 (by first | assumption | exact zS0_at (by assumption) (by omega) | exact zS0_at rfl (by omega)) (by first | assumption | exact zS0_at (by assumption) (by omega) | exact zS0_at rfl (by omega)) ?_
              refine z_iload_1 d_Mo_many_38 ?_
              first | refine z_ialdNv d_Mo_many_39 (by first | assumption | exact zS0_at (by assumption) (by omega) | exact zS0_at rfl (by omega)) (by omega) (by first | decide | omega) (by first | assumption | ((try simp (disch := omega) only [zu_same, zu_ne, zcp_ne, zfl_ne]); first | assumption | rfl)) ?_ | refine z_iald d_Mo_many_39 (by first | assumption | exact zS0_at (by assumption) (by omega) | exact zS0_at rfl (by omega)) (by first | assumption | exact zS0_at (by assumption) (by omega) | exact zS0_at rfl (by omega)) ?_
              refine z_goto (tgt := 64) d_Mo_many_40 (by decide) ?_
              refine z_reti d_Mo_many_64 ?_
              exact ⟨by first | rfl | assumption | (rw [e150]), _, _, rfl, (by repeat (first | exact h1 | refine mqF_z ?_ (by decide))), mqJ_r, (by first | exact zu_same _ _ _ _ | exact h0)⟩))
  · first
    | contradiction
    | ( skip
        refine z_if_ne (tgt := 28) d_Mo_many_19 (by decide) (fun h => absurd h (by decide)) (fun _ => ?_)
        refine z_aload_0 d_Mo_many_22 ?_
        refine z_iconst (a := nI 5) d_Mo_many_23 (by decide) ?_
        refine z_Vi1 d_Mo_many_24 k_Mo_327 (by first | assumption | exact zS0_at (by assumption) (by omega) | exact zS0_at rfl (by omega)) (t_Mo_refuse (by assumption)) ⟨Nat.le_of_ble_eq_true rfl, Nat.le_of_ble_eq_true rfl, Nat.le_of_ble_eq_true rfl, Nat.le_of_ble_eq_true rfl⟩ (Nat.le_of_ble_eq_true rfl) ?_
        intro r w hq
        obtain ⟨rfl, rfl⟩ := hq
        refine z_reti d_Mo_many_27 ?_
        exact ⟨by first | rfl | assumption | (rw [e150]), _, _, rfl, (by repeat (first | exact h1 | refine mqF_z ?_ (by decide))), mqJ_r, (by first | exact zu_same _ _ _ _ | exact h0)⟩)
theorem L_many (h : zInv n w) : zEi G y_Tf_many prog_1_method_13_code 2 (some .int) 4 [.ref 0, .int b] w (fun r w1 => w1.2.2.2 = w.2.2.2 ∧ zEi G y_Mo_many prog_14_method_84_code 2 (some .int) 5 [.ref 145, .int b] w1 (fun r' w2 => r' = r ∧ zInv (n + 1) w2)) := by
  obtain ⟨f, d, nt, np, nl, nn, fed, mk, I, J, P, S, rfl, Z, X⟩ := h
  have M := clOk_M Z
  have hf := clOk_f Z
  have N := stR_fen X
  have N0 := stR_mod X
  have fm := stR_fm X
  obtain ⟨⟨⟨a1, r1, b1⟩, ⟨a2, r2, b2⟩, ⟨a3, r3, b3⟩, ⟨a4, r4, b4⟩⟩, ⟨⟨o, ob, ao, ro⟩, r5⟩, fw, fp, ft, fz⟩ := id fm
  rcases zin_or b 10 (by omega) with ⟨-, h⟩ | ⟨j, hj, rfl⟩
  · exact L_q Z X (t_Tf_many_b Z N h) (fun I' J' e _ => ⟨_, rfl, zEi_mono (t_Mo_many_b M (modIn_c N0 (e 150 (by decide))) h) (fun _ _ h => h)⟩)
  rcases (show j = 0 ∨ j = 1 ∨ j = 2 ∨ j = 3 ∨ j = 4 ∨ j = 5 ∨ j = 6 ∨ j = 7 ∨ j = 8 ∨ j = 9 by omega) with rfl | rfl | rfl | rfl | rfl | rfl | rfl | rfl | rfl | rfl
  · exact L_q Z X (t_Tf_many_0 Z N) (fun I' J' e _ => ⟨_, rfl, t_Mo_many_0 M (modIn_c N0 (e 150 (by decide)))⟩)
  · exact L_q Z X (t_Tf_many_1 Z N) (fun I' J' e _ => ⟨_, rfl, t_Mo_many_1 M (modIn_c N0 (e 150 (by decide)))⟩)
  · exact L_q Z X (t_Tf_many_2 Z N) (fun I' J' e _ => ⟨_, rfl, t_Mo_many_2 M (modIn_c N0 (e 150 (by decide)))⟩)
  · exact L_q Z X (t_Tf_many_3 Z N) (fun I' J' e _ => ⟨_, rfl, t_Mo_many_3 M (modIn_c N0 (e 150 (by decide)))⟩)
  · exact L_q Z X (t_Tf_many_4 Z N) (fun I' J' e _ => ⟨_, by rw [e 150 (by decide)]; exact ro.trans ao.symm, t_Mo_many_4 M (modIn_c N0 (e 150 (by decide)))⟩)
  · exact L_q Z X (t_Tf_many_5 Z N) (fun I' J' e _ => ⟨_, by rw [e 150 (by decide)]; exact r5, t_Mo_many_5 M (modIn_c N0 (e 150 (by decide)))⟩)
  · exact L_q Z X (t_Tf_many_6 Z N) (fun I' J' e _ => ⟨_, by rw [e 150 (by decide)]; exact set_gone (fun t ht => (ft t ht).2.1) b2, t_Mo_many_6 M (modIn_c N0 (e 150 (by decide)))⟩)
  · exact L_q Z X (t_Tf_many_7 Z N) (fun I' J' e _ => ⟨_, by rw [e 150 (by decide)]; exact set_bits (fun t ht => (ft t ht).2.2.2.1) (fun t g1 g2 => (fz t g1 g2).2) b4, t_Mo_many_7 M (modIn_c N0 (e 150 (by decide)))⟩)
  · exact L_q Z X (t_Tf_many_8 Z N) (fun I' J' e _ => ⟨_, by rw [e 150 (by decide)]; exact set_bits (fun t ht => (ft t ht).2.2.1) (fun t g1 g2 => (fz t g1 g2).1) b4, t_Mo_many_8 M (modIn_c N0 (e 150 (by decide)))⟩)
  · exact L_q Z X (t_Tf_many_9 Z N) (fun I' J' e _ => ⟨_, by rw [e 150 (by decide)]; exact worth_eq fw (fun t ht => (ft t ht).1) b1 (fun t ht => by rw [zB_and (by omega), zB_full ht b4, Bool.true_and, set_gone (fun t ht => (ft t ht).2.1) b2]; rfl), t_Mo_many_9 M (modIn_c N0 (e 150 (by decide)))⟩)
end OQ0
