/-! whose, sure, ask: the class's calls -/
section SL0
variable {G : zG} {I I' I1 I2 I3 : Nat → Nat → Int32} {J J' J2 : Nat → Nat → Int64} {P : Nat → Nat → Option Nat} {S : List (Nat × Nat)} {f d nt np nl nn n t k p q s g i u v l st : Nat} {a b : Int32} {x y : Int64} {w : zW} {fb : Nat → Bool} {X : Nat → Int64} {o : Option Nat}
theorem xF_c {r : Nat} (h : xF r I I') (hr : 122 ≤ r ∧ r ≤ 144) : cqF I I' := ⟨fun a _ g => h a (by omega), fun k _ => by rw [h 0 (by omega)]⟩
theorem fbC_cnt (hk : k ≤ 64) : fbC k fb = s_cnt fb k := by
  have e : fbC k fb = sl k (fun i => if decide (i < k) && fb i then 1 else 0) := by
    unfold fbC
    have := sl_up (n := k) (m := 64 - k) (g := fun i => if decide (i < k) && fb i then 1 else 0) (fun i h1 _ => by
      show (if decide (i < k) && fb i then 1 else 0) = 0
      rw [decide_eq_false (by omega)]; rfl)
    rw [show k + (64 - k) = 64 by omega] at this
    exact this
  have e2 : sl k (fun i => if decide (i < k) && fb i then 1 else 0) = sl k (fun i => if fb i then 1 else 0) := sl_c (fun i hi => by rw [decide_eq_true hi, Bool.true_and])
  have e3 : ∀ m, sl m (fun i => if fb i then 1 else 0) = s_cnt fb m := by
    intro m
    induction m with
    | zero => rfl
    | succ m ih =>
      rw [sl_s, ih, s_cnt]
      by_cases h : fb m = true
      · rw [if_pos h, if_pos h]
      · rw [if_neg h, if_neg h, Nat.add_zero]
  rw [e, e2, e3]
theorem fbC_le (hnt : nt ≤ 6) : fbC (2 ^ nt) fb ≤ 64 := by
  have h64 : 2 ^ nt ≤ 64 := Nat.pow_le_pow_right (n := 2) (i := nt) (j := 6) (by decide) hnt
  rw [fbC_cnt h64]
  exact Nat.le_trans (s_cnt_le _) h64
theorem t_Tf_whose_x (Z : clOk f d P S) (hst : ¬ nI st = 0) (hS :  zEi G y_Tf_seenStatus prog_1_method_66_code 4 (some .int) 4 [.ref 0, .int a, .int b] (I, J, P, S) (fun r w => r = nI st ∧ ∃ I', w = (I', J, P, S) ∧ xF 139 I I')) : zEi G y_Tf_whose prog_1_method_41_code 4 (some .int) 5 [.ref 0, .int a, .int b] (I, J, P, S) (fun r w => r = -1 ∧ cW I J P S st w) := by
  obtain ⟨⟨c0, c3, c1s⟩, ⟨c5, c2s, ctr⟩, ⟨c6, c11s, c11, c13s⟩, ⟨c7, c15s, c15⟩, ⟨c8, c16s, c16a, c16b, c17s⟩, ⟨c9, c10, cfd, F, Fd⟩, ⟨c11b, Ft⟩, ⟨c12, c69s, cmk⟩, ⟨c14, c121s, c121, c122s⟩, ⟨c15b, c123s, c123, c124s⟩, ⟨c16, c125s, c125, c126s⟩, ⟨c17, c127s, c127, c128s, ctb⟩, ⟨c18, c139s, c139, c140s⟩, ⟨c19, c141s, ⟨c141a, c142s⟩, ⟨c141b, c143s⟩, ⟨c141c, c144s⟩⟩, M⟩ := id Z
  refine zEi_of (lv := [some (.ref 0), some (.int a), some (.int b), none]) (by decide) rfl (Nat.le_of_ble_eq_true rfl) ?_
  refine z_aload_0 d_Tf_whose_0 ?_
  refine z_iload_1 d_Tf_whose_1 ?_
  refine z_iload_2 d_Tf_whose_2 ?_
  refine z_Vi2 d_Tf_whose_3 k_Tf_355 (by first | assumption | exact zS0_at (by assumption) (by omega) | exact zS0_at rfl (by omega)) (hS) ⟨Nat.le_of_ble_eq_true rfl, Nat.le_of_ble_eq_true rfl, Nat.le_of_ble_eq_true rfl, Nat.le_of_ble_eq_true rfl⟩ (Nat.le_of_ble_eq_true rfl) ?_
  rintro r w ⟨rfl, I2, rfl, g1⟩
  first | refine z_istore_3 d_Tf_whose_6 rfl ?_ | (refine z_forget_2 ?_; refine z_istore_3 d_Tf_whose_6 rfl ?_)
  refine z_iload_3 d_Tf_whose_7 ?_
  refine z_if_eq (tgt := 19) d_Tf_whose_8 (by decide) (fun h => absurd h hst) (fun _ => ?_)
  refine z_aload_0 d_Tf_whose_11 ?_
  refine z_iload_3 d_Tf_whose_12 ?_
  refine z_Vi1 d_Tf_whose_13 k_Tf_138 (by first | assumption | exact zS0_at (by assumption) (by omega) | exact zS0_at rfl (by omega)) (t_Tf_fail c0) ⟨Nat.le_of_ble_eq_true rfl, Nat.le_of_ble_eq_true rfl, Nat.le_of_ble_eq_true rfl, Nat.le_of_ble_eq_true rfl⟩ (Nat.le_of_ble_eq_true rfl) ?_
  intro r w hq
  obtain ⟨rfl, rfl⟩ := hq
  refine z_goto (tgt := 30) d_Tf_whose_16 (by decide) ?_
  refine z_reti d_Tf_whose_30 ?_
  exact ⟨rfl, _, _, rfl, cqF_0 (xF_c g1 (by decide)), cqJ_r, zu_same _ _ _ _⟩
theorem t_Tf_sure_x (Z : clOk f d P S) (hst : ¬ nI st = 0) (hS :  zEi G y_Tf_seenStatus prog_1_method_66_code 4 (some .int) 4 [.ref 0, .int a, .int b] (I, J, P, S) (fun r w => r = nI st ∧ ∃ I', w = (I', J, P, S) ∧ xF 139 I I')) : zEi G y_Tf_sure prog_1_method_42_code 4 (some .int) 5 [.ref 0, .int a, .int b] (I, J, P, S) (fun r w => r = -1 ∧ cW I J P S st w) := by
  obtain ⟨⟨c0, c3, c1s⟩, ⟨c5, c2s, ctr⟩, ⟨c6, c11s, c11, c13s⟩, ⟨c7, c15s, c15⟩, ⟨c8, c16s, c16a, c16b, c17s⟩, ⟨c9, c10, cfd, F, Fd⟩, ⟨c11b, Ft⟩, ⟨c12, c69s, cmk⟩, ⟨c14, c121s, c121, c122s⟩, ⟨c15b, c123s, c123, c124s⟩, ⟨c16, c125s, c125, c126s⟩, ⟨c17, c127s, c127, c128s, ctb⟩, ⟨c18, c139s, c139, c140s⟩, ⟨c19, c141s, ⟨c141a, c142s⟩, ⟨c141b, c143s⟩, ⟨c141c, c144s⟩⟩, M⟩ := id Z
  refine zEi_of (lv := [some (.ref 0), some (.int a), some (.int b), none]) (by decide) rfl (Nat.le_of_ble_eq_true rfl) ?_
  refine z_aload_0 d_Tf_sure_0 ?_
  refine z_iload_1 d_Tf_sure_1 ?_
  refine z_iload_2 d_Tf_sure_2 ?_
  refine z_Vi2 d_Tf_sure_3 k_Tf_355 (by first | assumption | exact zS0_at (by assumption) (by omega) | exact zS0_at rfl (by omega)) (hS) ⟨Nat.le_of_ble_eq_true rfl, Nat.le_of_ble_eq_true rfl, Nat.le_of_ble_eq_true rfl, Nat.le_of_ble_eq_true rfl⟩ (Nat.le_of_ble_eq_true rfl) ?_
  rintro r w ⟨rfl, I2, rfl, g1⟩
  first | refine z_istore_3 d_Tf_sure_6 rfl ?_ | (refine z_forget_2 ?_; refine z_istore_3 d_Tf_sure_6 rfl ?_)
  refine z_iload_3 d_Tf_sure_7 ?_
  refine z_if_eq (tgt := 17) d_Tf_sure_8 (by decide) (fun h => absurd h hst) (fun _ => ?_)
  refine z_aload_0 d_Tf_sure_11 ?_
  refine z_iload_3 d_Tf_sure_12 ?_
  refine z_Vi1 d_Tf_sure_13 k_Tf_138 (by first | assumption | exact zS0_at (by assumption) (by omega) | exact zS0_at rfl (by omega)) (t_Tf_fail c0) ⟨Nat.le_of_ble_eq_true rfl, Nat.le_of_ble_eq_true rfl, Nat.le_of_ble_eq_true rfl, Nat.le_of_ble_eq_true rfl⟩ (Nat.le_of_ble_eq_true rfl) ?_
  intro r w hq
  obtain ⟨rfl, rfl⟩ := hq
  refine z_reti d_Tf_sure_16 ?_
  exact ⟨rfl, _, _, rfl, cqF_0 (xF_c g1 (by decide)), cqJ_r, zu_same _ _ _ _⟩
theorem t_Tf_ask_x (Z : clOk f d P S) (hst : ¬ nI st = 0) (hS :  zEi G y_Tf_seenStatus prog_1_method_66_code 4 (some .int) 4 [.ref 0, .int a, .int b] (I, J, P, S) (fun r w => r = nI st ∧ ∃ I', w = (I', J, P, S) ∧ xF 139 I I')) : zEi G y_Tf_ask prog_1_method_43_code 5 (some .int) 5 [.ref 0, .int a, .int b] (I, J, P, S) (fun r w => r = -1 ∧ cW I J P S st w) := by
  obtain ⟨⟨c0, c3, c1s⟩, ⟨c5, c2s, ctr⟩, ⟨c6, c11s, c11, c13s⟩, ⟨c7, c15s, c15⟩, ⟨c8, c16s, c16a, c16b, c17s⟩, ⟨c9, c10, cfd, F, Fd⟩, ⟨c11b, Ft⟩, ⟨c12, c69s, cmk⟩, ⟨c14, c121s, c121, c122s⟩, ⟨c15b, c123s, c123, c124s⟩, ⟨c16, c125s, c125, c126s⟩, ⟨c17, c127s, c127, c128s, ctb⟩, ⟨c18, c139s, c139, c140s⟩, ⟨c19, c141s, ⟨c141a, c142s⟩, ⟨c141b, c143s⟩, ⟨c141c, c144s⟩⟩, M⟩ := id Z
  refine zEi_of (lv := [some (.ref 0), some (.int a), some (.int b), none, none]) (by decide) rfl (Nat.le_of_ble_eq_true rfl) ?_
  refine z_aload_0 d_Tf_ask_0 ?_
  refine z_iload_1 d_Tf_ask_1 ?_
  refine z_iload_2 d_Tf_ask_2 ?_
  refine z_Vi2 d_Tf_ask_3 k_Tf_355 (by first | assumption | exact zS0_at (by assumption) (by omega) | exact zS0_at rfl (by omega)) (hS) ⟨Nat.le_of_ble_eq_true rfl, Nat.le_of_ble_eq_true rfl, Nat.le_of_ble_eq_true rfl, Nat.le_of_ble_eq_true rfl⟩ (Nat.le_of_ble_eq_true rfl) ?_
  rintro r w ⟨rfl, I2, rfl, g1⟩
  first | refine z_istore_3 d_Tf_ask_6 rfl ?_ | (refine z_forget_2 ?_; refine z_istore_3 d_Tf_ask_6 rfl ?_)
  refine z_iload_3 d_Tf_ask_7 ?_
  refine z_if_eq (tgt := 17) d_Tf_ask_8 (by decide) (fun h => absurd h hst) (fun _ => ?_)
  refine z_aload_0 d_Tf_ask_11 ?_
  refine z_iload_3 d_Tf_ask_12 ?_
  refine z_Vi1 d_Tf_ask_13 k_Tf_138 (by first | assumption | exact zS0_at (by assumption) (by omega) | exact zS0_at rfl (by omega)) (t_Tf_fail c0) ⟨Nat.le_of_ble_eq_true rfl, Nat.le_of_ble_eq_true rfl, Nat.le_of_ble_eq_true rfl, Nat.le_of_ble_eq_true rfl⟩ (Nat.le_of_ble_eq_true rfl) ?_
  intro r w hq
  obtain ⟨rfl, rfl⟩ := hq
  refine z_reti d_Tf_ask_16 ?_
  exact ⟨rfl, _, _, rfl, cqF_0 (xF_c g1 (by decide)), cqJ_r, zu_same _ _ _ _⟩
theorem t_Tf_whose (Z : clOk f d P S) (hS :  zEi G y_Tf_seenStatus prog_1_method_66_code 4 (some .int) 4 [.ref 0, .int a, .int b] (I, J, P, S) (fun r w => r = nI 0 ∧ ∃ I' J', w = (I', J', P, S) ∧ xF 139 I I' ∧ (∀ q, q ≠ 139 → J' q = J q) ∧ I' 139 1 = nI (2 ^ nt) ∧ I' 139 2 = nI u ∧ fbL (J' 139 0) (2 ^ nt) fb)) : zEi G y_Tf_whose prog_1_method_41_code 4 (some .int) 5 [.ref 0, .int a, .int b] (I, J, P, S) (fun r w => r = nI (fbC (2 ^ nt) fb) ∧ cW I J P S 0 w) := by
  obtain ⟨⟨c0, c3, c1s⟩, ⟨c5, c2s, ctr⟩, ⟨c6, c11s, c11, c13s⟩, ⟨c7, c15s, c15⟩, ⟨c8, c16s, c16a, c16b, c17s⟩, ⟨c9, c10, cfd, F, Fd⟩, ⟨c11b, Ft⟩, ⟨c12, c69s, cmk⟩, ⟨c14, c121s, c121, c122s⟩, ⟨c15b, c123s, c123, c124s⟩, ⟨c16, c125s, c125, c126s⟩, ⟨c17, c127s, c127, c128s, ctb⟩, ⟨c18, c139s, c139, c140s⟩, ⟨c19, c141s, ⟨c141a, c142s⟩, ⟨c141b, c143s⟩, ⟨c141c, c144s⟩⟩, M⟩ := id Z
  refine zEi_of (lv := [some (.ref 0), some (.int a), some (.int b), none]) (by decide) rfl (Nat.le_of_ble_eq_true rfl) ?_
  refine z_aload_0 d_Tf_whose_0 ?_
  refine z_iload_1 d_Tf_whose_1 ?_
  refine z_iload_2 d_Tf_whose_2 ?_
  refine z_Vi2 d_Tf_whose_3 k_Tf_355 (by first | assumption | exact zS0_at (by assumption) (by omega) | exact zS0_at rfl (by omega)) (hS) ⟨Nat.le_of_ble_eq_true rfl, Nat.le_of_ble_eq_true rfl, Nat.le_of_ble_eq_true rfl, Nat.le_of_ble_eq_true rfl⟩ (Nat.le_of_ble_eq_true rfl) ?_
  rintro r w ⟨rfl, I2, J2, rfl, g1, g2, g3, g4, g5⟩
  first | refine z_istore_3 d_Tf_whose_6 rfl ?_ | (refine z_forget_2 ?_; refine z_istore_3 d_Tf_whose_6 rfl ?_)
  refine z_iload_3 d_Tf_whose_7 ?_
  refine z_if_eq (tgt := 19) d_Tf_whose_8 (by decide) (fun _ => ?_) (fun h => absurd (by decide) h)
  refine z_aload_0 d_Tf_whose_19 ?_
  refine z_aload_0 d_Tf_whose_20 ?_
  refine z_getR d_Tf_whose_21 f_Tf_104 (by first | assumption | exact zS0_at (by assumption) (by omega) | exact zS0_at rfl (by omega)) (by first | assumption | exact zS0_at (by assumption) (by omega) | exact zS0_at rfl (by omega)) ?_
  refine z_Vi0 d_Tf_whose_24 k_Tf_358 (by first | assumption | exact zS0_at (by assumption) (by omega) | exact zS0_at rfl (by omega)) (t_Seen_howMany Z g5) ⟨Nat.le_of_ble_eq_true rfl, Nat.le_of_ble_eq_true rfl, Nat.le_of_ble_eq_true rfl, Nat.le_of_ble_eq_true rfl⟩ (Nat.le_of_ble_eq_true rfl) ?_
  intro r w hq
  obtain ⟨rfl, rfl⟩ := hq
  refine z_Vi1 d_Tf_whose_27 k_Tf_174 (by first | assumption | exact zS0_at (by assumption) (by omega) | exact zS0_at rfl (by omega)) (t_Tf_give c0) ⟨Nat.le_of_ble_eq_true rfl, Nat.le_of_ble_eq_true rfl, Nat.le_of_ble_eq_true rfl, Nat.le_of_ble_eq_true rfl⟩ (Nat.le_of_ble_eq_true rfl) ?_
  intro r w hq
  obtain ⟨rfl, rfl⟩ := hq
  refine z_reti d_Tf_whose_30 ?_
  exact ⟨rfl, _, _, rfl, cqF_0 (xF_c g1 (by decide)), g2, zu_same _ _ _ _⟩
theorem t_Tf_sure_n (Z : clOk f d P S) (hc : nI (fbC (2 ^ nt) fb) = nI 0) (hS :  zEi G y_Tf_seenStatus prog_1_method_66_code 4 (some .int) 4 [.ref 0, .int a, .int b] (I, J, P, S) (fun r w => r = nI 0 ∧ ∃ I' J', w = (I', J', P, S) ∧ xF 139 I I' ∧ (∀ q, q ≠ 139 → J' q = J q) ∧ I' 139 1 = nI (2 ^ nt) ∧ I' 139 2 = nI u ∧ fbL (J' 139 0) (2 ^ nt) fb)) : zEi G y_Tf_sure prog_1_method_42_code 4 (some .int) 5 [.ref 0, .int a, .int b] (I, J, P, S) (fun r w => r = -1 ∧ cW I J P S 8 w) := by
  obtain ⟨⟨c0, c3, c1s⟩, ⟨c5, c2s, ctr⟩, ⟨c6, c11s, c11, c13s⟩, ⟨c7, c15s, c15⟩, ⟨c8, c16s, c16a, c16b, c17s⟩, ⟨c9, c10, cfd, F, Fd⟩, ⟨c11b, Ft⟩, ⟨c12, c69s, cmk⟩, ⟨c14, c121s, c121, c122s⟩, ⟨c15b, c123s, c123, c124s⟩, ⟨c16, c125s, c125, c126s⟩, ⟨c17, c127s, c127, c128s, ctb⟩, ⟨c18, c139s, c139, c140s⟩, ⟨c19, c141s, ⟨c141a, c142s⟩, ⟨c141b, c143s⟩, ⟨c141c, c144s⟩⟩, M⟩ := id Z
  refine zEi_of (lv := [some (.ref 0), some (.int a), some (.int b), none]) (by decide) rfl (Nat.le_of_ble_eq_true rfl) ?_
  refine z_aload_0 d_Tf_sure_0 ?_
  refine z_iload_1 d_Tf_sure_1 ?_
  refine z_iload_2 d_Tf_sure_2 ?_
  refine z_Vi2 d_Tf_sure_3 k_Tf_355 (by first | assumption | exact zS0_at (by assumption) (by omega) | exact zS0_at rfl (by omega)) (hS) ⟨Nat.le_of_ble_eq_true rfl, Nat.le_of_ble_eq_true rfl, Nat.le_of_ble_eq_true rfl, Nat.le_of_ble_eq_true rfl⟩ (Nat.le_of_ble_eq_true rfl) ?_
  rintro r w ⟨rfl, I2, J2, rfl, g1, g2, g3, g4, g5⟩
  first | refine z_istore_3 d_Tf_sure_6 rfl ?_ | (refine z_forget_2 ?_; refine z_istore_3 d_Tf_sure_6 rfl ?_)
  refine z_iload_3 d_Tf_sure_7 ?_
  refine z_if_eq (tgt := 17) d_Tf_sure_8 (by decide) (fun _ => ?_) (fun h => absurd (by decide) h)
  refine z_aload_0 d_Tf_sure_17 ?_
  refine z_getR d_Tf_sure_18 f_Tf_104 (by first | assumption | exact zS0_at (by assumption) (by omega) | exact zS0_at rfl (by omega)) (by first | assumption | exact zS0_at (by assumption) (by omega) | exact zS0_at rfl (by omega)) ?_
  refine z_Vi0 d_Tf_sure_21 k_Tf_358 (by first | assumption | exact zS0_at (by assumption) (by omega) | exact zS0_at rfl (by omega)) (t_Seen_howMany Z g5) ⟨Nat.le_of_ble_eq_true rfl, Nat.le_of_ble_eq_true rfl, Nat.le_of_ble_eq_true rfl, Nat.le_of_ble_eq_true rfl⟩ (Nat.le_of_ble_eq_true rfl) ?_
  intro r w hq
  obtain ⟨rfl, rfl⟩ := hq
  refine z_if_ne (tgt := 36) d_Tf_sure_24 (by decide) (fun h => absurd (by rw [hc]; rfl) h) (fun _ => ?_)
  refine z_aload_0 d_Tf_sure_27 ?_
  refine z_bipush (a := nI 8) d_Tf_sure_28 (by decide) ?_
  refine z_Vi1 d_Tf_sure_30 k_Tf_138 (by first | assumption | exact zS0_at (by assumption) (by omega) | exact zS0_at rfl (by omega)) (t_Tf_fail c0) ⟨Nat.le_of_ble_eq_true rfl, Nat.le_of_ble_eq_true rfl, Nat.le_of_ble_eq_true rfl, Nat.le_of_ble_eq_true rfl⟩ (Nat.le_of_ble_eq_true rfl) ?_
  intro r w hq
  obtain ⟨rfl, rfl⟩ := hq
  refine z_goto (tgt := 47) d_Tf_sure_33 (by decide) ?_
  refine z_reti d_Tf_sure_47 ?_
  exact ⟨rfl, _, _, rfl, cqF_0 (xF_c g1 (by decide)), g2, zu_same _ _ _ _⟩
theorem t_Tf_sure (Z : clOk f d P S) (hnt : nt ≤ 6) (hc : nI (fbC (2 ^ nt) fb) = nI k) (h0 : 0 < k) (hk : k ≤ 64) (hS :  zEi G y_Tf_seenStatus prog_1_method_66_code 4 (some .int) 4 [.ref 0, .int a, .int b] (I, J, P, S) (fun r w => r = nI 0 ∧ ∃ I' J', w = (I', J', P, S) ∧ xF 139 I I' ∧ (∀ q, q ≠ 139 → J' q = J q) ∧ I' 139 1 = nI (2 ^ nt) ∧ I' 139 2 = nI u ∧ fbL (J' 139 0) (2 ^ nt) fb)) : zEi G y_Tf_sure prog_1_method_42_code 4 (some .int) 5 [.ref 0, .int a, .int b] (I, J, P, S) (fun r w => r = nI (inN fb (2 ^ nt - 1) (2 ^ nt)) ∧ cW I J P S 0 w) := by
  obtain ⟨⟨c0, c3, c1s⟩, ⟨c5, c2s, ctr⟩, ⟨c6, c11s, c11, c13s⟩, ⟨c7, c15s, c15⟩, ⟨c8, c16s, c16a, c16b, c17s⟩, ⟨c9, c10, cfd, F, Fd⟩, ⟨c11b, Ft⟩, ⟨c12, c69s, cmk⟩, ⟨c14, c121s, c121, c122s⟩, ⟨c15b, c123s, c123, c124s⟩, ⟨c16, c125s, c125, c126s⟩, ⟨c17, c127s, c127, c128s, ctb⟩, ⟨c18, c139s, c139, c140s⟩, ⟨c19, c141s, ⟨c141a, c142s⟩, ⟨c141b, c143s⟩, ⟨c141c, c144s⟩⟩, M⟩ := id Z
  refine zEi_of (lv := [some (.ref 0), some (.int a), some (.int b), none]) (by decide) rfl (Nat.le_of_ble_eq_true rfl) ?_
  refine z_aload_0 d_Tf_sure_0 ?_
  refine z_iload_1 d_Tf_sure_1 ?_
  refine z_iload_2 d_Tf_sure_2 ?_
  refine z_Vi2 d_Tf_sure_3 k_Tf_355 (by first | assumption | exact zS0_at (by assumption) (by omega) | exact zS0_at rfl (by omega)) (hS) ⟨Nat.le_of_ble_eq_true rfl, Nat.le_of_ble_eq_true rfl, Nat.le_of_ble_eq_true rfl, Nat.le_of_ble_eq_true rfl⟩ (Nat.le_of_ble_eq_true rfl) ?_
  rintro r w ⟨rfl, I2, J2, rfl, g1, g2, g3, g4, g5⟩
  first | refine z_istore_3 d_Tf_sure_6 rfl ?_ | (refine z_forget_2 ?_; refine z_istore_3 d_Tf_sure_6 rfl ?_)
  refine z_iload_3 d_Tf_sure_7 ?_
  refine z_if_eq (tgt := 17) d_Tf_sure_8 (by decide) (fun _ => ?_) (fun h => absurd (by decide) h)
  refine z_aload_0 d_Tf_sure_17 ?_
  refine z_getR d_Tf_sure_18 f_Tf_104 (by first | assumption | exact zS0_at (by assumption) (by omega) | exact zS0_at rfl (by omega)) (by first | assumption | exact zS0_at (by assumption) (by omega) | exact zS0_at rfl (by omega)) ?_
  refine z_Vi0 d_Tf_sure_21 k_Tf_358 (by first | assumption | exact zS0_at (by assumption) (by omega) | exact zS0_at rfl (by omega)) (t_Seen_howMany Z g5) ⟨Nat.le_of_ble_eq_true rfl, Nat.le_of_ble_eq_true rfl, Nat.le_of_ble_eq_true rfl, Nat.le_of_ble_eq_true rfl⟩ (Nat.le_of_ble_eq_true rfl) ?_
  intro r w hq
  obtain ⟨rfl, rfl⟩ := hq
  rw [hc]
  refine z_if_ne (tgt := 36) d_Tf_sure_24 (by decide) (fun _ => ?_) (fun h => absurd h (nI_ne0 h0 (by omega)))
  refine z_aload_0 d_Tf_sure_36 ?_
  refine z_aload_0 d_Tf_sure_37 ?_
  refine z_getR d_Tf_sure_38 f_Tf_104 (by first | assumption | exact zS0_at (by assumption) (by omega) | exact zS0_at rfl (by omega)) (by first | assumption | exact zS0_at (by assumption) (by omega) | exact zS0_at rfl (by omega)) ?_
  refine z_Vi0 d_Tf_sure_41 k_Tf_361 (by first | assumption | exact zS0_at (by assumption) (by omega) | exact zS0_at rfl (by omega)) (t_Seen_inAll Z g5 g3 hnt) ⟨Nat.le_of_ble_eq_true rfl, Nat.le_of_ble_eq_true rfl, Nat.le_of_ble_eq_true rfl, Nat.le_of_ble_eq_true rfl⟩ (Nat.le_of_ble_eq_true rfl) ?_
  intro r w hq
  obtain ⟨rfl, rfl⟩ := hq
  refine z_Vi1 d_Tf_sure_44 k_Tf_174 (by first | assumption | exact zS0_at (by assumption) (by omega) | exact zS0_at rfl (by omega)) (t_Tf_give c0) ⟨Nat.le_of_ble_eq_true rfl, Nat.le_of_ble_eq_true rfl, Nat.le_of_ble_eq_true rfl, Nat.le_of_ble_eq_true rfl⟩ (Nat.le_of_ble_eq_true rfl) ?_
  intro r w hq
  obtain ⟨rfl, rfl⟩ := hq
  refine z_reti d_Tf_sure_47 ?_
  exact ⟨rfl, _, _, rfl, cqF_0 (xF_c g1 (by decide)), g2, zu_same _ _ _ _⟩
theorem t_Tf_ask_n (Z : clOk f d P S) (N : fenIn I f nt np nl nn) (hc : nI (fbC (2 ^ nt) fb) = nI k) (hk : k ≤ 64) (ho : zo (bkN (fun p => u.testBit p) (fun p => mxA fb (I (f + 2) p) (2 ^ nt)) np) = zo o) (h0 : k < 2 ∨ o = none) (hS :  zEi G y_Tf_seenStatus prog_1_method_66_code 4 (some .int) 4 [.ref 0, .int a, .int b] (I, J, P, S) (fun r w => r = nI 0 ∧ ∃ I' J', w = (I', J', P, S) ∧ xF 139 I I' ∧ (∀ q, q ≠ 139 → J' q = J q) ∧ I' 139 1 = nI (2 ^ nt) ∧ I' 139 2 = nI u ∧ fbL (J' 139 0) (2 ^ nt) fb)) : zEi G y_Tf_ask prog_1_method_43_code 5 (some .int) 5 [.ref 0, .int a, .int b] (I, J, P, S) (fun r w => r = -1 ∧ cW I J P S 8 w) := by
  have hf := clOk_f Z
  obtain ⟨⟨c0, c3, c1s⟩, ⟨c5, c2s, ctr⟩, ⟨c6, c11s, c11, c13s⟩, ⟨c7, c15s, c15⟩, ⟨c8, c16s, c16a, c16b, c17s⟩, ⟨c9, c10, cfd, F, Fd⟩, ⟨c11b, Ft⟩, ⟨c12, c69s, cmk⟩, ⟨c14, c121s, c121, c122s⟩, ⟨c15b, c123s, c123, c124s⟩, ⟨c16, c125s, c125, c126s⟩, ⟨c17, c127s, c127, c128s, ctb⟩, ⟨c18, c139s, c139, c140s⟩, ⟨c19, c141s, ⟨c141a, c142s⟩, ⟨c141b, c143s⟩, ⟨c141c, c144s⟩⟩, M⟩ := id Z
  obtain ⟨⟨n1, n1b⟩, ⟨n2, n2b⟩, ⟨n3, n3b⟩, ⟨n4, n4b⟩, nof, non⟩ := id N
  refine zEi_of (lv := [some (.ref 0), some (.int a), some (.int b), none, none]) (by decide) rfl (Nat.le_of_ble_eq_true rfl) ?_
  refine z_aload_0 d_Tf_ask_0 ?_
  refine z_iload_1 d_Tf_ask_1 ?_
  refine z_iload_2 d_Tf_ask_2 ?_
  refine z_Vi2 d_Tf_ask_3 k_Tf_355 (by first | assumption | exact zS0_at (by assumption) (by omega) | exact zS0_at rfl (by omega)) (hS) ⟨Nat.le_of_ble_eq_true rfl, Nat.le_of_ble_eq_true rfl, Nat.le_of_ble_eq_true rfl, Nat.le_of_ble_eq_true rfl⟩ (Nat.le_of_ble_eq_true rfl) ?_
  rintro r w ⟨rfl, I2, J2, rfl, g1, g2, g3, g4, g5⟩
  have N2 : fenIn I2 f nt np nl nn := by
    unfold fenIn
    rw [g1 f (by omega), g1 (f + 5) (by omega), g1 (f + 6) (by omega)]
    exact N
  first | refine z_istore_3 d_Tf_ask_6 rfl ?_ | (refine z_forget_2 ?_; refine z_istore_3 d_Tf_ask_6 rfl ?_)
  refine z_iload_3 d_Tf_ask_7 ?_
  refine z_if_eq (tgt := 17) d_Tf_ask_8 (by decide) (fun _ => ?_) (fun h => absurd (by decide) h)
  refine z_aload_0 d_Tf_ask_17 ?_
  refine z_getR d_Tf_ask_18 f_Tf_104 (by first | assumption | exact zS0_at (by assumption) (by omega) | exact zS0_at rfl (by omega)) (by first | assumption | exact zS0_at (by assumption) (by omega) | exact zS0_at rfl (by omega)) ?_
  refine z_Vi0 d_Tf_ask_21 k_Tf_358 (by first | assumption | exact zS0_at (by assumption) (by omega) | exact zS0_at rfl (by omega)) (t_Seen_howMany Z g5) ⟨Nat.le_of_ble_eq_true rfl, Nat.le_of_ble_eq_true rfl, Nat.le_of_ble_eq_true rfl, Nat.le_of_ble_eq_true rfl⟩ (Nat.le_of_ble_eq_true rfl) ?_
  intro r w hq
  obtain ⟨rfl, rfl⟩ := hq
  rw [hc]
  refine z_iconst (a := nI 2) d_Tf_ask_24 (by decide) ?_
  refine z_icmp_ge (tgt := 32) d_Tf_ask_25 (by decide) (fun hb => ?_) (fun hb => ?_)
  · have hb := (nI_leI (by omega) (by omega)).mp hb
    refine z_aload_0 d_Tf_ask_32 ?_
    refine z_getR d_Tf_ask_33 f_Tf_104 (by first | assumption | exact zS0_at (by assumption) (by omega) | exact zS0_at rfl (by omega)) (by first | assumption | exact zS0_at (by assumption) (by omega) | exact zS0_at rfl (by omega)) ?_
    refine z_aload_0 d_Tf_ask_36 ?_
    refine z_getR d_Tf_ask_37 f_Tf_60 (by first | assumption | exact zS0_at (by assumption) (by omega) | exact zS0_at rfl (by omega)) (by first | assumption | exact zS0_at (by assumption) (by omega) | exact zS0_at rfl (by omega)) ?_
    refine z_Vi1 d_Tf_ask_40 k_Tf_364 (by first | assumption | exact zS0_at (by assumption) (by omega) | exact zS0_at rfl (by omega)) (t_Seen_best Z N2 g5 g3 g4) ⟨Nat.le_of_ble_eq_true rfl, Nat.le_of_ble_eq_true rfl, Nat.le_of_ble_eq_true rfl, Nat.le_of_ble_eq_true rfl⟩ (Nat.le_of_ble_eq_true rfl) ?_
    rintro r w ⟨rfl, I3, rfl, g6⟩
    rw [g1 (f + 2) (by omega), ho, h0.resolve_left (by omega)]
    first | refine z_istore_4 d_Tf_ask_43 rfl ?_ | (refine z_forget_3 ?_; refine z_istore_4 d_Tf_ask_43 rfl ?_)
    refine z_iload_4 d_Tf_ask_45 ?_
    refine z_if_ge (tgt := 59) d_Tf_ask_47 (by decide) (fun h => absurd h (by decide)) (fun _ => ?_)
    refine z_aload_0 d_Tf_ask_50 ?_
    refine z_bipush (a := nI 8) d_Tf_ask_51 (by decide) ?_
    refine z_Vi1 d_Tf_ask_53 k_Tf_138 (by first | assumption | exact zS0_at (by assumption) (by omega) | exact zS0_at rfl (by omega)) (t_Tf_fail c0) ⟨Nat.le_of_ble_eq_true rfl, Nat.le_of_ble_eq_true rfl, Nat.le_of_ble_eq_true rfl, Nat.le_of_ble_eq_true rfl⟩ (Nat.le_of_ble_eq_true rfl) ?_
    intro r w hq
    obtain ⟨rfl, rfl⟩ := hq
    refine z_goto (tgt := 65) d_Tf_ask_56 (by decide) ?_
    refine z_reti d_Tf_ask_65 ?_
    exact ⟨rfl, _, _, rfl, cqF_0 (cqF_t (xF_c g1 (by decide)) (xF_c g6 (by decide))), g2, zu_same _ _ _ _⟩
  · refine z_iconst (a := -1) d_Tf_ask_28 (by decide) ?_
    refine z_goto (tgt := 43) d_Tf_ask_29 (by decide) ?_
    first | refine z_istore_4 d_Tf_ask_43 rfl ?_ | (refine z_forget_3 ?_; refine z_istore_4 d_Tf_ask_43 rfl ?_)
    refine z_iload_4 d_Tf_ask_45 ?_
    refine z_if_ge (tgt := 59) d_Tf_ask_47 (by decide) (fun h => absurd h (by decide)) (fun _ => ?_)
    refine z_aload_0 d_Tf_ask_50 ?_
    refine z_bipush (a := nI 8) d_Tf_ask_51 (by decide) ?_
    refine z_Vi1 d_Tf_ask_53 k_Tf_138 (by first | assumption | exact zS0_at (by assumption) (by omega) | exact zS0_at rfl (by omega)) (t_Tf_fail c0) ⟨Nat.le_of_ble_eq_true rfl, Nat.le_of_ble_eq_true rfl, Nat.le_of_ble_eq_true rfl, Nat.le_of_ble_eq_true rfl⟩ (Nat.le_of_ble_eq_true rfl) ?_
    intro r w hq
    obtain ⟨rfl, rfl⟩ := hq
    refine z_goto (tgt := 65) d_Tf_ask_56 (by decide) ?_
    refine z_reti d_Tf_ask_65 ?_
    exact ⟨rfl, _, _, rfl, cqF_0 (xF_c g1 (by decide)), g2, zu_same _ _ _ _⟩
theorem t_Tf_ask (Z : clOk f d P S) (N : fenIn I f nt np nl nn) (hc : nI (fbC (2 ^ nt) fb) = nI k) (hk : k ≤ 64) (h2 : 2 ≤ k) (ho : zo (bkN (fun p => u.testBit p) (fun p => mxA fb (I (f + 2) p) (2 ^ nt)) np) = nI p) (hp : p < np) (hS :  zEi G y_Tf_seenStatus prog_1_method_66_code 4 (some .int) 4 [.ref 0, .int a, .int b] (I, J, P, S) (fun r w => r = nI 0 ∧ ∃ I' J', w = (I', J', P, S) ∧ xF 139 I I' ∧ (∀ q, q ≠ 139 → J' q = J q) ∧ I' 139 1 = nI (2 ^ nt) ∧ I' 139 2 = nI u ∧ fbL (J' 139 0) (2 ^ nt) fb)) : zEi G y_Tf_ask prog_1_method_43_code 5 (some .int) 5 [.ref 0, .int a, .int b] (I, J, P, S) (fun r w => r = nI p ∧ cW I J P S 0 w) := by
  have hf := clOk_f Z
  obtain ⟨⟨c0, c3, c1s⟩, ⟨c5, c2s, ctr⟩, ⟨c6, c11s, c11, c13s⟩, ⟨c7, c15s, c15⟩, ⟨c8, c16s, c16a, c16b, c17s⟩, ⟨c9, c10, cfd, F, Fd⟩, ⟨c11b, Ft⟩, ⟨c12, c69s, cmk⟩, ⟨c14, c121s, c121, c122s⟩, ⟨c15b, c123s, c123, c124s⟩, ⟨c16, c125s, c125, c126s⟩, ⟨c17, c127s, c127, c128s, ctb⟩, ⟨c18, c139s, c139, c140s⟩, ⟨c19, c141s, ⟨c141a, c142s⟩, ⟨c141b, c143s⟩, ⟨c141c, c144s⟩⟩, M⟩ := id Z
  obtain ⟨⟨n1, n1b⟩, ⟨n2, n2b⟩, ⟨n3, n3b⟩, ⟨n4, n4b⟩, nof, non⟩ := id N
  refine zEi_of (lv := [some (.ref 0), some (.int a), some (.int b), none, none]) (by decide) rfl (Nat.le_of_ble_eq_true rfl) ?_
  refine z_aload_0 d_Tf_ask_0 ?_
  refine z_iload_1 d_Tf_ask_1 ?_
  refine z_iload_2 d_Tf_ask_2 ?_
  refine z_Vi2 d_Tf_ask_3 k_Tf_355 (by first | assumption | exact zS0_at (by assumption) (by omega) | exact zS0_at rfl (by omega)) (hS) ⟨Nat.le_of_ble_eq_true rfl, Nat.le_of_ble_eq_true rfl, Nat.le_of_ble_eq_true rfl, Nat.le_of_ble_eq_true rfl⟩ (Nat.le_of_ble_eq_true rfl) ?_
  rintro r w ⟨rfl, I2, J2, rfl, g1, g2, g3, g4, g5⟩
  have N2 : fenIn I2 f nt np nl nn := by
    unfold fenIn
    rw [g1 f (by omega), g1 (f + 5) (by omega), g1 (f + 6) (by omega)]
    exact N
  first | refine z_istore_3 d_Tf_ask_6 rfl ?_ | (refine z_forget_2 ?_; refine z_istore_3 d_Tf_ask_6 rfl ?_)
  refine z_iload_3 d_Tf_ask_7 ?_
  refine z_if_eq (tgt := 17) d_Tf_ask_8 (by decide) (fun _ => ?_) (fun h => absurd (by decide) h)
  refine z_aload_0 d_Tf_ask_17 ?_
  refine z_getR d_Tf_ask_18 f_Tf_104 (by first | assumption | exact zS0_at (by assumption) (by omega) | exact zS0_at rfl (by omega)) (by first | assumption | exact zS0_at (by assumption) (by omega) | exact zS0_at rfl (by omega)) ?_
  refine z_Vi0 d_Tf_ask_21 k_Tf_358 (by first | assumption | exact zS0_at (by assumption) (by omega) | exact zS0_at rfl (by omega)) (t_Seen_howMany Z g5) ⟨Nat.le_of_ble_eq_true rfl, Nat.le_of_ble_eq_true rfl, Nat.le_of_ble_eq_true rfl, Nat.le_of_ble_eq_true rfl⟩ (Nat.le_of_ble_eq_true rfl) ?_
  intro r w hq
  obtain ⟨rfl, rfl⟩ := hq
  rw [hc]
  refine z_iconst (a := nI 2) d_Tf_ask_24 (by decide) ?_
  refine z_icmp_ge (tgt := 32) d_Tf_ask_25 (by decide) (fun _ => ?_) (fun h => absurd (nI_le h2 (by omega)) h)
  refine z_aload_0 d_Tf_ask_32 ?_
  refine z_getR d_Tf_ask_33 f_Tf_104 (by first | assumption | exact zS0_at (by assumption) (by omega) | exact zS0_at rfl (by omega)) (by first | assumption | exact zS0_at (by assumption) (by omega) | exact zS0_at rfl (by omega)) ?_
  refine z_aload_0 d_Tf_ask_36 ?_
  refine z_getR d_Tf_ask_37 f_Tf_60 (by first | assumption | exact zS0_at (by assumption) (by omega) | exact zS0_at rfl (by omega)) (by first | assumption | exact zS0_at (by assumption) (by omega) | exact zS0_at rfl (by omega)) ?_
  refine z_Vi1 d_Tf_ask_40 k_Tf_364 (by first | assumption | exact zS0_at (by assumption) (by omega) | exact zS0_at rfl (by omega)) (t_Seen_best Z N2 g5 g3 g4) ⟨Nat.le_of_ble_eq_true rfl, Nat.le_of_ble_eq_true rfl, Nat.le_of_ble_eq_true rfl, Nat.le_of_ble_eq_true rfl⟩ (Nat.le_of_ble_eq_true rfl) ?_
  rintro r w ⟨rfl, I3, rfl, g6⟩
  rw [g1 (f + 2) (by omega), ho]
  first | refine z_istore_4 d_Tf_ask_43 rfl ?_ | (refine z_forget_3 ?_; refine z_istore_4 d_Tf_ask_43 rfl ?_)
  refine z_iload_4 d_Tf_ask_45 ?_
  refine z_if_ge (tgt := 59) d_Tf_ask_47 (by decide) (fun _ => ?_) (fun h => absurd (Int32.not_lt.mp (nI_pos (show p < 2 ^ 31 by omega))) h)
  refine z_aload_0 d_Tf_ask_59 ?_
  refine z_iload_4 d_Tf_ask_60 ?_
  refine z_Vi1 d_Tf_ask_62 k_Tf_174 (by first | assumption | exact zS0_at (by assumption) (by omega) | exact zS0_at rfl (by omega)) (t_Tf_give c0) ⟨Nat.le_of_ble_eq_true rfl, Nat.le_of_ble_eq_true rfl, Nat.le_of_ble_eq_true rfl, Nat.le_of_ble_eq_true rfl⟩ (Nat.le_of_ble_eq_true rfl) ?_
  intro r w hq
  obtain ⟨rfl, rfl⟩ := hq
  refine z_reti d_Tf_ask_65 ?_
  exact ⟨rfl, _, _, rfl, cqF_0 (cqF_t (xF_c g1 (by decide)) (xF_c g6 (by decide))), g2, zu_same _ _ _ _⟩
end SL0
