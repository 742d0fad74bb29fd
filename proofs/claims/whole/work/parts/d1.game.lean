/-! games: the class -/
section GB0
variable {G : zG} {I I' I1 I2 I3 : Nat → Nat → Int32} {J J' J2 : Nat → Nat → Int64} {P : Nat → Nat → Option Nat} {S : List (Nat × Nat)} {f d dd nt np nl nn n t k p q s i mv ot : Nat} {a b : Int32} {w : zW} {mt tk C : Nat → Int32} {g : Nat → Nat}
def gmI (f nn np : Nat) (mt tk : Nat → Int32) (g : Nat → Nat) (I : Nat → Nat → Int32) : Prop := I 141 5 = nI nn ∧ (∀ t, t < nn → I 143 t = tk t) ∧ (∀ t, t < nn → I 144 t = nI (g t)) ∧ (∀ p, p < 7 → I (f + 3) p = mt p) ∧ I f 2 = nI np
def gmS (nn np : Nat) (tk : Nat → Int32) (g : Nat → Nat) : Prop := nn ≤ 9 ∧ np ≤ 7 ∧ (∀ t, t < nn → g t ≤ 99) ∧ ∀ t, t < nn → ∀ i, i < 32 → zB (tk t) i = true → i < np
theorem gm_u (hf : f = 18 ∨ f = 35) (h : gmI f nn np mt tk g I) : gmI f nn np mt tk g (zu I 142 k a) := by
  obtain ⟨h1, h2, h3, h4, h5⟩ := h
  refine ⟨?_, fun t ht => ?_, fun t ht => ?_, fun p hp => ?_, ?_⟩
  · rw [zu_row _ _ _ _ (by decide)]; exact h1
  · rw [zu_row _ _ _ _ (by decide)]; exact h2 t ht
  · rw [zu_row _ _ _ _ (by decide)]; exact h3 t ht
  · rw [zu_row _ _ _ _ (by omega)]; exact h4 p hp
  · rw [zu_row _ _ _ _ (by omega)]; exact h5
theorem zu_gaU : (zu I 142 t a) 142 = gaU (I 142) t a := by
  funext s
  unfold gaU
  by_cases h : s = t
  · subst h; rw [zu_same, if_pos rfl]
  · rw [zu_ne _ _ _ _ (by omega), if_neg h]
theorem t_Game_after (Z : clOk f dd P S) (K : gmS nn np tk g) (h : gmI f nn np mt tk g I) (hd : d ≤ 2) (hB :  ∀ (I : Nat → Nat → Int32) (mv ot : Nat), gmI f nn np mt tk g I → mv < 7 → ot < 7 → zEi  G y_Game_bestFor prog_4_method_4_code 9 (some .int) (2*d+1) [.ref 141, .ref f, .int (nI mv), .int (nI ot), .int (nI d)] (I, J, P, S) (fun r w => r = zI (gaB nn mt tk g d (I 142) mv ot) ∧ w = (I, J, P, S))) (ht : t < nn) (hC : I 142 t = nI mv) (hi : i < 7) (hmv : mv < 7) (hot : ot < 7) : zEi G y_Game_afterMove prog_4_method_3_code 8 (some .int) (2*d+2) [.ref 141, .ref f, .int (nI t), .int (nI i), .int (nI ot), .int (nI (d+1))] (I, J, P, S) (fun r w => r = zI ((g t : Int) - gaB nn mt tk g d (gaU (I 142) t (nI i)) ot mv) ∧ w = (I, J, P, S)) := by
  have hf := clOk_f Z
  obtain ⟨⟨c0, c3, c1s⟩, ⟨c5, c2s, ctr⟩, ⟨c6, c11s, c11, c13s⟩, ⟨c7, c15s, c15⟩, ⟨c8, c16s, c16a, c16b, c17s⟩, ⟨c9, c10, cfd, F, Fd⟩, ⟨c11b, Ft⟩, ⟨c12, c69s, cmk⟩, ⟨c14, c121s, c121, c122s⟩, ⟨c15b, c123s, c123, c124s⟩, ⟨c16, c125s, c125, c126s⟩, ⟨c17, c127s, c127, c128s, ctb⟩, ⟨c18, c139s, c139, c140s⟩, ⟨c19, c141s, ⟨c141a, c142s⟩, ⟨c141b, c143s⟩, ⟨c141c, c144s⟩⟩, M⟩ := id Z
  obtain ⟨F0, ⟨F8, F8s⟩, ⟨F9, F9s⟩, ⟨F10, F10s⟩, ⟨F11, F11s⟩, ⟨F12, F12s⟩, ⟨F13, F13s⟩, ⟨F14, F14s⟩, ⟨F15, F15s⟩, ⟨F16, F16s⟩, ⟨F17, F17s⟩, ⟨F18, F18s⟩, ⟨F19, F19s⟩, ⟨Y3, Y3s⟩, ⟨Y4, Y4s⟩, ⟨Y5, Y5s⟩, ⟨Y6, Y6s⟩⟩ := id F
  obtain ⟨h1, h2, h3, h4, h5⟩ := id h
  obtain ⟨k1, k2, k3, k4⟩ := id K
  have hgt := h3 t ht
  refine zEi_of (lv := [some (.ref 141), some (.ref f), some (.int (nI t)), some (.int (nI i)), some (.int (nI ot)), some (.int (nI (d+1))), none, none]) (by decide) rfl (Nat.le_of_ble_eq_true rfl) ?_
  refine z_aload_0 d_Game_afterMove_0 ?_
  refine z_getR d_Game_afterMove_1 f_Game_9 (by first | assumption | exact zS0_at (by assumption) (by omega) | exact zS0_at rfl (by omega)) (by first | assumption | exact zS0_at (by assumption) (by omega) | exact zS0_at rfl (by omega)) ?_
  refine z_iload_2 d_Game_afterMove_4 ?_
  first | refine z_ialdNv d_Game_afterMove_5 (by first | assumption | exact zS0_at (by assumption) (by omega) | exact zS0_at rfl (by omega)) (by omega) (by first | decide | omega) (by first | assumption | ((try simp (disch := omega) only [zu_same, zu_ne, zcp_ne, zfl_ne]); first | assumption | rfl)) ?_ | refine z_iald d_Game_afterMove_5 (by first | assumption | exact zS0_at (by assumption) (by omega) | exact zS0_at rfl (by omega)) (by first | assumption | exact zS0_at (by assumption) (by omega) | exact zS0_at rfl (by omega)) ?_
  first | refine z_istore_6 d_Game_afterMove_6 rfl ?_ | (refine z_forget_5 ?_; refine z_istore_6 d_Game_afterMove_6 rfl ?_)
  refine z_aload_0 d_Game_afterMove_8 ?_
  refine z_getR d_Game_afterMove_9 f_Game_9 (by first | assumption | exact zS0_at (by assumption) (by omega) | exact zS0_at rfl (by omega)) (by first | assumption | exact zS0_at (by assumption) (by omega) | exact zS0_at rfl (by omega)) ?_
  refine z_iload_2 d_Game_afterMove_12 ?_
  refine z_iload_3 d_Game_afterMove_13 ?_
  first | refine z_iastN d_Game_afterMove_14 (by first | assumption | exact zS0_at (by assumption) (by omega) | exact zS0_at rfl (by omega)) (by omega) (by first | decide | omega) ?_ | refine z_iast d_Game_afterMove_14 (by first | assumption | exact zS0_at (by assumption) (by omega) | exact zS0_at rfl (by omega)) (by first | assumption | exact zS0_at (by assumption) (by omega) | exact zS0_at rfl (by omega)) ?_
  refine z_aload_0 d_Game_afterMove_15 ?_
  refine z_getR d_Game_afterMove_16 f_Game_18 (by first | assumption | exact zS0_at (by assumption) (by omega) | exact zS0_at rfl (by omega)) (by first | assumption | exact zS0_at (by assumption) (by omega) | exact zS0_at rfl (by omega)) ?_
  refine z_iload_2 d_Game_afterMove_19 ?_
  first | refine z_ialdNv d_Game_afterMove_20 (by first | assumption | exact zS0_at (by assumption) (by omega) | exact zS0_at rfl (by omega)) (by omega) (by first | decide | omega) (by first | assumption | ((try simp (disch := omega) only [zu_same, zu_ne, zcp_ne, zfl_ne]); first | assumption | rfl)) ?_ | refine z_iald d_Game_afterMove_20 (by first | assumption | exact zS0_at (by assumption) (by omega) | exact zS0_at rfl (by omega)) (by first | assumption | exact zS0_at (by assumption) (by omega) | exact zS0_at rfl (by omega)) ?_
  refine z_aload_0 d_Game_afterMove_21 ?_
  refine z_aload_1 d_Game_afterMove_22 ?_
  refine z_iload_4 d_Game_afterMove_23 ?_
  refine z_iload_6 d_Game_afterMove_25 ?_
  refine z_iload_5 d_Game_afterMove_27 ?_
  refine z_iconst (a := nI 1) d_Game_afterMove_29 (by decide) ?_
  first | refine z_isubN d_Game_afterMove_30 (by omega) ?_ | refine z_isub d_Game_afterMove_30 ?_
  rw [Nat.add_sub_cancel]
  refine z_Vi4 d_Game_afterMove_31 k_Game_57 (by first | assumption | exact zS0_at (by assumption) (by omega) | exact zS0_at rfl (by omega)) (hB (zu I 142 t (nI i)) ot mv (gm_u hf h) hot hmv) (by refine ⟨?_, ?_, ?_, ?_⟩ <;> simp only [zRm] <;> omega) (Nat.le_of_ble_eq_true rfl) ?_
  intro r w hq
  obtain ⟨rfl, rfl⟩ := hq
  rw [zu_gaU]
  refine z_isub d_Game_afterMove_34 ?_
  rw [zI_nI (g t), zI_sub]
  first | refine z_istore_7 d_Game_afterMove_35 rfl ?_ | (refine z_forget_6 ?_; refine z_istore_7 d_Game_afterMove_35 rfl ?_)
  refine z_aload_0 d_Game_afterMove_37 ?_
  refine z_getR d_Game_afterMove_38 f_Game_9 (by first | assumption | exact zS0_at (by assumption) (by omega) | exact zS0_at rfl (by omega)) (by first | assumption | exact zS0_at (by assumption) (by omega) | exact zS0_at rfl (by omega)) ?_
  refine z_iload_2 d_Game_afterMove_41 ?_
  refine z_iload_6 d_Game_afterMove_42 ?_
  first | refine z_iastN d_Game_afterMove_44 (by first | assumption | exact zS0_at (by assumption) (by omega) | exact zS0_at rfl (by omega)) (by omega) (by first | decide | omega) ?_ | refine z_iast d_Game_afterMove_44 (by first | assumption | exact zS0_at (by assumption) (by omega) | exact zS0_at rfl (by omega)) (by first | assumption | exact zS0_at (by assumption) (by omega) | exact zS0_at rfl (by omega)) ?_
  rw [zu_zu, zu_id hC]
  refine z_iload_7 d_Game_afterMove_45 ?_
  refine z_reti d_Game_afterMove_47 ?_
  exact ⟨rfl, rfl⟩
theorem t_Game_best (Z : clOk f dd P S) (K : gmS nn np tk g) (d : Nat) : ∀ (I : Nat → Nat → Int32) (mv ot : Nat), d ≤ 3 → gmI f nn np mt tk g I → mv < 7 → ot < 7 → zEi G y_Game_bestFor prog_4_method_4_code 9 (some .int) (2*d+1) [.ref 141, .ref f, .int (nI mv), .int (nI ot), .int (nI d)] (I, J, P, S) (fun r w => r = zI (gaB nn mt tk g d (I 142) mv ot) ∧ w = (I, J, P, S)) := by
  have hf := clOk_f Z
  obtain ⟨⟨c0, c3, c1s⟩, ⟨c5, c2s, ctr⟩, ⟨c6, c11s, c11, c13s⟩, ⟨c7, c15s, c15⟩, ⟨c8, c16s, c16a, c16b, c17s⟩, ⟨c9, c10, cfd, F, Fd⟩, ⟨c11b, Ft⟩, ⟨c12, c69s, cmk⟩, ⟨c14, c121s, c121, c122s⟩, ⟨c15b, c123s, c123, c124s⟩, ⟨c16, c125s, c125, c126s⟩, ⟨c17, c127s, c127, c128s, ctb⟩, ⟨c18, c139s, c139, c140s⟩, ⟨c19, c141s, ⟨c141a, c142s⟩, ⟨c141b, c143s⟩, ⟨c141c, c144s⟩⟩, M⟩ := id Z
  obtain ⟨F0, ⟨F8, F8s⟩, ⟨F9, F9s⟩, ⟨F10, F10s⟩, ⟨F11, F11s⟩, ⟨F12, F12s⟩, ⟨F13, F13s⟩, ⟨F14, F14s⟩, ⟨F15, F15s⟩, ⟨F16, F16s⟩, ⟨F17, F17s⟩, ⟨F18, F18s⟩, ⟨F19, F19s⟩, ⟨Y3, Y3s⟩, ⟨Y4, Y4s⟩, ⟨Y5, Y5s⟩, ⟨Y6, Y6s⟩⟩ := id F
  obtain ⟨k1, k2, k3, k4⟩ := id K
  induction d with
  | zero =>
    intro I mv ot hd h hmv hot
    refine zEi_of (lv := [some (.ref 141), some (.ref f), some (.int (nI mv)), some (.int (nI ot)), some (.int (nI 0)), none, none, none, none]) (by decide) rfl (Nat.le_of_ble_eq_true rfl) ?_
    refine z_iload_4 d_Game_bestFor_0 ?_
    refine z_iconst (a := nI 1) d_Game_bestFor_2 (by decide) ?_
    refine z_icmp_ge (tgt := 8) d_Game_bestFor_3 (by decide) (fun h => absurd h (by decide)) (fun _ => ?_)
    refine z_iconst (a := nI 0) d_Game_bestFor_6 (by decide) ?_
    refine z_reti d_Game_bestFor_7 ?_
    exact ⟨by rw [gaB]; decide, rfl⟩
  | succ d ihd =>
    intro I mv ot hd h hmv hot
    obtain ⟨h1, h2, h3, h4, h5⟩ := id h
    obtain ⟨bb, hbb⟩ : ∃ bb : Nat → Bool, bb = gaOk nn mt tk (I 142) mv := ⟨_, rfl⟩
    obtain ⟨vv, hvv⟩ : ∃ vv : Nat → Int, vv = gaV nn mt tk g d (I 142) mv ot := ⟨_, rfl⟩
    obtain ⟨x0, hx0⟩ : ∃ x0 : Int, x0 = -gaB nn mt tk g d (I 142) ot mv := ⟨_, rfl⟩
    rw [show gaB nn mt tk g (d + 1) (I 142) mv ot = gaM bb vv x0 63 by rw [hbb, hvv, hx0]; rfl]
    have bd : ∀ m, -400 ≤ gaM bb vv x0 m ∧ gaM bb vv x0 m ≤ 400 := fun m => by
      have b0 := gaB_bd (mt := mt) (tk := tk) k3 d (I 142) ot mv
      refine gaM_bd (B := 400) (by rw [hx0]; omega) (fun k _ hb => ?_)
      rw [hbb] at hb
      have := gaV_bd (d := d) (ot := ot) k3 hb
      rw [hvv]; omega
    have bv : ∀ k, bb k = true → -400 ≤ vv k ∧ vv k ≤ 400 := fun k hb => by
      rw [hbb] at hb
      have := gaV_bd (d := d) (ot := ot) k3 hb
      rw [hvv]; omega
    have hA := fun (t i : Nat) (ht : t < nn) (hC : I 142 t = nI mv) (hi : i < 7) => t_Game_after (G := G) (J := J) Z K h (show d ≤ 2 by omega) (fun I mv ot g1 g2 g3 => ihd I mv ot (by omega) g1 g2 g3) ht hC hi hmv hot
    refine zEi_of (lv := [some (.ref 141), some (.ref f), some (.int (nI mv)), some (.int (nI ot)), some (.int (nI (d + 1))), none, none, none, none]) (by decide) rfl (Nat.le_of_ble_eq_true rfl) ?_
    have loop : ∀ m j, nn - j < m → j ≤ nn → zA G y_Game_bestFor prog_4_method_4_code 9 (some .int) (zRm (2*(d + 1)+1) 0 0) (zM G 0 0 (fun r w' => ∃ x, r = some (.int x) ∧ (fun r w => r = zI (gaM bb vv x0 63) ∧ w = (I, J, P, S)) x w')) 25 [some (.ref 141), some (.ref f), some (.int (nI mv)), some (.int (nI ot)), some (.int (nI (d + 1))), some (.int (zI (gaM bb vv x0 (7 * j)))), some (.int (nI j)), none, none] [] (I, J, P, S) 0 0 := by
      intro m
      induction m with
      | zero => intro j h; omega
      | succ m ih =>
        intro j hm hj
        refine z_iload_6 d_Game_bestFor_25 ?_
        refine z_aload_0 d_Game_bestFor_27 ?_
        refine z_getIv d_Game_bestFor_28 f_Game_27 (by first | assumption | exact zS0_at (by assumption) (by omega) | exact zS0_at rfl (by omega)) (by first | assumption | ((try simp (disch := omega) only [zu_same, zu_ne, zcp_ne, zfl_ne]); first | assumption | rfl)) ?_
        refine z_icmp_ge (tgt := 151) d_Game_bestFor_31 (by decide) (fun hb => ?_) (fun hb => ?_)
        · have hb := (nI_leI (by omega) (by omega)).mp hb
          obtain rfl : j = nn := by omega
          have e63 := gaM_skip (bb := bb) (v := vv) (x := x0) (n := 7 * j) (63 - 7 * j) (fun i q1 q2 => Bool.eq_false_iff.mpr (fun q => by rw [hbb] at q; have := gaOk_lt q; omega))
          rw [show 7 * j + (63 - 7 * j) = 63 by omega] at e63
          refine z_iload_5 d_Game_bestFor_151 ?_
          refine z_reti d_Game_bestFor_153 ?_
          exact ⟨by rw [e63], rfl⟩
        · have hb : j < nn := Nat.lt_of_not_le (fun q => hb (nI_le q (by omega)))
          have ih' := ih (j + 1) (by omega) (by omega)
          obtain ⟨op, hop⟩ : ∃ op, op = if I 142 j = nI mv then mt mv &&& tk j else nI 0 := ⟨_, rfl⟩
          have ebb : ∀ i, i < 7 → bb (7 * j + i) = zB op i := fun i hi => by rw [hbb, gaOk_op hb hi, hop]
          have hnp : ∀ i, i < 32 → np ≤ i → zB op i = false := fun i hi hn => Bool.eq_false_iff.mpr (fun q => by
            rw [hop] at q
            by_cases hc : I 142 j = nI mv
            · rw [if_pos hc, zB_and (by omega), Bool.and_eq_true] at q
              have := k4 j hb i (by omega) q.2; omega
            · rw [if_neg hc, zB_nI (by omega), Nat.zero_testBit] at q; cases q)
          have ex : ∀ (i : Nat) (y : Int32), i ≤ 7 → (∀ i', i ≤ i' → i' < 7 → zB op i' = false) → zA G y_Game_bestFor prog_4_method_4_code 9 (some .int) (zRm (2*(d + 1)+1) 0 0) (zM G 0 0 (fun r w' => ∃ x, r = some (.int x) ∧ (fun r w => r = zI (gaM bb vv x0 63) ∧ w = (I, J, P, S)) x w')) 145 [some (.ref 141), some (.ref f), some (.int (nI mv)), some (.int (nI ot)), some (.int (nI (d + 1))), some (.int (zI (gaM bb vv x0 (7 * j + i)))), some (.int (nI j)), some (.int y), some (.int (nI i))] [] (I, J, P, S) 0 0 := by
            intro i y hi hz
            have e := gaM_skip (bb := bb) (v := vv) (x := x0) (n := 7 * j + i) (7 - i) (fun k q1 q2 => by
              have e1 := ebb (k - 7 * j) (by omega)
              rw [show 7 * j + (k - 7 * j) = k by omega] at e1
              rw [e1]
              exact hz _ (by omega) (by omega))
            rw [show 7 * j + i + (7 - i) = 7 * (j + 1) by omega] at e
            first | refine z_iinc_6 d_Game_bestFor_145 rfl (zi_inc _) ?_ | refine z_iinc_6 d_Game_bestFor_145 rfl rfl ?_
            refine z_goto (tgt := 25) d_Game_bestFor_148 (by decide) ?_
            refine z_forget_7 ?_
            refine z_forget_8 ?_
            rw [← e]
            exact ih'
          have inn : ∀ z i, np - i < z → i ≤ np → zA G y_Game_bestFor prog_4_method_4_code 9 (some .int) (zRm (2*(d + 1)+1) 0 0) (zM G 0 0 (fun r w' => ∃ x, r = some (.int x) ∧ (fun r w => r = zI (gaM bb vv x0 63) ∧ w = (I, J, P, S)) x w')) 96 [some (.ref 141), some (.ref f), some (.int (nI mv)), some (.int (nI ot)), some (.int (nI (d + 1))), some (.int (zI (gaM bb vv x0 (7 * j + i)))), some (.int (nI j)), some (.int op), some (.int (nI i))] [] (I, J, P, S) 0 0 := by
            intro z
            induction z with
            | zero => intro i h; exact absurd h (Nat.not_lt_zero _)
            | succ z ihz =>
              intro i hz hi
              refine z_iload_7 d_Game_bestFor_96 ?_
              refine z_if_eq (tgt := 145) d_Game_bestFor_98 (by decide) (fun hc => ?_) (fun hc => ?_)
              · refine ex i op (by omega) (fun i' _ h7 => ?_)
                rw [hc, show (0 : Int32) = nI 0 from rfl, zB_nI (by omega), Nat.zero_testBit]
              · refine z_iload_8 d_Game_bestFor_101 ?_
                refine z_aload_1 d_Game_bestFor_103 ?_
                refine z_getIv d_Game_bestFor_104 f_Game_50 (by first | assumption | exact zS0_at (by assumption) (by omega) | exact zS0_at rfl (by omega)) (by first | assumption | ((try simp (disch := omega) only [zu_same, zu_ne, zcp_ne, zfl_ne]); first | assumption | rfl)) ?_
                refine z_icmp_ge (tgt := 145) d_Game_bestFor_107 (by decide) (fun he => ?_) (fun he => ?_)
                · have he := (nI_leI (by omega) (by omega)).mp he
                  exact ex i op (by omega) (fun i' q1 q2 => hnp i' (by omega) (by omega))
                · have he : i < np := Nat.lt_of_not_le (fun q => he (nI_le q (by omega)))
                  have qz := ihz (i + 1) (by omega) (by omega)
                  refine z_iload_7 d_Game_bestFor_110 ?_
                  refine z_iload_8 d_Game_bestFor_112 ?_
                  refine z_ishr d_Game_bestFor_114 ?_
                  refine z_iconst (a := nI 1) d_Game_bestFor_115 (by decide) ?_
                  refine z_iand d_Game_bestFor_116 ?_
                  refine z_if_eq (tgt := 139) d_Game_bestFor_117 (by decide) (fun hz2 => ?_) (fun hz2 => ?_)
                  · have hz2 : bb (7 * j + i) = false := by rw [ebb i (by omega)]; exact Bool.eq_false_iff.mpr (zbit_n.mp hz2)
                    rw [show 7 * j + (i + 1) = 7 * j + i + 1 from rfl, gaM_f hz2] at qz
                    first | refine z_iinc_8 d_Game_bestFor_139 rfl (zi_inc _) ?_ | refine z_iinc_8 d_Game_bestFor_139 rfl rfl ?_
                    refine z_goto (tgt := 96) d_Game_bestFor_142 (by decide) ?_
                    exact qz
                  · have hz2 : bb (7 * j + i) = true := by rw [ebb i (by omega)]; exact zbit_p.mp hz2
                    have hok : gaOk nn mt tk (I 142) mv (7 * j + i) = true := by rw [← hbb]; exact hz2
                    have hC : I 142 j = nI mv := by
                      have := gaOk_at hok
                      rw [show (7 * j + i) / 7 = j by omega] at this
                      exact this
                    have ev : ((g j : Int) - gaB nn mt tk g d (gaU (I 142) j (nI i)) ot mv) = vv (7 * j + i) := by
                      rw [hvv]
                      unfold gaV
                      rw [show (7 * j + i) / 7 = j by omega, show (7 * j + i) % 7 = i by omega]
                    rw [show 7 * j + (i + 1) = 7 * j + i + 1 from rfl, gaM_t hz2] at qz
                    refine z_iload_5 d_Game_bestFor_120 ?_
                    refine z_aload_0 d_Game_bestFor_122 ?_
                    refine z_aload_1 d_Game_bestFor_123 ?_
                    refine z_iload_6 d_Game_bestFor_124 ?_
                    refine z_iload_8 d_Game_bestFor_126 ?_
                    refine z_iload_3 d_Game_bestFor_128 ?_
                    refine z_iload_4 d_Game_bestFor_129 ?_
                    refine z_Vi5 d_Game_bestFor_131 k_Game_53 (by first | assumption | exact zS0_at (by assumption) (by omega) | exact zS0_at rfl (by omega)) (hA j i hb hC (by omega)) (by refine ⟨?_, ?_, ?_, ?_⟩ <;> simp only [zRm] <;> omega) (Nat.le_of_ble_eq_true rfl) ?_
                    intro r w hq
                    obtain ⟨rfl, rfl⟩ := hq
                    rw [ev]
                    have b1 := bd (7 * j + i)
                    have b2 := bv _ hz2
                    refine z_max d_Game_bestFor_134 k_Game_61.2.1 (by refine ⟨?_, ?_, ?_, ?_⟩ <;> simp only [zRm] <;> omega) (Nat.le_of_ble_eq_true rfl) ?_
                    rw [zI_max (by omega) (by omega)]
                    first | refine z_istore_5 d_Game_bestFor_137 rfl ?_ | (refine z_forget_4 ?_; refine z_istore_5 d_Game_bestFor_137 rfl ?_)
                    first | refine z_iinc_8 d_Game_bestFor_139 rfl (zi_inc _) ?_ | refine z_iinc_8 d_Game_bestFor_139 rfl rfl ?_
                    refine z_goto (tgt := 96) d_Game_bestFor_142 (by decide) ?_
                    exact qz
          have mid : zA G y_Game_bestFor prog_4_method_4_code 9 (some .int) (zRm (2*(d + 1)+1) 0 0) (zM G 0 0 (fun r w' => ∃ x, r = some (.int x) ∧ (fun r w => r = zI (gaM bb vv x0 63) ∧ w = (I, J, P, S)) x w')) 65 [some (.ref 141), some (.ref f), some (.int (nI mv)), some (.int (nI ot)), some (.int (nI (d + 1))), some (.int (zI (gaM bb vv x0 (7 * j)))), some (.int (nI j)), some (.int op), none] [] (I, J, P, S) 0 0 := by
            refine z_iload_4 d_Game_bestFor_65 ?_
            refine z_iconst (a := nI 1) d_Game_bestFor_67 (by decide) ?_
            refine z_icmp_ne (tgt := 93) d_Game_bestFor_68 (by decide) (fun hd1 => ?_) (fun hd1 => ?_)
            · refine z_iconst (a := nI 0) d_Game_bestFor_93 (by decide) ?_
              first | refine z_istore_8 d_Game_bestFor_94 rfl ?_ | (refine z_forget_7 ?_; refine z_istore_8 d_Game_bestFor_94 rfl ?_)
              exact inn (np + 1) 0 (by omega) (by omega)
            · have hd1 : d = 0 := by have := (nI_eq (by omega) (by omega)).mp hd1; omega
              refine z_iload_7 d_Game_bestFor_71 ?_
              refine z_if_eq (tgt := 93) d_Game_bestFor_73 (by decide) (fun hop0 => ?_) (fun hop0 => ?_)
              · refine z_iconst (a := nI 0) d_Game_bestFor_93 (by decide) ?_
                first | refine z_istore_8 d_Game_bestFor_94 rfl ?_ | (refine z_forget_7 ?_; refine z_istore_8 d_Game_bestFor_94 rfl ?_)
                exact inn (np + 1) 0 (by omega) (by omega)
              · obtain ⟨i, hi, hzi⟩ : ∃ i, i < 7 ∧ zB op i = true := by
                  apply Classical.byContradiction
                  intro hno
                  apply hop0
                  apply zB_ext
                  intro i hi
                  rw [show (0 : Int32) = nI 0 from rfl, zB_nI hi, Nat.zero_testBit]
                  refine Bool.eq_false_iff.mpr (fun q => ?_)
                  by_cases hn : np ≤ i
                  · rw [hnp i hi hn] at q; cases q
                  · exact hno ⟨i, by omega, q⟩
                have e1 := gaM_one (bb := bb) (v := vv) (x := x0) (n := 7 * j) (c := (g j : Int)) 7 (fun k q1 q2 => by
                  rw [hvv, hd1]
                  unfold gaV
                  rw [gaB, show k / 7 = j by omega]
                  omega) ⟨7 * j + i, by omega, by omega, by rw [ebb i hi]; exact hzi⟩
                rw [show 7 * j + 7 = 7 * (j + 1) by omega] at e1
                have hgj := h3 j hb
                have b1 := bd (7 * j)
                have b2 := k3 j hb
                refine z_iload_5 d_Game_bestFor_76 ?_
                refine z_aload_0 d_Game_bestFor_78 ?_
                refine z_getR d_Game_bestFor_79 f_Game_18 (by first | assumption | exact zS0_at (by assumption) (by omega) | exact zS0_at rfl (by omega)) (by first | assumption | exact zS0_at (by assumption) (by omega) | exact zS0_at rfl (by omega)) ?_
                refine z_iload_6 d_Game_bestFor_82 ?_
                first | refine z_ialdNv d_Game_bestFor_84 (by first | assumption | exact zS0_at (by assumption) (by omega) | exact zS0_at rfl (by omega)) (by omega) (by first | decide | omega) (by first | assumption | ((try simp (disch := omega) only [zu_same, zu_ne, zcp_ne, zfl_ne]); first | assumption | rfl)) ?_ | refine z_iald d_Game_bestFor_84 (by first | assumption | exact zS0_at (by assumption) (by omega) | exact zS0_at rfl (by omega)) (by first | assumption | exact zS0_at (by assumption) (by omega) | exact zS0_at rfl (by omega)) ?_
                refine z_max d_Game_bestFor_85 k_Game_61.2.1 (by refine ⟨?_, ?_, ?_, ?_⟩ <;> simp only [zRm] <;> omega) (Nat.le_of_ble_eq_true rfl) ?_
                rw [zI_nI (g j), zI_max (by omega) (by omega), ← e1]
                first | refine z_istore_5 d_Game_bestFor_88 rfl ?_ | (refine z_forget_4 ?_; refine z_istore_5 d_Game_bestFor_88 rfl ?_)
                refine z_iconst (a := nI 0) d_Game_bestFor_90 (by decide) ?_
                first | refine z_istore_7 d_Game_bestFor_91 rfl ?_ | (refine z_forget_6 ?_; refine z_istore_7 d_Game_bestFor_91 rfl ?_)
                refine z_iconst (a := nI 0) d_Game_bestFor_93 (by decide) ?_
                first | refine z_istore_8 d_Game_bestFor_94 rfl ?_ | (refine z_forget_7 ?_; refine z_istore_8 d_Game_bestFor_94 rfl ?_)
                refine z_iload_7 d_Game_bestFor_96 ?_
                refine z_if_eq (tgt := 145) d_Game_bestFor_98 (by decide) (fun _ => ?_) (fun h => absurd (by decide) h)
                first | refine z_iinc_6 d_Game_bestFor_145 rfl (zi_inc _) ?_ | refine z_iinc_6 d_Game_bestFor_145 rfl rfl ?_
                refine z_goto (tgt := 25) d_Game_bestFor_148 (by decide) ?_
                refine z_forget_7 ?_
                refine z_forget_8 ?_
                exact ih'
          refine z_aload_0 d_Game_bestFor_34 ?_
          refine z_getR d_Game_bestFor_35 f_Game_9 (by first | assumption | exact zS0_at (by assumption) (by omega) | exact zS0_at rfl (by omega)) (by first | assumption | exact zS0_at (by assumption) (by omega) | exact zS0_at rfl (by omega)) ?_
          refine z_iload_6 d_Game_bestFor_38 ?_
          first | refine z_ialdNv d_Game_bestFor_40 (by first | assumption | exact zS0_at (by assumption) (by omega) | exact zS0_at rfl (by omega)) (by omega) (by first | decide | omega) (by first | assumption | ((try simp (disch := omega) only [zu_same, zu_ne, zcp_ne, zfl_ne]); first | assumption | rfl)) ?_ | refine z_iald d_Game_bestFor_40 (by first | assumption | exact zS0_at (by assumption) (by omega) | exact zS0_at rfl (by omega)) (by first | assumption | exact zS0_at (by assumption) (by omega) | exact zS0_at rfl (by omega)) ?_
          refine z_iload_2 d_Game_bestFor_41 ?_
          refine z_icmp_ne (tgt := 62) d_Game_bestFor_42 (by decide) (fun hc => ?_) (fun hc => ?_)
          · rw [if_neg hc] at hop
            subst hop
            refine z_iconst (a := nI 0) d_Game_bestFor_62 (by decide) ?_
            first | refine z_istore_7 d_Game_bestFor_63 rfl ?_ | (refine z_forget_6 ?_; refine z_istore_7 d_Game_bestFor_63 rfl ?_)
            exact mid
          · rw [if_pos hc] at hop
            subst hop
            have hmt := h4 mv hmv
            have htk := h2 j hb
            refine z_aload_1 d_Game_bestFor_45 ?_
            refine z_getR d_Game_bestFor_46 f_Game_47 (by first | assumption | exact zS0_at (by assumption) (by omega) | exact zS0_at rfl (by omega)) (by first | assumption | exact zS0_at (by assumption) (by omega) | exact zS0_at rfl (by omega)) ?_
            refine z_iload_2 d_Game_bestFor_49 ?_
            first | refine z_ialdNv d_Game_bestFor_50 (by first | assumption | exact zS0_at (by assumption) (by omega) | exact zS0_at rfl (by omega)) (by omega) (by first | decide | omega) (by first | assumption | ((try simp (disch := omega) only [zu_same, zu_ne, zcp_ne, zfl_ne]); first | assumption | rfl)) ?_ | refine z_iald d_Game_bestFor_50 (by first | assumption | exact zS0_at (by assumption) (by omega) | exact zS0_at rfl (by omega)) (by first | assumption | exact zS0_at (by assumption) (by omega) | exact zS0_at rfl (by omega)) ?_
            refine z_aload_0 d_Game_bestFor_51 ?_
            refine z_getR d_Game_bestFor_52 f_Game_15 (by first | assumption | exact zS0_at (by assumption) (by omega) | exact zS0_at rfl (by omega)) (by first | assumption | exact zS0_at (by assumption) (by omega) | exact zS0_at rfl (by omega)) ?_
            refine z_iload_6 d_Game_bestFor_55 ?_
            first | refine z_ialdNv d_Game_bestFor_57 (by first | assumption | exact zS0_at (by assumption) (by omega) | exact zS0_at rfl (by omega)) (by omega) (by first | decide | omega) (by first | assumption | ((try simp (disch := omega) only [zu_same, zu_ne, zcp_ne, zfl_ne]); first | assumption | rfl)) ?_ | refine z_iald d_Game_bestFor_57 (by first | assumption | exact zS0_at (by assumption) (by omega) | exact zS0_at rfl (by omega)) (by first | assumption | exact zS0_at (by assumption) (by omega) | exact zS0_at rfl (by omega)) ?_
            refine z_iand d_Game_bestFor_58 ?_
            refine z_goto (tgt := 63) d_Game_bestFor_59 (by decide) ?_
            first | refine z_istore_7 d_Game_bestFor_63 rfl ?_ | (refine z_forget_6 ?_; refine z_istore_7 d_Game_bestFor_63 rfl ?_)
            exact mid
    refine z_iload_4 d_Game_bestFor_0 ?_
    refine z_iconst (a := nI 1) d_Game_bestFor_2 (by decide) ?_
    refine z_icmp_ge (tgt := 8) d_Game_bestFor_3 (by decide) (fun _ => ?_) (fun h => absurd (nI_le (by omega) (by omega)) h)
    refine z_aload_0 d_Game_bestFor_8 ?_
    refine z_aload_1 d_Game_bestFor_9 ?_
    refine z_iload_3 d_Game_bestFor_10 ?_
    refine z_iload_2 d_Game_bestFor_11 ?_
    refine z_iload_4 d_Game_bestFor_12 ?_
    refine z_iconst (a := nI 1) d_Game_bestFor_14 (by decide) ?_
    first | refine z_isubN d_Game_bestFor_15 (by omega) ?_ | refine z_isub d_Game_bestFor_15 ?_
    rw [Nat.add_sub_cancel]
    refine z_Vi4 d_Game_bestFor_16 k_Game_57 (by first | assumption | exact zS0_at (by assumption) (by omega) | exact zS0_at rfl (by omega)) (ihd I ot mv (by omega) h hot hmv) (by refine ⟨?_, ?_, ?_, ?_⟩ <;> simp only [zRm] <;> omega) (Nat.le_of_ble_eq_true rfl) ?_
    intro r w hq
    obtain ⟨rfl, rfl⟩ := hq
    refine z_ineg d_Game_bestFor_19 ?_
    rw [zI_neg, ← hx0]
    first | refine z_istore_5 d_Game_bestFor_20 rfl ?_ | (refine z_forget_4 ?_; refine z_istore_5 d_Game_bestFor_20 rfl ?_)
    refine z_iconst (a := nI 0) d_Game_bestFor_22 (by decide) ?_
    first | refine z_istore_6 d_Game_bestFor_23 rfl ?_ | (refine z_forget_5 ?_; refine z_istore_6 d_Game_bestFor_23 rfl ?_)
    exact loop (nn + 1) 0 (by omega) (by omega)
end GB0
