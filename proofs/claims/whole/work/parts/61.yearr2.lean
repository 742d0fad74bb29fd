/-! the class's reader of YEARS -/
section YR2
variable {G : zG} {I I0 I1 I2 : Nat → Nat → Int32} {J J1 J2 : Nat → Nat → Int64} {P : Nat → Nat → Option Nat} {S : List (Nat × Nat)} {L f g ns sz dp : Nat} {T : Nat → Int32} {K : Nat → Int64} {t t' : tk} {s s' : yS} {e : Nat × Nat} {w : zW} {n : yN} {op : Nat → Nat} {A : Nat → Nat → Int32}
theorem yrC_mk (C : yrC T K L f g n I J P S s t) (C' : tkC T K 1 900 L I1 J1 P S t') (h1 : ∀ a, a ≠ 11 → a ≠ 16 → a ≠ 17 → ¬ (g ≤ a ∧ a ≤ g + 4) → I1 a = I a) (hJ : ∀ a, a ≠ 11 → J1 a = J a) (hA : sf g I1 = s'.2.2) (h2 : I1 g 1 = nI s'.1.1 ∧ s'.1.1 ≤ 30) (h3 : I1 g 2 = nI s'.1.2.1) (h4 : I1 16 2 = nI s'.1.2.2 ∧ s'.1.2.2 ≤ 3) (h5 : s'.1.2.1 + s'.1.2.2 ≤ 2 * s'.1.1) (h6 : ∀ d, d < s'.1.2.2 → I1 17 d = nI (s'.2.1 d) ∧ s'.2.1 d < s'.1.2.1) (h7 : I1 11 10 = nI 0) (h8 : I1 11 11 = -1) : yrC T K L f g n I1 J1 P S s' t' := by
  obtain ⟨-, c1, c2, c3, ⟨d1, d2, d3⟩, ⟨b1, b2, b3, b4, b5, b6⟩, -⟩ := C
  have e2 : I1 f = I f := h1 f (by omega) (by omega) (by omega) (by omega)
  exact ⟨C', c1, c2, c3, ⟨d1, d2, d3⟩, ⟨(hJ _ (by omega)).trans b1, (hJ _ (by omega)).trans b2, (hJ _ (by omega)).trans b3, by rw [e2]; exact b4, by rw [e2]; exact b5, by rw [e2]; exact b6⟩, hA, h2, h3, h4, h5, h6, h7, h8⟩
theorem sf_addOp {a b c : Int32} : sf g (s_addOp I g sz a b c) = s_addOp (sf g I) 0 sz a b c := by
  unfold s_addOp
  rw [sf_zu0, sf_zu, sf_zu, sf_zu]
theorem addOp_row {a b c : Int32} {x : Nat} (h : ¬ (g ≤ x ∧ x ≤ g + 4)) : s_addOp I g sz a b c x = I x := by
  unfold s_addOp
  rw [zu_row _ _ _ _ (by omega), zu_row _ _ _ _ (by omega), zu_row _ _ _ _ (by omega), zu_row _ _ _ _ (by omega)]
theorem t_YearsR_readEnd (C : yrC T K L f g n I J P S ((ns, sz, dp), op, A) t) : zEi G y_YearsR_readEnd prog_12_method_3_code 2 (some .boolean) 4 [.ref 16, .ref g] (I, J, P, S) (fun r w => pQ (y_end (tA T L K) ((ns, sz, dp), op, A) t) (fun e => r = nI 0 ∧ yrE g I J P S e w) (fun x => r = nI 1 ∧ yrN T K L f g n I J P S x w)) := by
  have X0 := C.1.1.1
  obtain ⟨Y0, ⟨Y3, Y3s⟩, ⟨Y4, Y4s⟩, ⟨Y5, Y5s⟩, ⟨Y6, Y6s⟩⟩ := id C.2.2.1
  obtain ⟨R0, R1, R2, R3⟩ := id C.2.2.2.1
  obtain ⟨d1, d2, d3⟩ := id C.2.2.2.2.1
  obtain ⟨cA, ⟨c6, c6b⟩, c7, ⟨c8, c8b⟩, c9, c10, c11, c12⟩ := id C.2.2.2.2.2.2
  dsimp only at cA c6 c6b c7 c8 c8b c9 c10
  refine zEi_of (lv := [some (.ref 16), some (.ref g)]) (by decide) rfl (Nat.le_of_ble_eq_true rfl) ?_
  unfold y_end
  dsimp only
  refine z_aload_0 d_YearsR_readEnd_0 ?_
  refine z_getIv d_YearsR_readEnd_1 f_YearsR_28 (by first | assumption | exact zS0_at (by assumption) (by omega) | exact zS0_at rfl (by omega)) (by first | assumption | ((try simp (disch := omega) only [zu_same, zu_ne, zcp_ne, zfl_ne]); first | assumption | rfl)) ?_
  refine z_iconst (a := nI 1) d_YearsR_readEnd_4 (by decide) ?_
  refine z_icmp_ge (tgt := 16) d_YearsR_readEnd_5 (by decide) (fun hb => ?_) (fun hb => ?_)
  · have hb := (nI_leI (by omega) (by omega)).mp hb
    rw [if_neg (by omega)]
    refine z_aload_0 d_YearsR_readEnd_16 ?_
    refine z_getR d_YearsR_readEnd_17 f_YearsR_15 (by first | assumption | exact zS0_at (by assumption) (by omega) | exact zS0_at rfl (by omega)) (by first | assumption | exact zS0_at (by assumption) (by omega) | exact zS0_at rfl (by omega)) ?_
    refine z_Vv0 d_YearsR_readEnd_20 k_YearsR_59 (by first | assumption | exact zS0_at (by assumption) (by omega) | exact zS0_at rfl (by omega)) (t_adv C.1) ⟨Nat.le_of_ble_eq_true rfl, Nat.le_of_ble_eq_true rfl, Nat.le_of_ble_eq_true rfl, Nat.le_of_ble_eq_true rfl⟩ (Nat.le_of_ble_eq_true rfl) ?_
    intro w hq
    obtain ⟨I1, J1, rfl, fr1, gr1, C1⟩ := yrN_tk C hq
    refine z_aload_0 d_YearsR_readEnd_23 ?_
    refine z_getR d_YearsR_readEnd_24 f_YearsR_15 (by first | assumption | exact zS0_at (by assumption) (by omega) | exact zS0_at rfl (by omega)) (by first | assumption | exact zS0_at (by assumption) (by omega) | exact zS0_at rfl (by omega)) ?_
    refine z_Vi0 d_YearsR_readEnd_27 k_YearsR_62 (by first | assumption | exact zS0_at (by assumption) (by omega) | exact zS0_at rfl (by omega)) (t_Tok_takeSemicolon C1.1) ⟨Nat.le_of_ble_eq_true rfl, Nat.le_of_ble_eq_true rfl, Nat.le_of_ble_eq_true rfl, Nat.le_of_ble_eq_true rfl⟩ (Nat.le_of_ble_eq_true rfl) ?_
    intro r w hq
    rcases hx : p_semi (tA T L K) (tA T L K t) with e | t1 <;> rw [hx] at hq <;> dsimp only [pb, pQ]
    · obtain ⟨rfl, hq⟩ := hq
      obtain ⟨I2, J2, rfl, hq2⟩ := yrE_t fr1 gr1 (yrE_tk hq)
      refine z_if_ne (tgt := 35) d_YearsR_readEnd_30 (by decide) (fun h => absurd (by decide) h) (fun _ => ?_)
      refine z_iconst (a := nI 0) d_YearsR_readEnd_33 (by decide) ?_
      refine z_retz d_YearsR_readEnd_34 (by first | exact zb0 | exact zb1 | assumption) ?_
      exact ⟨rfl, I2, J2, rfl, hq2⟩
    · obtain ⟨rfl, hq⟩ := hq
      obtain ⟨I2, J2, rfl, fr2, gr2, C2⟩ := yrN_t fr1 gr1 (yrN_tk C1 hq)
      obtain ⟨eA, ⟨e6, e6b⟩, e7, ⟨e8, e8b⟩, e9, e10, e11, e12⟩ := id C2.2.2.2.2.2.2
      dsimp only at eA e6 e6b e7 e8 e8b e9 e10
      obtain ⟨k17, k17b⟩ := e10 (dp - 1) (by omega)
      have hsz : zu I2 16 2 (nI (dp - 1)) g 2 = nI sz := by rw [zu_row _ _ _ _ (by omega)]; exact e7
      refine z_if_ne (tgt := 35) d_YearsR_readEnd_30 (by decide) (fun _ => ?_) (fun h => absurd h (by decide))
      refine z_aload_0 d_YearsR_readEnd_35 ?_
      refine z_dup rfl d_YearsR_readEnd_36 ?_
      refine z_getIv d_YearsR_readEnd_37 f_YearsR_28 (by first | assumption | exact zS0_at (by assumption) (by omega) | exact zS0_at rfl (by omega)) (by first | assumption | ((try simp (disch := omega) only [zu_same, zu_ne, zcp_ne, zfl_ne]); first | assumption | rfl)) ?_
      refine z_iconst (a := nI 1) d_YearsR_readEnd_40 (by decide) ?_
      first | refine z_isubN d_YearsR_readEnd_41 (by omega) ?_ | refine z_isub d_YearsR_readEnd_41 ?_
      refine z_putI d_YearsR_readEnd_42 f_YearsR_28 (by first | assumption | exact zS0_at (by assumption) (by omega) | exact zS0_at rfl (by omega)) ?_
      refine z_aload_1 d_YearsR_readEnd_45 ?_
      refine z_aload_0 d_YearsR_readEnd_46 ?_
      refine z_getR d_YearsR_readEnd_47 f_YearsR_11 (by first | assumption | exact zS0_at (by assumption) (by omega) | exact zS0_at rfl (by omega)) (by first | assumption | exact zS0_at (by assumption) (by omega) | exact zS0_at rfl (by omega)) ?_
      refine z_aload_0 d_YearsR_readEnd_50 ?_
      refine z_getIv d_YearsR_readEnd_51 f_YearsR_28 (by first | assumption | exact zS0_at (by assumption) (by omega) | exact zS0_at rfl (by omega)) (by first | assumption | ((try simp (disch := omega) only [zu_same, zu_ne, zcp_ne, zfl_ne]); first | assumption | rfl)) ?_
      first | refine z_ialdNv d_YearsR_readEnd_54 (by first | assumption | exact zS0_at (by assumption) (by omega) | exact zS0_at rfl (by omega)) (by omega) (by first | decide | omega) (by first | assumption | ((try simp (disch := omega) only [zu_same, zu_ne, zcp_ne, zfl_ne]); first | assumption | rfl)) ?_ | refine z_iald d_YearsR_readEnd_54 (by first | assumption | exact zS0_at (by assumption) (by omega) | exact zS0_at rfl (by omega)) (by first | assumption | exact zS0_at (by assumption) (by omega) | exact zS0_at rfl (by omega)) ?_
      refine z_Vv1 d_YearsR_readEnd_55 k_YearsR_65 (by first | assumption | exact zS0_at (by assumption) (by omega) | exact zS0_at rfl (by omega)) (t_Years_addEnd (sz := sz) (o := op (dp - 1)) C2.2.2.1 hsz (by omega) (by omega)) ⟨Nat.le_of_ble_eq_true rfl, Nat.le_of_ble_eq_true rfl, Nat.le_of_ble_eq_true rfl, Nat.le_of_ble_eq_true rfl⟩ (Nat.le_of_ble_eq_true rfl) ?_
      intro w hq
      obtain rfl := hq
      refine z_iconst (a := nI 1) d_YearsR_readEnd_58 (by decide) ?_
      refine z_retz d_YearsR_readEnd_59 (by first | exact zb0 | exact zb1 | assumption) ?_
      refine ⟨rfl, _, _, rfl, ?_, gr2, ?_⟩
      · intro a g1 g2 g3 g4
        rw [addOp_row g4, zu_row _ _ _ _ (by omega), zu_row _ _ _ _ (by omega), zu_row _ _ _ _ (by omega)]
        exact fr2 a g1 g2 g3 g4
      · refine yrC_mk C2 (tkC_c C2.1 ?_ ?_ rfl rfl) (fun a g1 g2 g3 g4 => ?_) (fun _ _ => rfl) ?_ ⟨?_, e6b⟩ ?_ ⟨?_, show dp - 1 ≤ 3 by omega⟩ (show sz + 1 + (dp - 1) ≤ 2 * ns by omega) (fun d hd => ?_) ?_ ?_
        · rw [addOp_row (by omega), zu_row _ _ _ _ (by omega), zu_row _ _ _ _ (by omega), zu_row _ _ _ _ (by omega)]
        · rw [addOp_row (by omega), zu_row _ _ _ _ (by omega), zu_row _ _ _ _ (by omega), zu_row _ _ _ _ (by omega)]
        · rw [addOp_row g4, zu_row _ _ _ _ (by omega), zu_row _ _ _ _ (by omega), zu_row _ _ _ _ (by omega)]
        · rw [sf_addOp, sf_zu, sf_zu, sf_out (by omega), eA]
        · show s_addOp _ g sz _ _ _ g 1 = nI ns
          unfold s_addOp
          rw [zu_ne _ _ _ _ (by omega), zu_ne _ _ _ _ (by omega), zu_ne _ _ _ _ (by omega), zu_ne _ _ _ _ (by omega), zu_ne _ _ _ _ (by omega), zu_ne _ _ _ _ (by omega), zu_ne _ _ _ _ (by omega)]
          exact e6
        · unfold s_addOp
          exact zu_same _ _ _ _
        · rw [addOp_row (by omega), zu_row _ _ _ _ (by omega), zu_row _ _ _ _ (by omega), zu_same]
        · have hd : d < dp - 1 := hd
          obtain ⟨q1, q2⟩ := e10 d (by omega)
          rw [addOp_row (by omega), zu_row _ _ _ _ (by omega), zu_row _ _ _ _ (by omega), zu_row _ _ _ _ (by omega)]
          exact ⟨q1, show op d < sz + 1 by omega⟩
        · rw [addOp_row (by omega), zu_row _ _ _ _ (by omega), zu_row _ _ _ _ (by omega), zu_row _ _ _ _ (by omega)]; exact e11
        · rw [addOp_row (by omega), zu_row _ _ _ _ (by omega), zu_row _ _ _ _ (by omega), zu_row _ _ _ _ (by omega)]; exact e12
  · have hb : ¬ 1 ≤ dp := fun h => hb (nI_le h (by omega))
    rw [if_pos (by omega)]
    refine z_aload_0 d_YearsR_readEnd_8 ?_
    refine z_getR d_YearsR_readEnd_9 f_YearsR_15 (by first | assumption | exact zS0_at (by assumption) (by omega) | exact zS0_at rfl (by omega)) (by first | assumption | exact zS0_at (by assumption) (by omega) | exact zS0_at rfl (by omega)) ?_
    refine z_Vi0 d_YearsR_readEnd_12 k_YearsR_55 (by first | assumption | exact zS0_at (by assumption) (by omega) | exact zS0_at rfl (by omega)) (t_Tok_misplaced C.1) ⟨Nat.le_of_ble_eq_true rfl, Nat.le_of_ble_eq_true rfl, Nat.le_of_ble_eq_true rfl, Nat.le_of_ble_eq_true rfl⟩ (Nat.le_of_ble_eq_true rfl) ?_
    intro r w hq
    obtain ⟨rfl, hq⟩ := hq
    obtain ⟨I2, J2, rfl, hq2⟩ := yrE_tk (g := g) hq
    refine z_retz d_YearsR_readEnd_15 (by first | exact zb0 | exact zb1 | assumption) ?_
    exact ⟨rfl, I2, J2, rfl, hq2⟩
theorem t_YearsR_mayBegin (C : yrC T K L f g n I J P S ((ns, sz, dp), op, A) t) : zEi G y_YearsR_mayBegin prog_12_method_4_code 4 (some .boolean) 3 [.ref 16, .ref g] (I, J, P, S) (fun r w => pQ (y_beg ((ns, sz, dp), op, A) t) (fun e => r = nI 0 ∧ tkE I J P S e w) (fun _ => r = nI 1 ∧ w = (I, J, P, S))) := by
  have X0 := C.1.1.1
  have Y0 := C.2.2.1.1
  obtain ⟨R0, R1, R2, R3⟩ := id C.2.2.2.1
  obtain ⟨cA, ⟨c6, c6b⟩, c7, ⟨c8, c8b⟩, c9, c10, c11, c12⟩ := id C.2.2.2.2.2.2
  dsimp only at cA c6 c6b c7 c8 c8b c9 c10
  have k7 : I 11 7 = tkw t := C.1.2.2.2.2.2.1.2.2.2.2.1
  refine zEi_of (lv := [some (.ref 16), some (.ref g), none, none]) (by decide) rfl (Nat.le_of_ble_eq_true rfl) ?_
  have mis : ¬ y_word t → zA G y_YearsR_mayBegin prog_12_method_4_code 4 (some .boolean) (zRm 3 0 0) (zM G 0 0 (fun r w' => ∃ x, r = some (.int x) ∧ (fun r w => pQ (y_beg ((ns, sz, dp), op, A) t) (fun e => r = nI 0 ∧ tkE I J P S e w) (fun _ => r = nI 1 ∧ w = (I, J, P, S))) x w')) 48 [some (.ref 16), some (.ref g), some (.int (tkw t)), some (.int (nI 0))] [] (I, J, P, S) 0 0 := by
    intro h
    unfold y_beg
    rw [if_neg h]
    refine z_aload_0 d_YearsR_mayBegin_48 ?_
    refine z_getR d_YearsR_mayBegin_49 f_YearsR_15 (by first | assumption | exact zS0_at (by assumption) (by omega) | exact zS0_at rfl (by omega)) (by first | assumption | exact zS0_at (by assumption) (by omega) | exact zS0_at rfl (by omega)) ?_
    refine z_Vi0 d_YearsR_mayBegin_52 k_YearsR_55 (by first | assumption | exact zS0_at (by assumption) (by omega) | exact zS0_at rfl (by omega)) (t_Tok_misplaced C.1) ⟨Nat.le_of_ble_eq_true rfl, Nat.le_of_ble_eq_true rfl, Nat.le_of_ble_eq_true rfl, Nat.le_of_ble_eq_true rfl⟩ (Nat.le_of_ble_eq_true rfl) ?_
    intro r w hq
    obtain ⟨rfl, I', J', rfl, hq⟩ := hq
    refine z_retz d_YearsR_mayBegin_55 (by first | exact zb0 | exact zb1 | assumption) ?_
    exact ⟨rfl, I', J', rfl, hq⟩
  have c56 : ∀ o : Nat, (o = 1 ∧ y_opens t ∨ o = 0 ∧ ¬ y_opens t) → y_word t → zA G y_YearsR_mayBegin prog_12_method_4_code 4 (some .boolean) (zRm 3 0 0) (zM G 0 0 (fun r w' => ∃ x, r = some (.int x) ∧ (fun r w => pQ (y_beg ((ns, sz, dp), op, A) t) (fun e => r = nI 0 ∧ tkE I J P S e w) (fun _ => r = nI 1 ∧ w = (I, J, P, S))) x w')) 56 [some (.ref 16), some (.ref g), some (.int (tkw t)), some (.int (nI o))] [] (I, J, P, S) 0 0 := by
    intro o ho hw
    unfold y_beg
    rw [if_pos hw]
    dsimp only
    refine z_aload_1 d_YearsR_mayBegin_56 ?_
    refine z_getIv d_YearsR_mayBegin_57 f_YearsR_69 (by first | assumption | exact zS0_at (by assumption) (by omega) | exact zS0_at rfl (by omega)) (by first | assumption | ((try simp (disch := omega) only [zu_same, zu_ne, zcp_ne, zfl_ne]); first | assumption | rfl)) ?_
    refine z_bipush (a := nI 30) d_YearsR_mayBegin_60 (by decide) ?_
    refine z_icmp_lt (tgt := 75) d_YearsR_mayBegin_62 (by decide) (fun h30 => ?_) (fun h30 => ?_)
    · have h30 := (nI_ltI (by omega) (by omega)).mp h30
      rw [if_neg (by omega)]
      refine z_iload_3 d_YearsR_mayBegin_75 ?_
      rcases ho with ⟨rfl, ho⟩ | ⟨rfl, ho⟩
      · refine z_if_eq (tgt := 99) d_YearsR_mayBegin_76 (by decide) (fun h => absurd h (by decide)) (fun _ => ?_)
        refine z_aload_0 d_YearsR_mayBegin_79 ?_
        refine z_getIv d_YearsR_mayBegin_80 f_YearsR_28 (by first | assumption | exact zS0_at (by assumption) (by omega) | exact zS0_at rfl (by omega)) (by first | assumption | ((try simp (disch := omega) only [zu_same, zu_ne, zcp_ne, zfl_ne]); first | assumption | rfl)) ?_
        refine z_iconst (a := nI 3) d_YearsR_mayBegin_83 (by decide) ?_
        refine z_icmp_lt (tgt := 99) d_YearsR_mayBegin_84 (by decide) (fun h3 => ?_) (fun h3 => ?_)
        · have h3 := (nI_ltI (by omega) (by omega)).mp h3
          rw [if_neg (by omega)]
          refine z_iconst (a := nI 1) d_YearsR_mayBegin_99 (by decide) ?_
          refine z_goto (tgt := 104) d_YearsR_mayBegin_100 (by decide) ?_
          refine z_retz d_YearsR_mayBegin_104 (by first | exact zb0 | exact zb1 | assumption) ?_
          exact ⟨rfl, rfl⟩
        · have h3 : ¬ dp < 3 := fun h => h3 (nI_lt h (by omega))
          rw [if_pos ⟨ho, by omega⟩]
          refine z_aload_0 d_YearsR_mayBegin_87 ?_
          refine z_getR d_YearsR_mayBegin_88 f_YearsR_15 (by first | assumption | exact zS0_at (by assumption) (by omega) | exact zS0_at rfl (by omega)) (by first | assumption | exact zS0_at (by assumption) (by omega) | exact zS0_at rfl (by omega)) ?_
          refine z_bipush (a := nI 7) d_YearsR_mayBegin_91 (by decide) ?_
          refine z_Vi1 d_YearsR_mayBegin_93 k_YearsR_72 (by first | assumption | exact zS0_at (by assumption) (by omega) | exact zS0_at rfl (by omega)) (t_Tok_faulty C.1) ⟨Nat.le_of_ble_eq_true rfl, Nat.le_of_ble_eq_true rfl, Nat.le_of_ble_eq_true rfl, Nat.le_of_ble_eq_true rfl⟩ (Nat.le_of_ble_eq_true rfl) ?_
          intro r w hq
          obtain ⟨rfl, I', J', rfl, hq⟩ := hq
          refine z_if_eq (tgt := 103) d_YearsR_mayBegin_96 (by decide) (fun _ => ?_) (fun h => absurd (by decide) h)
          refine z_iconst (a := nI 0) d_YearsR_mayBegin_103 (by decide) ?_
          refine z_retz d_YearsR_mayBegin_104 (by first | exact zb0 | exact zb1 | assumption) ?_
          exact ⟨rfl, I', J', rfl, hq⟩
      · rw [if_neg (fun h => ho h.1)]
        refine z_if_eq (tgt := 99) d_YearsR_mayBegin_76 (by decide) (fun _ => ?_) (fun h => absurd (by decide) h)
        refine z_iconst (a := nI 1) d_YearsR_mayBegin_99 (by decide) ?_
        refine z_goto (tgt := 104) d_YearsR_mayBegin_100 (by decide) ?_
        refine z_retz d_YearsR_mayBegin_104 (by first | exact zb0 | exact zb1 | assumption) ?_
        exact ⟨rfl, rfl⟩
    · have h30 : ¬ ns < 30 := fun h => h30 (nI_lt h (by omega))
      rw [if_pos (by omega)]
      refine z_aload_0 d_YearsR_mayBegin_65 ?_
      refine z_getR d_YearsR_mayBegin_66 f_YearsR_15 (by first | assumption | exact zS0_at (by assumption) (by omega) | exact zS0_at rfl (by omega)) (by first | assumption | exact zS0_at (by assumption) (by omega) | exact zS0_at rfl (by omega)) ?_
      refine z_bipush (a := nI 6) d_YearsR_mayBegin_69 (by decide) ?_
      refine z_Vi1 d_YearsR_mayBegin_71 k_YearsR_72 (by first | assumption | exact zS0_at (by assumption) (by omega) | exact zS0_at rfl (by omega)) (t_Tok_faulty C.1) ⟨Nat.le_of_ble_eq_true rfl, Nat.le_of_ble_eq_true rfl, Nat.le_of_ble_eq_true rfl, Nat.le_of_ble_eq_true rfl⟩ (Nat.le_of_ble_eq_true rfl) ?_
      intro r w hq
      obtain ⟨rfl, I', J', rfl, hq⟩ := hq
      refine z_retz d_YearsR_mayBegin_74 (by first | exact zb0 | exact zb1 | assumption) ?_
      exact ⟨rfl, I', J', rfl, hq⟩
  have c20 : y_opens t → zA G y_YearsR_mayBegin prog_12_method_4_code 4 (some .boolean) (zRm 3 0 0) (zM G 0 0 (fun r w' => ∃ x, r = some (.int x) ∧ (fun r w => pQ (y_beg ((ns, sz, dp), op, A) t) (fun e => r = nI 0 ∧ tkE I J P S e w) (fun _ => r = nI 1 ∧ w = (I, J, P, S))) x w')) 20 [some (.ref 16), some (.ref g), some (.int (tkw t)), none] [] (I, J, P, S) 0 0 := by
    intro h
    refine z_iconst (a := nI 1) d_YearsR_mayBegin_20 (by decide) ?_
    refine z_goto (tgt := 25) d_YearsR_mayBegin_21 (by decide) ?_
    first | refine z_istore_3 d_YearsR_mayBegin_25 rfl ?_ | (refine z_forget_2 ?_; refine z_istore_3 d_YearsR_mayBegin_25 rfl ?_)
    refine z_iload_3 d_YearsR_mayBegin_26 ?_
    refine z_if_ne (tgt := 56) d_YearsR_mayBegin_27 (by decide) (fun _ => ?_) (fun h => absurd h (by decide))
    exact c56 1 (Or.inl ⟨rfl, h⟩) (Or.inl h)
  refine z_aload_0 d_YearsR_mayBegin_0 ?_
  refine z_getR d_YearsR_mayBegin_1 f_YearsR_15 (by first | assumption | exact zS0_at (by assumption) (by omega) | exact zS0_at rfl (by omega)) (by first | assumption | exact zS0_at (by assumption) (by omega) | exact zS0_at rfl (by omega)) ?_
  refine z_getIv d_YearsR_mayBegin_4 f_YearsR_41 (by first | assumption | exact zS0_at (by assumption) (by omega) | exact zS0_at rfl (by omega)) (by first | assumption | ((try simp (disch := omega) only [zu_same, zu_ne, zcp_ne, zfl_ne]); first | assumption | rfl)) ?_
  first | refine z_istore_2 d_YearsR_mayBegin_7 rfl ?_ | (refine z_forget_1 ?_; refine z_istore_2 d_YearsR_mayBegin_7 rfl ?_)
  refine z_iload_2 d_YearsR_mayBegin_8 ?_
  refine z_bipush (a := nI 15) d_YearsR_mayBegin_9 (by decide) ?_
  refine z_icmp_eq (tgt := 20) d_YearsR_mayBegin_11 (by decide) (fun h15 => ?_) (fun h15 => ?_)
  · exact c20 (Or.inl h15)
  refine z_iload_2 d_YearsR_mayBegin_14 ?_
  refine z_bipush (a := nI 18) d_YearsR_mayBegin_15 (by decide) ?_
  refine z_icmp_ne (tgt := 24) d_YearsR_mayBegin_17 (by decide) (fun h18 => ?_) (fun h18 => ?_)
  · have ho : ¬ y_opens t := by rintro (h | h); exact h15 h; exact h18 h
    refine z_iconst (a := nI 0) d_YearsR_mayBegin_24 (by decide) ?_
    first | refine z_istore_3 d_YearsR_mayBegin_25 rfl ?_ | (refine z_forget_2 ?_; refine z_istore_3 d_YearsR_mayBegin_25 rfl ?_)
    refine z_iload_3 d_YearsR_mayBegin_26 ?_
    refine z_if_ne (tgt := 56) d_YearsR_mayBegin_27 (by decide) (fun h => absurd (by decide) h) (fun _ => ?_)
    refine z_iload_2 d_YearsR_mayBegin_30 ?_
    refine z_bipush (a := nI 20) d_YearsR_mayBegin_31 (by decide) ?_
    refine z_icmp_eq (tgt := 56) d_YearsR_mayBegin_33 (by decide) (fun h20 => ?_) (fun h20 => ?_)
    · exact c56 0 (Or.inr ⟨rfl, ho⟩) (Or.inr (Or.inl h20))
    refine z_iload_2 d_YearsR_mayBegin_36 ?_
    refine z_bipush (a := nI 10) d_YearsR_mayBegin_37 (by decide) ?_
    refine z_icmp_lt (tgt := 48) d_YearsR_mayBegin_39 (by decide) (fun h10 => ?_) (fun h10 => ?_)
    · exact mis (by rintro (h | h | h); exact ho h; exact h20 h; exact absurd h10 (Int32.not_lt.mpr h.1))
    refine z_iload_2 d_YearsR_mayBegin_42 ?_
    refine z_bipush (a := nI 14) d_YearsR_mayBegin_43 (by decide) ?_
    refine z_icmp_le (tgt := 56) d_YearsR_mayBegin_45 (by decide) (fun h14 => ?_) (fun h14 => ?_)
    · exact c56 0 (Or.inr ⟨rfl, ho⟩) (Or.inr (Or.inr ⟨Int32.not_lt.mp h10, h14⟩))
    · exact mis (by rintro (h | h | h); exact ho h; exact h20 h; exact h14 h.2)
  · exact c20 (Or.inr h18)
theorem p_numb_nn {a : tk → tk} {lo : Nat} {hi : Int32} {v : Int32 × tk} (hl : lo < 2 ^ 31) (h : p_numb a (nI lo) hi t = .inr v) : (0 : Int32) ≤ v.1 := by
  unfold p_numb at h
  split at h
  · split at h
    · cases h
    · rename_i h1 h2
      cases h
      exact Int32.le_trans (nI_pos' hl) (Int32.not_lt.mp (fun h => h2 (Or.inl h)))
  · cases h
theorem p_known_nn {a : tk → tk} {N : Nat → Int64} {m : Nat} {v : Int32 × tk} (hm : m ≤ 9) (h : pb (p_known N m t) (fun k => .inr (k, a t)) = .inr v) : (0 : Int32) ≤ v.1 := by
  obtain ⟨k, h1, h2⟩ := pb_r h
  cases h2
  obtain ⟨j, hj, rfl, -⟩ := p_known_c h1
  exact nI_pos' (by omega)
theorem y_first_nn {a : tk → tk} {o : Int32} {v : Int32 × tk} (hn : n.2.2.1 ≤ 7 ∧ n.2.2.2 ≤ 9) (h : y_first a n o t = .inr v) : (0 : Int32) ≤ v.1 := by
  unfold y_first at h
  split at h
  · exact p_known_nn hn.2 h
  · split at h
    · exact p_known_nn (by omega) h
    · split at h
      · exact p_numb_nn (by decide) h
      · cases h; exact (by decide : (0 : Int32) ≤ nI 0)
theorem y_second_nn {a : tk → tk} {o : Int32} {v : Int32 × tk} (hn : n.2.1 ≤ 6 ∧ n.2.2.1 ≤ 7) (h : y_second a n o t = .inr v) : (0 : Int32) ≤ v.1 := by
  unfold y_second at h
  split at h
  · exact p_known_nn (by omega) h
  · split at h
    · exact p_known_nn (by omega) h
    · split at h
      · exact p_numb_nn (by decide) h
      · cases h; exact (by decide : (0 : Int32) ≤ nI 0)
theorem yfN_c (N : yfN f I J n) (hf : 17 < f) (h1 : ∀ a, a ≠ 11 → I1 a = I a) (h2 : ∀ a, a ≠ 11 → J1 a = J a) : yfN f I1 J1 n := by
  obtain ⟨b1, b2, b3, b4, b5, b6⟩ := N
  have e2 : I1 f = I f := h1 f (by omega)
  exact ⟨(h2 _ (by omega)).trans b1, (h2 _ (by omega)).trans b2, (h2 _ (by omega)).trans b3, by rw [e2]; exact b4, by rw [e2]; exact b5, by rw [e2]; exact b6⟩
end YR2
