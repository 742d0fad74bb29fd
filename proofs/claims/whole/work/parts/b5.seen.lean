/-! what was seen: the class -/
section SE0
variable {G : zG} {I I' I1 I2 I3 : Nat → Nat → Int32} {J J' J2 : Nat → Nat → Int64} {P : Nat → Nat → Option Nat} {S : List (Nat × Nat)} {f d nt np nl nn n fed mk t k p q s g i u v : Nat} {a c : Int32} {x y : Int64} {w : zW} {X : Nat → Int64}
/-- the first so many twos can be, and tell of these -/
def tw (X : Nat → Int64) (np : Nat) : Nat → Nat → Prop
  | 0, u => u = 0
  | i + 1, u => ∃ v p y, tw X np i v ∧ X (2 * i) = lN p ∧ p < np ∧ X (2 * i + 1) = lN y ∧ y < 7 ∧ v.testBit p = false ∧ u = v ||| 2 ^ p
theorem lN_inj (hp : p < 2 ^ 31) (hq : q < 2 ^ 31) (h : lN p = lN q) : p = q := by
  have := congrArg Int64.toInt h
  rw [lN_int hp, lN_int hq] at this
  omega
theorem tw_u (hn : np ≤ 7) : ∀ i u v, tw X np i u → tw X np i v → u = v := by
  intro i
  induction i with
  | zero => intro u v h1 h2; exact h1.trans h2.symm
  | succ i ih =>
    rintro u v ⟨v1, p1, y1, a1, a2, a3, -, -, -, a7⟩ ⟨v2, p2, y2, b1, b2, b3, -, -, -, b7⟩
    have e1 := ih _ _ a1 b1
    have e2 := lN_inj (by omega) (by omega) (a2.symm.trans b2)
    rw [a7, b7, e1, e2]
theorem tw_le : ∀ m, (∃ u, tw X np (i + m) u) → ∃ u, tw X np i u := by
  intro m
  induction m with
  | zero => intro h; exact h
  | succ m ih =>
    rintro ⟨u, v, p, y, h, -⟩
    exact ih ⟨v, h⟩
theorem tw_lt (hn : np ≤ 7) : ∀ i u, tw X np i u → u < 2 ^ np := by
  intro i
  induction i with
  | zero => intro u h; have h : u = 0 := h; rw [h]; exact Nat.pow_pos (by decide)
  | succ i ih =>
    rintro u ⟨v, p, y, h1, -, h2, -, -, -, rfl⟩
    exact Nat.or_lt_two_pow (ih v h1) (Nat.pow_lt_pow_right (by decide) h2)
theorem l2i_N : ∀ p, p < 7 → (lN p).toInt32 = nI p := by decide +kernel
theorem t_Seen_twos (Z : clOk f d P S) (N : fenIn I f nt np nl nn) (T : trOk P S g) (hg : g < 18) (hn : n ≤ 7) : zEi G y_Seen_twosCanBe prog_8_method_3_code 9 (some .boolean) 1 [.ref 139, .ref f, .ref g, .int (nI n)] (I, J, P, S) (fun r w => ∃ I', w = (I', J, P, S) ∧ xF 139 I I' ∧ (∀ k, k ≠ 2 → I' 139 k = I 139 k) ∧ ((∃ u, tw (J (g + 1)) np n u ∧ r = nI 1 ∧ I' 139 2 = nI u) ∨ (¬ (∃ u, tw (J (g + 1)) np n u) ∧ r = nI 0))) := by
  have hf := clOk_f Z
  obtain ⟨⟨c0, c3, c1s⟩, ⟨c5, c2s, ctr⟩, ⟨c6, c11s, c11, c13s⟩, ⟨c7, c15s, c15⟩, ⟨c8, c16s, c16a, c16b, c17s⟩, ⟨c9, c10, cfd, F, Fd⟩, ⟨c11b, Ft⟩, ⟨c12, c69s, cmk⟩, ⟨c14, c121s, c121, c122s⟩, ⟨c15b, c123s, c123, c124s⟩, ⟨c16, c125s, c125, c126s⟩, ⟨c17, c127s, c127, c128s, ctb⟩, ⟨c18, c139s, c139, c140s⟩, ⟨c19, c141s, ⟨c141a, c142s⟩, ⟨c141b, c143s⟩, ⟨c141c, c144s⟩⟩, M⟩ := id Z
  obtain ⟨F0, ⟨F8, F8s⟩, ⟨F9, F9s⟩, ⟨F10, F10s⟩, ⟨F11, F11s⟩, ⟨F12, F12s⟩, ⟨F13, F13s⟩, ⟨F14, F14s⟩, ⟨F15, F15s⟩, ⟨F16, F16s⟩, ⟨F17, F17s⟩, ⟨F18, F18s⟩, ⟨F19, F19s⟩, ⟨Y3, Y3s⟩, ⟨Y4, Y4s⟩, ⟨Y5, Y5s⟩, ⟨Y6, Y6s⟩⟩ := id F
  obtain ⟨⟨n1, n1b⟩, ⟨n2, n2b⟩, ⟨n3, n3b⟩, ⟨n4, n4b⟩, nof, non⟩ := id N
  obtain ⟨T0, T1, T2⟩ := id T
  have h128 : 2 ^ np ≤ 128 := Nat.pow_le_pow_right (n := 2) (by decide) n2b
  obtain ⟨X, hX⟩ : ∃ X, X = J (g + 1) := ⟨_, rfl⟩
  rw [← hX]
  refine zEi_of (lv := [some (.ref 139), some (.ref f), some (.ref g), some (.int (nI n)), none, none, none, none, none]) (by decide) rfl (Nat.le_of_ble_eq_true rfl) ?_
  have lp : ∀ m j v I2, n - j < m → j ≤ n → xF 139 I I2 → (∀ k, k ≠ 2 → I2 139 k = I 139 k) → I2 139 2 = nI v → tw X np j v → zA G y_Seen_twosCanBe prog_8_method_3_code 9 (some .boolean) (zRm 1 0 0) (zM G 0 0 (fun r w' => ∃ x, r = some (.int x) ∧ (fun r w => ∃ I', w = (I', J, P, S) ∧ xF 139 I I' ∧ (∀ k, k ≠ 2 → I' 139 k = I 139 k) ∧ ((∃ u, tw (X) np n u ∧ r = nI 1 ∧ I' 139 2 = nI u) ∨ (¬ (∃ u, tw (X) np n u) ∧ r = nI 0))) x w')) 8 [some (.ref 139), some (.ref f), some (.ref g), some (.int (nI n)), some (.int (nI j)), none, none, none, none] [] (I2, J, P, S) 0 0 := by
    intro m
    induction m with
    | zero => intro j v I2 h; exact absurd h (Nat.not_lt_zero _)
    | succ m ih =>
      intro j v I2 hm hj g1 g2 g3 g4
      have n2' : I2 f 2 = nI np := by rw [g1 f (by omega)]; exact n2
      have hv := tw_lt n2b j v g4
      refine z_iload_4 d_Seen_twosCanBe_8 ?_
      refine z_iload_3 d_Seen_twosCanBe_10 ?_
      refine z_icmp_ge (tgt := 109) d_Seen_twosCanBe_11 (by decide) (fun hb => ?_) (fun hb => ?_)
      · have hb := (nI_leI (by omega) (by omega)).mp hb
        obtain rfl : j = n := by omega
        refine z_iconst (a := nI 1) d_Seen_twosCanBe_109 (by decide) ?_
        refine z_retz d_Seen_twosCanBe_110 (by first | exact zb0 | exact zb1 | assumption) ?_
        exact ⟨I2, rfl, g1, g2, Or.inl ⟨v, g4, rfl, g3⟩⟩
      · have hb : j < n := Nat.lt_of_not_le (fun q => hb (nI_le q (by omega)))
        have hx1 : J (g + 1) (2 * j) = X (2 * j) := by rw [hX]
        have hx2 : J (g + 1) (2 * j + 1) = X (2 * j + 1) := by rw [hX]
        have bad : ¬ (∃ u, tw X np (j + 1) u) → ¬ ∃ u, tw X np n u := fun h q => h (tw_le (i := j + 1) (n - (j + 1)) (by rw [show j + 1 + (n - (j + 1)) = n by omega]; exact q))
        have no : ¬ (∃ u, tw X np (j + 1) u) → ∀ x y : Int64, zA G y_Seen_twosCanBe prog_8_method_3_code 9 (some .boolean) (zRm 1 0 0) (zM G 0 0 (fun r w' => ∃ x, r = some (.int x) ∧ (fun r w => ∃ I', w = (I', J, P, S) ∧ xF 139 I I' ∧ (∀ k, k ≠ 2 → I' 139 k = I 139 k) ∧ ((∃ u, tw (X) np n u ∧ r = nI 1 ∧ I' 139 2 = nI u) ∨ (¬ (∃ u, tw (X) np n u) ∧ r = nI 0))) x w')) 72 [some (.ref 139), some (.ref f), some (.ref g), some (.int (nI n)), some (.int (nI j)), some (.long x), none, some (.long y), none] [] (I2, J, P, S) 0 0 := by
          intro h x y
          refine z_iconst (a := nI 0) d_Seen_twosCanBe_72 (by decide) ?_
          refine z_retz d_Seen_twosCanBe_73 (by first | exact zb0 | exact zb1 | assumption) ?_
          exact ⟨I2, rfl, g1, g2, Or.inr ⟨bad h, rfl⟩⟩
        refine z_aload_2 d_Seen_twosCanBe_14 ?_
        refine z_getR d_Seen_twosCanBe_15 f_Seen_39 (by first | assumption | exact zS0_at (by assumption) (by omega) | exact zS0_at rfl (by omega)) (by first | assumption | exact zS0_at (by assumption) (by omega) | exact zS0_at rfl (by omega)) ?_
        refine z_iconst (a := nI 2) d_Seen_twosCanBe_18 (by decide) ?_
        refine z_iload_4 d_Seen_twosCanBe_19 ?_
        first | refine z_imulN d_Seen_twosCanBe_21 ?_ | refine z_imul d_Seen_twosCanBe_21 ?_
        first | refine z_laldNv d_Seen_twosCanBe_22 (by first | assumption | exact zS0_at (by assumption) (by omega) | exact zS0_at rfl (by omega)) (by omega) (by first | decide | omega) (by first | assumption | ((try simp (disch := omega) only [zu_same, zu_ne, zcp_ne, zfl_ne]); first | assumption | rfl)) ?_ | refine z_lald d_Seen_twosCanBe_22 (by first | assumption | exact zS0_at (by assumption) (by omega) | exact zS0_at rfl (by omega)) (by first | assumption | exact zS0_at (by assumption) (by omega) | exact zS0_at rfl (by omega)) ?_
        first | refine z_lstore_5 d_Seen_twosCanBe_23 rfl ?_ | (refine z_forget_4 ?_; refine z_lstore_5 d_Seen_twosCanBe_23 rfl ?_)
        refine z_aload_2 d_Seen_twosCanBe_25 ?_
        refine z_getR d_Seen_twosCanBe_26 f_Seen_39 (by first | assumption | exact zS0_at (by assumption) (by omega) | exact zS0_at rfl (by omega)) (by first | assumption | exact zS0_at (by assumption) (by omega) | exact zS0_at rfl (by omega)) ?_
        refine z_iconst (a := nI 2) d_Seen_twosCanBe_29 (by decide) ?_
        refine z_iload_4 d_Seen_twosCanBe_30 ?_
        first | refine z_imulN d_Seen_twosCanBe_32 ?_ | refine z_imul d_Seen_twosCanBe_32 ?_
        refine z_iconst (a := nI 1) d_Seen_twosCanBe_33 (by decide) ?_
        first | refine z_iaddN d_Seen_twosCanBe_34 ?_ | refine z_iadd d_Seen_twosCanBe_34 ?_
        first | refine z_laldNv d_Seen_twosCanBe_35 (by first | assumption | exact zS0_at (by assumption) (by omega) | exact zS0_at rfl (by omega)) (by omega) (by first | decide | omega) (by first | assumption | ((try simp (disch := omega) only [zu_same, zu_ne, zcp_ne, zfl_ne]); first | assumption | rfl)) ?_ | refine z_lald d_Seen_twosCanBe_35 (by first | assumption | exact zS0_at (by assumption) (by omega) | exact zS0_at rfl (by omega)) (by first | assumption | exact zS0_at (by assumption) (by omega) | exact zS0_at rfl (by omega)) ?_
        first | refine z_lstore_7 d_Seen_twosCanBe_36 rfl ?_ | (refine z_forget_6 ?_; refine z_lstore_7 d_Seen_twosCanBe_36 rfl ?_)
        refine z_lload_5 d_Seen_twosCanBe_38 ?_
        refine z_lconst (f := lN 0) d_Seen_twosCanBe_40 rfl ?_
        refine z_lcmp d_Seen_twosCanBe_41 ?_
        by_cases hz : zinL (X (2 * j)) np ∧ zinL (X (2 * j + 1)) 7
        · obtain ⟨⟨p, hp, ep⟩, ⟨z, hz, ez⟩⟩ := hz
          have xi : (X (2 * j)).toInt = (p : Int) := by rw [ep, lN_int (by omega)]
          have yi : (X (2 * j + 1)).toInt = (z : Int) := by rw [ez, lN_int (by omega)]
          have h42 : ¬ lg_cmp (X (2 * j)) (lN 0) < 0 := by rw [lg_cmp_lt, Int64.lt_iff_toInt_lt, xi, lN_int (by decide)]; omega
          have h53 : ¬ 0 ≤ lg_cmp (X (2 * j)) (nI np).toInt64 := by rw [lg_cmp_ge, Int64.le_iff_toInt_le, xi, Int32.toInt_toInt64, nI_int (by omega)]; omega
          have h60 : ¬ lg_cmp (X (2 * j + 1)) (lN 0) < 0 := by rw [lg_cmp_lt, Int64.lt_iff_toInt_lt, yi, lN_int (by decide)]; omega
          have h69 : lg_cmp (X (2 * j + 1)) 6 ≤ 0 := by rw [lg_cmp_le, Int64.le_iff_toInt_le, yi, show (6 : Int64).toInt = 6 by decide]; omega
          have e32 : (X (2 * j)).toInt32 = nI p := by rw [ep]; exact l2i_N p (by omega)
          refine z_if_lt (tgt := 72) d_Seen_twosCanBe_42 (by decide) (fun h => absurd h h42) (fun _ => ?_)
          refine z_lload_5 d_Seen_twosCanBe_45 ?_
          refine z_aload_1 d_Seen_twosCanBe_47 ?_
          refine z_getIv d_Seen_twosCanBe_48 f_Seen_45 (by first | assumption | exact zS0_at (by assumption) (by omega) | exact zS0_at rfl (by omega)) (by first | assumption | ((try simp (disch := omega) only [zu_same, zu_ne, zcp_ne, zfl_ne]); first | assumption | rfl)) ?_
          refine z_i2l d_Seen_twosCanBe_51 ?_
          refine z_lcmp d_Seen_twosCanBe_52 ?_
          refine z_if_ge (tgt := 72) d_Seen_twosCanBe_53 (by decide) (fun h => absurd h h53) (fun _ => ?_)
          refine z_lload_7 d_Seen_twosCanBe_56 ?_
          refine z_lconst (f := lN 0) d_Seen_twosCanBe_58 rfl ?_
          refine z_lcmp d_Seen_twosCanBe_59 ?_
          refine z_if_lt (tgt := 72) d_Seen_twosCanBe_60 (by decide) (fun h => absurd h h60) (fun _ => ?_)
          refine z_lload_7 d_Seen_twosCanBe_63 ?_
          refine z_ldc2 d_Seen_twosCanBe_65 c_Seen_48 ?_
          refine z_lcmp d_Seen_twosCanBe_68 ?_
          refine z_if_le (tgt := 74) d_Seen_twosCanBe_69 (by decide) (fun _ => ?_) (fun h => absurd h69 h)
          refine z_aload_0 d_Seen_twosCanBe_74 ?_
          refine z_getIv d_Seen_twosCanBe_75 f_Seen_36 (by first | assumption | exact zS0_at (by assumption) (by omega) | exact zS0_at rfl (by omega)) (by first | assumption | ((try simp (disch := omega) only [zu_same, zu_ne, zcp_ne, zfl_ne]); first | assumption | rfl)) ?_
          refine z_lload_5 d_Seen_twosCanBe_78 ?_
          refine z_l2i d_Seen_twosCanBe_80 ?_
          rw [e32]
          refine z_ishr d_Seen_twosCanBe_81 ?_
          refine z_iconst (a := nI 1) d_Seen_twosCanBe_82 (by decide) ?_
          refine z_iand d_Seen_twosCanBe_83 ?_
          refine z_if_eq (tgt := 89) d_Seen_twosCanBe_84 (by decide) (fun hc => ?_) (fun hc => ?_)
          · have hc : v.testBit p = false := by
              have := zbit_n.mp hc
              rw [zbit, zB_nI (by omega)] at this
              exact Bool.eq_false_iff.mpr this
            have q0 := ih (j + 1) (v ||| 2 ^ p) (zu I2 139 2 (nI (v ||| 2 ^ p))) (by omega) (by omega) (xF_u g1) (fun k hk => (zu_ne _ _ _ _ (by omega)).trans (g2 k hk)) (zu_same _ _ _ _) ⟨v, p, z, g4, ep, hp, ez, hz, hc, rfl⟩
            refine z_aload_0 d_Seen_twosCanBe_89 ?_
            refine z_dup rfl d_Seen_twosCanBe_90 ?_
            refine z_getIv d_Seen_twosCanBe_91 f_Seen_36 (by first | assumption | exact zS0_at (by assumption) (by omega) | exact zS0_at rfl (by omega)) (by first | assumption | ((try simp (disch := omega) only [zu_same, zu_ne, zcp_ne, zfl_ne]); first | assumption | rfl)) ?_
            refine z_iconst (a := nI 1) d_Seen_twosCanBe_94 (by decide) ?_
            refine z_lload_5 d_Seen_twosCanBe_95 ?_
            refine z_l2i d_Seen_twosCanBe_97 ?_
            rw [e32]
            refine z_ishl d_Seen_twosCanBe_98 ?_
            refine z_ior d_Seen_twosCanBe_99 ?_
            rw [nx_sh p (by omega), nx_or]
            refine z_putI d_Seen_twosCanBe_100 f_Seen_36 (by first | assumption | exact zS0_at (by assumption) (by omega) | exact zS0_at rfl (by omega)) ?_
            first | refine z_iinc_4 d_Seen_twosCanBe_103 rfl (zi_inc _) ?_ | refine z_iinc_4 d_Seen_twosCanBe_103 rfl rfl ?_
            refine z_goto (tgt := 8) d_Seen_twosCanBe_106 (by decide) ?_
            refine z_forget_5 ?_
            refine z_forget_7 ?_
            exact q0
          · have hc : v.testBit p = true := by
              have := zbit_p.mp hc
              rw [zbit, zB_nI (by omega)] at this
              exact this
            refine z_iconst (a := nI 0) d_Seen_twosCanBe_87 (by decide) ?_
            refine z_retz d_Seen_twosCanBe_88 (by first | exact zb0 | exact zb1 | assumption) ?_
            refine ⟨I2, rfl, g1, g2, Or.inr ⟨bad ?_, rfl⟩⟩
            rintro ⟨u, v', p', y', b1, b2, b3, -, -, b6, -⟩
            have e1 := tw_u n2b _ _ _ b1 g4
            have e2 := lN_inj (by omega) (by omega) (b2.symm.trans ep)
            rw [e1, e2, hc] at b6
            exact absurd b6 (by decide)
        · have nt : ¬ ∃ u, tw X np (j + 1) u := by
            rintro ⟨u, v, p, y, h1, h2, h3, h4, h5, -⟩
            exact hz ⟨⟨p, h3, h2⟩, ⟨y, h5, h4⟩⟩
          refine z_if_lt (tgt := 72) d_Seen_twosCanBe_42 (by decide) (fun h1 => ?_) (fun h1 => ?_)
          · exact no nt _ _
          refine z_lload_5 d_Seen_twosCanBe_45 ?_
          refine z_aload_1 d_Seen_twosCanBe_47 ?_
          refine z_getIv d_Seen_twosCanBe_48 f_Seen_45 (by first | assumption | exact zS0_at (by assumption) (by omega) | exact zS0_at rfl (by omega)) (by first | assumption | ((try simp (disch := omega) only [zu_same, zu_ne, zcp_ne, zfl_ne]); first | assumption | rfl)) ?_
          refine z_i2l d_Seen_twosCanBe_51 ?_
          refine z_lcmp d_Seen_twosCanBe_52 ?_
          refine z_if_ge (tgt := 72) d_Seen_twosCanBe_53 (by decide) (fun h2 => ?_) (fun h2 => ?_)
          · exact no nt _ _
          refine z_lload_7 d_Seen_twosCanBe_56 ?_
          refine z_lconst (f := lN 0) d_Seen_twosCanBe_58 rfl ?_
          refine z_lcmp d_Seen_twosCanBe_59 ?_
          refine z_if_lt (tgt := 72) d_Seen_twosCanBe_60 (by decide) (fun h3 => ?_) (fun h3 => ?_)
          · exact no nt _ _
          refine z_lload_7 d_Seen_twosCanBe_63 ?_
          refine z_ldc2 d_Seen_twosCanBe_65 c_Seen_48 ?_
          refine z_lcmp d_Seen_twosCanBe_68 ?_
          refine z_if_le (tgt := 74) d_Seen_twosCanBe_69 (by decide) (fun h4 => ?_) (fun h4 => ?_)
          · refine absurd ⟨(zinL_int (by omega)).mpr ?_, (zinL_int (by decide)).mpr ?_⟩ hz
            · rw [lg_cmp_lt, Int64.lt_iff_toInt_lt, lN_int (by decide)] at h1
              rw [lg_cmp_ge, Int64.le_iff_toInt_le, Int32.toInt_toInt64, nI_int (by omega)] at h2
              omega
            · rw [lg_cmp_lt, Int64.lt_iff_toInt_lt, lN_int (by decide)] at h3
              rw [lg_cmp_le, Int64.le_iff_toInt_le, show (6 : Int64).toInt = 6 by decide] at h4
              omega
          · exact no nt _ _
  refine z_aload_0 d_Seen_twosCanBe_0 ?_
  refine z_iconst (a := nI 0) d_Seen_twosCanBe_1 (by decide) ?_
  refine z_putI d_Seen_twosCanBe_2 f_Seen_36 (by first | assumption | exact zS0_at (by assumption) (by omega) | exact zS0_at rfl (by omega)) ?_
  refine z_iconst (a := nI 0) d_Seen_twosCanBe_5 (by decide) ?_
  first | refine z_istore_4 d_Seen_twosCanBe_6 rfl ?_ | (refine z_forget_3 ?_; refine z_istore_4 d_Seen_twosCanBe_6 rfl ?_)
  exact lp (n + 1) 0 0 _ (by omega) (by omega) (fun q hq => zu_row _ _ _ _ hq) (fun k hk => zu_ne _ _ _ _ (by omega)) (zu_same _ _ _ _) rfl
end SE0
