/-! the reference: YEARS -/
section MY3
variable {G : zG} {I I1 I2 : Nat → Nat → Int32} {J J1 J2 : Nat → Nat → Int64} {P : Nat → Nat → Option Nat} {S : List (Nat × Nat)} {a b : Int32} {T : Nat → Int32} {K : Nat → Int64} {n : yN} {A : Nat → Nat → Int32}
theorem m_years {ln fed : Nat} (M : modOk P S) (h8 : I 145 8 = nI fed) (hf : fed ≤ 900) (hn : ln ≤ fed) (hn3 : ln ≤ 300) (hT : ∀ k, k < 900 → I 149 k = T k) (hB : bytOk T) (hK : ∀ i, i < 21 → K i = zKw i) (N : myN I J n) : zEi G y_Mo_years prog_14_method_72_code 3 (some .int) 15 [.ref 145, .int (nI ln)] (I, J, P, S) (fun r w => pQ (y_all T ln K n A) (fun e => r = -1 ∧ ∃ I' J', w = (I', J', P, S) ∧ mfF I I' ∧ mQ J J' ∧ I' 145 0 = nI 10 ∧ I' 145 8 = nI 0 ∧ I' 145 10 = nI e.1 ∧ I' 145 11 = nI e.2) (fun s => r = nI s.1.1 ∧ ∃ I' J' m, w = (zcp (zu (zu I' 150 87 (nI 1)) 150 88 (nI s.1.1)) 150 150 1525 89 (9 * s.1.1), J', P, S) ∧ mfF I I' ∧ mQ J J' ∧ I' 145 0 = nI 0 ∧ I' 145 8 = nI 0 ∧ I' 145 10 = nI 0 ∧ I' 145 11 = -1 ∧ yI s ∧ yb n s.2.2 (fun c k => I' 150 (1525 + 9 * c + k)) m 0 s.1.1 0 s.1.2.1)) := by
  have M' := M
  obtain ⟨M0, ⟨M4, M4s⟩, ⟨M5, M5s⟩, ⟨M6, M6s⟩, ⟨M7, M7s⟩, ⟨M20, M20s⟩, ⟨M21, M21s⟩, ⟨M22, M22s⟩, ⟨M26, M26s⟩, ⟨M27, M27s⟩, ⟨M28, M28s⟩, ⟨M30, M30s⟩, ⟨M34, M34s⟩, ⟨M36, M36s⟩, ⟨M37, M37s⟩⟩ := id M
  refine zEi_of (lv := [some (.ref 145), some (.int (nI ln)), none]) (by decide) rfl (Nat.le_of_ble_eq_true rfl) ?_
  obtain ⟨y, hy⟩ : ∃ y, y_all T ln K n A = y := ⟨_, rfl⟩
  rw [hy]
  refine z_aload_0 d_Mo_years_0 ?_
  refine z_iconst (a := nI 0) d_Mo_years_1 (by decide) ?_
  refine z_putI d_Mo_years_2 f_Mo_70 (by first | assumption | exact zS0_at (by assumption) (by omega) | exact zS0_at rfl (by omega)) ?_
  refine z_aload_0 d_Mo_years_5 ?_
  refine z_iconst (a := nI 0) d_Mo_years_6 (by decide) ?_
  refine z_putI d_Mo_years_7 f_Mo_73 (by first | assumption | exact zS0_at (by assumption) (by omega) | exact zS0_at rfl (by omega)) ?_
  refine z_aload_0 d_Mo_years_10 ?_
  refine z_iload_1 d_Mo_years_11 ?_
  refine z_sipush (a := nI 300) d_Mo_years_12 (by decide) ?_
  refine z_Vi2 d_Mo_years_15 k_Mo_283 (by first | assumption | exact zS0_at (by assumption) (by omega) | exact zS0_at rfl (by omega)) (t_Mo_starts1 (T := T) (K := K) (fed := fed) (most := 300) M' (by simp [zu, h8]) hf (by decide) hn hn3 (fun k hk => by rw [zu_row _ _ _ _ (by decide), zu_row _ _ _ _ (by decide)]; exact hT k hk) hB hK) ⟨Nat.le_of_ble_eq_true rfl, Nat.le_of_ble_eq_true rfl, Nat.le_of_ble_eq_true rfl, Nat.le_of_ble_eq_true rfl⟩ (Nat.le_of_ble_eq_true rfl) ?_
  intro r w hq
  obtain ⟨rfl, Ia, Ja, rfl, ⟨s1, s2, s3⟩, hja, Ca⟩ := hq
  refine z_if_ne (tgt := 23) d_Mo_years_18 (by decide) (fun _ => ?_) (fun h => absurd h (by decide))
  refine z_aload_0 d_Mo_years_23 ?_
  refine z_iconst (a := nI 0) d_Mo_years_24 (by decide) ?_
  refine z_putI d_Mo_years_25 f_Mo_301 (by first | assumption | exact zS0_at (by assumption) (by omega) | exact zS0_at rfl (by omega)) ?_
  have f0 : mfF I (zu Ia 145 25 (nI 0)) := by
    refine ⟨fun a g1 g2 => ?_, fun k hk => ?_, fun k hk => ?_⟩
    · rw [zu_row _ _ _ _ g1, s1 a g1, zu_row _ _ _ _ g1, zu_row _ _ _ _ g1]
    · rw [zu_row _ _ _ _ (by decide), s1 150 (by decide), zu_row _ _ _ _ (by decide), zu_row _ _ _ _ (by decide)]
    · rw [zu_ne _ _ _ _ (by omega), s2 k (by omega) (by omega) (by omega), zu_ne _ _ _ _ (by omega), zu_ne _ _ _ _ (by omega)]
  have C0 : moC T K ln 0 (zu Ia 145 25 (nI 0)) Ja P S (s_tok T ln K 0) := moC_c Ca (fun k hk => by rw [zu_ne _ _ _ _ (by omega)]) (by rw [zu_row _ _ _ _ (by decide)]) rfl
  have g0 : zu Ia 145 25 (nI 0) 145 0 = nI 0 ∧ zu Ia 145 25 (nI 0) 145 8 = nI 0 := by
    constructor
    · rw [zu_ne _ _ _ _ (by omega), s2 0 (by omega) (by omega) (by omega)]; simp [zu]
    · rw [zu_ne _ _ _ _ (by omega)]; exact s3
  have N0 : myN (zu Ia 145 25 (nI 0)) Ja n := by
    obtain ⟨a1, a2, a3, a4, a5, a6⟩ := N
    exact ⟨⟨(f0.2.1 0 (by decide)).trans a1.1, a1.2⟩, ⟨(f0.2.1 1 (by decide)).trans a2.1, a2.2⟩, ⟨(f0.2.1 3 (by decide)).trans a3.1, a3.2⟩, fun k hk => by rw [hja.1 152 (by decide)]; exact a4 k hk, fun k hk => by rw [hja.1 152 (by decide)]; exact a5 k hk, fun k hk => by rw [hja.1 152 (by decide)]; exact a6 k hk⟩
  have z25 : zu Ia 145 25 (nI 0) 145 25 = nI 0 := zu_same _ _ _ _
  generalize zu Ia 145 25 (nI 0) = I0 at f0 C0 N0 g0 z25 ⊢
  have bad : ∀ (e : Nat × Nat) (Ix : Nat → Nat → Int32) (Jx : Nat → Nat → Int64), y = Sum.inl e → moX T K ln I0 Ja P S e (Ix, Jx, P, S) → zA G y_Mo_years prog_14_method_72_code 3 (some .int) (zRm 15 0 0) (zM G 0 0 (fun r w' => ∃ x, r = some (.int x) ∧ (fun r w => pQ (y) (fun e => r = -1 ∧ ∃ I' J', w = (I', J', P, S) ∧ mfF I I' ∧ mQ J J' ∧ I' 145 0 = nI 10 ∧ I' 145 8 = nI 0 ∧ I' 145 10 = nI e.1 ∧ I' 145 11 = nI e.2) (fun s => r = nI s.1.1 ∧ ∃ I' J' m, w = (zcp (zu (zu I' 150 87 (nI 1)) 150 88 (nI s.1.1)) 150 150 1525 89 (9 * s.1.1), J', P, S) ∧ mfF I I' ∧ mQ J J' ∧ I' 145 0 = nI 0 ∧ I' 145 8 = nI 0 ∧ I' 145 10 = nI 0 ∧ I' 145 11 = -1 ∧ yI s ∧ yb n s.2.2 (fun c k => I' 150 (1525 + 9 * c + k)) m 0 s.1.1 0 s.1.2.1)) x w')) 28 [some (.ref 145), some (.int (nI ln)), none] [] (Ix, Jx, P, S) 0 0 := by
    intro e Ix Jx h hX
    rw [h]
    obtain ⟨I', J', t', hw, q1, q2, q3, q4, q5, q6⟩ := id hX
    cases hw
    obtain ⟨-, -, b3, -⟩ := moC_n q3
    refine z_aload_0 d_Mo_years_28 ?_
    refine z_getIv d_Mo_years_29 f_Mo_202 (by first | assumption | exact zS0_at (by assumption) (by omega) | exact zS0_at rfl (by omega)) (by first | assumption | ((try simp (disch := omega) only [zu_same, zu_ne, zcp_ne, zfl_ne]); first | assumption | rfl)) ?_
    refine z_if_ne (tgt := 50) d_Mo_years_32 (by decide) (fun _ => ?_) (fun h => absurd h (nz_ne q5 q6))
    refine z_aload_0 d_Mo_years_50 ?_
    refine z_Vi0 d_Mo_years_51 k_Mo_292 (by first | assumption | exact zS0_at (by assumption) (by omega) | exact zS0_at rfl (by omega)) (t_Mo_isWellz M' b3 q4 q5 q6) ⟨Nat.le_of_ble_eq_true rfl, Nat.le_of_ble_eq_true rfl, Nat.le_of_ble_eq_true rfl, Nat.le_of_ble_eq_true rfl⟩ (Nat.le_of_ble_eq_true rfl) ?_
    intro r w hq
    obtain ⟨rfl, rfl⟩ := hq
    refine z_if_ne (tgt := 59) d_Mo_years_54 (by decide) (fun h => absurd (by decide) h) (fun _ => ?_)
    refine z_iconst (a := -1) d_Mo_years_57 (by decide) ?_
    refine z_reti d_Mo_years_58 ?_
    refine ⟨rfl, _, _, rfl, mfF_z (mfF_z (mfF_z (mfF_p f0 q1) (by omega)) (by omega)) (by omega), mQ_t (mQ_tk hja) q2, zu_same _ _ _ _, ?_, ?_, ?_⟩
    · rw [zu_ne _ _ _ _ (by omega), zu_ne _ _ _ _ (by omega), zu_ne _ _ _ _ (by omega), q1.2.2 8 (by omega) (by omega) (by omega)]; exact g0.2
    · rw [zu_ne _ _ _ _ (by omega), zu_ne _ _ _ _ (by omega), zu_same]
    · rw [zu_ne _ _ _ _ (by omega), zu_same]
  have lp : ∀ (m : Nat) (s : yS) (t : tk) (Ix : Nat → Nat → Int32) (Jx : Nat → Nat → Int64) (mm : Nat), 30 - s.1.1 < m → mP I0 Ix → mQ Ja Jx → moC T K ln 0 Ix Jx P S t → Ix 145 25 = nI s.1.1 → yI s → s.1.2.2 = 0 → y = yY (tA T ln K) n s t → yb n s.2.2 (fun c k => Ix 150 (1525 + 9 * c + k)) mm 0 s.1.1 0 s.1.2.1 → zA G y_Mo_years prog_14_method_72_code 3 (some .int) (zRm 15 0 0) (zM G 0 0 (fun r w' => ∃ x, r = some (.int x) ∧ (fun r w => pQ (y) (fun e => r = -1 ∧ ∃ I' J', w = (I', J', P, S) ∧ mfF I I' ∧ mQ J J' ∧ I' 145 0 = nI 10 ∧ I' 145 8 = nI 0 ∧ I' 145 10 = nI e.1 ∧ I' 145 11 = nI e.2) (fun s => r = nI s.1.1 ∧ ∃ I' J' m, w = (zcp (zu (zu I' 150 87 (nI 1)) 150 88 (nI s.1.1)) 150 150 1525 89 (9 * s.1.1), J', P, S) ∧ mfF I I' ∧ mQ J J' ∧ I' 145 0 = nI 0 ∧ I' 145 8 = nI 0 ∧ I' 145 10 = nI 0 ∧ I' 145 11 = -1 ∧ yI s ∧ yb n s.2.2 (fun c k => I' 150 (1525 + 9 * c + k)) m 0 s.1.1 0 s.1.2.1)) x w')) 28 [some (.ref 145), some (.int (nI ln)), none] [] (Ix, Jx, P, S) 0 0 := by
    intro m
    induction m with
    | zero => intro s t Ix Jx mm h; omega
    | succ m ih =>
      intro s t Ix Jx mm hm hp hq Cx hx25 Yx hd hs bx
      obtain ⟨b1, b2, b3, b4, b5, b6, -⟩ := moC_n Cx
      have hsz : s.1.2.1 < 300 := by have := Yx.1; have := Yx.2.2.1; omega
      have hs30 := Yx.1
      refine z_aload_0 d_Mo_years_28 ?_
      refine z_getIv d_Mo_years_29 f_Mo_202 (by first | assumption | exact zS0_at (by assumption) (by omega) | exact zS0_at rfl (by omega)) (by first | assumption | ((try simp (disch := omega) only [zu_same, zu_ne, zcp_ne, zfl_ne]); first | assumption | rfl)) ?_
      refine z_if_ne (tgt := 50) d_Mo_years_32 (by decide) (fun h => absurd (by decide) h) (fun _ => ?_)
      refine z_aload_0 d_Mo_years_35 ?_
      refine z_getIv d_Mo_years_36 f_Mo_125 (by first | assumption | exact zS0_at (by assumption) (by omega) | exact zS0_at rfl (by omega)) (by first | assumption | ((try simp (disch := omega) only [zu_same, zu_ne, zcp_ne, zfl_ne]); first | assumption | rfl)) ?_
      refine z_if_eq (tgt := 50) d_Mo_years_39 (by decide) (fun hb => ?_) (fun hb => ?_)
      · have hb : tkd t = 0 := (nI_eq (by omega) (by omega)).mp (by rw [nI_0]; exact hb)
        rw [yY_eq hsz, if_pos hb, if_pos hd] at hs
        rw [hs]
        refine z_aload_0 d_Mo_years_50 ?_
        refine z_Vi0 d_Mo_years_51 k_Mo_292 (by first | assumption | exact zS0_at (by assumption) (by omega) | exact zS0_at rfl (by omega)) (t_Mo_isWell0 M' b3) ⟨Nat.le_of_ble_eq_true rfl, Nat.le_of_ble_eq_true rfl, Nat.le_of_ble_eq_true rfl, Nat.le_of_ble_eq_true rfl⟩ (Nat.le_of_ble_eq_true rfl) ?_
        intro r w hr
        obtain ⟨rfl, rfl⟩ := hr
        have k25 : zu (zu Ix 145 10 (nI 0)) 145 11 (-1) 145 25 = nI s.1.1 := by rw [zu_ne _ _ _ _ (by omega), zu_ne _ _ _ _ (by omega)]; exact hx25
        have fin : pQ (Sum.inr s : pR yS) (fun e => (nI s.1.1 : Int32) = -1 ∧ ∃ I' J', (zcp (zu (zu (zu (zu Ix 145 10 (nI 0)) 145 11 (-1)) 150 87 (nI 1)) 150 88 (nI s.1.1)) 150 150 1525 89 (9 * s.1.1), Jx, P, S) = (I', J', P, S) ∧ mfF I I' ∧ mQ J J' ∧ I' 145 0 = nI 10 ∧ I' 145 8 = nI 0 ∧ I' 145 10 = nI e.1 ∧ I' 145 11 = nI e.2) (fun s' => nI s.1.1 = nI s'.1.1 ∧ ∃ I' J' m, (zcp (zu (zu (zu (zu Ix 145 10 (nI 0)) 145 11 (-1)) 150 87 (nI 1)) 150 88 (nI s.1.1)) 150 150 1525 89 (9 * s.1.1), Jx, P, S) = (zcp (zu (zu I' 150 87 (nI 1)) 150 88 (nI s'.1.1)) 150 150 1525 89 (9 * s'.1.1), J', P, S) ∧ mfF I I' ∧ mQ J J' ∧ I' 145 0 = nI 0 ∧ I' 145 8 = nI 0 ∧ I' 145 10 = nI 0 ∧ I' 145 11 = -1 ∧ yI s' ∧ yb n s'.2.2 (fun c k => I' 150 (1525 + 9 * c + k)) m 0 s'.1.1 0 s'.1.2.1) := by
          refine ⟨rfl, _, _, mm, rfl, mfF_z (mfF_z (mfF_p f0 hp) (by omega)) (by omega), mQ_t (mQ_tk hja) hq, ?_, ?_, ?_, zu_same _ _ _ _, Yx, ?_⟩
          · rw [zu_ne _ _ _ _ (by omega), zu_ne _ _ _ _ (by omega), hp.2.2 0 (by omega) (by omega) (by omega)]; exact g0.1
          · rw [zu_ne _ _ _ _ (by omega), zu_ne _ _ _ _ (by omega), hp.2.2 8 (by omega) (by omega) (by omega)]; exact g0.2
          · rw [zu_ne _ _ _ _ (by omega), zu_same]
          · refine yb_c _ _ _ _ _ (fun _ _ _ _ _ _ => rfl) (fun c k _ _ _ => ?_) bx
            show zu (zu Ix 145 10 (nI 0)) 145 11 (-1) 150 (1525 + 9 * c + k) = Ix 150 (1525 + 9 * c + k)
            rw [zu_row _ _ _ _ (by decide), zu_row _ _ _ _ (by decide)]
        generalize zu (zu Ix 145 10 (nI 0)) 145 11 (-1) = I8 at k25 fin ⊢
        refine z_if_ne (tgt := 59) d_Mo_years_54 (by decide) (fun _ => ?_) (fun h => absurd h (by decide))
        refine z_aload_0 d_Mo_years_59 ?_
        refine z_getR d_Mo_years_60 f_Mo_35 (by first | assumption | exact zS0_at (by assumption) (by omega) | exact zS0_at rfl (by omega)) (by first | assumption | exact zS0_at (by assumption) (by omega) | exact zS0_at rfl (by omega)) ?_
        refine z_bipush (a := nI 87) d_Mo_years_63 (by decide) ?_
        refine z_iconst (a := nI 1) d_Mo_years_65 (by decide) ?_
        first | refine z_iastN d_Mo_years_66 (by first | assumption | exact zS0_at (by assumption) (by omega) | exact zS0_at rfl (by omega)) (by omega) (by first | decide | omega) ?_ | refine z_iast d_Mo_years_66 (by first | assumption | exact zS0_at (by assumption) (by omega) | exact zS0_at rfl (by omega)) (by first | assumption | exact zS0_at (by assumption) (by omega) | exact zS0_at rfl (by omega)) ?_
        refine z_aload_0 d_Mo_years_67 ?_
        refine z_getR d_Mo_years_68 f_Mo_35 (by first | assumption | exact zS0_at (by assumption) (by omega) | exact zS0_at rfl (by omega)) (by first | assumption | exact zS0_at (by assumption) (by omega) | exact zS0_at rfl (by omega)) ?_
        refine z_bipush (a := nI 88) d_Mo_years_71 (by decide) ?_
        refine z_aload_0 d_Mo_years_73 ?_
        refine z_getIv d_Mo_years_74 f_Mo_301 (by first | assumption | exact zS0_at (by assumption) (by omega) | exact zS0_at rfl (by omega)) (by first | assumption | ((try simp (disch := omega) only [zu_same, zu_ne, zcp_ne, zfl_ne]); first | assumption | rfl)) ?_
        first | refine z_iastN d_Mo_years_77 (by first | assumption | exact zS0_at (by assumption) (by omega) | exact zS0_at rfl (by omega)) (by omega) (by first | decide | omega) ?_ | refine z_iast d_Mo_years_77 (by first | assumption | exact zS0_at (by assumption) (by omega) | exact zS0_at rfl (by omega)) (by first | assumption | exact zS0_at (by assumption) (by omega) | exact zS0_at rfl (by omega)) ?_
        refine z_iconst (a := nI 0) d_Mo_years_78 (by decide) ?_
        first | refine z_istore_2 d_Mo_years_79 rfl ?_ | (refine z_forget_1 ?_; refine z_istore_2 d_Mo_years_79 rfl ?_)
        have loop : ∀ m j, (9*s.1.1) - j < m → j ≤ (9*s.1.1) → zA G y_Mo_years prog_14_method_72_code 3 (some .int) (zRm 15 0 0) (zM G 0 0 (fun r w' => ∃ x, r = some (.int x) ∧ (fun r w => pQ (y) (fun e => r = -1 ∧ ∃ I' J', w = (I', J', P, S) ∧ mfF I I' ∧ mQ J J' ∧ I' 145 0 = nI 10 ∧ I' 145 8 = nI 0 ∧ I' 145 10 = nI e.1 ∧ I' 145 11 = nI e.2) (fun s => r = nI s.1.1 ∧ ∃ I' J' m, w = (zcp (zu (zu I' 150 87 (nI 1)) 150 88 (nI s.1.1)) 150 150 1525 89 (9 * s.1.1), J', P, S) ∧ mfF I I' ∧ mQ J J' ∧ I' 145 0 = nI 0 ∧ I' 145 8 = nI 0 ∧ I' 145 10 = nI 0 ∧ I' 145 11 = -1 ∧ yI s ∧ yb n s.2.2 (fun c k => I' 150 (1525 + 9 * c + k)) m 0 s.1.1 0 s.1.2.1)) x w')) 80 [some (.ref 145), some (.int (nI ln)), some (.int (nI j))] [] (zcp (zu (zu I8 150 87 (nI 1)) 150 88 (nI s.1.1)) 150 150 1525 89 j, Jx, P, S) 0 0 := by
          intro m
          induction m with
          | zero => intro j h; omega
          | succ m ih =>
            intro j hm hj
            rw [hs]
            have q25 : zcp (zu (zu I8 150 87 (nI 1)) 150 88 (nI s.1.1)) 150 150 1525 89 j 145 25 = nI s.1.1 := by rw [zcp_ne (by decide), zu_row _ _ _ _ (by decide), zu_row _ _ _ _ (by decide)]; exact k25
            refine z_iload_2 d_Mo_years_80 ?_
            refine z_bipush (a := nI 9) d_Mo_years_81 (by decide) ?_
            refine z_aload_0 d_Mo_years_83 ?_
            refine z_getIv d_Mo_years_84 f_Mo_301 (by first | assumption | exact zS0_at (by assumption) (by omega) | exact zS0_at rfl (by omega)) (by first | assumption | ((try simp (disch := omega) only [zu_same, zu_ne, zcp_ne, zfl_ne]); first | assumption | rfl)) ?_
            first | refine z_imulN d_Mo_years_87 ?_ | refine z_imul d_Mo_years_87 ?_
            refine z_icmp_ge (tgt := 116) d_Mo_years_88 (by decide) (fun hc => ?_) (fun hc => ?_)
            · have hc := (nI_leI (by omega) (by omega)).mp hc
              obtain rfl : j = 9 * s.1.1 := by omega
              refine z_aload_0 d_Mo_years_116 ?_
              refine z_getIv d_Mo_years_117 f_Mo_301 (by first | assumption | exact zS0_at (by assumption) (by omega) | exact zS0_at rfl (by omega)) (by first | assumption | ((try simp (disch := omega) only [zu_same, zu_ne, zcp_ne, zfl_ne]); first | assumption | rfl)) ?_
              refine z_reti d_Mo_years_120 ?_
              exact fin
            · have hc : j < 9 * s.1.1 := Nat.lt_of_not_le (fun q => hc (nI_le q (by omega)))
              have hr : zcp (zu (zu I8 150 87 (nI 1)) 150 88 (nI s.1.1)) 150 150 1525 89 j 150 (1525 + j) = zu (zu I8 150 87 (nI 1)) 150 88 (nI s.1.1) 150 (1525 + j) := zcp_out (by omega)
              refine z_aload_0 d_Mo_years_91 ?_
              refine z_getR d_Mo_years_92 f_Mo_35 (by first | assumption | exact zS0_at (by assumption) (by omega) | exact zS0_at rfl (by omega)) (by first | assumption | exact zS0_at (by assumption) (by omega) | exact zS0_at rfl (by omega)) ?_
              refine z_bipush (a := nI 89) d_Mo_years_95 (by decide) ?_
              refine z_iload_2 d_Mo_years_97 ?_
              first | refine z_iaddN d_Mo_years_98 ?_ | refine z_iadd d_Mo_years_98 ?_
              refine z_aload_0 d_Mo_years_99 ?_
              refine z_getR d_Mo_years_100 f_Mo_35 (by first | assumption | exact zS0_at (by assumption) (by omega) | exact zS0_at rfl (by omega)) (by first | assumption | exact zS0_at (by assumption) (by omega) | exact zS0_at rfl (by omega)) ?_
              refine z_sipush (a := nI 1525) d_Mo_years_103 (by decide) ?_
              refine z_iload_2 d_Mo_years_106 ?_
              first | refine z_iaddN d_Mo_years_107 ?_ | refine z_iadd d_Mo_years_107 ?_
              refine z_ialdNv d_Mo_years_108 M20s (by omega) (by decide) hr ?_
              refine z_iastN d_Mo_years_109 M20s (by omega) (by decide) ?_
              rw [zcp_s]
              first | refine z_iinc_2 d_Mo_years_110 rfl (zi_inc _) ?_ | refine z_iinc_2 d_Mo_years_110 rfl rfl ?_
              refine z_goto (tgt := 80) d_Mo_years_113 (by decide) ?_
              have q := ih (j + 1) (by omega) (by omega)
              rw [hs] at q
              exact q
        have q := loop (9 * s.1.1 + 1) 0 (by omega) (by omega)
        rw [zcp_0, hs] at q
        exact q
      · have hb : ¬ tkd t = 0 := fun h => hb (by rw [h, nI_0])
        refine z_aload_0 d_Mo_years_42 ?_
        refine z_iconst (a := nI 0) d_Mo_years_43 (by decide) ?_
        have q := m_readStep (G := G) 3 Ix Jx s t Cx (myN_P N0 hp hq) hx25 Yx (by omega) (Or.inl hb) (fun h => absurd hd h)
        rw [hd] at q
        refine z_Vv1 d_Mo_years_44 k_Mo_307 (by first | assumption | exact zS0_at (by assumption) (by omega) | exact zS0_at rfl (by omega)) (q) ⟨Nat.le_of_ble_eq_true rfl, Nat.le_of_ble_eq_true rfl, Nat.le_of_ble_eq_true rfl, Nat.le_of_ble_eq_true rfl⟩ (Nat.le_of_ble_eq_true rfl) ?_
        intro w hr
        rcases hr with ⟨e, hX, hz⟩ | ⟨s', t', I', J', m', rfl, pp, qq, C', n', Y', l', d', o', e', k', r', b'⟩
        · have hX := moX_t hp hq hX
          obtain ⟨I', J', t', rfl, -⟩ := id hX
          refine z_goto (tgt := 28) d_Mo_years_47 (by decide) ?_
          exact bad e _ _ (hs.trans hz) hX
        · refine z_goto (tgt := 28) d_Mo_years_47 (by decide) ?_
          refine ih s' t' I' J' (mm + m') (by have := Y'.1; omega) (mP_t hp pp) (mQ_t hq qq) C' n' Y' (by omega) (hs.trans e') ?_
          exact yb_app b' _ _ _ (yb_c _ _ _ _ _ (fun r q f1 f2 f3 f4 => r' r q f4 f1) (fun c q f1 f2 f3 => k' _ (by omega) (by omega)) bx)
  exact lp 31 ((0, 0, 0), (fun _ => 0), y_clear A) _ I0 Ja 0 (by show 30 - 0 < 31; omega) mP_r mQ_r C0 z25 ⟨Nat.zero_le _, Nat.zero_le _, Nat.le_refl _, fun d hd => absurd hd (show ¬ d < 0 by omega)⟩ rfl hy.symm ⟨rfl, rfl⟩
theorem m_years0 {fed : Nat} (M : modOk P S) (h8 : I 145 8 = nI fed) (hf : fed ≤ 900) (ha : ¬ ∃ m, m ≤ fed ∧ m ≤ 300 ∧ a = nI m) : zEi G y_Mo_years prog_14_method_72_code 3 (some .int) 15 [.ref 145, .int a] (I, J, P, S) (fun r w => r = -1 ∧ w = (zu (zu (zu I 145 1 (nI 0)) 145 0 (nI 0)) 145 0 (nI 5), J, P, S)) := by
  have M' := M
  obtain ⟨M0, ⟨M4, M4s⟩, ⟨M5, M5s⟩, ⟨M6, M6s⟩, ⟨M7, M7s⟩, ⟨M20, M20s⟩, ⟨M21, M21s⟩, ⟨M22, M22s⟩, ⟨M26, M26s⟩, ⟨M27, M27s⟩, ⟨M28, M28s⟩, ⟨M30, M30s⟩, ⟨M34, M34s⟩, ⟨M36, M36s⟩, ⟨M37, M37s⟩⟩ := id M
  refine zEi_of (lv := [some (.ref 145), some (.int a), none]) (by decide) rfl (Nat.le_of_ble_eq_true rfl) ?_
  refine z_aload_0 d_Mo_years_0 ?_
  refine z_iconst (a := nI 0) d_Mo_years_1 (by decide) ?_
  refine z_putI d_Mo_years_2 f_Mo_70 (by first | assumption | exact zS0_at (by assumption) (by omega) | exact zS0_at rfl (by omega)) ?_
  refine z_aload_0 d_Mo_years_5 ?_
  refine z_iconst (a := nI 0) d_Mo_years_6 (by decide) ?_
  refine z_putI d_Mo_years_7 f_Mo_73 (by first | assumption | exact zS0_at (by assumption) (by omega) | exact zS0_at rfl (by omega)) ?_
  refine z_aload_0 d_Mo_years_10 ?_
  refine z_iload_1 d_Mo_years_11 ?_
  refine z_sipush (a := nI 300) d_Mo_years_12 (by decide) ?_
  refine z_Vi2 d_Mo_years_15 k_Mo_283 (by first | assumption | exact zS0_at (by assumption) (by omega) | exact zS0_at rfl (by omega)) (t_Mo_starts0 (fed := fed) (most := 300) M' (by simp [zu, h8]) hf (by decide) ha) ⟨Nat.le_of_ble_eq_true rfl, Nat.le_of_ble_eq_true rfl, Nat.le_of_ble_eq_true rfl, Nat.le_of_ble_eq_true rfl⟩ (Nat.le_of_ble_eq_true rfl) ?_
  intro r w hq
  obtain ⟨rfl, rfl⟩ := hq
  refine z_if_ne (tgt := 23) d_Mo_years_18 (by decide) (fun h => absurd (by decide) h) (fun _ => ?_)
  refine z_iconst (a := -1) d_Mo_years_21 (by decide) ?_
  refine z_reti d_Mo_years_22 ?_
  exact ⟨rfl, rfl⟩
end MY3
