/-! the reference's reader of a FEN: odds, traits, lanes, tins -/
section MF3
variable {G : zG} {I I1 I2 : Nat → Nat → Int32} {J J1 J2 : Nat → Nat → Int64} {P : Nat → Nat → Option Nat} {S : List (Nat × Nat)} {L : Nat} {a b : Int32} {T : Nat → Int32} {K : Nat → Int64} {t : tk} {z nt np nl nn od : Nat} {A : Nat → Nat → Int32} {B : Nat → Nat → Int64}
theorem nz_ne {z : Nat} (h0 : 0 < z) (h9 : z < 9) : ¬ nI z = 0 := by intro h; have := (nI_eq (by omega) (by omega)).mp (h.trans nI_0.symm); omega
theorem nz_le {z : Nat} (h0 : 0 < z) (h9 : z < 9) : ¬ nI z ≤ 0 := Int32.not_le.mpr (by rw [← nI_0]; exact nI_lt h0 (by omega))
theorem m_readOdds (C : moC T K L 0 I J P S t) (X : moS I J ((nt, np, nl, nn, od), A, B)) : zEv G y_Mo_readOdds prog_14_method_60_code 1 7 0 0 [.ref 145] (I, J, P, S) (fun w => pQ (q_odds (tA T L K) ((nt, np, nl, nn, od), A, B) t) (fun e => moX T K L I J P S e w) (fun x => moY T K L I J P S x w)) := by
  have M := C.1
  obtain ⟨M0, ⟨M4, M4s⟩, ⟨M5, M5s⟩, ⟨M6, M6s⟩, ⟨M7, M7s⟩, ⟨M20, M20s⟩, ⟨M21, M21s⟩, ⟨M22, M22s⟩, ⟨M26, M26s⟩, ⟨M27, M27s⟩, ⟨M28, M28s⟩, ⟨M30, M30s⟩, ⟨M34, M34s⟩, ⟨M36, M36s⟩, ⟨M37, M37s⟩⟩ := id M
  obtain ⟨a1, a2, a3, h4, h5, h6, -⟩ := moC_n C
  obtain ⟨x5, y5⟩ := X.2.2.2.2.1
  dsimp only at x5 y5
  refine zEv_of (lv := [some (.ref 145)]) (by decide) rfl (Nat.le_of_ble_eq_true rfl) ?_
  unfold q_odds
  dsimp only
  refine z_aload_0 d_Mo_readOdds_0 ?_
  refine z_getIv d_Mo_readOdds_1 f_Mo_243 (by first | assumption | exact zS0_at (by assumption) (by omega) | exact zS0_at rfl (by omega)) (by first | assumption | ((try simp (disch := omega) only [zu_same, zu_ne, zcp_ne, zfl_ne]); first | assumption | rfl)) ?_
  refine z_if_eq (tgt := 16) d_Mo_readOdds_4 (by decide) (fun hb => ?_) (fun hb => ?_)
  · have hb : od = 0 := by
      rcases (show od = 0 ∨ od = 1 by omega) with h | h
      · exact h
      · rw [h] at hb; exact absurd hb (by decide)
    rw [if_pos hb]
    refine z_aload_0 d_Mo_readOdds_16 ?_
    refine z_getIv d_Mo_readOdds_17 f_Mo_202 (by first | assumption | exact zS0_at (by assumption) (by omega) | exact zS0_at rfl (by omega)) (by first | assumption | ((try simp (disch := omega) only [zu_same, zu_ne, zcp_ne, zfl_ne]); first | assumption | rfl)) ?_
    refine z_if_le (tgt := 24) d_Mo_readOdds_20 (by decide) (fun _ => ?_) (fun h => absurd (by decide) h)
    refine z_aload_0 d_Mo_readOdds_24 ?_
    refine z_iconst (a := nI 1) d_Mo_readOdds_25 (by decide) ?_
    refine z_putZ d_Mo_readOdds_26 f_Mo_243 (by first | assumption | exact zS0_at (by assumption) (by omega) | exact zS0_at rfl (by omega)) (by first | exact zb0 | exact zb1 | assumption) ?_
    refine z_aload_0 d_Mo_readOdds_29 ?_
    have C0 : moC T K L 0 (zu I 145 24 (nI 1)) J P S t := moC_c C (fun k hk => zu_ne _ _ _ _ (by omega)) (zu_row _ _ _ _ (by decide)) rfl
    refine z_Vv0 d_Mo_readOdds_30 k_Mo_212 (by first | assumption | exact zS0_at (by assumption) (by omega) | exact zS0_at rfl (by omega)) (m_adv C0) ⟨Nat.le_of_ble_eq_true rfl, Nat.le_of_ble_eq_true rfl, Nat.le_of_ble_eq_true rfl, Nat.le_of_ble_eq_true rfl⟩ (Nat.le_of_ble_eq_true rfl) ?_
    intro w hq
    obtain ⟨I1, J1, rfl, h1, h2, C1⟩ := hq
    have hp1 : mP I I1 := mP_t (mP_p mP_r (by omega)) (mP_tk h1)
    refine z_aload_0 d_Mo_readOdds_33 ?_
    refine z_getR d_Mo_readOdds_34 f_Mo_35 (by first | assumption | exact zS0_at (by assumption) (by omega) | exact zS0_at rfl (by omega)) (by first | assumption | exact zS0_at (by assumption) (by omega) | exact zS0_at rfl (by omega)) ?_
    refine z_sipush (a := nI 1440) d_Mo_readOdds_37 (by decide) ?_
    refine z_aload_0 d_Mo_readOdds_40 ?_
    refine z_iconst (a := nI 0) d_Mo_readOdds_41 (by decide) ?_
    refine z_bipush (a := nI 16) d_Mo_readOdds_42 (by decide) ?_
    refine z_Vi2 d_Mo_readOdds_44 k_Mo_247 (by first | assumption | exact zS0_at (by assumption) (by omega) | exact zS0_at rfl (by omega)) (m_count0 C1) ⟨Nat.le_of_ble_eq_true rfl, Nat.le_of_ble_eq_true rfl, Nat.le_of_ble_eq_true rfl, Nat.le_of_ble_eq_true rfl⟩ (Nat.le_of_ble_eq_true rfl) ?_
    intro r w hq
    rcases hx : p_numb (tA T L K) (nI 0) (nI 16) (tA T L K t) with e | v <;> rw [hx] at hq <;> dsimp only [pb]
    · obtain ⟨rfl, rfl, e1⟩ := hq
      first | refine z_iastN d_Mo_readOdds_47 (by first | assumption | exact zS0_at (by assumption) (by omega) | exact zS0_at rfl (by omega)) (by omega) (by first | decide | omega) ?_ | refine z_iast d_Mo_readOdds_47 (by first | assumption | exact zS0_at (by assumption) (by omega) | exact zS0_at rfl (by omega)) (by first | assumption | exact zS0_at (by assumption) (by omega) | exact zS0_at rfl (by omega)) ?_
      refine z_retv d_Mo_readOdds_48 ?_
      exact ⟨_, _, _, rfl, mP_c (mP_t hp1 mP_B) (by decide), mQ_tk h2, moC_c (moC_f C1) (fun k hk => zu_ne _ _ _ _ (by omega)) (zu_row _ _ _ _ (by decide)) rfl, by rw [zu_ne _ _ _ _ (by omega)]; simp [mB, zu], e1⟩
    · obtain ⟨rfl, hq⟩ := hq
      obtain ⟨I2, J2, rfl, g1, g2, C2⟩ := hq
      first | refine z_iastN d_Mo_readOdds_47 (by first | assumption | exact zS0_at (by assumption) (by omega) | exact zS0_at rfl (by omega)) (by omega) (by first | decide | omega) ?_ | refine z_iast d_Mo_readOdds_47 (by first | assumption | exact zS0_at (by assumption) (by omega) | exact zS0_at rfl (by omega)) (by first | assumption | exact zS0_at (by assumption) (by omega) | exact zS0_at rfl (by omega)) ?_
      refine z_retv d_Mo_readOdds_48 ?_
      refine ⟨_, _, rfl, mP_c (mP_t hp1 (mP_tk g1)) (by decide), mQ_t (mQ_tk h2) (mQ_tk g2), moC_c C2 (fun k hk => zu_ne _ _ _ _ (by omega)) (zu_row _ _ _ _ (by decide)) rfl, ?_⟩
      refine moS_odds X ?_ ?_ ?_
      · rw [g1.1 150 (by decide), h1.1 150 (by decide), zu_row _ _ _ _ (by decide)]
      · rw [g1.2 24 (by decide), h1.2 24 (by decide), zu_same]
      · rw [g2.1 152 (by decide), h2.1 152 (by decide)]
  · have hb : ¬ od = 0 := fun h => hb (by rw [h, nI_0])
    rw [if_neg hb]
    have hm5 : mB I (5, tst t) 145 12 = nI 5 := by simp [mB, zu]
    refine z_aload_0 d_Mo_readOdds_7 ?_
    refine z_iconst (a := nI 5) d_Mo_readOdds_8 (by decide) ?_
    refine z_aload_0 d_Mo_readOdds_9 ?_
    refine z_getIv d_Mo_readOdds_10 f_Mo_119 (by first | assumption | exact zS0_at (by assumption) (by omega) | exact zS0_at rfl (by omega)) (by first | assumption | ((try simp (disch := omega) only [zu_same, zu_ne, zcp_ne, zfl_ne]); first | assumption | rfl)) ?_
    refine z_Vv2 d_Mo_readOdds_13 k_Mo_208 (by first | assumption | exact zS0_at (by assumption) (by omega) | exact zS0_at rfl (by omega)) (m_fail0 C) ⟨Nat.le_of_ble_eq_true rfl, Nat.le_of_ble_eq_true rfl, Nat.le_of_ble_eq_true rfl, Nat.le_of_ble_eq_true rfl⟩ (Nat.le_of_ble_eq_true rfl) ?_
    intro w hq
    obtain rfl := hq
    refine z_aload_0 d_Mo_readOdds_16 ?_
    refine z_getIv d_Mo_readOdds_17 f_Mo_202 (by first | assumption | exact zS0_at (by assumption) (by omega) | exact zS0_at rfl (by omega)) (by first | assumption | ((try simp (disch := omega) only [zu_same, zu_ne, zcp_ne, zfl_ne]); first | assumption | rfl)) ?_
    refine z_if_le (tgt := 24) d_Mo_readOdds_20 (by decide) (fun h => absurd h (by decide)) (fun _ => ?_)
    refine z_retv d_Mo_readOdds_23 ?_
    exact moX_B C mP_r mQ_r ⟨show 0 < 5 by decide, show 5 < 9 by decide⟩
theorem m_readTrait (C : moC T K L 0 I J P S t) (X : moS I J ((nt, np, nl, nn, od), A, B)) : zEv G y_Mo_readTrait prog_14_method_61_code 3 7 0 0 [.ref 145] (I, J, P, S) (fun w => pQ (q_trait (tA T L K) ((nt, np, nl, nn, od), A, B) t) (fun e => moX T K L I J P S e w) (fun x => moY T K L I J P S x w)) := by
  have M := C.1
  obtain ⟨M0, ⟨M4, M4s⟩, ⟨M5, M5s⟩, ⟨M6, M6s⟩, ⟨M7, M7s⟩, ⟨M20, M20s⟩, ⟨M21, M21s⟩, ⟨M22, M22s⟩, ⟨M26, M26s⟩, ⟨M27, M27s⟩, ⟨M28, M28s⟩, ⟨M30, M30s⟩, ⟨M34, M34s⟩, ⟨M36, M36s⟩, ⟨M37, M37s⟩⟩ := id M
  obtain ⟨a1, a2, a3, h4, h5, h6, -⟩ := moC_n C
  refine zEv_of (lv := [some (.ref 145), none, none]) (by decide) rfl (Nat.le_of_ble_eq_true rfl) ?_
  obtain ⟨y, hy⟩ : ∃ y, q_trait (tA T L K) ((nt, np, nl, nn, od), A, B) t = y := ⟨_, rfl⟩
  rw [hy]
  unfold q_trait at hy
  dsimp only at hy
  have bad24 : ∀ (e : Nat × Nat) (Ix : Nat → Nat → Int32) (Jx : Nat → Nat → Int64) (k v : Int32), Sum.inl e = y → moX T K L I J P S e (Ix, Jx, P, S) → zA G y_Mo_readTrait prog_14_method_61_code 3 none (zRm 7 0 0) (zM G 0 0 (fun r w' => r = none ∧ (fun w => pQ (y) (fun e => moX T K L I J P S e w) (fun x => moY T K L I J P S x w)) w')) 24 [some (.ref 145), some (.int k), some (.int v)] [] (Ix, Jx, P, S) 0 0 := by
    intro e Ix Jx k v h hX
    rw [← h]
    obtain ⟨I', J', t', hw, q1, q2, q3, q4, q5, q6⟩ := id hX
    cases hw
    obtain ⟨-, -, b3, -⟩ := moC_n q3
    refine z_aload_0 d_Mo_readTrait_24 ?_
    refine z_getIv d_Mo_readTrait_25 f_Mo_202 (by first | assumption | exact zS0_at (by assumption) (by omega) | exact zS0_at rfl (by omega)) (by first | assumption | ((try simp (disch := omega) only [zu_same, zu_ne, zcp_ne, zfl_ne]); first | assumption | rfl)) ?_
    refine z_if_le (tgt := 32) d_Mo_readTrait_28 (by decide) (fun h => absurd h (nz_le q5 q6)) (fun _ => ?_)
    refine z_retv d_Mo_readTrait_31 ?_
    exact hX
  have bad16 : ∀ (e : Nat × Nat) (Ix : Nat → Nat → Int32) (Jx : Nat → Nat → Int64) (k : Int32), Sum.inl e = y → moX T K L I J P S e (Ix, Jx, P, S) → zA G y_Mo_readTrait prog_14_method_61_code 3 none (zRm 7 0 0) (zM G 0 0 (fun r w' => r = none ∧ (fun w => pQ (y) (fun e => moX T K L I J P S e w) (fun x => moY T K L I J P S x w)) w')) 16 [some (.ref 145), some (.int k), none] [] (Ix, Jx, P, S) 0 0 := by
    intro e Ix Jx k h hX
    obtain ⟨I', J', t', hw, q1, q2, q3, q4, q5, q6⟩ := id hX
    cases hw
    refine z_aload_0 d_Mo_readTrait_16 ?_
    refine z_iconst (a := nI 0) d_Mo_readTrait_17 (by decide) ?_
    refine z_bipush (a := nI 99) d_Mo_readTrait_18 (by decide) ?_
    refine z_Vi2 d_Mo_readTrait_20 k_Mo_247 (by first | assumption | exact zS0_at (by assumption) (by omega) | exact zS0_at rfl (by omega)) (m_countz (c := 0) q3 q5 q6) ⟨Nat.le_of_ble_eq_true rfl, Nat.le_of_ble_eq_true rfl, Nat.le_of_ble_eq_true rfl, Nat.le_of_ble_eq_true rfl⟩ (Nat.le_of_ble_eq_true rfl) ?_
    intro r w hq
    obtain ⟨rfl, rfl⟩ := hq
    first | refine z_istore_2 d_Mo_readTrait_23 rfl ?_ | (refine z_forget_1 ?_; refine z_istore_2 d_Mo_readTrait_23 rfl ?_)
    exact bad24 e _ _ _ _ h hX
  refine z_aload_0 d_Mo_readTrait_0 ?_
  refine z_iconst (a := nI 0) d_Mo_readTrait_1 (by decide) ?_
  refine z_bipush (a := nI 6) d_Mo_readTrait_2 (by decide) ?_
  refine z_Vi2 d_Mo_readTrait_4 k_Mo_250 (by first | assumption | exact zS0_at (by assumption) (by omega) | exact zS0_at rfl (by omega)) (m_readNew (off := 0) (n := nt) C X (Or.inl ⟨rfl, rfl, rfl, rfl⟩)) ⟨Nat.le_of_ble_eq_true rfl, Nat.le_of_ble_eq_true rfl, Nat.le_of_ble_eq_true rfl, Nat.le_of_ble_eq_true rfl⟩ (Nat.le_of_ble_eq_true rfl) ?_
  intro r w hq
  rcases hx : (if nt < 6 then p_newn (tA T L K) ((nt, np, nl, nn, od), A, B) (tA T L K t) else .inl (6, tst t)) with e | v <;> rw [hx] at hq hy <;> dsimp only [pb] at hy
  · obtain ⟨rfl, hq⟩ := hq
    obtain ⟨I', J', t', rfl, q1, q2, q3, q4, q5, q6⟩ := id hq
    first | refine z_istore_1 d_Mo_readTrait_7 rfl ?_ | (refine z_forget_0 ?_; refine z_istore_1 d_Mo_readTrait_7 rfl ?_)
    refine z_aload_0 d_Mo_readTrait_8 ?_
    refine z_aload_0 d_Mo_readTrait_9 ?_
    refine z_Vi0 d_Mo_readTrait_10 k_Mo_168 (by first | assumption | exact zS0_at (by assumption) (by omega) | exact zS0_at rfl (by omega)) (m_isWorth q3) ⟨Nat.le_of_ble_eq_true rfl, Nat.le_of_ble_eq_true rfl, Nat.le_of_ble_eq_true rfl, Nat.le_of_ble_eq_true rfl⟩ (Nat.le_of_ble_eq_true rfl) ?_
    intro r w hr
    rcases hr with ⟨⟨-, rfl⟩ | ⟨-, rfl⟩, rfl⟩
    · refine z_Vv1 d_Mo_readTrait_13 k_Mo_239 (by first | assumption | exact zS0_at (by assumption) (by omega) | exact zS0_at rfl (by omega)) (m_mustz q3 q5 q6) ⟨Nat.le_of_ble_eq_true rfl, Nat.le_of_ble_eq_true rfl, Nat.le_of_ble_eq_true rfl, Nat.le_of_ble_eq_true rfl⟩ (Nat.le_of_ble_eq_true rfl) ?_
      intro w hr
      obtain rfl := hr
      exact bad16 e _ _ _ hy hq
    · refine z_Vv1 d_Mo_readTrait_13 k_Mo_239 (by first | assumption | exact zS0_at (by assumption) (by omega) | exact zS0_at rfl (by omega)) (m_mustz q3 q5 q6) ⟨Nat.le_of_ble_eq_true rfl, Nat.le_of_ble_eq_true rfl, Nat.le_of_ble_eq_true rfl, Nat.le_of_ble_eq_true rfl⟩ (Nat.le_of_ble_eq_true rfl) ?_
      intro w hr
      obtain rfl := hr
      exact bad16 e _ _ _ hy hq
  obtain ⟨rfl, hlt, I1, J1, rfl, h1, h2, C1⟩ := hq
  have hp1 : mP I I1 := mP_tk h1
  have hq1 : mQ J J1 := mQ_t (mQ_c mQ_r (by omega)) (mQ_tk h2)
  have hj : ∀ k, J1 152 k = zu J 152 (88 + 0 + nt) v.1 152 k := fun k => by rw [h2.1 152 (by decide)]
  have X1 : moS I1 (zu J1 152 (88 + nt) (J 152 (88 + nt))) ((nt, np, nl, nn, od), A, B) := by
    refine moS_c X (h1.1 _ (by decide)) (h1.2 _ (by decide)) ?_
    funext k
    by_cases e : k = 88 + nt
    · subst e; exact zu_same _ _ _ _
    · rw [zu_ne _ _ _ _ (by omega), hj k, zu_ne _ _ _ _ (by omega)]
  first | refine z_istore_1 d_Mo_readTrait_7 rfl ?_ | (refine z_forget_0 ?_; refine z_istore_1 d_Mo_readTrait_7 rfl ?_)
  refine z_aload_0 d_Mo_readTrait_8 ?_
  refine z_aload_0 d_Mo_readTrait_9 ?_
  refine z_Vi0 d_Mo_readTrait_10 k_Mo_168 (by first | assumption | exact zS0_at (by assumption) (by omega) | exact zS0_at rfl (by omega)) (m_isWorth C1) ⟨Nat.le_of_ble_eq_true rfl, Nat.le_of_ble_eq_true rfl, Nat.le_of_ble_eq_true rfl, Nat.le_of_ble_eq_true rfl⟩ (Nat.le_of_ble_eq_true rfl) ?_
  intro r w hq
  rcases hq with ⟨⟨hk, rfl⟩ | ⟨hk, rfl⟩, rfl⟩
  · have e1 : p_word (tA T L K) (nI 2) v.2 = .inr (tA T L K v.2) := by unfold p_word; rw [if_pos hk]
    rw [e1] at hy
    dsimp only [pb] at hy
    refine z_Vv1 d_Mo_readTrait_13 k_Mo_239 (by first | assumption | exact zS0_at (by assumption) (by omega) | exact zS0_at rfl (by omega)) (m_must1 C1) ⟨Nat.le_of_ble_eq_true rfl, Nat.le_of_ble_eq_true rfl, Nat.le_of_ble_eq_true rfl, Nat.le_of_ble_eq_true rfl⟩ (Nat.le_of_ble_eq_true rfl) ?_
    intro w hq
    obtain ⟨I2, J2, rfl, g1, g2, C2⟩ := hq
    have hp2 : mP I I2 := mP_t hp1 (mP_tk g1)
    have hq2 : mQ J J2 := mQ_t hq1 (mQ_tk g2)
    refine z_aload_0 d_Mo_readTrait_16 ?_
    refine z_iconst (a := nI 0) d_Mo_readTrait_17 (by decide) ?_
    refine z_bipush (a := nI 99) d_Mo_readTrait_18 (by decide) ?_
    refine z_Vi2 d_Mo_readTrait_20 k_Mo_247 (by first | assumption | exact zS0_at (by assumption) (by omega) | exact zS0_at rfl (by omega)) (m_count0 C2) ⟨Nat.le_of_ble_eq_true rfl, Nat.le_of_ble_eq_true rfl, Nat.le_of_ble_eq_true rfl, Nat.le_of_ble_eq_true rfl⟩ (Nat.le_of_ble_eq_true rfl) ?_
    intro r w hq
    rcases hx2 : p_numb (tA T L K) (nI 0) (nI 99) (tA T L K v.2) with e | u <;> rw [hx2] at hq hy <;> dsimp only [pb] at hy
    · obtain ⟨rfl, rfl, e1⟩ := hq
      first | refine z_istore_2 d_Mo_readTrait_23 rfl ?_ | (refine z_forget_1 ?_; refine z_istore_2 d_Mo_readTrait_23 rfl ?_)
      exact bad24 e _ _ _ _ hy (moX_B C2 hp2 hq2 e1)
    · obtain ⟨rfl, hq⟩ := hq
      obtain ⟨I3, J3, rfl, f1, f2, C3⟩ := hq
      obtain ⟨-, -, b3, -⟩ := moC_n C3
      have n0 : I3 150 1436 = nI nt := by rw [f1.1 150 (by decide), g1.1 150 (by decide), h1.1 150 (by decide)]; exact X.1.1
      rw [← hy]
      first | refine z_istore_2 d_Mo_readTrait_23 rfl ?_ | (refine z_forget_1 ?_; refine z_istore_2 d_Mo_readTrait_23 rfl ?_)
      refine z_aload_0 d_Mo_readTrait_24 ?_
      refine z_getIv d_Mo_readTrait_25 f_Mo_202 (by first | assumption | exact zS0_at (by assumption) (by omega) | exact zS0_at rfl (by omega)) (by first | assumption | ((try simp (disch := omega) only [zu_same, zu_ne, zcp_ne, zfl_ne]); first | assumption | rfl)) ?_
      refine z_if_le (tgt := 32) d_Mo_readTrait_28 (by decide) (fun _ => ?_) (fun h => absurd (by decide) h)
      refine z_aload_0 d_Mo_readTrait_32 ?_
      refine z_getR d_Mo_readTrait_33 f_Mo_35 (by first | assumption | exact zS0_at (by assumption) (by omega) | exact zS0_at rfl (by omega)) (by first | assumption | exact zS0_at (by assumption) (by omega) | exact zS0_at rfl (by omega)) ?_
      refine z_sipush (a := nI 1442) d_Mo_readTrait_36 (by decide) ?_
      refine z_iload_1 d_Mo_readTrait_39 ?_
      first | refine z_iaddN d_Mo_readTrait_40 ?_ | refine z_iadd d_Mo_readTrait_40 ?_
      refine z_iload_2 d_Mo_readTrait_41 ?_
      first | refine z_iastN d_Mo_readTrait_42 (by first | assumption | exact zS0_at (by assumption) (by omega) | exact zS0_at rfl (by omega)) (by omega) (by first | decide | omega) ?_ | refine z_iast d_Mo_readTrait_42 (by first | assumption | exact zS0_at (by assumption) (by omega) | exact zS0_at rfl (by omega)) (by first | assumption | exact zS0_at (by assumption) (by omega) | exact zS0_at rfl (by omega)) ?_
      refine z_aload_0 d_Mo_readTrait_43 ?_
      refine z_getR d_Mo_readTrait_44 f_Mo_35 (by first | assumption | exact zS0_at (by assumption) (by omega) | exact zS0_at rfl (by omega)) (by first | assumption | exact zS0_at (by assumption) (by omega) | exact zS0_at rfl (by omega)) ?_
      refine z_sipush (a := nI 1436) d_Mo_readTrait_47 (by decide) ?_
      first | refine z_dup2 rfl rfl d_Mo_readTrait_50 ?_ | refine z_dup2l rfl d_Mo_readTrait_50 ?_
      first | refine z_ialdNv d_Mo_readTrait_51 (by first | assumption | exact zS0_at (by assumption) (by omega) | exact zS0_at rfl (by omega)) (by omega) (by first | decide | omega) (by first | assumption | ((try simp (disch := omega) only [zu_same, zu_ne, zcp_ne, zfl_ne]); first | assumption | rfl)) ?_ | refine z_iald d_Mo_readTrait_51 (by first | assumption | exact zS0_at (by assumption) (by omega) | exact zS0_at rfl (by omega)) (by first | assumption | exact zS0_at (by assumption) (by omega) | exact zS0_at rfl (by omega)) ?_
      refine z_iconst (a := nI 1) d_Mo_readTrait_52 (by decide) ?_
      first | refine z_iaddN d_Mo_readTrait_53 ?_ | refine z_iadd d_Mo_readTrait_53 ?_
      first | refine z_iastN d_Mo_readTrait_54 (by first | assumption | exact zS0_at (by assumption) (by omega) | exact zS0_at rfl (by omega)) (by omega) (by first | decide | omega) ?_ | refine z_iast d_Mo_readTrait_54 (by first | assumption | exact zS0_at (by assumption) (by omega) | exact zS0_at rfl (by omega)) (by first | assumption | exact zS0_at (by assumption) (by omega) | exact zS0_at rfl (by omega)) ?_
      refine z_retv d_Mo_readTrait_55 ?_
      have hJ3 : J3 152 (88 + nt) = v.1 := by rw [f2.1 152 (by decide), g2.1 152 (by decide), hj, show 88 + 0 + nt = 88 + nt from rfl, zu_same]
      have X3 : moS I3 J3 ((nt, np, nl, nn, od), A, B) := by
        obtain ⟨b1, b2, b3, b4, b5, b6, b7, b8, b9, b10, b11, b12⟩ := X
        have e5 : I3 150 = I 150 := by rw [f1.1 150 (by decide), g1.1 150 (by decide), h1.1 150 (by decide)]
        have e6 : I3 145 24 = I 145 24 := by rw [f1.2 24 (by decide), g1.2 24 (by decide), h1.2 24 (by decide)]
        have e7 : ∀ k, k ≠ 88 + nt → J3 152 k = J 152 k := fun k hk => by rw [f2.1 152 (by decide), g2.1 152 (by decide), hj, zu_ne _ _ _ _ (by omega)]
        unfold moS
        rw [e5, e6]
        refine ⟨b1, b2, b3, b4, b5, b6, fun k hk => ?_, fun k hk => ?_, b9, b10, fun k hk => ?_, b12⟩
        · rw [e7 _ (by dsimp only at hk; omega)]; exact b7 k hk
        · rw [e7 _ (by omega)]; exact b8 k hk
        · rw [e7 _ (by omega)]; exact b11 k hk
      exact ⟨_, _, rfl, mP_c (mP_c (mP_t hp2 (mP_tk f1)) (by omega)) (by decide), mQ_t hq2 (mQ_tk f2), moC_c C3 (fun k hk => by rw [zu_ne _ _ _ _ (by omega), zu_ne _ _ _ _ (by omega)]) (by rw [zu_row _ _ _ _ (by decide), zu_row _ _ _ _ (by decide)]) rfl, moS_trait X3 hlt hJ3⟩
  · have e1 : p_word (tA T L K) (nI 2) v.2 = .inl (p_mis v.2) := by unfold p_word; rw [if_neg hk]
    rw [e1] at hy
    dsimp only [pb] at hy
    refine z_Vv1 d_Mo_readTrait_13 k_Mo_239 (by first | assumption | exact zS0_at (by assumption) (by omega) | exact zS0_at rfl (by omega)) (m_must0 C1) ⟨Nat.le_of_ble_eq_true rfl, Nat.le_of_ble_eq_true rfl, Nat.le_of_ble_eq_true rfl, Nat.le_of_ble_eq_true rfl⟩ (Nat.le_of_ble_eq_true rfl) ?_
    intro w hq
    obtain rfl := hq
    exact bad16 _ _ _ _ hy (moX_B C1 hp1 hq1 p_mis_b)
end MF3
