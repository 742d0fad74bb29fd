/-! the reference's reader of a FEN: lanes, tins, people, parts -/
section MF4
variable {G : zG} {I I1 I2 : Nat → Nat → Int32} {J J1 J2 : Nat → Nat → Int64} {P : Nat → Nat → Option Nat} {S : List (Nat × Nat)} {L : Nat} {a b : Int32} {T : Nat → Int32} {K : Nat → Int64} {t : tk} {z nt np nl nn od : Nat} {A : Nat → Nat → Int32} {B : Nat → Nat → Int64}
theorem moS_j {i : Nat} (X : moS I J ((nt, np, nl, nn, od), A, B)) (e5 : I1 150 = I 150) (e6 : I1 145 24 = I 145 24) (e7 : ∀ k, k ≠ i → J1 152 k = J 152 k) (hi : (∀ k, k < nt → 88 + k ≠ i) ∧ (∀ k, k < np → 94 + k ≠ i) ∧ (∀ k, k < nn → 101 + k ≠ i)) : moS I1 J1 ((nt, np, nl, nn, od), A, B) := by
  obtain ⟨b1, b2, b3, b4, b5, b6, b7, b8, b9, b10, b11, b12⟩ := X
  unfold moS
  rw [e5, e6]
  refine ⟨b1, b2, b3, b4, b5, b6, fun k hk => ?_, fun k hk => ?_, b9, b10, fun k hk => ?_, b12⟩
  · rw [e7 _ (hi.1 k hk)]; exact b7 k hk
  · rw [e7 _ (hi.2.1 k hk)]; exact b8 k hk
  · rw [e7 _ (hi.2.2 k hk)]; exact b11 k hk
theorem strikes_row {c t x : Nat} {k p l : Int32} (h : x ≠ 150) : m_strikes I c t k p l x = I x := by
  unfold m_strikes
  rw [zu_row _ _ _ _ h, zu_row _ _ _ _ h, zu_row _ _ _ _ h, zu_row _ _ _ _ h, zu_row _ _ _ _ h, zu_row _ _ _ _ h, zu_row _ _ _ _ h]
theorem mP_strikes {t : Nat} {k p l : Int32} (h : mP I I1) : mP I (m_strikes I1 4 t k p l) := by
  unfold m_strikes
  exact mP_c (mP_c (mP_c (mP_c (mP_c (mP_c (mP_c h (by omega)) (by omega)) (by omega)) (by omega)) (by omega)) (by omega)) (by omega)
theorem m_readLane (C : moC T K L 0 I J P S t) (X : moS I J ((nt, np, nl, nn, od), A, B)) : zEv G y_Mo_readLane prog_14_method_64_code 3 8 0 0 [.ref 145] (I, J, P, S) (fun w => pQ (q_lane (tA T L K) ((nt, np, nl, nn, od), A, B) t) (fun e => moX T K L I J P S e w) (fun x => moY T K L I J P S x w)) := by
  have M := C.1
  obtain ⟨M0, ⟨M4, M4s⟩, ⟨M5, M5s⟩, ⟨M6, M6s⟩, ⟨M7, M7s⟩, ⟨M20, M20s⟩, ⟨M21, M21s⟩, ⟨M22, M22s⟩, ⟨M26, M26s⟩, ⟨M27, M27s⟩, ⟨M28, M28s⟩, ⟨M30, M30s⟩, ⟨M34, M34s⟩, ⟨M36, M36s⟩, ⟨M37, M37s⟩⟩ := id M
  obtain ⟨a1, a2, a3, h4, h5, h6, -⟩ := moC_n C
  obtain ⟨x3, y3⟩ := X.2.2.1
  obtain ⟨x2, y2⟩ := X.2.1
  dsimp only at x3 y3 x2 y2
  refine zEv_of (lv := [some (.ref 145), none, none]) (by decide) rfl (Nat.le_of_ble_eq_true rfl) ?_
  obtain ⟨y, hy⟩ : ∃ y, q_lane (tA T L K) ((nt, np, nl, nn, od), A, B) t = y := ⟨_, rfl⟩
  rw [hy]
  unfold q_lane at hy
  dsimp only at hy
  have bad75 : ∀ (e : Nat × Nat) (Ix : Nat → Nat → Int32) (Jx : Nat → Nat → Int64) (k v : Int32), Sum.inl e = y → moX T K L I J P S e (Ix, Jx, P, S) → zA G y_Mo_readLane prog_14_method_64_code 3 none (zRm 8 0 0) (zM G 0 0 (fun r w' => r = none ∧ (fun w => pQ (y) (fun e => moX T K L I J P S e w) (fun x => moY T K L I J P S x w)) w')) 75 [some (.ref 145), some (.int k), some (.int v)] [] (Ix, Jx, P, S) 0 0 := by
    intro e Ix Jx k v h hX
    rw [← h]
    obtain ⟨I', J', t', hw, q1, q2, q3, q4, q5, q6⟩ := id hX
    cases hw
    obtain ⟨-, -, b3, -⟩ := moC_n q3
    refine z_aload_0 d_Mo_readLane_75 ?_
    refine z_getIv d_Mo_readLane_76 f_Mo_202 (by first | assumption | exact zS0_at (by assumption) (by omega) | exact zS0_at rfl (by omega)) (by first | assumption | ((try simp (disch := omega) only [zu_same, zu_ne, zcp_ne, zfl_ne]); first | assumption | rfl)) ?_
    refine z_if_ne (tgt := 89) d_Mo_readLane_79 (by decide) (fun _ => ?_) (fun h => absurd h (nz_ne q5 q6))
    refine z_retv d_Mo_readLane_89 ?_
    exact hX
  have bad70 : ∀ (e : Nat × Nat) (Ix : Nat → Nat → Int32) (Jx : Nat → Nat → Int64) (k v : Int32), Sum.inl e = y → moX T K L I J P S e (Ix, Jx, P, S) → zA G y_Mo_readLane prog_14_method_64_code 3 none (zRm 8 0 0) (zM G 0 0 (fun r w' => r = none ∧ (fun w => pQ (y) (fun e => moX T K L I J P S e w) (fun x => moY T K L I J P S x w)) w')) 70 [some (.ref 145), some (.int k), some (.int v)] [] (Ix, Jx, P, S) 0 0 := by
    intro e Ix Jx k v h hX
    obtain ⟨I', J', t', hw, q1, q2, q3, q4, q5, q6⟩ := id hX
    cases hw
    refine z_aload_0 d_Mo_readLane_70 ?_
    refine z_iconst (a := nI 1) d_Mo_readLane_71 (by decide) ?_
    refine z_Vv1 d_Mo_readLane_72 k_Mo_239 (by first | assumption | exact zS0_at (by assumption) (by omega) | exact zS0_at rfl (by omega)) (m_mustz q3 q5 q6) ⟨Nat.le_of_ble_eq_true rfl, Nat.le_of_ble_eq_true rfl, Nat.le_of_ble_eq_true rfl, Nat.le_of_ble_eq_true rfl⟩ (Nat.le_of_ble_eq_true rfl) ?_
    intro w hq
    obtain rfl := hq
    exact bad75 e _ _ _ _ h hX
  have bad49 : ∀ (e : Nat × Nat) (Ix : Nat → Nat → Int32) (Jx : Nat → Nat → Int64) (k v : Int32), Sum.inl e = y → moX T K L I J P S e (Ix, Jx, P, S) → zA G y_Mo_readLane prog_14_method_64_code 3 none (zRm 8 0 0) (zM G 0 0 (fun r w' => r = none ∧ (fun w => pQ (y) (fun e => moX T K L I J P S e w) (fun x => moY T K L I J P S x w)) w')) 49 [some (.ref 145), some (.int k), some (.int v)] [] (Ix, Jx, P, S) 0 0 := by
    intro e Ix Jx k v h hX
    obtain ⟨I', J', t', hw, q1, q2, q3, q4, q5, q6⟩ := id hX
    cases hw
    obtain ⟨-, -, b3, -⟩ := moC_n q3
    refine z_aload_0 d_Mo_readLane_49 ?_
    refine z_getIv d_Mo_readLane_50 f_Mo_202 (by first | assumption | exact zS0_at (by assumption) (by omega) | exact zS0_at rfl (by omega)) (by first | assumption | ((try simp (disch := omega) only [zu_same, zu_ne, zcp_ne, zfl_ne]); first | assumption | rfl)) ?_
    refine z_if_ne (tgt := 70) d_Mo_readLane_53 (by decide) (fun _ => ?_) (fun h => absurd h (nz_ne q5 q6))
    exact bad70 e _ _ _ _ h hX
  refine z_aload_0 d_Mo_readLane_0 ?_
  refine z_getR d_Mo_readLane_1 f_Mo_35 (by first | assumption | exact zS0_at (by assumption) (by omega) | exact zS0_at rfl (by omega)) (by first | assumption | exact zS0_at (by assumption) (by omega) | exact zS0_at rfl (by omega)) ?_
  refine z_sipush (a := nI 1438) d_Mo_readLane_4 (by decide) ?_
  first | refine z_ialdNv d_Mo_readLane_7 (by first | assumption | exact zS0_at (by assumption) (by omega) | exact zS0_at rfl (by omega)) (by omega) (by first | decide | omega) (by first | assumption | ((try simp (disch := omega) only [zu_same, zu_ne, zcp_ne, zfl_ne]); first | assumption | rfl)) ?_ | refine z_iald d_Mo_readLane_7 (by first | assumption | exact zS0_at (by assumption) (by omega) | exact zS0_at rfl (by omega)) (by first | assumption | exact zS0_at (by assumption) (by omega) | exact zS0_at rfl (by omega)) ?_
  refine z_bipush (a := nI 12) d_Mo_readLane_8 (by decide) ?_
  refine z_icmp_ne (tgt := 23) d_Mo_readLane_10 (by decide) (fun hb => ?_) (fun hb => ?_)
  · have hb : nl < 12 := by
      rcases Nat.lt_or_ge nl 12 with h | h
      · exact h
      · exact absurd (congrArg nI (show nl = 12 by omega)) hb
    rw [if_pos hb] at hy
    refine z_aload_0 d_Mo_readLane_23 ?_
    refine z_getIv d_Mo_readLane_24 f_Mo_202 (by first | assumption | exact zS0_at (by assumption) (by omega) | exact zS0_at rfl (by omega)) (by first | assumption | ((try simp (disch := omega) only [zu_same, zu_ne, zcp_ne, zfl_ne]); first | assumption | rfl)) ?_
    refine z_if_le (tgt := 31) d_Mo_readLane_27 (by decide) (fun _ => ?_) (fun h => absurd (by decide) h)
    refine z_aload_0 d_Mo_readLane_31 ?_
    refine z_Vv0 d_Mo_readLane_32 k_Mo_212 (by first | assumption | exact zS0_at (by assumption) (by omega) | exact zS0_at rfl (by omega)) (m_adv C) ⟨Nat.le_of_ble_eq_true rfl, Nat.le_of_ble_eq_true rfl, Nat.le_of_ble_eq_true rfl, Nat.le_of_ble_eq_true rfl⟩ (Nat.le_of_ble_eq_true rfl) ?_
    intro w hq
    obtain ⟨I1, J1, rfl, h1, h2, C1⟩ := hq
    have X1 := moS_tk X h1 h2
    have e1 := (moS_kn (t := tA T L K t) X1).2
    dsimp only at e1
    rw [← e1] at hy
    refine z_aload_0 d_Mo_readLane_35 ?_
    refine z_iconst (a := nI 4) d_Mo_readLane_36 (by decide) ?_
    refine z_iconst (a := nI 1) d_Mo_readLane_37 (by decide) ?_
    refine z_Vi2 d_Mo_readLane_38 k_Mo_257 (by first | assumption | exact zS0_at (by assumption) (by omega) | exact zS0_at rfl (by omega)) (m_readTold0 (c := 4) (so := 1) (off := 6) (n := np) C1 (by decide) (Or.inr (Or.inl ⟨rfl, rfl⟩)) X1.2.1.1 (by omega)) ⟨Nat.le_of_ble_eq_true rfl, Nat.le_of_ble_eq_true rfl, Nat.le_of_ble_eq_true rfl, Nat.le_of_ble_eq_true rfl⟩ (Nat.le_of_ble_eq_true rfl) ?_
    intro r w hq
    rcases hx : p_known (fun k => J1 152 (22 * 4 + 6 + k)) np (tA T L K t) with e | k <;> rw [hx] at hq hy <;> dsimp only [pb] at hy
    · obtain ⟨rfl, rfl, e2⟩ := hq
      first | refine z_istore_1 d_Mo_readLane_41 rfl ?_ | (refine z_forget_0 ?_; refine z_istore_1 d_Mo_readLane_41 rfl ?_)
      refine z_aload_0 d_Mo_readLane_42 ?_
      refine z_iconst (a := nI 4) d_Mo_readLane_43 (by decide) ?_
      refine z_iconst (a := nI 1) d_Mo_readLane_44 (by decide) ?_
      refine z_Vi2 d_Mo_readLane_45 k_Mo_236 (by first | assumption | exact zS0_at (by assumption) (by omega) | exact zS0_at rfl (by omega)) (m_toldz (moC_f C1) e2.1 e2.2) ⟨Nat.le_of_ble_eq_true rfl, Nat.le_of_ble_eq_true rfl, Nat.le_of_ble_eq_true rfl, Nat.le_of_ble_eq_true rfl⟩ (Nat.le_of_ble_eq_true rfl) ?_
      intro r w hq
      obtain ⟨rfl, rfl⟩ := hq
      first | refine z_istore_2 d_Mo_readLane_48 rfl ?_ | (refine z_forget_1 ?_; refine z_istore_2 d_Mo_readLane_48 rfl ?_)
      exact bad49 e _ _ _ _ hy (moX_B C1 (mP_tk h1) (mQ_tk h2) e2)
    obtain ⟨rfl, I2, J2, rfl, g1, g2, C2⟩ := hq
    obtain ⟨k, hk, rfl, -⟩ := p_known_c hx
    have X2 := moS_tk X1 g1 g2
    have hp2 : mP I I2 := mP_t (mP_tk h1) (mP_tk g1)
    have hq2 : mQ J J2 := mQ_t (mQ_tk h2) (mQ_tk g2)
    obtain ⟨b1, b2, b3, -⟩ := moC_n C2
    have e3 := (moS_kn (t := tA T L K (tA T L K t)) X2).2
    dsimp only at e3
    rw [← e3] at hy
    first | refine z_istore_1 d_Mo_readLane_41 rfl ?_ | (refine z_forget_0 ?_; refine z_istore_1 d_Mo_readLane_41 rfl ?_)
    refine z_aload_0 d_Mo_readLane_42 ?_
    refine z_iconst (a := nI 4) d_Mo_readLane_43 (by decide) ?_
    refine z_iconst (a := nI 1) d_Mo_readLane_44 (by decide) ?_
    refine z_Vi2 d_Mo_readLane_45 k_Mo_236 (by first | assumption | exact zS0_at (by assumption) (by omega) | exact zS0_at rfl (by omega)) (m_told0 (c := 4) (so := 1) (off := 6) (n := np) C2 (by decide) (Or.inr (Or.inl ⟨rfl, rfl⟩)) X2.2.1.1 (by omega)) ⟨Nat.le_of_ble_eq_true rfl, Nat.le_of_ble_eq_true rfl, Nat.le_of_ble_eq_true rfl, Nat.le_of_ble_eq_true rfl⟩ (Nat.le_of_ble_eq_true rfl) ?_
    intro r w hq
    rcases hx2 : p_known (fun k => J2 152 (22 * 4 + 6 + k)) np (tA T L K (tA T L K t)) with e | m <;> rw [hx2] at hq hy <;> dsimp only [pb] at hy
    · obtain ⟨rfl, rfl, e2⟩ := hq
      first | refine z_istore_2 d_Mo_readLane_48 rfl ?_ | (refine z_forget_1 ?_; refine z_istore_2 d_Mo_readLane_48 rfl ?_)
      exact bad49 e _ _ _ _ hy (moX_B C2 hp2 hq2 e2)
    obtain ⟨rfl, rfl⟩ := hq
    obtain ⟨m, hm, rfl, -⟩ := p_known_c hx2
    first | refine z_istore_2 d_Mo_readLane_48 rfl ?_ | (refine z_forget_1 ?_; refine z_istore_2 d_Mo_readLane_48 rfl ?_)
    refine z_aload_0 d_Mo_readLane_49 ?_
    refine z_getIv d_Mo_readLane_50 f_Mo_202 (by first | assumption | exact zS0_at (by assumption) (by omega) | exact zS0_at rfl (by omega)) (by first | assumption | ((try simp (disch := omega) only [zu_same, zu_ne, zcp_ne, zfl_ne]); first | assumption | rfl)) ?_
    refine z_if_ne (tgt := 70) d_Mo_readLane_53 (by decide) (fun h => absurd (by decide) h) (fun _ => ?_)
    refine z_iload_1 d_Mo_readLane_56 ?_
    refine z_iload_2 d_Mo_readLane_57 ?_
    refine z_icmp_ne (tgt := 70) d_Mo_readLane_58 (by decide) (fun hc => ?_) (fun hc => ?_)
    · have hc2 : k ≠ m := fun h => hc (by rw [h])
      rw [if_neg (fun h => hc h.symm), nI_clamp (by omega), nI_clamp (by omega)] at hy
      refine z_aload_0 d_Mo_readLane_70 ?_
      refine z_iconst (a := nI 1) d_Mo_readLane_71 (by decide) ?_
      refine z_Vv1 d_Mo_readLane_72 k_Mo_239 (by first | assumption | exact zS0_at (by assumption) (by omega) | exact zS0_at rfl (by omega)) (m_must1 C2) ⟨Nat.le_of_ble_eq_true rfl, Nat.le_of_ble_eq_true rfl, Nat.le_of_ble_eq_true rfl, Nat.le_of_ble_eq_true rfl⟩ (Nat.le_of_ble_eq_true rfl) ?_
      intro w hq
      obtain ⟨I3, J3, rfl, f1, f2, C3⟩ := hq
      have X3 := moS_tk X2 f1 f2
      obtain ⟨-, -, d3, -⟩ := moC_n C3
      rw [← hy]
      refine z_aload_0 d_Mo_readLane_75 ?_
      refine z_getIv d_Mo_readLane_76 f_Mo_202 (by first | assumption | exact zS0_at (by assumption) (by omega) | exact zS0_at rfl (by omega)) (by first | assumption | ((try simp (disch := omega) only [zu_same, zu_ne, zcp_ne, zfl_ne]); first | assumption | rfl)) ?_
      refine z_if_ne (tgt := 89) d_Mo_readLane_79 (by decide) (fun h => absurd (by decide) h) (fun _ => ?_)
      refine z_aload_0 d_Mo_readLane_82 ?_
      refine z_iconst (a := nI 4) d_Mo_readLane_83 (by decide) ?_
      refine z_iload_1 d_Mo_readLane_84 ?_
      refine z_iload_2 d_Mo_readLane_85 ?_
      refine z_Vv3 d_Mo_readLane_86 k_Mo_260 (by first | assumption | exact zS0_at (by assumption) (by omega) | exact zS0_at rfl (by omega)) (t_Mo_meet C3.1 (by decide) (show k < 7 by omega) (show m < 7 by omega) hc2) ⟨Nat.le_of_ble_eq_true rfl, Nat.le_of_ble_eq_true rfl, Nat.le_of_ble_eq_true rfl, Nat.le_of_ble_eq_true rfl⟩ (Nat.le_of_ble_eq_true rfl) ?_
      intro w hq
      obtain rfl := hq
      refine z_retv d_Mo_readLane_89 ?_
      exact ⟨_, _, rfl, mP_c (mP_c (mP_c (mP_t hp2 (mP_tk f1)) (by omega)) (by omega)) (by decide), mQ_t hq2 (mQ_tk f2), moC_c C3 (fun k hk => by rw [zu_ne _ _ _ _ (by omega), zu_ne _ _ _ _ (by omega), zu_ne _ _ _ _ (by omega)]) (by rw [zu_row _ _ _ _ (by decide), zu_row _ _ _ _ (by decide), zu_row _ _ _ _ (by decide)]) rfl, moS_lane X3 hb hk hm hc2⟩
    · have hc : k = m := (nI_eq (by omega) (by omega)).mp hc
      rw [if_pos (by rw [hc])] at hy
      refine z_aload_0 d_Mo_readLane_61 ?_
      refine z_iconst (a := nI 5) d_Mo_readLane_62 (by decide) ?_
      refine z_aload_0 d_Mo_readLane_63 ?_
      refine z_getIv d_Mo_readLane_64 f_Mo_119 (by first | assumption | exact zS0_at (by assumption) (by omega) | exact zS0_at rfl (by omega)) (by first | assumption | ((try simp (disch := omega) only [zu_same, zu_ne, zcp_ne, zfl_ne]); first | assumption | rfl)) ?_
      refine z_Vv2 d_Mo_readLane_67 k_Mo_208 (by first | assumption | exact zS0_at (by assumption) (by omega) | exact zS0_at rfl (by omega)) (m_fail0 C2) ⟨Nat.le_of_ble_eq_true rfl, Nat.le_of_ble_eq_true rfl, Nat.le_of_ble_eq_true rfl, Nat.le_of_ble_eq_true rfl⟩ (Nat.le_of_ble_eq_true rfl) ?_
      intro w hq
      obtain rfl := hq
      exact bad70 _ _ _ _ _ hy (moX_B C2 hp2 hq2 ⟨show 0 < 5 by decide, show 5 < 9 by decide⟩)
  · have hb : nl = 12 := (nI_eq (by omega) (by omega)).mp hb
    rw [if_neg (by omega)] at hy
    have hm6 : mB I (6, tst t) 145 12 = nI 6 := by simp [mB, zu]
    rw [← hy]
    refine z_aload_0 d_Mo_readLane_13 ?_
    refine z_bipush (a := nI 6) d_Mo_readLane_14 (by decide) ?_
    refine z_aload_0 d_Mo_readLane_16 ?_
    refine z_getIv d_Mo_readLane_17 f_Mo_119 (by first | assumption | exact zS0_at (by assumption) (by omega) | exact zS0_at rfl (by omega)) (by first | assumption | ((try simp (disch := omega) only [zu_same, zu_ne, zcp_ne, zfl_ne]); first | assumption | rfl)) ?_
    refine z_Vv2 d_Mo_readLane_20 k_Mo_208 (by first | assumption | exact zS0_at (by assumption) (by omega) | exact zS0_at rfl (by omega)) (m_fail0 C) ⟨Nat.le_of_ble_eq_true rfl, Nat.le_of_ble_eq_true rfl, Nat.le_of_ble_eq_true rfl, Nat.le_of_ble_eq_true rfl⟩ (Nat.le_of_ble_eq_true rfl) ?_
    intro w hq
    obtain rfl := hq
    refine z_aload_0 d_Mo_readLane_23 ?_
    refine z_getIv d_Mo_readLane_24 f_Mo_202 (by first | assumption | exact zS0_at (by assumption) (by omega) | exact zS0_at rfl (by omega)) (by first | assumption | ((try simp (disch := omega) only [zu_same, zu_ne, zcp_ne, zfl_ne]); first | assumption | rfl)) ?_
    refine z_if_le (tgt := 31) d_Mo_readLane_27 (by decide) (fun h => absurd h (by decide)) (fun _ => ?_)
    refine z_retv d_Mo_readLane_30 ?_
    exact moX_B C mP_r mQ_r ⟨show 0 < 6 by decide, show 6 < 9 by decide⟩
theorem m_readTin (C : moC T K L 0 I J P S t) (X : moS I J ((nt, np, nl, nn, od), A, B)) : zEv G y_Mo_readTin prog_14_method_66_code 5 8 0 0 [.ref 145] (I, J, P, S) (fun w => pQ (q_tin (tA T L K) ((nt, np, nl, nn, od), A, B) t) (fun e => moX T K L I J P S e w) (fun x => moY T K L I J P S x w)) := by
  have M := C.1
  obtain ⟨M0, ⟨M4, M4s⟩, ⟨M5, M5s⟩, ⟨M6, M6s⟩, ⟨M7, M7s⟩, ⟨M20, M20s⟩, ⟨M21, M21s⟩, ⟨M22, M22s⟩, ⟨M26, M26s⟩, ⟨M27, M27s⟩, ⟨M28, M28s⟩, ⟨M30, M30s⟩, ⟨M34, M34s⟩, ⟨M36, M36s⟩, ⟨M37, M37s⟩⟩ := id M
  obtain ⟨a1, a2, a3, h4, h5, h6, -⟩ := moC_n C
  obtain ⟨x1, y1⟩ := X.1
  obtain ⟨x2, y2⟩ := X.2.1
  obtain ⟨x4, y4⟩ := X.2.2.2.1
  dsimp only at x1 y1 x2 y2 x4 y4
  refine zEv_of (lv := [some (.ref 145), none, none, none, none]) (by decide) rfl (Nat.le_of_ble_eq_true rfl) ?_
  obtain ⟨y, hy⟩ : ∃ y, q_tin (tA T L K) ((nt, np, nl, nn, od), A, B) t = y := ⟨_, rfl⟩
  rw [hy]
  unfold q_tin at hy
  dsimp only at hy
  have bad38 : ∀ (e : Nat × Nat) (Ix : Nat → Nat → Int32) (Jx : Nat → Nat → Int64) (k v u : Int32), Sum.inl e = y → moX T K L I J P S e (Ix, Jx, P, S) → zA G y_Mo_readTin prog_14_method_66_code 5 none (zRm 8 0 0) (zM G 0 0 (fun r w' => r = none ∧ (fun w => pQ (y) (fun e => moX T K L I J P S e w) (fun x => moY T K L I J P S x w)) w')) 38 [some (.ref 145), some (.int k), some (.int v), some (.int u), none] [] (Ix, Jx, P, S) 0 0 := by
    intro e Ix Jx k v u h hX
    rw [← h]
    obtain ⟨I', J', t', hw, q1, q2, q3, q4, q5, q6⟩ := id hX
    cases hw
    obtain ⟨-, -, b3, -⟩ := moC_n q3
    refine z_aload_0 d_Mo_readTin_38 ?_
    refine z_aload_0 d_Mo_readTin_39 ?_
    refine z_Vi0 d_Mo_readTin_40 k_Mo_186 (by first | assumption | exact zS0_at (by assumption) (by omega) | exact zS0_at rfl (by omega)) (m_isLead q3) ⟨Nat.le_of_ble_eq_true rfl, Nat.le_of_ble_eq_true rfl, Nat.le_of_ble_eq_true rfl, Nat.le_of_ble_eq_true rfl⟩ (Nat.le_of_ble_eq_true rfl) ?_
    intro r w hr
    rcases hr with ⟨⟨-, rfl⟩ | ⟨-, rfl⟩, rfl⟩
    · refine z_Vi1 d_Mo_readTin_43 k_Mo_253 (by first | assumption | exact zS0_at (by assumption) (by omega) | exact zS0_at rfl (by omega)) (m_perhz q3 q5 q6) ⟨Nat.le_of_ble_eq_true rfl, Nat.le_of_ble_eq_true rfl, Nat.le_of_ble_eq_true rfl, Nat.le_of_ble_eq_true rfl⟩ (Nat.le_of_ble_eq_true rfl) ?_
      intro r w hr
      obtain ⟨rfl, rfl⟩ := hr
      first | refine z_istore_4 d_Mo_readTin_46 rfl ?_ | (refine z_forget_3 ?_; refine z_istore_4 d_Mo_readTin_46 rfl ?_)
      refine z_aload_0 d_Mo_readTin_48 ?_
      refine z_getIv d_Mo_readTin_49 f_Mo_202 (by first | assumption | exact zS0_at (by assumption) (by omega) | exact zS0_at rfl (by omega)) (by first | assumption | ((try simp (disch := omega) only [zu_same, zu_ne, zcp_ne, zfl_ne]); first | assumption | rfl)) ?_
      refine z_if_ne (tgt := 73) d_Mo_readTin_52 (by decide) (fun _ => ?_) (fun h => absurd h (nz_ne q5 q6))
      refine z_retv d_Mo_readTin_73 ?_
      exact hX
    · refine z_Vi1 d_Mo_readTin_43 k_Mo_253 (by first | assumption | exact zS0_at (by assumption) (by omega) | exact zS0_at rfl (by omega)) (m_perhz q3 q5 q6) ⟨Nat.le_of_ble_eq_true rfl, Nat.le_of_ble_eq_true rfl, Nat.le_of_ble_eq_true rfl, Nat.le_of_ble_eq_true rfl⟩ (Nat.le_of_ble_eq_true rfl) ?_
      intro r w hr
      obtain ⟨rfl, rfl⟩ := hr
      first | refine z_istore_4 d_Mo_readTin_46 rfl ?_ | (refine z_forget_3 ?_; refine z_istore_4 d_Mo_readTin_46 rfl ?_)
      refine z_aload_0 d_Mo_readTin_48 ?_
      refine z_getIv d_Mo_readTin_49 f_Mo_202 (by first | assumption | exact zS0_at (by assumption) (by omega) | exact zS0_at rfl (by omega)) (by first | assumption | ((try simp (disch := omega) only [zu_same, zu_ne, zcp_ne, zfl_ne]); first | assumption | rfl)) ?_
      refine z_if_ne (tgt := 73) d_Mo_readTin_52 (by decide) (fun _ => ?_) (fun h => absurd h (nz_ne q5 q6))
      refine z_retv d_Mo_readTin_73 ?_
      exact hX
  have bad31 : ∀ (e : Nat × Nat) (Ix : Nat → Nat → Int32) (Jx : Nat → Nat → Int64) (k v : Int32), Sum.inl e = y → moX T K L I J P S e (Ix, Jx, P, S) → zA G y_Mo_readTin prog_14_method_66_code 5 none (zRm 8 0 0) (zM G 0 0 (fun r w' => r = none ∧ (fun w => pQ (y) (fun e => moX T K L I J P S e w) (fun x => moY T K L I J P S x w)) w')) 31 [some (.ref 145), some (.int k), some (.int v), none, none] [] (Ix, Jx, P, S) 0 0 := by
    intro e Ix Jx k v h hX
    obtain ⟨I', J', t', hw, q1, q2, q3, q4, q5, q6⟩ := id hX
    cases hw
    refine z_aload_0 d_Mo_readTin_31 ?_
    refine z_iconst (a := nI 4) d_Mo_readTin_32 (by decide) ?_
    refine z_iconst (a := nI 1) d_Mo_readTin_33 (by decide) ?_
    refine z_Vi2 d_Mo_readTin_34 k_Mo_257 (by first | assumption | exact zS0_at (by assumption) (by omega) | exact zS0_at rfl (by omega)) (m_readToldz q3 q5 q6) ⟨Nat.le_of_ble_eq_true rfl, Nat.le_of_ble_eq_true rfl, Nat.le_of_ble_eq_true rfl, Nat.le_of_ble_eq_true rfl⟩ (Nat.le_of_ble_eq_true rfl) ?_
    intro r w hr
    obtain ⟨rfl, rfl⟩ := hr
    first | refine z_istore_3 d_Mo_readTin_37 rfl ?_ | (refine z_forget_2 ?_; refine z_istore_3 d_Mo_readTin_37 rfl ?_)
    exact bad38 e _ _ _ _ _ h hX
  have bad23 : ∀ (e : Nat × Nat) (Ix : Nat → Nat → Int32) (Jx : Nat → Nat → Int64) (k v : Int32), Sum.inl e = y → moX T K L I J P S e (Ix, Jx, P, S) → zA G y_Mo_readTin prog_14_method_66_code 5 none (zRm 8 0 0) (zM G 0 0 (fun r w' => r = none ∧ (fun w => pQ (y) (fun e => moX T K L I J P S e w) (fun x => moY T K L I J P S x w)) w')) 23 [some (.ref 145), some (.int k), some (.int v), none, none] [] (Ix, Jx, P, S) 0 0 := by
    intro e Ix Jx k v h hX
    obtain ⟨I', J', t', hw, q1, q2, q3, q4, q5, q6⟩ := id hX
    cases hw
    refine z_aload_0 d_Mo_readTin_23 ?_
    refine z_aload_0 d_Mo_readTin_24 ?_
    refine z_Vi0 d_Mo_readTin_25 k_Mo_158 (by first | assumption | exact zS0_at (by assumption) (by omega) | exact zS0_at rfl (by omega)) (m_isOn q3) ⟨Nat.le_of_ble_eq_true rfl, Nat.le_of_ble_eq_true rfl, Nat.le_of_ble_eq_true rfl, Nat.le_of_ble_eq_true rfl⟩ (Nat.le_of_ble_eq_true rfl) ?_
    intro r w hr
    rcases hr with ⟨⟨-, rfl⟩ | ⟨-, rfl⟩, rfl⟩
    · refine z_Vv1 d_Mo_readTin_28 k_Mo_239 (by first | assumption | exact zS0_at (by assumption) (by omega) | exact zS0_at rfl (by omega)) (m_mustz q3 q5 q6) ⟨Nat.le_of_ble_eq_true rfl, Nat.le_of_ble_eq_true rfl, Nat.le_of_ble_eq_true rfl, Nat.le_of_ble_eq_true rfl⟩ (Nat.le_of_ble_eq_true rfl) ?_
      intro w hr
      obtain rfl := hr
      exact bad31 e _ _ _ _ h hX
    · refine z_Vv1 d_Mo_readTin_28 k_Mo_239 (by first | assumption | exact zS0_at (by assumption) (by omega) | exact zS0_at rfl (by omega)) (m_mustz q3 q5 q6) ⟨Nat.le_of_ble_eq_true rfl, Nat.le_of_ble_eq_true rfl, Nat.le_of_ble_eq_true rfl, Nat.le_of_ble_eq_true rfl⟩ (Nat.le_of_ble_eq_true rfl) ?_
      intro w hr
      obtain rfl := hr
      exact bad31 e _ _ _ _ h hX
  have bad16 : ∀ (e : Nat × Nat) (Ix : Nat → Nat → Int32) (Jx : Nat → Nat → Int64) (k : Int32), Sum.inl e = y → moX T K L I J P S e (Ix, Jx, P, S) → zA G y_Mo_readTin prog_14_method_66_code 5 none (zRm 8 0 0) (zM G 0 0 (fun r w' => r = none ∧ (fun w => pQ (y) (fun e => moX T K L I J P S e w) (fun x => moY T K L I J P S x w)) w')) 16 [some (.ref 145), some (.int k), none, none, none] [] (Ix, Jx, P, S) 0 0 := by
    intro e Ix Jx k h hX
    obtain ⟨I', J', t', hw, q1, q2, q3, q4, q5, q6⟩ := id hX
    cases hw
    refine z_aload_0 d_Mo_readTin_16 ?_
    refine z_iconst (a := nI 4) d_Mo_readTin_17 (by decide) ?_
    refine z_iconst (a := nI 0) d_Mo_readTin_18 (by decide) ?_
    refine z_Vi2 d_Mo_readTin_19 k_Mo_257 (by first | assumption | exact zS0_at (by assumption) (by omega) | exact zS0_at rfl (by omega)) (m_readToldz q3 q5 q6) ⟨Nat.le_of_ble_eq_true rfl, Nat.le_of_ble_eq_true rfl, Nat.le_of_ble_eq_true rfl, Nat.le_of_ble_eq_true rfl⟩ (Nat.le_of_ble_eq_true rfl) ?_
    intro r w hr
    obtain ⟨rfl, rfl⟩ := hr
    first | refine z_istore_2 d_Mo_readTin_22 rfl ?_ | (refine z_forget_1 ?_; refine z_istore_2 d_Mo_readTin_22 rfl ?_)
    exact bad23 e _ _ _ _ h hX
  refine z_aload_0 d_Mo_readTin_0 ?_
  refine z_iconst (a := nI 3) d_Mo_readTin_1 (by decide) ?_
  refine z_bipush (a := nI 9) d_Mo_readTin_2 (by decide) ?_
  refine z_Vi2 d_Mo_readTin_4 k_Mo_250 (by first | assumption | exact zS0_at (by assumption) (by omega) | exact zS0_at rfl (by omega)) (m_readNew (off := 13) (n := nn) C X (Or.inr (Or.inr ⟨rfl, rfl, rfl, rfl⟩))) ⟨Nat.le_of_ble_eq_true rfl, Nat.le_of_ble_eq_true rfl, Nat.le_of_ble_eq_true rfl, Nat.le_of_ble_eq_true rfl⟩ (Nat.le_of_ble_eq_true rfl) ?_
  intro r w hq
  rcases hx : (if nn < 9 then p_newn (tA T L K) ((nt, np, nl, nn, od), A, B) (tA T L K t) else .inl (6, tst t)) with e | v <;> rw [hx] at hq hy <;> dsimp only [pb] at hy
  · obtain ⟨rfl, hq⟩ := hq
    obtain ⟨I', J', t', rfl, q1, q2, q3, q4, q5, q6⟩ := id hq
    first | refine z_istore_1 d_Mo_readTin_7 rfl ?_ | (refine z_forget_0 ?_; refine z_istore_1 d_Mo_readTin_7 rfl ?_)
    refine z_aload_0 d_Mo_readTin_8 ?_
    refine z_aload_0 d_Mo_readTin_9 ?_
    refine z_Vi0 d_Mo_readTin_10 k_Mo_183 (by first | assumption | exact zS0_at (by assumption) (by omega) | exact zS0_at rfl (by omega)) (m_isOf q3) ⟨Nat.le_of_ble_eq_true rfl, Nat.le_of_ble_eq_true rfl, Nat.le_of_ble_eq_true rfl, Nat.le_of_ble_eq_true rfl⟩ (Nat.le_of_ble_eq_true rfl) ?_
    intro r w hr
    rcases hr with ⟨⟨-, rfl⟩ | ⟨-, rfl⟩, rfl⟩
    · refine z_Vv1 d_Mo_readTin_13 k_Mo_239 (by first | assumption | exact zS0_at (by assumption) (by omega) | exact zS0_at rfl (by omega)) (m_mustz q3 q5 q6) ⟨Nat.le_of_ble_eq_true rfl, Nat.le_of_ble_eq_true rfl, Nat.le_of_ble_eq_true rfl, Nat.le_of_ble_eq_true rfl⟩ (Nat.le_of_ble_eq_true rfl) ?_
      intro w hr
      obtain rfl := hr
      exact bad16 e _ _ _ hy hq
    · refine z_Vv1 d_Mo_readTin_13 k_Mo_239 (by first | assumption | exact zS0_at (by assumption) (by omega) | exact zS0_at rfl (by omega)) (m_mustz q3 q5 q6) ⟨Nat.le_of_ble_eq_true rfl, Nat.le_of_ble_eq_true rfl, Nat.le_of_ble_eq_true rfl, Nat.le_of_ble_eq_true rfl⟩ (Nat.le_of_ble_eq_true rfl) ?_
      intro w hr
      obtain rfl := hr
      exact bad16 e _ _ _ hy hq
  obtain ⟨rfl, hlt, I1, J1, rfl, h1, h2, C1⟩ := hq
  have hp1 : mP I I1 := mP_tk h1
  have hq1 : mQ J J1 := mQ_t (mQ_c mQ_r (by omega)) (mQ_tk h2)
  have hj : ∀ k, J1 152 k = zu J 152 (101 + nn) v.1 152 k := fun k => by rw [h2.1 152 (by decide)]
  have X1 : moS I1 J1 ((nt, np, nl, nn, od), A, B) := moS_j (i := 101 + nn) X (h1.1 _ (by decide)) (h1.2 _ (by decide)) (fun k hk => by rw [hj, zu_ne _ _ _ _ (by omega)]) ⟨fun k hk => by omega, fun k hk => by omega, fun k hk => by omega⟩
  have hJ1 : J1 152 (101 + nn) = v.1 := by rw [hj, zu_same]
  first | refine z_istore_1 d_Mo_readTin_7 rfl ?_ | (refine z_forget_0 ?_; refine z_istore_1 d_Mo_readTin_7 rfl ?_)
  refine z_aload_0 d_Mo_readTin_8 ?_
  refine z_aload_0 d_Mo_readTin_9 ?_
  refine z_Vi0 d_Mo_readTin_10 k_Mo_183 (by first | assumption | exact zS0_at (by assumption) (by omega) | exact zS0_at rfl (by omega)) (m_isOf C1) ⟨Nat.le_of_ble_eq_true rfl, Nat.le_of_ble_eq_true rfl, Nat.le_of_ble_eq_true rfl, Nat.le_of_ble_eq_true rfl⟩ (Nat.le_of_ble_eq_true rfl) ?_
  intro r w hq
  rcases hq with ⟨⟨hk, rfl⟩ | ⟨hk, rfl⟩, rfl⟩
  rotate_left
  · have e1 : p_word (tA T L K) (nI 7) v.2 = .inl (p_mis v.2) := by unfold p_word; rw [if_neg hk]
    rw [e1] at hy
    dsimp only [pb] at hy
    refine z_Vv1 d_Mo_readTin_13 k_Mo_239 (by first | assumption | exact zS0_at (by assumption) (by omega) | exact zS0_at rfl (by omega)) (m_must0 C1) ⟨Nat.le_of_ble_eq_true rfl, Nat.le_of_ble_eq_true rfl, Nat.le_of_ble_eq_true rfl, Nat.le_of_ble_eq_true rfl⟩ (Nat.le_of_ble_eq_true rfl) ?_
    intro w hq
    obtain rfl := hq
    exact bad16 _ _ _ _ hy (moX_B C1 hp1 hq1 p_mis_b)
  have e1 : p_word (tA T L K) (nI 7) v.2 = .inr (tA T L K v.2) := by unfold p_word; rw [if_pos hk]
  rw [e1] at hy
  dsimp only [pb] at hy
  refine z_Vv1 d_Mo_readTin_13 k_Mo_239 (by first | assumption | exact zS0_at (by assumption) (by omega) | exact zS0_at rfl (by omega)) (m_must1 C1) ⟨Nat.le_of_ble_eq_true rfl, Nat.le_of_ble_eq_true rfl, Nat.le_of_ble_eq_true rfl, Nat.le_of_ble_eq_true rfl⟩ (Nat.le_of_ble_eq_true rfl) ?_
  intro w hq
  obtain ⟨I2, J2, rfl, g1, g2, C2⟩ := hq
  have hp2 : mP I I2 := mP_t hp1 (mP_tk g1)
  have hq2 : mQ J J2 := mQ_t hq1 (mQ_tk g2)
  have X2 := moS_tk X1 g1 g2
  have hJ2 : J2 152 (101 + nn) = v.1 := by rw [g2.1 152 (by decide)]; exact hJ1
  have e3 := (moS_kn (t := tA T L K v.2) X2).1
  dsimp only at e3
  rw [← e3] at hy
  refine z_aload_0 d_Mo_readTin_16 ?_
  refine z_iconst (a := nI 4) d_Mo_readTin_17 (by decide) ?_
  refine z_iconst (a := nI 0) d_Mo_readTin_18 (by decide) ?_
  refine z_Vi2 d_Mo_readTin_19 k_Mo_257 (by first | assumption | exact zS0_at (by assumption) (by omega) | exact zS0_at rfl (by omega)) (m_readTold0 (c := 4) (so := 0) (off := 0) (n := nt) C2 (by decide) (Or.inl ⟨rfl, rfl⟩) X2.1.1 (by omega)) ⟨Nat.le_of_ble_eq_true rfl, Nat.le_of_ble_eq_true rfl, Nat.le_of_ble_eq_true rfl, Nat.le_of_ble_eq_true rfl⟩ (Nat.le_of_ble_eq_true rfl) ?_
  intro r w hq
  rcases hx3 : p_known (fun k => J2 152 (22 * 4 + 0 + k)) nt (tA T L K v.2) with e | k <;> rw [hx3] at hq hy <;> dsimp only [pb] at hy
  · obtain ⟨rfl, rfl, e2⟩ := hq
    first | refine z_istore_2 d_Mo_readTin_22 rfl ?_ | (refine z_forget_1 ?_; refine z_istore_2 d_Mo_readTin_22 rfl ?_)
    exact bad23 e _ _ _ _ hy (moX_B C2 hp2 hq2 e2)
  obtain ⟨rfl, I3, J3, rfl, f1, f2, C3⟩ := hq
  obtain ⟨k, hkk, rfl, -⟩ := p_known_c hx3
  have X3 := moS_tk X2 f1 f2
  have hp3 : mP I I3 := mP_t hp2 (mP_tk f1)
  have hq3 : mQ J J3 := mQ_t hq2 (mQ_tk f2)
  have hJ3 : J3 152 (101 + nn) = v.1 := by rw [f2.1 152 (by decide)]; exact hJ2
  first | refine z_istore_2 d_Mo_readTin_22 rfl ?_ | (refine z_forget_1 ?_; refine z_istore_2 d_Mo_readTin_22 rfl ?_)
  refine z_aload_0 d_Mo_readTin_23 ?_
  refine z_aload_0 d_Mo_readTin_24 ?_
  refine z_Vi0 d_Mo_readTin_25 k_Mo_158 (by first | assumption | exact zS0_at (by assumption) (by omega) | exact zS0_at rfl (by omega)) (m_isOn C3) ⟨Nat.le_of_ble_eq_true rfl, Nat.le_of_ble_eq_true rfl, Nat.le_of_ble_eq_true rfl, Nat.le_of_ble_eq_true rfl⟩ (Nat.le_of_ble_eq_true rfl) ?_
  intro r w hq
  rcases hq with ⟨⟨hk4, rfl⟩ | ⟨hk4, rfl⟩, rfl⟩
  rotate_left
  · have e4 : p_word (tA T L K) (nI 8) (tA T L K (tA T L K v.2)) = .inl (p_mis (tA T L K (tA T L K v.2))) := by unfold p_word; rw [if_neg hk4]
    rw [e4] at hy
    dsimp only [pb] at hy
    refine z_Vv1 d_Mo_readTin_28 k_Mo_239 (by first | assumption | exact zS0_at (by assumption) (by omega) | exact zS0_at rfl (by omega)) (m_must0 C3) ⟨Nat.le_of_ble_eq_true rfl, Nat.le_of_ble_eq_true rfl, Nat.le_of_ble_eq_true rfl, Nat.le_of_ble_eq_true rfl⟩ (Nat.le_of_ble_eq_true rfl) ?_
    intro w hq
    obtain rfl := hq
    exact bad31 _ _ _ _ _ hy (moX_B C3 hp3 hq3 p_mis_b)
  have e4 : p_word (tA T L K) (nI 8) (tA T L K (tA T L K v.2)) = .inr (tA T L K (tA T L K (tA T L K v.2))) := by unfold p_word; rw [if_pos hk4]
  rw [e4] at hy
  dsimp only [pb] at hy
  refine z_Vv1 d_Mo_readTin_28 k_Mo_239 (by first | assumption | exact zS0_at (by assumption) (by omega) | exact zS0_at rfl (by omega)) (m_must1 C3) ⟨Nat.le_of_ble_eq_true rfl, Nat.le_of_ble_eq_true rfl, Nat.le_of_ble_eq_true rfl, Nat.le_of_ble_eq_true rfl⟩ (Nat.le_of_ble_eq_true rfl) ?_
  intro w hq
  obtain ⟨I4, J4, rfl, d1, d2, C4⟩ := hq
  have hp4 : mP I I4 := mP_t hp3 (mP_tk d1)
  have hq4 : mQ J J4 := mQ_t hq3 (mQ_tk d2)
  have X4 := moS_tk X3 d1 d2
  have hJ4 : J4 152 (101 + nn) = v.1 := by rw [d2.1 152 (by decide)]; exact hJ3
  generalize tA T L K (tA T L K (tA T L K v.2)) = t2 at hy C4
  have e5 := (moS_kn (t := t2) X4).2
  dsimp only at e5
  rw [← e5] at hy
  refine z_aload_0 d_Mo_readTin_31 ?_
  refine z_iconst (a := nI 4) d_Mo_readTin_32 (by decide) ?_
  refine z_iconst (a := nI 1) d_Mo_readTin_33 (by decide) ?_
  refine z_Vi2 d_Mo_readTin_34 k_Mo_257 (by first | assumption | exact zS0_at (by assumption) (by omega) | exact zS0_at rfl (by omega)) (m_readTold0 (c := 4) (so := 1) (off := 6) (n := np) C4 (by decide) (Or.inr (Or.inl ⟨rfl, rfl⟩)) X4.2.1.1 (by omega)) ⟨Nat.le_of_ble_eq_true rfl, Nat.le_of_ble_eq_true rfl, Nat.le_of_ble_eq_true rfl, Nat.le_of_ble_eq_true rfl⟩ (Nat.le_of_ble_eq_true rfl) ?_
  intro r w hq
  rcases hx6 : p_known (fun k => J4 152 (22 * 4 + 6 + k)) np t2 with e | p <;> rw [hx6] at hq hy <;> dsimp only [pb] at hy
  · obtain ⟨rfl, rfl, e2⟩ := hq
    first | refine z_istore_3 d_Mo_readTin_37 rfl ?_ | (refine z_forget_2 ?_; refine z_istore_3 d_Mo_readTin_37 rfl ?_)
    exact bad38 e _ _ _ _ _ hy (moX_B C4 hp4 hq4 e2)
  obtain ⟨rfl, I5, J5, rfl, b1, b2, C5⟩ := hq
  obtain ⟨p, hpp, rfl, -⟩ := p_known_c hx6
  have X5 := moS_tk X4 b1 b2
  have hp5 : mP I I5 := mP_t hp4 (mP_tk b1)
  have hq5 : mQ J J5 := mQ_t hq4 (mQ_tk b2)
  have hJ5 : J5 152 (101 + nn) = v.1 := by rw [b2.1 152 (by decide)]; exact hJ4
  first | refine z_istore_3 d_Mo_readTin_37 rfl ?_ | (refine z_forget_2 ?_; refine z_istore_3 d_Mo_readTin_37 rfl ?_)
  refine z_aload_0 d_Mo_readTin_38 ?_
  refine z_aload_0 d_Mo_readTin_39 ?_
  refine z_Vi0 d_Mo_readTin_40 k_Mo_186 (by first | assumption | exact zS0_at (by assumption) (by omega) | exact zS0_at rfl (by omega)) (m_isLead C5) ⟨Nat.le_of_ble_eq_true rfl, Nat.le_of_ble_eq_true rfl, Nat.le_of_ble_eq_true rfl, Nat.le_of_ble_eq_true rfl⟩ (Nat.le_of_ble_eq_true rfl) ?_
  intro r w hq
  rcases hq with ⟨⟨hl, rfl⟩ | ⟨hl, rfl⟩, rfl⟩
  · rw [if_pos hl, decide_eq_true hl] at hy
    rw [← hy]
    refine z_Vi1 d_Mo_readTin_43 k_Mo_253 (by first | assumption | exact zS0_at (by assumption) (by omega) | exact zS0_at rfl (by omega)) (m_perh1 C5) ⟨Nat.le_of_ble_eq_true rfl, Nat.le_of_ble_eq_true rfl, Nat.le_of_ble_eq_true rfl, Nat.le_of_ble_eq_true rfl⟩ (Nat.le_of_ble_eq_true rfl) ?_
    intro r w hq
    obtain ⟨rfl, I6, J6, rfl, u1, u2, C6⟩ := hq
    have X6 := moS_tk X5 u1 u2
    have hJ6 : J6 152 (101 + nn) = v.1 := by rw [u2.1 152 (by decide)]; exact hJ5
    obtain ⟨-, -, z3, -⟩ := moC_n C6
    first | refine z_istore_4 d_Mo_readTin_46 rfl ?_ | (refine z_forget_3 ?_; refine z_istore_4 d_Mo_readTin_46 rfl ?_)
    refine z_aload_0 d_Mo_readTin_48 ?_
    refine z_getIv d_Mo_readTin_49 f_Mo_202 (by first | assumption | exact zS0_at (by assumption) (by omega) | exact zS0_at rfl (by omega)) (by first | assumption | ((try simp (disch := omega) only [zu_same, zu_ne, zcp_ne, zfl_ne]); first | assumption | rfl)) ?_
    refine z_if_ne (tgt := 73) d_Mo_readTin_52 (by decide) (fun h => absurd (by decide) h) (fun _ => ?_)
    refine z_aload_0 d_Mo_readTin_55 ?_
    refine z_iconst (a := nI 4) d_Mo_readTin_56 (by decide) ?_
    refine z_iload_1 d_Mo_readTin_57 ?_
    refine z_iload_2 d_Mo_readTin_58 ?_
    refine z_iload_3 d_Mo_readTin_59 ?_
    refine z_iload_4 d_Mo_readTin_60 ?_
    refine z_if_eq (tgt := 69) d_Mo_readTin_62 (by decide) (fun h => absurd h (by decide)) (fun _ => ?_)
    refine z_iconst (a := nI 1) d_Mo_readTin_65 (by decide) ?_
    refine z_goto (tgt := 70) d_Mo_readTin_66 (by decide) ?_
    refine z_Vv5 d_Mo_readTin_70 k_Mo_264 (by first | assumption | exact zS0_at (by assumption) (by omega) | exact zS0_at rfl (by omega)) (t_Mo_strikes (c := 4) (t := nn) C6.1 (by decide) (by omega)) ⟨Nat.le_of_ble_eq_true rfl, Nat.le_of_ble_eq_true rfl, Nat.le_of_ble_eq_true rfl, Nat.le_of_ble_eq_true rfl⟩ (Nat.le_of_ble_eq_true rfl) ?_
    intro w hq
    obtain rfl := hq
    refine z_retv d_Mo_readTin_73 ?_
    exact ⟨_, _, rfl, mP_strikes (mP_t hp5 (mP_tk u1)), mQ_t hq5 (mQ_tk u2), moC_c C6 (fun k hk => by rw [strikes_row (by decide)]) (strikes_row (by decide)) rfl, moS_tin (ld := true) X6 hlt hJ6⟩
  · rw [if_neg hl, decide_eq_false hl] at hy
    rw [← hy]
    refine z_Vi1 d_Mo_readTin_43 k_Mo_253 (by first | assumption | exact zS0_at (by assumption) (by omega) | exact zS0_at rfl (by omega)) (m_perh0 C5) ⟨Nat.le_of_ble_eq_true rfl, Nat.le_of_ble_eq_true rfl, Nat.le_of_ble_eq_true rfl, Nat.le_of_ble_eq_true rfl⟩ (Nat.le_of_ble_eq_true rfl) ?_
    intro r w hq
    obtain ⟨rfl, rfl⟩ := hq
    obtain ⟨-, -, z3, -⟩ := moC_n C5
    first | refine z_istore_4 d_Mo_readTin_46 rfl ?_ | (refine z_forget_3 ?_; refine z_istore_4 d_Mo_readTin_46 rfl ?_)
    refine z_aload_0 d_Mo_readTin_48 ?_
    refine z_getIv d_Mo_readTin_49 f_Mo_202 (by first | assumption | exact zS0_at (by assumption) (by omega) | exact zS0_at rfl (by omega)) (by first | assumption | ((try simp (disch := omega) only [zu_same, zu_ne, zcp_ne, zfl_ne]); first | assumption | rfl)) ?_
    refine z_if_ne (tgt := 73) d_Mo_readTin_52 (by decide) (fun h => absurd (by decide) h) (fun _ => ?_)
    refine z_aload_0 d_Mo_readTin_55 ?_
    refine z_iconst (a := nI 4) d_Mo_readTin_56 (by decide) ?_
    refine z_iload_1 d_Mo_readTin_57 ?_
    refine z_iload_2 d_Mo_readTin_58 ?_
    refine z_iload_3 d_Mo_readTin_59 ?_
    refine z_iload_4 d_Mo_readTin_60 ?_
    refine z_if_eq (tgt := 69) d_Mo_readTin_62 (by decide) (fun _ => ?_) (fun h => absurd (by decide) h)
    refine z_iconst (a := nI 0) d_Mo_readTin_69 (by decide) ?_
    refine z_Vv5 d_Mo_readTin_70 k_Mo_264 (by first | assumption | exact zS0_at (by assumption) (by omega) | exact zS0_at rfl (by omega)) (t_Mo_strikes (c := 4) (t := nn) C5.1 (by decide) (by omega)) ⟨Nat.le_of_ble_eq_true rfl, Nat.le_of_ble_eq_true rfl, Nat.le_of_ble_eq_true rfl, Nat.le_of_ble_eq_true rfl⟩ (Nat.le_of_ble_eq_true rfl) ?_
    intro w hq
    obtain rfl := hq
    refine z_retv d_Mo_readTin_73 ?_
    exact ⟨_, _, rfl, mP_strikes hp5, hq5, moC_c C5 (fun k hk => by rw [strikes_row (by decide)]) (strikes_row (by decide)) rfl, moS_tin (ld := false) X5 hlt hJ5⟩
end MF4
