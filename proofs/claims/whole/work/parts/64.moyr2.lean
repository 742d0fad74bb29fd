/-! the reference's reader of YEARS: the rest of a step -/
section MY1
variable {G : zG} {I I1 I2 : Nat → Nat → Int32} {J J1 J2 : Nat → Nat → Int64} {P : Nat → Nat → Option Nat} {S : List (Nat × Nat)} {L x : Nat} {a b : Int32} {T : Nat → Int32} {K : Nat → Int64} {t : tk} {z : Nat} {n : yN}
theorem m_readRest (C : moC T K L 0 I J P S (tA T L K t)) (N : myN I J n) (hkc : tkw t = -1 ∨ ∃ k, k < 21 ∧ tkw t = nI k) (hwd : y_word t) (hx : 1436 ≤ x ∧ x ≤ 1786) (h0 : I 150 x = s_stw (tkw t)) : zEv G y_Mo_readRest prog_14_method_70_code 3 9 0 0 [.ref 145, .int (nI x)] (I, J, P, S) (fun w => pQ (y_rest (tA T L K) n t) (fun e => moX T K L I J P S e w) (fun v => moV T K L x n t I J P S v w)) := by
  have M := C.1
  obtain ⟨M0, ⟨M4, M4s⟩, ⟨M5, M5s⟩, ⟨M6, M6s⟩, ⟨M7, M7s⟩, ⟨M20, M20s⟩, ⟨M21, M21s⟩, ⟨M22, M22s⟩, ⟨M26, M26s⟩, ⟨M27, M27s⟩, ⟨M28, M28s⟩, ⟨M30, M30s⟩, ⟨M34, M34s⟩, ⟨M36, M36s⟩, ⟨M37, M37s⟩⟩ := id M
  obtain ⟨a1, a2, a3, h4, h5, h6, -⟩ := moC_n C
  obtain ⟨⟨b1, b1b⟩, ⟨b2, b2b⟩, ⟨b3, b3b⟩, b4, b5, b6⟩ := id N
  refine zEv_of (lv := [some (.ref 145), some (.int (nI x)), none]) (by decide) rfl (Nat.le_of_ble_eq_true rfl) ?_
  have hk : tkw t = nI 10 ∨ tkw t = nI 11 ∨ tkw t = nI 12 ∨ tkw t = nI 13 ∨ tkw t = nI 14 ∨ tkw t = nI 15 ∨ tkw t = nI 18 ∨ tkw t = nI 20 := by
    rcases hwd with (h | h) | h | h
    · simp [h]
    · simp [h]
    · simp [h]
    · rcases hkc with h' | ⟨k, hk, h'⟩
      · rw [h'] at h; exact absurd h (by decide)
      · rw [h', nI_leI (by omega) (by omega), nI_leI (by omega) (by omega)] at h
        rw [h']
        rcases (show k = 10 ∨ k = 11 ∨ k = 12 ∨ k = 13 ∨ k = 14 by omega) with rfl | rfl | rfl | rfl | rfl <;> simp
  obtain ⟨y, hy⟩ : ∃ y, y_rest (tA T L K) n t = y := ⟨_, rfl⟩
  rw [hy]
  by_cases h15 : tkw t = nI 15
  · have h0 : I 150 x = nI 5 := by rw [h0, h15]; decide
    refine z_aload_0 d_Mo_readRest_0 ?_
    refine z_getR d_Mo_readRest_1 f_Mo_35 (by first | assumption | exact zS0_at (by assumption) (by omega) | exact zS0_at rfl (by omega)) (by first | assumption | exact zS0_at (by assumption) (by omega) | exact zS0_at rfl (by omega)) ?_
    refine z_iload_1 d_Mo_readRest_4 ?_
    first | refine z_ialdNv d_Mo_readRest_5 (by first | assumption | exact zS0_at (by assumption) (by omega) | exact zS0_at rfl (by omega)) (by omega) (by first | decide | omega) (by first | assumption | ((try simp (disch := omega) only [zu_same, zu_ne, zcp_ne, zfl_ne]); first | assumption | rfl)) ?_ | refine z_iald d_Mo_readRest_5 (by first | assumption | exact zS0_at (by assumption) (by omega) | exact zS0_at rfl (by omega)) (by first | assumption | exact zS0_at (by assumption) (by omega) | exact zS0_at rfl (by omega)) ?_
    first | refine z_istore_2 d_Mo_readRest_6 rfl ?_ | (refine z_forget_1 ?_; refine z_istore_2 d_Mo_readRest_6 rfl ?_)
    refine z_iload_2 d_Mo_readRest_7 ?_
    refine z_bipush (a := nI 6) d_Mo_readRest_8 (by decide) ?_
    refine z_icmp_ne (tgt := 31) d_Mo_readRest_10 (by decide) (fun _ => ?_) (fun h => absurd h (by decide))
    refine z_iload_2 d_Mo_readRest_31 ?_
    refine z_iconst (a := nI 5) d_Mo_readRest_32 (by decide) ?_
    refine z_icmp_ne (tgt := 44) d_Mo_readRest_33 (by decide) (fun h => absurd (by decide) h) (fun _ => ?_)
    refine z_aload_0 d_Mo_readRest_36 ?_
    refine z_iload_1 d_Mo_readRest_37 ?_
    refine z_Vv1 d_Mo_readRest_38 k_Mo_298 (by first | assumption | exact zS0_at (by assumption) (by omega) | exact zS0_at rfl (by omega)) (m_readTest (t := t) C N h15 hx h0) ⟨Nat.le_of_ble_eq_true rfl, Nat.le_of_ble_eq_true rfl, Nat.le_of_ble_eq_true rfl, Nat.le_of_ble_eq_true rfl⟩ (Nat.le_of_ble_eq_true rfl) ?_
    rw [hy]
    intro w hq
    rcases y with e | v
    · obtain ⟨I', J', t', rfl, hq⟩ := hq
      refine z_goto (tgt := 121) d_Mo_readRest_41 (by decide) ?_
      refine z_retv d_Mo_readRest_121 ?_
      exact ⟨I', J', t', rfl, hq⟩
    · obtain ⟨I', J', rfl, hq⟩ := hq
      refine z_goto (tgt := 121) d_Mo_readRest_41 (by decide) ?_
      refine z_retv d_Mo_readRest_121 ?_
      exact ⟨I', J', rfl, hq⟩
  unfold y_rest y_op at hy
  rw [if_neg h15] at hy
  dsimp only [pb] at hy
  by_cases h18 : tkw t = nI 18
  · have h0 : I 150 x = nI 6 := by rw [h0, h18]; decide
    have ho : y_opens t := Or.inr h18
    rw [h18] at hy
    have e1 : y_first (tA T L K) n (nI 18) (tA T L K t) = p_numb (tA T L K) (nI 1) (nI 99) (tA T L K t) := by unfold y_first; rw [if_neg (by decide), if_neg (by decide), if_pos (by decide)]
    rw [e1] at hy
    refine z_aload_0 d_Mo_readRest_0 ?_
    refine z_getR d_Mo_readRest_1 f_Mo_35 (by first | assumption | exact zS0_at (by assumption) (by omega) | exact zS0_at rfl (by omega)) (by first | assumption | exact zS0_at (by assumption) (by omega) | exact zS0_at rfl (by omega)) ?_
    refine z_iload_1 d_Mo_readRest_4 ?_
    first | refine z_ialdNv d_Mo_readRest_5 (by first | assumption | exact zS0_at (by assumption) (by omega) | exact zS0_at rfl (by omega)) (by omega) (by first | decide | omega) (by first | assumption | ((try simp (disch := omega) only [zu_same, zu_ne, zcp_ne, zfl_ne]); first | assumption | rfl)) ?_ | refine z_iald d_Mo_readRest_5 (by first | assumption | exact zS0_at (by assumption) (by omega) | exact zS0_at rfl (by omega)) (by first | assumption | exact zS0_at (by assumption) (by omega) | exact zS0_at rfl (by omega)) ?_
    first | refine z_istore_2 d_Mo_readRest_6 rfl ?_ | (refine z_forget_1 ?_; refine z_istore_2 d_Mo_readRest_6 rfl ?_)
    refine z_iload_2 d_Mo_readRest_7 ?_
    refine z_bipush (a := nI 6) d_Mo_readRest_8 (by decide) ?_
    refine z_icmp_ne (tgt := 31) d_Mo_readRest_10 (by decide) (fun h => absurd (by decide) h) (fun _ => ?_)
    refine z_aload_0 d_Mo_readRest_13 ?_
    refine z_getR d_Mo_readRest_14 f_Mo_35 (by first | assumption | exact zS0_at (by assumption) (by omega) | exact zS0_at rfl (by omega)) (by first | assumption | exact zS0_at (by assumption) (by omega) | exact zS0_at rfl (by omega)) ?_
    refine z_iload_1 d_Mo_readRest_17 ?_
    refine z_iconst (a := nI 1) d_Mo_readRest_18 (by decide) ?_
    first | refine z_iaddN d_Mo_readRest_19 ?_ | refine z_iadd d_Mo_readRest_19 ?_
    refine z_aload_0 d_Mo_readRest_20 ?_
    refine z_iconst (a := nI 1) d_Mo_readRest_21 (by decide) ?_
    refine z_bipush (a := nI 99) d_Mo_readRest_22 (by decide) ?_
    refine z_Vi2 d_Mo_readRest_24 k_Mo_247 (by first | assumption | exact zS0_at (by assumption) (by omega) | exact zS0_at rfl (by omega)) (m_count0 C) ⟨Nat.le_of_ble_eq_true rfl, Nat.le_of_ble_eq_true rfl, Nat.le_of_ble_eq_true rfl, Nat.le_of_ble_eq_true rfl⟩ (Nat.le_of_ble_eq_true rfl) ?_
    intro r w hr
    rcases hx2 : p_numb (tA T L K) (nI 1) (nI 99) (tA T L K t) with e | v <;> rw [hx2] at hr hy <;> dsimp only [pb] at hy
    · obtain ⟨rfl, rfl, e2⟩ := hr
      rw [← hy]
      first | refine z_iastN d_Mo_readRest_27 (by first | assumption | exact zS0_at (by assumption) (by omega) | exact zS0_at rfl (by omega)) (by omega) (by first | decide | omega) ?_ | refine z_iast d_Mo_readRest_27 (by first | assumption | exact zS0_at (by assumption) (by omega) | exact zS0_at rfl (by omega)) (by first | assumption | exact zS0_at (by assumption) (by omega) | exact zS0_at rfl (by omega)) ?_
      refine z_goto (tgt := 121) d_Mo_readRest_28 (by decide) ?_
      refine z_retv d_Mo_readRest_121 ?_
      exact moX_z (moX_B C mP_r mQ_r e2) (by omega)
    · obtain ⟨rfl, I5, J5, rfl, l1, l2, C5⟩ := hr
      obtain ⟨m, hm1, hm2, hm3, -⟩ := p_numb_d (by decide) (by decide) hx2
      have e150d := l1.1 150 (by decide)
      have ec : y_cmp (tA T L K) (nI 18) v.2 = .inr (nI 18, v.2) := by unfold y_cmp; rw [if_neg (by decide)]
      have e3 : y_second (tA T L K) n (nI 18) v.2 = .inr (nI 0, v.2) := by unfold y_second; rw [if_neg (by decide), if_neg (by decide), if_neg (by decide)]
      rw [ec] at hy
      dsimp only [pb] at hy
      rw [e3] at hy
      dsimp only [pb] at hy
      rw [← hy]
      first | refine z_iastN d_Mo_readRest_27 (by first | assumption | exact zS0_at (by assumption) (by omega) | exact zS0_at rfl (by omega)) (by omega) (by first | decide | omega) ?_ | refine z_iast d_Mo_readRest_27 (by first | assumption | exact zS0_at (by assumption) (by omega) | exact zS0_at rfl (by omega)) (by first | assumption | exact zS0_at (by assumption) (by omega) | exact zS0_at rfl (by omega)) ?_
      refine z_goto (tgt := 121) d_Mo_readRest_28 (by decide) ?_
      refine z_retv d_Mo_readRest_121 ?_
      refine ⟨_, _, rfl, mR_c (mR_tk l1) (by omega), l2, moC_z C5, Or.inr ⟨ho, fun A Q i s f1 f2 f3 f4 => Or.inl ⟨m, hm1, hm2, f1, ?_, f2.trans hm3, ?_⟩⟩⟩
      · rw [f4 0 (by decide)]; simp (disch := omega) only [zu_ne, e150d]; exact h0
      · rw [f4 1 (by decide)]; simp (disch := omega) only [zu_same]; exact hm3
  have hno : ¬ y_opens t := by rintro (h | h); exact h15 h; exact h18 h
  by_cases hn0 : tkw t = nI 14 ∨ tkw t = nI 20
  · have e1 : y_first (tA T L K) n (tkw t) (tA T L K t) = .inr (nI 0, tA T L K t) := by
      unfold y_first
      rcases hn0 with h | h <;> rw [h, if_neg (by decide), if_neg (by decide), if_neg (by decide)]
    have ec : y_cmp (tA T L K) (tkw t) (tA T L K t) = .inr (tkw t, tA T L K t) := by
      unfold y_cmp
      rcases hn0 with h | h <;> rw [h, if_neg (by decide)]
    have e3 : y_second (tA T L K) n (tkw t) (tA T L K t) = .inr (nI 0, tA T L K t) := by
      unfold y_second
      rcases hn0 with h | h <;> rw [h, if_neg (by decide), if_neg (by decide), if_neg (by decide)]
    rw [e1] at hy
    dsimp only [pb] at hy
    rw [ec] at hy
    dsimp only [pb] at hy
    rw [e3] at hy
    dsimp only [pb] at hy
    rw [← hy]
    have fin : ∀ j : Nat, (j = 4 ∧ tkw t = nI 14 ∨ j = 7 ∧ tkw t = nI 20) → I 150 x = nI j → moV T K L x n t I J P S ((tkw t, nI 0, nI 0), tA T L K t) (I, J, P, S) := by
      intro j hj hxj
      refine ⟨_, _, rfl, mR_r, mJ_r, C, Or.inl ⟨hno, fun A Q i s f1 f2 f3 f4 => ?_⟩⟩
      have g0 : Q s 0 = nI j := (f4 0 (by decide)).trans hxj
      rcases hj with ⟨rfl, h⟩ | ⟨rfl, h⟩
      · exact Or.inr (Or.inr (Or.inr (Or.inl ⟨f1.trans h, g0⟩)))
      · exact Or.inr (Or.inr (Or.inr (Or.inr ⟨f1.trans h, g0⟩)))
    rcases hn0 with h | h
    · have h0 : I 150 x = nI 4 := by rw [h0, h]; decide
      refine z_aload_0 d_Mo_readRest_0 ?_
      refine z_getR d_Mo_readRest_1 f_Mo_35 (by first | assumption | exact zS0_at (by assumption) (by omega) | exact zS0_at rfl (by omega)) (by first | assumption | exact zS0_at (by assumption) (by omega) | exact zS0_at rfl (by omega)) ?_
      refine z_iload_1 d_Mo_readRest_4 ?_
      first | refine z_ialdNv d_Mo_readRest_5 (by first | assumption | exact zS0_at (by assumption) (by omega) | exact zS0_at rfl (by omega)) (by omega) (by first | decide | omega) (by first | assumption | ((try simp (disch := omega) only [zu_same, zu_ne, zcp_ne, zfl_ne]); first | assumption | rfl)) ?_ | refine z_iald d_Mo_readRest_5 (by first | assumption | exact zS0_at (by assumption) (by omega) | exact zS0_at rfl (by omega)) (by first | assumption | exact zS0_at (by assumption) (by omega) | exact zS0_at rfl (by omega)) ?_
      first | refine z_istore_2 d_Mo_readRest_6 rfl ?_ | (refine z_forget_1 ?_; refine z_istore_2 d_Mo_readRest_6 rfl ?_)
      refine z_iload_2 d_Mo_readRest_7 ?_
      refine z_bipush (a := nI 6) d_Mo_readRest_8 (by decide) ?_
      refine z_icmp_ne (tgt := 31) d_Mo_readRest_10 (by decide) (fun _ => ?_) (fun h => absurd h (by decide))
      refine z_iload_2 d_Mo_readRest_31 ?_
      refine z_iconst (a := nI 5) d_Mo_readRest_32 (by decide) ?_
      refine z_icmp_ne (tgt := 44) d_Mo_readRest_33 (by decide) (fun _ => ?_) (fun h => absurd h (by decide))
      refine z_iload_2 d_Mo_readRest_44 ?_
      refine z_if_eq (tgt := 53) d_Mo_readRest_45 (by decide) (fun h => absurd h (by decide)) (fun _ => ?_)
      refine z_iload_2 d_Mo_readRest_48 ?_
      refine z_iconst (a := nI 1) d_Mo_readRest_49 (by decide) ?_
      refine z_icmp_ne (tgt := 88) d_Mo_readRest_50 (by decide) (fun _ => ?_) (fun h => absurd h (by decide))
      refine z_iload_2 d_Mo_readRest_88 ?_
      refine z_iconst (a := nI 4) d_Mo_readRest_89 (by decide) ?_
      refine z_icmp_ge (tgt := 121) d_Mo_readRest_90 (by decide) (fun _ => ?_) (fun h => absurd (by decide) h)
      refine z_retv d_Mo_readRest_121 ?_
      exact fin 4 (Or.inl ⟨rfl, h⟩) h0
    · have h0 : I 150 x = nI 7 := by rw [h0, h]; decide
      refine z_aload_0 d_Mo_readRest_0 ?_
      refine z_getR d_Mo_readRest_1 f_Mo_35 (by first | assumption | exact zS0_at (by assumption) (by omega) | exact zS0_at rfl (by omega)) (by first | assumption | exact zS0_at (by assumption) (by omega) | exact zS0_at rfl (by omega)) ?_
      refine z_iload_1 d_Mo_readRest_4 ?_
      first | refine z_ialdNv d_Mo_readRest_5 (by first | assumption | exact zS0_at (by assumption) (by omega) | exact zS0_at rfl (by omega)) (by omega) (by first | decide | omega) (by first | assumption | ((try simp (disch := omega) only [zu_same, zu_ne, zcp_ne, zfl_ne]); first | assumption | rfl)) ?_ | refine z_iald d_Mo_readRest_5 (by first | assumption | exact zS0_at (by assumption) (by omega) | exact zS0_at rfl (by omega)) (by first | assumption | exact zS0_at (by assumption) (by omega) | exact zS0_at rfl (by omega)) ?_
      first | refine z_istore_2 d_Mo_readRest_6 rfl ?_ | (refine z_forget_1 ?_; refine z_istore_2 d_Mo_readRest_6 rfl ?_)
      refine z_iload_2 d_Mo_readRest_7 ?_
      refine z_bipush (a := nI 6) d_Mo_readRest_8 (by decide) ?_
      refine z_icmp_ne (tgt := 31) d_Mo_readRest_10 (by decide) (fun _ => ?_) (fun h => absurd h (by decide))
      refine z_iload_2 d_Mo_readRest_31 ?_
      refine z_iconst (a := nI 5) d_Mo_readRest_32 (by decide) ?_
      refine z_icmp_ne (tgt := 44) d_Mo_readRest_33 (by decide) (fun _ => ?_) (fun h => absurd h (by decide))
      refine z_iload_2 d_Mo_readRest_44 ?_
      refine z_if_eq (tgt := 53) d_Mo_readRest_45 (by decide) (fun h => absurd h (by decide)) (fun _ => ?_)
      refine z_iload_2 d_Mo_readRest_48 ?_
      refine z_iconst (a := nI 1) d_Mo_readRest_49 (by decide) ?_
      refine z_icmp_ne (tgt := 88) d_Mo_readRest_50 (by decide) (fun _ => ?_) (fun h => absurd h (by decide))
      refine z_iload_2 d_Mo_readRest_88 ?_
      refine z_iconst (a := nI 4) d_Mo_readRest_89 (by decide) ?_
      refine z_icmp_ge (tgt := 121) d_Mo_readRest_90 (by decide) (fun _ => ?_) (fun h => absurd (by decide) h)
      refine z_retv d_Mo_readRest_121 ?_
      exact fin 7 (Or.inr ⟨rfl, h⟩) h0
  by_cases hn1 : tkw t = nI 12 ∨ tkw t = nI 13
  · have e1 : y_first (tA T L K) n (tkw t) (tA T L K t) = pb (p_known (n.1 10) n.2.2.1 (tA T L K t)) (fun k => .inr (k, tA T L K (tA T L K t))) := by
      unfold y_first
      rcases hn1 with h | h <;> rw [h, if_neg (by decide), if_pos (by decide)]
    rw [e1] at hy
    have go : ∀ j : Nat, (j = 2 ∧ tkw t = nI 12 ∨ j = 3 ∧ tkw t = nI 13) → I 150 x = nI j → zA G y_Mo_readRest prog_14_method_70_code 3 none (zRm 9 0 0) (zM G 0 0 (fun r w' => r = none ∧ (fun w => pQ (y) (fun e => moX T K L I J P S e w) (fun v => moV T K L x n t I J P S v w)) w')) 93 [some (.ref 145), some (.int (nI x)), some (.int (nI j))] [] (I, J, P, S) 0 0 := by
      intro j hj hxj
      refine z_aload_0 d_Mo_readRest_93 ?_
      refine z_getR d_Mo_readRest_94 f_Mo_35 (by first | assumption | exact zS0_at (by assumption) (by omega) | exact zS0_at rfl (by omega)) (by first | assumption | exact zS0_at (by assumption) (by omega) | exact zS0_at rfl (by omega)) ?_
      refine z_iload_1 d_Mo_readRest_97 ?_
      refine z_iconst (a := nI 1) d_Mo_readRest_98 (by decide) ?_
      first | refine z_iaddN d_Mo_readRest_99 ?_ | refine z_iadd d_Mo_readRest_99 ?_
      refine z_aload_0 d_Mo_readRest_100 ?_
      refine z_iconst (a := nI 0) d_Mo_readRest_101 (by decide) ?_
      refine z_iconst (a := nI 1) d_Mo_readRest_102 (by decide) ?_
      refine z_Vi2 d_Mo_readRest_103 k_Mo_257 (by first | assumption | exact zS0_at (by assumption) (by omega) | exact zS0_at rfl (by omega)) (m_rd (so := 1) (off := 6) (N := n.1 10) C (by omega) b2 (by omega) b5) ⟨Nat.le_of_ble_eq_true rfl, Nat.le_of_ble_eq_true rfl, Nat.le_of_ble_eq_true rfl, Nat.le_of_ble_eq_true rfl⟩ (Nat.le_of_ble_eq_true rfl) ?_
      intro r w hq
      rcases hx1 : p_known (n.1 10) n.2.2.1 (tA T L K t) with e | v <;> rw [hx1] at hq hy <;> dsimp only [pb] at hy
      · obtain ⟨rfl, rfl, e2⟩ := hq
        have hX := moX_z (k := x + 1) (v := nI 0) (moX_B C mP_r mQ_r e2) (by omega)
        obtain ⟨I', J', t', hw, q1, q2, q3, q4, q5, q6⟩ := id hX
        cases hw
        first | refine z_iastN d_Mo_readRest_106 (by first | assumption | exact zS0_at (by assumption) (by omega) | exact zS0_at rfl (by omega)) (by omega) (by first | decide | omega) ?_ | refine z_iast d_Mo_readRest_106 (by first | assumption | exact zS0_at (by assumption) (by omega) | exact zS0_at rfl (by omega)) (by first | assumption | exact zS0_at (by assumption) (by omega) | exact zS0_at rfl (by omega)) ?_
        refine z_aload_0 d_Mo_readRest_107 ?_
        refine z_getR d_Mo_readRest_108 f_Mo_35 (by first | assumption | exact zS0_at (by assumption) (by omega) | exact zS0_at rfl (by omega)) (by first | assumption | exact zS0_at (by assumption) (by omega) | exact zS0_at rfl (by omega)) ?_
        refine z_iload_1 d_Mo_readRest_111 ?_
        refine z_iconst (a := nI 2) d_Mo_readRest_112 (by decide) ?_
        first | refine z_iaddN d_Mo_readRest_113 ?_ | refine z_iadd d_Mo_readRest_113 ?_
        refine z_aload_0 d_Mo_readRest_114 ?_
        refine z_iconst (a := nI 0) d_Mo_readRest_115 (by decide) ?_
        refine z_iconst (a := nI 0) d_Mo_readRest_116 (by decide) ?_
        refine z_Vi2 d_Mo_readRest_117 k_Mo_257 (by first | assumption | exact zS0_at (by assumption) (by omega) | exact zS0_at rfl (by omega)) (m_readToldz q3 q5 q6) ⟨Nat.le_of_ble_eq_true rfl, Nat.le_of_ble_eq_true rfl, Nat.le_of_ble_eq_true rfl, Nat.le_of_ble_eq_true rfl⟩ (Nat.le_of_ble_eq_true rfl) ?_
        intro r w hr
        obtain ⟨rfl, rfl⟩ := hr
        rw [← hy]
        first | refine z_iastN d_Mo_readRest_120 (by first | assumption | exact zS0_at (by assumption) (by omega) | exact zS0_at rfl (by omega)) (by omega) (by first | decide | omega) ?_ | refine z_iast d_Mo_readRest_120 (by first | assumption | exact zS0_at (by assumption) (by omega) | exact zS0_at rfl (by omega)) (by first | assumption | exact zS0_at (by assumption) (by omega) | exact zS0_at rfl (by omega)) ?_
        refine z_retv d_Mo_readRest_121 ?_
        exact moX_z hX (by omega)
      obtain ⟨rfl, I2, J2, rfl, g1, g2, C2⟩ := hq
      obtain ⟨p, hp, rfl, -⟩ := p_known_c hx1
      generalize tA T L K (tA T L K t) = t2 at hy C2
      have C2z : moC T K L 0 (zu I2 150 (x + 1) (nI p)) J2 P S t2 := moC_z C2
      have r2 : mR x I (zu I2 150 (x + 1) (nI p)) := mR_c (mR_tk g1) (by omega)
      have e150b := g1.1 150 (by decide)
      have e152b := g2.1 152 (by decide)
      have ec : y_cmp (tA T L K) (tkw t) t2 = .inr (tkw t, t2) := by
        unfold y_cmp
        rcases hn1 with h | h <;> rw [h, if_neg (by decide)]
      rw [ec] at hy
      dsimp only [pb] at hy
      have e3 : y_second (tA T L K) n (tkw t) t2 = pb (p_known (n.1 9) n.2.1 t2) (fun k => .inr (k, tA T L K t2)) := by
        unfold y_second
        rcases hn1 with h | h <;> rw [h, if_neg (by decide), if_pos (by decide)]
      rw [e3] at hy
      first | refine z_iastN d_Mo_readRest_106 (by first | assumption | exact zS0_at (by assumption) (by omega) | exact zS0_at rfl (by omega)) (by omega) (by first | decide | omega) ?_ | refine z_iast d_Mo_readRest_106 (by first | assumption | exact zS0_at (by assumption) (by omega) | exact zS0_at rfl (by omega)) (by first | assumption | exact zS0_at (by assumption) (by omega) | exact zS0_at rfl (by omega)) ?_
      refine z_aload_0 d_Mo_readRest_107 ?_
      refine z_getR d_Mo_readRest_108 f_Mo_35 (by first | assumption | exact zS0_at (by assumption) (by omega) | exact zS0_at rfl (by omega)) (by first | assumption | exact zS0_at (by assumption) (by omega) | exact zS0_at rfl (by omega)) ?_
      refine z_iload_1 d_Mo_readRest_111 ?_
      refine z_iconst (a := nI 2) d_Mo_readRest_112 (by decide) ?_
      first | refine z_iaddN d_Mo_readRest_113 ?_ | refine z_iadd d_Mo_readRest_113 ?_
      refine z_aload_0 d_Mo_readRest_114 ?_
      refine z_iconst (a := nI 0) d_Mo_readRest_115 (by decide) ?_
      refine z_iconst (a := nI 0) d_Mo_readRest_116 (by decide) ?_
      refine z_Vi2 d_Mo_readRest_117 k_Mo_257 (by first | assumption | exact zS0_at (by assumption) (by omega) | exact zS0_at rfl (by omega)) (m_rd (so := 0) (off := 0) (N := n.1 9) C2z (by omega) (by rw [zu_ne _ _ _ _ (by omega), e150b]; exact b1) (by omega) (fun k hk => by rw [e152b, Nat.zero_add]; exact b4 k hk)) ⟨Nat.le_of_ble_eq_true rfl, Nat.le_of_ble_eq_true rfl, Nat.le_of_ble_eq_true rfl, Nat.le_of_ble_eq_true rfl⟩ (Nat.le_of_ble_eq_true rfl) ?_
      intro r w hq
      rcases hx2 : p_known (n.1 9) n.2.1 t2 with e | v <;> rw [hx2] at hq hy <;> dsimp only [pb] at hy
      · obtain ⟨rfl, rfl, e2⟩ := hq
        rw [← hy]
        first | refine z_iastN d_Mo_readRest_120 (by first | assumption | exact zS0_at (by assumption) (by omega) | exact zS0_at rfl (by omega)) (by omega) (by first | decide | omega) ?_ | refine z_iast d_Mo_readRest_120 (by first | assumption | exact zS0_at (by assumption) (by omega) | exact zS0_at rfl (by omega)) (by first | assumption | exact zS0_at (by assumption) (by omega) | exact zS0_at rfl (by omega)) ?_
        refine z_retv d_Mo_readRest_121 ?_
        exact moX_z (moX_B C2z (mR_P r2 hx.1) (mQ_tk g2) e2) (by omega)
      obtain ⟨rfl, I3, J3, rfl, k1, k2, C3⟩ := hq
      obtain ⟨k, hk, rfl, -⟩ := p_known_c hx2
      have e150c := k1.1 150 (by decide)
      rw [← hy]
      first | refine z_iastN d_Mo_readRest_120 (by first | assumption | exact zS0_at (by assumption) (by omega) | exact zS0_at rfl (by omega)) (by omega) (by first | decide | omega) ?_ | refine z_iast d_Mo_readRest_120 (by first | assumption | exact zS0_at (by assumption) (by omega) | exact zS0_at rfl (by omega)) (by first | assumption | exact zS0_at (by assumption) (by omega) | exact zS0_at rfl (by omega)) ?_
      refine z_retv d_Mo_readRest_121 ?_
      refine ⟨_, _, rfl, mR_c (mR_t r2 (mR_tk k1)) (by omega), mJ_t g2 k2, moC_z C3, Or.inl ⟨hno, fun A Q i s f1 f2 f3 f4 => Or.inr (Or.inr (Or.inl ⟨p, k, hp, hk, ?_, f2, ?_, f3, ?_⟩))⟩⟩
      · have g0 : Q s 0 = nI j := by rw [f4 0 (by decide)]; simp (disch := omega) only [zu_ne, e150c, e150b]; exact hxj
        rcases hj with ⟨rfl, h⟩ | ⟨rfl, h⟩
        · exact Or.inl ⟨f1.trans h, g0⟩
        · exact Or.inr ⟨f1.trans h, g0⟩
      · rw [f4 1 (by decide)]; simp (disch := omega) only [zu_ne, e150c, zu_same]
      · rw [f4 2 (by decide)]; simp (disch := omega) only [zu_same]
    rcases hn1 with h | h
    · have h0 : I 150 x = nI 2 := by rw [h0, h]; decide
      refine z_aload_0 d_Mo_readRest_0 ?_
      refine z_getR d_Mo_readRest_1 f_Mo_35 (by first | assumption | exact zS0_at (by assumption) (by omega) | exact zS0_at rfl (by omega)) (by first | assumption | exact zS0_at (by assumption) (by omega) | exact zS0_at rfl (by omega)) ?_
      refine z_iload_1 d_Mo_readRest_4 ?_
      first | refine z_ialdNv d_Mo_readRest_5 (by first | assumption | exact zS0_at (by assumption) (by omega) | exact zS0_at rfl (by omega)) (by omega) (by first | decide | omega) (by first | assumption | ((try simp (disch := omega) only [zu_same, zu_ne, zcp_ne, zfl_ne]); first | assumption | rfl)) ?_ | refine z_iald d_Mo_readRest_5 (by first | assumption | exact zS0_at (by assumption) (by omega) | exact zS0_at rfl (by omega)) (by first | assumption | exact zS0_at (by assumption) (by omega) | exact zS0_at rfl (by omega)) ?_
      first | refine z_istore_2 d_Mo_readRest_6 rfl ?_ | (refine z_forget_1 ?_; refine z_istore_2 d_Mo_readRest_6 rfl ?_)
      refine z_iload_2 d_Mo_readRest_7 ?_
      refine z_bipush (a := nI 6) d_Mo_readRest_8 (by decide) ?_
      refine z_icmp_ne (tgt := 31) d_Mo_readRest_10 (by decide) (fun _ => ?_) (fun h => absurd h (by decide))
      refine z_iload_2 d_Mo_readRest_31 ?_
      refine z_iconst (a := nI 5) d_Mo_readRest_32 (by decide) ?_
      refine z_icmp_ne (tgt := 44) d_Mo_readRest_33 (by decide) (fun _ => ?_) (fun h => absurd h (by decide))
      refine z_iload_2 d_Mo_readRest_44 ?_
      refine z_if_eq (tgt := 53) d_Mo_readRest_45 (by decide) (fun h => absurd h (by decide)) (fun _ => ?_)
      refine z_iload_2 d_Mo_readRest_48 ?_
      refine z_iconst (a := nI 1) d_Mo_readRest_49 (by decide) ?_
      refine z_icmp_ne (tgt := 88) d_Mo_readRest_50 (by decide) (fun _ => ?_) (fun h => absurd h (by decide))
      refine z_iload_2 d_Mo_readRest_88 ?_
      refine z_iconst (a := nI 4) d_Mo_readRest_89 (by decide) ?_
      refine z_icmp_ge (tgt := 121) d_Mo_readRest_90 (by decide) (fun h => absurd h (by decide)) (fun _ => ?_)
      exact go 2 (Or.inl ⟨rfl, h⟩) h0
    · have h0 : I 150 x = nI 3 := by rw [h0, h]; decide
      refine z_aload_0 d_Mo_readRest_0 ?_
      refine z_getR d_Mo_readRest_1 f_Mo_35 (by first | assumption | exact zS0_at (by assumption) (by omega) | exact zS0_at rfl (by omega)) (by first | assumption | exact zS0_at (by assumption) (by omega) | exact zS0_at rfl (by omega)) ?_
      refine z_iload_1 d_Mo_readRest_4 ?_
      first | refine z_ialdNv d_Mo_readRest_5 (by first | assumption | exact zS0_at (by assumption) (by omega) | exact zS0_at rfl (by omega)) (by omega) (by first | decide | omega) (by first | assumption | ((try simp (disch := omega) only [zu_same, zu_ne, zcp_ne, zfl_ne]); first | assumption | rfl)) ?_ | refine z_iald d_Mo_readRest_5 (by first | assumption | exact zS0_at (by assumption) (by omega) | exact zS0_at rfl (by omega)) (by first | assumption | exact zS0_at (by assumption) (by omega) | exact zS0_at rfl (by omega)) ?_
      first | refine z_istore_2 d_Mo_readRest_6 rfl ?_ | (refine z_forget_1 ?_; refine z_istore_2 d_Mo_readRest_6 rfl ?_)
      refine z_iload_2 d_Mo_readRest_7 ?_
      refine z_bipush (a := nI 6) d_Mo_readRest_8 (by decide) ?_
      refine z_icmp_ne (tgt := 31) d_Mo_readRest_10 (by decide) (fun _ => ?_) (fun h => absurd h (by decide))
      refine z_iload_2 d_Mo_readRest_31 ?_
      refine z_iconst (a := nI 5) d_Mo_readRest_32 (by decide) ?_
      refine z_icmp_ne (tgt := 44) d_Mo_readRest_33 (by decide) (fun _ => ?_) (fun h => absurd h (by decide))
      refine z_iload_2 d_Mo_readRest_44 ?_
      refine z_if_eq (tgt := 53) d_Mo_readRest_45 (by decide) (fun h => absurd h (by decide)) (fun _ => ?_)
      refine z_iload_2 d_Mo_readRest_48 ?_
      refine z_iconst (a := nI 1) d_Mo_readRest_49 (by decide) ?_
      refine z_icmp_ne (tgt := 88) d_Mo_readRest_50 (by decide) (fun _ => ?_) (fun h => absurd h (by decide))
      refine z_iload_2 d_Mo_readRest_88 ?_
      refine z_iconst (a := nI 4) d_Mo_readRest_89 (by decide) ?_
      refine z_icmp_ge (tgt := 121) d_Mo_readRest_90 (by decide) (fun h => absurd h (by decide)) (fun _ => ?_)
      exact go 3 (Or.inr ⟨rfl, h⟩) h0
  have e1 : y_first (tA T L K) n (tkw t) (tA T L K t) = pb (p_known (n.1 11) n.2.2.2 (tA T L K t)) (fun k => .inr (k, tA T L K (tA T L K t))) := by
    unfold y_first
    rw [if_pos]
    rcases hk with h | h | h | h | h | h | h | h
    · simp [h]
    · simp [h]
    · exact absurd (Or.inl h) hn1
    · exact absurd (Or.inr h) hn1
    · exact absurd (Or.inl h) hn0
    · exact absurd h h15
    · exact absurd h h18
    · exact absurd (Or.inr h) hn0
  rw [e1] at hy
  by_cases h10 : tkw t = nI 10
  · have h0 : I 150 x = nI 0 := by rw [h0, h10]; decide
    refine z_aload_0 d_Mo_readRest_0 ?_
    refine z_getR d_Mo_readRest_1 f_Mo_35 (by first | assumption | exact zS0_at (by assumption) (by omega) | exact zS0_at rfl (by omega)) (by first | assumption | exact zS0_at (by assumption) (by omega) | exact zS0_at rfl (by omega)) ?_
    refine z_iload_1 d_Mo_readRest_4 ?_
    first | refine z_ialdNv d_Mo_readRest_5 (by first | assumption | exact zS0_at (by assumption) (by omega) | exact zS0_at rfl (by omega)) (by omega) (by first | decide | omega) (by first | assumption | ((try simp (disch := omega) only [zu_same, zu_ne, zcp_ne, zfl_ne]); first | assumption | rfl)) ?_ | refine z_iald d_Mo_readRest_5 (by first | assumption | exact zS0_at (by assumption) (by omega) | exact zS0_at rfl (by omega)) (by first | assumption | exact zS0_at (by assumption) (by omega) | exact zS0_at rfl (by omega)) ?_
    first | refine z_istore_2 d_Mo_readRest_6 rfl ?_ | (refine z_forget_1 ?_; refine z_istore_2 d_Mo_readRest_6 rfl ?_)
    refine z_iload_2 d_Mo_readRest_7 ?_
    refine z_bipush (a := nI 6) d_Mo_readRest_8 (by decide) ?_
    refine z_icmp_ne (tgt := 31) d_Mo_readRest_10 (by decide) (fun _ => ?_) (fun h => absurd h (by decide))
    refine z_iload_2 d_Mo_readRest_31 ?_
    refine z_iconst (a := nI 5) d_Mo_readRest_32 (by decide) ?_
    refine z_icmp_ne (tgt := 44) d_Mo_readRest_33 (by decide) (fun _ => ?_) (fun h => absurd h (by decide))
    refine z_iload_2 d_Mo_readRest_44 ?_
    refine z_if_eq (tgt := 53) d_Mo_readRest_45 (by decide) (fun _ => ?_) (fun h => absurd (by decide) h)
    refine z_aload_0 d_Mo_readRest_53 ?_
    refine z_getR d_Mo_readRest_54 f_Mo_35 (by first | assumption | exact zS0_at (by assumption) (by omega) | exact zS0_at rfl (by omega)) (by first | assumption | exact zS0_at (by assumption) (by omega) | exact zS0_at rfl (by omega)) ?_
    refine z_iload_1 d_Mo_readRest_57 ?_
    refine z_iconst (a := nI 1) d_Mo_readRest_58 (by decide) ?_
    first | refine z_iaddN d_Mo_readRest_59 ?_ | refine z_iadd d_Mo_readRest_59 ?_
    refine z_aload_0 d_Mo_readRest_60 ?_
    refine z_iconst (a := nI 0) d_Mo_readRest_61 (by decide) ?_
    refine z_iconst (a := nI 3) d_Mo_readRest_62 (by decide) ?_
    refine z_Vi2 d_Mo_readRest_63 k_Mo_257 (by first | assumption | exact zS0_at (by assumption) (by omega) | exact zS0_at rfl (by omega)) (m_rd (so := 3) (off := 13) (N := n.1 11) C (by omega) b3 b3b b6) ⟨Nat.le_of_ble_eq_true rfl, Nat.le_of_ble_eq_true rfl, Nat.le_of_ble_eq_true rfl, Nat.le_of_ble_eq_true rfl⟩ (Nat.le_of_ble_eq_true rfl) ?_
    intro r w hq
    rcases hx1 : p_known (n.1 11) n.2.2.2 (tA T L K t) with e | v <;> rw [hx1] at hq hy <;> dsimp only [pb] at hy
    · obtain ⟨rfl, rfl, e2⟩ := hq
      have hX := moX_z (k := x + 1) (v := nI 0) (moX_B C mP_r mQ_r e2) (by omega)
      obtain ⟨I', J', t', hw, q1, q2, q3, q4, q5, q6⟩ := id hX
      cases hw
      first | refine z_iastN d_Mo_readRest_66 (by first | assumption | exact zS0_at (by assumption) (by omega) | exact zS0_at rfl (by omega)) (by omega) (by first | decide | omega) ?_ | refine z_iast d_Mo_readRest_66 (by first | assumption | exact zS0_at (by assumption) (by omega) | exact zS0_at rfl (by omega)) (by first | assumption | exact zS0_at (by assumption) (by omega) | exact zS0_at rfl (by omega)) ?_
      refine z_iload_2 d_Mo_readRest_67 ?_
      refine z_if_ne (tgt := 121) d_Mo_readRest_68 (by decide) (fun h => absurd (by decide) h) (fun _ => ?_)
      refine z_aload_0 d_Mo_readRest_71 ?_
      refine z_getR d_Mo_readRest_72 f_Mo_35 (by first | assumption | exact zS0_at (by assumption) (by omega) | exact zS0_at rfl (by omega)) (by first | assumption | exact zS0_at (by assumption) (by omega) | exact zS0_at rfl (by omega)) ?_
      refine z_iload_1 d_Mo_readRest_75 ?_
      refine z_iconst (a := nI 2) d_Mo_readRest_76 (by decide) ?_
      first | refine z_iaddN d_Mo_readRest_77 ?_ | refine z_iadd d_Mo_readRest_77 ?_
      refine z_aload_0 d_Mo_readRest_78 ?_
      refine z_iconst (a := nI 0) d_Mo_readRest_79 (by decide) ?_
      refine z_iconst (a := nI 1) d_Mo_readRest_80 (by decide) ?_
      refine z_Vi2 d_Mo_readRest_81 k_Mo_257 (by first | assumption | exact zS0_at (by assumption) (by omega) | exact zS0_at rfl (by omega)) (m_readToldz q3 q5 q6) ⟨Nat.le_of_ble_eq_true rfl, Nat.le_of_ble_eq_true rfl, Nat.le_of_ble_eq_true rfl, Nat.le_of_ble_eq_true rfl⟩ (Nat.le_of_ble_eq_true rfl) ?_
      intro r w hr
      obtain ⟨rfl, rfl⟩ := hr
      rw [← hy]
      first | refine z_iastN d_Mo_readRest_84 (by first | assumption | exact zS0_at (by assumption) (by omega) | exact zS0_at rfl (by omega)) (by omega) (by first | decide | omega) ?_ | refine z_iast d_Mo_readRest_84 (by first | assumption | exact zS0_at (by assumption) (by omega) | exact zS0_at rfl (by omega)) (by first | assumption | exact zS0_at (by assumption) (by omega) | exact zS0_at rfl (by omega)) ?_
      refine z_goto (tgt := 121) d_Mo_readRest_85 (by decide) ?_
      refine z_retv d_Mo_readRest_121 ?_
      exact moX_z hX (by omega)
    obtain ⟨rfl, I2, J2, rfl, g1, g2, C2⟩ := hq
    obtain ⟨xx, hxx, rfl, -⟩ := p_known_c hx1
    generalize tA T L K (tA T L K t) = t2 at hy C2
    have C2z : moC T K L 0 (zu I2 150 (x + 1) (nI xx)) J2 P S t2 := moC_z C2
    have r2 : mR x I (zu I2 150 (x + 1) (nI xx)) := mR_c (mR_tk g1) (by omega)
    have e150b := g1.1 150 (by decide)
    have e152b := g2.1 152 (by decide)
    rw [h10] at hy
    have ec : y_cmp (tA T L K) (nI 10) t2 = .inr (nI 10, t2) := by unfold y_cmp; rw [if_neg (by decide)]
    rw [ec] at hy
    dsimp only [pb] at hy
    have e3 : y_second (tA T L K) n (nI 10) t2 = pb (p_known (n.1 10) n.2.2.1 t2) (fun k => .inr (k, tA T L K t2)) := by unfold y_second; rw [if_pos (by decide)]
    rw [e3] at hy
    first | refine z_iastN d_Mo_readRest_66 (by first | assumption | exact zS0_at (by assumption) (by omega) | exact zS0_at rfl (by omega)) (by omega) (by first | decide | omega) ?_ | refine z_iast d_Mo_readRest_66 (by first | assumption | exact zS0_at (by assumption) (by omega) | exact zS0_at rfl (by omega)) (by first | assumption | exact zS0_at (by assumption) (by omega) | exact zS0_at rfl (by omega)) ?_
    refine z_iload_2 d_Mo_readRest_67 ?_
    refine z_if_ne (tgt := 121) d_Mo_readRest_68 (by decide) (fun h => absurd (by decide) h) (fun _ => ?_)
    refine z_aload_0 d_Mo_readRest_71 ?_
    refine z_getR d_Mo_readRest_72 f_Mo_35 (by first | assumption | exact zS0_at (by assumption) (by omega) | exact zS0_at rfl (by omega)) (by first | assumption | exact zS0_at (by assumption) (by omega) | exact zS0_at rfl (by omega)) ?_
    refine z_iload_1 d_Mo_readRest_75 ?_
    refine z_iconst (a := nI 2) d_Mo_readRest_76 (by decide) ?_
    first | refine z_iaddN d_Mo_readRest_77 ?_ | refine z_iadd d_Mo_readRest_77 ?_
    refine z_aload_0 d_Mo_readRest_78 ?_
    refine z_iconst (a := nI 0) d_Mo_readRest_79 (by decide) ?_
    refine z_iconst (a := nI 1) d_Mo_readRest_80 (by decide) ?_
    refine z_Vi2 d_Mo_readRest_81 k_Mo_257 (by first | assumption | exact zS0_at (by assumption) (by omega) | exact zS0_at rfl (by omega)) (m_rd (so := 1) (off := 6) (N := n.1 10) C2z (by omega) (by rw [zu_ne _ _ _ _ (by omega), e150b]; exact b2) (by omega) (fun k hk => by rw [e152b]; exact b5 k hk)) ⟨Nat.le_of_ble_eq_true rfl, Nat.le_of_ble_eq_true rfl, Nat.le_of_ble_eq_true rfl, Nat.le_of_ble_eq_true rfl⟩ (Nat.le_of_ble_eq_true rfl) ?_
    intro r w hq
    rcases hx2 : p_known (n.1 10) n.2.2.1 t2 with e | v <;> rw [hx2] at hq hy <;> dsimp only [pb] at hy
    · obtain ⟨rfl, rfl, e2⟩ := hq
      rw [← hy]
      first | refine z_iastN d_Mo_readRest_84 (by first | assumption | exact zS0_at (by assumption) (by omega) | exact zS0_at rfl (by omega)) (by omega) (by first | decide | omega) ?_ | refine z_iast d_Mo_readRest_84 (by first | assumption | exact zS0_at (by assumption) (by omega) | exact zS0_at rfl (by omega)) (by first | assumption | exact zS0_at (by assumption) (by omega) | exact zS0_at rfl (by omega)) ?_
      refine z_goto (tgt := 121) d_Mo_readRest_85 (by decide) ?_
      refine z_retv d_Mo_readRest_121 ?_
      exact moX_z (moX_B C2z (mR_P r2 hx.1) (mQ_tk g2) e2) (by omega)
    obtain ⟨rfl, I3, J3, rfl, k1, k2, C3⟩ := hq
    obtain ⟨p, hp, rfl, -⟩ := p_known_c hx2
    have e150c := k1.1 150 (by decide)
    rw [← hy]
    first | refine z_iastN d_Mo_readRest_84 (by first | assumption | exact zS0_at (by assumption) (by omega) | exact zS0_at rfl (by omega)) (by omega) (by first | decide | omega) ?_ | refine z_iast d_Mo_readRest_84 (by first | assumption | exact zS0_at (by assumption) (by omega) | exact zS0_at rfl (by omega)) (by first | assumption | exact zS0_at (by assumption) (by omega) | exact zS0_at rfl (by omega)) ?_
    refine z_goto (tgt := 121) d_Mo_readRest_85 (by decide) ?_
    refine z_retv d_Mo_readRest_121 ?_
    refine ⟨_, _, rfl, mR_c (mR_t r2 (mR_tk k1)) (by omega), mJ_t g2 k2, moC_z C3, Or.inl ⟨hno, fun A Q i s f1 f2 f3 f4 => Or.inl ⟨xx, p, hxx, hp, f1, ?_, f2, ?_, f3, ?_⟩⟩⟩
    · rw [f4 0 (by decide)]; simp (disch := omega) only [zu_ne, e150c, e150b]; exact h0
    · rw [f4 1 (by decide)]; simp (disch := omega) only [zu_ne, e150c, zu_same]
    · rw [f4 2 (by decide)]; simp (disch := omega) only [zu_same]
  · have h11 : tkw t = nI 11 := by
      rcases hk with h | h | h | h | h | h | h | h
      · exact absurd h h10
      · exact h
      · exact absurd (Or.inl h) hn1
      · exact absurd (Or.inr h) hn1
      · exact absurd (Or.inl h) hn0
      · exact absurd h h15
      · exact absurd h h18
      · exact absurd (Or.inr h) hn0
    have h0 : I 150 x = nI 1 := by rw [h0, h11]; decide
    refine z_aload_0 d_Mo_readRest_0 ?_
    refine z_getR d_Mo_readRest_1 f_Mo_35 (by first | assumption | exact zS0_at (by assumption) (by omega) | exact zS0_at rfl (by omega)) (by first | assumption | exact zS0_at (by assumption) (by omega) | exact zS0_at rfl (by omega)) ?_
    refine z_iload_1 d_Mo_readRest_4 ?_
    first | refine z_ialdNv d_Mo_readRest_5 (by first | assumption | exact zS0_at (by assumption) (by omega) | exact zS0_at rfl (by omega)) (by omega) (by first | decide | omega) (by first | assumption | ((try simp (disch := omega) only [zu_same, zu_ne, zcp_ne, zfl_ne]); first | assumption | rfl)) ?_ | refine z_iald d_Mo_readRest_5 (by first | assumption | exact zS0_at (by assumption) (by omega) | exact zS0_at rfl (by omega)) (by first | assumption | exact zS0_at (by assumption) (by omega) | exact zS0_at rfl (by omega)) ?_
    first | refine z_istore_2 d_Mo_readRest_6 rfl ?_ | (refine z_forget_1 ?_; refine z_istore_2 d_Mo_readRest_6 rfl ?_)
    refine z_iload_2 d_Mo_readRest_7 ?_
    refine z_bipush (a := nI 6) d_Mo_readRest_8 (by decide) ?_
    refine z_icmp_ne (tgt := 31) d_Mo_readRest_10 (by decide) (fun _ => ?_) (fun h => absurd h (by decide))
    refine z_iload_2 d_Mo_readRest_31 ?_
    refine z_iconst (a := nI 5) d_Mo_readRest_32 (by decide) ?_
    refine z_icmp_ne (tgt := 44) d_Mo_readRest_33 (by decide) (fun _ => ?_) (fun h => absurd h (by decide))
    refine z_iload_2 d_Mo_readRest_44 ?_
    refine z_if_eq (tgt := 53) d_Mo_readRest_45 (by decide) (fun h => absurd h (by decide)) (fun _ => ?_)
    refine z_iload_2 d_Mo_readRest_48 ?_
    refine z_iconst (a := nI 1) d_Mo_readRest_49 (by decide) ?_
    refine z_icmp_ne (tgt := 88) d_Mo_readRest_50 (by decide) (fun h => absurd (by decide) h) (fun _ => ?_)
    refine z_aload_0 d_Mo_readRest_53 ?_
    refine z_getR d_Mo_readRest_54 f_Mo_35 (by first | assumption | exact zS0_at (by assumption) (by omega) | exact zS0_at rfl (by omega)) (by first | assumption | exact zS0_at (by assumption) (by omega) | exact zS0_at rfl (by omega)) ?_
    refine z_iload_1 d_Mo_readRest_57 ?_
    refine z_iconst (a := nI 1) d_Mo_readRest_58 (by decide) ?_
    first | refine z_iaddN d_Mo_readRest_59 ?_ | refine z_iadd d_Mo_readRest_59 ?_
    refine z_aload_0 d_Mo_readRest_60 ?_
    refine z_iconst (a := nI 0) d_Mo_readRest_61 (by decide) ?_
    refine z_iconst (a := nI 3) d_Mo_readRest_62 (by decide) ?_
    refine z_Vi2 d_Mo_readRest_63 k_Mo_257 (by first | assumption | exact zS0_at (by assumption) (by omega) | exact zS0_at rfl (by omega)) (m_rd (so := 3) (off := 13) (N := n.1 11) C (by omega) b3 b3b b6) ⟨Nat.le_of_ble_eq_true rfl, Nat.le_of_ble_eq_true rfl, Nat.le_of_ble_eq_true rfl, Nat.le_of_ble_eq_true rfl⟩ (Nat.le_of_ble_eq_true rfl) ?_
    intro r w hq
    rcases hx1 : p_known (n.1 11) n.2.2.2 (tA T L K t) with e | v <;> rw [hx1] at hq hy <;> dsimp only [pb] at hy
    · obtain ⟨rfl, rfl, e2⟩ := hq
      rw [← hy]
      first | refine z_iastN d_Mo_readRest_66 (by first | assumption | exact zS0_at (by assumption) (by omega) | exact zS0_at rfl (by omega)) (by omega) (by first | decide | omega) ?_ | refine z_iast d_Mo_readRest_66 (by first | assumption | exact zS0_at (by assumption) (by omega) | exact zS0_at rfl (by omega)) (by first | assumption | exact zS0_at (by assumption) (by omega) | exact zS0_at rfl (by omega)) ?_
      refine z_iload_2 d_Mo_readRest_67 ?_
      refine z_if_ne (tgt := 121) d_Mo_readRest_68 (by decide) (fun _ => ?_) (fun h => absurd h (by decide))
      refine z_retv d_Mo_readRest_121 ?_
      exact moX_z (moX_B C mP_r mQ_r e2) (by omega)
    obtain ⟨rfl, I2, J2, rfl, g1, g2, C2⟩ := hq
    obtain ⟨xx, hxx, rfl, -⟩ := p_known_c hx1
    have e150b := g1.1 150 (by decide)
    rw [h11] at hy
    have ec : y_cmp (tA T L K) (nI 11) (tA T L K (tA T L K t)) = .inr (nI 11, tA T L K (tA T L K t)) := by unfold y_cmp; rw [if_neg (by decide)]
    rw [ec] at hy
    dsimp only [pb] at hy
    have e3 : y_second (tA T L K) n (nI 11) (tA T L K (tA T L K t)) = .inr (nI 0, tA T L K (tA T L K t)) := by unfold y_second; rw [if_neg (by decide), if_neg (by decide), if_neg (by decide)]
    rw [e3] at hy
    dsimp only [pb] at hy
    rw [← hy]
    first | refine z_iastN d_Mo_readRest_66 (by first | assumption | exact zS0_at (by assumption) (by omega) | exact zS0_at rfl (by omega)) (by omega) (by first | decide | omega) ?_ | refine z_iast d_Mo_readRest_66 (by first | assumption | exact zS0_at (by assumption) (by omega) | exact zS0_at rfl (by omega)) (by first | assumption | exact zS0_at (by assumption) (by omega) | exact zS0_at rfl (by omega)) ?_
    refine z_iload_2 d_Mo_readRest_67 ?_
    refine z_if_ne (tgt := 121) d_Mo_readRest_68 (by decide) (fun _ => ?_) (fun h => absurd h (by decide))
    refine z_retv d_Mo_readRest_121 ?_
    refine ⟨_, _, rfl, mR_c (mR_tk g1) (by omega), g2, moC_z C2, Or.inl ⟨hno, fun A Q i s f1 f2 f3 f4 => Or.inr (Or.inl ⟨xx, hxx, f1, ?_, f2, ?_⟩)⟩⟩
    · rw [f4 0 (by decide)]; simp (disch := omega) only [zu_ne, e150b]; exact h0
    · rw [f4 1 (by decide)]; simp (disch := omega) only [zu_same]
end MY1
