/-! the class: rounds and wheels -/
section C7
variable {G : zG} {I : Nat → Nat → Int32} {J : Nat → Nat → Int64} {P : Nat → Nat → Option Nat} {S : List (Nat × Nat)} {f g nt np nl nn : Nat} {a b c : Int32} {x : Int64}
theorem t_Rows_mostOnRound {t k p : Nat} (F : fenOk P S f) (N : fenIn I f nt np nl nn) (ht : t < nn) (hk : I (f + 5) t = nI k) (hp : I (f + 6) t = nI p) (hp2 : p < np) : zEi G y_Rows_mostOnRound prog_7_method_7_code 3 (some .int) 10 [.ref f, .int (nI t)] (I, J, P, S) (fun r w => r = nI (s_lg (I (f + 3)) (s_set (fun p => zB (I (f + 2) p) k) np) np 7 p (2 ^ p)) ∧ w = (I, J, P, S)) := by
  obtain ⟨F0, ⟨F8, F8s⟩, ⟨F9, F9s⟩, ⟨F10, F10s⟩, ⟨F11, F11s⟩, ⟨F12, F12s⟩, ⟨F13, F13s⟩, ⟨F14, F14s⟩, ⟨F15, F15s⟩, ⟨F16, F16s⟩, ⟨F17, F17s⟩, ⟨F18, F18s⟩, ⟨F19, F19s⟩, ⟨Y3, Y3s⟩, ⟨Y4, Y4s⟩, ⟨Y5, Y5s⟩, ⟨Y6, Y6s⟩⟩ := id F
  obtain ⟨⟨n1, n1b⟩, ⟨n2, n2b⟩, ⟨n3, n3b⟩, ⟨n4, n4b⟩, nof, non⟩ := id N
  have h2p : 2 ^ p < 128 := Nat.pow_lt_pow_right (n := 7) (by decide) (by omega)
  refine zEi_of (lv := [some (.ref f), some (.int (nI t)), none]) (by decide) rfl (Nat.le_of_ble_eq_true rfl) ?_
  refine z_aload_0 d_Rows_mostOnRound_0 ?_
  refine z_getR d_Rows_mostOnRound_1 f_Rows_25 (by first | assumption | exact zS0_at (by assumption) (by omega) | exact zS0_at rfl (by omega)) (by first | assumption | exact zS0_at (by assumption) (by omega) | exact zS0_at rfl (by omega)) ?_
  refine z_iload_1 d_Rows_mostOnRound_4 ?_
  first | refine z_ialdNv d_Rows_mostOnRound_5 (by first | assumption | exact zS0_at (by assumption) (by omega) | exact zS0_at rfl (by omega)) (by omega) (by first | decide | omega) (by first | assumption | ((try simp (disch := omega) only [zu_same, zu_ne, zcp_ne, zfl_ne]); first | assumption | rfl)) ?_ | refine z_iald d_Rows_mostOnRound_5 (by first | assumption | exact zS0_at (by assumption) (by omega) | exact zS0_at rfl (by omega)) (by first | assumption | exact zS0_at (by assumption) (by omega) | exact zS0_at rfl (by omega)) ?_
  first | refine z_istore_2 d_Rows_mostOnRound_6 rfl ?_ | (refine z_forget_1 ?_; refine z_istore_2 d_Rows_mostOnRound_6 rfl ?_)
  refine z_aload_0 d_Rows_mostOnRound_7 ?_
  refine z_iload_2 d_Rows_mostOnRound_8 ?_
  refine z_iconst (a := nI 1) d_Rows_mostOnRound_9 (by decide) ?_
  refine z_iload_2 d_Rows_mostOnRound_10 ?_
  refine z_ishl d_Rows_mostOnRound_11 ?_
  rw [nx_sh p (by omega)]
  refine z_aload_0 d_Rows_mostOnRound_12 ?_
  refine z_iload_1 d_Rows_mostOnRound_13 ?_
  refine z_Vi1 d_Rows_mostOnRound_14 k_Rows_19 (by first | assumption | exact zS0_at (by assumption) (by omega) | exact zS0_at rfl (by omega)) (t_Fen_believersIn (by assumption) (by assumption) (by omega) (by assumption)) ⟨Nat.le_of_ble_eq_true rfl, Nat.le_of_ble_eq_true rfl, Nat.le_of_ble_eq_true rfl, Nat.le_of_ble_eq_true rfl⟩ (Nat.le_of_ble_eq_true rfl) ?_
  intro r w hq
  obtain ⟨rfl, rfl⟩ := hq
  refine z_Si4 d_Rows_mostOnRound_17 k_Rows_43 (t_Rows_longest (by assumption) (by assumption) 7 p (2 ^ p) (by omega) h2p (by omega) (by omega)) ⟨Nat.le_of_ble_eq_true rfl, Nat.le_of_ble_eq_true rfl, Nat.le_of_ble_eq_true rfl, Nat.le_of_ble_eq_true rfl⟩ (Nat.le_of_ble_eq_true rfl) ?_
  intro r w hq
  obtain ⟨rfl, rfl⟩ := hq
  refine z_reti d_Rows_mostOnRound_20 ?_
  exact ⟨rfl, rfl⟩
theorem t_Rows_firstWithRow {p s d : Nat} (F : fenOk P S f) (N : fenIn I f nt np nl nn) (hp : p < 7) (hs : s < 128) (hd : np ≤ pcN s + 1 + d) (hd7 : d ≤ 7) : zEi G y_Rows_firstWithRow prog_7_method_10_code 7 (some .int) (d+3) [.ref f, .int (nI p), .int (nI s), .int a, .int b] (I, J, P, S) (fun r w => r = s_first (fun i => zB (I (f + 3) p &&& a &&& (nI s ^^^ -1)) i && decide (nI (s_lg (I (f + 3)) a np d i (s ||| 2 ^ i)) = b)) np 0 ∧ w = (I, J, P, S)) := by
  obtain ⟨F0, ⟨F8, F8s⟩, ⟨F9, F9s⟩, ⟨F10, F10s⟩, ⟨F11, F11s⟩, ⟨F12, F12s⟩, ⟨F13, F13s⟩, ⟨F14, F14s⟩, ⟨F15, F15s⟩, ⟨F16, F16s⟩, ⟨F17, F17s⟩, ⟨F18, F18s⟩, ⟨F19, F19s⟩, ⟨Y3, Y3s⟩, ⟨Y4, Y4s⟩, ⟨Y5, Y5s⟩, ⟨Y6, Y6s⟩⟩ := id F
  obtain ⟨⟨n1, n1b⟩, ⟨n2, n2b⟩, ⟨n3, n3b⟩, ⟨n4, n4b⟩, nof, non⟩ := id N
  refine zEi_of (lv := [some (.ref f), some (.int (nI p)), some (.int (nI s)), some (.int a), some (.int b), none, none]) (by decide) rfl (Nat.le_of_ble_eq_true rfl) ?_
  have loop : ∀ m j, np - j < m → j ≤ np → (s_first (fun i => zB (I (f + 3) p &&& a &&& (nI s ^^^ -1)) i && decide (nI (s_lg (I (f + 3)) a np d i (s ||| 2 ^ i)) = b)) (np - j) j = s_first (fun i => zB (I (f + 3) p &&& a &&& (nI s ^^^ -1)) i && decide (nI (s_lg (I (f + 3)) a np d i (s ||| 2 ^ i)) = b)) np 0) → zA G y_Rows_firstWithRow prog_7_method_10_code 7 (some .int) (zRm (d+3) 0 0) (zM G 0 0 (fun r w' => ∃ x, r = some (.int x) ∧ (fun r w => r = s_first (fun i => zB (I (f + 3) p &&& a &&& (nI s ^^^ -1)) i && decide (nI (s_lg (I (f + 3)) a np d i (s ||| 2 ^ i)) = b)) np 0 ∧ w = (I, J, P, S)) x w')) 17 [some (.ref f), some (.int (nI p)), some (.int (nI s)), some (.int a), some (.int b), some (.int (I (f + 3) p &&& a &&& (nI s ^^^ -1))), some (.int (nI j))] [] (I, J, P, S) 0 0 := by
    intro m
    induction m with
    | zero => intro j h; omega
    | succ m ih =>
      intro j hm hj hI
      refine z_iload_6 d_Rows_firstWithRow_17 ?_
      refine z_aload_0 d_Rows_firstWithRow_19 ?_
      refine z_getIv d_Rows_firstWithRow_20 f_Rows_28 (by first | assumption | exact zS0_at (by assumption) (by omega) | exact zS0_at rfl (by omega)) (by first | assumption | ((try simp (disch := omega) only [zu_same, zu_ne, zcp_ne, zfl_ne]); first | assumption | rfl)) ?_
      refine z_icmp_ge (tgt := 63) d_Rows_firstWithRow_23 (by decide) (fun hb => ?_) (fun hb => ?_)
      · have hb := (nI_leI (by omega) (by omega)).mp hb
        obtain rfl : j = np := by omega
        rw [Nat.sub_self, s_first] at hI
        refine z_iconst (a := -1) d_Rows_firstWithRow_63 (by decide) ?_
        refine z_reti d_Rows_firstWithRow_64 ?_
        exact ⟨hI, rfl⟩
      · have hb : j < np := Nat.lt_of_not_le (fun q => hb (nI_le q (by omega)))
        rw [show np - j = (np - (j + 1)) + 1 by omega, s_first] at hI
        refine z_iload_5 d_Rows_firstWithRow_26 ?_
        refine z_iload_6 d_Rows_firstWithRow_28 ?_
        refine z_ishr d_Rows_firstWithRow_30 ?_
        refine z_iconst (a := nI 1) d_Rows_firstWithRow_31 (by decide) ?_
        refine z_iand d_Rows_firstWithRow_32 ?_
        refine z_if_eq (tgt := 57) d_Rows_firstWithRow_33 (by decide) (fun hz => ?_) (fun hz => ?_)
        · rw [if_neg (fun q => absurd ((Bool.and_eq_true _ _).mp q).1 (zbit_n.mp hz))] at hI
          first | refine z_iinc_6 d_Rows_firstWithRow_57 rfl (zi_inc _) ?_ | refine z_iinc_6 d_Rows_firstWithRow_57 rfl rfl ?_
          refine z_goto (tgt := 17) d_Rows_firstWithRow_60 (by decide) ?_
          exact ih (j + 1) (by omega) (by omega) hI
        · have hz := zbit_p.mp hz
          have hzs : s.testBit j = false := by
            have h2 := hz
            rw [zbit, zB_and (by omega), zB_not (by omega), zB_nI (by omega)] at h2
            cases h3 : s.testBit j with
            | false => rfl
            | true => rw [h3] at h2; simp at h2
          have hpa := pc_add s hs j (by omega) hzs
          have hs2 := or_lt7 hs (show j < 7 by omega)
          refine z_aload_0 d_Rows_firstWithRow_36 ?_
          refine z_iload_6 d_Rows_firstWithRow_37 ?_
          refine z_iload_2 d_Rows_firstWithRow_39 ?_
          refine z_iconst (a := nI 1) d_Rows_firstWithRow_40 (by decide) ?_
          refine z_iload_6 d_Rows_firstWithRow_41 ?_
          refine z_ishl d_Rows_firstWithRow_43 ?_
          refine z_ior d_Rows_firstWithRow_44 ?_
          rw [nx_sh j (by omega), nx_or]
          refine z_iload_3 d_Rows_firstWithRow_45 ?_
          refine z_Si4 d_Rows_firstWithRow_46 k_Rows_43 (t_Rows_longest (by assumption) (by assumption) d j (s ||| 2 ^ j) (by omega) hs2 (by omega) (by omega)) (by refine ⟨?_, ?_, ?_, ?_⟩ <;> simp only [zRm] <;> omega) (Nat.le_of_ble_eq_true rfl) ?_
          intro r w hq
          obtain ⟨rfl, rfl⟩ := hq
          refine z_iload_4 d_Rows_firstWithRow_49 ?_
          refine z_icmp_ne (tgt := 57) d_Rows_firstWithRow_51 (by decide) (fun hd2 => ?_) (fun hd2 => ?_)
          · rw [if_neg (fun q => hd2 (of_decide_eq_true ((Bool.and_eq_true _ _).mp q).2))] at hI
            first | refine z_iinc_6 d_Rows_firstWithRow_57 rfl (zi_inc _) ?_ | refine z_iinc_6 d_Rows_firstWithRow_57 rfl rfl ?_
            refine z_goto (tgt := 17) d_Rows_firstWithRow_60 (by decide) ?_
            exact ih (j + 1) (by omega) (by omega) hI
          · rw [if_pos ((Bool.and_eq_true _ _).mpr ⟨hz, decide_eq_true hd2⟩)] at hI
            refine z_iload_6 d_Rows_firstWithRow_54 ?_
            refine z_reti d_Rows_firstWithRow_56 ?_
            exact ⟨hI, rfl⟩
  refine z_aload_0 d_Rows_firstWithRow_0 ?_
  refine z_getR d_Rows_firstWithRow_1 f_Rows_32 (by first | assumption | exact zS0_at (by assumption) (by omega) | exact zS0_at rfl (by omega)) (by first | assumption | exact zS0_at (by assumption) (by omega) | exact zS0_at rfl (by omega)) ?_
  refine z_iload_1 d_Rows_firstWithRow_4 ?_
  first | refine z_ialdNv d_Rows_firstWithRow_5 (by first | assumption | exact zS0_at (by assumption) (by omega) | exact zS0_at rfl (by omega)) (by omega) (by first | decide | omega) (by first | assumption | ((try simp (disch := omega) only [zu_same, zu_ne, zcp_ne, zfl_ne]); first | assumption | rfl)) ?_ | refine z_iald d_Rows_firstWithRow_5 (by first | assumption | exact zS0_at (by assumption) (by omega) | exact zS0_at rfl (by omega)) (by first | assumption | exact zS0_at (by assumption) (by omega) | exact zS0_at rfl (by omega)) ?_
  refine z_iload_3 d_Rows_firstWithRow_6 ?_
  refine z_iand d_Rows_firstWithRow_7 ?_
  refine z_iload_2 d_Rows_firstWithRow_8 ?_
  refine z_iconst (a := -1) d_Rows_firstWithRow_9 (by decide) ?_
  refine z_ixor d_Rows_firstWithRow_10 ?_
  refine z_iand d_Rows_firstWithRow_11 ?_
  first | refine z_istore_5 d_Rows_firstWithRow_12 rfl ?_ | (refine z_forget_4 ?_; refine z_istore_5 d_Rows_firstWithRow_12 rfl ?_)
  refine z_iconst (a := nI 0) d_Rows_firstWithRow_14 (by decide) ?_
  first | refine z_istore_6 d_Rows_firstWithRow_15 rfl ?_ | (refine z_forget_5 ?_; refine z_istore_6 d_Rows_firstWithRow_15 rfl ?_)
  exact loop (np + 1) 0 (by omega) (by omega) rfl
/-- the next on a round -/
def s_rb (mt : Nat → Int32) (tk : Int32) (np most j : Nat) (st : Nat × Nat) : Nat → Bool := fun i => zB (mt st.1 &&& tk &&& (nI st.2 ^^^ -1)) i && decide (nI (s_lg mt tk np (6 - j) i (st.2 ||| 2 ^ i)) = nI (most - (j + 1)))
/-- on a round: who, and who was there -/
def s_rnd (mt : Nat → Int32) (tk : Int32) (np p most : Nat) : Nat → Nat × Nat
  | 0 => (p, 2 ^ p)
  | j + 1 => ((s_first (s_rb mt tk np most j (s_rnd mt tk np p most j)) np 0).toNatClampNeg, (s_rnd mt tk np p most j).2 ||| 2 ^ (s_first (s_rb mt tk np most j (s_rnd mt tk np p most j)) np 0).toNatClampNeg)
theorem s_mx_at {b : Nat → Bool} {v : Nat → Nat} : ∀ n, s_mx b v n = 0 ∨ ∃ i, i < n ∧ b i = true ∧ v i = s_mx b v n := by
  intro n
  induction n with
  | zero => exact Or.inl rfl
  | succ n ih =>
    rw [s_mx]
    by_cases hb : b n = true
    · rw [if_pos hb]
      by_cases h : s_mx b v n ≤ v n
      · exact Or.inr ⟨n, by omega, hb, by omega⟩
      · rcases ih with h2 | ⟨i, h1, h2, h3⟩
        · omega
        · exact Or.inr ⟨i, by omega, h2, by omega⟩
    · rw [if_neg hb]
      rcases ih with h2 | ⟨i, h1, h2, h3⟩
      · exact Or.inl h2
      · exact Or.inr ⟨i, by omega, h2, h3⟩
theorem s_first_ex {b : Nat → Bool} : ∀ m j i, j ≤ i → i < j + m → b i = true → ∃ d, j ≤ d ∧ d ≤ i ∧ s_first b m j = nI d ∧ b d = true := by
  intro m
  induction m with
  | zero => intro j i h1 h2; omega
  | succ m ih =>
    intro j i h1 h2 h3
    rw [s_first]
    by_cases hb : b j = true
    · rw [if_pos hb]
      exact ⟨j, Nat.le_refl _, h1, rfl, hb⟩
    · rw [if_neg hb]
      rcases Nat.lt_or_ge j i with h | h
      · obtain ⟨d, g1, g2, g3, g4⟩ := ih (j + 1) i (by omega) (by omega) h3
        exact ⟨d, by omega, g2, g3, g4⟩
      · obtain rfl : i = j := by omega
        exact absurd h3 hb
theorem s_rnd_ok {mt : Nat → Int32} {tk : Int32} {np p most : Nat} (hnp : np ≤ 7) (hp : p < np) (hm : most = s_lg mt tk np 7 p (2 ^ p)) : ∀ j, j < most → ((s_rnd mt tk np p most j).1 < np ∧ (s_rnd mt tk np p most j).2 < 128 ∧ pcN (s_rnd mt tk np p most j).2 = j + 1 ∧ s_lg mt tk np (7 - j) (s_rnd mt tk np p most j).1 (s_rnd mt tk np p most j).2 = most - j ∧ j < 7) ∧ ∀ i, j = i + 1 → s_first (s_rb mt tk np most i (s_rnd mt tk np p most i)) np 0 = nI (s_rnd mt tk np p most j).1 ∧ (s_rnd mt tk np p most j).2 = (s_rnd mt tk np p most i).2 ||| 2 ^ (s_rnd mt tk np p most j).1 := by
  intro j
  induction j with
  | zero =>
    intro _
    refine ⟨⟨hp, Nat.pow_lt_pow_right (n := 7) (by decide) (by omega), ?_, hm.symm, by omega⟩, fun i h => by omega⟩
    have : ∀ p, p < 7 → pcN (2 ^ p) = 1 := by decide +kernel
    exact this p (by omega)
  | succ j ih =>
    intro hj
    obtain ⟨⟨h1, h2, h3, h4, h5⟩, -⟩ := ih (by omega)
    generalize hst : s_rnd mt tk np p most j = st at h1 h2 h3 h4
    have h6 : ¬ np ≤ pcN st.2 := by
      intro h
      rw [show 7 - j = (6 - j) + 1 by omega, s_lg, if_pos h] at h4
      omega
    have h7 : s_mx (zB (mt st.1 &&& tk &&& (nI st.2 ^^^ -1))) (fun i => s_lg mt tk np (6 - j) i (st.2 ||| 2 ^ i)) np = most - (j + 1) := by
      rw [show 7 - j = (6 - j) + 1 by omega, s_lg, if_neg h6] at h4
      omega
    rcases s_mx_at (b := zB (mt st.1 &&& tk &&& (nI st.2 ^^^ -1))) (v := fun i => s_lg mt tk np (6 - j) i (st.2 ||| 2 ^ i)) np with h8 | ⟨i, g1, g2, g3⟩
    · omega
    · rw [h7] at g3
      have g3 : s_lg mt tk np (6 - j) i (st.2 ||| 2 ^ i) = most - (j + 1) := g3
      obtain ⟨q, q1, q2, q3, q4⟩ := s_first_ex (b := s_rb mt tk np most j st) np 0 i (by omega) (by omega) ((Bool.and_eq_true _ _).mpr ⟨g2, decide_eq_true (by rw [g3])⟩)
      have e1 : (s_rnd mt tk np p most (j + 1)).1 = q := by
        rw [s_rnd, hst, q3]
        exact nI_clamp (by omega)
      have e2 : (s_rnd mt tk np p most (j + 1)).2 = st.2 ||| 2 ^ q := by
        rw [s_rnd, hst, q3]
        show _ ||| 2 ^ (nI q).toNatClampNeg = _
        rw [nI_clamp (by omega)]
      rw [s_rb, Bool.and_eq_true, decide_eq_true_eq] at q4
      have hzs : st.2.testBit q = false := by
        have h9 := q4.1
        rw [zB_and (by omega), zB_not (by omega), zB_nI (by omega)] at h9
        cases h10 : st.2.testBit q with
        | false => rfl
        | true => rw [h10] at h9; simp at h9
      have l1 := s_lg_le (mt := mt) (tk := tk) (np := np) (6 - j) q (st.2 ||| 2 ^ q)
      have l2 := s_lg_le (mt := mt) (tk := tk) (np := np) 7 p (2 ^ p)
      rw [e1, e2]
      have hle := pc_le _ (or_lt7 h2 (show q < 7 by omega))
      have hpa := pc_add _ h2 q (by omega) hzs
      refine ⟨⟨by omega, or_lt7 h2 (by omega), by omega, ?_, by omega⟩, fun i hi => ?_⟩
      · rw [show 7 - (j + 1) = 6 - j by omega]
        exact (nI_eq (by omega) (by omega)).mp q4.2
      · obtain rfl : i = j := by omega
        rw [hst]
        exact ⟨q3, rfl⟩
theorem t_Rows_onRound {t k p kk most : Nat} (F : fenOk P S f) (N : fenIn I f nt np nl nn) (ht : t < nn) (hk : I (f + 5) t = nI k) (hp : I (f + 6) t = nI p) (hp2 : p < np) (hmost : most = s_lg (I (f + 3)) (s_set (fun p => zB (I (f + 2) p) k) np) np 7 p (2 ^ p)) (hkk : kk < most) : zEi G y_Rows_onRound prog_7_method_9_code 8 (some .int) 11 [.ref f, .int (nI t), .int (nI kk)] (I, J, P, S) (fun r w => r = nI (s_rnd (I (f + 3)) (s_set (fun p => zB (I (f + 2) p) k) np) np p most kk).1 ∧ w = (I, J, P, S)) := by
  obtain ⟨F0, ⟨F8, F8s⟩, ⟨F9, F9s⟩, ⟨F10, F10s⟩, ⟨F11, F11s⟩, ⟨F12, F12s⟩, ⟨F13, F13s⟩, ⟨F14, F14s⟩, ⟨F15, F15s⟩, ⟨F16, F16s⟩, ⟨F17, F17s⟩, ⟨F18, F18s⟩, ⟨F19, F19s⟩, ⟨Y3, Y3s⟩, ⟨Y4, Y4s⟩, ⟨Y5, Y5s⟩, ⟨Y6, Y6s⟩⟩ := id F
  obtain ⟨⟨n1, n1b⟩, ⟨n2, n2b⟩, ⟨n3, n3b⟩, ⟨n4, n4b⟩, nof, non⟩ := id N
  have h2p : 2 ^ p < 128 := Nat.pow_lt_pow_right (n := 7) (by decide) (by omega)
  have l2 := s_lg_le (mt := I (f + 3)) (tk := s_set (fun p => zB (I (f + 2) p) k) np) (np := np) 7 p (2 ^ p)
  have hok := s_rnd_ok (mt := I (f + 3)) (tk := s_set (fun p => zB (I (f + 2) p) k) np) (most := most) n2b hp2 hmost
  refine zEi_of (lv := [some (.ref f), some (.int (nI t)), some (.int (nI kk)), none, none, none, none, none]) (by decide) rfl (Nat.le_of_ble_eq_true rfl) ?_
  have loop : ∀ m j, kk - j < m → j ≤ kk → zA G y_Rows_onRound prog_7_method_9_code 8 (some .int) (zRm 11 0 0) (zM G 0 0 (fun r w' => ∃ x, r = some (.int x) ∧ (fun r w => r = nI (s_rnd (I (f + 3)) (s_set (fun p => zB (I (f + 2) p) k) np) np p most kk).1 ∧ w = (I, J, P, S)) x w')) 46 [some (.ref f), some (.int (nI t)), some (.int (nI kk)), some (.int (s_set (fun p => zB (I (f + 2) p) k) np)), some (.int (nI (s_rnd (I (f + 3)) (s_set (fun p => zB (I (f + 2) p) k) np) np p most j).1)), some (.int (nI (s_rnd (I (f + 3)) (s_set (fun p => zB (I (f + 2) p) k) np) np p most j).2)), some (.int (nI most)), some (.int (nI (j + 1)))] [] (I, J, P, S) 0 0 := by
    intro m
    induction m with
    | zero => intro j h; omega
    | succ m ih =>
      intro j hm hj
      obtain ⟨⟨o1, o2, o3, o4, o5⟩, -⟩ := hok j (by omega)
      refine z_iload_7 d_Rows_onRound_46 ?_
      refine z_iload_2 d_Rows_onRound_48 ?_
      refine z_icmp_gt (tgt := 97) d_Rows_onRound_49 (by decide) (fun hb => ?_) (fun hb => ?_)
      · have hb := (nI_ltI (by omega) (by omega)).mp hb
        obtain rfl : j = kk := by omega
        refine z_iload_4 d_Rows_onRound_97 ?_
        refine z_reti d_Rows_onRound_99 ?_
        exact ⟨rfl, rfl⟩
      · have hb : j < kk := by
          rcases Nat.lt_or_ge j kk with h | h
          · exact h
          · exact absurd (nI_lt (by omega) (by omega)) hb
        obtain ⟨⟨u1, u2, u3, u4, u5⟩, u6⟩ := hok (j + 1) (by omega)
        obtain ⟨u7, u8⟩ := u6 j rfl
        have q := ih (j + 1) (by omega) (by omega)
        rw [u8] at q
        refine z_iload_4 d_Rows_onRound_52 ?_
        refine z_if_lt (tgt := 97) d_Rows_onRound_54 (by decide) (fun h => absurd h (nI_pos (by omega))) (fun _ => ?_)
        refine z_aload_0 d_Rows_onRound_57 ?_
        refine z_iload_4 d_Rows_onRound_58 ?_
        refine z_iload_5 d_Rows_onRound_60 ?_
        refine z_iload_3 d_Rows_onRound_62 ?_
        refine z_iload_6 d_Rows_onRound_63 ?_
        refine z_iload_7 d_Rows_onRound_65 ?_
        first | refine z_isubN d_Rows_onRound_67 (by omega) ?_ | refine z_isub d_Rows_onRound_67 ?_
        refine z_Si5 d_Rows_onRound_68 k_Rows_57 (t_Rows_firstWithRow (d := 6 - j) (by assumption) (by assumption) (by omega) (by omega) (by omega) (by omega)) (by refine ⟨?_, ?_, ?_, ?_⟩ <;> simp only [zRm] <;> omega) (Nat.le_of_ble_eq_true rfl) ?_
        intro r w hq
        obtain ⟨rfl, rfl⟩ := hq
        rw [show (fun i => zB (I (f + 3) (s_rnd (I (f + 3)) (s_set (fun p => zB (I (f + 2) p) k) np) np p most j).1 &&& (s_set (fun p => zB (I (f + 2) p) k) np) &&& (nI (s_rnd (I (f + 3)) (s_set (fun p => zB (I (f + 2) p) k) np) np p most j).2 ^^^ -1)) i && decide (nI (s_lg (I (f + 3)) (s_set (fun p => zB (I (f + 2) p) k) np) np (6 - j) i ((s_rnd (I (f + 3)) (s_set (fun p => zB (I (f + 2) p) k) np) np p most j).2 ||| 2 ^ i)) = nI (most - (j + 1)))) = s_rb (I (f + 3)) (s_set (fun p => zB (I (f + 2) p) k) np) np most j (s_rnd (I (f + 3)) (s_set (fun p => zB (I (f + 2) p) k) np) np p most j) from rfl, u7]
        first | refine z_istore_4 d_Rows_onRound_71 rfl ?_ | (refine z_forget_3 ?_; refine z_istore_4 d_Rows_onRound_71 rfl ?_)
        refine z_iload_5 d_Rows_onRound_73 ?_
        refine z_iload_4 d_Rows_onRound_75 ?_
        refine z_if_ge (tgt := 84) d_Rows_onRound_77 (by decide) (fun _ => ?_) (fun h => absurd (nI_pos' (by omega)) h)
        refine z_iconst (a := nI 1) d_Rows_onRound_84 (by decide) ?_
        refine z_iload_4 d_Rows_onRound_85 ?_
        refine z_ishl d_Rows_onRound_87 ?_
        refine z_ior d_Rows_onRound_88 ?_
        rw [nx_sh _ (by omega), nx_or]
        first | refine z_istore_5 d_Rows_onRound_89 rfl ?_ | (refine z_forget_4 ?_; refine z_istore_5 d_Rows_onRound_89 rfl ?_)
        first | refine z_iinc_7 d_Rows_onRound_91 rfl (zi_inc _) ?_ | refine z_iinc_7 d_Rows_onRound_91 rfl rfl ?_
        refine z_goto (tgt := 46) d_Rows_onRound_94 (by decide) ?_
        exact q
  refine z_aload_0 d_Rows_onRound_0 ?_
  refine z_iload_1 d_Rows_onRound_1 ?_
  refine z_Vi1 d_Rows_onRound_2 k_Rows_19 (by first | assumption | exact zS0_at (by assumption) (by omega) | exact zS0_at rfl (by omega)) (t_Fen_believersIn (by assumption) (by assumption) (by omega) (by assumption)) ⟨Nat.le_of_ble_eq_true rfl, Nat.le_of_ble_eq_true rfl, Nat.le_of_ble_eq_true rfl, Nat.le_of_ble_eq_true rfl⟩ (Nat.le_of_ble_eq_true rfl) ?_
  intro r w hq
  obtain ⟨rfl, rfl⟩ := hq
  first | refine z_istore_3 d_Rows_onRound_5 rfl ?_ | (refine z_forget_2 ?_; refine z_istore_3 d_Rows_onRound_5 rfl ?_)
  refine z_aload_0 d_Rows_onRound_6 ?_
  refine z_getR d_Rows_onRound_7 f_Rows_25 (by first | assumption | exact zS0_at (by assumption) (by omega) | exact zS0_at rfl (by omega)) (by first | assumption | exact zS0_at (by assumption) (by omega) | exact zS0_at rfl (by omega)) ?_
  refine z_iload_1 d_Rows_onRound_10 ?_
  first | refine z_ialdNv d_Rows_onRound_11 (by first | assumption | exact zS0_at (by assumption) (by omega) | exact zS0_at rfl (by omega)) (by omega) (by first | decide | omega) (by first | assumption | ((try simp (disch := omega) only [zu_same, zu_ne, zcp_ne, zfl_ne]); first | assumption | rfl)) ?_ | refine z_iald d_Rows_onRound_11 (by first | assumption | exact zS0_at (by assumption) (by omega) | exact zS0_at rfl (by omega)) (by first | assumption | exact zS0_at (by assumption) (by omega) | exact zS0_at rfl (by omega)) ?_
  first | refine z_istore_4 d_Rows_onRound_12 rfl ?_ | (refine z_forget_3 ?_; refine z_istore_4 d_Rows_onRound_12 rfl ?_)
  refine z_iconst (a := nI 1) d_Rows_onRound_14 (by decide) ?_
  refine z_iload_4 d_Rows_onRound_15 ?_
  refine z_ishl d_Rows_onRound_17 ?_
  rw [nx_sh p (by omega)]
  first | refine z_istore_5 d_Rows_onRound_18 rfl ?_ | (refine z_forget_4 ?_; refine z_istore_5 d_Rows_onRound_18 rfl ?_)
  refine z_aload_0 d_Rows_onRound_20 ?_
  refine z_iload_4 d_Rows_onRound_21 ?_
  refine z_iload_5 d_Rows_onRound_23 ?_
  refine z_iload_3 d_Rows_onRound_25 ?_
  refine z_Si4 d_Rows_onRound_26 k_Rows_43 (t_Rows_longest (by assumption) (by assumption) 7 p (2 ^ p) (by omega) h2p (by omega) (by omega)) ⟨Nat.le_of_ble_eq_true rfl, Nat.le_of_ble_eq_true rfl, Nat.le_of_ble_eq_true rfl, Nat.le_of_ble_eq_true rfl⟩ (Nat.le_of_ble_eq_true rfl) ?_
  intro r w hq
  obtain ⟨rfl, rfl⟩ := hq
  rw [← hmost]
  first | refine z_istore_6 d_Rows_onRound_29 rfl ?_ | (refine z_forget_5 ?_; refine z_istore_6 d_Rows_onRound_29 rfl ?_)
  refine z_iload_2 d_Rows_onRound_31 ?_
  refine z_if_lt (tgt := 41) d_Rows_onRound_32 (by decide) (fun h => absurd h (nI_pos (by omega))) (fun _ => ?_)
  refine z_iload_2 d_Rows_onRound_35 ?_
  refine z_iload_6 d_Rows_onRound_36 ?_
  refine z_icmp_lt (tgt := 43) d_Rows_onRound_38 (by decide) (fun _ => ?_) (fun h => absurd (nI_lt hkk (by omega)) h)
  refine z_iconst (a := nI 1) d_Rows_onRound_43 (by decide) ?_
  first | refine z_istore_7 d_Rows_onRound_44 rfl ?_ | (refine z_forget_6 ?_; refine z_istore_7 d_Rows_onRound_44 rfl ?_)
  exact loop (kk + 1) 0 (by omega) (by omega)
theorem t_Rows_onRound0 {t k p most : Nat} (F : fenOk P S f) (N : fenIn I f nt np nl nn) (ht : t < nn) (hk : I (f + 5) t = nI k) (hp : I (f + 6) t = nI p) (hp2 : p < np) (hmost : most = s_lg (I (f + 3)) (s_set (fun p => zB (I (f + 2) p) k) np) np 7 p (2 ^ p)) (hkk : a < 0 ∨ nI most ≤ a) : zEi G y_Rows_onRound prog_7_method_9_code 8 (some .int) 11 [.ref f, .int (nI t), .int a] (I, J, P, S) (fun r w => r = -1 ∧ w = (I, J, P, S)) := by
  obtain ⟨F0, ⟨F8, F8s⟩, ⟨F9, F9s⟩, ⟨F10, F10s⟩, ⟨F11, F11s⟩, ⟨F12, F12s⟩, ⟨F13, F13s⟩, ⟨F14, F14s⟩, ⟨F15, F15s⟩, ⟨F16, F16s⟩, ⟨F17, F17s⟩, ⟨F18, F18s⟩, ⟨F19, F19s⟩, ⟨Y3, Y3s⟩, ⟨Y4, Y4s⟩, ⟨Y5, Y5s⟩, ⟨Y6, Y6s⟩⟩ := id F
  obtain ⟨⟨n1, n1b⟩, ⟨n2, n2b⟩, ⟨n3, n3b⟩, ⟨n4, n4b⟩, nof, non⟩ := id N
  have h2p : 2 ^ p < 128 := Nat.pow_lt_pow_right (n := 7) (by decide) (by omega)
  refine zEi_of (lv := [some (.ref f), some (.int (nI t)), some (.int a), none, none, none, none, none]) (by decide) rfl (Nat.le_of_ble_eq_true rfl) ?_
  refine z_aload_0 d_Rows_onRound_0 ?_
  refine z_iload_1 d_Rows_onRound_1 ?_
  refine z_Vi1 d_Rows_onRound_2 k_Rows_19 (by first | assumption | exact zS0_at (by assumption) (by omega) | exact zS0_at rfl (by omega)) (t_Fen_believersIn (by assumption) (by assumption) (by omega) (by assumption)) ⟨Nat.le_of_ble_eq_true rfl, Nat.le_of_ble_eq_true rfl, Nat.le_of_ble_eq_true rfl, Nat.le_of_ble_eq_true rfl⟩ (Nat.le_of_ble_eq_true rfl) ?_
  intro r w hq
  obtain ⟨rfl, rfl⟩ := hq
  first | refine z_istore_3 d_Rows_onRound_5 rfl ?_ | (refine z_forget_2 ?_; refine z_istore_3 d_Rows_onRound_5 rfl ?_)
  refine z_aload_0 d_Rows_onRound_6 ?_
  refine z_getR d_Rows_onRound_7 f_Rows_25 (by first | assumption | exact zS0_at (by assumption) (by omega) | exact zS0_at rfl (by omega)) (by first | assumption | exact zS0_at (by assumption) (by omega) | exact zS0_at rfl (by omega)) ?_
  refine z_iload_1 d_Rows_onRound_10 ?_
  first | refine z_ialdNv d_Rows_onRound_11 (by first | assumption | exact zS0_at (by assumption) (by omega) | exact zS0_at rfl (by omega)) (by omega) (by first | decide | omega) (by first | assumption | ((try simp (disch := omega) only [zu_same, zu_ne, zcp_ne, zfl_ne]); first | assumption | rfl)) ?_ | refine z_iald d_Rows_onRound_11 (by first | assumption | exact zS0_at (by assumption) (by omega) | exact zS0_at rfl (by omega)) (by first | assumption | exact zS0_at (by assumption) (by omega) | exact zS0_at rfl (by omega)) ?_
  first | refine z_istore_4 d_Rows_onRound_12 rfl ?_ | (refine z_forget_3 ?_; refine z_istore_4 d_Rows_onRound_12 rfl ?_)
  refine z_iconst (a := nI 1) d_Rows_onRound_14 (by decide) ?_
  refine z_iload_4 d_Rows_onRound_15 ?_
  refine z_ishl d_Rows_onRound_17 ?_
  rw [nx_sh p (by omega)]
  first | refine z_istore_5 d_Rows_onRound_18 rfl ?_ | (refine z_forget_4 ?_; refine z_istore_5 d_Rows_onRound_18 rfl ?_)
  refine z_aload_0 d_Rows_onRound_20 ?_
  refine z_iload_4 d_Rows_onRound_21 ?_
  refine z_iload_5 d_Rows_onRound_23 ?_
  refine z_iload_3 d_Rows_onRound_25 ?_
  refine z_Si4 d_Rows_onRound_26 k_Rows_43 (t_Rows_longest (by assumption) (by assumption) 7 p (2 ^ p) (by omega) h2p (by omega) (by omega)) ⟨Nat.le_of_ble_eq_true rfl, Nat.le_of_ble_eq_true rfl, Nat.le_of_ble_eq_true rfl, Nat.le_of_ble_eq_true rfl⟩ (Nat.le_of_ble_eq_true rfl) ?_
  intro r w hq
  obtain ⟨rfl, rfl⟩ := hq
  rw [← hmost]
  first | refine z_istore_6 d_Rows_onRound_29 rfl ?_ | (refine z_forget_5 ?_; refine z_istore_6 d_Rows_onRound_29 rfl ?_)
  refine z_iload_2 d_Rows_onRound_31 ?_
  refine z_if_lt (tgt := 41) d_Rows_onRound_32 (by decide) (fun h1 => ?_) (fun h1 => ?_)
  · refine z_iconst (a := -1) d_Rows_onRound_41 (by decide) ?_
    refine z_reti d_Rows_onRound_42 ?_
    exact ⟨rfl, rfl⟩
  · refine z_iload_2 d_Rows_onRound_35 ?_
    refine z_iload_6 d_Rows_onRound_36 ?_
    refine z_icmp_lt (tgt := 43) d_Rows_onRound_38 (by decide) (fun h => ?_) (fun _ => ?_)
    · rcases hkk with h2 | h2
      · exact absurd h2 h1
      · exact absurd h (Int32.not_lt.mpr h2)
    · refine z_iconst (a := -1) d_Rows_onRound_41 (by decide) ?_
      refine z_reti d_Rows_onRound_42 ?_
      exact ⟨rfl, rfl⟩
/-- wheels: so many more on a row that ends with one -/
def s_wh (gv : Nat → Int32) (front : Nat) : Nat → Nat → Int32 → Int32
  | 0, last, _ => (gv last >>> (nI front &&& 31)) &&& nI 1
  | m + 1, last, seen => s_sum (zB (gv last &&& (seen ^^^ -1))) (fun i => s_wh gv front m i (seen ||| (nI 1 <<< (nI i &&& 31)))) 7
theorem t_Rows_wheelsOn {q a : Nat} (h2 : S[a]? = some (100, 7)) (mo : Nat) : ∀ (last : Nat) (seen : Int32), last < 7 → mo ≤ 7 → zEi G y_Rows_wheelsOn prog_7_method_12_code 8 (some .int) (mo+1) [.ref a, .int (nI q), .int (nI last), .int seen, .int (nI mo)] (I, J, P, S) (fun r w => r = s_wh (I a) q mo last seen ∧ w = (I, J, P, S)) := by
  induction mo with
  | zero =>
    intro last seen hl hm
    refine zEi_of (lv := [some (.ref a), some (.int (nI q)), some (.int (nI last)), some (.int seen), some (.int (nI 0)), none, none, none]) (by decide) rfl (Nat.le_of_ble_eq_true rfl) ?_
    refine z_iload_4 d_Rows_wheelsOn_0 ?_
    refine z_if_gt (tgt := 13) d_Rows_wheelsOn_2 (by decide) (fun h => absurd h (by decide)) (fun _ => ?_)
    refine z_aload_0 d_Rows_wheelsOn_5 ?_
    refine z_iload_2 d_Rows_wheelsOn_6 ?_
    first | refine z_ialdNv d_Rows_wheelsOn_7 (by first | assumption | exact zS0_at (by assumption) (by omega) | exact zS0_at rfl (by omega)) (by omega) (by first | decide | omega) (by first | assumption | ((try simp (disch := omega) only [zu_same, zu_ne, zcp_ne, zfl_ne]); first | assumption | rfl)) ?_ | refine z_iald d_Rows_wheelsOn_7 (by first | assumption | exact zS0_at (by assumption) (by omega) | exact zS0_at rfl (by omega)) (by first | assumption | exact zS0_at (by assumption) (by omega) | exact zS0_at rfl (by omega)) ?_
    refine z_iload_1 d_Rows_wheelsOn_8 ?_
    refine z_ishr d_Rows_wheelsOn_9 ?_
    refine z_iconst (a := nI 1) d_Rows_wheelsOn_10 (by decide) ?_
    refine z_iand d_Rows_wheelsOn_11 ?_
    refine z_reti d_Rows_wheelsOn_12 ?_
    exact ⟨rfl, rfl⟩
  | succ mo ihm =>
    intro last seen hl hm7
    refine zEi_of (lv := [some (.ref a), some (.int (nI q)), some (.int (nI last)), some (.int seen), some (.int (nI (mo + 1))), none, none, none]) (by decide) rfl (Nat.le_of_ble_eq_true rfl) ?_
    have loop : ∀ m j, 7 - j < m → j ≤ 7 → zA G y_Rows_wheelsOn prog_7_method_12_code 8 (some .int) (zRm ((mo + 1)+1) 0 0) (zM G 0 0 (fun r w' => ∃ x, r = some (.int x) ∧ (fun r w => r = s_wh (I a) q (mo + 1) last seen ∧ w = (I, J, P, S)) x w')) 28 [some (.ref a), some (.int (nI q)), some (.int (nI last)), some (.int seen), some (.int (nI (mo + 1))), some (.int (s_sum (zB (I a last &&& (seen ^^^ -1))) (fun i => s_wh (I a) q mo i (seen ||| (nI 1 <<< (nI i &&& 31)))) j)), some (.int (I a last &&& (seen ^^^ -1))), some (.int (nI j))] [] (I, J, P, S) 0 0 := by
      intro m
      induction m with
      | zero => intro j h; omega
      | succ m ih =>
        intro j hm hj
        refine z_iload_7 d_Rows_wheelsOn_28 ?_
        refine z_bipush (a := nI 7) d_Rows_wheelsOn_30 (by decide) ?_
        refine z_icmp_ge (tgt := 73) d_Rows_wheelsOn_32 (by decide) (fun hb => ?_) (fun hb => ?_)
        · have hb := (nI_leI (by omega) (by omega)).mp hb
          obtain rfl : j = 7 := by omega
          refine z_iload_5 d_Rows_wheelsOn_73 ?_
          refine z_reti d_Rows_wheelsOn_75 ?_
          exact ⟨rfl, rfl⟩
        · have hb : j < 7 := Nat.lt_of_not_le (fun q => hb (nI_le q (by omega)))
          have q0 := ih (j + 1) (by omega) (by omega)
          rw [s_sum] at q0
          refine z_iload_6 d_Rows_wheelsOn_35 ?_
          refine z_iload_7 d_Rows_wheelsOn_37 ?_
          refine z_ishr d_Rows_wheelsOn_39 ?_
          refine z_iconst (a := nI 1) d_Rows_wheelsOn_40 (by decide) ?_
          refine z_iand d_Rows_wheelsOn_41 ?_
          refine z_if_eq (tgt := 67) d_Rows_wheelsOn_42 (by decide) (fun hz => ?_) (fun hz => ?_)
          · rw [if_neg (zbit_n.mp hz)] at q0
            first | refine z_iinc_7 d_Rows_wheelsOn_67 rfl (zi_inc _) ?_ | refine z_iinc_7 d_Rows_wheelsOn_67 rfl rfl ?_
            refine z_goto (tgt := 28) d_Rows_wheelsOn_70 (by decide) ?_
            exact q0
          · rw [if_pos (zbit_p.mp hz)] at q0
            refine z_iload_5 d_Rows_wheelsOn_45 ?_
            refine z_aload_0 d_Rows_wheelsOn_47 ?_
            refine z_iload_1 d_Rows_wheelsOn_48 ?_
            refine z_iload_7 d_Rows_wheelsOn_49 ?_
            refine z_iload_3 d_Rows_wheelsOn_51 ?_
            refine z_iconst (a := nI 1) d_Rows_wheelsOn_52 (by decide) ?_
            refine z_iload_7 d_Rows_wheelsOn_53 ?_
            refine z_ishl d_Rows_wheelsOn_55 ?_
            refine z_ior d_Rows_wheelsOn_56 ?_
            refine z_iload_4 d_Rows_wheelsOn_57 ?_
            refine z_iconst (a := nI 1) d_Rows_wheelsOn_59 (by decide) ?_
            first | refine z_isubN d_Rows_wheelsOn_60 (by omega) ?_ | refine z_isub d_Rows_wheelsOn_60 ?_
            refine z_Si5 d_Rows_wheelsOn_61 k_Rows_76 (ihm j _ (by omega) (by omega)) (by refine ⟨?_, ?_, ?_, ?_⟩ <;> simp only [zRm] <;> omega) (Nat.le_of_ble_eq_true rfl) ?_
            intro r w hq
            obtain ⟨rfl, rfl⟩ := hq
            first | refine z_iaddN d_Rows_wheelsOn_64 ?_ | refine z_iadd d_Rows_wheelsOn_64 ?_
            first | refine z_istore_5 d_Rows_wheelsOn_65 rfl ?_ | (refine z_forget_4 ?_; refine z_istore_5 d_Rows_wheelsOn_65 rfl ?_)
            first | refine z_iinc_7 d_Rows_wheelsOn_67 rfl (zi_inc _) ?_ | refine z_iinc_7 d_Rows_wheelsOn_67 rfl rfl ?_
            refine z_goto (tgt := 28) d_Rows_wheelsOn_70 (by decide) ?_
            exact q0
    refine z_iload_4 d_Rows_wheelsOn_0 ?_
    refine z_if_gt (tgt := 13) d_Rows_wheelsOn_2 (by decide) (fun _ => ?_) (fun h => absurd (by rw [← nI_0]; exact nI_lt (by omega) (by omega)) h)
    refine z_iconst (a := nI 0) d_Rows_wheelsOn_13 (by decide) ?_
    first | refine z_istore_5 d_Rows_wheelsOn_14 rfl ?_ | (refine z_forget_4 ?_; refine z_istore_5 d_Rows_wheelsOn_14 rfl ?_)
    refine z_aload_0 d_Rows_wheelsOn_16 ?_
    refine z_iload_2 d_Rows_wheelsOn_17 ?_
    first | refine z_ialdNv d_Rows_wheelsOn_18 (by first | assumption | exact zS0_at (by assumption) (by omega) | exact zS0_at rfl (by omega)) (by omega) (by first | decide | omega) (by first | assumption | ((try simp (disch := omega) only [zu_same, zu_ne, zcp_ne, zfl_ne]); first | assumption | rfl)) ?_ | refine z_iald d_Rows_wheelsOn_18 (by first | assumption | exact zS0_at (by assumption) (by omega) | exact zS0_at rfl (by omega)) (by first | assumption | exact zS0_at (by assumption) (by omega) | exact zS0_at rfl (by omega)) ?_
    refine z_iload_3 d_Rows_wheelsOn_19 ?_
    refine z_iconst (a := -1) d_Rows_wheelsOn_20 (by decide) ?_
    refine z_ixor d_Rows_wheelsOn_21 ?_
    refine z_iand d_Rows_wheelsOn_22 ?_
    first | refine z_istore_6 d_Rows_wheelsOn_23 rfl ?_ | (refine z_forget_5 ?_; refine z_istore_6 d_Rows_wheelsOn_23 rfl ?_)
    refine z_iconst (a := nI 0) d_Rows_wheelsOn_25 (by decide) ?_
    first | refine z_istore_7 d_Rows_wheelsOn_26 rfl ?_ | (refine z_forget_6 ?_; refine z_istore_7 d_Rows_wheelsOn_26 rfl ?_)
    exact loop 8 0 (by omega) (by omega)
end C7
