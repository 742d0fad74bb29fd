/-! the reference's reader of a FEN: people, parts -/
section MF5
def q_truths (a : tk → tk) (N : Nat → Int64) (nt : Nat) : Nat → Int32 → tk → pR (Int32 × tk)
  | 0, s, t => .inr (s, t)
  | n + 1, s, t => if tkd t = 1 then pb (p_known N nt t) (fun k => if zB s k.toNatClampNeg then .inl (5, tst t) else q_truths a N nt n (s ||| (nI 1 <<< (k &&& 31))) (a t)) else .inr (s, t)
def q_person (a : tk → tk) (s : pS) (t : tk) : pR (pS × tk) := pb (if s.1.2.1 < 7 then p_newn a s (a t) else .inl (6, tst t)) (fun n => pb (if tkw n.2 = nI 4 then q_truths a (s.2.2 9) s.1.1 7 (nI 0) (a n.2) else .inr (nI 0, n.2)) (fun v => .inr (((s.1.1, s.1.2.1 + 1, s.1.2.2.1, s.1.2.2.2.1, s.1.2.2.2.2), zu (zu (zu (zu s.2.1 2 s.1.2.1 v.1) 3 s.1.2.1 (nI 0)) 4 s.1.2.1 (nI 0)) 0 2 (nI (s.1.2.1 + 1)), zu s.2.2 10 s.1.2.1 n.1), v.2)))
def q_part (a : tk → tk) (s : pS) (t : tk) : pR (pS × tk) := if tkw t = nI 0 then q_odds a s t else if tkw t = nI 1 then q_trait a s t else if tkw t = nI 3 then q_person a s t else if tkw t = nI 5 then q_lane a s t else if tkw t = nI 6 then q_tin a s t else .inl (p_mis t)
theorem s_tok_sg (T : Nat → Int32) (L : Nat) (K : Nat → Int64) (p : Nat) : ¬ tkd (s_tok T L K p) = 3 → tsg (s_tok T L K p) = nI 0 := by
  unfold s_tok s_tok1
  split
  · intro _; rfl
  · split
    · dsimp only
      split
      · intro _; rfl
      · intro _; rfl
    · split
      · intro _; rfl
      · intro h
        have h : ¬ (if c_sg (T _) = true then 3 else 4) = 3 := h
        show (if c_sg (T _) = true then T _ else nI 0) = nI 0
        split
        · rename_i hc
          rw [if_pos hc] at h
          exact absurd rfl h
        · rfl
theorem p_isN_1 {t : tk} (h : p_isN t = true) : tkd t = 1 := by
  unfold p_isN at h
  simp only [Bool.and_eq_true, decide_eq_true_eq] at h
  exact h.1.1
theorem q_truths_p {a : tk → tk} {N : Nat → Int64} {nt : Nat} (hA : ∀ t, ¬ tkd (a t) = 3 → tsg (a t) = nI 0) {β : Type} (R : Int32 → tk → pR β) : ∀ n s t, pb (p_truths a N nt n s (a t)) (fun v => pb (p_semi a v.2) (fun t' => R v.1 t')) = pb (q_truths a N nt n s (a t)) (fun v => pb (p_semi a v.2) (fun t' => R v.1 t')) := by
  intro n
  induction n with
  | zero => intro s t; rfl
  | succ n ih =>
    intro s t
    rw [p_truths, q_truths]
    by_cases h : p_isN (a t) = true
    · rw [if_pos h, if_pos (p_isN_1 h)]
      rcases p_known N nt (a t) with e | k
      · rfl
      · by_cases hz : zB s k.toNatClampNeg = true
        · dsimp only [pb]
          rw [if_pos hz, if_pos hz]
        · dsimp only [pb]
          rw [if_neg hz, if_neg hz]
          exact ih _ _
    · rw [if_neg h]
      by_cases h1 : tkd (a t) = 1
      · rw [if_pos h1]
        have e1 : p_known N nt (a t) = .inl (p_mis (a t)) := by unfold p_known; rw [if_neg h]
        have e2 : p_semi a (a t) = .inl (p_mis (a t)) := by
          unfold p_semi
          rw [if_neg]
          rw [hA t (by omega)]
          decide
        rw [e1]
        dsimp only [pb]
        rw [e2]
      · rw [if_neg h1]
theorem q_person_p {a : tk → tk} {s : pS} {t : tk} (hA : ∀ t, ¬ tkd (a t) = 3 → tsg (a t) = nI 0) : p_person a s t = q_semi a (q_person a s t) := by
  unfold p_person q_person
  split
  · rcases p_newn a s (a t) with e | n
    · rfl
    · show pb (if tkw n.2 = nI 4 then p_truths a (s.2.2 9) s.1.1 7 (nI 0) (a n.2) else .inr (nI 0, n.2)) (fun v => pb (p_semi a v.2) (fun t' => .inr (((s.1.1, s.1.2.1 + 1, s.1.2.2.1, s.1.2.2.2.1, s.1.2.2.2.2), zu (zu (zu (zu s.2.1 2 s.1.2.1 v.1) 3 s.1.2.1 (nI 0)) 4 s.1.2.1 (nI 0)) 0 2 (nI (s.1.2.1 + 1)), zu s.2.2 10 s.1.2.1 n.1), t'))) = q_semi a (pb (if tkw n.2 = nI 4 then q_truths a (s.2.2 9) s.1.1 7 (nI 0) (a n.2) else .inr (nI 0, n.2)) (fun v => .inr (((s.1.1, s.1.2.1 + 1, s.1.2.2.1, s.1.2.2.2.1, s.1.2.2.2.2), zu (zu (zu (zu s.2.1 2 s.1.2.1 v.1) 3 s.1.2.1 (nI 0)) 4 s.1.2.1 (nI 0)) 0 2 (nI (s.1.2.1 + 1)), zu s.2.2 10 s.1.2.1 n.1), v.2)))
      by_cases h4 : tkw n.2 = nI 4
      · rw [if_pos h4, if_pos h4]
        refine (q_truths_p hA (fun v t' => .inr (((s.1.1, s.1.2.1 + 1, s.1.2.2.1, s.1.2.2.2.1, s.1.2.2.2.2), zu (zu (zu (zu s.2.1 2 s.1.2.1 v) 3 s.1.2.1 (nI 0)) 4 s.1.2.1 (nI 0)) 0 2 (nI (s.1.2.1 + 1)), zu s.2.2 10 s.1.2.1 n.1), t')) 7 (nI 0) n.2).trans ?_
        rcases q_truths a (s.2.2 9) s.1.1 7 (nI 0) (a n.2) with e | v <;> rfl
      · rw [if_neg h4, if_neg h4]
        rfl
  · rfl
theorem q_part_p {a : tk → tk} {s : pS} {t : tk} (hA : ∀ t, ¬ tkd (a t) = 3 → tsg (a t) = nI 0) : p_part a s t = q_semi a (q_part a s t) := by
  unfold p_part q_part
  split
  · exact q_odds_p
  · split
    · exact q_trait_p
    · split
      · exact q_person_p hA
      · split
        · exact q_lane_p
        · split
          · exact q_tin_p
          · rfl
theorem s_cnt_le {b : Nat → Bool} : ∀ n, s_cnt b n ≤ n := by
  intro n
  induction n with
  | zero => exact Nat.le_refl _
  | succ n ih => rw [s_cnt]; split <;> omega
theorem s_cnt_g {b b' : Nat → Bool} : ∀ n, (∀ i, i < n → b i = b' i) → s_cnt b n = s_cnt b' n := by
  intro n
  induction n with
  | zero => intro _; rfl
  | succ n ih => intro h; rw [s_cnt, s_cnt, ih (fun i hi => h i (by omega)), h n (by omega)]
theorem s_cnt_add {b b' : Nat → Bool} {k : Nat} (hb : b k = false) (hb' : b' k = true) (ho : ∀ i, i ≠ k → b' i = b i) : ∀ n, k < n → s_cnt b' n = s_cnt b n + 1 := by
  intro n
  induction n with
  | zero => intro h; omega
  | succ n ih =>
    intro h
    rw [s_cnt, s_cnt]
    by_cases e : k = n
    · subst e
      rw [hb, hb', s_cnt_g (b := b') (b' := b) k (fun i hi => ho i (by omega))]
      rfl
    · rw [ho n (by omega), ih (by omega)]
      split <;> omega
theorem zB_cnt {s : Int32} {k nt : Nat} (hk : k < nt) (hn : nt ≤ 6) (h : ¬ zB s k = true) : s_cnt (zB (s ||| (nI 1 <<< (nI k &&& 31)))) nt = s_cnt (zB s) nt + 1 := by
  have h1 : zB s k = false := by cases e : zB s k with
    | false => rfl
    | true => exact absurd e h
  have e : s_cnt (zB (s ||| (nI 1 <<< (nI k &&& 31)))) nt = s_cnt (fun i => zB s i || decide (i = k)) nt := s_cnt_g nt (fun i hi => by rw [zB_or (by omega), zB_sh (by omega) (by omega)])
  rw [e]
  exact s_cnt_add (k := k) h1 (by simp) (fun i hi => by simp [hi]) nt hk
variable {G : zG} {I I1 I2 : Nat → Nat → Int32} {J J1 J2 : Nat → Nat → Int64} {P : Nat → Nat → Option Nat} {S : List (Nat × Nat)} {L : Nat} {a b : Int32} {T : Nat → Int32} {K : Nat → Int64} {t : tk} {z nt np nl nn od : Nat} {A : Nat → Nat → Int32} {B : Nat → Nat → Int64}
theorem m_readPerson (C : moC T K L 0 I J P S t) (X : moS I J ((nt, np, nl, nn, od), A, B)) : zEv G y_Mo_readPerson prog_14_method_62_code 4 8 0 0 [.ref 145] (I, J, P, S) (fun w => pQ (q_person (tA T L K) ((nt, np, nl, nn, od), A, B) t) (fun e => moX T K L I J P S e w) (fun x => moY T K L I J P S x w)) := by
  have M := C.1
  obtain ⟨M0, ⟨M4, M4s⟩, ⟨M5, M5s⟩, ⟨M6, M6s⟩, ⟨M7, M7s⟩, ⟨M20, M20s⟩, ⟨M21, M21s⟩, ⟨M22, M22s⟩, ⟨M26, M26s⟩, ⟨M27, M27s⟩, ⟨M28, M28s⟩, ⟨M30, M30s⟩, ⟨M34, M34s⟩, ⟨M36, M36s⟩, ⟨M37, M37s⟩⟩ := id M
  obtain ⟨a1, a2, a3, h4, h5, h6, -⟩ := moC_n C
  obtain ⟨x1, y1⟩ := X.1
  obtain ⟨x2, y2⟩ := X.2.1
  dsimp only at x1 y1 x2 y2
  refine zEv_of (lv := [some (.ref 145), none, none, none]) (by decide) rfl (Nat.le_of_ble_eq_true rfl) ?_
  obtain ⟨y, hy⟩ : ∃ y, q_person (tA T L K) ((nt, np, nl, nn, od), A, B) t = y := ⟨_, rfl⟩
  rw [hy]
  unfold q_person at hy
  dsimp only at hy
  have bad81 : ∀ (e : Nat × Nat) (Ix : Nat → Nat → Int32) (Jx : Nat → Nat → Int64) (k v : Int32), Sum.inl e = y → moX T K L I J P S e (Ix, Jx, P, S) → zA G y_Mo_readPerson prog_14_method_62_code 4 none (zRm 8 0 0) (zM G 0 0 (fun r w' => r = none ∧ (fun w => pQ (y) (fun e => moX T K L I J P S e w) (fun x => moY T K L I J P S x w)) w')) 81 [some (.ref 145), some (.int k), some (.int v), none] [] (Ix, Jx, P, S) 0 0 := by
    intro e Ix Jx k v h hX
    rw [← h]
    obtain ⟨I', J', t', hw, q1, q2, q3, q4, q5, q6⟩ := id hX
    cases hw
    obtain ⟨-, -, b3, -⟩ := moC_n q3
    refine z_aload_0 d_Mo_readPerson_81 ?_
    refine z_getIv d_Mo_readPerson_82 f_Mo_202 (by first | assumption | exact zS0_at (by assumption) (by omega) | exact zS0_at rfl (by omega)) (by first | assumption | ((try simp (disch := omega) only [zu_same, zu_ne, zcp_ne, zfl_ne]); first | assumption | rfl)) ?_
    refine z_if_le (tgt := 89) d_Mo_readPerson_85 (by decide) (fun h => absurd h (nz_le q5 q6)) (fun _ => ?_)
    refine z_retv d_Mo_readPerson_88 ?_
    exact hX
  refine z_aload_0 d_Mo_readPerson_0 ?_
  refine z_iconst (a := nI 1) d_Mo_readPerson_1 (by decide) ?_
  refine z_bipush (a := nI 7) d_Mo_readPerson_2 (by decide) ?_
  refine z_Vi2 d_Mo_readPerson_4 k_Mo_250 (by first | assumption | exact zS0_at (by assumption) (by omega) | exact zS0_at rfl (by omega)) (m_readNew (off := 6) (n := np) C X (Or.inr (Or.inl ⟨rfl, rfl, rfl, rfl⟩))) ⟨Nat.le_of_ble_eq_true rfl, Nat.le_of_ble_eq_true rfl, Nat.le_of_ble_eq_true rfl, Nat.le_of_ble_eq_true rfl⟩ (Nat.le_of_ble_eq_true rfl) ?_
  intro r w hq
  rcases hx : (if np < 7 then p_newn (tA T L K) ((nt, np, nl, nn, od), A, B) (tA T L K t) else .inl (6, tst t)) with e | v <;> rw [hx] at hq hy <;> dsimp only [pb] at hy
  · obtain ⟨rfl, hq⟩ := hq
    obtain ⟨I', J', t', rfl, q1, q2, q3, q4, q5, q6⟩ := id hq
    first | refine z_istore_1 d_Mo_readPerson_7 rfl ?_ | (refine z_forget_0 ?_; refine z_istore_1 d_Mo_readPerson_7 rfl ?_)
    refine z_iconst (a := nI 0) d_Mo_readPerson_8 (by decide) ?_
    first | refine z_istore_2 d_Mo_readPerson_9 rfl ?_ | (refine z_forget_1 ?_; refine z_istore_2 d_Mo_readPerson_9 rfl ?_)
    refine z_aload_0 d_Mo_readPerson_10 ?_
    refine z_aload_0 d_Mo_readPerson_11 ?_
    refine z_Vi0 d_Mo_readPerson_12 k_Mo_174 (by first | assumption | exact zS0_at (by assumption) (by omega) | exact zS0_at rfl (by omega)) (m_isIs q3) ⟨Nat.le_of_ble_eq_true rfl, Nat.le_of_ble_eq_true rfl, Nat.le_of_ble_eq_true rfl, Nat.le_of_ble_eq_true rfl⟩ (Nat.le_of_ble_eq_true rfl) ?_
    intro r w hr
    rcases hr with ⟨⟨-, rfl⟩ | ⟨-, rfl⟩, rfl⟩
    · refine z_Vi1 d_Mo_readPerson_15 k_Mo_253 (by first | assumption | exact zS0_at (by assumption) (by omega) | exact zS0_at rfl (by omega)) (m_perhz q3 q5 q6) ⟨Nat.le_of_ble_eq_true rfl, Nat.le_of_ble_eq_true rfl, Nat.le_of_ble_eq_true rfl, Nat.le_of_ble_eq_true rfl⟩ (Nat.le_of_ble_eq_true rfl) ?_
      intro r w hr
      obtain ⟨rfl, rfl⟩ := hr
      refine z_if_eq (tgt := 81) d_Mo_readPerson_18 (by decide) (fun _ => ?_) (fun h => absurd (by decide) h)
      exact bad81 e _ _ _ _ hy hq
    · refine z_Vi1 d_Mo_readPerson_15 k_Mo_253 (by first | assumption | exact zS0_at (by assumption) (by omega) | exact zS0_at rfl (by omega)) (m_perhz q3 q5 q6) ⟨Nat.le_of_ble_eq_true rfl, Nat.le_of_ble_eq_true rfl, Nat.le_of_ble_eq_true rfl, Nat.le_of_ble_eq_true rfl⟩ (Nat.le_of_ble_eq_true rfl) ?_
      intro r w hr
      obtain ⟨rfl, rfl⟩ := hr
      refine z_if_eq (tgt := 81) d_Mo_readPerson_18 (by decide) (fun _ => ?_) (fun h => absurd (by decide) h)
      exact bad81 e _ _ _ _ hy hq
  obtain ⟨rfl, hlt, I1, J1, rfl, h1, h2, C1⟩ := hq
  have hp1 : mP I I1 := mP_tk h1
  have hq1 : mQ J J1 := mQ_t (mQ_c mQ_r (by omega)) (mQ_tk h2)
  have hj : ∀ k, J1 152 k = zu J 152 (94 + np) v.1 152 k := fun k => by rw [h2.1 152 (by decide)]
  have X1 : moS I1 J1 ((nt, np, nl, nn, od), A, B) := moS_j (i := 94 + np) X (h1.1 _ (by decide)) (h1.2 _ (by decide)) (fun k hk => by rw [hj, zu_ne _ _ _ _ (by omega)]) ⟨fun k hk => by omega, fun k hk => by omega, fun k hk => by omega⟩
  have hJ1 : J1 152 (94 + np) = v.1 := by rw [hj, zu_same]
  have fin : ∀ (s : Int32) (t' : tk) (Ix : Nat → Nat → Int32) (Jx : Nat → Nat → Int64), mP I Ix → mQ J Jx → moC T K L 0 Ix Jx P S t' → moS Ix Jx ((nt, np, nl, nn, od), A, B) → Jx 152 (94 + np) = v.1 → Sum.inr (((nt, np + 1, nl, nn, od), zu (zu (zu (zu A 2 np s) 3 np (nI 0)) 4 np (nI 0)) 0 2 (nI (np + 1)), zu B 10 np v.1), t') = y → zA G y_Mo_readPerson prog_14_method_62_code 4 none (zRm 8 0 0) (zM G 0 0 (fun r w' => r = none ∧ (fun w => pQ (y) (fun e => moX T K L I J P S e w) (fun x => moY T K L I J P S x w)) w')) 81 [some (.ref 145), some (.int (nI np)), some (.int s), none] [] (Ix, Jx, P, S) 0 0 := by
    intro s t' Ix Jx hp hq Cx Xx hJx h
    rw [← h]
    obtain ⟨-, -, b3, -⟩ := moC_n Cx
    have n1 : Ix 150 1437 = nI np := Xx.2.1.1
    refine z_aload_0 d_Mo_readPerson_81 ?_
    refine z_getIv d_Mo_readPerson_82 f_Mo_202 (by first | assumption | exact zS0_at (by assumption) (by omega) | exact zS0_at rfl (by omega)) (by first | assumption | ((try simp (disch := omega) only [zu_same, zu_ne, zcp_ne, zfl_ne]); first | assumption | rfl)) ?_
    refine z_if_le (tgt := 89) d_Mo_readPerson_85 (by decide) (fun _ => ?_) (fun h => absurd (by decide) h)
    refine z_aload_0 d_Mo_readPerson_89 ?_
    refine z_getR d_Mo_readPerson_90 f_Mo_35 (by first | assumption | exact zS0_at (by assumption) (by omega) | exact zS0_at rfl (by omega)) (by first | assumption | exact zS0_at (by assumption) (by omega) | exact zS0_at rfl (by omega)) ?_
    refine z_sipush (a := nI 1448) d_Mo_readPerson_93 (by decide) ?_
    refine z_iload_1 d_Mo_readPerson_96 ?_
    first | refine z_iaddN d_Mo_readPerson_97 ?_ | refine z_iadd d_Mo_readPerson_97 ?_
    refine z_iload_2 d_Mo_readPerson_98 ?_
    first | refine z_iastN d_Mo_readPerson_99 (by first | assumption | exact zS0_at (by assumption) (by omega) | exact zS0_at rfl (by omega)) (by omega) (by first | decide | omega) ?_ | refine z_iast d_Mo_readPerson_99 (by first | assumption | exact zS0_at (by assumption) (by omega) | exact zS0_at rfl (by omega)) (by first | assumption | exact zS0_at (by assumption) (by omega) | exact zS0_at rfl (by omega)) ?_
    refine z_aload_0 d_Mo_readPerson_100 ?_
    refine z_getR d_Mo_readPerson_101 f_Mo_35 (by first | assumption | exact zS0_at (by assumption) (by omega) | exact zS0_at rfl (by omega)) (by first | assumption | exact zS0_at (by assumption) (by omega) | exact zS0_at rfl (by omega)) ?_
    refine z_sipush (a := nI 1437) d_Mo_readPerson_104 (by decide) ?_
    first | refine z_dup2 rfl rfl d_Mo_readPerson_107 ?_ | refine z_dup2l rfl d_Mo_readPerson_107 ?_
    first | refine z_ialdNv d_Mo_readPerson_108 (by first | assumption | exact zS0_at (by assumption) (by omega) | exact zS0_at rfl (by omega)) (by omega) (by first | decide | omega) (by first | assumption | ((try simp (disch := omega) only [zu_same, zu_ne, zcp_ne, zfl_ne]); first | assumption | rfl)) ?_ | refine z_iald d_Mo_readPerson_108 (by first | assumption | exact zS0_at (by assumption) (by omega) | exact zS0_at rfl (by omega)) (by first | assumption | exact zS0_at (by assumption) (by omega) | exact zS0_at rfl (by omega)) ?_
    refine z_iconst (a := nI 1) d_Mo_readPerson_109 (by decide) ?_
    first | refine z_iaddN d_Mo_readPerson_110 ?_ | refine z_iadd d_Mo_readPerson_110 ?_
    first | refine z_iastN d_Mo_readPerson_111 (by first | assumption | exact zS0_at (by assumption) (by omega) | exact zS0_at rfl (by omega)) (by omega) (by first | decide | omega) ?_ | refine z_iast d_Mo_readPerson_111 (by first | assumption | exact zS0_at (by assumption) (by omega) | exact zS0_at rfl (by omega)) (by first | assumption | exact zS0_at (by assumption) (by omega) | exact zS0_at rfl (by omega)) ?_
    refine z_retv d_Mo_readPerson_112 ?_
    exact ⟨_, _, rfl, mP_c (mP_c hp (by omega)) (by decide), hq, moC_c Cx (fun k hk => by rw [zu_ne _ _ _ _ (by omega), zu_ne _ _ _ _ (by omega)]) (by rw [zu_row _ _ _ _ (by decide), zu_row _ _ _ _ (by decide)]) rfl, moS_person Xx hlt hJx⟩
  have lp : ∀ (n : Nat) (s : Int32) (t' : tk) (Ix : Nat → Nat → Int32) (Jx : Nat → Nat → Int64), 7 ≤ s_cnt (zB s) nt + n → mP I Ix → mQ J Jx → moC T K L 0 Ix Jx P S t' → moS Ix Jx ((nt, np, nl, nn, od), A, B) → Jx 152 (94 + np) = v.1 → pb (q_truths (tA T L K) (B 9) nt n s t') (fun u => Sum.inr (((nt, np + 1, nl, nn, od), zu (zu (zu (zu A 2 np u.1) 3 np (nI 0)) 4 np (nI 0)) 0 2 (nI (np + 1)), zu B 10 np v.1), u.2)) = y → zA G y_Mo_readPerson prog_14_method_62_code 4 none (zRm 8 0 0) (zM G 0 0 (fun r w' => r = none ∧ (fun w => pQ (y) (fun e => moX T K L I J P S e w) (fun x => moY T K L I J P S x w)) w')) 21 [some (.ref 145), some (.int (nI np)), some (.int s), none] [] (Ix, Jx, P, S) 0 0 := by
    intro n
    induction n with
    | zero =>
      intro s t' Ix Jx h7
      have := s_cnt_le (b := zB s) nt
      omega
    | succ n ih =>
      intro s t' Ix Jx h7 hp hq Cx Xx hJx h
      obtain ⟨b1, b2, b3, b4, b5, b6, -⟩ := moC_n Cx
      rw [q_truths] at h
      refine z_aload_0 d_Mo_readPerson_21 ?_
      refine z_getIv d_Mo_readPerson_22 f_Mo_202 (by first | assumption | exact zS0_at (by assumption) (by omega) | exact zS0_at rfl (by omega)) (by first | assumption | ((try simp (disch := omega) only [zu_same, zu_ne, zcp_ne, zfl_ne]); first | assumption | rfl)) ?_
      refine z_if_ne (tgt := 81) d_Mo_readPerson_25 (by decide) (fun h => absurd (by decide) h) (fun _ => ?_)
      refine z_aload_0 d_Mo_readPerson_28 ?_
      refine z_getIv d_Mo_readPerson_29 f_Mo_125 (by first | assumption | exact zS0_at (by assumption) (by omega) | exact zS0_at rfl (by omega)) (by first | assumption | ((try simp (disch := omega) only [zu_same, zu_ne, zcp_ne, zfl_ne]); first | assumption | rfl)) ?_
      refine z_iconst (a := nI 1) d_Mo_readPerson_32 (by decide) ?_
      refine z_icmp_ne (tgt := 81) d_Mo_readPerson_33 (by decide) (fun hb => ?_) (fun hb => ?_)
      · have hb : ¬ tkd t' = 1 := fun h => hb (by rw [h])
        rw [if_neg hb] at h
        exact fin s t' Ix Jx hp hq Cx Xx hJx h
      · have hb : tkd t' = 1 := (nI_eq (by omega) (by omega)).mp hb
        rw [if_pos hb] at h
        have e1 := (moS_kn (t := t') Xx).1
        dsimp only at e1
        rw [← e1] at h
        refine z_aload_0 d_Mo_readPerson_36 ?_
        refine z_iconst (a := nI 4) d_Mo_readPerson_37 (by decide) ?_
        refine z_iconst (a := nI 0) d_Mo_readPerson_38 (by decide) ?_
        refine z_Vi2 d_Mo_readPerson_39 k_Mo_236 (by first | assumption | exact zS0_at (by assumption) (by omega) | exact zS0_at rfl (by omega)) (m_told0 (c := 4) (so := 0) (off := 0) (n := nt) Cx (by decide) (Or.inl ⟨rfl, rfl⟩) Xx.1.1 (by omega)) ⟨Nat.le_of_ble_eq_true rfl, Nat.le_of_ble_eq_true rfl, Nat.le_of_ble_eq_true rfl, Nat.le_of_ble_eq_true rfl⟩ (Nat.le_of_ble_eq_true rfl) ?_
        intro r w hr
        rcases hx2 : p_known (fun k => Jx 152 (22 * 4 + 0 + k)) nt t' with e | k <;> rw [hx2] at hr h <;> dsimp only [pb] at h
        · obtain ⟨rfl, rfl, e2⟩ := hr
          have hB12 : mB Ix e 145 12 = nI e.1 := by simp [mB, zu]
          first | refine z_istore_3 d_Mo_readPerson_42 rfl ?_ | (refine z_forget_2 ?_; refine z_istore_3 d_Mo_readPerson_42 rfl ?_)
          refine z_aload_0 d_Mo_readPerson_43 ?_
          refine z_getIv d_Mo_readPerson_44 f_Mo_202 (by first | assumption | exact zS0_at (by assumption) (by omega) | exact zS0_at rfl (by omega)) (by first | assumption | ((try simp (disch := omega) only [zu_same, zu_ne, zcp_ne, zfl_ne]); first | assumption | rfl)) ?_
          refine z_if_ne (tgt := 67) d_Mo_readPerson_47 (by decide) (fun _ => ?_) (fun h => absurd h (nz_ne e2.1 e2.2))
          refine z_iload_2 d_Mo_readPerson_67 ?_
          refine z_iconst (a := nI 1) d_Mo_readPerson_68 (by decide) ?_
          refine z_iload_3 d_Mo_readPerson_69 ?_
          refine z_ishl d_Mo_readPerson_70 ?_
          refine z_ior d_Mo_readPerson_71 ?_
          first | refine z_istore_2 d_Mo_readPerson_72 rfl ?_ | (refine z_forget_1 ?_; refine z_istore_2 d_Mo_readPerson_72 rfl ?_)
          refine z_aload_0 d_Mo_readPerson_73 ?_
          refine z_iconst (a := nI 1) d_Mo_readPerson_74 (by decide) ?_
          refine z_Vv1 d_Mo_readPerson_75 k_Mo_239 (by first | assumption | exact zS0_at (by assumption) (by omega) | exact zS0_at rfl (by omega)) (m_mustz (moC_f Cx) e2.1 e2.2) ⟨Nat.le_of_ble_eq_true rfl, Nat.le_of_ble_eq_true rfl, Nat.le_of_ble_eq_true rfl, Nat.le_of_ble_eq_true rfl⟩ (Nat.le_of_ble_eq_true rfl) ?_
          intro w hr
          obtain rfl := hr
          refine z_goto (tgt := 21) d_Mo_readPerson_78 (by decide) ?_
          refine z_aload_0 d_Mo_readPerson_21 ?_
          refine z_getIv d_Mo_readPerson_22 f_Mo_202 (by first | assumption | exact zS0_at (by assumption) (by omega) | exact zS0_at rfl (by omega)) (by first | assumption | ((try simp (disch := omega) only [zu_same, zu_ne, zcp_ne, zfl_ne]); first | assumption | rfl)) ?_
          refine z_if_ne (tgt := 81) d_Mo_readPerson_25 (by decide) (fun _ => ?_) (fun h => absurd h (nz_ne e2.1 e2.2))
          refine z_forget_3 ?_
          exact bad81 e _ _ _ _ h (moX_B Cx hp hq e2)
        obtain ⟨rfl, rfl⟩ := hr
        obtain ⟨k, hk, rfl, -⟩ := p_known_c hx2
        rw [nI_clamp (by omega)] at h
        first | refine z_istore_3 d_Mo_readPerson_42 rfl ?_ | (refine z_forget_2 ?_; refine z_istore_3 d_Mo_readPerson_42 rfl ?_)
        refine z_aload_0 d_Mo_readPerson_43 ?_
        refine z_getIv d_Mo_readPerson_44 f_Mo_202 (by first | assumption | exact zS0_at (by assumption) (by omega) | exact zS0_at rfl (by omega)) (by first | assumption | ((try simp (disch := omega) only [zu_same, zu_ne, zcp_ne, zfl_ne]); first | assumption | rfl)) ?_
        refine z_if_ne (tgt := 67) d_Mo_readPerson_47 (by decide) (fun h => absurd (by decide) h) (fun _ => ?_)
        refine z_iload_2 d_Mo_readPerson_50 ?_
        refine z_iload_3 d_Mo_readPerson_51 ?_
        refine z_Si2 d_Mo_readPerson_52 k_Mo_109 (t_Mo_has) ⟨Nat.le_of_ble_eq_true rfl, Nat.le_of_ble_eq_true rfl, Nat.le_of_ble_eq_true rfl, Nat.le_of_ble_eq_true rfl⟩ (Nat.le_of_ble_eq_true rfl) ?_
        intro r w hr
        rcases hr with ⟨⟨hz, rfl⟩ | ⟨hz, rfl⟩, rfl⟩
        · rw [if_pos hz] at h
          have e2 : 0 < (5, tst t').1 ∧ (5, tst t').1 < 9 := ⟨show 0 < 5 by decide, show 5 < 9 by decide⟩
          have hB12 : mB Ix (5, tst t') 145 12 = nI 5 := by simp [mB, zu]
          refine z_if_eq (tgt := 67) d_Mo_readPerson_55 (by decide) (fun h => absurd h (by decide)) (fun _ => ?_)
          refine z_aload_0 d_Mo_readPerson_58 ?_
          refine z_iconst (a := nI 5) d_Mo_readPerson_59 (by decide) ?_
          refine z_aload_0 d_Mo_readPerson_60 ?_
          refine z_getIv d_Mo_readPerson_61 f_Mo_119 (by first | assumption | exact zS0_at (by assumption) (by omega) | exact zS0_at rfl (by omega)) (by first | assumption | ((try simp (disch := omega) only [zu_same, zu_ne, zcp_ne, zfl_ne]); first | assumption | rfl)) ?_
          refine z_Vv2 d_Mo_readPerson_64 k_Mo_208 (by first | assumption | exact zS0_at (by assumption) (by omega) | exact zS0_at rfl (by omega)) (m_fail0 Cx) ⟨Nat.le_of_ble_eq_true rfl, Nat.le_of_ble_eq_true rfl, Nat.le_of_ble_eq_true rfl, Nat.le_of_ble_eq_true rfl⟩ (Nat.le_of_ble_eq_true rfl) ?_
          intro w hr
          obtain rfl := hr
          refine z_iload_2 d_Mo_readPerson_67 ?_
          refine z_iconst (a := nI 1) d_Mo_readPerson_68 (by decide) ?_
          refine z_iload_3 d_Mo_readPerson_69 ?_
          refine z_ishl d_Mo_readPerson_70 ?_
          refine z_ior d_Mo_readPerson_71 ?_
          first | refine z_istore_2 d_Mo_readPerson_72 rfl ?_ | (refine z_forget_1 ?_; refine z_istore_2 d_Mo_readPerson_72 rfl ?_)
          refine z_aload_0 d_Mo_readPerson_73 ?_
          refine z_iconst (a := nI 1) d_Mo_readPerson_74 (by decide) ?_
          refine z_Vv1 d_Mo_readPerson_75 k_Mo_239 (by first | assumption | exact zS0_at (by assumption) (by omega) | exact zS0_at rfl (by omega)) (m_mustz (moC_f (e := (5, tst t')) Cx) e2.1 e2.2) ⟨Nat.le_of_ble_eq_true rfl, Nat.le_of_ble_eq_true rfl, Nat.le_of_ble_eq_true rfl, Nat.le_of_ble_eq_true rfl⟩ (Nat.le_of_ble_eq_true rfl) ?_
          intro w hr
          obtain rfl := hr
          refine z_goto (tgt := 21) d_Mo_readPerson_78 (by decide) ?_
          refine z_aload_0 d_Mo_readPerson_21 ?_
          refine z_getIv d_Mo_readPerson_22 f_Mo_202 (by first | assumption | exact zS0_at (by assumption) (by omega) | exact zS0_at rfl (by omega)) (by first | assumption | ((try simp (disch := omega) only [zu_same, zu_ne, zcp_ne, zfl_ne]); first | assumption | rfl)) ?_
          refine z_if_ne (tgt := 81) d_Mo_readPerson_25 (by decide) (fun _ => ?_) (fun h => absurd h (by decide))
          refine z_forget_3 ?_
          exact bad81 _ _ _ _ _ h (moX_B Cx hp hq e2)
        · rw [if_neg hz] at h
          refine z_if_eq (tgt := 67) d_Mo_readPerson_55 (by decide) (fun _ => ?_) (fun h => absurd (by decide) h)
          refine z_iload_2 d_Mo_readPerson_67 ?_
          refine z_iconst (a := nI 1) d_Mo_readPerson_68 (by decide) ?_
          refine z_iload_3 d_Mo_readPerson_69 ?_
          refine z_ishl d_Mo_readPerson_70 ?_
          refine z_ior d_Mo_readPerson_71 ?_
          first | refine z_istore_2 d_Mo_readPerson_72 rfl ?_ | (refine z_forget_1 ?_; refine z_istore_2 d_Mo_readPerson_72 rfl ?_)
          refine z_aload_0 d_Mo_readPerson_73 ?_
          refine z_iconst (a := nI 1) d_Mo_readPerson_74 (by decide) ?_
          refine z_Vv1 d_Mo_readPerson_75 k_Mo_239 (by first | assumption | exact zS0_at (by assumption) (by omega) | exact zS0_at rfl (by omega)) (m_must1 Cx) ⟨Nat.le_of_ble_eq_true rfl, Nat.le_of_ble_eq_true rfl, Nat.le_of_ble_eq_true rfl, Nat.le_of_ble_eq_true rfl⟩ (Nat.le_of_ble_eq_true rfl) ?_
          intro w hr
          obtain ⟨I2, J2, rfl, g1, g2, C2⟩ := hr
          refine z_goto (tgt := 21) d_Mo_readPerson_78 (by decide) ?_
          refine z_forget_3 ?_
          exact ih _ _ I2 J2 (by rw [zB_cnt hk y1 hz]; omega) (mP_t hp (mP_tk g1)) (mQ_t hq (mQ_tk g2)) C2 (moS_tk Xx g1 g2) (by rw [g2.1 152 (by decide)]; exact hJx) h
  first | refine z_istore_1 d_Mo_readPerson_7 rfl ?_ | (refine z_forget_0 ?_; refine z_istore_1 d_Mo_readPerson_7 rfl ?_)
  refine z_iconst (a := nI 0) d_Mo_readPerson_8 (by decide) ?_
  first | refine z_istore_2 d_Mo_readPerson_9 rfl ?_ | (refine z_forget_1 ?_; refine z_istore_2 d_Mo_readPerson_9 rfl ?_)
  refine z_aload_0 d_Mo_readPerson_10 ?_
  refine z_aload_0 d_Mo_readPerson_11 ?_
  refine z_Vi0 d_Mo_readPerson_12 k_Mo_174 (by first | assumption | exact zS0_at (by assumption) (by omega) | exact zS0_at rfl (by omega)) (m_isIs C1) ⟨Nat.le_of_ble_eq_true rfl, Nat.le_of_ble_eq_true rfl, Nat.le_of_ble_eq_true rfl, Nat.le_of_ble_eq_true rfl⟩ (Nat.le_of_ble_eq_true rfl) ?_
  intro r w hq
  rcases hq with ⟨⟨hk, rfl⟩ | ⟨hk, rfl⟩, rfl⟩
  · rw [if_pos hk] at hy
    refine z_Vi1 d_Mo_readPerson_15 k_Mo_253 (by first | assumption | exact zS0_at (by assumption) (by omega) | exact zS0_at rfl (by omega)) (m_perh1 C1) ⟨Nat.le_of_ble_eq_true rfl, Nat.le_of_ble_eq_true rfl, Nat.le_of_ble_eq_true rfl, Nat.le_of_ble_eq_true rfl⟩ (Nat.le_of_ble_eq_true rfl) ?_
    intro r w hq
    obtain ⟨rfl, I2, J2, rfl, g1, g2, C2⟩ := hq
    refine z_if_eq (tgt := 81) d_Mo_readPerson_18 (by decide) (fun h => absurd h (by decide)) (fun _ => ?_)
    exact lp 7 (nI 0) _ I2 J2 (by omega) (mP_t hp1 (mP_tk g1)) (mQ_t hq1 (mQ_tk g2)) C2 (moS_tk X1 g1 g2) (by rw [g2.1 152 (by decide)]; exact hJ1) hy
  · rw [if_neg hk] at hy
    refine z_Vi1 d_Mo_readPerson_15 k_Mo_253 (by first | assumption | exact zS0_at (by assumption) (by omega) | exact zS0_at rfl (by omega)) (m_perh0 C1) ⟨Nat.le_of_ble_eq_true rfl, Nat.le_of_ble_eq_true rfl, Nat.le_of_ble_eq_true rfl, Nat.le_of_ble_eq_true rfl⟩ (Nat.le_of_ble_eq_true rfl) ?_
    intro r w hq
    obtain ⟨rfl, rfl⟩ := hq
    refine z_if_eq (tgt := 81) d_Mo_readPerson_18 (by decide) (fun _ => ?_) (fun h => absurd (by decide) h)
    exact fin (nI 0) _ I1 J1 hp1 hq1 C1 X1 hJ1 hy
theorem m_readPart (C : moC T K L 0 I J P S t) (X : moS I J ((nt, np, nl, nn, od), A, B)) : zEv G y_Mo_readPart prog_14_method_67_code 1 9 0 0 [.ref 145] (I, J, P, S) (fun w => pQ (q_part (tA T L K) ((nt, np, nl, nn, od), A, B) t) (fun e => moX T K L I J P S e w) (fun x => moY T K L I J P S x w)) := by
  have M := C.1
  obtain ⟨M0, ⟨M4, M4s⟩, ⟨M5, M5s⟩, ⟨M6, M6s⟩, ⟨M7, M7s⟩, ⟨M20, M20s⟩, ⟨M21, M21s⟩, ⟨M22, M22s⟩, ⟨M26, M26s⟩, ⟨M27, M27s⟩, ⟨M28, M28s⟩, ⟨M30, M30s⟩, ⟨M34, M34s⟩, ⟨M36, M36s⟩, ⟨M37, M37s⟩⟩ := id M
  have cls : ∀ (x : pR (pS × tk)) (w : zW), pQ x (fun e => moX T K L I J P S e w) (fun x => moY T K L I J P S x w) → ∃ I' J', w = (I', J', P, S) := by
    intro x w h
    rcases x with e | v
    · obtain ⟨I', J', t', rfl, -⟩ := h; exact ⟨_, _, rfl⟩
    · obtain ⟨I', J', rfl, -⟩ := h; exact ⟨_, _, rfl⟩
  refine zEv_of (lv := [some (.ref 145)]) (by decide) rfl (Nat.le_of_ble_eq_true rfl) ?_
  unfold q_part
  refine z_aload_0 d_Mo_readPart_0 ?_
  refine z_Vi0 d_Mo_readPart_1 k_Mo_162 (by first | assumption | exact zS0_at (by assumption) (by omega) | exact zS0_at rfl (by omega)) (m_isOdds C) ⟨Nat.le_of_ble_eq_true rfl, Nat.le_of_ble_eq_true rfl, Nat.le_of_ble_eq_true rfl, Nat.le_of_ble_eq_true rfl⟩ (Nat.le_of_ble_eq_true rfl) ?_
  intro r w hq
  rcases hq with ⟨⟨h, rfl⟩ | ⟨h0, rfl⟩, rfl⟩
  · rw [if_pos h]
    refine z_if_eq (tgt := 14) d_Mo_readPart_4 (by decide) (fun h => absurd h (by decide)) (fun _ => ?_)
    refine z_aload_0 d_Mo_readPart_7 ?_
    refine z_Vv0 d_Mo_readPart_8 k_Mo_268 (by first | assumption | exact zS0_at (by assumption) (by omega) | exact zS0_at rfl (by omega)) (m_readOdds C X) ⟨Nat.le_of_ble_eq_true rfl, Nat.le_of_ble_eq_true rfl, Nat.le_of_ble_eq_true rfl, Nat.le_of_ble_eq_true rfl⟩ (Nat.le_of_ble_eq_true rfl) ?_
    intro w hq
    obtain ⟨I', J', rfl⟩ := cls _ _ hq
    refine z_goto (tgt := 74) d_Mo_readPart_11 (by decide) ?_
    refine z_retv d_Mo_readPart_74 ?_
    exact hq
  rw [if_neg h0]
  refine z_if_eq (tgt := 14) d_Mo_readPart_4 (by decide) (fun _ => ?_) (fun h => absurd (by decide) h)
  refine z_aload_0 d_Mo_readPart_14 ?_
  refine z_Vi0 d_Mo_readPart_15 k_Mo_165 (by first | assumption | exact zS0_at (by assumption) (by omega) | exact zS0_at rfl (by omega)) (m_isTrait C) ⟨Nat.le_of_ble_eq_true rfl, Nat.le_of_ble_eq_true rfl, Nat.le_of_ble_eq_true rfl, Nat.le_of_ble_eq_true rfl⟩ (Nat.le_of_ble_eq_true rfl) ?_
  intro r w hq
  rcases hq with ⟨⟨h, rfl⟩ | ⟨h1, rfl⟩, rfl⟩
  · rw [if_pos h]
    refine z_if_eq (tgt := 28) d_Mo_readPart_18 (by decide) (fun h => absurd h (by decide)) (fun _ => ?_)
    refine z_aload_0 d_Mo_readPart_21 ?_
    refine z_Vv0 d_Mo_readPart_22 k_Mo_271 (by first | assumption | exact zS0_at (by assumption) (by omega) | exact zS0_at rfl (by omega)) (m_readTrait C X) ⟨Nat.le_of_ble_eq_true rfl, Nat.le_of_ble_eq_true rfl, Nat.le_of_ble_eq_true rfl, Nat.le_of_ble_eq_true rfl⟩ (Nat.le_of_ble_eq_true rfl) ?_
    intro w hq
    obtain ⟨I', J', rfl⟩ := cls _ _ hq
    refine z_goto (tgt := 74) d_Mo_readPart_25 (by decide) ?_
    refine z_retv d_Mo_readPart_74 ?_
    exact hq
  rw [if_neg h1]
  refine z_if_eq (tgt := 28) d_Mo_readPart_18 (by decide) (fun _ => ?_) (fun h => absurd (by decide) h)
  refine z_aload_0 d_Mo_readPart_28 ?_
  refine z_Vi0 d_Mo_readPart_29 k_Mo_171 (by first | assumption | exact zS0_at (by assumption) (by omega) | exact zS0_at rfl (by omega)) (m_isPerson C) ⟨Nat.le_of_ble_eq_true rfl, Nat.le_of_ble_eq_true rfl, Nat.le_of_ble_eq_true rfl, Nat.le_of_ble_eq_true rfl⟩ (Nat.le_of_ble_eq_true rfl) ?_
  intro r w hq
  rcases hq with ⟨⟨h, rfl⟩ | ⟨h3, rfl⟩, rfl⟩
  · rw [if_pos h]
    refine z_if_eq (tgt := 42) d_Mo_readPart_32 (by decide) (fun h => absurd h (by decide)) (fun _ => ?_)
    refine z_aload_0 d_Mo_readPart_35 ?_
    refine z_Vv0 d_Mo_readPart_36 k_Mo_274 (by first | assumption | exact zS0_at (by assumption) (by omega) | exact zS0_at rfl (by omega)) (m_readPerson C X) ⟨Nat.le_of_ble_eq_true rfl, Nat.le_of_ble_eq_true rfl, Nat.le_of_ble_eq_true rfl, Nat.le_of_ble_eq_true rfl⟩ (Nat.le_of_ble_eq_true rfl) ?_
    intro w hq
    obtain ⟨I', J', rfl⟩ := cls _ _ hq
    refine z_goto (tgt := 74) d_Mo_readPart_39 (by decide) ?_
    refine z_retv d_Mo_readPart_74 ?_
    exact hq
  rw [if_neg h3]
  refine z_if_eq (tgt := 42) d_Mo_readPart_32 (by decide) (fun _ => ?_) (fun h => absurd (by decide) h)
  refine z_aload_0 d_Mo_readPart_42 ?_
  refine z_Vi0 d_Mo_readPart_43 k_Mo_177 (by first | assumption | exact zS0_at (by assumption) (by omega) | exact zS0_at rfl (by omega)) (m_isLane C) ⟨Nat.le_of_ble_eq_true rfl, Nat.le_of_ble_eq_true rfl, Nat.le_of_ble_eq_true rfl, Nat.le_of_ble_eq_true rfl⟩ (Nat.le_of_ble_eq_true rfl) ?_
  intro r w hq
  rcases hq with ⟨⟨h, rfl⟩ | ⟨h5, rfl⟩, rfl⟩
  · rw [if_pos h]
    refine z_if_eq (tgt := 56) d_Mo_readPart_46 (by decide) (fun h => absurd h (by decide)) (fun _ => ?_)
    refine z_aload_0 d_Mo_readPart_49 ?_
    refine z_Vv0 d_Mo_readPart_50 k_Mo_277 (by first | assumption | exact zS0_at (by assumption) (by omega) | exact zS0_at rfl (by omega)) (m_readLane C X) ⟨Nat.le_of_ble_eq_true rfl, Nat.le_of_ble_eq_true rfl, Nat.le_of_ble_eq_true rfl, Nat.le_of_ble_eq_true rfl⟩ (Nat.le_of_ble_eq_true rfl) ?_
    intro w hq
    obtain ⟨I', J', rfl⟩ := cls _ _ hq
    refine z_goto (tgt := 74) d_Mo_readPart_53 (by decide) ?_
    refine z_retv d_Mo_readPart_74 ?_
    exact hq
  rw [if_neg h5]
  refine z_if_eq (tgt := 56) d_Mo_readPart_46 (by decide) (fun _ => ?_) (fun h => absurd (by decide) h)
  refine z_aload_0 d_Mo_readPart_56 ?_
  refine z_Vi0 d_Mo_readPart_57 k_Mo_180 (by first | assumption | exact zS0_at (by assumption) (by omega) | exact zS0_at rfl (by omega)) (m_isTin C) ⟨Nat.le_of_ble_eq_true rfl, Nat.le_of_ble_eq_true rfl, Nat.le_of_ble_eq_true rfl, Nat.le_of_ble_eq_true rfl⟩ (Nat.le_of_ble_eq_true rfl) ?_
  intro r w hq
  rcases hq with ⟨⟨h, rfl⟩ | ⟨h6, rfl⟩, rfl⟩
  · rw [if_pos h]
    refine z_if_eq (tgt := 70) d_Mo_readPart_60 (by decide) (fun h => absurd h (by decide)) (fun _ => ?_)
    refine z_aload_0 d_Mo_readPart_63 ?_
    refine z_Vv0 d_Mo_readPart_64 k_Mo_280 (by first | assumption | exact zS0_at (by assumption) (by omega) | exact zS0_at rfl (by omega)) (m_readTin C X) ⟨Nat.le_of_ble_eq_true rfl, Nat.le_of_ble_eq_true rfl, Nat.le_of_ble_eq_true rfl, Nat.le_of_ble_eq_true rfl⟩ (Nat.le_of_ble_eq_true rfl) ?_
    intro w hq
    obtain ⟨I', J', rfl⟩ := cls _ _ hq
    refine z_goto (tgt := 74) d_Mo_readPart_67 (by decide) ?_
    refine z_retv d_Mo_readPart_74 ?_
    exact hq
  rw [if_neg h6]
  refine z_if_eq (tgt := 70) d_Mo_readPart_60 (by decide) (fun _ => ?_) (fun h => absurd (by decide) h)
  refine z_aload_0 d_Mo_readPart_70 ?_
  refine z_Vv0 d_Mo_readPart_71 k_Mo_215 (by first | assumption | exact zS0_at (by assumption) (by omega) | exact zS0_at rfl (by omega)) (m_amiss0 C) ⟨Nat.le_of_ble_eq_true rfl, Nat.le_of_ble_eq_true rfl, Nat.le_of_ble_eq_true rfl, Nat.le_of_ble_eq_true rfl⟩ (Nat.le_of_ble_eq_true rfl) ?_
  intro w hq
  obtain rfl := hq
  refine z_retv d_Mo_readPart_74 ?_
  exact moX_B C mP_r mQ_r p_mis_b
end MF5
