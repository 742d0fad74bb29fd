/-! round, roundAt: both sides -/
section RD0
variable {G : zG} {I I' I1 I2 I3 : Nat → Nat → Int32} {J J' J2 : Nat → Nat → Int64} {P : Nat → Nat → Option Nat} {S : List (Nat × Nat)} {f d nt np nl nn n fed mk t k p q who s bl L j : Nat} {a c x : Int32} {w : zW} {mt mt' : Nat → Int32} {tk : Int32} {b : Nat → Bool} {v : Nat → Nat} {T : Nat → Int32}
/-- the first of the most -/
def s_am (b : Nat → Bool) (v : Nat → Nat) : Nat → Nat
  | 0 => 0
  | n + 1 => if b n = true ∧ s_mx b v n < v n then n else s_am b v n
theorem s_am_ok (hv : ∀ i, 1 ≤ v i) : ∀ n, 0 < s_mx b v n → s_am b v n < n ∧ b (s_am b v n) = true ∧ v (s_am b v n) = s_mx b v n ∧ ∀ i, i < s_am b v n → b i = true → v i < s_mx b v n := by
  intro n
  induction n with
  | zero => intro h; exact absurd h (Nat.lt_irrefl _)
  | succ n ih =>
    intro h
    rw [s_mx] at h ⊢
    rw [s_am]
    have up : ∀ m i, i < m → b i = true → v i ≤ s_mx b v m := by
      intro m
      induction m with
      | zero => intro i hi; exact absurd hi (Nat.not_lt_zero _)
      | succ m ihm =>
        intro i hi hb
        rw [s_mx]
        by_cases e : i = m
        · subst e; rw [if_pos hb]; exact Nat.le_max_right _ _
        · have := ihm i (by omega) hb
          split
          · exact Nat.le_trans this (Nat.le_max_left _ _)
          · exact this
    by_cases hb : b n = true
    · rw [if_pos hb] at h ⊢
      by_cases hl : s_mx b v n < v n
      · rw [if_pos ⟨hb, hl⟩]
        refine ⟨by omega, hb, by omega, fun i hi hbi => ?_⟩
        have := up n i hi hbi
        omega
      · rw [if_neg (fun q => hl q.2)]
        have h1 := hv n
        obtain ⟨g1, g2, g3, g4⟩ := ih (by omega)
        rw [show max (s_mx b v n) (v n) = s_mx b v n by omega]
        exact ⟨by omega, g2, g3, g4⟩
    · rw [if_neg hb] at h ⊢
      rw [if_neg (fun q => hb q.1)]
      obtain ⟨g1, g2, g3, g4⟩ := ih h
      exact ⟨by omega, g2, g3, g4⟩
theorem mx_out (h : ∀ i, np ≤ i → i < 32 → b i = false) : ∀ m, np + m ≤ 32 → s_mx b v (np + m) = s_mx b v np ∧ s_am b v (np + m) = s_am b v np := by
  intro m
  induction m with
  | zero => intro _; exact ⟨rfl, rfl⟩
  | succ m ih =>
    intro hm
    obtain ⟨h1, h2⟩ := ih (by omega)
    have hb := h (np + m) (by omega) (by omega)
    rw [show np + (m + 1) = np + m + 1 by omega, s_mx, s_am, if_neg (by rw [hb]; decide), if_neg (by rw [hb]; simp)]
    exact ⟨h1, h2⟩
abbrev lgB (mt : Nat → Int32) (tk : Int32) (who s : Nat) : Nat → Bool := zB (mt who &&& tk &&& (nI s ^^^ -1))
abbrev lgV (mt : Nat → Int32) (tk : Int32) (np D s : Nat) : Nat → Nat := fun i => s_lg mt tk np D i (s ||| 2 ^ i)
theorem lg_1 : ∀ D who s, 1 ≤ s_lg mt tk np D who s := by
  intro D who s
  cases D with
  | zero => exact Nat.le_refl _
  | succ D =>
    rw [s_lg]
    split <;> omega
theorem pc_all : ∀ np, np ≤ 7 → ∀ s, s < 2 ^ np → np ≤ pcN s → ∀ i, i < np → s.testBit i = true := by decide +kernel
theorem lgB_np (ht : ∀ i, i < 32 → zbit tk i → i < np) {i : Nat} (hi : i < 32) (h : lgB mt tk who s i = true) : i < np ∧ s.testBit i = false := by
  rw [lgB, zB_and hi, zB_and hi, zB_not hi, zB_nI hi, Bool.and_eq_true, Bool.and_eq_true] at h
  refine ⟨ht i hi h.1.2, ?_⟩
  cases hs : s.testBit i with
  | false => rfl
  | true => rw [hs] at h; exact absurd h.2 (by decide)
theorem lgB_f (hn : np ≤ 7) (ht : ∀ i, i < 32 → zbit tk i → i < np) (hs : s < 2 ^ np) (hp : np ≤ pcN s) : ∀ i, i < 32 → lgB mt tk who s i = false := by
  intro i hi
  cases h : lgB mt tk who s i with
  | false => rfl
  | true =>
    obtain ⟨h1, h2⟩ := lgB_np ht hi h
    rw [pc_all np hn s hs hp i h1] at h2
    exact absurd h2 (by decide)
theorem mx_f (h : ∀ i, i < np → b i = false) : s_mx b v np = 0 := by
  have : ∀ m, m ≤ np → s_mx b v m = 0 := by
    intro m
    induction m with
    | zero => intro _; rfl
    | succ m ih =>
      intro hm
      rw [s_mx, if_neg (by rw [h m (by omega)]; decide)]
      exact ih (by omega)
  exact this np (Nat.le_refl _)
theorem lg_u {D : Nat} (hn : np ≤ 7) (ht : ∀ i, i < 32 → zbit tk i → i < np) (hs : s < 2 ^ np) : s_lg mt tk np (D + 1) who s = s_mx (lgB mt tk who s) (lgV mt tk np D s) np + 1 := by
  rw [s_lg]
  split
  · rename_i h
    rw [mx_f (fun i hi => lgB_f hn ht hs h i (by omega))]
  · rfl
/-- on the first longest row -/
def s_ch (mt : Nat → Int32) (tk : Int32) (np : Nat) : Nat → Nat → Nat → Nat → Nat
  | 0, _, who, _ => who
  | i + 1, D, who, s => s_ch mt tk np i (D - 1) (s_am (lgB mt tk who s) (lgV mt tk np D s) np) (s ||| 2 ^ s_am (lgB mt tk who s) (lgV mt tk np D s) np)
def rdP (n bl L : Nat) (T : Nat → Int32) (I I' : Nat → Nat → Int32) : Prop := (∀ a, a ≠ 154 → a ≠ 155 → a ≠ 145 → I' a = I a) ∧ (∀ k, k ≠ 29 → I' 145 k = I 145 k) ∧ (∀ i, i < n → I' 154 i = I 154 i) ∧ I' 145 29 = nI (max bl L) ∧ (L ≤ bl → I' 155 = I 155) ∧ (bl < L → ∀ i, i < L → I' 155 i = T i)
abbrev rdT (mt : Nat → Int32) (tk : Int32) (np n D who s : Nat) (row : Nat → Int32) : Nat → Int32 := fun i => if i < n then row i else nI (s_ch mt tk np (i + 1 - n) D who s)
theorem rd_up {mt : Nat → Int32} {tk : Int32} {D : Nat} (hv : b j = true) (h2 : rdP n bl (n + s_mx b v j) T I1 I2) (hbl : bl ≤ 8) (h3 : rdP (n + 1) (max bl (n + s_mx b v j)) (n + v j) (rdT mt tk np (n + 1) D j (s ||| 2 ^ j) (zu I2 154 n (nI j) 154)) (zu I2 154 n (nI j)) I3) (hT : T = fun i => if i < n then I1 154 i else nI (s_ch mt tk np (i - n) D (s_am b v j) (s ||| 2 ^ s_am b v j))) : rdP n bl (n + s_mx b v (j + 1)) (fun i => if i < n then I1 154 i else nI (s_ch mt tk np (i - n) D (s_am b v (j + 1)) (s ||| 2 ^ s_am b v (j + 1)))) I1 I3 := by
  obtain ⟨a1, a2, a3, a4, a5, a6⟩ := h2
  obtain ⟨b1, b2, b3, b4, b5, b6⟩ := h3
  rw [s_mx, if_pos hv]
  refine ⟨fun a q1 q2 q3 => ?_, fun k hk => ?_, fun i hi => ?_, ?_, fun hl => ?_, fun hl i hi => ?_⟩
  · rw [b1 a q1 q2 q3, zu_row _ _ _ _ q1, a1 a q1 q2 q3]
  · rw [b2 k hk, zu_row _ _ _ _ (by decide), a2 k hk]
  · rw [b3 i (by omega), zu_ne _ _ _ _ (by omega), a3 i hi]
  · rw [b4]; congr 1; omega
  · rw [b5 (by omega), zu_row _ _ _ _ (by decide), a5 (by omega)]
  · rw [s_am]
    by_cases hc : s_mx b v j < v j
    · rw [if_pos ⟨hv, hc⟩]
      rw [b6 (by omega) i (by omega)]
      show (if i < n + 1 then zu I2 154 n (nI j) 154 i else nI (s_ch mt tk np (i + 1 - (n + 1)) D j (s ||| 2 ^ j))) = if i < n then I1 154 i else nI (s_ch mt tk np (i - n) D j (s ||| 2 ^ j))
      by_cases h1 : i < n
      · rw [if_pos (by omega), if_pos h1, zu_ne _ _ _ _ (by omega), a3 i h1]
      · by_cases h2 : i = n
        · subst h2
          rw [if_pos (by omega), if_neg h1, zu_same, Nat.sub_self, s_ch]
        · rw [if_neg (by omega), if_neg h1, show i + 1 - (n + 1) = i - n by omega]
    · rw [if_neg (fun q => hc q.2), b5 (by omega), zu_row _ _ _ _ (by decide), a6 (by omega) i (by omega), hT]
theorem t_Mo_goesRound (M : modOk P S) (N : modIn I nt np nl nn) (ht : t < 9) (hk : I 150 (33 + t) = nI k) : ∀ D n who s bl I1, n + D = 7 → 1 ≤ n → who < np → s < 2 ^ np → pcN s = n → bl ≤ 8 → I1 150 = I 150 → I1 154 (n - 1) = nI who → I1 145 29 = nI bl → zEv G y_Mo_goesRound prog_14_method_109_code 6 (D + 4) 0 0 [.ref 145, .int (nI t), .int (nI n), .int (nI s)] (I1, J, P, S) (fun w => ∃ I2, w = (I2, J, P, S) ∧ rdP n bl (n - 1 + s_lg (mMt I) (mTk I np k) np (D + 1) who s) (rdT (mMt I) (mTk I np k) np n D who s (I1 154)) I1 I2) := by
  obtain ⟨M0, ⟨M4, M4s⟩, ⟨M5, M5s⟩, ⟨M6, M6s⟩, ⟨M7, M7s⟩, ⟨M20, M20s⟩, ⟨M21, M21s⟩, ⟨M22, M22s⟩, ⟨M26, M26s⟩, ⟨M27, M27s⟩, ⟨M28, M28s⟩, ⟨M30, M30s⟩, ⟨M34, M34s⟩, ⟨M36, M36s⟩, ⟨M37, M37s⟩⟩ := id M
  obtain ⟨⟨m0, m0b⟩, ⟨m1, m1b⟩, ⟨m2, m2b⟩, ⟨m3, m3b⟩, mof, mon⟩ := id N
  have htk := set_lt (b := fun q => zB (I 150 (12 + q)) k) m1b
  intro D
  induction D using Nat.strongRecOn with
  | ind D ihD =>
  intro n who s bl I1 hnD hn1 hwho hs hpc hbl e150 hrow h29
  have hs7 : s < 128 := Nat.lt_of_lt_of_le hs (Nat.pow_le_pow_right (n := 2) (by decide) m1b)
  have hlg := lg_u (mt := mMt I) (who := who) (D := D) m1b htk hs
  have N1 := modIn_c N e150
  have hk1 : I1 150 (33 + t) = nI k := by rw [e150]; exact hk
  obtain ⟨b, hb0⟩ : ∃ b, b = lgB (mMt I) (mTk I np k) who s := ⟨_, rfl⟩
  obtain ⟨v, hv0⟩ : ∃ v, v = lgV (mMt I) (mTk I np k) np D s := ⟨_, rfl⟩
  have hbn : ∀ i, i < 32 → b i = true → i < np ∧ s.testBit i = false := fun i hi h => by rw [hb0] at h; exact lgB_np htk hi h
  have hv1 : ∀ i, 1 ≤ v i := fun i => by rw [hv0]; exact lg_1 _ _ _
  have hvD : ∀ i, v i ≤ D + 1 := fun i => by rw [hv0]; exact s_lg_le _ _ _
  rw [← hb0, ← hv0] at hlg
  have l2 : ∀ m j I2, 7 - j < m → j ≤ 7 → rdP n bl (n + s_mx b v j) (fun i => if i < n then I1 154 i else nI (s_ch (mMt I) (mTk I np k) np (i - n) (D - 1) (s_am b v j) (s ||| 2 ^ s_am b v j))) I1 I2 → zA G y_Mo_goesRound prog_14_method_109_code 6 none (zRm (D + 4) 0 0) (zM G 0 0 (fun r w' => r = none ∧ (fun w => ∃ I2, w = (I2, J, P, S) ∧ rdP n bl (n - 1 + s_lg (mMt I) (mTk I np k) np (D + 1) who s) (rdT (mMt I) (mTk I np k) np n D who s (I1 154)) I1 I2) w')) 64 [some (.ref 145), some (.int (nI t)), some (.int (nI n)), some (.int (nI s)), some (.int (mMt I who &&& mTk I np k &&& (nI s ^^^ -1))), some (.int (nI j))] [] (I2, J, P, S) 0 0 := by
    intro m
    induction m with
    | zero => intro j I2 h; exact absurd h (Nat.not_lt_zero _)
    | succ m ih =>
      intro j I2 hm hj h2
      refine z_iload_5 d_Mo_goesRound_64 ?_
      refine z_bipush (a := nI 7) d_Mo_goesRound_66 (by decide) ?_
      refine z_icmp_ge (tgt := 112) d_Mo_goesRound_68 (by decide) (fun hb => ?_) (fun hb => ?_)
      · have hb := (nI_leI (by omega) (by omega)).mp hb
        obtain rfl : j = 7 := by omega
        refine z_retv d_Mo_goesRound_112 ?_
        obtain ⟨o1, o2⟩ := mx_out (b := b) (np := np) (v := v) (fun i h1 h2 => by
          cases h : b i with
          | false => rfl
          | true => have := (hbn i h2 h).1; omega) (7 - np) (show np + (7 - np) ≤ 32 by omega)
        rw [show np + (7 - np) = 7 by omega] at o1 o2
        refine ⟨I2, rfl, ?_⟩
        rw [o1, o2] at h2
        rw [hlg, show n - 1 + (s_mx b v np + 1) = n + s_mx b v np by omega]
        have eT : (fun i => if i < n then I1 154 i else nI (s_ch (mMt I) (mTk I np k) np (i - n) (D - 1) (s_am b v np) (s ||| 2 ^ s_am b v np))) = rdT (mMt I) (mTk I np k) np n D who s (I1 154) := by
          funext i
          show _ = if i < n then I1 154 i else nI (s_ch (mMt I) (mTk I np k) np (i + 1 - n) D who s)
          by_cases hi : i < n
          · rw [if_pos hi, if_pos hi]
          · rw [if_neg hi, if_neg hi, show i + 1 - n = i - n + 1 by omega, s_ch, ← hb0, ← hv0]
        rw [eT] at h2
        exact h2
      · have hb : j < 7 := Nat.lt_of_not_le (fun q => hb (nI_le q (by omega)))
        refine z_iload_4 d_Mo_goesRound_71 ?_
        refine z_iload_5 d_Mo_goesRound_73 ?_
        refine z_Si2 d_Mo_goesRound_75 k_Mo_109 (t_Mo_has) (by refine ⟨?_, ?_, ?_, ?_⟩ <;> simp only [zRm] <;> omega) (Nat.le_of_ble_eq_true rfl) ?_
        intro r w hq
        rcases hq with ⟨⟨hz, rfl⟩ | ⟨hz, rfl⟩, rfl⟩
        · refine z_if_ne (tgt := 84) d_Mo_goesRound_78 (by decide) (fun _ => ?_) (fun h => absurd h (by decide))
          have hz : b j = true := by rw [hb0]; exact hz
          obtain ⟨hjn, hjs⟩ := hbn j (by omega) hz
          have hD : 0 < D := by
            rcases Nat.eq_zero_or_pos D with h | h
            · have : ∀ s, s < 128 → pcN s = 7 → ∀ j, j < 7 → s.testBit j = true := by decide +kernel
              rw [this s hs7 (by omega) j (by omega)] at hjs
              exact absurd hjs (by decide)
            · exact h
          refine z_aload_0 d_Mo_goesRound_84 ?_
          refine z_getR d_Mo_goesRound_85 f_Mo_47 (by first | assumption | exact zS0_at (by assumption) (by omega) | exact zS0_at rfl (by omega)) (by first | assumption | exact zS0_at (by assumption) (by omega) | exact zS0_at rfl (by omega)) ?_
          refine z_iload_2 d_Mo_goesRound_88 ?_
          refine z_iload_5 d_Mo_goesRound_89 ?_
          first | refine z_iastN d_Mo_goesRound_91 (by first | assumption | exact zS0_at (by assumption) (by omega) | exact zS0_at rfl (by omega)) (by omega) (by first | decide | omega) ?_ | refine z_iast d_Mo_goesRound_91 (by first | assumption | exact zS0_at (by assumption) (by omega) | exact zS0_at rfl (by omega)) (by first | assumption | exact zS0_at (by assumption) (by omega) | exact zS0_at rfl (by omega)) ?_
          refine z_aload_0 d_Mo_goesRound_92 ?_
          refine z_iload_1 d_Mo_goesRound_93 ?_
          refine z_iload_2 d_Mo_goesRound_94 ?_
          refine z_iconst (a := nI 1) d_Mo_goesRound_95 (by decide) ?_
          first | refine z_iaddN d_Mo_goesRound_96 ?_ | refine z_iadd d_Mo_goesRound_96 ?_
          refine z_iload_3 d_Mo_goesRound_97 ?_
          refine z_iconst (a := nI 1) d_Mo_goesRound_98 (by decide) ?_
          refine z_iload_5 d_Mo_goesRound_99 ?_
          refine z_ishl d_Mo_goesRound_101 ?_
          refine z_ior d_Mo_goesRound_102 ?_
          rw [nx_sh j (by omega), nx_or]
          have hor : s ||| 2 ^ j < 2 ^ np := Nat.or_lt_two_pow hs (Nat.pow_lt_pow_right (by decide) hjn)
          obtain ⟨a1, a2, a3, a4, a5, a6⟩ := id h2
          have hml := s_mx_le (b := b) hvD j
          refine z_Vv3 d_Mo_goesRound_103 k_Mo_386 (by first | assumption | exact zS0_at (by assumption) (by omega) | exact zS0_at rfl (by omega)) (ihD (D - 1) (by omega) (n + 1) j (s ||| 2 ^ j) (max bl (n + s_mx b v j)) (zu I2 154 n (nI j)) (by omega) (by omega) hjn hor (by rw [pc_add s hs7 j hb hjs, hpc]) (by omega) (by rw [zu_row _ _ _ _ (by decide), a1 150 (by decide) (by decide) (by decide), e150]) (by rw [Nat.add_sub_cancel]; exact zu_same _ _ _ _) (by rw [zu_row _ _ _ _ (by decide)]; exact a4)) (by refine ⟨?_, ?_, ?_, ?_⟩ <;> simp only [zRm] <;> omega) (Nat.le_of_ble_eq_true rfl) ?_
          rintro w ⟨I3, rfl, h3⟩
          rw [show n + 1 - 1 + s_lg (mMt I) (mTk I np k) np (D - 1 + 1) j (s ||| 2 ^ j) = n + v j by rw [hv0, Nat.add_sub_cancel, Nat.sub_add_cancel hD]] at h3
          first | refine z_iinc_5 d_Mo_goesRound_106 rfl (zi_inc _) ?_ | refine z_iinc_5 d_Mo_goesRound_106 rfl rfl ?_
          refine z_goto (tgt := 64) d_Mo_goesRound_109 (by decide) ?_
          exact ih (j + 1) I3 (by omega) (by omega) (rd_up hz h2 hbl h3 rfl)
        · have hz : ¬ b j = true := by rw [hb0]; exact hz
          refine z_if_ne (tgt := 84) d_Mo_goesRound_78 (by decide) (fun h => absurd (by decide) h) (fun _ => ?_)
          refine z_goto (tgt := 106) d_Mo_goesRound_81 (by decide) ?_
          first | refine z_iinc_5 d_Mo_goesRound_106 rfl (zi_inc _) ?_ | refine z_iinc_5 d_Mo_goesRound_106 rfl rfl ?_
          refine z_goto (tgt := 64) d_Mo_goesRound_109 (by decide) ?_
          refine ih (j + 1) I2 (by omega) (by omega) ?_
          rw [s_mx, if_neg hz, s_am, if_neg (fun q => hz q.1)]
          exact h2
  refine zEv_of (lv := [some (.ref 145), some (.int (nI t)), some (.int (nI n)), some (.int (nI s)), none, none]) (by decide) rfl (Nat.le_of_ble_eq_true rfl) ?_
  refine z_aload_0 d_Mo_goesRound_0 ?_
  refine z_iload_1 d_Mo_goesRound_1 ?_
  refine z_aload_0 d_Mo_goesRound_2 ?_
  refine z_getR d_Mo_goesRound_3 f_Mo_47 (by first | assumption | exact zS0_at (by assumption) (by omega) | exact zS0_at rfl (by omega)) (by first | assumption | exact zS0_at (by assumption) (by omega) | exact zS0_at rfl (by omega)) ?_
  refine z_iload_2 d_Mo_goesRound_6 ?_
  refine z_iconst (a := nI 1) d_Mo_goesRound_7 (by decide) ?_
  first | refine z_isubN d_Mo_goesRound_8 (by omega) ?_ | refine z_isub d_Mo_goesRound_8 ?_
  first | refine z_ialdNv d_Mo_goesRound_9 (by first | assumption | exact zS0_at (by assumption) (by omega) | exact zS0_at rfl (by omega)) (by omega) (by first | decide | omega) (by first | assumption | ((try simp (disch := omega) only [zu_same, zu_ne, zcp_ne, zfl_ne]); first | assumption | rfl)) ?_ | refine z_iald d_Mo_goesRound_9 (by first | assumption | exact zS0_at (by assumption) (by omega) | exact zS0_at rfl (by omega)) (by first | assumption | exact zS0_at (by assumption) (by omega) | exact zS0_at rfl (by omega)) ?_
  refine z_Vi2 d_Mo_goesRound_10 k_Mo_357 (by first | assumption | exact zS0_at (by assumption) (by omega) | exact zS0_at rfl (by omega)) (t_Mo_nextOf' M N1 ht hk1 (by omega)) (by refine ⟨?_, ?_, ?_, ?_⟩ <;> simp only [zRm] <;> omega) (Nat.le_of_ble_eq_true rfl) ?_
  intro r w hq
  obtain ⟨rfl, rfl⟩ := hq
  rw [mMt_c e150, mTk_c e150]
  refine z_iload_3 d_Mo_goesRound_13 ?_
  refine z_iconst (a := -1) d_Mo_goesRound_14 (by decide) ?_
  refine z_ixor d_Mo_goesRound_15 ?_
  refine z_iand d_Mo_goesRound_16 ?_
  first | refine z_istore_4 d_Mo_goesRound_17 rfl ?_ | (refine z_forget_3 ?_; refine z_istore_4 d_Mo_goesRound_17 rfl ?_)
  refine z_iload_2 d_Mo_goesRound_19 ?_
  refine z_aload_0 d_Mo_goesRound_20 ?_
  refine z_getIv d_Mo_goesRound_21 f_Mo_383 (by first | assumption | exact zS0_at (by assumption) (by omega) | exact zS0_at rfl (by omega)) (by first | assumption | ((try simp (disch := omega) only [zu_same, zu_ne, zcp_ne, zfl_ne]); first | assumption | rfl)) ?_
  have h64 : ∀ I2, rdP n bl n (I1 154) I1 I2 → zA G y_Mo_goesRound prog_14_method_109_code 6 none (zRm (D + 4) 0 0) (zM G 0 0 (fun r w' => r = none ∧ (fun w => ∃ I2, w = (I2, J, P, S) ∧ rdP n bl (n - 1 + s_lg (mMt I) (mTk I np k) np (D + 1) who s) (rdT (mMt I) (mTk I np k) np n D who s (I1 154)) I1 I2) w')) 64 [some (.ref 145), some (.int (nI t)), some (.int (nI n)), some (.int (nI s)), some (.int (mMt I who &&& mTk I np k &&& (nI s ^^^ -1))), some (.int (nI 0))] [] (I2, J, P, S) 0 0 := by
    rintro I2 ⟨a1, a2, a3, a4, a5, a6⟩
    refine l2 8 0 I2 (by omega) (by omega) ⟨a1, a2, a3, a4, a5, fun hl i hi => ?_⟩
    have hi : i < n := hi
    rw [a6 hl i hi]
    exact (if_pos hi).symm
  refine z_icmp_le (tgt := 61) d_Mo_goesRound_24 (by decide) (fun hc => ?_) (fun hc => ?_)
  · have hc := (nI_leI (by omega) (by omega)).mp hc
    refine z_iconst (a := nI 0) d_Mo_goesRound_61 (by decide) ?_
    first | refine z_istore_5 d_Mo_goesRound_62 rfl ?_ | (refine z_forget_4 ?_; refine z_istore_5 d_Mo_goesRound_62 rfl ?_)
    exact h64 I1 ⟨fun _ _ _ _ => rfl, fun _ _ => rfl, fun _ _ => rfl, by rw [h29]; congr 1; omega, fun _ => rfl, fun h => absurd h (by omega)⟩
  · have hc : bl < n := Nat.lt_of_not_le (fun q => hc (nI_le q (by omega)))
    have l1 : ∀ m i I2, n - i < m → i ≤ n → (∀ a, a ≠ 155 → a ≠ 145 → I2 a = I1 a) → (∀ k, k ≠ 29 → I2 145 k = I1 145 k) → I2 145 29 = nI n → (∀ x, x < i → I2 155 x = I1 154 x) → zA G y_Mo_goesRound prog_14_method_109_code 6 none (zRm (D + 4) 0 0) (zM G 0 0 (fun r w' => r = none ∧ (fun w => ∃ I2, w = (I2, J, P, S) ∧ rdP n bl (n - 1 + s_lg (mMt I) (mTk I np k) np (D + 1) who s) (rdT (mMt I) (mTk I np k) np n D who s (I1 154)) I1 I2) w')) 35 [some (.ref 145), some (.int (nI t)), some (.int (nI n)), some (.int (nI s)), some (.int (mMt I who &&& mTk I np k &&& (nI s ^^^ -1))), some (.int (nI i))] [] (I2, J, P, S) 0 0 := by
      intro m
      induction m with
      | zero => intro i I2 h; exact absurd h (Nat.not_lt_zero _)
      | succ m ih =>
        intro i I2 hm hi g1 g2 g3 g4
        refine z_iload_5 d_Mo_goesRound_35 ?_
        refine z_iload_2 d_Mo_goesRound_37 ?_
        refine z_icmp_ge (tgt := 61) d_Mo_goesRound_38 (by decide) (fun hb => ?_) (fun hb => ?_)
        · have hb := (nI_leI (by omega) (by omega)).mp hb
          obtain rfl : i = n := by omega
          refine z_iconst (a := nI 0) d_Mo_goesRound_61 (by decide) ?_
          first | refine z_istore_5 d_Mo_goesRound_62 rfl ?_ | (refine z_forget_4 ?_; refine z_istore_5 d_Mo_goesRound_62 rfl ?_)
          exact h64 I2 ⟨fun a q1 q2 q3 => g1 a q2 q3, g2, fun x _ => by rw [g1 154 (by decide) (by decide)], by rw [g3]; congr 1; omega, fun h => absurd h (by omega), fun _ => g4⟩
        · have hb : i < n := Nat.lt_of_not_le (fun q => hb (nI_le q (by omega)))
          have hv : I2 154 i = I1 154 i := by rw [g1 154 (by decide) (by decide)]
          refine z_aload_0 d_Mo_goesRound_41 ?_
          refine z_getR d_Mo_goesRound_42 f_Mo_50 (by first | assumption | exact zS0_at (by assumption) (by omega) | exact zS0_at rfl (by omega)) (by first | assumption | exact zS0_at (by assumption) (by omega) | exact zS0_at rfl (by omega)) ?_
          refine z_iload_5 d_Mo_goesRound_45 ?_
          refine z_aload_0 d_Mo_goesRound_47 ?_
          refine z_getR d_Mo_goesRound_48 f_Mo_47 (by first | assumption | exact zS0_at (by assumption) (by omega) | exact zS0_at rfl (by omega)) (by first | assumption | exact zS0_at (by assumption) (by omega) | exact zS0_at rfl (by omega)) ?_
          refine z_iload_5 d_Mo_goesRound_51 ?_
          first | refine z_ialdNv d_Mo_goesRound_53 (by first | assumption | exact zS0_at (by assumption) (by omega) | exact zS0_at rfl (by omega)) (by omega) (by first | decide | omega) (by first | assumption | ((try simp (disch := omega) only [zu_same, zu_ne, zcp_ne, zfl_ne]); first | assumption | rfl)) ?_ | refine z_iald d_Mo_goesRound_53 (by first | assumption | exact zS0_at (by assumption) (by omega) | exact zS0_at rfl (by omega)) (by first | assumption | exact zS0_at (by assumption) (by omega) | exact zS0_at rfl (by omega)) ?_
          first | refine z_iastN d_Mo_goesRound_54 (by first | assumption | exact zS0_at (by assumption) (by omega) | exact zS0_at rfl (by omega)) (by omega) (by first | decide | omega) ?_ | refine z_iast d_Mo_goesRound_54 (by first | assumption | exact zS0_at (by assumption) (by omega) | exact zS0_at rfl (by omega)) (by first | assumption | exact zS0_at (by assumption) (by omega) | exact zS0_at rfl (by omega)) ?_
          first | refine z_iinc_5 d_Mo_goesRound_55 rfl (zi_inc _) ?_ | refine z_iinc_5 d_Mo_goesRound_55 rfl rfl ?_
          refine z_goto (tgt := 35) d_Mo_goesRound_58 (by decide) ?_
          refine ih (i + 1) _ (by omega) (by omega) (fun a q1 q2 => (zu_row _ _ _ _ q1).trans (g1 a q1 q2)) (fun k hk => (zu_ne _ _ _ _ (by omega)).trans (g2 k hk)) ((zu_ne _ _ _ _ (by omega)).trans g3) (fun x hx => ?_)
          by_cases e : x = i
          · subst e; exact zu_same _ _ _ _
          · rw [zu_ne _ _ _ _ (by omega)]; exact g4 x (by omega)
    refine z_aload_0 d_Mo_goesRound_27 ?_
    refine z_iload_2 d_Mo_goesRound_28 ?_
    refine z_putI d_Mo_goesRound_29 f_Mo_383 (by first | assumption | exact zS0_at (by assumption) (by omega) | exact zS0_at rfl (by omega)) ?_
    refine z_iconst (a := nI 0) d_Mo_goesRound_32 (by decide) ?_
    first | refine z_istore_5 d_Mo_goesRound_33 rfl ?_ | (refine z_forget_4 ?_; refine z_istore_5 d_Mo_goesRound_33 rfl ?_)
    exact l1 (n + 1) 0 _ (by omega) (by omega) (fun a _ q => zu_row _ _ _ _ q) (fun k hk => zu_ne _ _ _ _ (by omega)) (zu_same _ _ _ _) (fun x hx => absurd hx (Nat.not_lt_zero _))
theorem t_Mo_laysRound (M : modOk P S) (N : modIn I nt np nl nn) (ht : t < nn) (hk : I 150 (33 + t) = nI k) (hp : I 150 (42 + t) = nI p) (hp2 : p < np) {most : Nat} (hm : s_lg (mMt I) (mTk I np k) np 7 p (2 ^ p) = most) : zEv G y_Mo_laysRound prog_14_method_110_code 2 11 0 0 [.ref 145, .int (nI t)] (I, J, P, S) (fun w => ∃ I', w = (I', J, P, S) ∧ mqF I I' ∧ I' 145 0 = I 145 0 ∧ I' 145 29 = nI most ∧ ∀ i, i < most → I' 155 i = nI (s_ch (mMt I) (mTk I np k) np i 6 p (2 ^ p))) := by
  obtain ⟨M0, ⟨M4, M4s⟩, ⟨M5, M5s⟩, ⟨M6, M6s⟩, ⟨M7, M7s⟩, ⟨M20, M20s⟩, ⟨M21, M21s⟩, ⟨M22, M22s⟩, ⟨M26, M26s⟩, ⟨M27, M27s⟩, ⟨M28, M28s⟩, ⟨M30, M30s⟩, ⟨M34, M34s⟩, ⟨M36, M36s⟩, ⟨M37, M37s⟩⟩ := id M
  obtain ⟨⟨m0, m0b⟩, ⟨m1, m1b⟩, ⟨m2, m2b⟩, ⟨m3, m3b⟩, mof, mon⟩ := id N
  have h2p : 2 ^ p < 2 ^ np := Nat.pow_lt_pow_right (by decide) hp2
  refine zEv_of (lv := [some (.ref 145), some (.int (nI t))]) (by decide) rfl (Nat.le_of_ble_eq_true rfl) ?_
  refine z_aload_0 d_Mo_laysRound_0 ?_
  refine z_iconst (a := nI 0) d_Mo_laysRound_1 (by decide) ?_
  refine z_putI d_Mo_laysRound_2 f_Mo_383 (by first | assumption | exact zS0_at (by assumption) (by omega) | exact zS0_at rfl (by omega)) ?_
  refine z_aload_0 d_Mo_laysRound_5 ?_
  refine z_getR d_Mo_laysRound_6 f_Mo_47 (by first | assumption | exact zS0_at (by assumption) (by omega) | exact zS0_at rfl (by omega)) (by first | assumption | exact zS0_at (by assumption) (by omega) | exact zS0_at rfl (by omega)) ?_
  refine z_iconst (a := nI 0) d_Mo_laysRound_9 (by decide) ?_
  refine z_aload_0 d_Mo_laysRound_10 ?_
  refine z_getR d_Mo_laysRound_11 f_Mo_35 (by first | assumption | exact zS0_at (by assumption) (by omega) | exact zS0_at rfl (by omega)) (by first | assumption | exact zS0_at (by assumption) (by omega) | exact zS0_at rfl (by omega)) ?_
  refine z_bipush (a := nI 42) d_Mo_laysRound_14 (by decide) ?_
  refine z_iload_1 d_Mo_laysRound_16 ?_
  first | refine z_iaddN d_Mo_laysRound_17 ?_ | refine z_iadd d_Mo_laysRound_17 ?_
  first | refine z_ialdNv d_Mo_laysRound_18 (by first | assumption | exact zS0_at (by assumption) (by omega) | exact zS0_at rfl (by omega)) (by omega) (by first | decide | omega) (by first | assumption | ((try simp (disch := omega) only [zu_same, zu_ne, zcp_ne, zfl_ne]); first | assumption | rfl)) ?_ | refine z_iald d_Mo_laysRound_18 (by first | assumption | exact zS0_at (by assumption) (by omega) | exact zS0_at rfl (by omega)) (by first | assumption | exact zS0_at (by assumption) (by omega) | exact zS0_at rfl (by omega)) ?_
  first | refine z_iastN d_Mo_laysRound_19 (by first | assumption | exact zS0_at (by assumption) (by omega) | exact zS0_at rfl (by omega)) (by omega) (by first | decide | omega) ?_ | refine z_iast d_Mo_laysRound_19 (by first | assumption | exact zS0_at (by assumption) (by omega) | exact zS0_at rfl (by omega)) (by first | assumption | exact zS0_at (by assumption) (by omega) | exact zS0_at rfl (by omega)) ?_
  refine z_aload_0 d_Mo_laysRound_20 ?_
  refine z_iload_1 d_Mo_laysRound_21 ?_
  refine z_iconst (a := nI 1) d_Mo_laysRound_22 (by decide) ?_
  refine z_iconst (a := nI 1) d_Mo_laysRound_23 (by decide) ?_
  refine z_aload_0 d_Mo_laysRound_24 ?_
  refine z_getR d_Mo_laysRound_25 f_Mo_47 (by first | assumption | exact zS0_at (by assumption) (by omega) | exact zS0_at rfl (by omega)) (by first | assumption | exact zS0_at (by assumption) (by omega) | exact zS0_at rfl (by omega)) ?_
  refine z_iconst (a := nI 0) d_Mo_laysRound_28 (by decide) ?_
  first | refine z_ialdNv d_Mo_laysRound_29 (by first | assumption | exact zS0_at (by assumption) (by omega) | exact zS0_at rfl (by omega)) (by omega) (by first | decide | omega) (by first | assumption | ((try simp (disch := omega) only [zu_same, zu_ne, zcp_ne, zfl_ne]); first | assumption | rfl)) ?_ | refine z_iald d_Mo_laysRound_29 (by first | assumption | exact zS0_at (by assumption) (by omega) | exact zS0_at rfl (by omega)) (by first | assumption | exact zS0_at (by assumption) (by omega) | exact zS0_at rfl (by omega)) ?_
  refine z_ishl d_Mo_laysRound_30 ?_
  rw [nx_sh p (by omega)]
  obtain ⟨I1, hI1⟩ : ∃ I1, I1 = zu (zu I 145 29 (nI 0)) 154 0 (nI p) := ⟨_, rfl⟩
  have e150 : I1 150 = I 150 := by rw [hI1, zu_row _ _ _ _ (by decide), zu_row _ _ _ _ (by decide)]
  rw [← hI1]
  refine z_Vv3 d_Mo_laysRound_31 k_Mo_386 (by first | assumption | exact zS0_at (by assumption) (by omega) | exact zS0_at rfl (by omega)) (t_Mo_goesRound (D := 6) (n := 1) (who := p) (s := 2 ^ p) (bl := 0) (I1 := I1) M N (by omega) hk (by omega) (by omega) hp2 h2p (pc_one p (by omega)) (by omega) e150 (by rw [hI1]; exact zu_same _ _ _ _) (by rw [hI1, zu_row _ _ _ _ (by decide)]; exact zu_same _ _ _ _)) ⟨Nat.le_of_ble_eq_true rfl, Nat.le_of_ble_eq_true rfl, Nat.le_of_ble_eq_true rfl, Nat.le_of_ble_eq_true rfl⟩ (Nat.le_of_ble_eq_true rfl) ?_
  rintro w ⟨I2, rfl, a1, a2, a3, a4, a5, a6⟩
  rw [show 1 - 1 + s_lg (mMt I) (mTk I np k) np (6 + 1) p (2 ^ p) = most by rw [← hm]; exact Nat.zero_add _] at a4 a5 a6
  have hm1 : 1 ≤ most := by rw [← hm]; exact lg_1 _ _ _
  refine z_retv d_Mo_laysRound_34 ?_
  refine ⟨I2, rfl, ⟨fun a q1 q2 => ?_, fun k hk => ?_⟩, ?_, ?_, fun i hi => ?_⟩
  · rw [a1 a (by omega) (by omega) (by omega), hI1, zu_row _ _ _ _ (by omega), zu_row _ _ _ _ (by omega)]
  · rw [a2 k (by omega), hI1, zu_row _ _ _ _ (by decide), zu_ne _ _ _ _ (by omega)]
  · rw [a2 0 (by decide), hI1, zu_row _ _ _ _ (by decide), zu_ne _ _ _ _ (by decide)]
  · rw [a4]; congr 1
  · rw [a6 (by omega) i hi]
    show (if i < 1 then I1 154 i else nI (s_ch (mMt I) (mTk I np k) np (i + 1 - 1) 6 p (2 ^ p))) = _
    by_cases h1 : i < 1
    · obtain rfl : i = 0 := by omega
      rw [if_pos h1, hI1, zu_same]; rfl
    · rw [if_neg h1, Nat.add_sub_cancel]
/-- one chain, told from its head and told from its end -/
theorem ch_rnd {most : Nat} (hn : np ≤ 7) (ht : ∀ i, i < 32 → zbit tk i → i < np) (hp : p < np) (hm : most = s_lg mt tk np 7 p (2 ^ p)) : ∀ j, j < most → (s_rnd mt tk np p most j).2 < 2 ^ np ∧ ∀ i, i + j < most → s_ch mt tk np (i + j) 6 p (2 ^ p) = s_ch mt tk np i (6 - j) (s_rnd mt tk np p most j).1 (s_rnd mt tk np p most j).2 := by
  intro j
  induction j with
  | zero => intro _; exact ⟨Nat.pow_lt_pow_right (by decide) hp, fun i _ => rfl⟩
  | succ j ih =>
    intro hj
    obtain ⟨e1, e2⟩ := ih (by omega)
    obtain ⟨⟨h1, h2, h3, h4, h5⟩, -⟩ := s_rnd_ok hn hp hm j (by omega)
    obtain ⟨⟨h1', h2', h3', h4', h5'⟩, hx⟩ := s_rnd_ok hn hp hm (j + 1) hj
    obtain ⟨x1, x2⟩ := hx j rfl
    have hu := lg_u (mt := mt) (who := (s_rnd mt tk np p most j).1) (D := 6 - j) hn ht e1
    rw [show 6 - j + 1 = 7 - j by omega, h4] at hu
    obtain ⟨g1, g2, g3, g4⟩ := s_am_ok (b := lgB mt tk (s_rnd mt tk np p most j).1 (s_rnd mt tk np p most j).2) (v := lgV mt tk np (6 - j) (s_rnd mt tk np p most j).2) (fun i => lg_1 _ _ _) np (by omega)
    have hq : s_am (lgB mt tk (s_rnd mt tk np p most j).1 (s_rnd mt tk np p most j).2) (lgV mt tk np (6 - j) (s_rnd mt tk np p most j).2) np = (s_rnd mt tk np p most (j + 1)).1 := by
      have hv : ∀ i, lgV mt tk np (6 - j) (s_rnd mt tk np p most j).2 i ≤ 7 := fun i => by
        have := s_lg_le (mt := mt) (tk := tk) (np := np) (6 - j) i ((s_rnd mt tk np p most j).2 ||| 2 ^ i)
        show s_lg mt tk np (6 - j) i ((s_rnd mt tk np p most j).2 ||| 2 ^ i) ≤ 7
        omega
      have m8 : most ≤ 8 := by rw [hm]; exact s_lg_le _ _ _
      have rb : ∀ i, s_rb mt tk np most j (s_rnd mt tk np p most j) i = true ↔ lgB mt tk (s_rnd mt tk np p most j).1 (s_rnd mt tk np p most j).2 i = true ∧ lgV mt tk np (6 - j) (s_rnd mt tk np p most j).2 i = most - (j + 1) := by
        intro i
        have := hv i
        rw [s_rb, Bool.and_eq_true, decide_eq_true_eq, nI_eq (by
          show s_lg mt tk np (6 - j) i ((s_rnd mt tk np p most j).2 ||| 2 ^ i) < _
          have : s_lg mt tk np (6 - j) i ((s_rnd mt tk np p most j).2 ||| 2 ^ i) ≤ 7 := this
          omega) (by omega)]
      obtain ⟨q, -, q2, q3, q4, q5⟩ := s_first_x (b := s_rb mt tk np most j (s_rnd mt tk np p most j)) np 0 _ (Nat.zero_le _) (by omega) ((rb _).mpr ⟨g2, by rw [g3]; omega⟩)
      rw [x1] at q5
      have q6 := (nI_eq (by omega) (by omega)).mp q5
      rw [q6]
      rcases Nat.lt_trichotomy (s_am (lgB mt tk (s_rnd mt tk np p most j).1 (s_rnd mt tk np p most j).2) (lgV mt tk np (6 - j) (s_rnd mt tk np p most j).2) np) q with h | h | h
      · have := q4 _ (Nat.zero_le _) h
        rw [(rb _).mpr ⟨g2, by rw [g3]; omega⟩] at this
        exact absurd this (by decide)
      · exact h
      · have r1 := (rb q).mp q3
        have := g4 q h r1.1
        omega
    refine ⟨?_, fun i hi => ?_⟩
    · rw [x2]
      exact Nat.or_lt_two_pow e1 (Nat.pow_lt_pow_right (by decide) h1')
    · rw [show i + (j + 1) = (i + 1) + j by omega, e2 (i + 1) (by omega), s_ch, hq, x2]
      rfl
theorem ch_rnd' {most : Nat} (hn : np ≤ 7) (ht : ∀ i, i < 32 → zbit tk i → i < np) (hp : p < np) (hm : most = s_lg mt tk np 7 p (2 ^ p)) (hj : j < most) : s_ch mt tk np j 6 p (2 ^ p) = (s_rnd mt tk np p most j).1 := by
  have := (ch_rnd hn ht hp hm j hj).2 0 (by omega)
  rw [Nat.zero_add] at this
  exact this
end RD0
