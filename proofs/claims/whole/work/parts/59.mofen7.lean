/-! the reference: a FEN -/
section MF7
theorem pb_r {α β : Type} {x : pR α} {f : α → pR β} {y : β} (h : pb x f = .inr y) : ∃ v, x = .inr v ∧ f v = .inr y := by
  rcases x with e | v
  · cases h
  · exact ⟨v, rfl, h⟩
def pcnt (s : pS) : Nat := s.1.1 + s.1.2.1 + s.1.2.2.1 + s.1.2.2.2.1 + s.1.2.2.2.2
theorem q_part_cnt {a : tk → tk} {s : pS} {t : tk} {x : pS × tk} (h : q_part a s t = .inr x) : pcnt x.1 = pcnt s + 1 := by
  unfold q_part at h
  split at h
  · unfold q_odds at h
    split at h
    · obtain ⟨v, -, h⟩ := pb_r h
      cases h
      rename_i h0
      simp only [pcnt]
      omega
    · cases h
  · split at h
    · unfold q_trait at h
      obtain ⟨v, -, h⟩ := pb_r h
      obtain ⟨u, -, h⟩ := pb_r h
      obtain ⟨u, -, h⟩ := pb_r h
      cases h
      simp only [pcnt]
      omega
    · split at h
      · unfold q_person at h
        obtain ⟨v, -, h⟩ := pb_r h
        obtain ⟨u, -, h⟩ := pb_r h
        cases h
        simp only [pcnt]
        omega
      · split at h
        · unfold q_lane at h
          split at h
          · obtain ⟨v, -, h⟩ := pb_r h
            obtain ⟨u, -, h⟩ := pb_r h
            split at h
            · cases h
            · cases h
              simp only [pcnt]
              omega
          · cases h
        · split at h
          · unfold q_tin at h
            obtain ⟨v, -, h⟩ := pb_r h
            obtain ⟨u, -, h⟩ := pb_r h
            obtain ⟨u, -, h⟩ := pb_r h
            obtain ⟨u, -, h⟩ := pb_r h
            obtain ⟨u, -, h⟩ := pb_r h
            cases h
            simp only [pcnt, p_addT]
            omega
          · cases h
variable {G : zG} {I I1 I2 : Nat → Nat → Int32} {J J1 J2 : Nat → Nat → Int64} {P : Nat → Nat → Option Nat} {S : List (Nat × Nat)} {L : Nat} {a b : Int32} {T : Nat → Int32} {K : Nat → Int64} {t : tk} {z nt np nl nn od : Nat} {A : Nat → Nat → Int32} {B : Nat → Nat → Int64}
theorem moS_cnt {s : pS} (X : moS I J s) : pcnt s ≤ 35 := by
  obtain ⟨⟨-, h1⟩, ⟨-, h2⟩, ⟨-, h3⟩, ⟨-, h4⟩, ⟨-, h5⟩, -⟩ := X
  unfold pcnt
  omega
theorem moS_0 (hz : ∀ k, 1436 ≤ k → k < 1795 → k ≠ 1440 → I 150 k = nI 0) (h8 : I 150 1440 = nI 8) (h24 : I 145 24 = nI 0) : moS I J ((0, 0, 0, 0, 0), s_clear A 0, B) := by
  unfold moS
  dsimp only
  refine ⟨⟨hz _ (by omega) (by omega) (by omega), by omega⟩, ⟨hz _ (by omega) (by omega) (by omega), by omega⟩, ⟨hz _ (by omega) (by omega) (by omega), by omega⟩, ⟨hz _ (by omega) (by omega) (by omega), by omega⟩, ⟨h24, by omega⟩, ?_, fun k hk => by omega, fun k hk => by omega, fun k hk _ => hz _ (by omega) (by omega) (by omega), fun k hk => hz _ (by omega) (by omega) (by omega), fun k hk => by omega, fun k _ hk => ?_, ⟨?_, ?_⟩, hz _ (by omega) (by omega) (by omega), hz _ (by omega) (by omega) (by omega), hz _ (by omega) (by omega) (by omega)⟩
  · rw [h8]; simp [s_clear, zu]
  · rw [show s_clear A 0 0 6 = nI 0 by simp [s_clear, zu], zB_nI hk]; exact Nat.zero_testBit _
  · simp [s_clear, zu]
  · simp [s_clear, zu]
def mfF (I I' : Nat → Nat → Int32) : Prop := (∀ a, a ≠ 145 → a ≠ 150 → I' a = I a) ∧ (∀ k, k < 1436 → I' 150 k = I 150 k) ∧ ∀ k, (k = 23 ∨ 26 ≤ k) → I' 145 k = I 145 k
theorem mfF_p (h : mfF I I1) (h2 : mP I1 I2) : mfF I I2 := ⟨fun a g1 g2 => (h2.1 a g1 g2).trans (h.1 a g1 g2), fun k hk => (h2.2.1 k hk).trans (h.2.1 k hk), fun k hk => (h2.2.2 k (by omega) (by omega) (by omega)).trans (h.2.2 k hk)⟩
theorem mfF_z {k : Nat} {x : Int32} (h : mfF I I1) (hk : k < 23 ∨ k = 24 ∨ k = 25) : mfF I (zu I1 145 k x) := ⟨fun a g1 g2 => (zu_row _ _ _ _ g1).trans (h.1 a g1 g2), fun i hi => (zu_ne _ _ _ _ (by omega)).trans (h.2.1 i hi), fun i hi => (zu_ne _ _ _ _ (by omega)).trans (h.2.2 i hi)⟩
theorem empt_row {c x : Nat} (h : x ≠ 150) : m_empt I c x = I x := by unfold m_empt; rw [zu_row _ _ _ _ h, zfr_row h]
theorem m_fen {n fed : Nat} (M : modOk P S) (h8 : I 145 8 = nI fed) (hf : fed ≤ 900) (hn : n ≤ fed) (hT : ∀ k, k < 900 → I 149 k = T k) (hB : bytOk T) (hK : ∀ i, i < 21 → K i = zKw i) : zEi G y_Mo_fen prog_14_method_68_code 2 (some .int) 10 [.ref 145, .int (nI n)] (I, J, P, S) (fun r w => pQ (p_fen T n K A B) (fun e => r = -1 ∧ ∃ I' J', w = (I', J', P, S) ∧ mfF I I' ∧ mQ J J' ∧ I' 145 0 = nI 10 ∧ I' 145 8 = nI 0 ∧ I' 145 10 = nI e.1 ∧ I' 145 11 = nI e.2) (fun s => r = nI s.1.2.2.2.1 ∧ ∃ I' J', w = (zcp I' 150 150 1436 0 359, zcp J' 152 152 88 0 22, P, S) ∧ mfF I I' ∧ mQ J J' ∧ moS I' J' s ∧ I' 145 0 = nI 0 ∧ I' 145 8 = nI 0 ∧ I' 145 10 = nI 0 ∧ I' 145 11 = -1)) := by
  have M' := M
  obtain ⟨M0, ⟨M4, M4s⟩, ⟨M5, M5s⟩, ⟨M6, M6s⟩, ⟨M7, M7s⟩, ⟨M20, M20s⟩, ⟨M21, M21s⟩, ⟨M22, M22s⟩, ⟨M26, M26s⟩, ⟨M27, M27s⟩, ⟨M28, M28s⟩, ⟨M30, M30s⟩, ⟨M34, M34s⟩, ⟨M36, M36s⟩, ⟨M37, M37s⟩⟩ := id M
  refine zEi_of (lv := [some (.ref 145), some (.int (nI n))]) (by decide) rfl (Nat.le_of_ble_eq_true rfl) ?_
  obtain ⟨y, hy⟩ : ∃ y, p_fen T n K A B = y := ⟨_, rfl⟩
  rw [hy]
  unfold p_fen at hy
  refine z_aload_0 d_Mo_fen_0 ?_
  refine z_iconst (a := nI 0) d_Mo_fen_1 (by decide) ?_
  refine z_putI d_Mo_fen_2 f_Mo_70 (by first | assumption | exact zS0_at (by assumption) (by omega) | exact zS0_at rfl (by omega)) ?_
  refine z_aload_0 d_Mo_fen_5 ?_
  refine z_iconst (a := nI 0) d_Mo_fen_6 (by decide) ?_
  refine z_putI d_Mo_fen_7 f_Mo_73 (by first | assumption | exact zS0_at (by assumption) (by omega) | exact zS0_at rfl (by omega)) ?_
  refine z_aload_0 d_Mo_fen_10 ?_
  refine z_iload_1 d_Mo_fen_11 ?_
  refine z_sipush (a := nI 900) d_Mo_fen_12 (by decide) ?_
  refine z_Vi2 d_Mo_fen_15 k_Mo_283 (by first | assumption | exact zS0_at (by assumption) (by omega) | exact zS0_at rfl (by omega)) (t_Mo_starts1 (T := T) (K := K) (fed := fed) (most := 900) M' (by simp [zu, h8]) hf (by decide) hn (by omega) (fun k hk => by rw [zu_row _ _ _ _ (by decide), zu_row _ _ _ _ (by decide)]; exact hT k hk) hB hK) ⟨Nat.le_of_ble_eq_true rfl, Nat.le_of_ble_eq_true rfl, Nat.le_of_ble_eq_true rfl, Nat.le_of_ble_eq_true rfl⟩ (Nat.le_of_ble_eq_true rfl) ?_
  intro r w hq
  obtain ⟨rfl, Ia, Ja, rfl, ⟨s1, s2, s3⟩, hja, Ca⟩ := hq
  refine z_if_ne (tgt := 23) d_Mo_fen_18 (by decide) (fun _ => ?_) (fun h => absurd h (by decide))
  refine z_aload_0 d_Mo_fen_23 ?_
  refine z_iconst (a := nI 4) d_Mo_fen_24 (by decide) ?_
  refine z_Vv1 d_Mo_fen_25 k_Mo_66 (by first | assumption | exact zS0_at (by assumption) (by omega) | exact zS0_at rfl (by omega)) (t_Mo_empties M' (by decide)) ⟨Nat.le_of_ble_eq_true rfl, Nat.le_of_ble_eq_true rfl, Nat.le_of_ble_eq_true rfl, Nat.le_of_ble_eq_true rfl⟩ (Nat.le_of_ble_eq_true rfl) ?_
  intro w hq
  obtain rfl := hq
  refine z_aload_0 d_Mo_fen_28 ?_
  refine z_iconst (a := nI 0) d_Mo_fen_29 (by decide) ?_
  refine z_putZ d_Mo_fen_30 f_Mo_243 (by first | assumption | exact zS0_at (by assumption) (by omega) | exact zS0_at rfl (by omega)) (by first | exact zb0 | exact zb1 | assumption) ?_
  have f0 : mfF I (zu (m_empt Ia 4) 145 24 (nI 0)) := by
    refine ⟨fun a g1 g2 => ?_, fun k hk => ?_, fun k hk => ?_⟩
    · rw [zu_row _ _ _ _ g1, empt_row g2, s1 a g1, zu_row _ _ _ _ g1, zu_row _ _ _ _ g1]
    · rw [zu_row _ _ _ _ (by decide)]
      unfold m_empt
      rw [zu_ne _ _ _ _ (by omega), zfr_ne (by omega), s1 150 (by decide), zu_row _ _ _ _ (by decide), zu_row _ _ _ _ (by decide)]
    · rw [zu_ne _ _ _ _ (by omega), empt_row (by decide), s2 k (by omega) (by omega) (by omega), zu_ne _ _ _ _ (by omega), zu_ne _ _ _ _ (by omega)]
  have C0 : moC T K n 0 (zu (m_empt Ia 4) 145 24 (nI 0)) Ja P S (s_tok T n K 0) := moC_c Ca (fun k hk => by rw [zu_ne _ _ _ _ (by omega), empt_row (by decide)]) (by rw [zu_row _ _ _ _ (by decide), empt_row (by decide)]) rfl
  have X0 : moS (zu (m_empt Ia 4) 145 24 (nI 0)) Ja ((0, 0, 0, 0, 0), s_clear A 0, B) := by
    refine moS_0 (fun k h1 h2 h3 => ?_) ?_ (zu_same _ _ _ _)
    · rw [zu_row _ _ _ _ (by decide)]
      unfold m_empt
      rw [zu_ne _ _ _ _ (by omega), zfr_in (by omega)]
    · rw [zu_row _ _ _ _ (by decide)]
      unfold m_empt
      rw [show 359 * 4 + 4 = 1440 from rfl, zu_same]
  have g0 : zu (m_empt Ia 4) 145 24 (nI 0) 145 0 = nI 0 ∧ zu (m_empt Ia 4) 145 24 (nI 0) 145 8 = nI 0 := by
    constructor
    · rw [zu_ne _ _ _ _ (by omega), empt_row (by decide), s2 0 (by omega) (by omega) (by omega)]; simp [zu]
    · rw [zu_ne _ _ _ _ (by omega), empt_row (by decide)]; exact s3
  generalize zu (m_empt Ia 4) 145 24 (nI 0) = I0 at f0 C0 X0 g0 ⊢
  have bad : ∀ (e : Nat × Nat) (Ix : Nat → Nat → Int32) (Jx : Nat → Nat → Int64), Sum.inl e = y → moX T K n I0 Ja P S e (Ix, Jx, P, S) → zA G y_Mo_fen prog_14_method_68_code 2 (some .int) (zRm 10 0 0) (zM G 0 0 (fun r w' => ∃ x, r = some (.int x) ∧ (fun r w => pQ (y) (fun e => r = -1 ∧ ∃ I' J', w = (I', J', P, S) ∧ mfF I I' ∧ mQ J J' ∧ I' 145 0 = nI 10 ∧ I' 145 8 = nI 0 ∧ I' 145 10 = nI e.1 ∧ I' 145 11 = nI e.2) (fun s => r = nI s.1.2.2.2.1 ∧ ∃ I' J', w = (zcp I' 150 150 1436 0 359, zcp J' 152 152 88 0 22, P, S) ∧ mfF I I' ∧ mQ J J' ∧ moS I' J' s ∧ I' 145 0 = nI 0 ∧ I' 145 8 = nI 0 ∧ I' 145 10 = nI 0 ∧ I' 145 11 = -1)) x w')) 33 [some (.ref 145), some (.int (nI n))] [] (Ix, Jx, P, S) 0 0 := by
    intro e Ix Jx h hX
    rw [← h]
    obtain ⟨I', J', t', hw, q1, q2, q3, q4, q5, q6⟩ := id hX
    cases hw
    obtain ⟨-, -, b3, -⟩ := moC_n q3
    refine z_aload_0 d_Mo_fen_33 ?_
    refine z_getIv d_Mo_fen_34 f_Mo_202 (by first | assumption | exact zS0_at (by assumption) (by omega) | exact zS0_at rfl (by omega)) (by first | assumption | ((try simp (disch := omega) only [zu_same, zu_ne, zcp_ne, zfl_ne]); first | assumption | rfl)) ?_
    refine z_if_ne (tgt := 64) d_Mo_fen_37 (by decide) (fun _ => ?_) (fun h => absurd h (nz_ne q5 q6))
    refine z_aload_0 d_Mo_fen_64 ?_
    refine z_Vi0 d_Mo_fen_65 k_Mo_292 (by first | assumption | exact zS0_at (by assumption) (by omega) | exact zS0_at rfl (by omega)) (t_Mo_isWellz M' b3 q4 q5 q6) ⟨Nat.le_of_ble_eq_true rfl, Nat.le_of_ble_eq_true rfl, Nat.le_of_ble_eq_true rfl, Nat.le_of_ble_eq_true rfl⟩ (Nat.le_of_ble_eq_true rfl) ?_
    intro r w hq
    obtain ⟨rfl, rfl⟩ := hq
    refine z_if_ne (tgt := 73) d_Mo_fen_68 (by decide) (fun h => absurd (by decide) h) (fun _ => ?_)
    refine z_iconst (a := -1) d_Mo_fen_71 (by decide) ?_
    refine z_reti d_Mo_fen_72 ?_
    refine ⟨rfl, _, _, rfl, mfF_z (mfF_z (mfF_z (mfF_p f0 q1) (by omega)) (by omega)) (by omega), mQ_t (mQ_tk hja) q2, zu_same _ _ _ _, ?_, ?_, ?_⟩
    · rw [zu_ne _ _ _ _ (by omega), zu_ne _ _ _ _ (by omega), zu_ne _ _ _ _ (by omega), q1.2.2 8 (by omega) (by omega) (by omega)]; exact g0.2
    · rw [zu_ne _ _ _ _ (by omega), zu_ne _ _ _ _ (by omega), zu_same]
    · rw [zu_ne _ _ _ _ (by omega), zu_same]
  have lp : ∀ (m : Nat) (s : pS) (t : tk) (Ix : Nat → Nat → Int32) (Jx : Nat → Nat → Int64), 36 ≤ pcnt s + m → mP I0 Ix → mQ Ja Jx → moC T K n 0 Ix Jx P S t → moS Ix Jx s → p_parts (tA T n K) m s t = y → zA G y_Mo_fen prog_14_method_68_code 2 (some .int) (zRm 10 0 0) (zM G 0 0 (fun r w' => ∃ x, r = some (.int x) ∧ (fun r w => pQ (y) (fun e => r = -1 ∧ ∃ I' J', w = (I', J', P, S) ∧ mfF I I' ∧ mQ J J' ∧ I' 145 0 = nI 10 ∧ I' 145 8 = nI 0 ∧ I' 145 10 = nI e.1 ∧ I' 145 11 = nI e.2) (fun s => r = nI s.1.2.2.2.1 ∧ ∃ I' J', w = (zcp I' 150 150 1436 0 359, zcp J' 152 152 88 0 22, P, S) ∧ mfF I I' ∧ mQ J J' ∧ moS I' J' s ∧ I' 145 0 = nI 0 ∧ I' 145 8 = nI 0 ∧ I' 145 10 = nI 0 ∧ I' 145 11 = -1)) x w')) 33 [some (.ref 145), some (.int (nI n))] [] (Ix, Jx, P, S) 0 0 := by
    intro m
    induction m with
    | zero =>
      intro s t Ix Jx h _ _ _ Xx
      have := moS_cnt Xx
      omega
    | succ m ih =>
      intro s t Ix Jx h hp hq Cx Xx hs
      obtain ⟨b1, b2, b3, b4, b5, b6, -⟩ := moC_n Cx
      rw [p_parts] at hs
      refine z_aload_0 d_Mo_fen_33 ?_
      refine z_getIv d_Mo_fen_34 f_Mo_202 (by first | assumption | exact zS0_at (by assumption) (by omega) | exact zS0_at rfl (by omega)) (by first | assumption | ((try simp (disch := omega) only [zu_same, zu_ne, zcp_ne, zfl_ne]); first | assumption | rfl)) ?_
      refine z_if_ne (tgt := 64) d_Mo_fen_37 (by decide) (fun h => absurd (by decide) h) (fun _ => ?_)
      refine z_aload_0 d_Mo_fen_40 ?_
      refine z_getIv d_Mo_fen_41 f_Mo_125 (by first | assumption | exact zS0_at (by assumption) (by omega) | exact zS0_at rfl (by omega)) (by first | assumption | ((try simp (disch := omega) only [zu_same, zu_ne, zcp_ne, zfl_ne]); first | assumption | rfl)) ?_
      refine z_if_eq (tgt := 64) d_Mo_fen_44 (by decide) (fun hb => ?_) (fun hb => ?_)
      · have hb : tkd t = 0 := (nI_eq (by omega) (by omega)).mp (by rw [nI_0]; exact hb)
        rw [if_pos hb] at hs
        rw [← hs]
        refine z_aload_0 d_Mo_fen_64 ?_
        refine z_Vi0 d_Mo_fen_65 k_Mo_292 (by first | assumption | exact zS0_at (by assumption) (by omega) | exact zS0_at rfl (by omega)) (t_Mo_isWell0 M' b3) ⟨Nat.le_of_ble_eq_true rfl, Nat.le_of_ble_eq_true rfl, Nat.le_of_ble_eq_true rfl, Nat.le_of_ble_eq_true rfl⟩ (Nat.le_of_ble_eq_true rfl) ?_
        intro r w hr
        obtain ⟨rfl, rfl⟩ := hr
        refine z_if_ne (tgt := 73) d_Mo_fen_68 (by decide) (fun _ => ?_) (fun h => absurd h (by decide))
        refine z_aload_0 d_Mo_fen_73 ?_
        refine z_iconst (a := nI 4) d_Mo_fen_74 (by decide) ?_
        refine z_iconst (a := nI 0) d_Mo_fen_75 (by decide) ?_
        refine z_Vv2 d_Mo_fen_76 k_Mo_295 (by first | assumption | exact zS0_at (by assumption) (by omega) | exact zS0_at rfl (by omega)) (t_Mo_copy M' (by decide) (by decide) (by decide)) ⟨Nat.le_of_ble_eq_true rfl, Nat.le_of_ble_eq_true rfl, Nat.le_of_ble_eq_true rfl, Nat.le_of_ble_eq_true rfl⟩ (Nat.le_of_ble_eq_true rfl) ?_
        intro w hr
        obtain rfl := hr
        have hn3 : zcp (zu (zu Ix 145 10 (nI 0)) 145 11 (-1)) 150 150 (359 * 4) (359 * 0) 359 150 3 = nI s.1.2.2.2.1 := by
          rw [zcp_in (by omega) (by omega), zu_row _ _ _ _ (by decide), zu_row _ _ _ _ (by decide)]
          exact Xx.2.2.2.1.1
        refine z_aload_0 d_Mo_fen_79 ?_
        refine z_getR d_Mo_fen_80 f_Mo_35 (by first | assumption | exact zS0_at (by assumption) (by omega) | exact zS0_at rfl (by omega)) (by first | assumption | exact zS0_at (by assumption) (by omega) | exact zS0_at rfl (by omega)) ?_
        refine z_iconst (a := nI 3) d_Mo_fen_83 (by decide) ?_
        first | refine z_ialdNv d_Mo_fen_84 (by first | assumption | exact zS0_at (by assumption) (by omega) | exact zS0_at rfl (by omega)) (by omega) (by first | decide | omega) (by first | assumption | ((try simp (disch := omega) only [zu_same, zu_ne, zcp_ne, zfl_ne]); first | assumption | rfl)) ?_ | refine z_iald d_Mo_fen_84 (by first | assumption | exact zS0_at (by assumption) (by omega) | exact zS0_at rfl (by omega)) (by first | assumption | exact zS0_at (by assumption) (by omega) | exact zS0_at rfl (by omega)) ?_
        refine z_reti d_Mo_fen_85 ?_
        refine ⟨rfl, _, _, rfl, mfF_z (mfF_z (mfF_p f0 hp) (by omega)) (by omega), mQ_t (mQ_tk hja) hq, moS_c Xx (by rw [zu_row _ _ _ _ (by decide), zu_row _ _ _ _ (by decide)]) (by rw [zu_ne _ _ _ _ (by omega), zu_ne _ _ _ _ (by omega)]) rfl, ?_, ?_, ?_, zu_same _ _ _ _⟩
        · rw [zu_ne _ _ _ _ (by omega), zu_ne _ _ _ _ (by omega), hp.2.2 0 (by omega) (by omega) (by omega)]; exact g0.1
        · rw [zu_ne _ _ _ _ (by omega), zu_ne _ _ _ _ (by omega), hp.2.2 8 (by omega) (by omega) (by omega)]; exact g0.2
        · rw [zu_ne _ _ _ _ (by omega), zu_same]
      · have hb : ¬ tkd t = 0 := fun h => hb (by rw [h, nI_0])
        rw [if_neg hb, q_part_p (fun t => s_tok_sg T n K _)] at hs
        obtain ⟨⟨nt, np, nl, nn, od⟩, A', B'⟩ := s
        refine z_aload_0 d_Mo_fen_47 ?_
        refine z_Vv0 d_Mo_fen_48 k_Mo_286 (by first | assumption | exact zS0_at (by assumption) (by omega) | exact zS0_at rfl (by omega)) (m_readPart Cx Xx) ⟨Nat.le_of_ble_eq_true rfl, Nat.le_of_ble_eq_true rfl, Nat.le_of_ble_eq_true rfl, Nat.le_of_ble_eq_true rfl⟩ (Nat.le_of_ble_eq_true rfl) ?_
        intro w hr
        rcases hx : q_part (tA T n K) ((nt, np, nl, nn, od), A', B') t with e | v <;> rw [hx] at hr hs <;> dsimp only [q_semi, pb] at hs
        · obtain ⟨I', J', t', rfl, q1, q2, q3, q4, q5, q6⟩ := hr
          have hX : moX T K n I0 Ja P S e (I', J', P, S) := ⟨I', J', t', rfl, mP_t hp q1, mQ_t hq q2, q3, q4, q5, q6⟩
          refine z_aload_0 d_Mo_fen_51 ?_
          refine z_aload_0 d_Mo_fen_52 ?_
          refine z_bipush (a := nI 59) d_Mo_fen_53 (by decide) ?_
          refine z_Vi1 d_Mo_fen_55 k_Mo_289 (by first | assumption | exact zS0_at (by assumption) (by omega) | exact zS0_at rfl (by omega)) (m_isSign q3 (by omega)) ⟨Nat.le_of_ble_eq_true rfl, Nat.le_of_ble_eq_true rfl, Nat.le_of_ble_eq_true rfl, Nat.le_of_ble_eq_true rfl⟩ (Nat.le_of_ble_eq_true rfl) ?_
          intro r w hr
          rcases hr with ⟨⟨-, rfl⟩ | ⟨-, rfl⟩, rfl⟩
          · refine z_Vv1 d_Mo_fen_58 k_Mo_239 (by first | assumption | exact zS0_at (by assumption) (by omega) | exact zS0_at rfl (by omega)) (m_mustz q3 q5 q6) ⟨Nat.le_of_ble_eq_true rfl, Nat.le_of_ble_eq_true rfl, Nat.le_of_ble_eq_true rfl, Nat.le_of_ble_eq_true rfl⟩ (Nat.le_of_ble_eq_true rfl) ?_
            intro w hr
            obtain rfl := hr
            refine z_goto (tgt := 33) d_Mo_fen_61 (by decide) ?_
            exact bad e _ _ hs hX
          · refine z_Vv1 d_Mo_fen_58 k_Mo_239 (by first | assumption | exact zS0_at (by assumption) (by omega) | exact zS0_at rfl (by omega)) (m_mustz q3 q5 q6) ⟨Nat.le_of_ble_eq_true rfl, Nat.le_of_ble_eq_true rfl, Nat.le_of_ble_eq_true rfl, Nat.le_of_ble_eq_true rfl⟩ (Nat.le_of_ble_eq_true rfl) ?_
            intro w hr
            obtain rfl := hr
            refine z_goto (tgt := 33) d_Mo_fen_61 (by decide) ?_
            exact bad e _ _ hs hX
        · have hc := q_part_cnt hx
          obtain ⟨I', J', rfl, q1, q2, C', X'⟩ := hr
          refine z_aload_0 d_Mo_fen_51 ?_
          refine z_aload_0 d_Mo_fen_52 ?_
          refine z_bipush (a := nI 59) d_Mo_fen_53 (by decide) ?_
          refine z_Vi1 d_Mo_fen_55 k_Mo_289 (by first | assumption | exact zS0_at (by assumption) (by omega) | exact zS0_at rfl (by omega)) (m_isSign C' (by omega)) ⟨Nat.le_of_ble_eq_true rfl, Nat.le_of_ble_eq_true rfl, Nat.le_of_ble_eq_true rfl, Nat.le_of_ble_eq_true rfl⟩ (Nat.le_of_ble_eq_true rfl) ?_
          intro r w hr
          rcases hr with ⟨⟨hsg, rfl⟩ | ⟨hsg, rfl⟩, rfl⟩
          · have e1 : p_semi (tA T n K) v.2 = .inr (tA T n K v.2) := by unfold p_semi; rw [if_pos hsg]
            rw [e1] at hs
            refine z_Vv1 d_Mo_fen_58 k_Mo_239 (by first | assumption | exact zS0_at (by assumption) (by omega) | exact zS0_at rfl (by omega)) (m_must1 C') ⟨Nat.le_of_ble_eq_true rfl, Nat.le_of_ble_eq_true rfl, Nat.le_of_ble_eq_true rfl, Nat.le_of_ble_eq_true rfl⟩ (Nat.le_of_ble_eq_true rfl) ?_
            intro w hr
            obtain ⟨I2, J2, rfl, k1, k2, C2⟩ := hr
            refine z_goto (tgt := 33) d_Mo_fen_61 (by decide) ?_
            exact ih v.1 _ I2 J2 (by omega) (mP_t (mP_t hp q1) (mP_tk k1)) (mQ_t (mQ_t hq q2) (mQ_tk k2)) C2 (moS_tk X' k1 k2) hs
          · have e1 : p_semi (tA T n K) v.2 = .inl (p_mis v.2) := by unfold p_semi; rw [if_neg hsg]
            rw [e1] at hs
            refine z_Vv1 d_Mo_fen_58 k_Mo_239 (by first | assumption | exact zS0_at (by assumption) (by omega) | exact zS0_at rfl (by omega)) (m_must0 C') ⟨Nat.le_of_ble_eq_true rfl, Nat.le_of_ble_eq_true rfl, Nat.le_of_ble_eq_true rfl, Nat.le_of_ble_eq_true rfl⟩ (Nat.le_of_ble_eq_true rfl) ?_
            intro w hr
            obtain rfl := hr
            refine z_goto (tgt := 33) d_Mo_fen_61 (by decide) ?_
            exact bad _ _ _ hs (moX_B C' (mP_t hp q1) (mQ_t hq q2) p_mis_b)
  exact lp 900 _ _ I0 Ja (by simp [pcnt]) mP_r mQ_r C0 X0 hy
theorem m_fen0 {fed : Nat} (M : modOk P S) (h8 : I 145 8 = nI fed) (hf : fed ≤ 900) (ha : ¬ zin a (fed + 1)) : zEi G y_Mo_fen prog_14_method_68_code 2 (some .int) 10 [.ref 145, .int a] (I, J, P, S) (fun r w => r = -1 ∧ w = (zu (zu (zu I 145 1 (nI 0)) 145 0 (nI 0)) 145 0 (nI 5), J, P, S)) := by
  have M' := M
  obtain ⟨M0, ⟨M4, M4s⟩, ⟨M5, M5s⟩, ⟨M6, M6s⟩, ⟨M7, M7s⟩, ⟨M20, M20s⟩, ⟨M21, M21s⟩, ⟨M22, M22s⟩, ⟨M26, M26s⟩, ⟨M27, M27s⟩, ⟨M28, M28s⟩, ⟨M30, M30s⟩, ⟨M34, M34s⟩, ⟨M36, M36s⟩, ⟨M37, M37s⟩⟩ := id M
  refine zEi_of (lv := [some (.ref 145), some (.int a)]) (by decide) rfl (Nat.le_of_ble_eq_true rfl) ?_
  refine z_aload_0 d_Mo_fen_0 ?_
  refine z_iconst (a := nI 0) d_Mo_fen_1 (by decide) ?_
  refine z_putI d_Mo_fen_2 f_Mo_70 (by first | assumption | exact zS0_at (by assumption) (by omega) | exact zS0_at rfl (by omega)) ?_
  refine z_aload_0 d_Mo_fen_5 ?_
  refine z_iconst (a := nI 0) d_Mo_fen_6 (by decide) ?_
  refine z_putI d_Mo_fen_7 f_Mo_73 (by first | assumption | exact zS0_at (by assumption) (by omega) | exact zS0_at rfl (by omega)) ?_
  refine z_aload_0 d_Mo_fen_10 ?_
  refine z_iload_1 d_Mo_fen_11 ?_
  refine z_sipush (a := nI 900) d_Mo_fen_12 (by decide) ?_
  refine z_Vi2 d_Mo_fen_15 k_Mo_283 (by first | assumption | exact zS0_at (by assumption) (by omega) | exact zS0_at rfl (by omega)) (t_Mo_starts0 (fed := fed) (most := 900) M' (by simp [zu, h8]) hf (by decide) (by rintro ⟨n, h1, h2, h3⟩; exact ha ⟨n, by omega, h3⟩)) ⟨Nat.le_of_ble_eq_true rfl, Nat.le_of_ble_eq_true rfl, Nat.le_of_ble_eq_true rfl, Nat.le_of_ble_eq_true rfl⟩ (Nat.le_of_ble_eq_true rfl) ?_
  intro r w hq
  obtain ⟨rfl, rfl⟩ := hq
  refine z_if_ne (tgt := 23) d_Mo_fen_18 (by decide) (fun h => absurd (by decide) h) (fun _ => ?_)
  refine z_iconst (a := -1) d_Mo_fen_21 (by decide) ?_
  refine z_reti d_Mo_fen_22 ?_
  exact ⟨rfl, rfl⟩
end MF7
