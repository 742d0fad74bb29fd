/-! way, wayAt: both sides, together -/
section WA0
variable {G : zG} {I I' I1 I2 : Nat → Nat → Int32} {J J' J2 : Nat → Nat → Int64} {P : Nat → Nat → Option Nat} {S : List (Nat × Nat)} {f d nt np nl nn n fed mk t k p q to e kk : Nat} {a b c x : Int32} {w : zW} {mt mt' : Nat → Int32} {tk : Int32}
theorem gP_c (h : ∀ i, i < np → mt' i = mt i) : ∀ n p q, gP mt' tk np n p q ↔ gP mt tk np n p q := by
  intro n
  induction n with
  | zero => intro p q; exact Iff.rfl
  | succ n ih =>
    intro p q
    rw [gP, gP, ih]
    constructor
    · rintro (g | ⟨r, r1, r2, r3⟩)
      · exact Or.inl g
      · rw [h r r1] at r3; exact Or.inr ⟨r, r1, (ih _ _).mp r2, r3⟩
    · rintro (g | ⟨r, r1, r2, r3⟩)
      · exact Or.inl g
      · rw [← h r r1] at r3; exact Or.inr ⟨r, r1, (ih _ _).mpr r2, r3⟩
theorem gD_c (h : ∀ i, i < np → mt' i = mt i) : gD mt' tk np n p q ↔ gD mt tk np n p q := by
  unfold gD
  rw [gP_c h]
  constructor
  · rintro ⟨h1, h2⟩; exact ⟨h1, fun m hm g => h2 m hm ((gP_c h m p q).mpr g)⟩
  · rintro ⟨h1, h2⟩; exact ⟨h1, fun m hm g => h2 m hm ((gP_c h m p q).mp g)⟩
theorem L_way (h : zInv n w) : zEi G y_Tf_way prog_1_method_27_code 5 (some .int) 4 [.ref 0, .int a, .int b] w (fun r w1 => w1.2.2.2 = w.2.2.2 ∧ zEi G y_Mo_way prog_14_method_104_code 4 (some .int) 5 [.ref 145, .int a, .int b] w1 (fun r' w2 => r' = r ∧ zInv (n + 1) w2)) := by
  obtain ⟨f, d, nt, np, nl, nn, fed, mk, I, J, P, S, rfl, Z, X⟩ := h
  have M := clOk_M Z
  have hf := clOk_f Z
  have N := stR_fen X
  have N0 := stR_mod X
  have fm := stR_fm X
  obtain ⟨⟨⟨a1, r1, b1⟩, ⟨a2, r2, b2⟩, ⟨a3, r3, b3⟩, ⟨a4, r4, b4⟩⟩, ⟨⟨o, ob, ao, ro⟩, r5⟩, fw, fp, ft, fz⟩ := id fm
  by_cases ha : zin a nn
  case neg => exact L_q Z X (t_Tf_way_o Z N (Or.inl ha)) (fun I' J' e _ => ⟨_, rfl, t_Mo_way_o M (modIn_c N0 (e 150 (by decide))) (Or.inl ha)⟩)
  by_cases hb : zin b np
  case neg => exact L_q Z X (t_Tf_way_o Z N (Or.inr hb)) (fun I' J' e _ => ⟨_, rfl, t_Mo_way_o M (modIn_c N0 (e 150 (by decide))) (Or.inr hb)⟩)
  obtain ⟨t, ht, rfl⟩ := ha
  obtain ⟨q, hq, rfl⟩ := hb
  obtain ⟨⟨k, hk, k1, k2⟩, ⟨g1, g2⟩, -⟩ := ft t ht
  rcases g1 with g1 | ⟨p, hp, g1⟩
  · exact L_q Z X (t_Tf_way_g Z N ht g1 hq) (fun I' J' e _ => ⟨_, rfl, t_Mo_way_g M (modIn_c N0 (e 150 (by decide))) ht (by rw [e 150 (by decide)]; exact g2.trans g1) hq⟩)
  have etk : mTk I np k = s_set (fun p => zB (I (f + 2) p) k) np := s_set_congr np (fun q hq => by rw [(fp q hq).1]; rfl)
  have emt : ∀ i, i < np → mMt I i = I (f + 3) i := fun i hi => (fp i hi).2.1
  rcases dist_eq (mt := I (f + 3)) (tk := s_set (fun p => zB (I (f + 2) p) k) np) (show p < 7 by omega) b2 (show q < 32 by omega) (in7_set b2) with ⟨h1, h2⟩ | ⟨e, e1, h1, h2⟩
  · refine L_q Z X (t_Tf_way_n Z N ht k1 g1 hp hq h1) (fun I' J' e _ => ⟨-1, rfl, zEi_mono (t_Mo_way (k := k) M (modIn_c N0 (e 150 (by decide))) ht (by rw [e 150 (by decide)]; exact k2) (by rw [e 150 (by decide)]; exact g2.trans g1) hp hq) ?_⟩)
    rintro r w (⟨-, h3⟩ | ⟨m, m1, m2, -⟩)
    · exact h3
    · rw [mMt_c (e 150 (by decide)), mTk_c (e 150 (by decide)), etk, gD_c emt] at m2
      exact absurd m2.1 (h2 m)
  · refine L_q Z X (t_Tf_way Z N ht k1 g1 hp hq e1 h1) (fun I' J' e' _ => ⟨nI e, rfl, zEi_mono (t_Mo_way (k := k) M (modIn_c N0 (e' 150 (by decide))) ht (by rw [e' 150 (by decide)]; exact k2) (by rw [e' 150 (by decide)]; exact g2.trans g1) hp hq) ?_⟩)
    rintro r w (⟨h3, -⟩ | ⟨m, m1, m2, m3⟩)
    · rw [mMt_c (e' 150 (by decide)), mTk_c (e' 150 (by decide)), etk] at h3
      exact absurd ((gP_c emt _ _ _).mpr h2.1) (h3 e)
    · rw [mMt_c (e' 150 (by decide)), mTk_c (e' 150 (by decide)), etk, gD_c emt] at m2
      rw [gD_u h2 m2]
      exact m3
theorem dist_i (hq : q < 7) (hn : np ≤ 7) (hto : to < 32) (ht : in7 tk) (he : e < 7) : s_dist mt np tk q to = nI e ↔ gD mt tk np e q to := by
  rcases dist_eq (mt := mt) (tk := tk) hq hn hto ht with ⟨h1, h2⟩ | ⟨d, d1, h1, h2⟩
  · rw [h1]
    constructor
    · intro h
      have : nI e < 0 := by rw [← h]; decide
      exact absurd this (nI_pos (by omega))
    · intro h; exact absurd h.1 (h2 e)
  · rw [h1, nI_eq (by omega) (by omega)]
    constructor
    · rintro rfl; exact h2
    · intro h; exact gD_u h2 h
theorem s_first_x {b : Nat → Bool} : ∀ m j s, j ≤ s → s < j + m → b s = true → ∃ q, j ≤ q ∧ q < j + m ∧ b q = true ∧ (∀ i, j ≤ i → i < q → b i = false) ∧ s_first b m j = nI q := by
  intro m
  induction m with
  | zero => intro j s h1 h2; omega
  | succ m ih =>
    intro j s h1 h2 h3
    rw [s_first]
    cases hb : b j with
    | true => exact ⟨j, Nat.le_refl _, by omega, hb, fun i g1 g2 => absurd g2 (by omega), rfl⟩
    | false =>
      have hne : s ≠ j := fun e => by rw [e, hb] at h3; exact absurd h3 (by decide)
      obtain ⟨q, q1, q2, q3, q4, q5⟩ := ih (j + 1) s (by omega) (by omega) h3
      refine ⟨q, by omega, by omega, q3, fun i g1 g2 => ?_, q5⟩
      by_cases e : i = j
      · rw [e]; exact hb
      · exact q4 i (by omega) g2
theorem s_or_c {b : Nat → Bool} (h : ∀ i, i < np → mt' i = mt i) : s_or b mt' np = s_or b mt np := by
  have : ∀ m, m ≤ np → s_or b mt' m = s_or b mt m := by
    intro m
    induction m with
    | zero => intro _; rfl
    | succ m ih => intro hm; rw [s_or, s_or, ih (by omega), h m (by omega)]
  exact this np (Nat.le_refl _)
theorem way_step {r : Nat} (hn : np ≤ 7) (ht7 : in7 tk) (ht : ∀ i, i < 32 → zbit tk i → i < np) (hr : r < np) (hto : to < 32) (he : e < 7) (h : gD mt tk np (e + 1) r to) : ∃ q, q < np ∧ zbit (mt r &&& tk) q ∧ gD mt tk np e q to ∧ (∀ i, i < q → ¬ (zbit (mt r &&& tk) i ∧ gD mt tk np e i to)) ∧ s_first (fun q => zB (mt r &&& tk) q && decide (s_dist mt np tk q to = nI e)) np 0 = nI q := by
  have ex : ∃ s, s < np ∧ zbit (mt r &&& tk) s ∧ gD mt tk np e s to := by
    rcases (gP_f hn ht hr e to hto).mp h.1 with h1 | ⟨s, s1, s2, s3⟩
    · exact absurd h1 (h.2 e (by omega))
    · refine ⟨s, s1, s2, s3, fun m hm h4 => h.2 (m + 1) (by omega) ?_⟩
      exact (gP_f hn ht hr m to hto).mpr (Or.inr ⟨s, s1, s2, h4⟩)
  have bq : ∀ i, i < np → ((zB (mt r &&& tk) i && decide (s_dist mt np tk i to = nI e)) = true ↔ (zbit (mt r &&& tk) i ∧ gD mt tk np e i to)) := by
    intro i hi
    rw [Bool.and_eq_true, decide_eq_true_eq, dist_i (by omega) hn hto ht7 he]
  obtain ⟨s, s1, s2⟩ := ex
  have s3 := (bq s s1).mpr s2
  obtain ⟨q, -, q2, q3, q4, q5⟩ := s_first_x (b := fun q => zB (mt r &&& tk) q && decide (s_dist mt np tk q to = nI e)) np 0 s (by omega) (by omega) s3
  have q6 := (bq q (by omega)).mp q3
  refine ⟨q, by omega, q6.1, q6.2, fun i hi h2 => ?_, q5⟩
  have := q4 i (by omega) hi
  rw [(bq i (by omega)).mpr h2] at this
  exact absurd this (by decide)
theorem way_seq (hn : np ≤ 7) (ht7 : in7 tk) (ht : ∀ i, i < 32 → zbit tk i → i < np) (hp : p < np) (hto : to < 32) {d : Nat} (hd : d < 7) (h : gD mt tk np d p to) : ∀ i, i ≤ d → ∃ r, r < np ∧ s_wayS mt np tk to p d i = nI r ∧ gD mt tk np (d - i) r to := by
  intro i
  induction i with
  | zero => intro _; exact ⟨p, hp, rfl, h⟩
  | succ i ih =>
    intro hi
    obtain ⟨r, r1, r2, r3⟩ := ih (by omega)
    rw [show d - i = d - (i + 1) + 1 by omega] at r3
    obtain ⟨q, q1, q2, q3, -, q5⟩ := way_step hn ht7 ht r1 hto (by omega) r3
    refine ⟨q, q1, ?_, q3⟩
    rw [s_wayS, if_neg (by rw [r2]; exact nI_pos (by omega)), r2, nI_clamp (by omega)]
    exact q5
theorem way_nx {r : Nat} (hn : np ≤ 7) (ht7 : in7 tk) (ht : ∀ i, i < 32 → zbit tk i → i < np) (hto : to < 32) {d i : Nat} (hd : d < 7) (hi : i + 1 ≤ d) (r1 : r < np) (r2 : s_wayS mt np tk to p d i = nI r) (r3 : gD mt tk np (d - i) r to) : ∃ q, q < np ∧ s_wayS mt np tk to p d (i + 1) = nI q ∧ zbit (mt r &&& tk) q ∧ gD mt tk np (d - (i + 1)) q to ∧ ∀ j, j < q → ¬ (zbit (mt r &&& tk) j ∧ gD mt tk np (d - (i + 1)) j to) := by
  rw [show d - i = d - (i + 1) + 1 by omega] at r3
  obtain ⟨q, q1, q2, q3, q4, q5⟩ := way_step hn ht7 ht r1 hto (by omega) r3
  refine ⟨q, q1, ?_, q2, q3, q4⟩
  rw [s_wayS, if_neg (by rw [r2]; exact nI_pos (by omega)), r2, nI_clamp (by omega)]
  exact q5
theorem t_Tf_wayAt_o (Z : clOk f d P S) (N : fenIn I f nt np nl nn) (h : ¬ zin a nn ∨ ¬ zin b np) : zEi G y_Tf_wayAt prog_1_method_28_code 6 (some .int) 5 [.ref 0, .int a, .int b, .int c] (I, J, P, S) (fun r w => r = -1 ∧ cW I J P S 2 w) := by
  obtain ⟨⟨c0, c3, c1s⟩, ⟨c5, c2s, ctr⟩, ⟨c6, c11s, c11, c13s⟩, ⟨c7, c15s, c15⟩, ⟨c8, c16s, c16a, c16b, c17s⟩, ⟨c9, c10, cfd, F, Fd⟩, ⟨c11b, Ft⟩, ⟨c12, c69s, cmk⟩, ⟨c14, c121s, c121, c122s⟩, ⟨c15b, c123s, c123, c124s⟩, ⟨c16, c125s, c125, c126s⟩, ⟨c17, c127s, c127, c128s, ctb⟩, ⟨c18, c139s, c139, c140s⟩, ⟨c19, c141s, ⟨c141a, c142s⟩, ⟨c141b, c143s⟩, ⟨c141c, c144s⟩⟩, M⟩ := id Z
  refine zEi_of (lv := [some (.ref 0), some (.int a), some (.int b), some (.int c), none, none]) (by decide) rfl (Nat.le_of_ble_eq_true rfl) ?_
  refine z_aload_0 d_Tf_wayAt_0 ?_
  refine z_iload_1 d_Tf_wayAt_1 ?_
  refine z_iload_2 d_Tf_wayAt_2 ?_
  refine z_Vi2 d_Tf_wayAt_3 k_Tf_301 (by first | assumption | exact zS0_at (by assumption) (by omega) | exact zS0_at rfl (by omega)) (t_Tf_wayStatus_o Z N h) ⟨Nat.le_of_ble_eq_true rfl, Nat.le_of_ble_eq_true rfl, Nat.le_of_ble_eq_true rfl, Nat.le_of_ble_eq_true rfl⟩ (Nat.le_of_ble_eq_true rfl) ?_
  intro r w hq
  obtain ⟨rfl, rfl⟩ := hq
  first | refine z_istore_4 d_Tf_wayAt_6 rfl ?_ | (refine z_forget_3 ?_; refine z_istore_4 d_Tf_wayAt_6 rfl ?_)
  refine z_iload_4 d_Tf_wayAt_8 ?_
  refine z_if_eq (tgt := 20) d_Tf_wayAt_10 (by decide) (fun h10 => ?_) (fun h10 => ?_)
  · first
    | (simp (disch := omega) only [← nI_0, nI_leI, nI_ltI, nI_eq, not_true_eq_false, not_false_eq_true] at h10; done)
    | (simp (disch := omega) only [← nI_0, nI_leI, nI_ltI, nI_eq, not_true_eq_false, not_false_eq_true] at h10; omega)
    | contradiction
    | exact absurd h10 (Int32.not_lt.mpr (by assumption))
    | exact absurd h10 (Int32.not_le.mpr (by assumption))
    | exact absurd h10 (by decide)
    | exact absurd (by decide) h10
    | ( try simp (disch := omega) only [← nI_0, nI_leI, nI_ltI, nI_eq, not_true_eq_false, not_false_eq_true] at h10
        (try have h10b := zbit_n0.mp h10); (try have h10b := zbit_p0.mp h10)
        fail)
  · first
    | (simp (disch := omega) only [← nI_0, nI_leI, nI_ltI, nI_eq, not_true_eq_false, not_false_eq_true] at h10; done)
    | (simp (disch := omega) only [← nI_0, nI_leI, nI_ltI, nI_eq, not_true_eq_false, not_false_eq_true] at h10; omega)
    | contradiction
    | exact absurd h10 (Int32.not_lt.mpr (by assumption))
    | exact absurd h10 (Int32.not_le.mpr (by assumption))
    | exact absurd h10 (by decide)
    | exact absurd (by decide) h10
    | ( try simp (disch := omega) only [← nI_0, nI_leI, nI_ltI, nI_eq, not_true_eq_false, not_false_eq_true] at h10
        (try have h10b := zbit_n0.mp h10); (try have h10b := zbit_p0.mp h10)
        refine z_aload_0 d_Tf_wayAt_13 ?_
        refine z_iload_4 d_Tf_wayAt_14 ?_
        refine z_Vi1 d_Tf_wayAt_16 k_Tf_138 (by first | assumption | exact zS0_at (by assumption) (by omega) | exact zS0_at rfl (by omega)) (t_Tf_fail (by assumption)) ⟨Nat.le_of_ble_eq_true rfl, Nat.le_of_ble_eq_true rfl, Nat.le_of_ble_eq_true rfl, Nat.le_of_ble_eq_true rfl⟩ (Nat.le_of_ble_eq_true rfl) ?_
        intro r w hq
        obtain ⟨rfl, rfl⟩ := hq
        refine z_reti d_Tf_wayAt_19 ?_
        exact ⟨rfl, cW_0⟩)
theorem t_Tf_wayAt_g (Z : clOk f d P S) (N : fenIn I f nt np nl nn) (ht : t < nn) (hg : I (f + 6) t = -1) (hq : q < np) : zEi G y_Tf_wayAt prog_1_method_28_code 6 (some .int) 5 [.ref 0, .int (nI t), .int (nI q), .int c] (I, J, P, S) (fun r w => r = -1 ∧ cW I J P S 9 w) := by
  obtain ⟨⟨c0, c3, c1s⟩, ⟨c5, c2s, ctr⟩, ⟨c6, c11s, c11, c13s⟩, ⟨c7, c15s, c15⟩, ⟨c8, c16s, c16a, c16b, c17s⟩, ⟨c9, c10, cfd, F, Fd⟩, ⟨c11b, Ft⟩, ⟨c12, c69s, cmk⟩, ⟨c14, c121s, c121, c122s⟩, ⟨c15b, c123s, c123, c124s⟩, ⟨c16, c125s, c125, c126s⟩, ⟨c17, c127s, c127, c128s, ctb⟩, ⟨c18, c139s, c139, c140s⟩, ⟨c19, c141s, ⟨c141a, c142s⟩, ⟨c141b, c143s⟩, ⟨c141c, c144s⟩⟩, M⟩ := id Z
  refine zEi_of (lv := [some (.ref 0), some (.int (nI t)), some (.int (nI q)), some (.int c), none, none]) (by decide) rfl (Nat.le_of_ble_eq_true rfl) ?_
  refine z_aload_0 d_Tf_wayAt_0 ?_
  refine z_iload_1 d_Tf_wayAt_1 ?_
  refine z_iload_2 d_Tf_wayAt_2 ?_
  refine z_Vi2 d_Tf_wayAt_3 k_Tf_301 (by first | assumption | exact zS0_at (by assumption) (by omega) | exact zS0_at rfl (by omega)) (t_Tf_wayStatus_g Z N ht hg hq) ⟨Nat.le_of_ble_eq_true rfl, Nat.le_of_ble_eq_true rfl, Nat.le_of_ble_eq_true rfl, Nat.le_of_ble_eq_true rfl⟩ (Nat.le_of_ble_eq_true rfl) ?_
  intro r w hq
  obtain ⟨rfl, rfl⟩ := hq
  first | refine z_istore_4 d_Tf_wayAt_6 rfl ?_ | (refine z_forget_3 ?_; refine z_istore_4 d_Tf_wayAt_6 rfl ?_)
  refine z_iload_4 d_Tf_wayAt_8 ?_
  refine z_if_eq (tgt := 20) d_Tf_wayAt_10 (by decide) (fun h10 => ?_) (fun h10 => ?_)
  · first
    | (simp (disch := omega) only [← nI_0, nI_leI, nI_ltI, nI_eq, not_true_eq_false, not_false_eq_true] at h10; done)
    | (simp (disch := omega) only [← nI_0, nI_leI, nI_ltI, nI_eq, not_true_eq_false, not_false_eq_true] at h10; omega)
    | contradiction
    | exact absurd h10 (Int32.not_lt.mpr (by assumption))
    | exact absurd h10 (Int32.not_le.mpr (by assumption))
    | exact absurd h10 (by decide)
    | exact absurd (by decide) h10
    | ( try simp (disch := omega) only [← nI_0, nI_leI, nI_ltI, nI_eq, not_true_eq_false, not_false_eq_true] at h10
        (try have h10b := zbit_n0.mp h10); (try have h10b := zbit_p0.mp h10)
        fail)
  · first
    | (simp (disch := omega) only [← nI_0, nI_leI, nI_ltI, nI_eq, not_true_eq_false, not_false_eq_true] at h10; done)
    | (simp (disch := omega) only [← nI_0, nI_leI, nI_ltI, nI_eq, not_true_eq_false, not_false_eq_true] at h10; omega)
    | contradiction
    | exact absurd h10 (Int32.not_lt.mpr (by assumption))
    | exact absurd h10 (Int32.not_le.mpr (by assumption))
    | exact absurd h10 (by decide)
    | exact absurd (by decide) h10
    | ( try simp (disch := omega) only [← nI_0, nI_leI, nI_ltI, nI_eq, not_true_eq_false, not_false_eq_true] at h10
        (try have h10b := zbit_n0.mp h10); (try have h10b := zbit_p0.mp h10)
        refine z_aload_0 d_Tf_wayAt_13 ?_
        refine z_iload_4 d_Tf_wayAt_14 ?_
        refine z_Vi1 d_Tf_wayAt_16 k_Tf_138 (by first | assumption | exact zS0_at (by assumption) (by omega) | exact zS0_at rfl (by omega)) (t_Tf_fail (by assumption)) ⟨Nat.le_of_ble_eq_true rfl, Nat.le_of_ble_eq_true rfl, Nat.le_of_ble_eq_true rfl, Nat.le_of_ble_eq_true rfl⟩ (Nat.le_of_ble_eq_true rfl) ?_
        intro r w hq
        obtain ⟨rfl, rfl⟩ := hq
        refine z_reti d_Tf_wayAt_19 ?_
        exact ⟨rfl, cW_0⟩)
theorem t_Tf_wayAt_n (Z : clOk f d P S) (N : fenIn I f nt np nl nn) (ht : t < nn) (hk : I (f + 5) t = nI k) (hp : I (f + 6) t = nI p) (hp2 : p < np) (hq : q < np) (hd : c < 0 ∨ s_dist (I (f + 3)) np (s_set (fun p => zB (I (f + 2) p) k) np) p q < c) : zEi G y_Tf_wayAt prog_1_method_28_code 6 (some .int) 5 [.ref 0, .int (nI t), .int (nI q), .int c] (I, J, P, S) (fun r w => r = -1 ∧ cW I J P S 8 w) := by
  obtain ⟨⟨c0, c3, c1s⟩, ⟨c5, c2s, ctr⟩, ⟨c6, c11s, c11, c13s⟩, ⟨c7, c15s, c15⟩, ⟨c8, c16s, c16a, c16b, c17s⟩, ⟨c9, c10, cfd, F, Fd⟩, ⟨c11b, Ft⟩, ⟨c12, c69s, cmk⟩, ⟨c14, c121s, c121, c122s⟩, ⟨c15b, c123s, c123, c124s⟩, ⟨c16, c125s, c125, c126s⟩, ⟨c17, c127s, c127, c128s, ctb⟩, ⟨c18, c139s, c139, c140s⟩, ⟨c19, c141s, ⟨c141a, c142s⟩, ⟨c141b, c143s⟩, ⟨c141c, c144s⟩⟩, M⟩ := id Z
  obtain ⟨F0, ⟨F8, F8s⟩, ⟨F9, F9s⟩, ⟨F10, F10s⟩, ⟨F11, F11s⟩, ⟨F12, F12s⟩, ⟨F13, F13s⟩, ⟨F14, F14s⟩, ⟨F15, F15s⟩, ⟨F16, F16s⟩, ⟨F17, F17s⟩, ⟨F18, F18s⟩, ⟨F19, F19s⟩, ⟨Y3, Y3s⟩, ⟨Y4, Y4s⟩, ⟨Y5, Y5s⟩, ⟨Y6, Y6s⟩⟩ := id F
  obtain ⟨⟨n1, n1b⟩, ⟨n2, n2b⟩, ⟨n3, n3b⟩, ⟨n4, n4b⟩, nof, non⟩ := id N
  have hlt : (-1 : Int32) < 0 := by decide
  refine zEi_of (lv := [some (.ref 0), some (.int (nI t)), some (.int (nI q)), some (.int c), none, none]) (by decide) rfl (Nat.le_of_ble_eq_true rfl) ?_
  refine z_aload_0 d_Tf_wayAt_0 ?_
  refine z_iload_1 d_Tf_wayAt_1 ?_
  refine z_iload_2 d_Tf_wayAt_2 ?_
  refine z_Vi2 d_Tf_wayAt_3 k_Tf_301 (by first | assumption | exact zS0_at (by assumption) (by omega) | exact zS0_at rfl (by omega)) (t_Tf_wayStatus_p Z N ht hp hp2 hq) ⟨Nat.le_of_ble_eq_true rfl, Nat.le_of_ble_eq_true rfl, Nat.le_of_ble_eq_true rfl, Nat.le_of_ble_eq_true rfl⟩ (Nat.le_of_ble_eq_true rfl) ?_
  intro r w hq
  obtain ⟨rfl, rfl⟩ := hq
  first | refine z_istore_4 d_Tf_wayAt_6 rfl ?_ | (refine z_forget_3 ?_; refine z_istore_4 d_Tf_wayAt_6 rfl ?_)
  refine z_iload_4 d_Tf_wayAt_8 ?_
  refine z_if_eq (tgt := 20) d_Tf_wayAt_10 (by decide) (fun h10 => ?_) (fun h10 => ?_)
  · first
    | (simp (disch := omega) only [← nI_0, nI_leI, nI_ltI, nI_eq, not_true_eq_false, not_false_eq_true] at h10; done)
    | (simp (disch := omega) only [← nI_0, nI_leI, nI_ltI, nI_eq, not_true_eq_false, not_false_eq_true] at h10; omega)
    | contradiction
    | exact absurd h10 (Int32.not_lt.mpr (by assumption))
    | exact absurd h10 (Int32.not_le.mpr (by assumption))
    | exact absurd h10 (by decide)
    | exact absurd (by decide) h10
    | ( try simp (disch := omega) only [← nI_0, nI_leI, nI_ltI, nI_eq, not_true_eq_false, not_false_eq_true] at h10
        (try have h10b := zbit_n0.mp h10); (try have h10b := zbit_p0.mp h10)
        refine z_aload_0 d_Tf_wayAt_20 ?_
        refine z_getR d_Tf_wayAt_21 f_Tf_60 (by first | assumption | exact zS0_at (by assumption) (by omega) | exact zS0_at rfl (by omega)) (by first | assumption | exact zS0_at (by assumption) (by omega) | exact zS0_at rfl (by omega)) ?_
        refine z_iload_1 d_Tf_wayAt_24 ?_
        refine z_iload_2 d_Tf_wayAt_25 ?_
        refine z_iload_3 d_Tf_wayAt_26 ?_
        refine z_Si4 d_Tf_wayAt_27 k_Tf_311 (t_Rows_onWay0 F N ht hk hp hp2 hd) ⟨Nat.le_of_ble_eq_true rfl, Nat.le_of_ble_eq_true rfl, Nat.le_of_ble_eq_true rfl, Nat.le_of_ble_eq_true rfl⟩ (Nat.le_of_ble_eq_true rfl) ?_
        intro r w hq
        obtain ⟨rfl, rfl⟩ := hq
        first | refine z_istore_5 d_Tf_wayAt_30 rfl ?_ | (refine z_forget_4 ?_; refine z_istore_5 d_Tf_wayAt_30 rfl ?_)
        refine z_iload_5 d_Tf_wayAt_32 ?_
        refine z_if_ge (tgt := 46) d_Tf_wayAt_34 (by decide) (fun h34 => ?_) (fun h34 => ?_)
        · first
          | (simp (disch := omega) only [← nI_0, nI_leI, nI_ltI, nI_eq, not_true_eq_false, not_false_eq_true] at h34; done)
          | (simp (disch := omega) only [← nI_0, nI_leI, nI_ltI, nI_eq, not_true_eq_false, not_false_eq_true] at h34; omega)
          | contradiction
          | exact absurd h34 (Int32.not_lt.mpr (by assumption))
          | exact absurd h34 (Int32.not_le.mpr (by assumption))
          | exact absurd h34 (by decide)
          | exact absurd (by decide) h34
          | ( try simp (disch := omega) only [← nI_0, nI_leI, nI_ltI, nI_eq, not_true_eq_false, not_false_eq_true] at h34
              (try have h34b := zbit_n0.mp h34); (try have h34b := zbit_p0.mp h34)
              refine z_aload_0 d_Tf_wayAt_46 ?_
              refine z_iload_5 d_Tf_wayAt_47 ?_
              refine z_Vi1 d_Tf_wayAt_49 k_Tf_174 (by first | assumption | exact zS0_at (by assumption) (by omega) | exact zS0_at rfl (by omega)) (t_Tf_give (by assumption)) ⟨Nat.le_of_ble_eq_true rfl, Nat.le_of_ble_eq_true rfl, Nat.le_of_ble_eq_true rfl, Nat.le_of_ble_eq_true rfl⟩ (Nat.le_of_ble_eq_true rfl) ?_
              intro r w hq
              obtain ⟨rfl, rfl⟩ := hq
              refine z_reti d_Tf_wayAt_52 ?_
              exact ⟨rfl, cW_0⟩)
        · first
          | (simp (disch := omega) only [← nI_0, nI_leI, nI_ltI, nI_eq, not_true_eq_false, not_false_eq_true] at h34; done)
          | (simp (disch := omega) only [← nI_0, nI_leI, nI_ltI, nI_eq, not_true_eq_false, not_false_eq_true] at h34; omega)
          | contradiction
          | exact absurd h34 (Int32.not_lt.mpr (by assumption))
          | exact absurd h34 (Int32.not_le.mpr (by assumption))
          | exact absurd h34 (by decide)
          | exact absurd (by decide) h34
          | ( try simp (disch := omega) only [← nI_0, nI_leI, nI_ltI, nI_eq, not_true_eq_false, not_false_eq_true] at h34
              (try have h34b := zbit_n0.mp h34); (try have h34b := zbit_p0.mp h34)
              refine z_aload_0 d_Tf_wayAt_37 ?_
              refine z_bipush (a := nI 8) d_Tf_wayAt_38 (by decide) ?_
              refine z_Vi1 d_Tf_wayAt_40 k_Tf_138 (by first | assumption | exact zS0_at (by assumption) (by omega) | exact zS0_at rfl (by omega)) (t_Tf_fail (by assumption)) ⟨Nat.le_of_ble_eq_true rfl, Nat.le_of_ble_eq_true rfl, Nat.le_of_ble_eq_true rfl, Nat.le_of_ble_eq_true rfl⟩ (Nat.le_of_ble_eq_true rfl) ?_
              intro r w hq
              obtain ⟨rfl, rfl⟩ := hq
              refine z_goto (tgt := 52) d_Tf_wayAt_43 (by decide) ?_
              refine z_reti d_Tf_wayAt_52 ?_
              exact ⟨rfl, cW_0⟩))
  · first
    | (simp (disch := omega) only [← nI_0, nI_leI, nI_ltI, nI_eq, not_true_eq_false, not_false_eq_true] at h10; done)
    | (simp (disch := omega) only [← nI_0, nI_leI, nI_ltI, nI_eq, not_true_eq_false, not_false_eq_true] at h10; omega)
    | contradiction
    | exact absurd h10 (Int32.not_lt.mpr (by assumption))
    | exact absurd h10 (Int32.not_le.mpr (by assumption))
    | exact absurd h10 (by decide)
    | exact absurd (by decide) h10
    | ( try simp (disch := omega) only [← nI_0, nI_leI, nI_ltI, nI_eq, not_true_eq_false, not_false_eq_true] at h10
        (try have h10b := zbit_n0.mp h10); (try have h10b := zbit_p0.mp h10)
        refine z_aload_0 d_Tf_wayAt_13 ?_
        refine z_iload_4 d_Tf_wayAt_14 ?_
        refine z_Vi1 d_Tf_wayAt_16 k_Tf_138 (by first | assumption | exact zS0_at (by assumption) (by omega) | exact zS0_at rfl (by omega)) (t_Tf_fail (by assumption)) ⟨Nat.le_of_ble_eq_true rfl, Nat.le_of_ble_eq_true rfl, Nat.le_of_ble_eq_true rfl, Nat.le_of_ble_eq_true rfl⟩ (Nat.le_of_ble_eq_true rfl) ?_
        intro r w hq
        obtain ⟨rfl, rfl⟩ := hq
        refine z_reti d_Tf_wayAt_19 ?_
        exact ⟨rfl, cW_0⟩)
theorem t_Tf_wayAt (Z : clOk f d P S) (N : fenIn I f nt np nl nn) (ht : t < nn) (hk : I (f + 5) t = nI k) (hp : I (f + 6) t = nI p) (hp2 : p < np) (hq : q < np) (he : e < 7) (hd : s_dist (I (f + 3)) np (s_set (fun p => zB (I (f + 2) p) k) np) p q = nI e) (hkk : kk ≤ e) {z : Nat} (hz : z < 7) (hw : s_wayS (I (f + 3)) np (s_set (fun p => zB (I (f + 2) p) k) np) q p e kk = nI z) : zEi G y_Tf_wayAt prog_1_method_28_code 6 (some .int) 5 [.ref 0, .int (nI t), .int (nI q), .int (nI kk)] (I, J, P, S) (fun r w => r = nI z ∧ cW I J P S 0 w) := by
  obtain ⟨⟨c0, c3, c1s⟩, ⟨c5, c2s, ctr⟩, ⟨c6, c11s, c11, c13s⟩, ⟨c7, c15s, c15⟩, ⟨c8, c16s, c16a, c16b, c17s⟩, ⟨c9, c10, cfd, F, Fd⟩, ⟨c11b, Ft⟩, ⟨c12, c69s, cmk⟩, ⟨c14, c121s, c121, c122s⟩, ⟨c15b, c123s, c123, c124s⟩, ⟨c16, c125s, c125, c126s⟩, ⟨c17, c127s, c127, c128s, ctb⟩, ⟨c18, c139s, c139, c140s⟩, ⟨c19, c141s, ⟨c141a, c142s⟩, ⟨c141b, c143s⟩, ⟨c141c, c144s⟩⟩, M⟩ := id Z
  obtain ⟨F0, ⟨F8, F8s⟩, ⟨F9, F9s⟩, ⟨F10, F10s⟩, ⟨F11, F11s⟩, ⟨F12, F12s⟩, ⟨F13, F13s⟩, ⟨F14, F14s⟩, ⟨F15, F15s⟩, ⟨F16, F16s⟩, ⟨F17, F17s⟩, ⟨F18, F18s⟩, ⟨F19, F19s⟩, ⟨Y3, Y3s⟩, ⟨Y4, Y4s⟩, ⟨Y5, Y5s⟩, ⟨Y6, Y6s⟩⟩ := id F
  obtain ⟨⟨n1, n1b⟩, ⟨n2, n2b⟩, ⟨n3, n3b⟩, ⟨n4, n4b⟩, nof, non⟩ := id N
  have hlt : ¬ nI z < 0 := nI_pos (by omega)
  refine zEi_of (lv := [some (.ref 0), some (.int (nI t)), some (.int (nI q)), some (.int (nI kk)), none, none]) (by decide) rfl (Nat.le_of_ble_eq_true rfl) ?_
  refine z_aload_0 d_Tf_wayAt_0 ?_
  refine z_iload_1 d_Tf_wayAt_1 ?_
  refine z_iload_2 d_Tf_wayAt_2 ?_
  refine z_Vi2 d_Tf_wayAt_3 k_Tf_301 (by first | assumption | exact zS0_at (by assumption) (by omega) | exact zS0_at rfl (by omega)) (t_Tf_wayStatus_p Z N ht hp hp2 hq) ⟨Nat.le_of_ble_eq_true rfl, Nat.le_of_ble_eq_true rfl, Nat.le_of_ble_eq_true rfl, Nat.le_of_ble_eq_true rfl⟩ (Nat.le_of_ble_eq_true rfl) ?_
  intro r w hq
  obtain ⟨rfl, rfl⟩ := hq
  first | refine z_istore_4 d_Tf_wayAt_6 rfl ?_ | (refine z_forget_3 ?_; refine z_istore_4 d_Tf_wayAt_6 rfl ?_)
  refine z_iload_4 d_Tf_wayAt_8 ?_
  refine z_if_eq (tgt := 20) d_Tf_wayAt_10 (by decide) (fun h10 => ?_) (fun h10 => ?_)
  · first
    | (simp (disch := omega) only [← nI_0, nI_leI, nI_ltI, nI_eq, not_true_eq_false, not_false_eq_true] at h10; done)
    | (simp (disch := omega) only [← nI_0, nI_leI, nI_ltI, nI_eq, not_true_eq_false, not_false_eq_true] at h10; omega)
    | contradiction
    | exact absurd h10 (Int32.not_lt.mpr (by assumption))
    | exact absurd h10 (Int32.not_le.mpr (by assumption))
    | exact absurd h10 (by decide)
    | exact absurd (by decide) h10
    | ( try simp (disch := omega) only [← nI_0, nI_leI, nI_ltI, nI_eq, not_true_eq_false, not_false_eq_true] at h10
        (try have h10b := zbit_n0.mp h10); (try have h10b := zbit_p0.mp h10)
        refine z_aload_0 d_Tf_wayAt_20 ?_
        refine z_getR d_Tf_wayAt_21 f_Tf_60 (by first | assumption | exact zS0_at (by assumption) (by omega) | exact zS0_at rfl (by omega)) (by first | assumption | exact zS0_at (by assumption) (by omega) | exact zS0_at rfl (by omega)) ?_
        refine z_iload_1 d_Tf_wayAt_24 ?_
        refine z_iload_2 d_Tf_wayAt_25 ?_
        refine z_iload_3 d_Tf_wayAt_26 ?_
        refine z_Si4 d_Tf_wayAt_27 k_Tf_311 (t_Rows_onWay F N ht hk hp hp2 hd he hkk) ⟨Nat.le_of_ble_eq_true rfl, Nat.le_of_ble_eq_true rfl, Nat.le_of_ble_eq_true rfl, Nat.le_of_ble_eq_true rfl⟩ (Nat.le_of_ble_eq_true rfl) ?_
        intro r w hq
        obtain ⟨rfl, rfl⟩ := hq
        rw [hw]
        first | refine z_istore_5 d_Tf_wayAt_30 rfl ?_ | (refine z_forget_4 ?_; refine z_istore_5 d_Tf_wayAt_30 rfl ?_)
        refine z_iload_5 d_Tf_wayAt_32 ?_
        refine z_if_ge (tgt := 46) d_Tf_wayAt_34 (by decide) (fun h34 => ?_) (fun h34 => ?_)
        · first
          | (simp (disch := omega) only [← nI_0, nI_leI, nI_ltI, nI_eq, not_true_eq_false, not_false_eq_true] at h34; done)
          | (simp (disch := omega) only [← nI_0, nI_leI, nI_ltI, nI_eq, not_true_eq_false, not_false_eq_true] at h34; omega)
          | contradiction
          | exact absurd h34 (Int32.not_lt.mpr (by assumption))
          | exact absurd h34 (Int32.not_le.mpr (by assumption))
          | exact absurd h34 (by decide)
          | exact absurd (by decide) h34
          | ( try simp (disch := omega) only [← nI_0, nI_leI, nI_ltI, nI_eq, not_true_eq_false, not_false_eq_true] at h34
              (try have h34b := zbit_n0.mp h34); (try have h34b := zbit_p0.mp h34)
              refine z_aload_0 d_Tf_wayAt_46 ?_
              refine z_iload_5 d_Tf_wayAt_47 ?_
              refine z_Vi1 d_Tf_wayAt_49 k_Tf_174 (by first | assumption | exact zS0_at (by assumption) (by omega) | exact zS0_at rfl (by omega)) (t_Tf_give (by assumption)) ⟨Nat.le_of_ble_eq_true rfl, Nat.le_of_ble_eq_true rfl, Nat.le_of_ble_eq_true rfl, Nat.le_of_ble_eq_true rfl⟩ (Nat.le_of_ble_eq_true rfl) ?_
              intro r w hq
              obtain ⟨rfl, rfl⟩ := hq
              refine z_reti d_Tf_wayAt_52 ?_
              exact ⟨rfl, cW_0⟩)
        · first
          | (simp (disch := omega) only [← nI_0, nI_leI, nI_ltI, nI_eq, not_true_eq_false, not_false_eq_true] at h34; done)
          | (simp (disch := omega) only [← nI_0, nI_leI, nI_ltI, nI_eq, not_true_eq_false, not_false_eq_true] at h34; omega)
          | contradiction
          | exact absurd h34 (Int32.not_lt.mpr (by assumption))
          | exact absurd h34 (Int32.not_le.mpr (by assumption))
          | exact absurd h34 (by decide)
          | exact absurd (by decide) h34
          | ( try simp (disch := omega) only [← nI_0, nI_leI, nI_ltI, nI_eq, not_true_eq_false, not_false_eq_true] at h34
              (try have h34b := zbit_n0.mp h34); (try have h34b := zbit_p0.mp h34)
              refine z_aload_0 d_Tf_wayAt_37 ?_
              refine z_bipush (a := nI 8) d_Tf_wayAt_38 (by decide) ?_
              refine z_Vi1 d_Tf_wayAt_40 k_Tf_138 (by first | assumption | exact zS0_at (by assumption) (by omega) | exact zS0_at rfl (by omega)) (t_Tf_fail (by assumption)) ⟨Nat.le_of_ble_eq_true rfl, Nat.le_of_ble_eq_true rfl, Nat.le_of_ble_eq_true rfl, Nat.le_of_ble_eq_true rfl⟩ (Nat.le_of_ble_eq_true rfl) ?_
              intro r w hq
              obtain ⟨rfl, rfl⟩ := hq
              refine z_goto (tgt := 52) d_Tf_wayAt_43 (by decide) ?_
              refine z_reti d_Tf_wayAt_52 ?_
              exact ⟨rfl, cW_0⟩))
  · first
    | (simp (disch := omega) only [← nI_0, nI_leI, nI_ltI, nI_eq, not_true_eq_false, not_false_eq_true] at h10; done)
    | (simp (disch := omega) only [← nI_0, nI_leI, nI_ltI, nI_eq, not_true_eq_false, not_false_eq_true] at h10; omega)
    | contradiction
    | exact absurd h10 (Int32.not_lt.mpr (by assumption))
    | exact absurd h10 (Int32.not_le.mpr (by assumption))
    | exact absurd h10 (by decide)
    | exact absurd (by decide) h10
    | ( try simp (disch := omega) only [← nI_0, nI_leI, nI_ltI, nI_eq, not_true_eq_false, not_false_eq_true] at h10
        (try have h10b := zbit_n0.mp h10); (try have h10b := zbit_p0.mp h10)
        refine z_aload_0 d_Tf_wayAt_13 ?_
        refine z_iload_4 d_Tf_wayAt_14 ?_
        refine z_Vi1 d_Tf_wayAt_16 k_Tf_138 (by first | assumption | exact zS0_at (by assumption) (by omega) | exact zS0_at rfl (by omega)) (t_Tf_fail (by assumption)) ⟨Nat.le_of_ble_eq_true rfl, Nat.le_of_ble_eq_true rfl, Nat.le_of_ble_eq_true rfl, Nat.le_of_ble_eq_true rfl⟩ (Nat.le_of_ble_eq_true rfl) ?_
        intro r w hq
        obtain ⟨rfl, rfl⟩ := hq
        refine z_reti d_Tf_wayAt_19 ?_
        exact ⟨rfl, cW_0⟩)
theorem t_Mo_wayAt_o (M : modOk P S) (N : modIn I nt np nl nn) (h : ¬ zin a nn ∨ ¬ zin b np) : zEi G y_Mo_wayAt prog_14_method_105_code 8 (some .int) 5 [.ref 145, .int a, .int b, .int c] (I, J, P, S) (fun r w => r = -1 ∧ mW I J P S 2 w) := by
  obtain ⟨M0, ⟨M4, M4s⟩, ⟨M5, M5s⟩, ⟨M6, M6s⟩, ⟨M7, M7s⟩, ⟨M20, M20s⟩, ⟨M21, M21s⟩, ⟨M22, M22s⟩, ⟨M26, M26s⟩, ⟨M27, M27s⟩, ⟨M28, M28s⟩, ⟨M30, M30s⟩, ⟨M34, M34s⟩, ⟨M36, M36s⟩, ⟨M37, M37s⟩⟩ := id M
  refine zEi_of (lv := [some (.ref 145), some (.int a), some (.int b), some (.int c), none, none, none, none]) (by decide) rfl (Nat.le_of_ble_eq_true rfl) ?_
  refine z_aload_0 d_Mo_wayAt_0 ?_
  refine z_iconst (a := nI 0) d_Mo_wayAt_1 (by decide) ?_
  refine z_putI d_Mo_wayAt_2 f_Mo_70 (by first | assumption | exact zS0_at (by assumption) (by omega) | exact zS0_at rfl (by omega)) ?_
  refine z_aload_0 d_Mo_wayAt_5 ?_
  refine z_aload_0 d_Mo_wayAt_6 ?_
  refine z_iload_1 d_Mo_wayAt_7 ?_
  refine z_iload_2 d_Mo_wayAt_8 ?_
  refine z_Vi2 d_Mo_wayAt_9 k_Mo_374 (by first | assumption | exact zS0_at (by assumption) (by omega) | exact zS0_at rfl (by omega)) (t_Mo_whyNoWay_o M (modIn_z N) h) ⟨Nat.le_of_ble_eq_true rfl, Nat.le_of_ble_eq_true rfl, Nat.le_of_ble_eq_true rfl, Nat.le_of_ble_eq_true rfl⟩ (Nat.le_of_ble_eq_true rfl) ?_
  intro r w hq
  obtain ⟨rfl, rfl⟩ := hq
  refine z_putI d_Mo_wayAt_12 f_Mo_73 (by first | assumption | exact zS0_at (by assumption) (by omega) | exact zS0_at rfl (by omega)) ?_
  refine z_aload_0 d_Mo_wayAt_15 ?_
  refine z_getIv d_Mo_wayAt_16 f_Mo_73 (by first | assumption | exact zS0_at (by assumption) (by omega) | exact zS0_at rfl (by omega)) (by first | assumption | ((try simp (disch := omega) only [zu_same, zu_ne, zcp_ne, zfl_ne]); first | assumption | rfl)) ?_
  refine z_if_le (tgt := 24) d_Mo_wayAt_19 (by decide) (fun h19 => ?_) (fun h19 => ?_)
  · first
    | (simp (disch := omega) only [← nI_0, nI_leI, nI_ltI, nI_eq, not_true_eq_false, not_false_eq_true] at h19; done)
    | (simp (disch := omega) only [← nI_0, nI_leI, nI_ltI, nI_eq, not_true_eq_false, not_false_eq_true] at h19; omega)
    | contradiction
    | exact absurd h19 (Int32.not_lt.mpr (by assumption))
    | exact absurd h19 (Int32.not_le.mpr (by assumption))
    | exact absurd h19 (by decide)
    | exact absurd (by decide) h19
    | ( try simp (disch := omega) only [← nI_0, nI_leI, nI_ltI, nI_eq, not_true_eq_false, not_false_eq_true] at h19
        (try have h19b := zbit_n0.mp h19); (try have h19b := zbit_p0.mp h19)
        fail)
  · first
    | (simp (disch := omega) only [← nI_0, nI_leI, nI_ltI, nI_eq, not_true_eq_false, not_false_eq_true] at h19; done)
    | (simp (disch := omega) only [← nI_0, nI_leI, nI_ltI, nI_eq, not_true_eq_false, not_false_eq_true] at h19; omega)
    | contradiction
    | exact absurd h19 (Int32.not_lt.mpr (by assumption))
    | exact absurd h19 (Int32.not_le.mpr (by assumption))
    | exact absurd h19 (by decide)
    | exact absurd (by decide) h19
    | ( try simp (disch := omega) only [← nI_0, nI_leI, nI_ltI, nI_eq, not_true_eq_false, not_false_eq_true] at h19
        (try have h19b := zbit_n0.mp h19); (try have h19b := zbit_p0.mp h19)
        refine z_iconst (a := -1) d_Mo_wayAt_22 (by decide) ?_
        refine z_reti d_Mo_wayAt_23 ?_
        exact ⟨rfl, _, _, rfl, mqF_z (mqF_z mqF_r (by decide)) (by decide), mqJ_r, zu_same _ _ _ _⟩)
theorem t_Mo_wayAt_g (M : modOk P S) (N : modIn I nt np nl nn) (ht : t < nn) (hg : I 150 (42 + t) = -1) (hq : q < np) : zEi G y_Mo_wayAt prog_14_method_105_code 8 (some .int) 5 [.ref 145, .int (nI t), .int (nI q), .int c] (I, J, P, S) (fun r w => r = -1 ∧ mW I J P S 9 w) := by
  obtain ⟨M0, ⟨M4, M4s⟩, ⟨M5, M5s⟩, ⟨M6, M6s⟩, ⟨M7, M7s⟩, ⟨M20, M20s⟩, ⟨M21, M21s⟩, ⟨M22, M22s⟩, ⟨M26, M26s⟩, ⟨M27, M27s⟩, ⟨M28, M28s⟩, ⟨M30, M30s⟩, ⟨M34, M34s⟩, ⟨M36, M36s⟩, ⟨M37, M37s⟩⟩ := id M
  have hg' : zu I 145 1 (nI 0) 150 (42 + t) = -1 := by rw [zu_row _ _ _ _ (by decide)]; exact hg
  refine zEi_of (lv := [some (.ref 145), some (.int (nI t)), some (.int (nI q)), some (.int c), none, none, none, none]) (by decide) rfl (Nat.le_of_ble_eq_true rfl) ?_
  refine z_aload_0 d_Mo_wayAt_0 ?_
  refine z_iconst (a := nI 0) d_Mo_wayAt_1 (by decide) ?_
  refine z_putI d_Mo_wayAt_2 f_Mo_70 (by first | assumption | exact zS0_at (by assumption) (by omega) | exact zS0_at rfl (by omega)) ?_
  refine z_aload_0 d_Mo_wayAt_5 ?_
  refine z_aload_0 d_Mo_wayAt_6 ?_
  refine z_iload_1 d_Mo_wayAt_7 ?_
  refine z_iload_2 d_Mo_wayAt_8 ?_
  refine z_Vi2 d_Mo_wayAt_9 k_Mo_374 (by first | assumption | exact zS0_at (by assumption) (by omega) | exact zS0_at rfl (by omega)) (t_Mo_whyNoWay_g M (modIn_z N) ht hg' hq) ⟨Nat.le_of_ble_eq_true rfl, Nat.le_of_ble_eq_true rfl, Nat.le_of_ble_eq_true rfl, Nat.le_of_ble_eq_true rfl⟩ (Nat.le_of_ble_eq_true rfl) ?_
  intro r w hq
  obtain ⟨rfl, rfl⟩ := hq
  refine z_putI d_Mo_wayAt_12 f_Mo_73 (by first | assumption | exact zS0_at (by assumption) (by omega) | exact zS0_at rfl (by omega)) ?_
  refine z_aload_0 d_Mo_wayAt_15 ?_
  refine z_getIv d_Mo_wayAt_16 f_Mo_73 (by first | assumption | exact zS0_at (by assumption) (by omega) | exact zS0_at rfl (by omega)) (by first | assumption | ((try simp (disch := omega) only [zu_same, zu_ne, zcp_ne, zfl_ne]); first | assumption | rfl)) ?_
  refine z_if_le (tgt := 24) d_Mo_wayAt_19 (by decide) (fun h19 => ?_) (fun h19 => ?_)
  · first
    | (simp (disch := omega) only [← nI_0, nI_leI, nI_ltI, nI_eq, not_true_eq_false, not_false_eq_true] at h19; done)
    | (simp (disch := omega) only [← nI_0, nI_leI, nI_ltI, nI_eq, not_true_eq_false, not_false_eq_true] at h19; omega)
    | contradiction
    | exact absurd h19 (Int32.not_lt.mpr (by assumption))
    | exact absurd h19 (Int32.not_le.mpr (by assumption))
    | exact absurd h19 (by decide)
    | exact absurd (by decide) h19
    | ( try simp (disch := omega) only [← nI_0, nI_leI, nI_ltI, nI_eq, not_true_eq_false, not_false_eq_true] at h19
        (try have h19b := zbit_n0.mp h19); (try have h19b := zbit_p0.mp h19)
        fail)
  · first
    | (simp (disch := omega) only [← nI_0, nI_leI, nI_ltI, nI_eq, not_true_eq_false, not_false_eq_true] at h19; done)
    | (simp (disch := omega) only [← nI_0, nI_leI, nI_ltI, nI_eq, not_true_eq_false, not_false_eq_true] at h19; omega)
    | contradiction
    | exact absurd h19 (Int32.not_lt.mpr (by assumption))
    | exact absurd h19 (Int32.not_le.mpr (by assumption))
    | exact absurd h19 (by decide)
    | exact absurd (by decide) h19
    | ( try simp (disch := omega) only [← nI_0, nI_leI, nI_ltI, nI_eq, not_true_eq_false, not_false_eq_true] at h19
        (try have h19b := zbit_n0.mp h19); (try have h19b := zbit_p0.mp h19)
        refine z_iconst (a := -1) d_Mo_wayAt_22 (by decide) ?_
        refine z_reti d_Mo_wayAt_23 ?_
        exact ⟨rfl, _, _, rfl, mqF_z (mqF_z mqF_r (by decide)) (by decide), mqJ_r, zu_same _ _ _ _⟩)
theorem t_Mo_wayAt_n (M : modOk P S) (N : modIn I nt np nl nn) (ht : t < nn) (hk : I 150 (33 + t) = nI k) (hp : I 150 (42 + t) = nI p) (hp2 : p < np) (hq : q < np) (h : (∀ n, ¬ gP (mMt I) (mTk I np k) np n p q) ∨ ∃ e, e < 7 ∧ gD (mMt I) (mTk I np k) np e p q ∧ ¬ zin c (e + 1)) : zEi G y_Mo_wayAt prog_14_method_105_code 8 (some .int) 5 [.ref 145, .int (nI t), .int (nI q), .int c] (I, J, P, S) (fun r w => r = -1 ∧ mW I J P S 8 w) := by
  obtain ⟨M0, ⟨M4, M4s⟩, ⟨M5, M5s⟩, ⟨M6, M6s⟩, ⟨M7, M7s⟩, ⟨M20, M20s⟩, ⟨M21, M21s⟩, ⟨M22, M22s⟩, ⟨M26, M26s⟩, ⟨M27, M27s⟩, ⟨M28, M28s⟩, ⟨M30, M30s⟩, ⟨M34, M34s⟩, ⟨M36, M36s⟩, ⟨M37, M37s⟩⟩ := id M
  obtain ⟨I1, hI1, N1, h1, h0, e150, er, ek⟩ := mo_beg N
  obtain ⟨⟨m0, m0b⟩, ⟨m1, m1b⟩, ⟨m2, m2b⟩, ⟨m3, m3b⟩, mof, mon⟩ := id N
  have hp' : zu I 145 1 (nI 0) 150 (42 + t) = nI p := by rw [zu_row _ _ _ _ (by decide)]; exact hp
  have hp1 : I1 150 (42 + t) = nI p := by rw [e150]; exact hp
  have hk1 : I1 150 (33 + t) = nI k := by rw [e150]; exact hk
  refine zEi_of (lv := [some (.ref 145), some (.int (nI t)), some (.int (nI q)), some (.int c), none, none, none, none]) (by decide) rfl (Nat.le_of_ble_eq_true rfl) ?_
  refine z_aload_0 d_Mo_wayAt_0 ?_
  refine z_iconst (a := nI 0) d_Mo_wayAt_1 (by decide) ?_
  refine z_putI d_Mo_wayAt_2 f_Mo_70 (by first | assumption | exact zS0_at (by assumption) (by omega) | exact zS0_at rfl (by omega)) ?_
  refine z_aload_0 d_Mo_wayAt_5 ?_
  refine z_aload_0 d_Mo_wayAt_6 ?_
  refine z_iload_1 d_Mo_wayAt_7 ?_
  refine z_iload_2 d_Mo_wayAt_8 ?_
  refine z_Vi2 d_Mo_wayAt_9 k_Mo_374 (by first | assumption | exact zS0_at (by assumption) (by omega) | exact zS0_at rfl (by omega)) (t_Mo_whyNoWay_p M (modIn_z N) ht hp' hp2 hq) ⟨Nat.le_of_ble_eq_true rfl, Nat.le_of_ble_eq_true rfl, Nat.le_of_ble_eq_true rfl, Nat.le_of_ble_eq_true rfl⟩ (Nat.le_of_ble_eq_true rfl) ?_
  intro r w hq
  obtain ⟨rfl, rfl⟩ := hq
  refine z_putI d_Mo_wayAt_12 f_Mo_73 (by first | assumption | exact zS0_at (by assumption) (by omega) | exact zS0_at rfl (by omega)) ?_
  rw [← hI1]
  refine z_aload_0 d_Mo_wayAt_15 ?_
  refine z_getIv d_Mo_wayAt_16 f_Mo_73 (by first | assumption | exact zS0_at (by assumption) (by omega) | exact zS0_at rfl (by omega)) (by first | assumption | ((try simp (disch := omega) only [zu_same, zu_ne, zcp_ne, zfl_ne]); first | assumption | rfl)) ?_
  refine z_if_le (tgt := 24) d_Mo_wayAt_19 (by decide) (fun _ => ?_) (fun h => absurd (by decide) h)
  refine z_aload_0 d_Mo_wayAt_24 ?_
  refine z_iload_1 d_Mo_wayAt_25 ?_
  refine z_iload_2 d_Mo_wayAt_26 ?_
  refine z_Vv2 d_Mo_wayAt_27 k_Mo_377 (by first | assumption | exact zS0_at (by assumption) (by omega) | exact zS0_at rfl (by omega)) (t_Mo_laysFar M N1 (by omega) hk1 hq) ⟨Nat.le_of_ble_eq_true rfl, Nat.le_of_ble_eq_true rfl, Nat.le_of_ble_eq_true rfl, Nat.le_of_ble_eq_true rfl⟩ (Nat.le_of_ble_eq_true rfl) ?_
  rintro w ⟨I2, rfl, g1, g2⟩
  rw [mMt_c e150, mTk_c e150] at g2
  have hp3 : I2 150 (42 + t) = nI p := by rw [g1 150 (by decide)]; exact hp1
  have f2 : mqF I I2 := mqF_t h1 (xF_m g1 (by omega))
  rcases gAt_7 m1b (in7_set m1b) (show p < 7 by omega) (show q < 32 by omega) (g2 p (by omega)) with ⟨hx, hn⟩ | ⟨m, hm, hx, hd⟩
  · refine z_aload_0 d_Mo_wayAt_30 ?_
    refine z_getR d_Mo_wayAt_31 f_Mo_35 (by first | assumption | exact zS0_at (by assumption) (by omega) | exact zS0_at rfl (by omega)) (by first | assumption | exact zS0_at (by assumption) (by omega) | exact zS0_at rfl (by omega)) ?_
    refine z_bipush (a := nI 42) d_Mo_wayAt_34 (by decide) ?_
    refine z_iload_1 d_Mo_wayAt_36 ?_
    first | refine z_iaddN d_Mo_wayAt_37 ?_ | refine z_iadd d_Mo_wayAt_37 ?_
    first | refine z_ialdNv d_Mo_wayAt_38 (by first | assumption | exact zS0_at (by assumption) (by omega) | exact zS0_at rfl (by omega)) (by omega) (by first | decide | omega) (by first | assumption | ((try simp (disch := omega) only [zu_same, zu_ne, zcp_ne, zfl_ne]); first | assumption | rfl)) ?_ | refine z_iald d_Mo_wayAt_38 (by first | assumption | exact zS0_at (by assumption) (by omega) | exact zS0_at rfl (by omega)) (by first | assumption | exact zS0_at (by assumption) (by omega) | exact zS0_at rfl (by omega)) ?_
    first | refine z_istore_4 d_Mo_wayAt_39 rfl ?_ | (refine z_forget_3 ?_; refine z_istore_4 d_Mo_wayAt_39 rfl ?_)
    refine z_aload_0 d_Mo_wayAt_41 ?_
    refine z_getR d_Mo_wayAt_42 f_Mo_44 (by first | assumption | exact zS0_at (by assumption) (by omega) | exact zS0_at rfl (by omega)) (by first | assumption | exact zS0_at (by assumption) (by omega) | exact zS0_at rfl (by omega)) ?_
    refine z_iload_4 d_Mo_wayAt_45 ?_
    first | refine z_ialdNv d_Mo_wayAt_47 (by first | assumption | exact zS0_at (by assumption) (by omega) | exact zS0_at rfl (by omega)) (by omega) (by first | decide | omega) (by first | assumption | ((try simp (disch := omega) only [zu_same, zu_ne, zcp_ne, zfl_ne]); first | assumption | rfl)) ?_ | refine z_iald d_Mo_wayAt_47 (by first | assumption | exact zS0_at (by assumption) (by omega) | exact zS0_at rfl (by omega)) (by first | assumption | exact zS0_at (by assumption) (by omega) | exact zS0_at rfl (by omega)) ?_
    refine z_bipush (a := nI 99) d_Mo_wayAt_48 (by decide) ?_
    refine z_icmp_ge (tgt := 70) d_Mo_wayAt_50 (by decide) (fun _ => ?_) (fun h => absurd (by decide) h)
    refine z_aload_0 d_Mo_wayAt_70 ?_
    refine z_bipush (a := nI 8) d_Mo_wayAt_71 (by decide) ?_
    refine z_Vi1 d_Mo_wayAt_73 k_Mo_327 (by first | assumption | exact zS0_at (by assumption) (by omega) | exact zS0_at rfl (by omega)) (t_Mo_refuse (by assumption)) ⟨Nat.le_of_ble_eq_true rfl, Nat.le_of_ble_eq_true rfl, Nat.le_of_ble_eq_true rfl, Nat.le_of_ble_eq_true rfl⟩ (Nat.le_of_ble_eq_true rfl) ?_
    intro r w hq
    obtain ⟨rfl, rfl⟩ := hq
    refine z_reti d_Mo_wayAt_76 ?_
    exact ⟨rfl, _, _, rfl, mqF_z f2 (by decide), mqJ_r, zu_same _ _ _ _⟩
  · rcases h with h | ⟨e, e1, e2, e3⟩
    · exact absurd hd.1 (h m)
    obtain rfl := gD_u hd e2
    refine z_aload_0 d_Mo_wayAt_30 ?_
    refine z_getR d_Mo_wayAt_31 f_Mo_35 (by first | assumption | exact zS0_at (by assumption) (by omega) | exact zS0_at rfl (by omega)) (by first | assumption | exact zS0_at (by assumption) (by omega) | exact zS0_at rfl (by omega)) ?_
    refine z_bipush (a := nI 42) d_Mo_wayAt_34 (by decide) ?_
    refine z_iload_1 d_Mo_wayAt_36 ?_
    first | refine z_iaddN d_Mo_wayAt_37 ?_ | refine z_iadd d_Mo_wayAt_37 ?_
    first | refine z_ialdNv d_Mo_wayAt_38 (by first | assumption | exact zS0_at (by assumption) (by omega) | exact zS0_at rfl (by omega)) (by omega) (by first | decide | omega) (by first | assumption | ((try simp (disch := omega) only [zu_same, zu_ne, zcp_ne, zfl_ne]); first | assumption | rfl)) ?_ | refine z_iald d_Mo_wayAt_38 (by first | assumption | exact zS0_at (by assumption) (by omega) | exact zS0_at rfl (by omega)) (by first | assumption | exact zS0_at (by assumption) (by omega) | exact zS0_at rfl (by omega)) ?_
    first | refine z_istore_4 d_Mo_wayAt_39 rfl ?_ | (refine z_forget_3 ?_; refine z_istore_4 d_Mo_wayAt_39 rfl ?_)
    refine z_aload_0 d_Mo_wayAt_41 ?_
    refine z_getR d_Mo_wayAt_42 f_Mo_44 (by first | assumption | exact zS0_at (by assumption) (by omega) | exact zS0_at rfl (by omega)) (by first | assumption | exact zS0_at (by assumption) (by omega) | exact zS0_at rfl (by omega)) ?_
    refine z_iload_4 d_Mo_wayAt_45 ?_
    first | refine z_ialdNv d_Mo_wayAt_47 (by first | assumption | exact zS0_at (by assumption) (by omega) | exact zS0_at rfl (by omega)) (by omega) (by first | decide | omega) (by first | assumption | ((try simp (disch := omega) only [zu_same, zu_ne, zcp_ne, zfl_ne]); first | assumption | rfl)) ?_ | refine z_iald d_Mo_wayAt_47 (by first | assumption | exact zS0_at (by assumption) (by omega) | exact zS0_at rfl (by omega)) (by first | assumption | exact zS0_at (by assumption) (by omega) | exact zS0_at rfl (by omega)) ?_
    refine z_bipush (a := nI 99) d_Mo_wayAt_48 (by decide) ?_
    refine z_icmp_ge (tgt := 70) d_Mo_wayAt_50 (by decide) (fun h => absurd h (fun q => by have := (nI_leI (by omega) (by omega)).mp q; omega)) (fun _ => ?_)
    refine z_iload_3 d_Mo_wayAt_53 ?_
    refine z_i2l d_Mo_wayAt_54 ?_
    refine z_lconst (f := lN 0) d_Mo_wayAt_55 rfl ?_
    refine z_aload_0 d_Mo_wayAt_56 ?_
    refine z_getR d_Mo_wayAt_57 f_Mo_44 (by first | assumption | exact zS0_at (by assumption) (by omega) | exact zS0_at rfl (by omega)) (by first | assumption | exact zS0_at (by assumption) (by omega) | exact zS0_at rfl (by omega)) ?_
    refine z_iload_4 d_Mo_wayAt_60 ?_
    first | refine z_ialdNv d_Mo_wayAt_62 (by first | assumption | exact zS0_at (by assumption) (by omega) | exact zS0_at rfl (by omega)) (by omega) (by first | decide | omega) (by first | assumption | ((try simp (disch := omega) only [zu_same, zu_ne, zcp_ne, zfl_ne]); first | assumption | rfl)) ?_ | refine z_iald d_Mo_wayAt_62 (by first | assumption | exact zS0_at (by assumption) (by omega) | exact zS0_at rfl (by omega)) (by first | assumption | exact zS0_at (by assumption) (by omega) | exact zS0_at rfl (by omega)) ?_
    refine z_i2l d_Mo_wayAt_63 ?_
    refine z_Si3 d_Mo_wayAt_64 k_Mo_105 (t_Mo_isInZ (m := m + 1) (by omega) (by rw [Int32.toInt_toInt64, nI_int (by omega)]; omega)) ⟨Nat.le_of_ble_eq_true rfl, Nat.le_of_ble_eq_true rfl, Nat.le_of_ble_eq_true rfl, Nat.le_of_ble_eq_true rfl⟩ (Nat.le_of_ble_eq_true rfl) ?_
    intro r w hq
    rcases hq with ⟨⟨hz, rfl⟩ | ⟨hz, rfl⟩, rfl⟩
    · exact absurd hz e3
    · refine z_if_ne (tgt := 77) d_Mo_wayAt_67 (by decide) (fun h => absurd (by decide) h) (fun _ => ?_)
      refine z_aload_0 d_Mo_wayAt_70 ?_
      refine z_bipush (a := nI 8) d_Mo_wayAt_71 (by decide) ?_
      refine z_Vi1 d_Mo_wayAt_73 k_Mo_327 (by first | assumption | exact zS0_at (by assumption) (by omega) | exact zS0_at rfl (by omega)) (t_Mo_refuse (by assumption)) ⟨Nat.le_of_ble_eq_true rfl, Nat.le_of_ble_eq_true rfl, Nat.le_of_ble_eq_true rfl, Nat.le_of_ble_eq_true rfl⟩ (Nat.le_of_ble_eq_true rfl) ?_
      intro r w hq
      obtain ⟨rfl, rfl⟩ := hq
      refine z_reti d_Mo_wayAt_76 ?_
      exact ⟨rfl, _, _, rfl, mqF_z f2 (by decide), mqJ_r, zu_same _ _ _ _⟩
theorem t_Mo_wayAt (M : modOk P S) (N : modIn I nt np nl nn) (ht : t < nn) (hk : I 150 (33 + t) = nI k) (hp : I 150 (42 + t) = nI p) (hp2 : p < np) (hq : q < np) (he : e < 7) (hd : gD (mMt I) (mTk I np k) np e p q) (hkk : kk ≤ e) {z : Nat} (hw : s_wayS (mMt I) np (mTk I np k) q p e kk = nI z) (hz : z < 7) : zEi G y_Mo_wayAt prog_14_method_105_code 8 (some .int) 5 [.ref 145, .int (nI t), .int (nI q), .int (nI kk)] (I, J, P, S) (fun r w => r = nI z ∧ mW I J P S 0 w) := by
  obtain ⟨M0, ⟨M4, M4s⟩, ⟨M5, M5s⟩, ⟨M6, M6s⟩, ⟨M7, M7s⟩, ⟨M20, M20s⟩, ⟨M21, M21s⟩, ⟨M22, M22s⟩, ⟨M26, M26s⟩, ⟨M27, M27s⟩, ⟨M28, M28s⟩, ⟨M30, M30s⟩, ⟨M34, M34s⟩, ⟨M36, M36s⟩, ⟨M37, M37s⟩⟩ := id M
  obtain ⟨I1, hI1, N1, h1, h0, e150, er, ek⟩ := mo_beg N
  obtain ⟨⟨m0, m0b⟩, ⟨m1, m1b⟩, ⟨m2, m2b⟩, ⟨m3, m3b⟩, mof, mon⟩ := id N
  have htk := set_lt (b := fun q => zB (I 150 (12 + q)) k) m1b
  have hin : in7 (mTk I np k) := in7_set m1b
  have hp' : zu I 145 1 (nI 0) 150 (42 + t) = nI p := by rw [zu_row _ _ _ _ (by decide)]; exact hp
  have hp1 : I1 150 (42 + t) = nI p := by rw [e150]; exact hp
  have hk1 : I1 150 (33 + t) = nI k := by rw [e150]; exact hk
  refine zEi_of (lv := [some (.ref 145), some (.int (nI t)), some (.int (nI q)), some (.int (nI kk)), none, none, none, none]) (by decide) rfl (Nat.le_of_ble_eq_true rfl) ?_
  refine z_aload_0 d_Mo_wayAt_0 ?_
  refine z_iconst (a := nI 0) d_Mo_wayAt_1 (by decide) ?_
  refine z_putI d_Mo_wayAt_2 f_Mo_70 (by first | assumption | exact zS0_at (by assumption) (by omega) | exact zS0_at rfl (by omega)) ?_
  refine z_aload_0 d_Mo_wayAt_5 ?_
  refine z_aload_0 d_Mo_wayAt_6 ?_
  refine z_iload_1 d_Mo_wayAt_7 ?_
  refine z_iload_2 d_Mo_wayAt_8 ?_
  refine z_Vi2 d_Mo_wayAt_9 k_Mo_374 (by first | assumption | exact zS0_at (by assumption) (by omega) | exact zS0_at rfl (by omega)) (t_Mo_whyNoWay_p M (modIn_z N) ht hp' hp2 hq) ⟨Nat.le_of_ble_eq_true rfl, Nat.le_of_ble_eq_true rfl, Nat.le_of_ble_eq_true rfl, Nat.le_of_ble_eq_true rfl⟩ (Nat.le_of_ble_eq_true rfl) ?_
  intro r w hq
  obtain ⟨rfl, rfl⟩ := hq
  refine z_putI d_Mo_wayAt_12 f_Mo_73 (by first | assumption | exact zS0_at (by assumption) (by omega) | exact zS0_at rfl (by omega)) ?_
  rw [← hI1]
  refine z_aload_0 d_Mo_wayAt_15 ?_
  refine z_getIv d_Mo_wayAt_16 f_Mo_73 (by first | assumption | exact zS0_at (by assumption) (by omega) | exact zS0_at rfl (by omega)) (by first | assumption | ((try simp (disch := omega) only [zu_same, zu_ne, zcp_ne, zfl_ne]); first | assumption | rfl)) ?_
  refine z_if_le (tgt := 24) d_Mo_wayAt_19 (by decide) (fun _ => ?_) (fun h => absurd (by decide) h)
  refine z_aload_0 d_Mo_wayAt_24 ?_
  refine z_iload_1 d_Mo_wayAt_25 ?_
  refine z_iload_2 d_Mo_wayAt_26 ?_
  refine z_Vv2 d_Mo_wayAt_27 k_Mo_377 (by first | assumption | exact zS0_at (by assumption) (by omega) | exact zS0_at rfl (by omega)) (t_Mo_laysFar M N1 (by omega) hk1 hq) ⟨Nat.le_of_ble_eq_true rfl, Nat.le_of_ble_eq_true rfl, Nat.le_of_ble_eq_true rfl, Nat.le_of_ble_eq_true rfl⟩ (Nat.le_of_ble_eq_true rfl) ?_
  rintro w ⟨I2, rfl, g1, g2⟩
  rw [mMt_c e150, mTk_c e150] at g2
  have e2 : I2 150 = I 150 := (g1 150 (by decide)).trans e150
  have hp3 : I2 150 (42 + t) = nI p := by rw [g1 150 (by decide)]; exact hp1
  have hk3 : I2 150 (33 + t) = nI k := by rw [g1 150 (by decide)]; exact hk1
  have N2 := modIn_c N e2
  have f2 : mqF I I2 := mqF_t h1 (xF_m g1 (by omega))
  have s2 : I2 145 0 = nI 0 := by rw [g1 145 (by decide)]; exact h0
  have val : ∀ i m, i < 7 → m < 7 → (I2 153 i = nI m ↔ gD (mMt I) (mTk I np k) np m i q) := fun i m hi hm => gAt_q (g2 i hi) (by omega) (by omega)
  have hx : I2 153 p = nI e := (val p e (by omega) he).mpr hd
  have loop : ∀ m j, kk - j < m → j ≤ kk → ∀ r : Nat, (r < np) → (s_wayS (mMt I) np (mTk I np k) q p e j = nI r) → (gD (mMt I) (mTk I np k) np (e - j) r q) → zA G y_Mo_wayAt prog_14_method_105_code 8 (some .int) (zRm 5 0 0) (zM G 0 0 (fun r w' => ∃ x, r = some (.int x) ∧ (fun r w => r = nI z ∧ mW I J P S 0 w) x w')) 80 [some (.ref 145), some (.int (nI t)), some (.int (nI q)), some (.int (nI kk)), some (.int (nI r)), some (.int (nI j)), none, none] [] (I2, J, P, S) 0 0 := by
    intro m
    induction m with
    | zero => intro j h; omega
    | succ m ih =>
      intro j hm hj r r1 r2 r3
      refine z_iload_5 d_Mo_wayAt_80 ?_
      refine z_iload_3 d_Mo_wayAt_82 ?_
      refine z_icmp_ge (tgt := 143) d_Mo_wayAt_83 (by decide) (fun hb => ?_) (fun hb => ?_)
      · have hb := (nI_leI (by omega) (by omega)).mp hb
        obtain rfl : j = kk := by omega
        refine z_iload_4 d_Mo_wayAt_143 ?_
        refine z_reti d_Mo_wayAt_145 ?_
        exact ⟨r2.symm.trans hw, _, _, rfl, f2, mqJ_r, s2⟩
      · have hb : j < kk := Nat.lt_of_not_le (fun q => hb (nI_le q (by omega)))
        obtain ⟨s, s1, s2', s3, s4, s5⟩ := way_nx m1b hin htk (show q < 32 by omega) he (show j + 1 ≤ e by omega) r1 r2 r3
        have hr : I2 153 r = nI (e - j) := (val r _ (by omega) (by omega)).mpr r3
        have q0 := ih (j + 1) (by omega) (by omega) s s1 s2' s4
        have inn : ∀ u i, s - i < u → i ≤ s → zA G y_Mo_wayAt prog_14_method_105_code 8 (some .int) (zRm 5 0 0) (zM G 0 0 (fun r w' => ∃ x, r = some (.int x) ∧ (fun r w => r = nI z ∧ mW I J P S 0 w) x w')) 98 [some (.ref 145), some (.int (nI t)), some (.int (nI q)), some (.int (nI kk)), some (.int (nI r)), some (.int (nI j)), some (.int (mMt I r &&& mTk I np k)), some (.int (nI i))] [] (I2, J, P, S) 0 0 := by
          intro u
          induction u with
          | zero => intro i h; exact absurd h (Nat.not_lt_zero _)
          | succ u ihz =>
            intro i hz' hi
            have no : ¬ (zbit (mMt I r &&& mTk I np k) i ∧ gD (mMt I) (mTk I np k) np (e - (j + 1)) i q) → zA G y_Mo_wayAt prog_14_method_105_code 8 (some .int) (zRm 5 0 0) (zM G 0 0 (fun r w' => ∃ x, r = some (.int x) ∧ (fun r w => r = nI z ∧ mW I J P S 0 w) x w')) 127 [some (.ref 145), some (.int (nI t)), some (.int (nI q)), some (.int (nI kk)), some (.int (nI r)), some (.int (nI j)), some (.int (mMt I r &&& mTk I np k)), some (.int (nI i))] [] (I2, J, P, S) 0 0 := by
              intro hno
              have hlt : i < s := by
                rcases Nat.lt_or_ge i s with h | h
                · exact h
                · obtain rfl : i = s := by omega
                  exact absurd ⟨s3, s4⟩ hno
              first | refine z_iinc_7 d_Mo_wayAt_127 rfl (zi_inc _) ?_ | refine z_iinc_7 d_Mo_wayAt_127 rfl rfl ?_
              refine z_goto (tgt := 98) d_Mo_wayAt_130 (by decide) ?_
              exact ihz (i + 1) (by omega) (by omega)
            refine z_iload_6 d_Mo_wayAt_98 ?_
            refine z_iload_7 d_Mo_wayAt_100 ?_
            refine z_Si2 d_Mo_wayAt_102 k_Mo_109 (t_Mo_has) ⟨Nat.le_of_ble_eq_true rfl, Nat.le_of_ble_eq_true rfl, Nat.le_of_ble_eq_true rfl, Nat.le_of_ble_eq_true rfl⟩ (Nat.le_of_ble_eq_true rfl) ?_
            intro r' w hq
            rcases hq with ⟨⟨hz1, rfl⟩ | ⟨hz1, rfl⟩, rfl⟩
            · refine z_if_eq (tgt := 127) d_Mo_wayAt_105 (by decide) (fun h => absurd h (by decide)) (fun _ => ?_)
              refine z_aload_0 d_Mo_wayAt_108 ?_
              refine z_getR d_Mo_wayAt_109 f_Mo_44 (by first | assumption | exact zS0_at (by assumption) (by omega) | exact zS0_at rfl (by omega)) (by first | assumption | exact zS0_at (by assumption) (by omega) | exact zS0_at rfl (by omega)) ?_
              refine z_iload_7 d_Mo_wayAt_112 ?_
              first | refine z_ialdNv d_Mo_wayAt_114 (by first | assumption | exact zS0_at (by assumption) (by omega) | exact zS0_at rfl (by omega)) (by omega) (by first | decide | omega) (by first | assumption | ((try simp (disch := omega) only [zu_same, zu_ne, zcp_ne, zfl_ne]); first | assumption | rfl)) ?_ | refine z_iald d_Mo_wayAt_114 (by first | assumption | exact zS0_at (by assumption) (by omega) | exact zS0_at rfl (by omega)) (by first | assumption | exact zS0_at (by assumption) (by omega) | exact zS0_at rfl (by omega)) ?_
              refine z_aload_0 d_Mo_wayAt_115 ?_
              refine z_getR d_Mo_wayAt_116 f_Mo_44 (by first | assumption | exact zS0_at (by assumption) (by omega) | exact zS0_at rfl (by omega)) (by first | assumption | exact zS0_at (by assumption) (by omega) | exact zS0_at rfl (by omega)) ?_
              refine z_iload_4 d_Mo_wayAt_119 ?_
              first | refine z_ialdNv d_Mo_wayAt_121 (by first | assumption | exact zS0_at (by assumption) (by omega) | exact zS0_at rfl (by omega)) (by omega) (by first | decide | omega) (by first | assumption | ((try simp (disch := omega) only [zu_same, zu_ne, zcp_ne, zfl_ne]); first | assumption | rfl)) ?_ | refine z_iald d_Mo_wayAt_121 (by first | assumption | exact zS0_at (by assumption) (by omega) | exact zS0_at rfl (by omega)) (by first | assumption | exact zS0_at (by assumption) (by omega) | exact zS0_at rfl (by omega)) ?_
              refine z_iconst (a := nI 1) d_Mo_wayAt_122 (by decide) ?_
              first | refine z_isubN d_Mo_wayAt_123 (by omega) ?_ | refine z_isub d_Mo_wayAt_123 ?_
              rw [show e - j - 1 = e - (j + 1) by omega]
              refine z_icmp_eq (tgt := 133) d_Mo_wayAt_124 (by decide) (fun hc => ?_) (fun hc => ?_)
              · have hc := (val i _ (by omega) (by omega)).mp hc
                have : i = s := by
                  rcases Nat.lt_or_ge i s with h | h
                  · exact absurd ⟨hz1, hc⟩ (s5 i h)
                  · omega
                subst this
                refine z_iload_7 d_Mo_wayAt_133 ?_
                first | refine z_istore_4 d_Mo_wayAt_135 rfl ?_ | (refine z_forget_3 ?_; refine z_istore_4 d_Mo_wayAt_135 rfl ?_)
                first | refine z_iinc_5 d_Mo_wayAt_137 rfl (zi_inc _) ?_ | refine z_iinc_5 d_Mo_wayAt_137 rfl rfl ?_
                refine z_goto (tgt := 80) d_Mo_wayAt_140 (by decide) ?_
                refine z_forget_6 ?_
                refine z_forget_7 ?_
                exact q0
              · exact no (fun h => hc ((val i _ (by omega) (by omega)).mpr h.2))
            · refine z_if_eq (tgt := 127) d_Mo_wayAt_105 (by decide) (fun _ => ?_) (fun h => absurd (by decide) h)
              exact no (fun h => hz1 h.1)
        refine z_aload_0 d_Mo_wayAt_86 ?_
        refine z_iload_1 d_Mo_wayAt_87 ?_
        refine z_iload_4 d_Mo_wayAt_88 ?_
        refine z_Vi2 d_Mo_wayAt_90 k_Mo_357 (by first | assumption | exact zS0_at (by assumption) (by omega) | exact zS0_at rfl (by omega)) (t_Mo_nextOf' M N2 (by omega) hk3 (by omega)) ⟨Nat.le_of_ble_eq_true rfl, Nat.le_of_ble_eq_true rfl, Nat.le_of_ble_eq_true rfl, Nat.le_of_ble_eq_true rfl⟩ (Nat.le_of_ble_eq_true rfl) ?_
        intro r' w hq
        obtain ⟨rfl, rfl⟩ := hq
        rw [mMt_c e2, mTk_c e2]
        first | refine z_istore_6 d_Mo_wayAt_93 rfl ?_ | (refine z_forget_5 ?_; refine z_istore_6 d_Mo_wayAt_93 rfl ?_)
        refine z_iconst (a := nI 0) d_Mo_wayAt_95 (by decide) ?_
        first | refine z_istore_7 d_Mo_wayAt_96 rfl ?_ | (refine z_forget_6 ?_; refine z_istore_7 d_Mo_wayAt_96 rfl ?_)
        exact inn (s + 1) 0 (by omega) (by omega)
  refine z_aload_0 d_Mo_wayAt_30 ?_
  refine z_getR d_Mo_wayAt_31 f_Mo_35 (by first | assumption | exact zS0_at (by assumption) (by omega) | exact zS0_at rfl (by omega)) (by first | assumption | exact zS0_at (by assumption) (by omega) | exact zS0_at rfl (by omega)) ?_
  refine z_bipush (a := nI 42) d_Mo_wayAt_34 (by decide) ?_
  refine z_iload_1 d_Mo_wayAt_36 ?_
  first | refine z_iaddN d_Mo_wayAt_37 ?_ | refine z_iadd d_Mo_wayAt_37 ?_
  first | refine z_ialdNv d_Mo_wayAt_38 (by first | assumption | exact zS0_at (by assumption) (by omega) | exact zS0_at rfl (by omega)) (by omega) (by first | decide | omega) (by first | assumption | ((try simp (disch := omega) only [zu_same, zu_ne, zcp_ne, zfl_ne]); first | assumption | rfl)) ?_ | refine z_iald d_Mo_wayAt_38 (by first | assumption | exact zS0_at (by assumption) (by omega) | exact zS0_at rfl (by omega)) (by first | assumption | exact zS0_at (by assumption) (by omega) | exact zS0_at rfl (by omega)) ?_
  first | refine z_istore_4 d_Mo_wayAt_39 rfl ?_ | (refine z_forget_3 ?_; refine z_istore_4 d_Mo_wayAt_39 rfl ?_)
  refine z_aload_0 d_Mo_wayAt_41 ?_
  refine z_getR d_Mo_wayAt_42 f_Mo_44 (by first | assumption | exact zS0_at (by assumption) (by omega) | exact zS0_at rfl (by omega)) (by first | assumption | exact zS0_at (by assumption) (by omega) | exact zS0_at rfl (by omega)) ?_
  refine z_iload_4 d_Mo_wayAt_45 ?_
  first | refine z_ialdNv d_Mo_wayAt_47 (by first | assumption | exact zS0_at (by assumption) (by omega) | exact zS0_at rfl (by omega)) (by omega) (by first | decide | omega) (by first | assumption | ((try simp (disch := omega) only [zu_same, zu_ne, zcp_ne, zfl_ne]); first | assumption | rfl)) ?_ | refine z_iald d_Mo_wayAt_47 (by first | assumption | exact zS0_at (by assumption) (by omega) | exact zS0_at rfl (by omega)) (by first | assumption | exact zS0_at (by assumption) (by omega) | exact zS0_at rfl (by omega)) ?_
  refine z_bipush (a := nI 99) d_Mo_wayAt_48 (by decide) ?_
  refine z_icmp_ge (tgt := 70) d_Mo_wayAt_50 (by decide) (fun h => absurd h (fun q => by have := (nI_leI (by omega) (by omega)).mp q; omega)) (fun _ => ?_)
  refine z_iload_3 d_Mo_wayAt_53 ?_
  refine z_i2l d_Mo_wayAt_54 ?_
  refine z_lconst (f := lN 0) d_Mo_wayAt_55 rfl ?_
  refine z_aload_0 d_Mo_wayAt_56 ?_
  refine z_getR d_Mo_wayAt_57 f_Mo_44 (by first | assumption | exact zS0_at (by assumption) (by omega) | exact zS0_at rfl (by omega)) (by first | assumption | exact zS0_at (by assumption) (by omega) | exact zS0_at rfl (by omega)) ?_
  refine z_iload_4 d_Mo_wayAt_60 ?_
  first | refine z_ialdNv d_Mo_wayAt_62 (by first | assumption | exact zS0_at (by assumption) (by omega) | exact zS0_at rfl (by omega)) (by omega) (by first | decide | omega) (by first | assumption | ((try simp (disch := omega) only [zu_same, zu_ne, zcp_ne, zfl_ne]); first | assumption | rfl)) ?_ | refine z_iald d_Mo_wayAt_62 (by first | assumption | exact zS0_at (by assumption) (by omega) | exact zS0_at rfl (by omega)) (by first | assumption | exact zS0_at (by assumption) (by omega) | exact zS0_at rfl (by omega)) ?_
  refine z_i2l d_Mo_wayAt_63 ?_
  refine z_Si3 d_Mo_wayAt_64 k_Mo_105 (t_Mo_isInZ (m := e + 1) (by omega) (by rw [Int32.toInt_toInt64, nI_int (by omega)]; omega)) ⟨Nat.le_of_ble_eq_true rfl, Nat.le_of_ble_eq_true rfl, Nat.le_of_ble_eq_true rfl, Nat.le_of_ble_eq_true rfl⟩ (Nat.le_of_ble_eq_true rfl) ?_
  intro r w hq
  rcases hq with ⟨⟨hz, rfl⟩ | ⟨hz, rfl⟩, rfl⟩
  · refine z_if_ne (tgt := 77) d_Mo_wayAt_67 (by decide) (fun _ => ?_) (fun h => absurd h (by decide))
    refine z_iconst (a := nI 0) d_Mo_wayAt_77 (by decide) ?_
    first | refine z_istore_5 d_Mo_wayAt_78 rfl ?_ | (refine z_forget_4 ?_; refine z_istore_5 d_Mo_wayAt_78 rfl ?_)
    exact loop (kk + 1) 0 (by omega) (by omega) p hp2 rfl hd
  · exact absurd ⟨kk, by omega, rfl⟩ hz
theorem way_c (h : ∀ i, i < np → mt' i = mt i) (hn : np ≤ 7) (hp : p < np) : ∀ i, s_wayS mt' np tk to p d i = s_wayS mt np tk to p d i := by
  have er : ∀ r0 n, s_rch mt' np tk r0 n = s_rch mt np tk r0 n := by
    intro r0 n
    induction n with
    | zero => rfl
    | succ n ih => rw [s_rch, s_rch, ih, s_or_c h]
  have ed : ∀ p q, s_dist mt' np tk p q = s_dist mt np tk p q := by
    intro p q
    unfold s_dist
    rw [show s_rch mt' np tk (nI 1 <<< (nI p &&& 31)) = s_rch mt np tk (nI 1 <<< (nI p &&& 31)) from funext (er _)]
  intro i
  induction i with
  | zero => rfl
  | succ i ih =>
    rw [s_wayS, s_wayS, ih]
    split
    · rfl
    · rename_i hg
      rcases s_wayS_c (mt := mt) (tk := tk) (to := to) (d := d) hp i with h1 | ⟨r, r1, r2⟩
      · rw [h1] at hg; exact absurd (by decide) hg
      · rw [r2, nI_clamp (by omega), h r r1, show (fun q => zB (mt r &&& tk) q && decide (s_dist mt' np tk q to = nI (d - (i + 1)))) = (fun q => zB (mt r &&& tk) q && decide (s_dist mt np tk q to = nI (d - (i + 1)))) from funext (fun q => by rw [ed])]
theorem L_wayAt (h : zInv n w) : zEi G y_Tf_wayAt prog_1_method_28_code 6 (some .int) 5 [.ref 0, .int a, .int b, .int c] w (fun r w1 => w1.2.2.2 = w.2.2.2 ∧ zEi G y_Mo_wayAt prog_14_method_105_code 8 (some .int) 5 [.ref 145, .int a, .int b, .int c] w1 (fun r' w2 => r' = r ∧ zInv (n + 1) w2)) := by
  obtain ⟨f, d, nt, np, nl, nn, fed, mk, I, J, P, S, rfl, Z, X⟩ := h
  have M := clOk_M Z
  have hf := clOk_f Z
  have N := stR_fen X
  have N0 := stR_mod X
  have fm := stR_fm X
  obtain ⟨⟨⟨a1, r1, b1⟩, ⟨a2, r2, b2⟩, ⟨a3, r3, b3⟩, ⟨a4, r4, b4⟩⟩, ⟨⟨o, ob, ao, ro⟩, r5⟩, fw, fp, ft, fz⟩ := id fm
  by_cases ha : zin a nn
  case neg => exact L_q Z X (t_Tf_wayAt_o Z N (Or.inl ha)) (fun I' J' e _ => ⟨_, rfl, t_Mo_wayAt_o M (modIn_c N0 (e 150 (by decide))) (Or.inl ha)⟩)
  by_cases hb : zin b np
  case neg => exact L_q Z X (t_Tf_wayAt_o Z N (Or.inr hb)) (fun I' J' e _ => ⟨_, rfl, t_Mo_wayAt_o M (modIn_c N0 (e 150 (by decide))) (Or.inr hb)⟩)
  obtain ⟨t, ht, rfl⟩ := ha
  obtain ⟨q, hq, rfl⟩ := hb
  obtain ⟨⟨k, hk, k1, k2⟩, ⟨g1, g2⟩, -⟩ := ft t ht
  rcases g1 with g1 | ⟨p, hp, g1⟩
  · exact L_q Z X (t_Tf_wayAt_g Z N ht g1 hq) (fun I' J' e _ => ⟨_, rfl, t_Mo_wayAt_g M (modIn_c N0 (e 150 (by decide))) ht (by rw [e 150 (by decide)]; exact g2.trans g1) hq⟩)
  have etk : mTk I np k = s_set (fun p => zB (I (f + 2) p) k) np := s_set_congr np (fun q hq => by rw [(fp q hq).1]; rfl)
  have emt : ∀ i, i < np → mMt I i = I (f + 3) i := fun i hi => (fp i hi).2.1
  rcases dist_eq (mt := I (f + 3)) (tk := s_set (fun p => zB (I (f + 2) p) k) np) (show p < 7 by omega) b2 (show q < 32 by omega) (in7_set b2) with ⟨h1, h2⟩ | ⟨e, e1, h1, h2⟩
  · refine L_q Z X (t_Tf_wayAt_n Z N ht k1 g1 hp hq ?_) (fun I' J' e _ => ⟨-1, rfl, t_Mo_wayAt_n (k := k) M (modIn_c N0 (e 150 (by decide))) ht (by rw [e 150 (by decide)]; exact k2) (by rw [e 150 (by decide)]; exact g2.trans g1) hp hq (Or.inl ?_)⟩)
    · rw [h1]
      by_cases hc : c < 0
      · exact Or.inl hc
      · right
        rw [Int32.lt_iff_toInt_lt] at hc ⊢
        have e1 : (0 : Int32).toInt = 0 := by decide
        have e2 : (-1 : Int32).toInt = -1 := by decide
        omega
    · intro n
      rw [mMt_c (e 150 (by decide)), mTk_c (e 150 (by decide)), etk, gP_c emt]
      exact h2 n
  · rcases zin_or c (e + 1) (by omega) with ⟨hc, hc2⟩ | ⟨kk, hkk, rfl⟩
    · refine L_q Z X (t_Tf_wayAt_n Z N ht k1 g1 hp hq ?_) (fun I' J' e' _ => ⟨-1, rfl, t_Mo_wayAt_n (k := k) M (modIn_c N0 (e' 150 (by decide))) ht (by rw [e' 150 (by decide)]; exact k2) (by rw [e' 150 (by decide)]; exact g2.trans g1) hp hq (Or.inr ⟨e, e1, ?_, hc2⟩)⟩)
      · rw [h1]
        rcases hc with hc | hc
        · exact Or.inl hc
        · refine Or.inr (Int32.lt_of_lt_of_le (nI_lt (show e < e + 1 by omega) (by omega)) hc)
      · rw [mMt_c (e' 150 (by decide)), mTk_c (e' 150 (by decide)), etk, gD_c emt]
        exact h2
    · obtain ⟨z, z1, z2, -⟩ := way_seq b2 (in7_set b2) (set_lt b2) hp (show q < 32 by omega) e1 h2 kk (by omega)
      refine L_q Z X (t_Tf_wayAt Z N ht k1 g1 hp hq e1 h1 (by omega) (by omega) z2) (fun I' J' e' _ => ⟨nI z, rfl, t_Mo_wayAt (k := k) (e := e) M (modIn_c N0 (e' 150 (by decide))) ht (by rw [e' 150 (by decide)]; exact k2) (by rw [e' 150 (by decide)]; exact g2.trans g1) hp hq e1 ?_ (by omega) ?_ (by omega)⟩)
      · rw [mMt_c (e' 150 (by decide)), mTk_c (e' 150 (by decide)), etk, gD_c emt]
        exact h2
      · rw [mMt_c (e' 150 (by decide)), mTk_c (e' 150 (by decide)), etk, way_c emt b2 hp]
        exact z2
end WA0
