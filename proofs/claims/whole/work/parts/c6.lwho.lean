/-! whose, sure, ask: both sides, together -/
section SP0
variable {G : zG} {I I' I1 I2 I3 : Nat → Nat → Int32} {J J' J2 : Nat → Nat → Int64} {P : Nat → Nat → Option Nat} {S : List (Nat × Nat)} {f d nt np nl nn n fed mk t k p q s g i u v l st y : Nat} {a b : Int32} {w : zW} {fb : Nat → Bool} {X X' : Nat → Int64} {A A' : Nat → Int32} {tl : Nat → Bool} {m m' : Nat → Nat} {o : Option Nat}
theorem tw_c : ∀ n u, (∀ k, k < 2 * n → X' k = X k) → tw X np n u → tw X' np n u := by
  intro n
  induction n with
  | zero => intro u _ h; exact h
  | succ n ih =>
    rintro u e ⟨v, p, y, h1, h2, h3, h4, h5⟩
    exact ⟨v, p, y, ih v (fun k hk => e k (by omega)) h1, (e _ (by omega)).trans h2, h3, (e _ (by omega)).trans h4, h5⟩
theorem fitS_c (hw : tw X np n u) (hnp : np ≤ 7) (eX : ∀ k, k < 2 * n → X' k = X k) (eA : ∀ p, p < np → A' p = A p) : fitS A' X' n s ↔ fitS A X n s := by
  constructor
  · intro h i hi p y a1 a2 a3 a4
    obtain ⟨p', y', b1, b2, b3, b4⟩ := tw_at hnp n u hw i hi
    have e := lN_inj (by omega) (by omega) (a1.symm.trans b1)
    rw [← eA p (by omega)]
    exact h i hi p y ((eX _ (by omega)).trans a1) a2 ((eX _ (by omega)).trans a3) a4
  · intro h i hi p y a1 a2 a3 a4
    have a1 := (eX (2 * i) (by omega)).symm.trans a1
    have a3 := (eX (2 * i + 1) (by omega)).symm.trans a3
    obtain ⟨p', y', b1, b2, b3, b4⟩ := tw_at hnp n u hw i hi
    have e := lN_inj (by omega) (by omega) (a1.symm.trans b1)
    rw [eA p (by omega)]
    exact h i hi p y a1 a2 a3 a4
theorem bkN_c (h2 : ∀ i, i < n → m' i = m i) : ∀ j, j ≤ n → bkN tl m' j = bkN tl m j := by
  intro j
  induction j with
  | zero => intro _; rfl
  | succ j ih =>
    intro hj
    show (if tl j then bkN tl m' j else match bkN tl m' j with | none => some j | some b => if m' j < m' b then some j else some b) = (if tl j then bkN tl m j else match bkN tl m j with | none => some j | some b => if m j < m b then some j else some b)
    rw [ih (by omega)]
    by_cases h : tl j = true
    · rw [if_pos h, if_pos h]
    · rw [if_neg h, if_neg h]
      cases hb : bkN tl m j with
      | none => rfl
      | some b =>
        have := bkN_lt _ _ hb
        show (if m' j < m' b then some j else some b) = (if m j < m b then some j else some b)
        rw [h2 j (by omega), h2 b (by omega)]
theorem fA_in (hnt : nt ≤ 6) : ∀ j, j ≤ 2 ^ nt → (s_cnt fb j = 0 ∧ fA fb j = -1 ∧ inN fb (2 ^ nt - 1) j = 2 ^ nt - 1) ∨ (0 < s_cnt fb j ∧ fA fb j = nI (inN fb (2 ^ nt - 1) j)) := by
  have k1 : ∀ j, j < 64 → (-1 : Int32) &&& nI j = nI j := by decide +kernel
  have k2 : ∀ m, m < 7 → ∀ j, j < 64 → j < 2 ^ m → (2 ^ m - 1) &&& j = j := by decide +kernel
  have h64 : 2 ^ nt ≤ 64 := Nat.pow_le_pow_right (n := 2) (i := nt) (j := 6) (by decide) hnt
  intro j
  induction j with
  | zero => intro _; exact Or.inl ⟨rfl, rfl, rfl⟩
  | succ j ih =>
    intro hj
    have e1 : fA fb (j + 1) = if fb j then fA fb j &&& nI j else fA fb j := rfl
    have e2 : inN fb (2 ^ nt - 1) (j + 1) = if fb j then inN fb (2 ^ nt - 1) j &&& j else inN fb (2 ^ nt - 1) j := rfl
    by_cases h : fb j = true
    · right
      rw [e1, e2, if_pos h, if_pos h, s_cnt_t h]
      refine ⟨Nat.succ_pos _, ?_⟩
      rcases ih (by omega) with ⟨a1, a2, a3⟩ | ⟨a1, a2⟩
      · rw [a2, a3, k1 j (by omega), k2 nt (by omega) j (by omega) (by omega)]
      · rw [a2, nx_and]
    · rw [e1, e2, if_neg h, if_neg h, s_cnt_f h]
      exact ih (by omega)
theorem two_le : ∀ n, n < 8 → ∀ l, l < 61 → (2 : Int64) * (nI n).toInt64 ≤ (nI l).toInt64 → 2 * n ≤ l := by decide +kernel
theorem L_seen (Z : clOk f d P S) (X0 : stR n f nt np nl nn fed mk I J) : (∃ st, (¬ nI st = 0 ∧ 0 < nI st) ∧ (zEi  G y_Tf_seenStatus prog_1_method_66_code 4 (some .int) 4 [.ref 0, .int a, .int b] (I, J, P, S) (fun r w => r = nI st ∧ ∃ I', w = (I', J, P, S) ∧ xF 139 I I')) ∧ ∀ (I' : Nat → Nat → Int32) (J' : Nat → Nat → Int64), (∀ a, 145 ≤ a → I' a = I a) → (∀ a, 145 ≤ a → J' a = J a) → ∀ I1 : Nat → Nat → Int32, (∀ a, a ≠ 145 → I1 a = I' a) → zEi  G y_Mo_whyNoWhose prog_14_method_128_code 4 (some .int) 3 [.ref 145, .int a, .int b] (I1, J', P, S) (fun r w => r = nI st ∧ ∃ I', w = (I', J', P, S) ∧ nF I1 I')) ∨ (∃ (u : Nat) (fb : Nat → Bool), u < 128 ∧ (zEi  G y_Tf_seenStatus prog_1_method_66_code 4 (some .int) 4 [.ref 0, .int a, .int b] (I, J, P, S) (fun r w => r = nI 0 ∧ ∃ I' J', w = (I', J', P, S) ∧ xF 139 I I' ∧ (∀ q, q ≠ 139 → J' q = J q) ∧ I' 139 1 = nI (2 ^ nt) ∧ I' 139 2 = nI u ∧ fbL (J' 139 0) (2 ^ nt) fb)) ∧ ∀ (I' : Nat → Nat → Int32) (J' : Nat → Nat → Int64), (∀ a, 145 ≤ a → I' a = I a) → (∀ a, 145 ≤ a → J' a = J a) → wl G I' J' P S fb nt u a b) := by
  have M := clOk_M Z
  have hf := clOk_f Z
  have N := stR_fen X0
  have N0 := stR_mod X0
  have fm := stR_fm X0
  obtain ⟨⟨⟨a1, r1, b1⟩, ⟨a2, r2, b2⟩, ⟨a3, r3, b3⟩, ⟨a4, r4, b4⟩⟩, ⟨⟨o, ob, ao, ro⟩, r5⟩, fw, fp, ft, fz⟩ := id fm
  by_cases ha : zin a 4
  case neg => exact Or.inl ⟨1, by decide, t_Tf_seen_o Z ha, fun I' J' _ _ I1 _ => t_Mo_wnw_o M ha⟩
  obtain ⟨t, ht, rfl⟩ := ha
  rcases X0.2.1 t ht with ⟨t1, t2⟩ | ⟨k, l, hk, hl, t1, -, ⟨t3, t4⟩, t5⟩
  · exact Or.inl ⟨3, by decide, t_Tf_seen_m Z ht t1, fun I' J' e _ I1 e1 => t_Mo_wnw_m M ht (by rw [e1 147 (by decide), e 147 (by decide)]; exact t2)⟩
  have e147 : ∀ (I' I1 : Nat → Nat → Int32), (∀ a, 145 ≤ a → I' a = I a) → (∀ a, a ≠ 145 → I1 a = I' a) → I1 147 t = nI l := fun I' I1 e e1 => by rw [e1 147 (by decide), e 147 (by decide)]; exact t4
  by_cases h2 : (2 : Int64) * b.toInt64 ≤ (nI l).toInt64
  case neg => exact Or.inl ⟨4, by decide, t_Tf_seen_l Z ht t1 t3 h2, fun I' J' e _ I1 e1 => t_Mo_wnw_l M ht (e147 I' I1 e e1) hl h2⟩
  by_cases hb : zin b 8
  case neg =>
    refine Or.inl ⟨5, by decide, t_Tf_seen_b Z N ht t1 t3 h2 ?_, fun I' J' e _ I1 e1 => t_Mo_wnw_b M ht (e147 I' I1 e e1) hl h2 hb⟩
    rcases zin_or b 8 (by decide) with ⟨h | h, -⟩ | h
    · exact Or.inl h
    · exact Or.inr (Or.inl (Int32.lt_of_lt_of_le (show nI 7 < nI 8 by decide) h))
    · exact absurd h hb
  obtain ⟨m, hm, rfl⟩ := hb
  obtain ⟨X, hX⟩ : ∃ X, X = J (3 + 2 * t + 1) := ⟨_, rfl⟩
  have h2l := two_le m hm l (by omega) h2
  have eX : ∀ J' : Nat → Nat → Int64, (∀ a, 145 ≤ a → J' a = J a) → ∀ k, k < 2 * m → (fun k => J' 148 (60 * t + k)) k = X k := fun J' e k hk => by
    show J' 148 (60 * t + k) = X k
    rw [e 148 (by decide), t5 k (by omega), hX, show 3 + 2 * t + 1 = 4 + 2 * t by omega]
  by_cases hw : ∃ u, tw X np m u
  case neg =>
    refine Or.inl ⟨5, by decide, t_Tf_seen_b Z N ht t1 t3 h2 (Or.inr (Or.inr ⟨m, by omega, rfl, by rw [← hX]; exact hw⟩)), fun I' J' e ej I1 e1 => ?_⟩
    refine zEi_mono (t_Mo_wnw (n := m) M (modIn_c N0 (by rw [e1 150 (by decide), e 150 (by decide)])) ht (e147 I' I1 e e1) hl h2 rfl (by omega)) ?_
    rintro r w ⟨I2, rfl, g1, ⟨u, h1, -⟩ | ⟨h1, rfl⟩⟩
    · exact absurd ⟨u, tw_c (X := fun k => J' 148 (60 * t + k)) (X' := X) m u (fun k hk => (eX J' ej k hk).symm) h1⟩ hw
    · exact ⟨rfl, I2, rfl, g1⟩
  obtain ⟨u, hw⟩ := hw
  obtain ⟨fb, hfb⟩ : ∃ fb : Nat → Bool, ∀ s, fb s = true ↔ fitS (I (f + 2)) X m s := ⟨fun s => @decide _ (Classical.propDecidable (fitS (I (f + 2)) X m s)), fun s => ⟨fun h => @of_decide_eq_true _ (Classical.propDecidable _) h, fun h => @decide_eq_true _ (Classical.propDecidable _) h⟩⟩
  refine Or.inr ⟨u, fb, Nat.lt_of_lt_of_le (tw_lt b2 m u hw) (Nat.pow_le_pow_right (n := 2) (j := 7) (by decide) b2), t_Tf_seen Z N ht t1 t3 h2 hX (by omega) hw (fun s _ => hfb s), fun I' J' e ej => ⟨fun I1 e1 => ?_, fun I1 e1 => ?_⟩⟩
  · refine zEi_mono (t_Mo_wnw (n := m) M (modIn_c N0 (by rw [e1 150 (by decide), e 150 (by decide)])) ht (e147 I' I1 e e1) hl h2 rfl (by omega)) ?_
    rintro r w ⟨I2, rfl, g1, ⟨u', h1, rfl, h3⟩ | ⟨h1, rfl⟩⟩
    · have h1 := tw_c (X := fun k => J' 148 (60 * t + k)) (X' := X) m u' (fun k hk => (eX J' ej k hk).symm) h1
      rw [tw_u b2 m _ _ h1 hw] at h3
      exact ⟨rfl, I2, rfl, g1, h3⟩
    · exact absurd ⟨u, tw_c (X := X) (X' := fun k => J' 148 (60 * t + k)) m u (eX J' ej) hw⟩ h1
  · refine t_Mo_laysWhose M (modIn_c N0 (by rw [e1 150 (by decide), e 150 (by decide)])) ht rfl rfl (by omega) (tw_c (X := X) (X' := fun k => J' 148 (60 * t + k)) m u (eX J' ej) hw) (fun s _ => ?_)
    rw [hfb s]
    refine (fitS_c hw b2 (eX J' ej) (fun p hp => ?_)).symm
    show I1 150 (12 + p) = I (f + 2) p
    rw [e1 150 (by decide), e 150 (by decide)]
    exact (fp p hp).1
theorem L_whose (h : zInv n w) : zEi G y_Tf_whose prog_1_method_41_code 4 (some .int) 5 [.ref 0, .int a, .int b] w (fun r w1 => w1.2.2.2 = w.2.2.2 ∧ zEi G y_Mo_whose prog_14_method_130_code 3 (some .int) 4 [.ref 145, .int a, .int b] w1 (fun r' w2 => r' = r ∧ zInv (n + 1) w2)) := by
  obtain ⟨f, d, nt, np, nl, nn, fed, mk, I, J, P, S, rfl, Z, X⟩ := h
  have M := clOk_M Z
  have hf := clOk_f Z
  have N := stR_fen X
  have N0 := stR_mod X
  have fm := stR_fm X
  obtain ⟨⟨⟨a1, r1, b1⟩, ⟨a2, r2, b2⟩, ⟨a3, r3, b3⟩, ⟨a4, r4, b4⟩⟩, ⟨⟨o, ob, ao, ro⟩, r5⟩, fw, fp, ft, fz⟩ := id fm
  rcases L_seen (G := G) (a := a) (b := b) Z X with ⟨st, ⟨h1, h2⟩, h3, h4⟩ | ⟨u, fb, hu, h3, h4⟩
  · exact L_q Z X (t_Tf_whose_x Z h1 h3) (fun I' J' e ej => ⟨_, rfl, t_Mo_whose_x M h2 (h4 I' J' e ej)⟩)
  · have h64 : 2 ^ nt ≤ 64 := Nat.pow_le_pow_right (n := 2) (i := nt) (j := 6) (by decide) b1
    refine L_q Z X (t_Tf_whose Z h3) (fun I' J' e ej => ⟨_, ?_, t_Mo_whose M (h4 I' J' e ej)⟩)
    rw [fbC_cnt h64]
theorem L_sure (h : zInv n w) : zEi G y_Tf_sure prog_1_method_42_code 4 (some .int) 5 [.ref 0, .int a, .int b] w (fun r w1 => w1.2.2.2 = w.2.2.2 ∧ zEi G y_Mo_sure prog_14_method_131_code 3 (some .int) 4 [.ref 145, .int a, .int b] w1 (fun r' w2 => r' = r ∧ zInv (n + 1) w2)) := by
  obtain ⟨f, d, nt, np, nl, nn, fed, mk, I, J, P, S, rfl, Z, X⟩ := h
  have M := clOk_M Z
  have hf := clOk_f Z
  have N := stR_fen X
  have N0 := stR_mod X
  have fm := stR_fm X
  obtain ⟨⟨⟨a1, r1, b1⟩, ⟨a2, r2, b2⟩, ⟨a3, r3, b3⟩, ⟨a4, r4, b4⟩⟩, ⟨⟨o, ob, ao, ro⟩, r5⟩, fw, fp, ft, fz⟩ := id fm
  rcases L_seen (G := G) (a := a) (b := b) Z X with ⟨st, ⟨h1, h2⟩, h3, h4⟩ | ⟨u, fb, hu, h3, h4⟩
  · exact L_q Z X (t_Tf_sure_x Z h1 h3) (fun I' J' e ej => ⟨_, rfl, t_Mo_sure_x M h2 (h4 I' J' e ej)⟩)
  · have h64 : 2 ^ nt ≤ 64 := Nat.pow_le_pow_right (n := 2) (i := nt) (j := 6) (by decide) b1
    have ec : nI (fbC (2 ^ nt) fb) = nI (s_cnt fb (2 ^ nt)) := by rw [fbC_cnt h64]
    have hle : s_cnt fb (2 ^ nt) ≤ 64 := Nat.le_trans (s_cnt_le _) h64
    rcases fA_in (fb := fb) b1 (2 ^ nt) (Nat.le_refl _) with ⟨g1, -⟩ | ⟨g1, g2⟩
    · exact L_q Z X (t_Tf_sure_n Z (by rw [ec, g1]) h3) (fun I' J' e ej => ⟨_, rfl, t_Mo_sure_n M g1 (h4 I' J' e ej)⟩)
    · exact L_q Z X (t_Tf_sure Z b1 ec g1 hle h3) (fun I' J' e ej => ⟨_, g2, t_Mo_sure M g1 hle (h4 I' J' e ej)⟩)
theorem L_ask (h : zInv n w) : zEi G y_Tf_ask prog_1_method_43_code 5 (some .int) 5 [.ref 0, .int a, .int b] w (fun r w1 => w1.2.2.2 = w.2.2.2 ∧ zEi G y_Mo_ask prog_14_method_133_code 5 (some .int) 4 [.ref 145, .int a, .int b] w1 (fun r' w2 => r' = r ∧ zInv (n + 1) w2)) := by
  obtain ⟨f, d, nt, np, nl, nn, fed, mk, I, J, P, S, rfl, Z, X⟩ := h
  have M := clOk_M Z
  have hf := clOk_f Z
  have N := stR_fen X
  have N0 := stR_mod X
  have fm := stR_fm X
  obtain ⟨⟨⟨a1, r1, b1⟩, ⟨a2, r2, b2⟩, ⟨a3, r3, b3⟩, ⟨a4, r4, b4⟩⟩, ⟨⟨o, ob, ao, ro⟩, r5⟩, fw, fp, ft, fz⟩ := id fm
  rcases L_seen (G := G) (a := a) (b := b) Z X with ⟨st, ⟨h1, h2⟩, h3, h4⟩ | ⟨u, fb, hu, h3, h4⟩
  · exact L_q Z X (t_Tf_ask_x Z h1 h3) (fun I' J' e ej => ⟨_, rfl, t_Mo_ask_x M h2 (h4 I' J' e ej)⟩)
  · have h64 : 2 ^ nt ≤ 64 := Nat.pow_le_pow_right (n := 2) (i := nt) (j := 6) (by decide) b1
    have ec : nI (fbC (2 ^ nt) fb) = nI (s_cnt fb (2 ^ nt)) := by rw [fbC_cnt h64]
    have hle : s_cnt fb (2 ^ nt) ≤ 64 := Nat.le_trans (s_cnt_le _) h64
    obtain ⟨o, ho⟩ : ∃ o, o = bkN (fun p => u.testBit p) (fun p => mxA fb (I (f + 2) p) (2 ^ nt)) np := ⟨_, rfl⟩
    have ho2 : ∀ I' : Nat → Nat → Int32, (∀ a, 145 ≤ a → I' a = I a) → o = bkN (fun p => u.testBit p) (fun p => mxA fb (I' 150 (12 + p)) (2 ^ nt)) np := fun I' e => by
      rw [ho]
      refine (bkN_c (n := np) (fun p hp => ?_) np (Nat.le_refl _)).symm
      show mxA fb (I' 150 (12 + p)) (2 ^ nt) = mxA fb (I (f + 2) p) (2 ^ nt)
      rw [e 150 (by decide), show I 150 (12 + p) = I (f + 2) p from (fp p hp).1]
    by_cases hc : s_cnt fb (2 ^ nt) < 2 ∨ o = none
    · refine L_q Z X (t_Tf_ask_n (o := o) Z N ec hle (by rw [← ho]) hc h3) (fun I' J' e ej => ⟨-1, rfl, zEi_mono (t_Mo_ask M (modIn_c N0 (e 150 (by decide))) hu hle (ho2 I' e) (h4 I' J' e ej)) ?_⟩)
      rintro r w (⟨-, g1, g2⟩ | ⟨g0, p, g1, -⟩)
      · exact ⟨g1, g2⟩
      · rcases hc with hc | hc
        · exact absurd hc (Nat.not_lt.mpr g0)
        · rw [hc] at g1; cases g1
    · obtain ⟨p, hp⟩ : ∃ p, o = some p := by
        cases o with
        | none => exact absurd (Or.inr rfl) hc
        | some p => exact ⟨p, rfl⟩
      have h2 : 2 ≤ s_cnt fb (2 ^ nt) := Nat.not_lt.mp (fun h => hc (Or.inl h))
      have hpl : p < np := bkN_lt _ _ (ho.symm.trans hp)
      refine L_q Z X (t_Tf_ask Z N ec hle h2 (by rw [← ho, hp]; rfl) hpl h3) (fun I' J' e ej => ⟨nI p, rfl, zEi_mono (t_Mo_ask M (modIn_c N0 (e 150 (by decide))) hu hle (ho2 I' e) (h4 I' J' e ej)) ?_⟩)
      rintro r w (⟨g0 | g0, -⟩ | ⟨-, p', g1, g2, g3⟩)
      · exact absurd g0 (Nat.not_lt.mpr h2)
      · rw [hp] at g0; cases g0
      · rw [hp] at g1; cases g1; exact ⟨g2, g3⟩
end SP0
