/-! the call fen, both sides -/
section FN0
variable {G : zG} {I I' I1 I2 : Nat → Nat → Int32} {J J' J1 J2 : Nat → Nat → Int64} {P P' : Nat → Nat → Option Nat} {S : List (Nat × Nat)} {f d nt np nl nn n fed mk m : Nat} {w : zW} {a : Int32} {A : Nat → Nat → Int32} {B : Nat → Nat → Int64} {aa : tk → tk} {s : pS} {t : tk} {x : pS × tk}
/-- what a FEN that was read is like -/
def pBd (s : pS) : Prop := (s.1.1 ≤ 6 ∧ s.1.2.1 ≤ 7 ∧ s.1.2.2.2.1 ≤ 9) ∧ (∃ o, o ≤ 16 ∧ s.2.1 0 0 = nI o) ∧ (∀ k, k < s.1.1 → ∃ v, v ≤ 99 ∧ s.2.1 1 k = nI v) ∧ (∀ t, t < s.1.2.2.2.1 → (∃ k, k < s.1.1 ∧ s.2.1 5 t = nI k) ∧ (∃ p, p < s.1.2.1 ∧ s.2.1 6 t = nI p ∧ s.2.1 7 t = nI (2 ^ p)) ∧ s.2.1 8 t = nI 0) ∧ s.2.1 12 0 = nI 0 ∧ s.2.1 12 2 = nI 0
theorem p_part_bd (h : pBd s) (hx : p_part aa s t = .inr x) : pBd x.1 := by
  obtain ⟨⟨nt, np, nl, nn, od⟩, A, B⟩ := s
  obtain ⟨⟨b1, b2, b3⟩, ⟨o, ho, ho2⟩, hw, ht, y0, y2⟩ := h
  dsimp only at b1 b2 b3 ho2 hw ht y0 y2
  unfold p_part at hx
  split at hx
  · unfold p_odds at hx
    dsimp only at hx
    split at hx
    · obtain ⟨v, hv, hx⟩ := pb_r hx
      obtain ⟨t1, -, hx⟩ := pb_r hx
      cases hx
      obtain ⟨k, -, hk, rfl, -⟩ := p_numb_c (lo := 0) (hi := 16) (by decide) hv
      refine ⟨⟨b1, b2, b3⟩, ⟨k, hk, ?_⟩, fun i hi => ?_, fun i hi => ?_, ?_, ?_⟩
      · exact zu_same A 0 0 (nI k)
      · show ∃ v, v ≤ 99 ∧ zu A 0 0 (nI k) 1 i = nI v
        rw [zu_row _ _ _ _ (by decide)]; exact hw i hi
      · show (∃ k', k' < nt ∧ zu A 0 0 (nI k) 5 i = nI k') ∧ (∃ p, p < np ∧ zu A 0 0 (nI k) 6 i = nI p ∧ zu A 0 0 (nI k) 7 i = nI (2 ^ p)) ∧ zu A 0 0 (nI k) 8 i = nI 0
        rw [zu_row _ _ _ _ (by decide), zu_row _ _ _ _ (by decide), zu_row _ _ _ _ (by decide), zu_row _ _ _ _ (by decide)]; exact ht i hi
      · show zu A 0 0 (nI k) 12 0 = nI 0
        rw [zu_row _ _ _ _ (by decide)]; exact y0
      · show zu A 0 0 (nI k) 12 2 = nI 0
        rw [zu_row _ _ _ _ (by decide)]; exact y2
    · cases hx
  · split at hx
    · unfold p_trait at hx
      dsimp only at hx
      split at hx
      · rename_i hlt
        obtain ⟨n, -, hx⟩ := pb_r hx
        obtain ⟨t1, -, hx⟩ := pb_r hx
        obtain ⟨v, hv, hx⟩ := pb_r hx
        obtain ⟨t2, -, hx⟩ := pb_r hx
        cases hx
        obtain ⟨k, -, hk, rfl, -⟩ := p_numb_c (lo := 0) (hi := 99) (by decide) hv
        refine ⟨⟨by show nt + 1 ≤ 6; omega, b2, b3⟩, ⟨o, ho, ?_⟩, fun i hi => ?_, fun i hi => ?_, ?_, ?_⟩
        · show zu (zu A 1 nt (nI k)) 0 1 (nI (nt + 1)) 0 0 = nI o
          rw [zu_ne _ _ _ _ (by omega), zu_ne _ _ _ _ (by omega)]; exact ho2
        · show ∃ v, v ≤ 99 ∧ zu (zu A 1 nt (nI k)) 0 1 (nI (nt + 1)) 1 i = nI v
          have hi : i < nt + 1 := hi
          rw [zu_row _ _ _ _ (by decide)]
          by_cases e : i = nt
          · subst e; exact ⟨k, hk, zu_same _ _ _ _⟩
          · rw [zu_ne _ _ _ _ (by omega)]; exact hw i (by omega)
        · show (∃ k', k' < nt + 1 ∧ zu (zu A 1 nt (nI k)) 0 1 (nI (nt + 1)) 5 i = nI k') ∧ (∃ p, p < np ∧ zu (zu A 1 nt (nI k)) 0 1 (nI (nt + 1)) 6 i = nI p ∧ zu (zu A 1 nt (nI k)) 0 1 (nI (nt + 1)) 7 i = nI (2 ^ p)) ∧ zu (zu A 1 nt (nI k)) 0 1 (nI (nt + 1)) 8 i = nI 0
          obtain ⟨⟨k1, q1, q2⟩, q3⟩ := ht i hi
          rw [zu_row _ _ _ _ (by decide), zu_row _ _ _ _ (by decide), zu_row _ _ _ _ (by decide), zu_row _ _ _ _ (by decide), zu_row _ _ _ _ (by decide), zu_row _ _ _ _ (by decide), zu_row _ _ _ _ (by decide), zu_row _ _ _ _ (by decide)]
          exact ⟨⟨k1, by omega, q2⟩, q3⟩
        · show zu (zu A 1 nt (nI k)) 0 1 (nI (nt + 1)) 12 0 = nI 0
          rw [zu_row _ _ _ _ (by decide), zu_row _ _ _ _ (by decide)]; exact y0
        · show zu (zu A 1 nt (nI k)) 0 1 (nI (nt + 1)) 12 2 = nI 0
          rw [zu_row _ _ _ _ (by decide), zu_row _ _ _ _ (by decide)]; exact y2
      · cases hx
    · split at hx
      · unfold p_person at hx
        dsimp only at hx
        split at hx
        · obtain ⟨n, -, hx⟩ := pb_r hx
          obtain ⟨v, -, hx⟩ := pb_r hx
          obtain ⟨t2, -, hx⟩ := pb_r hx
          cases hx
          have e : ∀ r, r ≠ 0 → r ≠ 2 → r ≠ 3 → r ≠ 4 → zu (zu (zu (zu A 2 np v.1) 3 np (nI 0)) 4 np (nI 0)) 0 2 (nI (np + 1)) r = A r := fun r g0 g2 g3 g4 => by rw [zu_row _ _ _ _ g0, zu_row _ _ _ _ g4, zu_row _ _ _ _ g3, zu_row _ _ _ _ g2]
          refine ⟨⟨b1, by show np + 1 ≤ 7; omega, b3⟩, ⟨o, ho, ?_⟩, fun i hi => ?_, fun i hi => ?_, ?_, ?_⟩
          · show zu (zu (zu (zu A 2 np v.1) 3 np (nI 0)) 4 np (nI 0)) 0 2 (nI (np + 1)) 0 0 = nI o
            rw [zu_ne _ _ _ _ (by omega), zu_ne _ _ _ _ (by omega), zu_ne _ _ _ _ (by omega), zu_ne _ _ _ _ (by omega)]; exact ho2
          · show ∃ v', v' ≤ 99 ∧ zu (zu (zu (zu A 2 np v.1) 3 np (nI 0)) 4 np (nI 0)) 0 2 (nI (np + 1)) 1 i = nI v'
            rw [e 1 (by decide) (by decide) (by decide) (by decide)]; exact hw i hi
          · show (∃ k, k < nt ∧ zu (zu (zu (zu A 2 np v.1) 3 np (nI 0)) 4 np (nI 0)) 0 2 (nI (np + 1)) 5 i = nI k) ∧ (∃ p, p < np + 1 ∧ zu (zu (zu (zu A 2 np v.1) 3 np (nI 0)) 4 np (nI 0)) 0 2 (nI (np + 1)) 6 i = nI p ∧ zu (zu (zu (zu A 2 np v.1) 3 np (nI 0)) 4 np (nI 0)) 0 2 (nI (np + 1)) 7 i = nI (2 ^ p)) ∧ zu (zu (zu (zu A 2 np v.1) 3 np (nI 0)) 4 np (nI 0)) 0 2 (nI (np + 1)) 8 i = nI 0
            obtain ⟨q1, ⟨p1, q2, q3⟩, q4⟩ := ht i hi
            rw [e 5 (by decide) (by decide) (by decide) (by decide), e 6 (by decide) (by decide) (by decide) (by decide), e 7 (by decide) (by decide) (by decide) (by decide), e 8 (by decide) (by decide) (by decide) (by decide)]
            exact ⟨q1, ⟨p1, by omega, q3⟩, q4⟩
          · exact (congrFun (e 12 (by decide) (by decide) (by decide) (by decide)) 0).trans y0
          · exact (congrFun (e 12 (by decide) (by decide) (by decide) (by decide)) 2).trans y2
        · cases hx
      · split at hx
        · unfold p_lane at hx
          dsimp only at hx
          split at hx
          · obtain ⟨k, -, hx⟩ := pb_r hx
            obtain ⟨m, -, hx⟩ := pb_r hx
            split at hx
            · cases hx
            · obtain ⟨t2, -, hx⟩ := pb_r hx
              cases hx
              have e : ∀ r, r ≠ 0 → r ≠ 3 → zu (zu (zu A 3 k.toNatClampNeg (A 3 k.toNatClampNeg ||| (nI 1 <<< (m &&& 31)))) 3 m.toNatClampNeg (A 3 m.toNatClampNeg ||| (nI 1 <<< (k &&& 31)))) 0 3 (nI (nl + 1)) r = A r := fun r g0 g3 => by rw [zu_row _ _ _ _ g0, zu_row _ _ _ _ g3, zu_row _ _ _ _ g3]
              refine ⟨⟨b1, b2, b3⟩, ⟨o, ho, ?_⟩, fun i hi => ?_, fun i hi => ?_, ?_, ?_⟩
              · show zu (zu (zu A 3 k.toNatClampNeg (A 3 k.toNatClampNeg ||| (nI 1 <<< (m &&& 31)))) 3 m.toNatClampNeg (A 3 m.toNatClampNeg ||| (nI 1 <<< (k &&& 31)))) 0 3 (nI (nl + 1)) 0 0 = nI o
                rw [zu_ne _ _ _ _ (by omega), zu_ne _ _ _ _ (by omega), zu_ne _ _ _ _ (by omega)]; exact ho2
              · have q := hw i hi
                rw [← e 1 (by decide) (by decide)] at q
                exact q
              · have q := ht i hi
                rw [← e 5 (by decide) (by decide), ← e 6 (by decide) (by decide), ← e 7 (by decide) (by decide), ← e 8 (by decide) (by decide)] at q
                exact q
              · exact (congrFun (e 12 (by decide) (by decide)) 0).trans y0
              · exact (congrFun (e 12 (by decide) (by decide)) 2).trans y2
          · cases hx
        · split at hx
          · unfold p_tin at hx
            dsimp only at hx
            split at hx
            · rename_i hlt
              obtain ⟨n, -, hx⟩ := pb_r hx
              obtain ⟨t1, -, hx⟩ := pb_r hx
              obtain ⟨k, hk, hx⟩ := pb_r hx
              obtain ⟨t2, -, hx⟩ := pb_r hx
              obtain ⟨p, hp, hx⟩ := pb_r hx
              obtain ⟨t3, -, hx⟩ := pb_r hx
              cases hx
              obtain ⟨k', hk', rfl, -⟩ := p_known_c hk
              obtain ⟨p', hp', rfl, -⟩ := p_known_c hp
              have key : ∀ A' : Nat → Nat → Int32, (∀ r, r ≠ 0 → A' r = s_addTin A 0 nn (nI k') (nI p') r) → A' 0 0 = A 0 0 → pBd ((nt, np, nl, nn + 1, od), A', B) := by
                intro A' hA h0
                refine ⟨⟨b1, b2, by show nn + 1 ≤ 9; omega⟩, ⟨o, ho, h0.trans ho2⟩, fun i hi => ?_, fun i hi => ?_, ?_, ?_⟩
                · show ∃ v, v ≤ 99 ∧ A' 1 i = nI v
                  rw [hA 1 (by decide)]
                  unfold s_addTin
                  rw [zu_row _ _ _ _ (by decide), zu_row _ _ _ _ (by decide), zu_row _ _ _ _ (by decide), zu_row _ _ _ _ (by decide)]
                  exact hw i hi
                · show (∃ k, k < nt ∧ A' 5 i = nI k) ∧ (∃ p, p < np ∧ A' 6 i = nI p ∧ A' 7 i = nI (2 ^ p)) ∧ A' 8 i = nI 0
                  have hi : i < nn + 1 := hi
                  rw [hA 5 (by decide), hA 6 (by decide), hA 7 (by decide), hA 8 (by decide)]
                  unfold s_addTin
                  by_cases e : i = nn
                  · subst e
                    refine ⟨⟨k', hk', ?_⟩, ⟨p', hp', ?_, ?_⟩, ?_⟩
                    · rw [zu_row _ _ _ _ (by decide), zu_row _ _ _ _ (by decide), zu_row _ _ _ _ (by decide)]; exact zu_same _ _ _ _
                    · rw [zu_row _ _ _ _ (by decide), zu_row _ _ _ _ (by decide)]; exact zu_same _ _ _ _
                    · rw [zu_row _ _ _ _ (by decide), nx_sh p' (by omega)]; exact zu_same _ _ _ _
                    · exact zu_same _ _ _ _
                  · rw [zu_ne _ _ _ _ (by omega), zu_ne _ _ _ _ (by omega), zu_ne _ _ _ _ (by omega), zu_ne _ _ _ _ (by omega), zu_ne _ _ _ _ (by omega), zu_ne _ _ _ _ (by omega), zu_ne _ _ _ _ (by omega), zu_ne _ _ _ _ (by omega), zu_ne _ _ _ _ (by omega), zu_ne _ _ _ _ (by omega), zu_ne _ _ _ _ (by omega), zu_ne _ _ _ _ (by omega), zu_ne _ _ _ _ (by omega), zu_ne _ _ _ _ (by omega), zu_ne _ _ _ _ (by omega), zu_ne _ _ _ _ (by omega)]
                    exact ht i (by omega)
                · show A' 12 0 = nI 0
                  rw [hA 12 (by decide)]
                  unfold s_addTin
                  rw [zu_row _ _ _ _ (by decide), zu_row _ _ _ _ (by decide), zu_row _ _ _ _ (by decide), zu_row _ _ _ _ (by decide)]
                  exact y0
                · show A' 12 2 = nI 0
                  rw [hA 12 (by decide)]
                  unfold s_addTin
                  rw [zu_row _ _ _ _ (by decide), zu_row _ _ _ _ (by decide), zu_row _ _ _ _ (by decide), zu_row _ _ _ _ (by decide)]
                  exact y2
              unfold p_addT
              dsimp only
              split
              · refine key _ (fun r hr => by rw [zu_row _ _ _ _ hr, zu_row _ _ _ _ hr]) ?_
                rw [zu_ne _ _ _ _ (by omega), zu_ne _ _ _ _ (by omega), addTin_0]
              · refine key _ (fun r hr => by rw [zu_row _ _ _ _ hr]) ?_
                rw [zu_ne _ _ _ _ (by omega), addTin_0]
            · cases hx
          · cases hx
theorem p_parts_bd {s' : pS} : ∀ (m : Nat) (s : pS) (t : tk), pBd s → p_parts aa m s t = .inr s' → pBd s' := by
  intro m
  induction m with
  | zero => intro s t h hx; cases hx; exact h
  | succ m ih =>
    intro s t h hx
    rw [p_parts] at hx
    split at hx
    · cases hx; exact h
    · obtain ⟨v, hv, hx⟩ := pb_r hx
      exact ih v.1 v.2 (p_part_bd h hv) hx
theorem p_fen_bd {T : Nat → Int32} {L : Nat} {K : Nat → Int64} (hx : p_fen T L K A B = .inr s) : pBd s := by
  unfold p_fen at hx
  refine p_parts_bd _ _ _ ?_ hx
  refine ⟨⟨Nat.zero_le _, Nat.zero_le _, Nat.zero_le _⟩, ⟨8, by decide, ?_⟩, fun k hk => absurd hk (Nat.not_lt_zero _), fun k hk => absurd hk (Nat.not_lt_zero _), ?_, ?_⟩
  · simp [s_clear, zu]
  · simp [s_clear, zu]
  · simp [s_clear, zu]
theorem fmR_S (hb : pBd s) (X : moS I J s) (c1 : s.2.1 0 1 = nI s.1.1) (c2 : s.2.1 0 2 = nI s.1.2.1) (c3 : s.2.1 0 3 = nI s.1.2.2.1) (c4 : s.2.1 0 4 = nI s.1.2.2.2.1) : fmR 0 s.2.1 (fun k => I 150 (1436 + k)) s.1.1 s.1.2.1 s.1.2.2.1 s.1.2.2.2.1 := by
  obtain ⟨⟨e1, e2, e3⟩, ⟨o, ho, ho2⟩, hw, ht, -⟩ := hb
  obtain ⟨⟨x1, y1⟩, ⟨x2, y2⟩, ⟨x3, y3⟩, ⟨x4, y4⟩, -, x5, x6, x7, -, x9, x10, x11, ⟨x12, x13⟩, x14, -⟩ := X
  refine ⟨⟨⟨c1, x1, y1⟩, ⟨c2, x2, y2⟩, ⟨c3, x3, y3⟩, ⟨c4, x4, y4⟩⟩, ⟨⟨o, ho, ho2, x5.trans ho2⟩, x14.trans x12.symm⟩, fun k hk => ?_, fun p hp => ?_, fun i hi => ?_, fun i g1 g2 => ⟨x11 i g1 g2, ?_⟩⟩
  · obtain ⟨v, v1, v2⟩ := hw k hk
    refine ⟨v, v1, v2, ?_⟩
    show I 150 (1436 + (6 + k)) = nI v
    rw [show 1436 + (6 + k) = 1442 + k by omega, (x6 k hk).1, v2]
  · obtain ⟨q1, q2, q3, -⟩ := x7 p hp
    refine ⟨?_, ?_, 0, Nat.le_refl _, q3, ?_⟩
    · show I 150 (1436 + (12 + p)) = _
      rw [show 1436 + (12 + p) = 1448 + p by omega]; exact q1
    · show I 150 (1436 + (19 + p)) = _
      rw [show 1436 + (19 + p) = 1455 + p by omega]; exact q2
    · show I 150 (1436 + (26 + p)) = _
      rw [show 1436 + (26 + p) = 1462 + p by omega]; exact x9 p (by omega)
  · obtain ⟨q1, q2, q3, q4, q5, q6, -⟩ := x10 i hi
    obtain ⟨⟨k, k1, k2⟩, ⟨p, p1, p2, p3⟩, z8⟩ := ht i hi
    refine ⟨⟨k, k1, k2, ?_⟩, ⟨Or.inr ⟨p, p1, p2⟩, ?_⟩, ?_, ?_, fun z => ?_, ⟨?_, 2 ^ p, Nat.pow_pos (by decide), Nat.pow_lt_pow_right (by decide) p1, p3⟩, ?_⟩
    · show I 150 (1436 + (33 + i)) = _
      rw [show 1436 + (33 + i) = 1469 + i by omega, q1, k2]
    · show I 150 (1436 + (42 + i)) = _
      rw [show 1436 + (42 + i) = 1478 + i by omega]; exact q2
    · show I 150 (1436 + (51 + i)) = _
      rw [show 1436 + (51 + i) = 1487 + i by omega]; exact q3
    · show I 150 (1436 + (60 + i)) = _
      rw [show 1436 + (60 + i) = 1496 + i by omega, q4, x13, zb, if_neg]
      rw [zB_nI (by omega)]; simp
    · rw [x13, zbit, zB_nI (by omega)] at z; simp at z
    · show I 150 (1436 + (69 + i)) = _
      rw [show 1436 + (69 + i) = 1505 + i by omega]; exact q5
    · show I 150 (1436 + (78 + i)) = _
      rw [show 1436 + (78 + i) = 1514 + i by omega]; exact q6
  · rw [x13, zB_nI g2]; simp
end FN0
