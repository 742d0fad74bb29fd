/-! a run of the class: how much is got, what stays -/
section RB0
variable {I : Nat → Nat → Int32} {f l nt np nl nn sz g g' : Nat} {C C' : Nat → Nat → Int32}
def fxb (g f nt np nl nn : Nat) (C : Nat → Nat → Int32) : Prop := ∃ I : Nat → Nat → Int32, fmR g (sf f C) (I 150) nt np nl nn
theorem fxb_g (h : fxb g f nt np nl nn C) (hg : g ≤ g') : fxb g' f nt np nl nn C := by
  obtain ⟨I, h⟩ := h
  exact ⟨I, fmR_g h hg⟩
theorem fxb_c (h : fxb g f nt np nl nn C) (e : ∀ a, f ≤ a → a ≤ f + 8 → C' a = C a) : fxb g f nt np nl nn C' := by
  obtain ⟨I, h⟩ := h
  exact ⟨I, fmR_A h (fun r hr => e (f + r) (by omega) (by omega))⟩
theorem fxb_miss (hl : f + 16 < l) (h : fxb g f nt np nl nn C) : fxb g f nt np nl nn (c_miss C l) := fxb_c h (fun a _ g2 => zu_row _ _ _ _ (by omega))
theorem fxb_draw (hl : f + 16 < l) (h : fxb g f nt np nl nn C) : fxb g f nt np nl nn (c_draw C l) := fxb_c h (fun a _ g2 => zu_row _ _ _ _ (by omega))
theorem fxb_pass {t q : Nat} (hl : f + 16 < l) (h : fxb g f nt np nl nn C) (ht : t < nn) (hq : q < np) : fxb (g + 99) f nt np nl nn (c_pass C f l t q) := by
  obtain ⟨I, h'⟩ := id h
  obtain ⟨-, -, -, -, nof, non⟩ := fmR_in h'
  obtain ⟨k, hk, hk2⟩ := nof t ht
  have b := h'.1
  unfold c_pass
  split
  · exact fxb_g (fxb_miss hl h) (by omega)
  · rename_i hg
    rcases non t ht with hg2 | ⟨p, hp, hg2⟩
    · exact absurd hg2 hg
    · split
      · rw [hk2, hg2, nI_clamp (by omega), nI_clamp (by omega)]
        refine ⟨m_hand I t k p q, ?_⟩
        rw [sf_hand]
        exact fmR_hand ht hk2 hk hg2 hp hq h'
      · exact fxb_g (fxb_miss hl h) (by omega)
theorem fxb_bite {t : Nat} (hl : f + 16 < l) (h : fxb g f nt np nl nn C) (ht : t < nn) : fxb g f nt np nl nn (c_bite C f l t) := by
  unfold c_bite
  split
  · exact fxb_miss hl h
  · split
    · split
      · obtain ⟨I, h'⟩ := fxb_draw hl h
        refine ⟨zu (zu I 150 (60 + t) (nI 1)) 150 (42 + t) (-1), ?_⟩
        unfold c_find
        rw [sf_zu, sf_zu0]
        exact fmR_find ht h'
      · exact fxb_miss hl (fxb_draw hl h)
    · exact fxb_miss hl h
theorem fxb_turn {p k : Nat} {bb : Bool} (hl : f + 16 < l) (h : fxb g f nt np nl nn C) (hp : p < np) : fxb g f nt np nl nn (c_turn C f l p k bb) := by
  unfold c_turn
  split
  · exact fxb_miss hl h
  · obtain ⟨I, h'⟩ := id h
    refine ⟨zu I 150 (12 + p) (I 150 (12 + p) ^^^ (nI 1 <<< (nI k &&& 31))), ?_⟩
    rw [sf_zu]
    exact fmR_turn hp h'
theorem fxb_any (hl : f + 16 < l) (h : fxb g f nt np nl nn C) : fxb (g + 99) f nt np nl nn (c_any C f l) := by
  obtain ⟨I, h'⟩ := id h
  have hnp := fmR_np h'
  have c4 : C f 4 = nI nn := h'.1.2.2.2.1
  have c2 : C f 2 = nI np := h'.1.2.1.1
  have b := h'.1
  unfold c_any
  rw [c4, c2, nI_clamp (by omega), nI_clamp (by omega)]
  split
  · exact fxb_g (fxb_miss hl h) (by omega)
  · have := hnp (by omega)
    exact fxb_pass hl (fxb_draw hl (fxb_draw hl h)) (Nat.mod_lt _ (by omega)) (Nat.mod_lt _ (by omega))
theorem do1_b {i : Nat} (hl : f + 16 < l) (h : fxb g f nt np nl nn C) (hv : opv (n3 nt np nn) (sf (f + 12) C) sz i) (h19 : ¬ C (f + 13) i = nI 19) (hz6 : sz ≤ 60) : fxb (g + 99) f nt np nl nn (c_do1 C f l i) := by
  obtain ⟨I, h'⟩ := id h
  have b := h'.1
  have self : ∀ (k : Nat) (x : Int32), fxb (g + 99) f nt np nl nn (zu C l k x) := fun k x => fxb_g (fxb_c h (fun a _ g2 => zu_row _ _ _ _ (by omega))) (by omega)
  unfold c_do1
  rcases hv with ⟨Q, z, hv⟩ | ⟨⟨Q, z, hv⟩, E, hE, hE2⟩ | ⟨hv, -⟩
  · rcases hv with ⟨x, p, hx, hp, o1, -, a1, -, a2, -⟩ | ⟨x, hx, o1, -, a1, -⟩ | ⟨p, k, hp, hk, oo, a1, -, a2, -⟩ | ⟨o1, -⟩ | ⟨o1, -⟩
    · have o1 : C (f + 13) i = nI 10 := o1
      have a1 : C (f + 14) i = nI x := a1
      have a2 : C (f + 15) i = nI p := a2
      have hx : x < nn := hx
      have hp : p < np := hp
      rw [if_pos o1, a1, a2, nI_clamp (by omega), nI_clamp (by omega)]
      exact fxb_pass hl h hx hp
    · have o1 : C (f + 13) i = nI 11 := o1
      have a1 : C (f + 14) i = nI x := a1
      have hx : x < nn := hx
      rw [o1, if_neg (by decide), if_pos rfl, a1, nI_clamp (by omega)]
      exact fxb_g (fxb_bite hl h hx) (by omega)
    · have a1 : C (f + 14) i = nI p := a1
      have a2 : C (f + 15) i = nI k := a2
      have hp : p < np := hp
      have hk : k < nt := hk
      rcases oo with ⟨o1, -⟩ | ⟨o1, -⟩
      · have o1 : C (f + 13) i = nI 12 := o1
        rw [o1, if_neg (by decide), if_neg (by decide), if_pos rfl, a1, a2, nI_clamp (by omega), nI_clamp (by omega)]
        exact fxb_g (fxb_turn hl h hp) (by omega)
      · have o1 : C (f + 13) i = nI 13 := o1
        rw [o1, if_neg (by decide), if_neg (by decide), if_neg (by decide), if_pos rfl, a1, a2, nI_clamp (by omega), nI_clamp (by omega)]
        exact fxb_g (fxb_turn hl h hp) (by omega)
    · have o1 : C (f + 13) i = nI 14 := o1
      rw [o1, if_neg (by decide), if_neg (by decide), if_neg (by decide), if_neg (by decide), if_pos rfl]
      exact fxb_any hl h
    · have o1 : C (f + 13) i = nI 20 := o1
      rw [o1, if_neg (by decide), if_neg (by decide), if_neg (by decide), if_neg (by decide), if_neg (by decide), if_pos rfl]
      exact self _ _
  · have hE2 : C (f + 16) i = nI E := hE2
    rcases hv with ⟨m, -, -, o1, -, a1, -⟩ | ⟨-, hv⟩
    · have o1 : C (f + 13) i = nI 18 := o1
      rw [o1, if_neg (by decide), if_neg (by decide), if_neg (by decide), if_neg (by decide), if_neg (by decide), if_neg (by decide), if_pos rfl]
      exact fxb_g (fxb_c h (fun a _ g2 => zu_row _ _ _ _ (by omega))) (by omega)
    · have hj : ∃ j, (j = 8 ∨ j = 17 ∨ j = 60 ∨ j = 61 ∨ j = 62) ∧ C (f + 13) i = nI j := by
        rcases hv with ⟨x, p, -, -, o1, -⟩ | ⟨x, -, o1, -⟩ | ⟨p, j, v, -, hj, -, o1, -⟩
        · exact ⟨8, by omega, o1⟩
        · exact ⟨17, by omega, o1⟩
        · exact ⟨j, by omega, o1⟩
      obtain ⟨j, hj, o1⟩ := hj
      rw [o1, if_neg, if_neg, if_neg, if_neg, if_neg, if_neg, if_neg, hE2]
      · split
        · exact fxb_g h (by omega)
        · exact self _ _
      all_goals (rcases hj with rfl | rfl | rfl | rfl | rfl <;> decide)
  · exact absurd hv h19
/-- so much is got at most -/
def lifeB (g f l nt np nl nn : Nat) (C : Nat → Nat → Int32) : Prop := ∃ s, C l 1 = nI s ∧ s ≤ 300 ∧ fxb (g + 99 * s) f nt np nl nn C
theorem it_cK {i : Nat} (V : lifeV f l nt np nl nn sz C) (hl : f + 16 < l) (hi : C l 8 = nI i) (hi6 : i < sz) : cK f l C (c_it C f l) ∧ (lifeB g f l nt np nl nn C → lifeB g f l nt np nl nn (c_it C f l)) := by
  obtain ⟨v1, ⟨v2, v2b⟩, v3, -, v5, s, hs, v6⟩ := V
  have hv := v3 i hi6
  have same : ∀ X : Nat → Nat → Int32, (∀ a, f ≤ a → a ≤ f + 8 → X a = C a) → X l 1 = C l 1 → lifeB g f l nt np nl nn C → lifeB g f l nt np nl nn X := by
    rintro X h1 h2 ⟨s', q1, q2, q3⟩
    exact ⟨s', h2.trans q1, q2, fxb_c q3 h1⟩
  unfold c_it
  rw [hi, nI_clamp (by omega)]
  split
  · rename_i h19
    obtain ⟨o, ho, ho2⟩ := opv_19 hv h19
    have ho2 : C (f + 16) i = nI o := ho2
    unfold c_end
    rw [ho2, nI_clamp (by omega)]
    have st : ∀ (X : Nat → Nat → Int32) (j : Nat), (∀ a, a ≠ l + 1 → X a = C a) → cK f l C (zu X l 8 (nI j)) ∧ (lifeB g f l nt np nl nn C → lifeB g f l nt np nl nn (zu X l 8 (nI j))) := by
      intro X j hX
      exact ⟨fun a _ g2 g3 => by rw [zu_row _ _ _ _ g2, hX a g3], same _ (fun a g1 g2 => by rw [zu_row _ _ _ _ (by omega), hX a (by omega)]) (by rw [zu_ne _ _ _ _ (by omega), hX l (by omega)])⟩
    split
    · split
      · exact st _ _ (fun a ha => zu_row _ _ _ _ ha)
      · exact st _ _ (fun a ha => zu_row _ _ _ _ ha)
    · exact st _ _ (fun _ _ => rfl)
  · rename_i h19
    rw [v6, nI_clamp (by omega)]
    split
    · rename_i h300
      have e : ∀ a, a ≠ l → zu C l 1 (nI s + nI 1) a = C a := fun a ha => zu_row _ _ _ _ ha
      have hv' : opv (n3 nt np nn) (sf (f + 12) (zu C l 1 (nI s + nI 1))) sz i := by
        have e2 : ∀ r, r ≤ 4 → sf (f + 12) (zu C l 1 (nI s + nI 1)) r = sf (f + 12) C r := fun r hr => e (f + 12 + r) (by omega)
        unfold opv yst ybk at hv ⊢
        rw [e2 1 (by decide), e2 2 (by decide), e2 3 (by decide), e2 4 (by decide)]
        exact hv
      have q := do1_ok (C := zu C l 1 (nI s + nI 1)) (sz := sz) (i := i) hl (fx_c v1 (fun a _ g2 => e a (by omega))) (dr_c v5 (zu_ne _ _ _ _ (by omega))) ((zu_ne _ _ _ _ (by omega)).trans hi) hi6 (by rw [e _ (by omega)]; exact v2) v2b hv' (by rw [e _ (by omega)]; exact h19)
      have qb : ∀ g, fxb g f nt np nl nn C → fxb (g + 99) f nt np nl nn (c_do1 (zu C l 1 (nI s + nI 1)) f l i) := fun g h => do1_b hl (fxb_c h (fun a _ g2 => e a (by omega))) hv' (by rw [e _ (by omega)]; exact h19) v2b
      unfold c_do
      generalize c_do1 (zu C l 1 (nI s + nI 1)) f l i = X at q qb ⊢
      obtain ⟨-, -, -, q4, q5⟩ := q
      refine ⟨fun a g1 g2 g3 => by rw [zu_row _ _ _ _ g2, q5 a g1 g2 g3, e a g2], ?_⟩
      rintro ⟨s', p1, p2, p3⟩
      obtain rfl : s' = s := (nI_eq (by omega) (by omega)).mp (p1.symm.trans v6)
      exact ⟨s' + 1, by rw [zu_ne _ _ _ _ (by omega), q4, zu_same, nI_add], by omega, fxb_c (fxb_g (qb _ p3) (by omega)) (fun a g1 g2 => zu_row _ _ _ _ (by omega))⟩
    · refine ⟨fun a _ g2 _ => by rw [zu_row _ _ _ _ g2, zu_row _ _ _ _ g2], same _ (fun a g1 g2 => by rw [zu_row _ _ _ _ (by omega), zu_row _ _ _ _ (by omega)]) (by rw [zu_ne _ _ _ _ (by omega), zu_ne _ _ _ _ (by omega)])⟩
theorem its_cK (hl : f + 16 < l) : ∀ (n : Nat) (C : Nat → Nat → Int32), lifeV f l nt np nl nn sz C → cK f l C (c_its f l n C) ∧ (lifeB g f l nt np nl nn C → lifeB g f l nt np nl nn (c_its f l n C)) := by
  intro n
  induction n with
  | zero => intro C _; exact ⟨fun _ _ _ _ => rfl, fun h => h⟩
  | succ n ih =>
    intro C V
    rw [c_its]
    split
    · rename_i hlt
      obtain ⟨-, ⟨v2, v2b⟩, -, ⟨i, hi, v4⟩, -⟩ := id V
      rw [v4, v2, nI_clamp (by omega), nI_clamp (by omega)] at hlt
      obtain ⟨q1, q2⟩ := it_cK (g := g) V hl v4 hlt
      obtain ⟨p1, p2⟩ := ih _ (lifeV_it V hl v4 hlt)
      exact ⟨fun a g1 g2 g3 => (p1 a g1 g2 g3).trans (q1 a g1 g2 g3), fun h => p2 (q2 h)⟩
    · exact ⟨fun _ _ _ _ => rfl, fun h => h⟩
theorem do1_l0 {i : Nat} (hl : f + 16 < l) : c_do1 C f l i l 0 = C l 0 := by
  have hlf : ¬ (f ≤ l ∧ l ≤ f + 16) := by omega
  unfold c_do1
  split
  · exact (cF_pass hlf).2 0 (by decide) (by decide)
  split
  · exact (cF_bite hlf).2 0 (by decide) (by decide)
  split
  · exact (cF_turn hlf).2 0 (by decide) (by decide)
  split
  · exact (cF_turn hlf).2 0 (by decide) (by decide)
  split
  · exact (cF_any hlf).2 0 (by decide) (by decide)
  split
  · exact zu_ne _ _ _ _ (by omega)
  split
  · exact zu_ne _ _ _ _ (by omega)
  split
  · rfl
  · exact zu_ne _ _ _ _ (by omega)
theorem it_l0 (hl : f + 16 < l) : c_it C f l l 0 = C l 0 := by
  unfold c_it
  split
  · unfold c_end
    split
    · split
      · rw [zu_ne _ _ _ _ (by omega), zu_ne _ _ _ _ (by omega)]
      · rw [zu_ne _ _ _ _ (by omega), zu_ne _ _ _ _ (by omega)]
    · exact zu_ne _ _ _ _ (by omega)
  · split
    · unfold c_do
      rw [zu_ne _ _ _ _ (by omega), do1_l0 hl, zu_ne _ _ _ _ (by omega)]
    · rw [zu_ne _ _ _ _ (by omega), zu_ne _ _ _ _ (by omega)]
theorem its_l0 (hl : f + 16 < l) : ∀ (n : Nat) (C : Nat → Nat → Int32), c_its f l n C l 0 = C l 0 := by
  intro n
  induction n with
  | zero => intro C; rfl
  | succ n ih =>
    intro C
    rw [c_its]
    split
    · rw [ih, it_l0 hl]
    · rfl
theorem s_sum_N {X : Nat → Int32} {B : Nat} : ∀ m, (∀ p, p < m → ∃ v, v ≤ B ∧ X p = nI v) → ∃ V, V ≤ m * B ∧ s_sum (fun _ => true) X m = nI V := by
  intro m
  induction m with
  | zero => intro _; exact ⟨0, by omega, rfl⟩
  | succ m ih =>
    intro h
    obtain ⟨V, h1, h2⟩ := ih (fun p hp => h p (by omega))
    obtain ⟨v, h3, h4⟩ := h m (by omega)
    refine ⟨V + v, ?_, ?_⟩
    · rw [Nat.succ_mul]; omega
    · rw [s_sum, if_pos rfl, h2, h4, nI_add]
end RB0
