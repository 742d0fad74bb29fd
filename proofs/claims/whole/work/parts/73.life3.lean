/-! the class: a run, whole -/
section LF2
variable {G : zG} {I : Nat → Nat → Int32} {J : Nat → Nat → Int64} {P : Nat → Nat → Option Nat} {S : List (Nat × Nat)} {f l nt np nl nn sz : Nat} {a b : Int32} {C C' C1 : Nat → Nat → Int32}
def fx (f nt np nl nn : Nat) (C : Nat → Nat → Int32) : Prop := ∃ (g : Nat) (I : Nat → Nat → Int32), fmR g (sf f C) (I 150) nt np nl nn
theorem fmR_A {g : Nat} {A A' : Nat → Nat → Int32} {R : Nat → Int32} (h : fmR g A R nt np nl nn) (e : ∀ r, r < 9 → A' r = A r) : fmR g A' R nt np nl nn := by
  unfold fmR
  rw [e 0 (by decide), e 1 (by decide), e 2 (by decide), e 3 (by decide), e 4 (by decide), e 5 (by decide), e 6 (by decide), e 7 (by decide), e 8 (by decide)]
  exact h
theorem fx_c (h : fx f nt np nl nn C) (e : ∀ a, f ≤ a → a ≤ f + 8 → C' a = C a) : fx f nt np nl nn C' := by
  obtain ⟨g, I, h⟩ := h
  exact ⟨g, I, fmR_A h (fun r hr => e (f + r) (by omega) (by omega))⟩
theorem fmR_in {g : Nat} {R : Nat → Int32} (h : fmR g (sf f C) R nt np nl nn) : fenIn C f nt np nl nn := by
  obtain ⟨⟨⟨a1, -, b1⟩, ⟨a2, -, b2⟩, ⟨a3, -, b3⟩, ⟨a4, -, b4⟩⟩, -, -, -, ft, -⟩ := h
  refine ⟨⟨a1, b1⟩, ⟨a2, b2⟩, ⟨a3, b3⟩, ⟨a4, b4⟩, fun t ht => ?_, fun t ht => (ft t ht).2.1.1⟩
  obtain ⟨⟨k, hk, h1, -⟩, -⟩ := ft t ht
  exact ⟨k, hk, h1⟩
theorem fmR_np {g : Nat} {A : Nat → Nat → Int32} {R : Nat → Int32} (h : fmR g A R nt np nl nn) : 0 < nn → 0 < np := by
  intro h0
  obtain ⟨-, -, -, -, ft, -⟩ := h
  obtain ⟨-, -, -, -, -, ⟨-, x, x1, x2, -⟩, -⟩ := ft 0 h0
  rcases Nat.eq_zero_or_pos np with e | e
  · subst e; simp at x2; omega
  · exact e
theorem sf_hand {t k p q : Nat} : sf f (s_hand C f t k p q) = s_hand (sf f C) 0 t k p q := by
  unfold s_hand
  rw [sf_zu, sf_zu, sf_zu, sf_zu0, sf_zu]
  rfl
theorem fx_miss (hl : f + 16 < l) (h : fx f nt np nl nn C) : fx f nt np nl nn (c_miss C l) := fx_c h (fun a _ g2 => zu_row _ _ _ _ (by omega))
theorem fx_draw (hl : f + 16 < l) (h : fx f nt np nl nn C) : fx f nt np nl nn (c_draw C l) := fx_c h (fun a _ g2 => zu_row _ _ _ _ (by omega))
theorem fx_pass {t q : Nat} (hl : f + 16 < l) (h : fx f nt np nl nn C) (ht : t < nn) (hq : q < np) : fx f nt np nl nn (c_pass C f l t q) := by
  obtain ⟨g, I, h'⟩ := id h
  obtain ⟨-, -, -, -, nof, non⟩ := fmR_in h'
  obtain ⟨k, hk, hk2⟩ := nof t ht
  have b := h'.1
  unfold c_pass
  split
  · exact fx_miss hl h
  · rename_i hg
    rcases non t ht with hg2 | ⟨p, hp, hg2⟩
    · exact absurd hg2 hg
    · split
      · rw [hk2, hg2, nI_clamp (by omega), nI_clamp (by omega)]
        refine ⟨g + 99, m_hand I t k p q, ?_⟩
        rw [sf_hand]
        exact fmR_hand ht hk2 hk hg2 hp hq h'
      · exact fx_miss hl h
theorem fx_bite {t : Nat} (hl : f + 16 < l) (h : fx f nt np nl nn C) (ht : t < nn) : fx f nt np nl nn (c_bite C f l t) := by
  unfold c_bite
  split
  · exact fx_miss hl h
  · split
    · split
      · obtain ⟨g, I, h'⟩ := fx_draw hl h
        refine ⟨g, zu (zu I 150 (60 + t) (nI 1)) 150 (42 + t) (-1), ?_⟩
        unfold c_find
        rw [sf_zu, sf_zu0]
        exact fmR_find ht h'
      · exact fx_miss hl (fx_draw hl h)
    · exact fx_miss hl h
theorem fx_turn {p k : Nat} {bb : Bool} (hl : f + 16 < l) (h : fx f nt np nl nn C) (hp : p < np) : fx f nt np nl nn (c_turn C f l p k bb) := by
  unfold c_turn
  split
  · exact fx_miss hl h
  · obtain ⟨g, I, h'⟩ := id h
    refine ⟨g, zu I 150 (12 + p) (I 150 (12 + p) ^^^ (nI 1 <<< (nI k &&& 31))), ?_⟩
    rw [sf_zu]
    exact fmR_turn hp h'
theorem fx_any (hl : f + 16 < l) (h : fx f nt np nl nn C) : fx f nt np nl nn (c_any C f l) := by
  obtain ⟨g, I, h'⟩ := id h
  have hnp := fmR_np h'
  have c4 : C f 4 = nI nn := h'.1.2.2.2.1
  have c2 : C f 2 = nI np := h'.1.2.1.1
  have b := h'.1
  unfold c_any
  rw [c4, c2, nI_clamp (by omega), nI_clamp (by omega)]
  split
  · exact fx_miss hl h
  · have := hnp (by omega)
    exact fx_pass hl (fx_draw hl (fx_draw hl h)) (Nat.mod_lt _ (by omega)) (Nat.mod_lt _ (by omega))
def dr (l : Nat) (C : Nat → Nat → Int32) : Prop := ∃ d, d < 65536 ∧ C l 7 = nI d
theorem dr_draw : dr l (c_draw C l) := ⟨_, Nat.mod_lt _ (by decide), zu_same _ _ _ _⟩
theorem dr_c (h : dr l C) (e : C' l 7 = C l 7) : dr l C' := by obtain ⟨d, h1, h2⟩ := h; exact ⟨d, h1, e.trans h2⟩
theorem dr_miss (h : dr l C) : dr l (c_miss C l) := dr_c h (zu_ne _ _ _ _ (by omega))
theorem dr_pass {t q : Nat} (hl : f + 16 < l) (h : dr l C) : dr l (c_pass C f l t q) := by
  unfold c_pass
  split
  · exact dr_miss h
  · split
    · refine dr_c h ?_
      unfold s_hand
      rw [zu_ne _ _ _ _ (by omega), zu_ne _ _ _ _ (by omega), zu_ne _ _ _ _ (by omega), zu_ne _ _ _ _ (by omega), zu_ne _ _ _ _ (by omega)]
    · exact dr_miss h
theorem dr_bite {t : Nat} (hl : f + 16 < l) (h : dr l C) : dr l (c_bite C f l t) := by
  unfold c_bite
  split
  · exact dr_miss h
  · split
    · split
      · refine dr_c (C := c_draw C l) dr_draw ?_
        unfold c_find
        rw [zu_ne _ _ _ _ (by omega), zu_ne _ _ _ _ (by omega)]
      · exact dr_miss dr_draw
    · exact dr_miss h
theorem dr_turn {p k : Nat} {bb : Bool} (hl : f + 16 < l) (h : dr l C) : dr l (c_turn C f l p k bb) := by
  unfold c_turn
  split
  · exact dr_miss h
  · exact dr_c h (zu_ne _ _ _ _ (by omega))
theorem dr_any (hl : f + 16 < l) (h : dr l C) : dr l (c_any C f l) := by
  unfold c_any
  split
  · exact dr_miss h
  · exact dr_pass hl dr_draw
theorem opv_19 {n : yN} {A : Nat → Nat → Int32} {i : Nat} (h : opv n A sz i) (h19 : A 1 i = nI 19) : ∃ o, o < sz ∧ A 4 i = nI o := by
  rcases h with ⟨Q, z, hv⟩ | ⟨⟨Q, z, hv⟩, -⟩ | ⟨-, h⟩
  · rcases hv with ⟨x, p, -, -, o1, -⟩ | ⟨x, -, o1, -⟩ | ⟨p, k, -, -, ⟨o1, -⟩ | ⟨o1, -⟩, -⟩ | ⟨o1, -⟩ | ⟨o1, -⟩ <;> (rw [h19] at o1; exact absurd o1 (by decide))
  · rcases hv with ⟨m, -, -, o1, -⟩ | ⟨-, ⟨x, p, -, -, o1, -⟩ | ⟨x, -, o1, -⟩ | ⟨p, j, v, -, hj, -, o1, -⟩⟩
    · rw [h19] at o1; exact absurd o1 (by decide)
    · rw [h19] at o1; exact absurd o1 (by decide)
    · rw [h19] at o1; exact absurd o1 (by decide)
    · rw [h19] at o1
      rcases hj with rfl | rfl | rfl <;> exact absurd o1 (by decide)
  · exact h
/-- what a step's deed keeps -/
def d1K (f l nt np nl nn : Nat) (C X : Nat → Nat → Int32) : Prop := fx f nt np nl nn X ∧ dr l X ∧ (∃ i, i ≤ 60 ∧ X l 8 = nI i) ∧ X l 1 = C l 1 ∧ ∀ a, ¬ (f ≤ a ∧ a ≤ f + 8) → a ≠ l → a ≠ l + 1 → X a = C a
theorem d1K_F {X : Nat → Nat → Int32} {i : Nat} (h1 : fx f nt np nl nn X) (h2 : dr l X) (h3 : cF f l C X) (hi : C l 8 = nI i) (hi6 : i ≤ 60) : d1K f l nt np nl nn C X := ⟨h1, h2, ⟨i, hi6, (h3.2 8 (by decide) (by decide)).trans hi⟩, h3.2 1 (by decide) (by decide), fun a g1 g2 _ => h3.1 a g1 g2⟩
theorem do1_ok {i : Nat} (hl : f + 16 < l) (h : fx f nt np nl nn C) (hd : dr l C) (hi : C l 8 = nI i) (hi6 : i < sz) (hz : C (f + 12) 2 = nI sz) (hz6 : sz ≤ 60) (hv : opv (n3 nt np nn) (sf (f + 12) C) sz i) (h19 : ¬ C (f + 13) i = nI 19) : d1K f l nt np nl nn C (c_do1 C f l i) := by
  have hl' : ¬ (f ≤ l ∧ l ≤ f + 16) := by omega
  obtain ⟨g, I, h'⟩ := id h
  have b := h'.1
  have self : ∀ (k : Nat) (x : Int32), fx f nt np nl nn (zu C l k x) := fun k x => fx_c h (fun a _ g2 => zu_row _ _ _ _ (by omega))
  unfold c_do1
  rcases hv with ⟨Q, z, hv⟩ | ⟨⟨Q, z, hv⟩, E, hE, hE2⟩ | ⟨hv, -⟩
  · rcases hv with ⟨x, p, hx, hp, o1, -, a1, -, a2, -⟩ | ⟨x, hx, o1, -, a1, -⟩ | ⟨p, k, hp, hk, oo, a1, -, a2, -⟩ | ⟨o1, -⟩ | ⟨o1, -⟩
    · have o1 : C (f + 13) i = nI 10 := o1
      have a1 : C (f + 14) i = nI x := a1
      have a2 : C (f + 15) i = nI p := a2
      have hx : x < nn := hx
      have hp : p < np := hp
      rw [if_pos o1, a1, a2, nI_clamp (by omega), nI_clamp (by omega)]
      exact d1K_F (fx_pass hl h hx hp) (dr_pass hl hd) (cF_pass hl') hi (by omega)
    · have o1 : C (f + 13) i = nI 11 := o1
      have a1 : C (f + 14) i = nI x := a1
      have hx : x < nn := hx
      rw [o1, if_neg (by decide), if_pos rfl, a1, nI_clamp (by omega)]
      exact d1K_F (fx_bite hl h hx) (dr_bite hl hd) (cF_bite hl') hi (by omega)
    · have a1 : C (f + 14) i = nI p := a1
      have a2 : C (f + 15) i = nI k := a2
      have hp : p < np := hp
      have hk : k < nt := hk
      rcases oo with ⟨o1, -⟩ | ⟨o1, -⟩
      · have o1 : C (f + 13) i = nI 12 := o1
        rw [o1, if_neg (by decide), if_neg (by decide), if_pos rfl, a1, a2, nI_clamp (by omega), nI_clamp (by omega)]
        exact d1K_F (fx_turn hl h hp) (dr_turn hl hd) (cF_turn hl') hi (by omega)
      · have o1 : C (f + 13) i = nI 13 := o1
        rw [o1, if_neg (by decide), if_neg (by decide), if_neg (by decide), if_pos rfl, a1, a2, nI_clamp (by omega), nI_clamp (by omega)]
        exact d1K_F (fx_turn hl h hp) (dr_turn hl hd) (cF_turn hl') hi (by omega)
    · have o1 : C (f + 13) i = nI 14 := o1
      rw [o1, if_neg (by decide), if_neg (by decide), if_neg (by decide), if_neg (by decide), if_pos rfl]
      exact d1K_F (fx_any hl h) (dr_any hl hd) (cF_any hl') hi (by omega)
    · have o1 : C (f + 13) i = nI 20 := o1
      rw [o1, if_neg (by decide), if_neg (by decide), if_neg (by decide), if_neg (by decide), if_neg (by decide), if_pos rfl, hz]
      exact ⟨self _ _, dr_c hd (zu_ne _ _ _ _ (by omega)), ⟨sz, hz6, zu_same _ _ _ _⟩, zu_ne _ _ _ _ (by omega), fun a _ g2 _ => zu_row _ _ _ _ g2⟩
  · have hE2 : C (f + 16) i = nI E := hE2
    rcases hv with ⟨m, -, -, o1, -, a1, -⟩ | ⟨-, hv⟩
    · have o1 : C (f + 13) i = nI 18 := o1
      rw [o1, if_neg (by decide), if_neg (by decide), if_neg (by decide), if_neg (by decide), if_neg (by decide), if_neg (by decide), if_pos rfl]
      exact ⟨fx_c h (fun a _ g2 => zu_row _ _ _ _ (by omega)), dr_c hd (zu_ne _ _ _ _ (by omega)), ⟨i, by omega, (zu_ne _ _ _ _ (by omega)).trans hi⟩, zu_ne _ _ _ _ (by omega), fun a _ _ g3 => zu_row _ _ _ _ g3⟩
    · have hj : ∃ j, (j = 8 ∨ j = 17 ∨ j = 60 ∨ j = 61 ∨ j = 62) ∧ C (f + 13) i = nI j := by
        rcases hv with ⟨x, p, -, -, o1, -⟩ | ⟨x, -, o1, -⟩ | ⟨p, j, v, -, hj, -, o1, -⟩
        · exact ⟨8, by omega, o1⟩
        · exact ⟨17, by omega, o1⟩
        · exact ⟨j, by omega, o1⟩
      obtain ⟨j, hj, o1⟩ := hj
      rw [o1, if_neg, if_neg, if_neg, if_neg, if_neg, if_neg, if_neg, hE2]
      · split
        · exact d1K_F h hd cF_r hi (by omega)
        · exact ⟨self _ _, dr_c hd (zu_ne _ _ _ _ (by omega)), ⟨E, by omega, zu_same _ _ _ _⟩, zu_ne _ _ _ _ (by omega), fun a _ g2 _ => zu_row _ _ _ _ g2⟩
      all_goals (rcases hj with rfl | rfl | rfl | rfl | rfl <;> decide)
  · exact absurd hv h19
def lifeV (f l nt np nl nn sz : Nat) (C : Nat → Nat → Int32) : Prop := fx f nt np nl nn C ∧ (C (f + 12) 2 = nI sz ∧ sz ≤ 60) ∧ (∀ i, i < sz → opv (n3 nt np nn) (sf (f + 12) C) sz i) ∧ (∃ i, i ≤ 61 ∧ C l 8 = nI i) ∧ dr l C ∧ (∃ s, s ≤ 300 ∧ C l 1 = nI s)
theorem lifeV_mk {i s : Nat} {X : Nat → Nat → Int32} (V : lifeV f l nt np nl nn sz C) (hl : f + 16 < l) (h1 : fx f nt np nl nn X) (h2 : ∀ a, ¬ (f ≤ a ∧ a ≤ f + 8) → a ≠ l → a ≠ l + 1 → X a = C a) (h3 : X l 8 = nI i) (hi : i ≤ 61) (h4 : dr l X) (h5 : X l 1 = nI s) (hs : s ≤ 300) : lifeV f l nt np nl nn sz X := by
  obtain ⟨-, v2, v3, -⟩ := V
  refine ⟨h1, ?_, fun i hi => ?_, ⟨i, hi, h3⟩, h4, s, hs, h5⟩
  · rw [h2 (f + 12) (by omega) (by omega) (by omega)]; exact v2
  · have e : ∀ r, r ≤ 4 → sf (f + 12) X r = sf (f + 12) C r := fun r hr => h2 (f + 12 + r) (by omega) (by omega) (by omega)
    have q := v3 i hi
    unfold opv yst ybk at q ⊢
    rw [e 1 (by decide), e 2 (by decide), e 3 (by decide), e 4 (by decide)]
    exact q
theorem lifeV_it {i : Nat} (V : lifeV f l nt np nl nn sz C) (hl : f + 16 < l) (hi : C l 8 = nI i) (hi6 : i < sz) : lifeV f l nt np nl nn sz (c_it C f l) := by
  have V' := V
  obtain ⟨v1, ⟨v2, v2b⟩, v3, -, v5, s, hs, v6⟩ := V
  have hv := v3 i hi6
  unfold c_it
  rw [hi, nI_clamp (by omega)]
  split
  · rename_i h19
    obtain ⟨o, ho, ho2⟩ := opv_19 hv h19
    have ho2 : C (f + 16) i = nI o := ho2
    have st : ∀ (X : Nat → Nat → Int32) (j : Nat), (∀ a, a ≠ l + 1 → X a = C a) → j ≤ 61 → lifeV f l nt np nl nn sz (zu X l 8 (nI j)) := by
      intro X j hX hj
      refine lifeV_mk (s := s) V' hl (fx_c v1 (fun a _ g2 => by rw [zu_row _ _ _ _ (by omega), hX a (by omega)])) (fun a _ g2 g3 => by rw [zu_row _ _ _ _ g2, hX a g3]) (zu_same _ _ _ _) hj (dr_c v5 (by rw [zu_ne _ _ _ _ (by omega), hX l (by omega)])) (by rw [zu_ne _ _ _ _ (by omega), hX l (by omega)]; exact v6) hs
    unfold c_end
    rw [ho2, nI_clamp (by omega)]
    split
    · split
      · exact st _ _ (fun a ha => zu_row _ _ _ _ ha) (by omega)
      · exact st _ _ (fun a ha => zu_row _ _ _ _ ha) (by omega)
    · exact st _ _ (fun _ _ => rfl) (by omega)
  · rename_i h19
    rw [v6, nI_clamp (by omega)]
    split
    · rename_i h300
      have e : ∀ a, a ≠ l → zu C l 1 (nI s + nI 1) a = C a := fun a ha => zu_row _ _ _ _ ha
      have q := do1_ok (C := zu C l 1 (nI s + nI 1)) (sz := sz) (i := i) hl (fx_c v1 (fun a _ g2 => e a (by omega))) (dr_c v5 (zu_ne _ _ _ _ (by omega))) ((zu_ne _ _ _ _ (by omega)).trans hi) hi6 (by rw [e _ (by omega)]; exact v2) v2b (by
        have e2 : ∀ r, r ≤ 4 → sf (f + 12) (zu C l 1 (nI s + nI 1)) r = sf (f + 12) C r := fun r hr => e (f + 12 + r) (by omega)
        unfold opv yst ybk at hv ⊢
        rw [e2 1 (by decide), e2 2 (by decide), e2 3 (by decide), e2 4 (by decide)]
        exact hv) (by rw [e _ (by omega)]; exact h19)
      unfold c_do
      generalize c_do1 (zu C l 1 (nI s + nI 1)) f l i = X at q ⊢
      obtain ⟨q1, q2, ⟨j, hj, q3⟩, q4, q5⟩ := q
      refine lifeV_mk (i := j + 1) (s := s + 1) V' hl (fx_c q1 (fun a _ g2 => zu_row _ _ _ _ (by omega))) (fun a g1 g2 g3 => by rw [zu_row _ _ _ _ g2, q5 a g1 g2 g3, e a g2]) (by rw [zu_same, q3, nI_add]) (by omega) (dr_c q2 (zu_ne _ _ _ _ (by omega))) (by rw [zu_ne _ _ _ _ (by omega), q4, zu_same, nI_add]) (by omega)
    · rw [v2]
      exact lifeV_mk (i := sz) (s := s) V' hl (fx_c v1 (fun a _ g2 => by rw [zu_row _ _ _ _ (by omega), zu_row _ _ _ _ (by omega)])) (fun a _ g2 _ => by rw [zu_row _ _ _ _ g2, zu_row _ _ _ _ g2]) (zu_same _ _ _ _) (by omega) (dr_c v5 (by rw [zu_ne _ _ _ _ (by omega), zu_ne _ _ _ _ (by omega)])) (by rw [zu_ne _ _ _ _ (by omega), zu_ne _ _ _ _ (by omega)]; exact v6) hs
theorem bits9 {x : Int32} (h : ∀ t, 9 ≤ t → t < 32 → zB x t = false) : x = nI (s_setN (zB x) 9) := by
  apply zB_ext
  intro i hi
  rw [zB_nI hi, s_setN_bit]
  by_cases h9 : i < 9
  · simp [h9]
  · rw [h i (by omega) hi]; simp [h9]
def c_start (I : Nat → Nat → Int32) (l : Nat) (s : Int32) : Nat → Nat → Int32 := zu (zu (zu (zu (zu (zu I l 0 (nI 1)) l 1 (nI 0)) l 2 (nI 0)) l 6 (nI 0)) l 7 s) l 8 (nI 0)
def c_stop (I Z : Nat → Nat → Int32) (f l np : Nat) : Nat → Nat → Int32 := zu (zu (zu Z l 3 (Z f 5 - I f 5)) l 4 (nI (pcN (s_setN (zB (Z f 7 &&& (I f 7 ^^^ -1))) 9)))) l 5 (s_sum (fun _ => true) (Z (f + 4)) np - s_sum (fun _ => true) (I (f + 4)) np)
theorem t_Life_run {sd : Nat} (h0 : S[l]? = some (4, 10)) (h9 : P l 9 = some (l + 1)) (h9s : S[l + 1]? = some (100, 60)) (F : fenOk P S f) (hl : f + 16 < l) (V : lifeV f l nt np nl nn sz (c_start I l (nI sd))) : zEv G y_Life_run prog_6_method_2_code 7 6 0 0 [.ref l, .ref f, .int (nI sd)] (I, J, P, S) (fun w => w = (c_stop I (c_its f l 1000000 (c_start I l (nI sd))) f l np, J, P, S) ∧ lifeV f l nt np nl nn sz (c_its f l 1000000 (c_start I l (nI sd)))) := by
  obtain ⟨F0, ⟨F8, F8s⟩, ⟨F9, F9s⟩, ⟨F10, F10s⟩, ⟨F11, F11s⟩, ⟨F12, F12s⟩, ⟨F13, F13s⟩, ⟨F14, F14s⟩, ⟨F15, F15s⟩, ⟨F16, F16s⟩, ⟨F17, F17s⟩, ⟨F18, F18s⟩, ⟨F19, F19s⟩, ⟨Y3, Y3s⟩, ⟨Y4, Y4s⟩, ⟨Y5, Y5s⟩, ⟨Y6, Y6s⟩⟩ := id F
  have hlf : ¬ (f ≤ l ∧ l ≤ f + 16) := by omega
  have e0 : ∀ a, a ≠ l → c_start I l (nI sd) a = I a := fun a ha => by unfold c_start; rw [zu_row _ _ _ _ ha, zu_row _ _ _ _ ha, zu_row _ _ _ _ ha, zu_row _ _ _ _ ha, zu_row _ _ _ _ ha, zu_row _ _ _ _ ha]
  refine zEv_of (lv := [some (.ref l), some (.ref f), some (.int (nI sd)), none, none, none, none]) (by decide) rfl (Nat.le_of_ble_eq_true rfl) ?_
  refine z_aload_0 d_Life_run_0 ?_
  refine z_iconst (a := nI 1) d_Life_run_1 (by decide) ?_
  refine z_putZ d_Life_run_2 f_Life_17 (by first | assumption | exact zS0_at (by assumption) (by omega) | exact zS0_at rfl (by omega)) (by first | exact zb0 | exact zb1 | assumption) ?_
  refine z_aload_0 d_Life_run_5 ?_
  refine z_iconst (a := nI 0) d_Life_run_6 (by decide) ?_
  refine z_putI d_Life_run_7 f_Life_21 (by first | assumption | exact zS0_at (by assumption) (by omega) | exact zS0_at rfl (by omega)) ?_
  refine z_aload_0 d_Life_run_10 ?_
  refine z_iconst (a := nI 0) d_Life_run_11 (by decide) ?_
  refine z_putI d_Life_run_12 f_Life_25 (by first | assumption | exact zS0_at (by assumption) (by omega) | exact zS0_at rfl (by omega)) ?_
  refine z_aload_0 d_Life_run_15 ?_
  refine z_iconst (a := nI 0) d_Life_run_16 (by decide) ?_
  refine z_putI d_Life_run_17 f_Life_28 (by first | assumption | exact zS0_at (by assumption) (by omega) | exact zS0_at rfl (by omega)) ?_
  refine z_aload_0 d_Life_run_20 ?_
  refine z_iload_2 d_Life_run_21 ?_
  refine z_putI d_Life_run_22 f_Life_31 (by first | assumption | exact zS0_at (by assumption) (by omega) | exact zS0_at rfl (by omega)) ?_
  refine z_aload_0 d_Life_run_25 ?_
  refine z_iconst (a := nI 0) d_Life_run_26 (by decide) ?_
  refine z_putI d_Life_run_27 f_Life_34 (by first | assumption | exact zS0_at (by assumption) (by omega) | exact zS0_at rfl (by omega)) ?_
  have k5 : c_start I l (nI sd) f 5 = I f 5 := by rw [e0 f (by omega)]
  have k7 : c_start I l (nI sd) f 7 = I f 7 := by rw [e0 f (by omega)]
  have k4 : c_start I l (nI sd) (f + 4) = I (f + 4) := e0 _ (by omega)
  rw [show zu (zu (zu (zu (zu (zu I l 0 (nI 1)) l 1 (nI 0)) l 2 (nI 0)) l 6 (nI 0)) l 7 (nI sd)) l 8 (nI 0) = c_start I l (nI sd) from rfl]
  generalize c_start I l (nI sd) = C0 at V k5 k7 k4 ⊢
  obtain ⟨g0, I0, V0⟩ := id V.1
  refine z_aload_1 d_Life_run_30 ?_
  refine z_getIv d_Life_run_31 f_Life_37 (by first | assumption | exact zS0_at (by assumption) (by omega) | exact zS0_at rfl (by omega)) (by first | assumption | ((try simp (disch := omega) only [zu_same, zu_ne, zcp_ne, zfl_ne]); first | assumption | rfl)) ?_
  first | refine z_istore_3 d_Life_run_34 rfl ?_ | (refine z_forget_2 ?_; refine z_istore_3 d_Life_run_34 rfl ?_)
  refine z_aload_1 d_Life_run_35 ?_
  refine z_getIv d_Life_run_36 f_Life_42 (by first | assumption | exact zS0_at (by assumption) (by omega) | exact zS0_at rfl (by omega)) (by first | assumption | ((try simp (disch := omega) only [zu_same, zu_ne, zcp_ne, zfl_ne]); first | assumption | rfl)) ?_
  first | refine z_istore_4 d_Life_run_39 rfl ?_ | (refine z_forget_3 ?_; refine z_istore_4 d_Life_run_39 rfl ?_)
  refine z_aload_1 d_Life_run_41 ?_
  refine z_Vi0 d_Life_run_42 k_Life_45 (by first | assumption | exact zS0_at (by assumption) (by omega) | exact zS0_at rfl (by omega)) (t_Fen_gotByAll F (fmR_in V0)) ⟨Nat.le_of_ble_eq_true rfl, Nat.le_of_ble_eq_true rfl, Nat.le_of_ble_eq_true rfl, Nat.le_of_ble_eq_true rfl⟩ (Nat.le_of_ble_eq_true rfl) ?_
  intro r w hq
  obtain ⟨rfl, rfl⟩ := hq
  rw [k4]
  first | refine z_istore_5 d_Life_run_45 rfl ?_ | (refine z_forget_4 ?_; refine z_istore_5 d_Life_run_45 rfl ?_)
  refine z_iconst (a := nI 0) d_Life_run_47 (by decide) ?_
  first | refine z_istore_6 d_Life_run_48 rfl ?_ | (refine z_forget_5 ?_; refine z_istore_6 d_Life_run_48 rfl ?_)
  have loop : ∀ m j, 1000000 - j < m → j ≤ 1000000 → ∀ C : Nat → Nat → Int32, (lifeV f l nt np nl nn sz C) → (c_its f l (1000000 - j) C = c_its f l 1000000 C0) → zA G y_Life_run prog_6_method_2_code 7 none (zRm 6 0 0) (zM G 0 0 (fun r w' => r = none ∧ (fun w => w = (c_stop I (c_its f l 1000000 C0) f l np, J, P, S) ∧ lifeV f l nt np nl nn sz (c_its f l 1000000 C0)) w')) 50 [some (.ref l), some (.ref f), some (.int (nI sd)), some (.int (I f 5)), some (.int (I f 7)), some (.int (s_sum (fun _ => true) (I (f + 4)) np)), some (.int (nI j))] [] (C, J, P, S) 0 0 := by
    intro m
    induction m with
    | zero => intro j h; omega
    | succ m ih =>
      intro j hm hj C W hI
      obtain ⟨w1, ⟨w2, w2b⟩, w3, ⟨i, hi, w4⟩, ⟨d, hd, w5⟩, s, hs, w6⟩ := id W
      obtain ⟨g1, I1, W1⟩ := id w1
      have N1 := fmR_in W1
      obtain ⟨o, ho, ho2, -⟩ := id W1.2.1.1
      have ho2 : C f 0 = nI o := ho2
      have fin : c_its f l 0 C = c_its f l 1000000 C0 → zA G y_Life_run prog_6_method_2_code 7 none (zRm 6 0 0) (zM G 0 0 (fun r w' => r = none ∧ (fun w => w = (c_stop I (c_its f l 1000000 C0) f l np, J, P, S) ∧ lifeV f l nt np nl nn sz (c_its f l 1000000 C0)) w')) 156 [some (.ref l), some (.ref f), some (.int (nI sd)), some (.int (I f 5)), some (.int (I f 7)), some (.int (s_sum (fun _ => true) (I (f + 4)) np)), some (.int (nI j))] [] (C, J, P, S) 0 0 := by
        intro hz
        rw [← hz, c_its]
        have hb9 : C f 7 &&& (I f 7 ^^^ -1) = nI (s_setN (zB (C f 7 &&& (I f 7 ^^^ -1))) 9) := bits9 (fun t g1 g2 => by
          have n9 : nn ≤ 9 := W1.1.2.2.2.2.2
          have q : zB (C f 7) t = false := (W1.2.2.2.2.2 t (by omega) g2).2
          rw [zB_and g2, q, Bool.false_and])
        have hlt := s_setN_lt (zB (C f 7 &&& (I f 7 ^^^ -1))) 9
        unfold c_stop
        refine z_aload_0 d_Life_run_156 ?_
        refine z_aload_1 d_Life_run_157 ?_
        refine z_getIv d_Life_run_158 f_Life_37 (by first | assumption | exact zS0_at (by assumption) (by omega) | exact zS0_at rfl (by omega)) (by first | assumption | ((try simp (disch := omega) only [zu_same, zu_ne, zcp_ne, zfl_ne]); first | assumption | rfl)) ?_
        refine z_iload_3 d_Life_run_161 ?_
        refine z_isub d_Life_run_162 ?_
        refine z_putI d_Life_run_163 f_Life_70 (by first | assumption | exact zS0_at (by assumption) (by omega) | exact zS0_at rfl (by omega)) ?_
        refine z_aload_0 d_Life_run_166 ?_
        refine z_aload_1 d_Life_run_167 ?_
        refine z_getIv d_Life_run_168 f_Life_42 (by first | assumption | exact zS0_at (by assumption) (by omega) | exact zS0_at rfl (by omega)) (by first | assumption | ((try simp (disch := omega) only [zu_same, zu_ne, zcp_ne, zfl_ne]); first | assumption | rfl)) ?_
        refine z_iload_4 d_Life_run_171 ?_
        refine z_iconst (a := -1) d_Life_run_173 (by decide) ?_
        refine z_ixor d_Life_run_174 ?_
        refine z_iand d_Life_run_175 ?_
        rw [hb9]
        refine z_Si1 d_Life_run_176 k_Life_71 (t_JInt_bitCount hlt) ⟨Nat.le_of_ble_eq_true rfl, Nat.le_of_ble_eq_true rfl, Nat.le_of_ble_eq_true rfl, Nat.le_of_ble_eq_true rfl⟩ (Nat.le_of_ble_eq_true rfl) ?_
        intro r w hq
        obtain ⟨rfl, rfl⟩ := hq
        refine z_putI d_Life_run_179 f_Life_77 (by first | assumption | exact zS0_at (by assumption) (by omega) | exact zS0_at rfl (by omega)) ?_
        refine z_aload_0 d_Life_run_182 ?_
        refine z_aload_1 d_Life_run_183 ?_
        refine z_Vi0 d_Life_run_184 k_Life_45 (by first | assumption | exact zS0_at (by assumption) (by omega) | exact zS0_at rfl (by omega)) (t_Fen_gotByAll F (fenIn_c N1 (fun a g1 g2 => by rw [zu_row _ _ _ _ (by omega), zu_row _ _ _ _ (by omega)]))) ⟨Nat.le_of_ble_eq_true rfl, Nat.le_of_ble_eq_true rfl, Nat.le_of_ble_eq_true rfl, Nat.le_of_ble_eq_true rfl⟩ (Nat.le_of_ble_eq_true rfl) ?_
        intro r w hq
        obtain ⟨rfl, rfl⟩ := hq
        rw [zu_row _ _ _ _ (by omega), zu_row _ _ _ _ (by omega)]
        refine z_iload_5 d_Life_run_187 ?_
        refine z_isub d_Life_run_189 ?_
        refine z_putI d_Life_run_190 f_Life_78 (by first | assumption | exact zS0_at (by assumption) (by omega) | exact zS0_at rfl (by omega)) ?_
        refine z_retv d_Life_run_193 ?_
        refine ⟨?_, W⟩
        rw [← hb9]
      refine z_iload_6 d_Life_run_50 ?_
      refine z_ldc d_Life_run_52 c_Life_49 ?_
      rw [show (1000000 : Int32) = nI 1000000 by decide]
      refine z_icmp_ge (tgt := 156) d_Life_run_54 (by decide) (fun hb => ?_) (fun hb => ?_)
      · have hb := (nI_leI (by omega) (by omega)).mp hb
        obtain rfl : j = 1000000 := by omega
        exact fin hI
      · have hb : j < 1000000 := Nat.lt_of_not_le (fun q => hb (nI_le q (by omega)))
        rw [show 1000000 - j = (1000000 - (j + 1)) + 1 by omega, c_its, w4, w2, nI_clamp (by omega), nI_clamp (by omega)] at hI
        refine z_aload_0 d_Life_run_57 ?_
        refine z_getIv d_Life_run_58 f_Life_34 (by first | assumption | exact zS0_at (by assumption) (by omega) | exact zS0_at rfl (by omega)) (by first | assumption | ((try simp (disch := omega) only [zu_same, zu_ne, zcp_ne, zfl_ne]); first | assumption | rfl)) ?_
        refine z_if_lt (tgt := 156) d_Life_run_61 (by decide) (fun h => absurd h (nI_pos (by omega))) (fun _ => ?_)
        refine z_aload_0 d_Life_run_64 ?_
        refine z_getIv d_Life_run_65 f_Life_34 (by first | assumption | exact zS0_at (by assumption) (by omega) | exact zS0_at rfl (by omega)) (by first | assumption | ((try simp (disch := omega) only [zu_same, zu_ne, zcp_ne, zfl_ne]); first | assumption | rfl)) ?_
        refine z_aload_1 d_Life_run_68 ?_
        refine z_getR d_Life_run_69 f_Life_50 (by first | assumption | exact zS0_at (by assumption) (by omega) | exact zS0_at rfl (by omega)) (by first | assumption | exact zS0_at (by assumption) (by omega) | exact zS0_at rfl (by omega)) ?_
        refine z_getIv d_Life_run_72 f_Life_54 (by first | assumption | exact zS0_at (by assumption) (by omega) | exact zS0_at rfl (by omega)) (by first | assumption | ((try simp (disch := omega) only [zu_same, zu_ne, zcp_ne, zfl_ne]); first | assumption | rfl)) ?_
        refine z_icmp_ge (tgt := 156) d_Life_run_75 (by decide) (fun hc => ?_) (fun hc => ?_)
        · have hc := (nI_leI (by omega) (by omega)).mp hc
          rw [if_neg (by omega)] at hI
          exact fin hI
        · have hc : i < sz := Nat.lt_of_not_le (fun q => hc (nI_le q (by omega)))
          rw [if_pos hc] at hI
          have nxt := ih (j + 1) (by omega) (by omega) (c_it C f l) (lifeV_it W hl w4 hc) hI
          have hv := w3 i hc
          have tail : zA G y_Life_run prog_6_method_2_code 7 none (zRm 6 0 0) (zM G 0 0 (fun r w' => r = none ∧ (fun w => w = (c_stop I (c_its f l 1000000 C0) f l np, J, P, S) ∧ lifeV f l nt np nl nn sz (c_its f l 1000000 C0)) w')) 150 [some (.ref l), some (.ref f), some (.int (nI sd)), some (.int (I f 5)), some (.int (I f 7)), some (.int (s_sum (fun _ => true) (I (f + 4)) np)), some (.int (nI j))] [] (c_it C f l, J, P, S) 0 0 := by
            first | refine z_iinc_6 d_Life_run_150 rfl (zi_inc _) ?_ | refine z_iinc_6 d_Life_run_150 rfl rfl ?_
            refine z_goto (tgt := 50) d_Life_run_153 (by decide) ?_
            exact nxt
          unfold c_it at tail
          rw [w4, nI_clamp (by omega), w6, nI_clamp (by omega), w2] at tail
          refine z_aload_1 d_Life_run_78 ?_
          refine z_getR d_Life_run_79 f_Life_50 (by first | assumption | exact zS0_at (by assumption) (by omega) | exact zS0_at rfl (by omega)) (by first | assumption | exact zS0_at (by assumption) (by omega) | exact zS0_at rfl (by omega)) ?_
          refine z_getR d_Life_run_82 f_Life_57 (by first | assumption | exact zS0_at (by assumption) (by omega) | exact zS0_at rfl (by omega)) (by first | assumption | exact zS0_at (by assumption) (by omega) | exact zS0_at rfl (by omega)) ?_
          refine z_aload_0 d_Life_run_85 ?_
          refine z_getIv d_Life_run_86 f_Life_34 (by first | assumption | exact zS0_at (by assumption) (by omega) | exact zS0_at rfl (by omega)) (by first | assumption | ((try simp (disch := omega) only [zu_same, zu_ne, zcp_ne, zfl_ne]); first | assumption | rfl)) ?_
          first | refine z_ialdNv d_Life_run_89 (by first | assumption | exact zS0_at (by assumption) (by omega) | exact zS0_at rfl (by omega)) (by omega) (by first | decide | omega) (by first | assumption | ((try simp (disch := omega) only [zu_same, zu_ne, zcp_ne, zfl_ne]); first | assumption | rfl)) ?_ | refine z_iald d_Life_run_89 (by first | assumption | exact zS0_at (by assumption) (by omega) | exact zS0_at rfl (by omega)) (by first | assumption | exact zS0_at (by assumption) (by omega) | exact zS0_at rfl (by omega)) ?_
          refine z_bipush (a := nI 19) d_Life_run_90 (by decide) ?_
          refine z_icmp_ne (tgt := 106) d_Life_run_92 (by decide) (fun h19 => ?_) (fun h19 => ?_)
          · rw [if_neg h19] at tail
            refine z_aload_0 d_Life_run_106 ?_
            refine z_getIv d_Life_run_107 f_Life_21 (by first | assumption | exact zS0_at (by assumption) (by omega) | exact zS0_at rfl (by omega)) (by first | assumption | ((try simp (disch := omega) only [zu_same, zu_ne, zcp_ne, zfl_ne]); first | assumption | rfl)) ?_
            refine z_sipush (a := nI 300) d_Life_run_110 (by decide) ?_
            refine z_icmp_lt (tgt := 135) d_Life_run_113 (by decide) (fun h3 => ?_) (fun h3 => ?_)
            · have h3 := (nI_ltI (by omega) (by omega)).mp h3
              rw [if_pos h3] at tail
              refine z_aload_0 d_Life_run_135 ?_
              refine z_dup rfl d_Life_run_136 ?_
              refine z_getIv d_Life_run_137 f_Life_21 (by first | assumption | exact zS0_at (by assumption) (by omega) | exact zS0_at rfl (by omega)) (by first | assumption | ((try simp (disch := omega) only [zu_same, zu_ne, zcp_ne, zfl_ne]); first | assumption | rfl)) ?_
              refine z_iconst (a := nI 1) d_Life_run_140 (by decide) ?_
              first | refine z_iaddN d_Life_run_141 ?_ | refine z_iadd d_Life_run_141 ?_
              refine z_putI d_Life_run_142 f_Life_21 (by first | assumption | exact zS0_at (by assumption) (by omega) | exact zS0_at rfl (by omega)) ?_
              have e : ∀ a, a ≠ l → zu C l 1 (nI (s + 1)) a = C a := fun a ha => zu_row _ _ _ _ ha
              rw [nI_add] at tail
              have hv' : opv (n3 nt np nn) (sf (f + 12) (zu C l 1 (nI (s + 1)))) sz i := by
                have e2 : ∀ r, r ≤ 4 → sf (f + 12) (zu C l 1 (nI (s + 1))) r = sf (f + 12) C r := fun r hr => e (f + 12 + r) (by omega)
                unfold opv yst ybk at hv ⊢
                rw [e2 1 (by decide), e2 2 (by decide), e2 3 (by decide), e2 4 (by decide)]
                exact hv
              refine z_aload_0 d_Life_run_145 ?_
              refine z_aload_1 d_Life_run_146 ?_
              refine z_Vv1 d_Life_run_147 k_Life_66 (by first | assumption | exact zS0_at (by assumption) (by omega) | exact zS0_at rfl (by omega)) (t_Life_doStep (i := i) (s := d) (o := o) (sz := sz) h0 h9 h9s F (fenIn_c N1 (fun a _ g2 => e a (by omega))) hlf (by rw [zu_ne _ _ _ _ (by omega)]; exact w4) (by omega) (by rw [zu_ne _ _ _ _ (by omega)]; exact w5) hd (by rw [e f (by omega)]; exact ho2) ho (fmR_np W1) hv' (by rw [e _ (by omega)]; exact h19)) ⟨Nat.le_of_ble_eq_true rfl, Nat.le_of_ble_eq_true rfl, Nat.le_of_ble_eq_true rfl, Nat.le_of_ble_eq_true rfl⟩ (Nat.le_of_ble_eq_true rfl) ?_
              intro w hq
              obtain rfl := hq
              exact tail
            · have h3 : ¬ s < 300 := fun h => h3 (nI_lt h (by omega))
              rw [if_neg h3] at tail
              refine z_aload_0 d_Life_run_116 ?_
              refine z_iconst (a := nI 1) d_Life_run_117 (by decide) ?_
              refine z_putI d_Life_run_118 f_Life_28 (by first | assumption | exact zS0_at (by assumption) (by omega) | exact zS0_at rfl (by omega)) ?_
              refine z_aload_0 d_Life_run_121 ?_
              refine z_aload_1 d_Life_run_122 ?_
              refine z_getR d_Life_run_123 f_Life_50 (by first | assumption | exact zS0_at (by assumption) (by omega) | exact zS0_at rfl (by omega)) (by first | assumption | exact zS0_at (by assumption) (by omega) | exact zS0_at rfl (by omega)) ?_
              refine z_getIv d_Life_run_126 f_Life_54 (by first | assumption | exact zS0_at (by assumption) (by omega) | exact zS0_at rfl (by omega)) (by first | assumption | ((try simp (disch := omega) only [zu_same, zu_ne, zcp_ne, zfl_ne]); first | assumption | rfl)) ?_
              refine z_putI d_Life_run_129 f_Life_34 (by first | assumption | exact zS0_at (by assumption) (by omega) | exact zS0_at rfl (by omega)) ?_
              refine z_goto (tgt := 150) d_Life_run_132 (by decide) ?_
              exact tail
          · rw [if_pos h19] at tail
            obtain ⟨oo, hoo, hoo2⟩ := opv_19 hv h19
            have hoo2 : C (f + 16) i = nI oo := hoo2
            refine z_aload_0 d_Life_run_95 ?_
            refine z_aload_1 d_Life_run_96 ?_
            refine z_getR d_Life_run_97 f_Life_50 (by first | assumption | exact zS0_at (by assumption) (by omega) | exact zS0_at rfl (by omega)) (by first | assumption | exact zS0_at (by assumption) (by omega) | exact zS0_at rfl (by omega)) ?_
            refine z_Vv1 d_Life_run_100 k_Life_62 (by first | assumption | exact zS0_at (by assumption) (by omega) | exact zS0_at rfl (by omega)) (t_Life_doEnd h0 h9 h9s F hlf w4 (by omega) hoo2 (by omega)) ⟨Nat.le_of_ble_eq_true rfl, Nat.le_of_ble_eq_true rfl, Nat.le_of_ble_eq_true rfl, Nat.le_of_ble_eq_true rfl⟩ (Nat.le_of_ble_eq_true rfl) ?_
            intro w hq
            obtain rfl := hq
            refine z_goto (tgt := 150) d_Life_run_103 (by decide) ?_
            exact tail
  exact loop 1000001 0 (by omega) (by omega) C0 V rfl
end LF2
