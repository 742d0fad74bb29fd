/-! both pictures of a FEN side by side: what is done to both keeps them alike -/
section RL0
def zb (x : Int32) (t : Nat) : Int32 := if zB x t then nI 1 else nI 0
/-- the class's rows A of a FEN, and the reference's block R; nobody got more than g -/
def fmR (g : Nat) (A : Nat → Nat → Int32) (R : Nat → Int32) (nt np nl nn : Nat) : Prop :=
  ((A 0 1 = nI nt ∧ R 0 = nI nt ∧ nt ≤ 6) ∧ (A 0 2 = nI np ∧ R 1 = nI np ∧ np ≤ 7) ∧ (A 0 3 = nI nl ∧ R 2 = nI nl ∧ nl ≤ 12) ∧ (A 0 4 = nI nn ∧ R 3 = nI nn ∧ nn ≤ 9)) ∧
  ((∃ o, o ≤ 16 ∧ A 0 0 = nI o ∧ R 4 = nI o) ∧ R 5 = A 0 5) ∧
  (∀ k, k < nt → ∃ v, v ≤ 99 ∧ A 1 k = nI v ∧ R (6 + k) = nI v) ∧
  (∀ p, p < np → R (12 + p) = A 2 p ∧ R (19 + p) = A 3 p ∧ ∃ v, v ≤ g ∧ A 4 p = nI v ∧ R (26 + p) = nI v) ∧
  (∀ t, t < nn → (∃ k, k < nt ∧ A 5 t = nI k ∧ R (33 + t) = nI k) ∧ ((A 6 t = -1 ∨ ∃ p, p < np ∧ A 6 t = nI p) ∧ R (42 + t) = A 6 t) ∧ R (51 + t) = zb (A 0 6) t ∧ R (60 + t) = zb (A 0 7) t ∧ (zbit (A 0 7) t → A 6 t = -1) ∧ (R (69 + t) = A 7 t ∧ ∃ h, 0 < h ∧ h < 2 ^ np ∧ A 7 t = nI h) ∧ R (78 + t) = A 8 t) ∧
  (∀ t, nn ≤ t → t < 32 → zB (A 0 6) t = false ∧ zB (A 0 7) t = false)
variable {g nt np nl nn : Nat} {A : Nat → Nat → Int32} {I : Nat → Nat → Int32} {R : Nat → Int32}
theorem fmR_g {g' : Nat} (h : fmR g A R nt np nl nn) (hg : g ≤ g') : fmR g' A R nt np nl nn := by
  obtain ⟨h1, h2, h3, h4, h5⟩ := h
  refine ⟨h1, h2, h3, fun p hp => ?_, h5⟩
  obtain ⟨q1, q2, v, q3, q4⟩ := h4 p hp
  exact ⟨q1, q2, v, by omega, q4⟩
theorem nI_m1 {p : Nat} (h : p < 2 ^ 31) : ¬ nI p = -1 := by
  intro e
  have := nI_pos h
  rw [e] at this
  exact this (by decide)
theorem fmR_hand {t k p q : Nat} (ht : t < nn) (hk : A 5 t = nI k) (hk2 : k < nt) (hp : A 6 t = nI p) (hp2 : p < np) (hq : q < np) (h : fmR g A (I 150) nt np nl nn) : fmR (g + 99) (s_hand A 0 t k p q) (m_hand I t k p q 150) nt np nl nn := by
  obtain ⟨⟨⟨a1, r1, b1⟩, ⟨a2, r2, b2⟩, ⟨a3, r3, b3⟩, ⟨a4, r4, b4⟩⟩, ⟨⟨o, ob, ao, ro⟩, r5⟩, fw, fp, ft, fz⟩ := h
  unfold fmR s_hand m_hand
  refine ⟨⟨⟨?_, ?_, b1⟩, ⟨?_, ?_, b2⟩, ⟨?_, ?_, b3⟩, ⟨?_, ?_, b4⟩⟩, ⟨⟨o, ob, ?_, ?_⟩, ?_⟩, fun i hi => ?_, fun i hi => ?_, fun i hi => ?_, fun i hi hi2 => ?_⟩
  · simp (disch := omega) only [zu_same, zu_ne]
    exact a1
  · simp (disch := omega) only [zu_same, zu_ne]
    exact r1
  · simp (disch := omega) only [zu_same, zu_ne]
    exact a2
  · simp (disch := omega) only [zu_same, zu_ne]
    exact r2
  · simp (disch := omega) only [zu_same, zu_ne]
    exact a3
  · simp (disch := omega) only [zu_same, zu_ne]
    exact r3
  · simp (disch := omega) only [zu_same, zu_ne]
    exact a4
  · simp (disch := omega) only [zu_same, zu_ne]
    exact r4
  · simp (disch := omega) only [zu_same, zu_ne]
    exact ao
  · simp (disch := omega) only [zu_same, zu_ne]
    exact ro
  · simp (disch := omega) only [zu_same, zu_ne]
    rw [r5]
    rfl
  · simp (disch := omega) only [zu_same, zu_ne]
    exact fw i hi
  · obtain ⟨q1, q2, v, q3, q4, q5⟩ := fp i hi
    by_cases e : i = p
    · subst e
      obtain ⟨u, u1, u2, u3⟩ := fw k hk2
      simp (disch := omega) only [zu_same, zu_ne]
      exact ⟨q1, q2, v + u, by omega, by rw [q4, u2, nI_add], by rw [q5, u3, nI_add]⟩
    · simp (disch := omega) only [zu_same, zu_ne]
      exact ⟨q1, q2, v, by omega, q4, q5⟩
  · obtain ⟨c1, ⟨c2, c3⟩, c4, c5, c6, ⟨c7, hh, c8, c9, c10⟩, c11⟩ := ft i hi
    by_cases e : i = t
    · subst e
      simp (disch := omega) only [zu_same, zu_ne]
      refine ⟨c1, ⟨Or.inr ⟨q, hq, rfl⟩, trivial⟩, c4, c5, fun z => ?_, ⟨by rw [c7], hh ||| 2 ^ q, Nat.lt_of_lt_of_le c8 Nat.left_le_or, Nat.or_lt_two_pow c9 (Nat.pow_lt_pow_right (by decide) hq), by rw [c10, nx_sh q (by omega), nx_or]⟩, by rw [c11]; rfl⟩
      exact absurd (hp.symm.trans (c6 z)) (nI_m1 (by omega))
    · simp (disch := omega) only [zu_same, zu_ne]
      exact ⟨c1, ⟨c2, c3⟩, c4, c5, c6, ⟨c7, hh, c8, c9, c10⟩, c11⟩
  · simp (disch := omega) only [zu_same, zu_ne]
    exact fz i hi hi2
theorem fmR_find {t : Nat} (ht : t < nn) (h : fmR g A (I 150) nt np nl nn) : fmR g (zu (zu A 0 7 (A 0 7 ||| (nI 1 <<< (nI t &&& 31)))) 6 t (-1)) (zu (zu I 150 (60 + t) (nI 1)) 150 (42 + t) (-1) 150) nt np nl nn := by
  obtain ⟨⟨⟨a1, r1, b1⟩, ⟨a2, r2, b2⟩, ⟨a3, r3, b3⟩, ⟨a4, r4, b4⟩⟩, ⟨⟨o, ob, ao, ro⟩, r5⟩, fw, fp, ft, fz⟩ := h
  unfold fmR
  refine ⟨⟨⟨?_, ?_, b1⟩, ⟨?_, ?_, b2⟩, ⟨?_, ?_, b3⟩, ⟨?_, ?_, b4⟩⟩, ⟨⟨o, ob, ?_, ?_⟩, ?_⟩, fun i hi => ?_, fun i hi => ?_, fun i hi => ?_, fun i hi hi2 => ?_⟩
  · simp (disch := omega) only [zu_same, zu_ne]
    exact a1
  · simp (disch := omega) only [zu_same, zu_ne]
    exact r1
  · simp (disch := omega) only [zu_same, zu_ne]
    exact a2
  · simp (disch := omega) only [zu_same, zu_ne]
    exact r2
  · simp (disch := omega) only [zu_same, zu_ne]
    exact a3
  · simp (disch := omega) only [zu_same, zu_ne]
    exact r3
  · simp (disch := omega) only [zu_same, zu_ne]
    exact a4
  · simp (disch := omega) only [zu_same, zu_ne]
    exact r4
  · simp (disch := omega) only [zu_same, zu_ne]
    exact ao
  · simp (disch := omega) only [zu_same, zu_ne]
    exact ro
  · simp (disch := omega) only [zu_same, zu_ne]
    exact r5
  · simp (disch := omega) only [zu_same, zu_ne]
    exact fw i hi
  · simp (disch := omega) only [zu_same, zu_ne]
    exact fp i hi
  · obtain ⟨c1, ⟨c2, c3⟩, c4, c5, c6, c7, c8⟩ := ft i hi
    have hz : zB (A 0 7 ||| (nI 1 <<< (nI t &&& 31))) i = (zB (A 0 7) i || decide (i = t)) := by rw [zB_or (by omega), zB_sh (by omega) (by omega)]
    by_cases e : i = t
    · subst e
      simp (disch := omega) only [zu_same, zu_ne]
      exact ⟨c1, ⟨Or.inl trivial, trivial⟩, c4, by simp [zb, hz], fun _ => trivial, c7, c8⟩
    · simp (disch := omega) only [zu_same, zu_ne]
      refine ⟨c1, ⟨c2, c3⟩, c4, by rw [c5]; simp [zb, hz, e], fun z => c6 ?_, c7, c8⟩
      rw [zbit, hz] at z
      simpa [e] using z
  · simp (disch := omega) only [zu_same, zu_ne]
    refine ⟨(fz i hi hi2).1, ?_⟩
    rw [zB_or hi2, zB_sh (by omega) hi2, (fz i hi hi2).2]
    simp
    omega
theorem fmR_turn {p k : Nat} (hp : p < np) (h : fmR g A (I 150) nt np nl nn) : fmR g (zu A 2 p (A 2 p ^^^ (nI 1 <<< (nI k &&& 31)))) (zu I 150 (12 + p) (I 150 (12 + p) ^^^ (nI 1 <<< (nI k &&& 31))) 150) nt np nl nn := by
  obtain ⟨⟨⟨a1, r1, b1⟩, ⟨a2, r2, b2⟩, ⟨a3, r3, b3⟩, ⟨a4, r4, b4⟩⟩, ⟨⟨o, ob, ao, ro⟩, r5⟩, fw, fp, ft, fz⟩ := h
  unfold fmR
  refine ⟨⟨⟨?_, ?_, b1⟩, ⟨?_, ?_, b2⟩, ⟨?_, ?_, b3⟩, ⟨?_, ?_, b4⟩⟩, ⟨⟨o, ob, ?_, ?_⟩, ?_⟩, fun i hi => ?_, fun i hi => ?_, fun i hi => ?_, fun i hi hi2 => ?_⟩
  · simp (disch := omega) only [zu_same, zu_ne]
    exact a1
  · simp (disch := omega) only [zu_same, zu_ne]
    exact r1
  · simp (disch := omega) only [zu_same, zu_ne]
    exact a2
  · simp (disch := omega) only [zu_same, zu_ne]
    exact r2
  · simp (disch := omega) only [zu_same, zu_ne]
    exact a3
  · simp (disch := omega) only [zu_same, zu_ne]
    exact r3
  · simp (disch := omega) only [zu_same, zu_ne]
    exact a4
  · simp (disch := omega) only [zu_same, zu_ne]
    exact r4
  · simp (disch := omega) only [zu_same, zu_ne]
    exact ao
  · simp (disch := omega) only [zu_same, zu_ne]
    exact ro
  · simp (disch := omega) only [zu_same, zu_ne]
    exact r5
  · simp (disch := omega) only [zu_same, zu_ne]
    exact fw i hi
  · obtain ⟨q1, q2⟩ := fp i hi
    by_cases e : i = p
    · subst e
      simp (disch := omega) only [zu_same, zu_ne]
      exact ⟨by rw [q1], q2⟩
    · simp (disch := omega) only [zu_same, zu_ne]
      exact ⟨q1, q2⟩
  · simp (disch := omega) only [zu_same, zu_ne]
    exact ft i hi
  · simp (disch := omega) only [zu_same, zu_ne]
    exact fz i hi hi2
theorem fmR_put {t p : Nat} (ht : t < nn) (hp : p < np) (hf : ¬ zbit (A 0 7) t) (h : fmR g A (I 150) nt np nl nn) : fmR g (zu (zu A 6 t (nI p)) 7 t (A 7 t ||| (nI 1 <<< (nI p &&& 31)))) (zu (zu I 150 (42 + t) (nI p)) 150 (69 + t) (I 150 (69 + t) ||| (nI 1 <<< (nI p &&& 31))) 150) nt np nl nn := by
  obtain ⟨⟨⟨a1, r1, b1⟩, ⟨a2, r2, b2⟩, ⟨a3, r3, b3⟩, ⟨a4, r4, b4⟩⟩, ⟨⟨o, ob, ao, ro⟩, r5⟩, fw, fp, ft, fz⟩ := h
  unfold fmR
  refine ⟨⟨⟨?_, ?_, b1⟩, ⟨?_, ?_, b2⟩, ⟨?_, ?_, b3⟩, ⟨?_, ?_, b4⟩⟩, ⟨⟨o, ob, ?_, ?_⟩, ?_⟩, fun i hi => ?_, fun i hi => ?_, fun i hi => ?_, fun i hi hi2 => ?_⟩
  · simp (disch := omega) only [zu_same, zu_ne]
    exact a1
  · simp (disch := omega) only [zu_same, zu_ne]
    exact r1
  · simp (disch := omega) only [zu_same, zu_ne]
    exact a2
  · simp (disch := omega) only [zu_same, zu_ne]
    exact r2
  · simp (disch := omega) only [zu_same, zu_ne]
    exact a3
  · simp (disch := omega) only [zu_same, zu_ne]
    exact r3
  · simp (disch := omega) only [zu_same, zu_ne]
    exact a4
  · simp (disch := omega) only [zu_same, zu_ne]
    exact r4
  · simp (disch := omega) only [zu_same, zu_ne]
    exact ao
  · simp (disch := omega) only [zu_same, zu_ne]
    exact ro
  · simp (disch := omega) only [zu_same, zu_ne]
    exact r5
  · simp (disch := omega) only [zu_same, zu_ne]
    exact fw i hi
  · simp (disch := omega) only [zu_same, zu_ne]
    exact fp i hi
  · obtain ⟨c1, ⟨c2, c3⟩, c4, c5, c6, ⟨c7, hh, c8, c9, c10⟩, c11⟩ := ft i hi
    by_cases e : i = t
    · subst e
      simp (disch := omega) only [zu_same, zu_ne]
      exact ⟨c1, ⟨Or.inr ⟨p, hp, rfl⟩, trivial⟩, c4, c5, fun z => absurd z hf, ⟨by rw [c7], hh ||| 2 ^ p, Nat.lt_of_lt_of_le c8 Nat.left_le_or, Nat.or_lt_two_pow c9 (Nat.pow_lt_pow_right (by decide) hp), by rw [c10, nx_sh p (by omega), nx_or]⟩, c11⟩
    · simp (disch := omega) only [zu_same, zu_ne]
      exact ⟨c1, ⟨c2, c3⟩, c4, c5, c6, ⟨c7, hh, c8, c9, c10⟩, c11⟩
  · simp (disch := omega) only [zu_same, zu_ne]
    exact fz i hi hi2
theorem fmR_drop {t : Nat} (ht : t < nn) (h : fmR g A (I 150) nt np nl nn) : fmR g (zu A 6 t (-1)) (zu I 150 (42 + t) (-1) 150) nt np nl nn := by
  obtain ⟨⟨⟨a1, r1, b1⟩, ⟨a2, r2, b2⟩, ⟨a3, r3, b3⟩, ⟨a4, r4, b4⟩⟩, ⟨⟨o, ob, ao, ro⟩, r5⟩, fw, fp, ft, fz⟩ := h
  unfold fmR
  refine ⟨⟨⟨?_, ?_, b1⟩, ⟨?_, ?_, b2⟩, ⟨?_, ?_, b3⟩, ⟨?_, ?_, b4⟩⟩, ⟨⟨o, ob, ?_, ?_⟩, ?_⟩, fun i hi => ?_, fun i hi => ?_, fun i hi => ?_, fun i hi hi2 => ?_⟩
  · simp (disch := omega) only [zu_same, zu_ne]
    exact a1
  · simp (disch := omega) only [zu_same, zu_ne]
    exact r1
  · simp (disch := omega) only [zu_same, zu_ne]
    exact a2
  · simp (disch := omega) only [zu_same, zu_ne]
    exact r2
  · simp (disch := omega) only [zu_same, zu_ne]
    exact a3
  · simp (disch := omega) only [zu_same, zu_ne]
    exact r3
  · simp (disch := omega) only [zu_same, zu_ne]
    exact a4
  · simp (disch := omega) only [zu_same, zu_ne]
    exact r4
  · simp (disch := omega) only [zu_same, zu_ne]
    exact ao
  · simp (disch := omega) only [zu_same, zu_ne]
    exact ro
  · simp (disch := omega) only [zu_same, zu_ne]
    exact r5
  · simp (disch := omega) only [zu_same, zu_ne]
    exact fw i hi
  · simp (disch := omega) only [zu_same, zu_ne]
    exact fp i hi
  · obtain ⟨c1, ⟨c2, c3⟩, c4, c5, c6, c7⟩ := ft i hi
    by_cases e : i = t
    · subst e
      simp (disch := omega) only [zu_same, zu_ne]
      exact ⟨c1, ⟨Or.inl trivial, trivial⟩, c4, c5, fun _ => trivial, c7⟩
    · simp (disch := omega) only [zu_same, zu_ne]
      exact ⟨c1, ⟨c2, c3⟩, c4, c5, c6, c7⟩
  · simp (disch := omega) only [zu_same, zu_ne]
    exact fz i hi hi2
theorem fmR_strike0 {k p : Nat} (hn : nn < 9) (hk : k < nt) (hp : p < np) (h : fmR g A (I 150) nt np nl nn) : fmR g (zu (s_addTin A 0 nn (nI k) (nI p)) 0 4 (nI (nn + 1))) (m_strikes I 0 nn (nI k) (nI p) (nI 0) 150) nt np nl (nn + 1) := by
  obtain ⟨⟨⟨a1, r1, b1⟩, ⟨a2, r2, b2⟩, ⟨a3, r3, b3⟩, ⟨a4, r4, b4⟩⟩, ⟨⟨o, ob, ao, ro⟩, r5⟩, fw, fp, ft, fz⟩ := h
  unfold fmR m_strikes s_addTin
  refine ⟨⟨⟨?_, ?_, b1⟩, ⟨?_, ?_, b2⟩, ⟨?_, ?_, b3⟩, ⟨?_, ?_, by omega⟩⟩, ⟨⟨o, ob, ?_, ?_⟩, ?_⟩, fun i hi => ?_, fun i hi => ?_, fun i hi => ?_, fun i hi hi2 => ?_⟩
  · simp (disch := omega) only [zu_same, zu_ne]
    exact a1
  · simp (disch := omega) only [zu_same, zu_ne]
    exact r1
  · simp (disch := omega) only [zu_same, zu_ne]
    exact a2
  · simp (disch := omega) only [zu_same, zu_ne]
    exact r2
  · simp (disch := omega) only [zu_same, zu_ne]
    exact a3
  · simp (disch := omega) only [zu_same, zu_ne]
    exact r3
  · simp (disch := omega) only [zu_same, zu_ne]
  · simp (disch := omega) only [Nat.mul_zero, Nat.zero_add, zu_same, zu_ne]
  · simp (disch := omega) only [zu_same, zu_ne]
    exact ao
  · simp (disch := omega) only [zu_same, zu_ne]
    exact ro
  · simp (disch := omega) only [zu_same, zu_ne]
    exact r5
  · simp (disch := omega) only [zu_same, zu_ne]
    exact fw i hi
  · simp (disch := omega) only [zu_same, zu_ne]
    exact fp i hi
  · by_cases e : i = nn
    · subst e
      simp (disch := omega) only [Nat.mul_zero, Nat.zero_add, zu_same, zu_ne]
      have f := fz i (Nat.le_refl _) (by omega)
      refine ⟨⟨k, hk, rfl, rfl⟩, ⟨Or.inr ⟨p, hp, rfl⟩, trivial⟩, ?_, ?_, fun z => ?_, ⟨trivial, 2 ^ p, Nat.pow_pos (by decide), Nat.pow_lt_pow_right (by decide) hp, nx_sh p (by omega)⟩, trivial⟩
      · unfold zb; rw [f.1]; rfl
      · unfold zb; rw [f.2]; rfl
      · rw [zbit, f.2] at z; cases z
    · simp (disch := omega) only [Nat.mul_zero, Nat.zero_add, zu_same, zu_ne]
      have := ft i (by omega)
      skip
      exact this
  · simp (disch := omega) only [zu_same, zu_ne]
    have f := fz i (by omega) hi2
    skip
    exact f
theorem fmR_strike1 {k p : Nat} (hn : nn < 9) (hk : k < nt) (hp : p < np) (h : fmR g A (I 150) nt np nl nn) : fmR g (zu (zu (s_addTin A 0 nn (nI k) (nI p)) 0 6 (A 0 6 ||| (nI 1 <<< (nI nn &&& 31)))) 0 4 (nI (nn + 1))) (m_strikes I 0 nn (nI k) (nI p) (nI 1) 150) nt np nl (nn + 1) := by
  obtain ⟨⟨⟨a1, r1, b1⟩, ⟨a2, r2, b2⟩, ⟨a3, r3, b3⟩, ⟨a4, r4, b4⟩⟩, ⟨⟨o, ob, ao, ro⟩, r5⟩, fw, fp, ft, fz⟩ := h
  have hz : ∀ i, i < 32 → zB (A 0 6 ||| (nI 1 <<< (nI nn &&& 31))) i = (zB (A 0 6) i || decide (i = nn)) := fun i h => by rw [zB_or h, zB_sh (by omega) h]
  unfold fmR m_strikes s_addTin
  refine ⟨⟨⟨?_, ?_, b1⟩, ⟨?_, ?_, b2⟩, ⟨?_, ?_, b3⟩, ⟨?_, ?_, by omega⟩⟩, ⟨⟨o, ob, ?_, ?_⟩, ?_⟩, fun i hi => ?_, fun i hi => ?_, fun i hi => ?_, fun i hi hi2 => ?_⟩
  · simp (disch := omega) only [zu_same, zu_ne]
    exact a1
  · simp (disch := omega) only [zu_same, zu_ne]
    exact r1
  · simp (disch := omega) only [zu_same, zu_ne]
    exact a2
  · simp (disch := omega) only [zu_same, zu_ne]
    exact r2
  · simp (disch := omega) only [zu_same, zu_ne]
    exact a3
  · simp (disch := omega) only [zu_same, zu_ne]
    exact r3
  · simp (disch := omega) only [zu_same, zu_ne]
  · simp (disch := omega) only [Nat.mul_zero, Nat.zero_add, zu_same, zu_ne]
  · simp (disch := omega) only [zu_same, zu_ne]
    exact ao
  · simp (disch := omega) only [zu_same, zu_ne]
    exact ro
  · simp (disch := omega) only [zu_same, zu_ne]
    exact r5
  · simp (disch := omega) only [zu_same, zu_ne]
    exact fw i hi
  · simp (disch := omega) only [zu_same, zu_ne]
    exact fp i hi
  · by_cases e : i = nn
    · subst e
      simp (disch := omega) only [Nat.mul_zero, Nat.zero_add, zu_same, zu_ne]
      have f := fz i (Nat.le_refl _) (by omega)
      refine ⟨⟨k, hk, rfl, rfl⟩, ⟨Or.inr ⟨p, hp, rfl⟩, trivial⟩, ?_, ?_, fun z => ?_, ⟨trivial, 2 ^ p, Nat.pow_pos (by decide), Nat.pow_lt_pow_right (by decide) hp, nx_sh p (by omega)⟩, trivial⟩
      · unfold zb; rw [hz i (by omega)]; simp
      · unfold zb; rw [f.2]; rfl
      · rw [zbit, f.2] at z; cases z
    · simp (disch := omega) only [Nat.mul_zero, Nat.zero_add, zu_same, zu_ne]
      have := ft i (by omega)
      rw [zb, hz i (by omega), decide_eq_false e, Bool.or_false]
      exact this
  · simp (disch := omega) only [zu_same, zu_ne]
    have f := fz i (by omega) hi2
    rw [hz i hi2, decide_eq_false (by omega), Bool.or_false]
    exact f
theorem fmR_lane {p q : Nat} (hl : nl < 12) (hp : p < np) (hq : q < np) (hpq : p ≠ q) (h : fmR g A (I 150) nt np nl nn) : fmR g (zu (zu (zu A 3 p (A 3 p ||| (nI 1 <<< (nI q &&& 31)))) 3 q (A 3 q ||| (nI 1 <<< (nI p &&& 31)))) 0 3 (nI (nl + 1))) (zu (zu (zu I 150 (359 * 0 + 19 + p) (I 150 (359 * 0 + 19 + p) ||| (nI 1 <<< (nI q &&& 31)))) 150 (359 * 0 + 19 + q) (I 150 (359 * 0 + 19 + q) ||| (nI 1 <<< (nI p &&& 31)))) 150 (359 * 0 + 2) (I 150 (359 * 0 + 2) + nI 1) 150) nt np (nl + 1) nn := by
  obtain ⟨⟨⟨a1, r1, b1⟩, ⟨a2, r2, b2⟩, ⟨a3, r3, b3⟩, ⟨a4, r4, b4⟩⟩, ⟨⟨o, ob, ao, ro⟩, r5⟩, fw, fp, ft, fz⟩ := h
  unfold fmR
  refine ⟨⟨⟨?_, ?_, b1⟩, ⟨?_, ?_, b2⟩, ⟨?_, ?_, by omega⟩, ⟨?_, ?_, b4⟩⟩, ⟨⟨o, ob, ?_, ?_⟩, ?_⟩, fun i hi => ?_, fun i hi => ?_, fun i hi => ?_, fun i hi hi2 => ?_⟩
  · simp (disch := omega) only [zu_same, zu_ne]
    exact a1
  · simp (disch := omega) only [zu_same, zu_ne]
    exact r1
  · simp (disch := omega) only [zu_same, zu_ne]
    exact a2
  · simp (disch := omega) only [zu_same, zu_ne]
    exact r2
  · simp (disch := omega) only [zu_same, zu_ne]
  · simp (disch := omega) only [Nat.mul_zero, Nat.zero_add, zu_same, zu_ne]
    rw [r3, nI_add]
  · simp (disch := omega) only [zu_same, zu_ne]
    exact a4
  · simp (disch := omega) only [zu_same, zu_ne]
    exact r4
  · simp (disch := omega) only [zu_same, zu_ne]
    exact ao
  · simp (disch := omega) only [zu_same, zu_ne]
    exact ro
  · simp (disch := omega) only [zu_same, zu_ne]
    exact r5
  · simp (disch := omega) only [zu_same, zu_ne]
    exact fw i hi
  · obtain ⟨q1, q2, q3⟩ := fp i hi
    by_cases e : i = p
    · subst e
      simp (disch := omega) only [Nat.mul_zero, Nat.zero_add, zu_same, zu_ne]
      exact ⟨q1, by rw [q2], q3⟩
    · by_cases e2 : i = q
      · subst e2
        simp (disch := omega) only [Nat.mul_zero, Nat.zero_add, zu_same, zu_ne]
        exact ⟨q1, by rw [q2], q3⟩
      · simp (disch := omega) only [Nat.mul_zero, Nat.zero_add, zu_same, zu_ne]
        exact ⟨q1, q2, q3⟩
  · simp (disch := omega) only [zu_same, zu_ne]
    exact ft i hi
  · simp (disch := omega) only [zu_same, zu_ne]
    exact fz i hi hi2
theorem fmR_price {k v : Nat} (hk : k < nt) (hv : v ≤ 99) (h : fmR g A (I 150) nt np nl nn) : fmR g (zu A 1 k (nI v)) (zu I 150 (6 + k) (nI v) 150) nt np nl nn := by
  obtain ⟨⟨⟨a1, r1, b1⟩, ⟨a2, r2, b2⟩, ⟨a3, r3, b3⟩, ⟨a4, r4, b4⟩⟩, ⟨⟨o, ob, ao, ro⟩, r5⟩, fw, fp, ft, fz⟩ := h
  unfold fmR
  refine ⟨⟨⟨?_, ?_, b1⟩, ⟨?_, ?_, b2⟩, ⟨?_, ?_, b3⟩, ⟨?_, ?_, b4⟩⟩, ⟨⟨o, ob, ?_, ?_⟩, ?_⟩, fun i hi => ?_, fun i hi => ?_, fun i hi => ?_, fun i hi hi2 => ?_⟩
  · simp (disch := omega) only [zu_same, zu_ne]
    exact a1
  · simp (disch := omega) only [zu_same, zu_ne]
    exact r1
  · simp (disch := omega) only [zu_same, zu_ne]
    exact a2
  · simp (disch := omega) only [zu_same, zu_ne]
    exact r2
  · simp (disch := omega) only [zu_same, zu_ne]
    exact a3
  · simp (disch := omega) only [zu_same, zu_ne]
    exact r3
  · simp (disch := omega) only [zu_same, zu_ne]
    exact a4
  · simp (disch := omega) only [zu_same, zu_ne]
    exact r4
  · simp (disch := omega) only [zu_same, zu_ne]
    exact ao
  · simp (disch := omega) only [zu_same, zu_ne]
    exact ro
  · simp (disch := omega) only [zu_same, zu_ne]
    exact r5
  · by_cases e : i = k
    · subst e
      simp (disch := omega) only [zu_same, zu_ne]
      exact ⟨v, hv, rfl, rfl⟩
    · simp (disch := omega) only [zu_same, zu_ne]
      exact fw i hi
  · simp (disch := omega) only [zu_same, zu_ne]
    exact fp i hi
  · simp (disch := omega) only [zu_same, zu_ne]
    exact ft i hi
  · simp (disch := omega) only [zu_same, zu_ne]
    exact fz i hi hi2
theorem fmR_rule {v : Nat} (hv : v ≤ 16) (h : fmR g A (I 150) nt np nl nn) : fmR g (zu A 0 0 (nI v)) (zu I 150 4 (nI v) 150) nt np nl nn := by
  obtain ⟨⟨⟨a1, r1, b1⟩, ⟨a2, r2, b2⟩, ⟨a3, r3, b3⟩, ⟨a4, r4, b4⟩⟩, ⟨⟨o, ob, ao, ro⟩, r5⟩, fw, fp, ft, fz⟩ := h
  unfold fmR
  refine ⟨⟨⟨?_, ?_, b1⟩, ⟨?_, ?_, b2⟩, ⟨?_, ?_, b3⟩, ⟨?_, ?_, b4⟩⟩, ⟨⟨v, hv, ?_, ?_⟩, ?_⟩, fun i hi => ?_, fun i hi => ?_, fun i hi => ?_, fun i hi hi2 => ?_⟩
  · simp (disch := omega) only [zu_same, zu_ne]
    exact a1
  · simp (disch := omega) only [zu_same, zu_ne]
    exact r1
  · simp (disch := omega) only [zu_same, zu_ne]
    exact a2
  · simp (disch := omega) only [zu_same, zu_ne]
    exact r2
  · simp (disch := omega) only [zu_same, zu_ne]
    exact a3
  · simp (disch := omega) only [zu_same, zu_ne]
    exact r3
  · simp (disch := omega) only [zu_same, zu_ne]
    exact a4
  · simp (disch := omega) only [zu_same, zu_ne]
    exact r4
  · simp (disch := omega) only [zu_same, zu_ne]
  · simp (disch := omega) only [zu_same, zu_ne]
  · simp (disch := omega) only [zu_same, zu_ne]
    exact r5
  · simp (disch := omega) only [zu_same, zu_ne]
    exact fw i hi
  · simp (disch := omega) only [zu_same, zu_ne]
    exact fp i hi
  · simp (disch := omega) only [zu_same, zu_ne]
    exact ft i hi
  · simp (disch := omega) only [zu_same, zu_ne]
    exact fz i hi hi2
end RL0
