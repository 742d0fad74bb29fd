/-! who is reached: both ways to find out -/
section GR0
variable {mt : Nat → Int32} {tk : Int32} {np n p q : Nat} {s C x y : Int32}
theorem s_or_bit {b : Nat → Bool} {v : Nat → Int32} {i : Nat} (hi : i < 32) : ∀ m, zbit (s_or b v m) i ↔ ∃ j, j < m ∧ b j = true ∧ zbit (v j) i := by
  intro m
  induction m with
  | zero =>
    constructor
    · intro h
      rw [s_or, zbit, zB_nI hi] at h
      simp at h
    · rintro ⟨j, hj, -⟩; exact absurd hj (Nat.not_lt_zero _)
  | succ m ih =>
    rw [s_or]
    split
    · rename_i hb
      rw [zbit, zB_or hi, Bool.or_eq_true]
      constructor
      · rintro (h | h)
        · obtain ⟨j, h1, h2⟩ := ih.mp h
          exact ⟨j, by omega, h2⟩
        · exact ⟨m, by omega, hb, h⟩
      · rintro ⟨j, h1, h2, h3⟩
        by_cases e : j = m
        · subst e; exact Or.inr h3
        · exact Or.inl (ih.mpr ⟨j, by omega, h2, h3⟩)
    · rename_i hb
      rw [ih]
      constructor
      · rintro ⟨j, h1, h2⟩; exact ⟨j, by omega, h2⟩
      · rintro ⟨j, h1, h2, h3⟩
        by_cases e : j = m
        · subst e; exact absurd h2 hb
        · exact ⟨j, by omega, h2, h3⟩
/-- one set within another -/
def sub32 (x y : Int32) : Prop := ∀ i, i < 32 → zbit x i → zbit y i
theorem sub32_a (h1 : sub32 x y) (h2 : sub32 y x) : x = y := by
  apply zB_ext
  intro i hi
  have a := h1 i hi
  have b := h2 i hi
  unfold zbit at a b
  cases hx : zB x i <;> cases hy : zB y i
  · rfl
  · rw [hx, hy] at b; exact absurd (b rfl) (by decide)
  · rw [hx, hy] at a; exact absurd (a rfl) (by decide)
  · rfl
theorem zbit_or {i : Nat} (hi : i < 32) : zbit (x ||| y) i ↔ zbit x i ∨ zbit y i := by rw [zbit, zB_or hi, Bool.or_eq_true]
theorem zbit_and {i : Nat} (hi : i < 32) : zbit (x &&& y) i ↔ zbit x i ∧ zbit y i := by rw [zbit, zB_and hi, Bool.and_eq_true]
def rF1 (mt : Nat → Int32) (np : Nat) (tk r : Int32) : Int32 := r ||| (s_or (zB r) mt np &&& tk)
theorem rch_s {r0 : Int32} : s_rch mt np tk r0 (n + 1) = rF1 mt np tk (s_rch mt np tk r0 n) := rfl
theorem rF1_bit {i : Nat} (hi : i < 32) : zbit (rF1 mt np tk x) i ↔ zbit x i ∨ ∃ j, j < np ∧ zbit x j ∧ zbit (mt j &&& tk) i := by
  unfold rF1
  rw [zbit_or hi, zbit_and hi, s_or_bit hi]
  constructor
  · rintro (h | ⟨⟨j, h1, h2, h3⟩, h4⟩)
    · exact Or.inl h
    · exact Or.inr ⟨j, h1, h2, (zbit_and hi).mpr ⟨h3, h4⟩⟩
  · rintro (h | ⟨j, h1, h2, h3⟩)
    · exact Or.inl h
    · obtain ⟨h3, h4⟩ := (zbit_and hi).mp h3
      exact Or.inr ⟨⟨j, h1, h2, h3⟩, h4⟩
/-- nobody beyond -/
def in7 (x : Int32) : Prop := ∀ i, 7 ≤ i → i < 32 → zB x i = false
theorem in7_N (h : in7 x) : ∃ m, m < 128 ∧ x = nI m := by
  refine ⟨s_setN (zB x) 7, s_setN_lt _ 7, ?_⟩
  apply zB_ext
  intro i hi
  rw [zB_nI hi, s_setN_bit]
  by_cases h7 : i < 7
  · simp [h7]
  · rw [h i (by omega) hi]; simp [h7]
theorem in7_F (hx : in7 x) (ht : in7 tk) : in7 (rF1 mt np tk x) := by
  intro i h1 h2
  unfold rF1
  rw [zB_or h2, zB_and h2, hx i h1 h2, ht i h1 h2, Bool.and_false]; rfl
theorem in7_set {b : Nat → Bool} (hn : np ≤ 7) : in7 (s_set b np) := by
  intro i h1 h2
  rw [s_set_bit _ h2 (by omega), decide_eq_false (by omega)]; rfl
theorem in7_sh (hp : p < 7) : in7 (nI 1 <<< (nI p &&& 31)) := by
  intro i h1 h2
  rw [zB_sh (by omega) h2, decide_eq_false (by omega)]
theorem in7_rch {r0 : Int32} (h0 : in7 r0) (ht : in7 tk) : ∀ n, in7 (s_rch mt np tk r0 n) := by
  intro n
  induction n with
  | zero => exact h0
  | succ n ih => rw [rch_s]; exact in7_F ih ht
theorem pc_sub : ∀ a, a < 128 → ∀ b, b < 128 → a ||| b = b → a ≠ b → pcN a < pcN b := by decide +kernel
theorem rch_grow {r0 : Int32} : sub32 (s_rch mt np tk r0 n) (s_rch mt np tk r0 (n + 1)) := fun i hi h => by
  rw [rch_s]
  exact (rF1_bit hi).mpr (Or.inl h)
theorem rch_stay {r0 : Int32} (h : s_rch mt np tk r0 (n + 1) = s_rch mt np tk r0 n) : ∀ m, s_rch mt np tk r0 (n + m) = s_rch mt np tk r0 n := by
  intro m
  induction m with
  | zero => rfl
  | succ m ih => rw [show n + (m + 1) = n + m + 1 by omega, rch_s, ih, ← rch_s, h]
theorem pc_one : ∀ p, p < 7 → pcN (2 ^ p) = 1 := by decide +kernel
theorem rch_6 (hp : p < 7) (ht : in7 tk) : s_rch mt np tk (nI 1 <<< (nI p &&& 31)) 7 = s_rch mt np tk (nI 1 <<< (nI p &&& 31)) 6 := by
  by_cases h : ∃ n, n ≤ 6 ∧ s_rch mt np tk (nI 1 <<< (nI p &&& 31)) (n + 1) = s_rch mt np tk (nI 1 <<< (nI p &&& 31)) n
  · obtain ⟨n, hn, he⟩ := h
    have a := rch_stay he (7 - n)
    have b := rch_stay he (6 - n)
    rw [show n + (7 - n) = 7 by omega] at a
    rw [show n + (6 - n) = 6 by omega] at b
    rw [a, b]
  · have key : ∀ n, n ≤ 7 → ∃ m, m < 128 ∧ s_rch mt np tk (nI 1 <<< (nI p &&& 31)) n = nI m ∧ n + 1 ≤ pcN m := by
      intro n
      induction n with
      | zero =>
        intro _
        refine ⟨2 ^ p, Nat.pow_lt_pow_right (n := 7) (by decide) hp, ?_, ?_⟩
        · show nI 1 <<< (nI p &&& 31) = _
          exact nx_sh p (by omega)
        · rw [pc_one p hp]; exact Nat.le_refl _
      | succ n ih =>
        intro hn
        obtain ⟨m, m1, m2, m3⟩ := ih (by omega)
        obtain ⟨m', m1', m2'⟩ := in7_N (in7_rch (mt := mt) (np := np) (in7_sh hp) ht (n + 1))
        have hs := rch_grow (mt := mt) (np := np) (tk := tk) (n := n) (r0 := nI 1 <<< (nI p &&& 31))
        rw [m2, m2'] at hs
        have hor : m ||| m' = m' := by
          apply Nat.eq_of_testBit_eq
          intro i
          rw [Nat.testBit_or]
          by_cases hi : i < 32
          · have q := hs i hi
            unfold zbit at q
            rw [zB_nI hi, zB_nI hi] at q
            cases h1 : m.testBit i <;> cases h2 : m'.testBit i
            · rfl
            · rfl
            · rw [h1, h2] at q; exact absurd (q rfl) (by decide)
            · rfl
          · rw [Nat.testBit_lt_two_pow (Nat.lt_of_lt_of_le m1 (Nat.pow_le_pow_right (n := 2) (i := 7) (j := i) (by decide) (by omega)))]; rfl
        have hne : m ≠ m' := fun e => h ⟨n, by omega, by rw [m2, m2', e]⟩
        have := pc_sub m m1 m' m1' hor hne
        exact ⟨m', m1', m2', by omega⟩
    obtain ⟨m, m1, m2, m3⟩ := key 7 (by omega)
    have := pc_le m m1
    omega
/-- from one set on, in place -/
def g_in (mt : Nat → Int32) (tk : Int32) : Nat → Int32 → Int32
  | 0, s => s
  | j + 1, s => if zB (g_in mt tk j s) j then g_in mt tk j s ||| (mt j &&& tk) else g_in mt tk j s
def g_rd (mt : Nat → Int32) (tk : Int32) (np : Nat) : Nat → Int32 → Int32
  | 0, s => s
  | n + 1, s => g_in mt tk np (g_rd mt tk np n s)
theorem g_in_m : ∀ m, sub32 s (g_in mt tk m s) := by
  intro m
  induction m with
  | zero => exact fun _ _ h => h
  | succ m ih =>
    intro i hi h
    rw [g_in]
    split
    · exact (zbit_or hi).mpr (Or.inl (ih i hi h))
    · exact ih i hi h
theorem g_in_a {j i : Nat} (hi : i < 32) (hj : j < 32) (hs : zbit s j) (he : zbit (mt j &&& tk) i) : ∀ m, j < m → zbit (g_in mt tk m s) i := by
  intro m
  induction m with
  | zero => intro h; exact absurd h (Nat.not_lt_zero _)
  | succ m ih =>
    intro h
    rw [g_in]
    by_cases e : j = m
    · subst e
      rw [if_pos (g_in_m _ j hj hs)]
      exact (zbit_or hi).mpr (Or.inr he)
    · split
      · exact (zbit_or hi).mpr (Or.inl (ih (by omega)))
      · exact ih (by omega)
theorem g_in_c (hC : ∀ j, j < np → zbit C j → sub32 (mt j &&& tk) C) (hs : sub32 s C) (hn : np ≤ 7) : ∀ m, m ≤ np → sub32 (g_in mt tk m s) C := by
  intro m
  induction m with
  | zero => intro _; exact hs
  | succ m ih =>
    intro hm i hi h
    rw [g_in] at h
    split at h
    · rename_i hb
      rcases (zbit_or hi).mp h with h | h
      · exact ih (by omega) i hi h
      · exact hC m (by omega) (ih (by omega) m (by omega) hb) i hi h
    · exact ih (by omega) i hi h
theorem reach_eq (hp : p < np) (hn : np ≤ 7) (ht : in7 tk) : g_rd mt tk np 7 (nI 1 <<< (nI p &&& 31)) = s_rch mt np tk (nI 1 <<< (nI p &&& 31)) 7 := by
  have h8 : s_rch mt np tk (nI 1 <<< (nI p &&& 31)) 8 = s_rch mt np tk (nI 1 <<< (nI p &&& 31)) 7 := by
    have a := rch_stay (rch_6 (mt := mt) (np := np) (show p < 7 by omega) ht) 2
    rw [a, ← rch_6 (by omega) ht]
  have hcl : ∀ j, j < np → zbit (s_rch mt np tk (nI 1 <<< (nI p &&& 31)) 7) j → sub32 (mt j &&& tk) (s_rch mt np tk (nI 1 <<< (nI p &&& 31)) 7) := by
    intro j hj hb i hi h
    rw [← h8, rch_s]
    exact (rF1_bit hi).mpr (Or.inr ⟨j, hj, hb, h⟩)
  have h0 : ∀ n, sub32 (nI 1 <<< (nI p &&& 31)) (s_rch mt np tk (nI 1 <<< (nI p &&& 31)) n) := by
    intro n
    induction n with
    | zero => exact fun _ _ h => h
    | succ n ih => exact fun i hi h => rch_grow i hi (ih i hi h)
  have up : ∀ n, sub32 (g_rd mt tk np n (nI 1 <<< (nI p &&& 31))) (s_rch mt np tk (nI 1 <<< (nI p &&& 31)) 7) := by
    intro n
    induction n with
    | zero => exact h0 7
    | succ n ih => rw [g_rd]; exact g_in_c hcl ih hn np (Nat.le_refl _)
  have dn : ∀ n, sub32 (s_rch mt np tk (nI 1 <<< (nI p &&& 31)) n) (g_rd mt tk np n (nI 1 <<< (nI p &&& 31))) := by
    intro n
    induction n with
    | zero => exact fun _ _ h => h
    | succ n ih =>
      intro i hi h
      rw [rch_s] at h
      rw [g_rd]
      rcases (rF1_bit hi).mp h with h | ⟨j, h1, h2, h3⟩
      · exact g_in_m np i hi (ih i hi h)
      · exact g_in_a hi (by omega) (ih j (by omega) h2) h3 np h1
  exact sub32_a (up 7) (dn 7)
/-- a way of at most so many steps -/
def gP (mt : Nat → Int32) (tk : Int32) (np : Nat) : Nat → Nat → Nat → Prop
  | 0, p, q => p = q
  | n + 1, p, q => gP mt tk np n p q ∨ ∃ r, r < np ∧ gP mt tk np n p r ∧ zbit (mt r &&& tk) q
theorem rch_P (hp : p < 7) (hn : np ≤ 7) : ∀ n q, q < 32 → (zbit (s_rch mt np tk (nI 1 <<< (nI p &&& 31)) n) q ↔ gP mt tk np n p q) := by
  intro n
  induction n with
  | zero =>
    intro q hq
    show zB (nI 1 <<< (nI p &&& 31)) q = true ↔ p = q
    rw [zB_sh (by omega) hq, decide_eq_true_eq]
    exact ⟨fun h => h.symm, fun h => h.symm⟩
  | succ n ih =>
    intro q hq
    rw [rch_s, rF1_bit hq, gP, ih q hq]
    constructor
    · rintro (h | ⟨j, h1, h2, h3⟩)
      · exact Or.inl h
      · exact Or.inr ⟨j, h1, (ih j (by omega)).mp h2, h3⟩
    · rintro (h | ⟨j, h1, h2, h3⟩)
      · exact Or.inl h
      · exact Or.inr ⟨j, h1, (ih j (by omega)).mpr h2, h3⟩
theorem gP_s (h : gP mt tk np n p q) : gP mt tk np (n + 1) p q := Or.inl h
/-- by its first step -/
theorem gP_f (hn : np ≤ 7) (ht : ∀ i, i < 32 → zbit tk i → i < np) (hp : p < np) : ∀ n q, q < 32 → (gP mt tk np (n + 1) p q ↔ gP mt tk np n p q ∨ ∃ r, r < np ∧ zbit (mt p &&& tk) r ∧ gP mt tk np n r q) := by
  intro n
  induction n with
  | zero =>
    intro q hq
    constructor
    · rintro (h | ⟨r, h1, h2, h3⟩)
      · exact Or.inl h
      · have h2 : p = r := h2
        subst h2
        exact Or.inr ⟨q, ht q hq ((zbit_and hq).mp h3).2, h3, rfl⟩
    · rintro (h | ⟨r, h1, h2, h3⟩)
      · exact Or.inl h
      · have h3 : r = q := h3
        subst h3
        exact Or.inr ⟨p, hp, rfl, h2⟩
  | succ n ih =>
    intro q hq
    constructor
    · rintro (h | ⟨r, h1, h2, h3⟩)
      · exact Or.inl h
      · rcases (ih r (by omega)).mp h2 with h4 | ⟨s, s1, s2, s3⟩
        · exact Or.inl (Or.inr ⟨r, h1, h4, h3⟩)
        · exact Or.inr ⟨s, s1, s2, Or.inr ⟨r, h1, s3, h3⟩⟩
    · rintro (h | ⟨r, h1, h2, h3 | ⟨s, s1, s2, s3⟩⟩)
      · exact Or.inl h
      · exact Or.inl ((ih q hq).mpr (Or.inr ⟨r, h1, h2, h3⟩))
      · exact Or.inr ⟨s, s1, (ih s (by omega)).mpr (Or.inr ⟨r, h1, h2, s2⟩), s3⟩
theorem gP_7 (hn : np ≤ 7) (ht : in7 tk) (hp : p < 7) (hq : q < 32) (h : gP mt tk np 7 p q) : gP mt tk np 6 p q := by
  rw [← rch_P hp hn 7 q hq, rch_6 hp ht] at h
  exact (rch_P hp hn 6 q hq).mp h
theorem gP_out (h : np ≤ p) : ∀ n q, gP mt tk np n p q → p = q := by
  intro n
  induction n with
  | zero => intro q h; exact h
  | succ n ih =>
    rintro q (h1 | ⟨r, h1, h2, h3⟩)
    · exact ih q h1
    · have := ih r h2; omega
theorem gP_m {m : Nat} (h : gP mt tk np n p q) (hm : n ≤ m) : gP mt tk np m p q := by
  obtain ⟨k, rfl⟩ := Nat.le.dest hm
  induction k with
  | zero => exact h
  | succ k ih => exact Or.inl (ih (by omega))
/-- so far it is, and no nearer -/
def gD (mt : Nat → Int32) (tk : Int32) (np n p q : Nat) : Prop := gP mt tk np n p q ∧ ∀ m, m < n → ¬ gP mt tk np m p q
theorem gD_u {m : Nat} (h1 : gD mt tk np n p q) (h2 : gD mt tk np m p q) : n = m := by
  rcases Nat.lt_trichotomy n m with h | h | h
  · exact absurd h1.1 (h2.2 n h)
  · exact h
  · exact absurd h2.1 (h1.2 m h)
theorem gD_ex : ∀ n, gP mt tk np n p q → ∃ m, m ≤ n ∧ gD mt tk np m p q := by
  intro n
  induction n with
  | zero => intro h; exact ⟨0, Nat.le_refl _, h, fun m hm => absurd hm (Nat.not_lt_zero _)⟩
  | succ n ih =>
    intro h
    by_cases h2 : gP mt tk np n p q
    · obtain ⟨m, m1, m2⟩ := ih h2
      exact ⟨m, by omega, m2⟩
    · exact ⟨n + 1, Nat.le_refl _, h, fun m hm h3 => h2 (gP_m h3 (by omega))⟩
theorem dist_D (hp : p < 7) (hn : np ≤ 7) (hq : q < 32) : ∀ m far, (∀ i, i < far → ¬ gP mt tk np i p q) → (s_far (s_rch mt np tk (nI 1 <<< (nI p &&& 31))) q m far = -1 ∧ ∀ i, i < far + m → ¬ gP mt tk np i p q) ∨ (∃ d, d < far + m ∧ s_far (s_rch mt np tk (nI 1 <<< (nI p &&& 31))) q m far = nI d ∧ gD mt tk np d p q) := by
  intro m
  induction m with
  | zero => intro far h; exact Or.inl ⟨rfl, h⟩
  | succ m ih =>
    intro far h
    rw [s_far]
    split
    · rename_i hb
      exact Or.inr ⟨far, by omega, rfl, (rch_P hp hn far q hq).mp hb, h⟩
    · rename_i hb
      rcases ih (far + 1) (fun i hi => by
        by_cases e : i = far
        · subst e; exact fun h2 => hb ((rch_P hp hn i q hq).mpr h2)
        · exact h i (by omega)) with ⟨h1, h2⟩ | ⟨d, h1, h2, h3⟩
      · exact Or.inl ⟨h1, fun i hi => h2 i (by omega)⟩
      · exact Or.inr ⟨d, by omega, h2, h3⟩
/-- the class's way, by its length -/
theorem dist_eq (hp : p < 7) (hn : np ≤ 7) (hq : q < 32) (ht : in7 tk) : (s_dist mt np tk p q = -1 ∧ ∀ n, ¬ gP mt tk np n p q) ∨ (∃ d, d < 7 ∧ s_dist mt np tk p q = nI d ∧ gD mt tk np d p q) := by
  rcases dist_D (mt := mt) (tk := tk) hp hn hq 7 0 (fun i hi => absurd hi (Nat.not_lt_zero _)) with ⟨h1, h2⟩ | ⟨d, h1, h2, h3⟩
  · left
    refine ⟨h1, fun n => ?_⟩
    have st : ∀ m, gP mt tk np (7 + m) p q → gP mt tk np 6 p q := by
      intro m hm
      rw [← rch_P hp hn _ q hq] at hm
      have a := rch_stay (rch_6 (mt := mt) (np := np) hp ht) (m + 1)
      rw [show 6 + (m + 1) = 7 + m by omega] at a
      rw [a] at hm
      exact (rch_P hp hn 6 q hq).mp hm
    intro hg
    rcases Nat.lt_or_ge n 7 with h | h
    · exact h2 n (by omega) hg
    · exact h2 6 (by omega) (st (n - 7) (by rw [show 7 + (n - 7) = n by omega]; exact hg))
  · exact Or.inr ⟨d, by omega, h2, h3⟩
end GR0
