/-! givings: both ways to count, both ways to find the most -/
section GV0
def sl (n : Nat) (f : Nat → Nat) : Nat := ((List.range n).map f).sum
variable {f g w T : Nat → Nat} {n m c p s r t : Nat} {tr : Nat → Nat → Bool} {inS : Nat → Bool} {nn fr us : Nat} {b : Nat → Bool} {v : Nat → Nat} {v0 : Nat}
theorem sl_0 : sl 0 f = 0 := rfl
theorem sl_s : sl (n + 1) f = sl n f + f n := by
  unfold sl
  rw [List.range_succ, List.map_append, List.sum_append]
  simp
theorem sl_c (h : ∀ i, i < n → f i = g i) : sl n f = sl n g := by
  have : ∀ m, m ≤ n → sl m f = sl m g := by
    intro m
    induction m with
    | zero => intro _; rfl
    | succ m ih => intro hm; rw [sl_s, sl_s, ih (by omega), h m (by omega)]
  exact this n (Nat.le_refl _)
theorem sl_add : sl n (fun i => f i + g i) = sl n f + sl n g := by
  induction n with
  | zero => rfl
  | succ n ih => rw [sl_s, sl_s, sl_s, ih]; omega
theorem sl_z : sl n (fun _ => 0) = 0 := by
  induction n with
  | zero => rfl
  | succ n ih => rw [sl_s, ih]
theorem sl_swap {h : Nat → Nat → Nat} : sl n (fun i => sl m (fun j => h i j)) = sl m (fun j => sl n (fun i => h i j)) := by
  induction n with
  | zero =>
    rw [sl_0, sl_c (g := fun _ => 0) (fun j _ => sl_0), sl_z]
  | succ n ih =>
    rw [sl_s, ih, ← sl_add]
    exact sl_c (fun j _ => sl_s.symm)
theorem sl_mul : sl n f * c = sl n (fun i => f i * c) := by
  induction n with
  | zero => exact Nat.zero_mul _
  | succ n ih => rw [sl_s, sl_s, ← ih, Nat.add_mul]
theorem sl_mul' : c * sl n f = sl n (fun i => c * f i) := by
  rw [Nat.mul_comm, sl_mul]
  exact sl_c (fun i _ => Nat.mul_comm _ _)
theorem x_perm : ∀ p, p < 7 → ((List.range 128).map (fun S => S ^^^ 2 ^ p)).Perm (List.range 128) := by decide +kernel
theorem sl_x (hp : p < 7) : sl 128 (fun S => f (S ^^^ 2 ^ p)) = sl 128 f := by
  unfold sl
  rw [show (List.range 128).map (fun S => f (S ^^^ 2 ^ p)) = ((List.range 128).map (fun S => S ^^^ 2 ^ p)).map f by rw [List.map_map]; rfl]
  exact ((x_perm p hp).map f).sum_nat
theorem x_bit : ∀ S, S < 128 → ∀ p, p < 7 → (S ^^^ 2 ^ p).testBit p = !S.testBit p := by decide +kernel
theorem x_or : ∀ S, S < 128 → ∀ p, p < 7 → S.testBit p = false → S ^^^ 2 ^ p = S ||| 2 ^ p := by decide +kernel
theorem x_x : ∀ S, S < 128 → ∀ p, p < 7 → (S ^^^ 2 ^ p) ^^^ 2 ^ p = S := by decide +kernel
theorem x_lt : ∀ S, S < 128 → ∀ p, p < 7 → S ^^^ 2 ^ p < 128 := by decide +kernel
theorem x_ob : ∀ S, S < 128 → ∀ p, p < 7 → (S ||| 2 ^ p).testBit p = true := by decide +kernel
theorem x_ox : ∀ S, S < 128 → ∀ p, p < 7 → S.testBit p = false → (S ||| 2 ^ p) ^^^ 2 ^ p = S := by decide +kernel
theorem x_xo : ∀ S, S < 128 → ∀ p, p < 7 → S.testBit p = true → (S ^^^ 2 ^ p) ||| 2 ^ p = S := by decide +kernel
theorem x_pc : ∀ S, S < 128 → ∀ p, p < 7 → S.testBit p = true → pcN (S ^^^ 2 ^ p) + 1 = pcN S := by decide +kernel
/-- one TIN more: from the end, from the beginning -/
abbrev gT1 (b : Nat → Bool) (T : Nat → Nat) (s : Nat) : Nat := sl 7 (fun p => if b p && !s.testBit p then T (s ||| 2 ^ p) else 0)
abbrev gW1 (b : Nat → Bool) (w : Nat → Nat) (s : Nat) : Nat := sl 7 (fun p => if s.testBit p && b p then w (s ^^^ 2 ^ p) else 0)
theorem g_step : sl 128 (fun S => gW1 b w S * T S) = sl 128 (fun S => w S * gT1 b T S) := by
  have e1 : sl 128 (fun S => gW1 b w S * T S) = sl 7 (fun p => sl 128 (fun S => if S.testBit p && b p then w (S ^^^ 2 ^ p) * T S else 0)) := by
    rw [← sl_swap]
    refine sl_c (fun S _ => ?_)
    rw [sl_mul]
    refine sl_c (fun p _ => ?_)
    split
    · rfl
    · exact Nat.zero_mul _
  have e2 : sl 128 (fun S => w S * gT1 b T S) = sl 7 (fun p => sl 128 (fun S => if b p && !S.testBit p then w S * T (S ||| 2 ^ p) else 0)) := by
    rw [← sl_swap]
    refine sl_c (fun S _ => ?_)
    rw [sl_mul']
    refine sl_c (fun p _ => ?_)
    split
    · rfl
    · exact Nat.mul_zero _
  rw [e1, e2]
  refine sl_c (fun p hp => ?_)
  rw [← sl_x (f := fun S => if S.testBit p && b p then w (S ^^^ 2 ^ p) * T S else 0) hp]
  refine sl_c (fun S hS => ?_)
  show (if (S ^^^ 2 ^ p).testBit p && b p then w ((S ^^^ 2 ^ p) ^^^ 2 ^ p) * T (S ^^^ 2 ^ p) else 0) = _
  rw [x_bit S hS p hp, x_x S hS p hp]
  cases hb : S.testBit p with
  | true => simp
  | false =>
    rw [x_or S hS p hp hb]
    cases b p <;> rfl
/-- the ways for the last r of nn TINS -/
def gW (tr : Nat → Nat → Bool) (inS : Nat → Bool) (nn : Nat) : Nat → Nat → Nat
  | 0, _ => 1
  | r + 1, s => if inS (nn - (r + 1)) then gT1 (tr (nn - (r + 1))) (gW tr inS nn r) s else gW tr inS nn r s
/-- the ways with the first m from one on -/
def gR (tr : Nat → Nat → Bool) (inS : Nat → Bool) (fr us : Nat) : Nat → Nat → Nat
  | 0, s => if s = us then 1 else 0
  | m + 1, s => if inS (fr + m) then gW1 (tr (fr + m)) (gR tr inS fr us m) s else gR tr inS fr us m s
theorem g_inv (h : fr ≤ nn) (hu : us < 128) : ∀ m, fr + m ≤ nn → sl 128 (fun S => gR tr inS fr us m S * gW tr inS nn (nn - (fr + m)) S) = gW tr inS nn (nn - fr) us := by
  intro m
  induction m with
  | zero =>
    intro _
    have key : ∀ n, sl n (fun S => gR tr inS fr us 0 S * gW tr inS nn (nn - (fr + 0)) S) = if us < n then gW tr inS nn (nn - fr) us else 0 := by
      intro n
      induction n with
      | zero => rw [sl_0, if_neg (Nat.not_lt_zero _)]
      | succ n ih =>
        rw [sl_s, ih, gR]
        by_cases e : n = us
        · subst e
          rw [if_neg (Nat.lt_irrefl _), if_pos rfl, if_pos (by omega), Nat.zero_add, Nat.one_mul]
          rfl
        · rw [if_neg e, Nat.zero_mul, Nat.add_zero]
          by_cases h : us < n
          · rw [if_pos h, if_pos (by omega)]
          · rw [if_neg h, if_neg (by omega)]
    rw [key 128, if_pos hu]
  | succ m ih =>
    intro hm
    rw [← ih (by omega), show nn - (fr + m) = nn - (fr + (m + 1)) + 1 by omega]
    have e : nn - (nn - (fr + (m + 1)) + 1) = fr + m := by omega
    by_cases hi : inS (fr + m) = true
    · rw [sl_c (n := 128) (g := fun S => gW1 (tr (fr + m)) (gR tr inS fr us m) S * gW tr inS nn (nn - (fr + (m + 1))) S) (fun S _ => by rw [gR, if_pos hi]), g_step]
      refine sl_c (fun S _ => ?_)
      rw [gW, e, if_pos hi]
    · refine sl_c (fun S _ => ?_)
      rw [gR, if_neg hi, gW, e, if_neg hi]
theorem g_all (h : fr ≤ nn) (hu : us < 128) : sl 128 (gR tr inS fr us (nn - fr)) = gW tr inS nn (nn - fr) us := by
  rw [← g_inv h hu (nn - fr) (by omega)]
  refine sl_c (fun S _ => ?_)
  rw [show nn - (fr + (nn - fr)) = 0 by omega, gW, Nat.mul_one]
theorem sl_le (h : ∀ i, i < n → f i ≤ c) : sl n f ≤ n * c := by
  have : ∀ m, m ≤ n → sl m f ≤ m * c := by
    intro m
    induction m with
    | zero => intro _; exact Nat.zero_le _
    | succ m ih =>
      intro hm
      rw [sl_s, Nat.succ_mul]
      have := h m (by omega)
      have := ih (by omega)
      omega
  exact this n (Nat.le_refl _)
theorem gW_le : ∀ r s, gW tr inS nn r s ≤ 7 ^ r := by
  intro r
  induction r with
  | zero => intro s; exact Nat.le_refl _
  | succ r ih =>
    intro s
    rw [gW, Nat.pow_succ]
    split
    · rw [Nat.mul_comm]
      refine sl_le (fun p _ => ?_)
      split
      · exact ih _
      · exact Nat.zero_le _
    · have := ih s
      have : 7 ^ r ≤ 7 ^ r * 7 := Nat.le_mul_of_pos_right _ (by decide)
      omega
theorem gW_lt (hr : r ≤ 9) : gW tr inS nn r s < 2 ^ 30 := Nat.lt_of_le_of_lt (Nat.le_trans (gW_le r s) (Nat.pow_le_pow_right (n := 7) (by decide) hr)) (by decide)
/-- the most -/
def gM (b : Nat → Bool) (v : Nat → Nat) (v0 : Nat) : Nat → Nat
  | 0 => v0
  | n + 1 => if b n then max (gM b v v0 n) (1 + v n) else gM b v v0 n
theorem gM_le : ∀ n, m ≤ gM b v v0 n ↔ m ≤ v0 ∨ ∃ p, p < n ∧ b p = true ∧ m ≤ 1 + v p := by
  intro n
  induction n with
  | zero =>
    constructor
    · intro h; exact Or.inl h
    · rintro (h | ⟨p, hp, -⟩)
      · exact h
      · exact absurd hp (Nat.not_lt_zero _)
  | succ n ih =>
    rw [gM]
    by_cases hb : b n = true
    · rw [if_pos hb]
      constructor
      · intro h
        by_cases h1 : m ≤ gM b v v0 n
        · rcases ih.mp h1 with h2 | ⟨p, p1, p2⟩
          · exact Or.inl h2
          · exact Or.inr ⟨p, by omega, p2⟩
        · exact Or.inr ⟨n, by omega, hb, by omega⟩
      · rintro (h | ⟨p, p1, p2, p3⟩)
        · have := ih.mpr (Or.inl h); omega
        · by_cases e : p = n
          · subst e; omega
          · have := ih.mpr (Or.inr ⟨p, by omega, p2, p3⟩); omega
    · rw [if_neg hb, ih]
      constructor
      · rintro (h | ⟨p, p1, p2⟩)
        · exact Or.inl h
        · exact Or.inr ⟨p, by omega, p2⟩
      · rintro (h | ⟨p, p1, p2, p3⟩)
        · exact Or.inl h
        · by_cases e : p = n
          · subst e; exact absurd p2 hb
          · exact Or.inr ⟨p, by omega, p2, p3⟩
def gB (tr : Nat → Nat → Bool) (inS : Nat → Bool) (nn : Nat) : Nat → Nat → Nat
  | 0, _ => 0
  | r + 1, s => if inS (nn - (r + 1)) then gM (fun p => tr (nn - (r + 1)) p && !s.testBit p) (fun p => gB tr inS nn r (s ||| 2 ^ p)) (gB tr inS nn r s) 7 else gB tr inS nn r s
def gQ (tr : Nat → Nat → Bool) (inS : Nat → Bool) : Nat → Nat → Prop
  | 0, s => s = 0
  | m + 1, s => gQ tr inS m s ∨ inS m = true ∧ ∃ p, p < 7 ∧ s.testBit p = true ∧ tr m p = true ∧ gQ tr inS m (s ^^^ 2 ^ p)
theorem gB_inv : ∀ m k, m ≤ nn → ((∃ S, S < 128 ∧ gQ tr inS m S ∧ k ≤ pcN S + gB tr inS nn (nn - m) S) ↔ k ≤ gB tr inS nn nn 0) := by
  intro m
  induction m with
  | zero =>
    intro k _
    constructor
    · rintro ⟨S, h1, h2, h3⟩
      have h2 : S = 0 := h2
      subst h2
      have e : pcN 0 = 0 := by decide
      rw [e, Nat.zero_add] at h3
      exact h3
    · intro h
      refine ⟨0, by decide, rfl, ?_⟩
      have e : pcN 0 = 0 := by decide
      rw [e, Nat.zero_add]
      exact h
  | succ m ih =>
    intro k hm
    rw [← ih k (by omega), show nn - m = nn - (m + 1) + 1 by omega]
    have e : nn - (nn - (m + 1) + 1) = m := by omega
    constructor
    · rintro ⟨S, h1, h2 | ⟨h2, p, p1, p2, p3, p4⟩, h3⟩
      · refine ⟨S, h1, h2, ?_⟩
        rw [gB, e]
        split
        · have : gB tr inS nn (nn - (m + 1)) S ≤ gM (fun p => tr m p && !S.testBit p) (fun p => gB tr inS nn (nn - (m + 1)) (S ||| 2 ^ p)) (gB tr inS nn (nn - (m + 1)) S) 7 := (gM_le 7).mpr (Or.inl (Nat.le_refl _))
          omega
        · exact h3
      · refine ⟨S ^^^ 2 ^ p, x_lt S h1 p p1, p4, ?_⟩
        rw [gB, e, if_pos h2]
        have := x_pc S h1 p p1 p2
        have : 1 + gB tr inS nn (nn - (m + 1)) S ≤ gM (fun q => tr m q && !(S ^^^ 2 ^ p).testBit q) (fun q => gB tr inS nn (nn - (m + 1)) ((S ^^^ 2 ^ p) ||| 2 ^ q)) (gB tr inS nn (nn - (m + 1)) (S ^^^ 2 ^ p)) 7 := (gM_le 7).mpr (Or.inr ⟨p, p1, by rw [p3, x_bit S h1 p p1, p2]; rfl, by rw [x_xo S h1 p p1 p2]; exact Nat.le_refl _⟩)
        omega
    · rintro ⟨S, h1, h2, h3⟩
      rw [gB, e] at h3
      split at h3
      · rename_i hi
        by_cases hl : k ≤ pcN S + gB tr inS nn (nn - (m + 1)) S
        · exact ⟨S, h1, Or.inl h2, hl⟩
        · have h4 : k - pcN S ≤ gM (fun p => tr m p && !S.testBit p) (fun p => gB tr inS nn (nn - (m + 1)) (S ||| 2 ^ p)) (gB tr inS nn (nn - (m + 1)) S) 7 := by omega
          rcases (gM_le 7).mp h4 with h | ⟨p, p1, p2, p3⟩
          · omega
          · rw [Bool.and_eq_true] at p2
            have hb : S.testBit p = false := by
              cases hb : S.testBit p with
              | false => rfl
              | true => rw [hb] at p2; exact absurd p2.2 (by decide)
            refine ⟨S ||| 2 ^ p, or_lt7 h1 p1, Or.inr ⟨hi, p, p1, x_ob S h1 p p1, p2.1, ?_⟩, ?_⟩
            · rw [x_ox S h1 p p1 hb]; exact h2
            · rw [pc_add S h1 p p1 hb]; omega
      · exact ⟨S, h1, Or.inl h2, h3⟩
theorem gB_all (x : Nat) (hx : ∀ k, k ≤ x ↔ k = 0 ∨ ∃ S, S < 128 ∧ gQ tr inS nn S ∧ k ≤ pcN S) : x = gB tr inS nn nn 0 := by
  have h : ∀ k, k ≤ x ↔ k ≤ gB tr inS nn nn 0 := by
    intro k
    rw [hx, ← gB_inv nn k (Nat.le_refl _)]
    constructor
    · rintro (rfl | ⟨S, h1, h2, h3⟩)
      · exact (gB_inv nn 0 (Nat.le_refl _)).mpr (Nat.zero_le _)
      · exact ⟨S, h1, h2, by omega⟩
    · rintro ⟨S, h1, h2, h3⟩
      rw [Nat.sub_self, gB] at h3
      exact Or.inr ⟨S, h1, h2, by omega⟩
  have a := (h x).mp (Nat.le_refl _)
  have b := (h (gB tr inS nn nn 0)).mpr (Nat.le_refl _)
  omega
theorem gM_bd (h0 : v0 ≤ c) (hv : ∀ p, v p ≤ c) : gM b v v0 n ≤ c + 1 := by
  induction n with
  | zero => exact Nat.le_trans h0 (Nat.le_succ _)
  | succ n ih =>
    rw [gM]
    have := hv n
    split <;> omega
theorem gB_le : ∀ r s, gB tr inS nn r s ≤ r := by
  intro r
  induction r with
  | zero => intro s; exact Nat.le_refl _
  | succ r ih =>
    intro s
    rw [gB]
    split
    · exact gM_bd (ih _) (fun p => ih _)
    · have := ih s; omega
end GV0
