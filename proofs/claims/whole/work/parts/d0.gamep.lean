/-! games: what they are worth -/
section GA0
variable {a b : Int} {bb bb' : Nat → Bool} {v v' : Nat → Int} {x x' : Int} {n m k d nn mv ot : Nat} {mt mt' tk tk' C C' : Nat → Int32} {g g' : Nat → Nat} {o o' : Option Nat}
def zI (x : Int) : Int32 := Int32.ofInt x
theorem zI_int (h1 : -1000000 ≤ x) (h2 : x ≤ 1000000) : (zI x).toInt = x := Int32.toInt_ofInt_of_le (by omega) (by omega)
theorem zI_nI (n : Nat) : nI n = zI (n : Int) := (Int32.ofInt_eq_ofNat).symm
theorem zI_lt (h1 : -1000000 ≤ a ∧ a ≤ 1000000) (h2 : -1000000 ≤ b ∧ b ≤ 1000000) : zI a < zI b ↔ a < b := by
  rw [Int32.lt_iff_toInt_lt, zI_int h1.1 h1.2, zI_int h2.1 h2.2]
theorem zI_le (h1 : -1000000 ≤ a ∧ a ≤ 1000000) (h2 : -1000000 ≤ b ∧ b ≤ 1000000) : zI a ≤ zI b ↔ a ≤ b := by
  rw [Int32.le_iff_toInt_le, zI_int h1.1 h1.2, zI_int h2.1 h2.2]
theorem zI_neg (a : Int) : -zI a = zI (-a) := (Int32.ofInt_neg a).symm
theorem zI_sub (a b : Int) : zI a - zI b = zI (a - b) := (Int32.ofInt_sub a b).symm
theorem zI_add (a b : Int) : zI a + zI b = zI (a + b) := (Int32.ofInt_add a b).symm
theorem zI_max (h1 : -1000000 ≤ a ∧ a ≤ 1000000) (h2 : -1000000 ≤ b ∧ b ≤ 1000000) : (if zI a < zI b then zI b else zI a) = zI (max a b) := by
  by_cases h : a < b
  · rw [if_pos ((zI_lt h1 h2).mpr h), Int.max_def, if_pos (by omega)]
  · rw [if_neg (fun q => h ((zI_lt h1 h2).mp q)), Int.max_def]
    by_cases e : a = b
    · subst e; rw [if_pos (Int.le_refl _)]
    · rw [if_neg (by omega)]
/-- the most of x and those that are so -/
def gaM (b : Nat → Bool) (v : Nat → Int) (x : Int) : Nat → Int
  | 0 => x
  | n + 1 => if b n then max (gaM b v x n) (v n) else gaM b v x n
theorem gaM_t (h : bb n = true) : gaM bb v x (n + 1) = max (gaM bb v x n) (v n) := if_pos h
theorem gaM_f (h : bb n = false) : gaM bb v x (n + 1) = gaM bb v x n := if_neg (by rw [h]; decide)
theorem gaM_is : ∀ n, x ≤ gaM bb v x n ∧ (∀ k, k < n → bb k = true → v k ≤ gaM bb v x n) ∧ (gaM bb v x n = x ∨ ∃ k, k < n ∧ bb k = true ∧ v k = gaM bb v x n) := by
  intro n
  induction n with
  | zero => exact ⟨Int.le_refl _, fun k h => absurd h (Nat.not_lt_zero _), Or.inl rfl⟩
  | succ n ih =>
    obtain ⟨h1, h2, h3⟩ := ih
    by_cases h : bb n = true
    · rw [gaM_t h]
      refine ⟨by omega, fun k hk hb => ?_, ?_⟩
      · by_cases e : k = n
        · subst e; omega
        · have := h2 k (by omega) hb; omega
      · by_cases hl : gaM bb v x n ≤ v n
        · right; exact ⟨n, by omega, h, by omega⟩
        · rcases h3 with h3 | ⟨k, k1, k2, k3⟩
          · left; omega
          · right; exact ⟨k, by omega, k2, by omega⟩
    · rw [gaM_f (Bool.eq_false_iff.mpr h)]
      refine ⟨h1, fun k hk hb => ?_, ?_⟩
      · by_cases e : k = n
        · subst e; exact absurd hb h
        · exact h2 k (by omega) hb
      · rcases h3 with h3 | ⟨k, k1, k2, k3⟩
        · exact Or.inl h3
        · exact Or.inr ⟨k, by omega, k2, k3⟩
theorem gaM_c (h : ∀ k, k < n → bb' k = bb k) (hv : ∀ k, k < n → bb k = true → v' k = v k) (hx : x' = x) : gaM bb' v' x' n = gaM bb v x n := by
  have : ∀ m, m ≤ n → gaM bb' v' x' m = gaM bb v x m := by
    intro m
    induction m with
    | zero => intro _; exact hx
    | succ m ih =>
      intro hm
      by_cases hb : bb m = true
      · rw [gaM_t hb, gaM_t ((h m (by omega)).trans hb), ih (by omega), hv m (by omega) hb]
      · have hb := Bool.eq_false_iff.mpr hb
        rw [gaM_f hb, gaM_f ((h m (by omega)).trans hb), ih (by omega)]
  exact this n (Nat.le_refl _)
theorem gaM_bd {B : Int} (hx : -B ≤ x ∧ x ≤ B) (hv : ∀ k, k < n → bb k = true → -B ≤ v k ∧ v k ≤ B) : -B ≤ gaM bb v x n ∧ gaM bb v x n ≤ B := by
  obtain ⟨h1, h2, h3⟩ := gaM_is (bb := bb) (v := v) (x := x) n
  rcases h3 with h3 | ⟨k, k1, k2, k3⟩
  · omega
  · have := hv k k1 k2; omega
theorem gaM_skip : ∀ m, (∀ i, n ≤ i → i < n + m → bb i = false) → gaM bb v x (n + m) = gaM bb v x n := by
  intro m
  induction m with
  | zero => intro _; rfl
  | succ m ih =>
    intro h
    rw [← Nat.add_assoc, gaM_f (h _ (by omega) (by omega)), ih (fun i h1 h2 => h i h1 (by omega))]
theorem gaM_one {c : Int} : ∀ m, (∀ i, n ≤ i → i < n + m → v i = c) → (∃ i, n ≤ i ∧ i < n + m ∧ bb i = true) → gaM bb v x (n + m) = max (gaM bb v x n) c := by
  intro m
  induction m with
  | zero => rintro _ ⟨i, h1, h2, -⟩; omega
  | succ m ih =>
    rintro h ⟨i, h1, h2, h3⟩
    have hv := h (n + m) (by omega) (by omega)
    rw [← Nat.add_assoc]
    by_cases he : ∃ i, n ≤ i ∧ i < n + m ∧ bb i = true
    · have q := ih (fun i h1 h2 => h i h1 (by omega)) he
      by_cases hb : bb (n + m) = true
      · rw [gaM_t hb, q, hv]; omega
      · rw [gaM_f (Bool.eq_false_iff.mpr hb), q]
    · have q := gaM_skip (bb := bb) (v := v) (x := x) (n := n) m (fun i h1 h2 => Bool.eq_false_iff.mpr (fun q => he ⟨i, h1, h2, q⟩))
      have ei : i = n + m := by
        rcases Nat.lt_or_ge i (n + m) with h | h
        · exact absurd ⟨i, h1, h, h3⟩ he
        · omega
      subst ei
      rw [gaM_t h3, q, hv]
def gaU (C : Nat → Int32) (t : Nat) (x : Int32) : Nat → Int32 := fun s => if s = t then x else C s
/-- may he give it on so -/
def gaOk (nn : Nat) (mt tk C : Nat → Int32) (mv k : Nat) : Bool := decide (k / 7 < nn) && decide (C (k / 7) = nI mv) && zB (mt mv &&& tk (k / 7)) (k % 7)
/-- how much more he gets who is on turn, with d turns to go -/
def gaB (nn : Nat) (mt tk : Nat → Int32) (g : Nat → Nat) : Nat → (Nat → Int32) → Nat → Nat → Int
  | 0, _, _, _ => 0
  | d + 1, C, mv, ot => gaM (gaOk nn mt tk C mv) (fun k => (g (k / 7) : Int) - gaB nn mt tk g d (gaU C (k / 7) (nI (k % 7))) ot mv) (-gaB nn mt tk g d C ot mv) 63
def gaV (nn : Nat) (mt tk : Nat → Int32) (g : Nat → Nat) (d : Nat) (C : Nat → Int32) (mv ot k : Nat) : Int := (g (k / 7) : Int) - gaB nn mt tk g d (gaU C (k / 7) (nI (k % 7))) ot mv
theorem gaB_s : gaB nn mt tk g (d + 1) C mv ot = gaM (gaOk nn mt tk C mv) (gaV nn mt tk g d C mv ot) (-gaB nn mt tk g d C ot mv) 63 := rfl
theorem gaOk_lt (h : gaOk nn mt tk C mv k = true) : k / 7 < nn := by
  unfold gaOk at h
  rw [Bool.and_eq_true, Bool.and_eq_true] at h
  exact of_decide_eq_true h.1.1
theorem gaOk_at (h : gaOk nn mt tk C mv k = true) : C (k / 7) = nI mv := by
  unfold gaOk at h
  rw [Bool.and_eq_true, Bool.and_eq_true] at h
  exact of_decide_eq_true h.1.2
theorem gaOk_bit (h : gaOk nn mt tk C mv k = true) : zB (mt mv &&& tk (k / 7)) (k % 7) = true := by
  unfold gaOk at h
  rw [Bool.and_eq_true] at h
  exact h.2
theorem gaOk_op {j i : Nat} (hj : j < nn) (hi : i < 7) : gaOk nn mt tk C mv (7 * j + i) = zB (if C j = nI mv then mt mv &&& tk j else nI 0) i := by
  unfold gaOk
  rw [show (7 * j + i) / 7 = j by omega, show (7 * j + i) % 7 = i by omega, decide_eq_true hj, Bool.true_and]
  by_cases h : C j = nI mv
  · rw [if_pos h, decide_eq_true h, Bool.true_and]
  · rw [if_neg h, decide_eq_false h, Bool.false_and, zB_nI (by omega), Nat.zero_testBit]
theorem gaB_bd (hg : ∀ t, t < nn → g t ≤ 99) : ∀ d C mv ot, -((99 * d : Nat) : Int) ≤ gaB nn mt tk g d C mv ot ∧ gaB nn mt tk g d C mv ot ≤ ((99 * d : Nat) : Int) := by
  intro d
  induction d with
  | zero => intro C mv ot; exact ⟨by rw [gaB]; decide, by rw [gaB]; decide⟩
  | succ d ih =>
    intro C mv ot
    rw [gaB_s]
    refine gaM_bd ?_ (fun k hk hb => ?_)
    · have := ih C ot mv; omega
    · have h1 := ih (gaU C (k / 7) (nI (k % 7))) ot mv
      have h2 := hg (k / 7) (gaOk_lt hb)
      unfold gaV
      omega
theorem gaV_bd (hg : ∀ t, t < nn → g t ≤ 99) (hb : gaOk nn mt tk C mv k = true) : -((99 * (d + 1) : Nat) : Int) ≤ gaV nn mt tk g d C mv ot k ∧ gaV nn mt tk g d C mv ot k ≤ ((99 * (d + 1) : Nat) : Int) := by
  have h1 := gaB_bd (mt := mt) (tk := tk) hg d (gaU C (k / 7) (nI (k % 7))) ot mv
  have h2 := hg (k / 7) (gaOk_lt hb)
  unfold gaV
  omega
theorem gaU_c {t s : Nat} {y : Int32} (h : ∀ t, t < nn → C' t = C t) (hs : s < nn) : gaU C' t y s = gaU C t y s := by
  unfold gaU
  rw [h s hs]
theorem gaOk_c (hC : ∀ t, t < nn → C' t = C t) (ht : ∀ t, t < nn → tk' t = tk t) (hm : mt' mv = mt mv) : gaOk nn mt' tk' C' mv k = gaOk nn mt tk C mv k := by
  unfold gaOk
  by_cases h : k / 7 < nn
  · rw [hC _ h, ht _ h, hm]
  · rw [decide_eq_false h, Bool.false_and, Bool.false_and, Bool.false_and, Bool.false_and]
theorem gaB_c (ht : ∀ t, t < nn → tk' t = tk t) (hg : ∀ t, t < nn → g' t = g t) : ∀ d C C' mv ot, (∀ t, t < nn → C' t = C t) → mt' mv = mt mv → mt' ot = mt ot → gaB nn mt' tk' g' d C' mv ot = gaB nn mt tk g d C mv ot := by
  intro d
  induction d with
  | zero => intro C C' mv ot _ _ _; rfl
  | succ d ih =>
    intro C C' mv ot hC h1 h2
    rw [gaB_s, gaB_s]
    refine gaM_c (fun k _ => gaOk_c hC ht h1) (fun k _ hb => ?_) ?_
    · unfold gaV
      rw [hg _ (gaOk_lt hb), ih _ _ ot mv (fun t ht => gaU_c hC ht) h2 h1]
    · rw [ih _ _ ot mv hC h2 h1]
theorem gaV_c (ht : ∀ t, t < nn → tk' t = tk t) (hg : ∀ t, t < nn → g' t = g t) (hC : ∀ t, t < nn → C' t = C t) (h1 : mt' mv = mt mv) (h2 : mt' ot = mt ot) (hk : k / 7 < nn) : gaV nn mt' tk' g' d C' mv ot k = gaV nn mt tk g d C mv ot k := by
  unfold gaV
  rw [hg _ hk, gaB_c ht hg d _ _ ot mv (fun t ht => gaU_c hC ht) h2 h1]
/-- the value of a choice -/
def gaW (v : Nat → Int) (x : Int) : Option Nat → Int
  | none => x
  | some k => v k
/-- the class's choice: the first of the best moves, or nothing -/
def gaA (b : Nat → Bool) (v : Nat → Int) : Nat → Option Nat
  | 0 => none
  | n + 1 => if b n then (match gaA b v n with
    | none => some n
    | some k => if v k < v n then some n else some k) else gaA b v n
/-- the reference's choice, from the last on -/
def gaD (b : Nat → Bool) (v : Nat → Int) (x : Int) : Nat → Option Nat
  | 0 => none
  | m + 1 => if b (62 - m) = true ∧ gaW v x (gaD b v x m) ≤ v (62 - m) then some (62 - m) else gaD b v x m
def gaIs (b : Nat → Bool) (v : Nat → Int) (x : Int) : Option Nat → Prop
  | none => ∀ k, k < 63 → b k = true → v k < x
  | some k => (k < 63 ∧ b k = true ∧ x ≤ v k) ∧ (∀ i, i < 63 → b i = true → v i ≤ v k) ∧ ∀ i, i < k → b i = true → v i < v k
theorem gaIs_u (h : gaIs bb v x o) (h' : gaIs bb v x o') : o = o' := by
  cases o with
  | none =>
    cases o' with
    | none => rfl
    | some k =>
      have := h k h'.1.1 h'.1.2.1
      have := h'.1.2.2
      omega
  | some k =>
    cases o' with
    | none =>
      have := h' k h.1.1 h.1.2.1
      have := h.1.2.2
      omega
    | some k' =>
      rcases Nat.lt_trichotomy k k' with e | e | e
      · have h1 := h'.2.2 k e h.1.2.1
        have h2 := h.2.1 k' h'.1.1 h'.1.2.1
        omega
      · rw [e]
      · have h1 := h.2.2 k' e h'.1.2.1
        have h2 := h'.2.1 k h.1.1 h.1.2.1
        omega
theorem gaIs_w (h : gaIs bb v x o) : gaW v x o = gaM bb v x 63 := by
  obtain ⟨h1, h2, h3⟩ := gaM_is (bb := bb) (v := v) (x := x) 63
  cases o with
  | none =>
    show x = _
    rcases h3 with h3 | ⟨k, k1, k2, k3⟩
    · exact h3.symm
    · have := h k k1 k2; omega
  | some k =>
    show v k = _
    have a1 := h2 k h.1.1 h.1.2.1
    have a2 := h.1.2.2
    rcases h3 with h3 | ⟨i, i1, i2, i3⟩
    · omega
    · have := h.2.1 i i1 i2; omega
theorem gaA_s (h : bb n = true) : gaA bb v (n + 1) = match gaA bb v n with | none => some n | some k => if v k < v n then some n else some k := if_pos h
theorem gaA_f (h : bb n = false) : gaA bb v (n + 1) = gaA bb v n := if_neg (by rw [h]; decide)
theorem gaA_is : ∀ n, match gaA bb v n with
    | none => ∀ k, k < n → bb k = false
    | some k => (k < n ∧ bb k = true) ∧ (∀ i, i < n → bb i = true → v i ≤ v k) ∧ ∀ i, i < k → bb i = true → v i < v k := by
  intro n
  induction n with
  | zero => exact fun k h => absurd h (Nat.not_lt_zero _)
  | succ n ih =>
    by_cases h : bb n = true
    · rw [gaA_s h]
      cases hk : gaA bb v n with
      | none =>
        rw [hk] at ih
        have ih : ∀ k, k < n → bb k = false := ih
        show (n < n + 1 ∧ bb n = true) ∧ (∀ i, i < n + 1 → bb i = true → v i ≤ v n) ∧ ∀ i, i < n → bb i = true → v i < v n
        refine ⟨⟨by omega, h⟩, fun i hi hb => ?_, fun i hi hb => ?_⟩
        · by_cases e : i = n
          · subst e; exact Int.le_refl _
          · rw [ih i (by omega)] at hb; cases hb
        · rw [ih i hi] at hb; cases hb
      | some k =>
        rw [hk] at ih
        have ih : (k < n ∧ bb k = true) ∧ (∀ i, i < n → bb i = true → v i ≤ v k) ∧ ∀ i, i < k → bb i = true → v i < v k := ih
        obtain ⟨⟨a1, a2⟩, a3, a4⟩ := ih
        by_cases hl : v k < v n
        · rw [show (match some k with | none => some n | some k => if v k < v n then some n else some k) = some n from if_pos hl]
          show (n < n + 1 ∧ bb n = true) ∧ (∀ i, i < n + 1 → bb i = true → v i ≤ v n) ∧ ∀ i, i < n → bb i = true → v i < v n
          refine ⟨⟨by omega, h⟩, fun i hi hb => ?_, fun i hi hb => ?_⟩
          · by_cases e : i = n
            · subst e; exact Int.le_refl _
            · have := a3 i (by omega) hb; omega
          · have := a3 i hi hb; omega
        · rw [show (match some k with | none => some n | some k => if v k < v n then some n else some k) = some k from if_neg hl]
          show (k < n + 1 ∧ bb k = true) ∧ (∀ i, i < n + 1 → bb i = true → v i ≤ v k) ∧ ∀ i, i < k → bb i = true → v i < v k
          refine ⟨⟨by omega, a2⟩, fun i hi hb => ?_, a4⟩
          by_cases e : i = n
          · subst e; omega
          · exact a3 i (by omega) hb
    · have h := Bool.eq_false_iff.mpr h
      rw [gaA_f h]
      cases hk : gaA bb v n with
      | none =>
        rw [hk] at ih
        have ih : ∀ k, k < n → bb k = false := ih
        show ∀ k, k < n + 1 → bb k = false
        intro k hk
        by_cases e : k = n
        · subst e; exact h
        · exact ih k (by omega)
      | some k =>
        rw [hk] at ih
        have ih : (k < n ∧ bb k = true) ∧ (∀ i, i < n → bb i = true → v i ≤ v k) ∧ ∀ i, i < k → bb i = true → v i < v k := ih
        obtain ⟨⟨a1, a2⟩, a3, a4⟩ := ih
        show (k < n + 1 ∧ bb k = true) ∧ (∀ i, i < n + 1 → bb i = true → v i ≤ v k) ∧ ∀ i, i < k → bb i = true → v i < v k
        refine ⟨⟨by omega, a2⟩, fun i hi hb => ?_, a4⟩
        by_cases e : i = n
        · subst e; rw [h] at hb; cases hb
        · exact a3 i (by omega) hb
/-- the class's end: nothing, if that is more -/
def gaE (v : Nat → Int) (x : Int) : Option Nat → Option Nat
  | none => none
  | some k => if v k < x then none else some k
theorem gaE_is : gaIs bb v x (gaE v x (gaA bb v 63)) := by
  have h := gaA_is (bb := bb) (v := v) 63
  cases hk : gaA bb v 63 with
  | none =>
    rw [hk] at h
    have h : ∀ k, k < 63 → bb k = false := h
    show ∀ k, k < 63 → bb k = true → v k < x
    intro k h1 h2
    rw [h k h1] at h2; cases h2
  | some k =>
    rw [hk] at h
    have h : (k < 63 ∧ bb k = true) ∧ (∀ i, i < 63 → bb i = true → v i ≤ v k) ∧ ∀ i, i < k → bb i = true → v i < v k := h
    obtain ⟨⟨a1, a2⟩, a3, a4⟩ := h
    by_cases hl : v k < x
    · rw [show gaE v x (some k) = none from if_pos hl]
      intro i h1 h2
      have := a3 i h1 h2; omega
    · rw [show gaE v x (some k) = some k from if_neg hl]
      exact ⟨⟨a1, a2, by omega⟩, a3, a4⟩
theorem gaD_is : ∀ m, m ≤ 63 → match gaD bb v x m with
    | none => ∀ k, 63 - m ≤ k → k < 63 → bb k = true → v k < x
    | some k => (63 - m ≤ k ∧ k < 63 ∧ bb k = true ∧ x ≤ v k) ∧ (∀ i, 63 - m ≤ i → i < 63 → bb i = true → v i ≤ v k) ∧ ∀ i, 63 - m ≤ i → i < k → bb i = true → v i < v k := by
  intro m
  induction m with
  | zero => intro _; exact fun k h1 h2 => by omega
  | succ m ih =>
    intro hm
    have ih := ih (by omega)
    by_cases h : bb (62 - m) = true ∧ gaW v x (gaD bb v x m) ≤ v (62 - m)
    · rw [show gaD bb v x (m + 1) = some (62 - m) from if_pos h]
      show (63 - (m + 1) ≤ 62 - m ∧ 62 - m < 63 ∧ bb (62 - m) = true ∧ x ≤ v (62 - m)) ∧ (∀ i, 63 - (m + 1) ≤ i → i < 63 → bb i = true → v i ≤ v (62 - m)) ∧ ∀ i, 63 - (m + 1) ≤ i → i < 62 - m → bb i = true → v i < v (62 - m)
      cases hk : gaD bb v x m with
      | none =>
        rw [hk] at ih h
        have ih : ∀ k, 63 - m ≤ k → k < 63 → bb k = true → v k < x := ih
        have h2 : x ≤ v (62 - m) := h.2
        refine ⟨⟨by omega, by omega, h.1, h2⟩, fun i h3 h4 h5 => ?_, fun i h3 h4 _ => by omega⟩
        by_cases e : i = 62 - m
        · rw [e]; exact Int.le_refl _
        · have := ih i (by omega) h4 h5; omega
      | some k =>
        rw [hk] at ih h
        have ih : (63 - m ≤ k ∧ k < 63 ∧ bb k = true ∧ x ≤ v k) ∧ (∀ i, 63 - m ≤ i → i < 63 → bb i = true → v i ≤ v k) ∧ ∀ i, 63 - m ≤ i → i < k → bb i = true → v i < v k := ih
        have h2 : v k ≤ v (62 - m) := h.2
        obtain ⟨⟨a1, a2, a3, a4⟩, a5, a6⟩ := ih
        refine ⟨⟨by omega, by omega, h.1, by omega⟩, fun i h3 h4 h5 => ?_, fun i h3 h4 _ => by omega⟩
        by_cases e : i = 62 - m
        · rw [e]; exact Int.le_refl _
        · have := a5 i (by omega) h4 h5; omega
    · rw [show gaD bb v x (m + 1) = gaD bb v x m from if_neg h]
      cases hk : gaD bb v x m with
      | none =>
        rw [hk] at ih h
        have ih : ∀ k, 63 - m ≤ k → k < 63 → bb k = true → v k < x := ih
        have h2 : ¬ (bb (62 - m) = true ∧ x ≤ v (62 - m)) := h
        show ∀ k, 63 - (m + 1) ≤ k → k < 63 → bb k = true → v k < x
        intro k h3 h4 h5
        by_cases e : k = 62 - m
        · subst e
          rcases Int.lt_or_le (v (62 - m)) x with q | q
          · exact q
          · exact absurd ⟨h5, q⟩ h2
        · exact ih k (by omega) h4 h5
      | some k =>
        rw [hk] at ih h
        have ih : (63 - m ≤ k ∧ k < 63 ∧ bb k = true ∧ x ≤ v k) ∧ (∀ i, 63 - m ≤ i → i < 63 → bb i = true → v i ≤ v k) ∧ ∀ i, 63 - m ≤ i → i < k → bb i = true → v i < v k := ih
        have h2 : ¬ (bb (62 - m) = true ∧ v k ≤ v (62 - m)) := h
        obtain ⟨⟨a1, a2, a3, a4⟩, a5, a6⟩ := ih
        show (63 - (m + 1) ≤ k ∧ k < 63 ∧ bb k = true ∧ x ≤ v k) ∧ (∀ i, 63 - (m + 1) ≤ i → i < 63 → bb i = true → v i ≤ v k) ∧ ∀ i, 63 - (m + 1) ≤ i → i < k → bb i = true → v i < v k
        have h3 : bb (62 - m) = true → v (62 - m) < v k := fun h5 => by
          rcases Int.lt_or_le (v (62 - m)) (v k) with q | q
          · exact q
          · exact absurd ⟨h5, q⟩ h2
        refine ⟨⟨by omega, a2, a3, a4⟩, fun i h4 h5 h6 => ?_, fun i h4 h5 h6 => ?_⟩
        · by_cases e : i = 62 - m
          · subst e; have := h3 h6; omega
          · exact a5 i (by omega) h5 h6
        · by_cases e : i = 62 - m
          · subst e; exact h3 h6
          · exact a6 i (by omega) h5 h6
theorem gaD_63 : gaIs bb v x (gaD bb v x 63) := by
  have h := gaD_is (bb := bb) (v := v) (x := x) 63 (Nat.le_refl _)
  cases hk : gaD bb v x 63 with
  | none =>
    rw [hk] at h
    have h : ∀ k, 63 - 63 ≤ k → k < 63 → bb k = true → v k < x := h
    exact fun k h1 h2 => h k (by omega) h1 h2
  | some k =>
    rw [hk] at h
    have h : (63 - 63 ≤ k ∧ k < 63 ∧ bb k = true ∧ x ≤ v k) ∧ (∀ i, 63 - 63 ≤ i → i < 63 → bb i = true → v i ≤ v k) ∧ ∀ i, 63 - 63 ≤ i → i < k → bb i = true → v i < v k := h
    exact ⟨h.1.2, fun i h1 h2 => h.2.1 i (by omega) h1 h2, fun i h1 h2 => h.2.2 i (by omega) h1 h2⟩
end GA0
