/-! counting the bits of 64, byte by byte -/
section PC0
variable {b c : Nat → Nat} {k s : Nat}
def V8 : Nat → (Nat → Nat) → Nat
  | 0, _ => 0
  | k + 1, b => b 0 + 256 * V8 k (fun i => b (i + 1))
theorem V8_c (h : ∀ i, i < k → b i = c i) : V8 k b = V8 k c := by
  induction k generalizing b c with
  | zero => rfl
  | succ k ih => rw [V8, V8, h 0 (by omega), ih (fun i hi => h (i + 1) (by omega))]
theorem V8_add : V8 k b + V8 k c = V8 k (fun i => b i + c i) := by
  induction k generalizing b c with
  | zero => rfl
  | succ k ih =>
    rw [V8, V8, V8, ← ih]
    omega
theorem V8_sub (h : ∀ i, c i ≤ b i) : V8 k b - V8 k c = V8 k (fun i => b i - c i) ∧ V8 k c ≤ V8 k b := by
  have e : V8 k (fun i => b i - c i) + V8 k c = V8 k b := by
    rw [V8_add]
    exact V8_c (fun i _ => by have := h i; omega)
  omega
theorem V8_lt (h : ∀ i, b i < 256) : V8 k b < 256 ^ k := by
  induction k generalizing b with
  | zero => exact Nat.zero_lt_one
  | succ k ih =>
    rw [V8, Nat.pow_succ]
    have := ih (b := fun i => b (i + 1)) (fun i => h (i + 1))
    have := h 0
    omega
theorem and_256 {x y X Y : Nat} (hx : x < 256) (hy : y < 256) : (x + 256 * X) &&& (y + 256 * Y) = (x &&& y) + 256 * (X &&& Y) := by
  have hxy : x &&& y < 256 := Nat.lt_of_le_of_lt Nat.and_le_left hx
  have e : ∀ a A, a < 256 → a + 256 * A = 2 ^ 8 * A + a := fun a A _ => by omega
  rw [e x X hx, e y Y hy, e _ _ hxy]
  apply Nat.eq_of_testBit_eq
  intro i
  rw [Nat.testBit_and, Nat.testBit_two_pow_mul_add _ hx, Nat.testBit_two_pow_mul_add _ hy, Nat.testBit_two_pow_mul_add _ hxy]
  split
  · rw [Nat.testBit_and]
  · rw [Nat.testBit_and]
theorem V8_and (hb : ∀ i, b i < 256) (hc : ∀ i, c i < 256) : V8 k b &&& V8 k c = V8 k (fun i => b i &&& c i) := by
  induction k generalizing b c with
  | zero => exact Nat.zero_and 0
  | succ k ih => rw [V8, V8, V8, and_256 (hb 0) (hc 0), ih (fun i => hb (i + 1)) (fun i => hc (i + 1))]
/-- a shift within bytes -/
theorem V8_shr (hs : s ≤ 8) (hb : ∀ i, b i < 256) (h0 : ∀ i, k ≤ i → b i = 0) : V8 k b / 2 ^ s = V8 k (fun i => b i / 2 ^ s + 2 ^ (8 - s) * (b (i + 1) % 2 ^ s)) := by
  induction k generalizing b with
  | zero => simp [V8]
  | succ k ih =>
    have e8 : 256 = 2 ^ s * 2 ^ (8 - s) := by rw [← Nat.pow_add, show s + (8 - s) = 8 by omega]
    have ih' := ih (b := fun i => b (i + 1)) (fun i => hb (i + 1)) (fun i hi => h0 (i + 1) (by omega))
    rw [V8, V8, ← ih']
    have p0 : 0 < 2 ^ s := Nat.pow_pos (by decide)
    have hmod : V8 k (fun i => b (i + 1)) % 2 ^ s = b 1 % 2 ^ s := by
      cases k with
      | zero =>
        rw [V8, h0 1 (by omega)]
      | succ k =>
        rw [V8, e8, Nat.mul_assoc, Nat.add_mul_mod_self_left]
    generalize V8 k (fun i => b (i + 1)) = W at hmod ⊢
    show (b 0 + 256 * W) / 2 ^ s = b 0 / 2 ^ s + 2 ^ (8 - s) * (b (0 + 1) % 2 ^ s) + 256 * (W / 2 ^ s)
    rw [Nat.zero_add, ← hmod]
    conv => lhs; rw [e8, Nat.mul_assoc, Nat.add_mul_div_left _ _ p0]
    conv => rhs; rw [e8]
    have := Nat.div_add_mod W (2 ^ s)
    conv => lhs; rw [← this, Nat.mul_add]
    rw [Nat.add_assoc, Nat.add_comm (2 ^ (8 - s) * (W % 2 ^ s)), show 2 ^ (8 - s) * (2 ^ s * (W / 2 ^ s)) = 2 ^ s * 2 ^ (8 - s) * (W / 2 ^ s) by rw [← Nat.mul_assoc, Nat.mul_comm (2 ^ (8 - s))]]
theorem V8_shr8 (hb : ∀ i, b i < 256) (h0 : ∀ i, k ≤ i → b i = 0) : V8 k b / 256 = V8 k (fun i => b (i + 1)) := by
  rw [show 256 = 2 ^ 8 from rfl, V8_shr (Nat.le_refl _) hb h0]
  refine V8_c (fun i _ => ?_)
  have h1 := hb i
  have h2 := hb (i + 1)
  show b i / 256 + 1 * (b (i + 1) % 256) = b (i + 1)
  omega
def p1 (x : Nat) : Nat := x - (x / 2 &&& 85)
def p2 (x : Nat) : Nat := (x &&& 51) + (x / 4 &&& 51)
def p3 (x : Nat) : Nat := (x + x / 16) % 16
def pc8 (x : Nat) : Nat := sl 8 (fun i => if x.testBit i then 1 else 0)
theorem p_ok : ∀ x, x < 256 → p3 (p2 (p1 x)) = pc8 x ∧ p1 x < 256 ∧ x / 2 &&& 85 ≤ x ∧ p2 (p1 x) ≤ 68 ∧ p2 (p1 x) % 16 ≤ 4 ∧ pc8 x ≤ 8 := by decide +kernel
theorem m85 : ∀ x, x < 128 → ∀ y, y < 2 → (x + 128 * y) &&& 85 = x &&& 85 := by decide +kernel
theorem m51 : ∀ x, x < 64 → ∀ y, y < 4 → (x + 64 * y) &&& 51 = x &&& 51 := by decide +kernel
theorem m15 : ∀ x, x < 256 → x &&& 15 = x % 16 := by decide +kernel
def by8 (N i : Nat) : Nat := N / 256 ^ i % 256
theorem by8_V : ∀ k N, N < 256 ^ k → V8 k (by8 N) = N := by
  intro k
  induction k with
  | zero =>
    intro N h
    have : N < 1 := h
    rw [V8]; omega
  | succ k ih =>
    intro N h
    have h2 : N / 256 < 256 ^ k := by
      rw [Nat.pow_succ] at h
      exact Nat.div_lt_of_lt_mul (by rw [Nat.mul_comm]; exact h)
    have e : ∀ i, by8 N (i + 1) = by8 (N / 256) i := fun i => by
      unfold by8
      rw [Nat.pow_succ, Nat.mul_comm, ← Nat.div_div_eq_div_mul]
    rw [V8, V8_c (c := by8 (N / 256)) (fun i _ => e i), ih _ h2]
    unfold by8
    rw [Nat.pow_zero, Nat.div_one]
    omega
theorem by8_0 {N : Nat} (h : N < 256 ^ 8) {i : Nat} (hi : 8 ≤ i) : by8 N i = 0 := by
  unfold by8
  rw [Nat.div_eq_of_lt (Nat.lt_of_lt_of_le h (Nat.pow_le_pow_right (by decide) hi))]
theorem V8_cst (x : Nat) : V8 8 (fun _ => x) = x * 72340172838076673 := by
  simp only [V8]; omega
theorem pc_s1 {N : Nat} (h : N < 256 ^ 8) : N - (N / 2 &&& 6148914691236517205) = V8 8 (fun i => p1 (by8 N i)) ∧ (N / 2 &&& 6148914691236517205) ≤ N := by
  have hb : ∀ i, by8 N i < 256 := fun i => Nat.mod_lt _ (by decide)
  have e : N / 2 &&& 6148914691236517205 = V8 8 (fun i => by8 N i / 2 &&& 85) := by
    rw [show (6148914691236517205 : Nat) = V8 8 (fun _ => 85) by rw [V8_cst]]
    conv => lhs; rw [← by8_V 8 N h, show (2 : Nat) = 2 ^ 1 from rfl, V8_shr (by decide) hb (fun i hi => by8_0 h hi)]
    rw [V8_and (fun i => by have := hb i; have := hb (i + 1); show by8 N i / 2 ^ 1 + 2 ^ (8 - 1) * (by8 N (i + 1) % 2 ^ 1) < 256; omega) (fun _ => by decide)]
    refine V8_c (fun i _ => ?_)
    have := hb i
    exact m85 _ (by omega) _ (by omega)
  rw [e]
  have q := V8_sub (k := 8) (b := by8 N) (c := fun i => by8 N i / 2 &&& 85) (fun i => (p_ok _ (hb i)).2.2.1)
  rw [by8_V 8 N h] at q
  exact q
theorem pc_s2 {N : Nat} (hb : ∀ i, b i < 256) (h0 : ∀ i, 8 ≤ i → b i = 0) (hN : N = V8 8 b) : (N &&& 3689348814741910323) + (N / 4 &&& 3689348814741910323) = V8 8 (fun i => p2 (b i)) := by
  rw [show (3689348814741910323 : Nat) = V8 8 (fun _ => 51) by rw [V8_cst], hN, V8_and hb (fun _ => by decide), show (4 : Nat) = 2 ^ 2 from rfl, V8_shr (by decide) hb h0, V8_and (fun i => by have := hb i; have := hb (i + 1); show b i / 2 ^ 2 + 2 ^ (8 - 2) * (b (i + 1) % 2 ^ 2) < 256; omega) (fun _ => by decide), V8_add]
  refine V8_c (fun i _ => ?_)
  have := hb i
  show (b i &&& 51) + ((b i / 4 + 64 * (b (i + 1) % 4)) &&& 51) = p2 (b i)
  rw [m51 _ (by omega) _ (by omega)]
  rfl
theorem pc_s3 {N : Nat} (hb : ∀ i, b i ≤ 68 ∧ b i % 16 ≤ 4) (h0 : ∀ i, 8 ≤ i → b i = 0) (hN : N = V8 8 b) : (N + N / 16) &&& 1085102592571150095 = V8 8 (fun i => p3 (b i)) := by
  rw [show (1085102592571150095 : Nat) = V8 8 (fun _ => 15) by rw [V8_cst], hN, show (16 : Nat) = 2 ^ 4 from rfl, V8_shr (by decide) (fun i => by have := hb i; omega) h0, V8_add, V8_and (fun i => by have := hb i; have := hb (i + 1); show b i + (b i / 2 ^ 4 + 2 ^ (8 - 4) * (b (i + 1) % 2 ^ 4)) < 256; omega) (fun _ => by decide)]
  refine V8_c (fun i _ => ?_)
  have := hb i
  have := hb (i + 1)
  show (b i + (b i / 16 + 16 * (b (i + 1) % 16))) &&& 15 = p3 (b i)
  rw [m15 _ (by omega)]
  unfold p3
  omega
theorem pc_s4 {N : Nat} (hb : ∀ i, b i ≤ 8) (h0 : ∀ i, 8 ≤ i → b i = 0) (hN : N = V8 8 b) : ∃ n4 n5 n6, n4 = N + N / 256 ∧ n5 = n4 + n4 / 65536 ∧ n6 = n5 + n5 / 4294967296 ∧ n6 < 256 ^ 8 ∧ n6 % 128 = sl 8 b := by
  have s8 : ∀ (c : Nat → Nat), (∀ i, c i < 256) → (∀ i, 8 ≤ i → c i = 0) → V8 8 c / 256 = V8 8 (fun i => c (i + 1)) := fun c h1 h2 => V8_shr8 h1 h2
  have s16 : ∀ (c : Nat → Nat), (∀ i, c i < 256) → (∀ i, 8 ≤ i → c i = 0) → V8 8 c / 65536 = V8 8 (fun i => c (i + 2)) := fun c h1 h2 => by
    rw [show (65536 : Nat) = 256 * 256 from rfl, ← Nat.div_div_eq_div_mul, s8 c h1 h2, s8 _ (fun i => h1 (i + 1)) (fun i hi => h2 (i + 1) (by omega))]
  have s32 : ∀ (c : Nat → Nat), (∀ i, c i < 256) → (∀ i, 8 ≤ i → c i = 0) → V8 8 c / 4294967296 = V8 8 (fun i => c (i + 4)) := fun c h1 h2 => by
    rw [show (4294967296 : Nat) = 65536 * 65536 from rfl, ← Nat.div_div_eq_div_mul, s16 c h1 h2, s16 _ (fun i => h1 (i + 2)) (fun i hi => h2 (i + 2) (by omega))]
  refine ⟨_, _, _, rfl, rfl, rfl, ?_⟩
  rw [hN, s8 b (fun i => by have := hb i; omega) h0, V8_add, s16 _ (fun i => by have := hb i; have := hb (i + 1); omega) (fun i hi => by rw [h0 i hi, h0 (i + 1) (by omega)]), V8_add, s32 _ (fun i => by have := hb i; have := hb (i + 1); have := hb (i + 2); have := hb (i + 2 + 1); show b i + b (i + 1) + (b (i + 2) + b (i + 2 + 1)) < 256; omega) (fun i hi => by
    show b i + b (i + 1) + (b (i + 2) + b (i + 2 + 1)) = 0
    rw [h0 i hi, h0 (i + 1) (by omega), h0 (i + 2) (by omega), h0 (i + 2 + 1) (by omega)]), V8_add]
  constructor
  · refine V8_lt (fun i => ?_)
    show b i + b (i + 1) + (b (i + 2) + b (i + 2 + 1)) + (b (i + 4) + b (i + 4 + 1) + (b (i + 4 + 2) + b (i + 4 + 2 + 1))) < 256
    have h0 := hb i
    have h1 := hb (i + 1)
    have h2 := hb (i + 2)
    have h3 := hb (i + 2 + 1)
    have h4 := hb (i + 4)
    have h5 := hb (i + 4 + 1)
    have h6 := hb (i + 4 + 2)
    have h7 := hb (i + 4 + 2 + 1)
    omega
  · rw [V8]
    have e : sl 8 b = b 0 + b 1 + b 2 + b 3 + b 4 + b 5 + b 6 + b 7 := by
      rw [sl_s, sl_s, sl_s, sl_s, sl_s, sl_s, sl_s, sl_s, sl_0, Nat.zero_add]
    rw [e]
    show (b 0 + b 1 + (b 2 + b 3) + (b 4 + b 5 + (b 6 + b 7)) + 256 * _) % 128 = _
    have h0 := hb 0
    have h1 := hb 1
    have h2 := hb 2
    have h3 := hb 3
    have h4 := hb 4
    have h5 := hb 5
    have h6 := hb 6
    have h7 := hb 7
    omega
/-- the bits of a number below 2^64 -/
def pcL (N : Nat) : Nat := sl 64 (fun i => if N.testBit i then 1 else 0)
theorem by8_bit {N i j : Nat} (hj : j < 8) : (by8 N i).testBit j = N.testBit (8 * i + j) := by
  unfold by8
  rw [show (256 : Nat) = 2 ^ 8 from rfl, Nat.testBit_mod_two_pow, decide_eq_true hj, Bool.true_and, ← Nat.pow_mul, Nat.testBit_div_two_pow, Nat.add_comm]
theorem sl_cat {g : Nat → Nat} (n m : Nat) : sl (n + m) g = sl n g + sl m (fun i => g (n + i)) := by
  induction m with
  | zero => rfl
  | succ m ih => rw [show n + (m + 1) = n + m + 1 by omega, sl_s, sl_s, ih]; omega
theorem pcL_8 (N : Nat) : sl 8 (fun i => pc8 (by8 N i)) = pcL N := by
  have key : ∀ k, sl k (fun i => pc8 (by8 N i)) = sl (8 * k) (fun i => if N.testBit i then 1 else 0) := by
    intro k
    induction k with
    | zero => rfl
    | succ k ih =>
      rw [sl_s, ih, show 8 * (k + 1) = 8 * k + 8 by omega, sl_cat]
      congr 1
      exact sl_c (fun j hj => by rw [by8_bit hj])
  exact key 8
theorem pc64 {N : Nat} (h : N < 2 ^ 64) : ∃ n1 n2 n3 n4 n5 n6, (N / 2 &&& 6148914691236517205) ≤ N ∧ n1 = N - (N / 2 &&& 6148914691236517205) ∧ n2 = (n1 &&& 3689348814741910323) + (n1 / 4 &&& 3689348814741910323) ∧ n3 = (n2 + n2 / 16) &&& 1085102592571150095 ∧ n4 = n3 + n3 / 256 ∧ n5 = n4 + n4 / 65536 ∧ n6 = n5 + n5 / 4294967296 ∧ n2 < 2 ^ 63 ∧ n6 < 2 ^ 64 ∧ n6 % 128 = pcL N := by
  have hb : ∀ i, by8 N i < 256 := fun i => Nat.mod_lt _ (by decide)
  have hz : ∀ i, 8 ≤ i → by8 N i = 0 := fun i hi => by8_0 h hi
  obtain ⟨e1, l1⟩ := pc_s1 (N := N) h
  have e2 := pc_s2 (b := fun i => p1 (by8 N i)) (fun i => (p_ok _ (hb i)).2.1) (fun i hi => by show p1 (by8 N i) = 0; rw [hz i hi]; rfl) e1
  have e3 := pc_s3 (b := fun i => p2 (p1 (by8 N i))) (fun i => ⟨(p_ok _ (hb i)).2.2.2.1, (p_ok _ (hb i)).2.2.2.2.1⟩) (fun i hi => by show p2 (p1 (by8 N i)) = 0; rw [hz i hi]; rfl) e2
  obtain ⟨n4, n5, n6, h4, h5, h6, h7, h8⟩ := pc_s4 (b := fun i => p3 (p2 (p1 (by8 N i)))) (fun i => by show p3 (p2 (p1 (by8 N i))) ≤ 8; rw [(p_ok _ (hb i)).1]; exact (p_ok _ (hb i)).2.2.2.2.2) (fun i hi => by show p3 (p2 (p1 (by8 N i))) = 0; rw [hz i hi]; rfl) e3
  refine ⟨_, _, _, n4, n5, n6, l1, rfl, rfl, rfl, h4, h5, h6, ?_, h7, ?_⟩
  · rw [e2]
    have : V8 8 (fun i => p2 (p1 (by8 N i))) ≤ V8 8 (fun _ => 68) := by
      have := (V8_sub (k := 8) (b := fun _ => 68) (c := fun i => p2 (p1 (by8 N i))) (fun i => (p_ok _ (hb i)).2.2.2.1)).2
      exact this
    rw [V8_cst] at this
    omega
  · rw [h8, ← pcL_8]
    exact sl_c (fun i _ => (p_ok _ (hb i)).1)
end PC0
