/-! ===== Int32 by its bits: bt x i ===== -/
def bt (x : Int32) (i : Nat) : Bool := x.toBitVec.getLsbD i
theorem b_ext {x y : Int32} (h : ∀ i, i < 32 → bt x i = bt y i) : x = y := Int32.toBitVec_inj.mp (BitVec.eq_of_getLsbD_eq (fun i hi => h i hi))
theorem b_or (x y : Int32) (i : Nat) : bt (x ||| y) i = (bt x i || bt y i) := by unfold bt; rw [Int32.toBitVec_or, BitVec.getLsbD_or]
theorem b_and (x y : Int32) (i : Nat) : bt (x &&& y) i = (bt x i && bt y i) := by unfold bt; rw [Int32.toBitVec_and, BitVec.getLsbD_and]
theorem b_xor (x y : Int32) (i : Nat) : bt (x ^^^ y) i = (bt x i ^^ bt y i) := by unfold bt; rw [Int32.toBitVec_xor, BitVec.getLsbD_xor]
theorem b_big {x : Int32} {i : Nat} (h : 32 ≤ i) : bt x i = false := BitVec.getLsbD_of_ge _ _ h
theorem b_255 (i : Nat) : bt 255 i = decide (i < 8) := by
  rcases Nat.lt_or_ge i 32 with h | h
  · exact (by decide +kernel : ∀ i, i < 32 → bt 255 i = decide (i < 8)) i h
  · rw [b_big h, decide_eq_false (by omega)]
theorem b_65535 (i : Nat) : bt 65535 i = decide (i < 16) := by
  rcases Nat.lt_or_ge i 32 with h | h
  · exact (by decide +kernel : ∀ i, i < 32 → bt 65535 i = decide (i < 16)) i h
  · rw [b_big h, decide_eq_false (by omega)]
theorem b_m1 : ∀ i, i < 32 → bt (-1) i = true := by decide +kernel
theorem b_0 (i : Nat) : bt 0 i = false := BitVec.getLsbD_zero
theorem s_l : ∀ n, n < 32 → ((nI n &&& 31).toBitVec.smod 32).toNat = n := by decide +kernel
theorem s_u : ∀ n, n < 32 → (((nI n).toUInt32 &&& Int32.toUInt32 31).toBitVec % 32).toNat = n := by decide +kernel
theorem b_shl (n : Nat) (hn : n < 32) (x : Int32) {i : Nat} (hi : i < 32) : bt (x <<< (nI n &&& 31)) i = (decide (n ≤ i) && bt x (i - n)) := by
  unfold bt
  rw [Int32.toBitVec_shiftLeft]
  show (x.toBitVec <<< ((nI n &&& 31).toBitVec.smod 32).toNat).getLsbD i = _
  rw [s_l n hn, BitVec.getLsbD_shiftLeft]
  rcases Nat.lt_or_ge i n with h | h
  · simp [h, Nat.not_le.mpr h]
  · simp [hi, h, Nat.not_lt.mpr h]
theorem b_ushr (n : Nat) (hn : n < 32) (x : Int32) (i : Nat) : bt ((x.toUInt32 >>> ((nI n).toUInt32 &&& Int32.toUInt32 31)).toInt32) i = bt x (n + i) := by
  show (x.toUInt32 >>> ((nI n).toUInt32 &&& Int32.toUInt32 31)).toBitVec.getLsbD i = x.toUInt32.toBitVec.getLsbD (n + i)
  rw [UInt32.toBitVec_shiftRight]
  show (x.toUInt32.toBitVec >>> (((nI n).toUInt32 &&& Int32.toUInt32 31).toBitVec % 32).toNat).getLsbD i = _
  rw [s_u n hn, BitVec.getLsbD_ushiftRight]
theorem b_sshr (n : Nat) (hn : n < 32) (x : Int32) {i : Nat} (hi : i < 32) : bt (x >>> (nI n &&& 31)) i = if n + i < 32 then bt x (n + i) else bt x 31 := by
  unfold bt
  rw [Int32.toBitVec_shiftRight]
  show (x.toBitVec.sshiftRight ((nI n &&& 31).toBitVec.smod 32).toNat).getLsbD i = _
  rw [s_l n hn, BitVec.getLsbD_sshiftRight, BitVec.msb_eq_getLsbD_last]
  simp [hi]
theorem b_shl8 (x : Int32) {i : Nat} (hi : i < 32) : bt (x <<< ((8 : Int32) &&& 31)) i = (decide (8 ≤ i) && bt x (i - 8)) := b_shl 8 (by omega) x hi
theorem b_shl16 (x : Int32) {i : Nat} (hi : i < 32) : bt (x <<< ((16 : Int32) &&& 31)) i = (decide (16 ≤ i) && bt x (i - 16)) := b_shl 16 (by omega) x hi
theorem b_shl24 (x : Int32) {i : Nat} (hi : i < 32) : bt (x <<< ((24 : Int32) &&& 31)) i = (decide (24 ≤ i) && bt x (i - 24)) := b_shl 24 (by omega) x hi
theorem b_sshr8 (x : Int32) {i : Nat} (hi : i < 32) : bt (x >>> ((8 : Int32) &&& 31)) i = if 8 + i < 32 then bt x (8 + i) else bt x 31 := b_sshr 8 (by omega) x hi
/-! ===== nI under and, xor, >>>, one bit, 65535 ===== -/
theorem nx_and (a b : Nat) : nI a &&& nI b = nI (a &&& b) := by
  apply Int32.toBitVec_inj.1
  show BitVec.ofNat 32 a &&& BitVec.ofNat 32 b = BitVec.ofNat 32 (a &&& b)
  apply BitVec.eq_of_getLsbD_eq
  intro i hi
  simp [hi]
theorem nx_xor (a b : Nat) : nI a ^^^ nI b = nI (a ^^^ b) := by
  apply Int32.toBitVec_inj.1
  show BitVec.ofNat 32 a ^^^ BitVec.ofNat 32 b = BitVec.ofNat 32 (a ^^^ b)
  apply BitVec.eq_of_getLsbD_eq
  intro i hi
  simp [hi]
/-! bits of a walk's sets (the two families above: kit/laws/BITS.to-paste) -/
/-- the bit t of a number -/
def zB (x : Int32) (t : Nat) : Bool := decide ((x >>> (nI t &&& 31)) &&& nI 1 = nI 1)
abbrev zbit (x : Int32) (t : Nat) : Prop := zB x t = true
theorem zbit_i {x : Int32} {t : Nat} : (x >>> (nI t &&& 31)) &&& nI 1 = nI 1 ↔ zbit x t := by
  unfold zbit zB
  rw [decide_eq_true_iff]
theorem zand1 (x : Int32) : x &&& nI 1 = 0 ∨ x &&& nI 1 = nI 1 := by
  obtain ⟨j, hj, e⟩ := pk_andE x (m := nI 1) 1 (by decide)
  rcases (show j = 0 ∨ j = 1 by omega) with rfl | rfl
  · exact Or.inl (by rw [e]; decide)
  · exact Or.inr e
theorem zbit_n {x : Int32} {t : Nat} : (x >>> (nI t &&& 31)) &&& nI 1 = 0 ↔ ¬ zbit x t := by
  constructor
  · intro h h2
    rw [← zbit_i, h] at h2
    exact absurd h2 (by decide)
  · intro h
    rcases zand1 (x >>> (nI t &&& 31)) with h2 | h2
    · exact h2
    · exact absurd (zbit_i.mp h2) h
theorem zbit_n0 {x : Int32} {t : Nat} : (x >>> (nI t &&& 31)) &&& nI 1 = nI 0 ↔ ¬ zbit x t := by rw [nI_0]; exact zbit_n
theorem zbit_p {x : Int32} {t : Nat} : ¬ (x >>> (nI t &&& 31)) &&& nI 1 = 0 ↔ zbit x t := by rw [zbit_n, Classical.not_not]
theorem zbit_p0 {x : Int32} {t : Nat} : ¬ (x >>> (nI t &&& 31)) &&& nI 1 = nI 0 ↔ zbit x t := by rw [nI_0]; exact zbit_p
theorem zB_bt {x : Int32} {t : Nat} (h : t < 32) : zB x t = bt x t := by
  have h1 : bt (x >>> (nI t &&& 31)) 0 = bt x t := by
    rw [b_sshr t h x (by decide)]
    simp [h]
  have h2 : bt ((x >>> (nI t &&& 31)) &&& nI 1) 0 = bt x t := by
    rw [b_and, h1]
    have : bt (nI 1) 0 = true := by decide
    rw [this, Bool.and_true]
  unfold zB
  rcases zand1 (x >>> (nI t &&& 31)) with h3 | h3
  · rw [h3, b_0] at h2
    rw [h3, ← h2]
    decide
  · rw [h3] at h2
    rw [h3, ← h2]
    decide
theorem zB_and {x y : Int32} {t : Nat} (h : t < 32) : zB (x &&& y) t = (zB x t && zB y t) := by rw [zB_bt h, zB_bt h, zB_bt h, b_and]
theorem zB_or {x y : Int32} {t : Nat} (h : t < 32) : zB (x ||| y) t = (zB x t || zB y t) := by rw [zB_bt h, zB_bt h, zB_bt h, b_or]
theorem zB_xor {x y : Int32} {t : Nat} (h : t < 32) : zB (x ^^^ y) t = (zB x t ^^ zB y t) := by rw [zB_bt h, zB_bt h, zB_bt h, b_xor]
theorem zB_m1 {t : Nat} (h : t < 32) : zB (-1) t = true := by rw [zB_bt h]; exact b_m1 t h
theorem zB_not {x : Int32} {t : Nat} (h : t < 32) : zB (x ^^^ -1) t = !zB x t := by rw [zB_xor h, zB_m1 h, Bool.xor_true]
theorem zB_nI {s t : Nat} (h : t < 32) : zB (nI s) t = s.testBit t := by
  rw [zB_bt h]
  show (BitVec.ofNat 32 s).getLsbD t = _
  rw [BitVec.getLsbD_ofNat]
  simp [h]
theorem zB_sh {i t : Nat} (hi : i < 32) (ht : t < 32) : zB (nI 1 <<< (nI i &&& 31)) t = decide (t = i) := by
  rw [zB_bt ht, b_shl i hi _ ht]
  by_cases h : t = i
  · subst h
    simp only [Nat.le_refl, decide_true, Nat.sub_self, Bool.true_and]
    decide
  · by_cases h2 : i ≤ t
    · have : bt (nI 1) (t - i) = false := by
        have := (by decide +kernel : ∀ k, k < 32 → k ≠ 0 → bt (nI 1) k = false) (t - i) (by omega) (by omega)
        exact this
      simp [h, this]
    · simp [h, h2]
theorem zB_ext {x y : Int32} (h : ∀ i, i < 32 → zB x i = zB y i) : x = y := b_ext (fun i hi => by rw [← zB_bt hi, ← zB_bt hi]; exact h i hi)
theorem nx_or (a b : Nat) : nI a ||| nI b = nI (a ||| b) := by
  apply Int32.toBitVec_inj.1
  show BitVec.ofNat 32 a ||| BitVec.ofNat 32 b = BitVec.ofNat 32 (a ||| b)
  apply BitVec.eq_of_getLsbD_eq
  intro i hi
  simp [hi]
theorem nx_sh : ∀ i, i < 31 → nI 1 <<< (nI i &&& 31) = nI (2 ^ i) := by decide +kernel
/-- a set by its members below n -/
def s_set (b : Nat → Bool) : Nat → Int32
  | 0 => nI 0
  | n + 1 => if b n then s_set b n ||| (nI 1 <<< (nI n &&& 31)) else s_set b n
/-- a sum over the members below n -/
def s_sum (b : Nat → Bool) (v : Nat → Int32) : Nat → Int32
  | 0 => nI 0
  | n + 1 => if b n then s_sum b v n + v n else s_sum b v n
/-- all members' values joined -/
def s_or (b : Nat → Bool) (v : Nat → Int32) : Nat → Int32
  | 0 => nI 0
  | n + 1 => if b n then s_or b v n ||| v n else s_or b v n
/-- the first member from j on, of m -/
def s_first (b : Nat → Bool) : Nat → Nat → Int32
  | 0, _ => -1
  | m + 1, j => if b j then nI j else s_first b m (j + 1)
def s_setN (b : Nat → Bool) : Nat → Nat
  | 0 => 0
  | n + 1 => if b n then s_setN b n ||| 2 ^ n else s_setN b n
theorem s_set_N (b : Nat → Bool) : ∀ n, n ≤ 31 → s_set b n = nI (s_setN b n) := by
  intro n
  induction n with
  | zero => intro _; rfl
  | succ n ih =>
    intro h
    rw [s_set, s_setN, ih (by omega), nx_sh n (by omega), nx_or]
    split <;> rfl
theorem s_setN_lt (b : Nat → Bool) : ∀ n, s_setN b n < 2 ^ n := by
  intro n
  induction n with
  | zero => exact Nat.one_pos
  | succ n ih =>
    rw [s_setN]
    split
    · exact Nat.or_lt_two_pow (by rw [Nat.pow_succ]; omega) (Nat.pow_lt_pow_right (by decide) (by omega))
    · rw [Nat.pow_succ]; omega
theorem s_setN_bit (b : Nat → Bool) (i : Nat) : ∀ n, (s_setN b n).testBit i = (decide (i < n) && b i) := by
  intro n
  induction n with
  | zero => simp [s_setN]
  | succ n ih =>
    rw [s_setN]
    by_cases h : i = n
    · subst h
      split
      · rename_i hb
        simp [hb, Nat.testBit_or, ih]
      · rename_i hb
        simp [ih]
        simpa using hb
    · have e : decide (i < n + 1) = decide (i < n) := by
        by_cases h2 : i < n
        · simp [h2, Nat.lt_succ_of_lt h2]
        · simp [h2, show ¬ i < n + 1 by omega]
      split
      · rw [Nat.testBit_or, ih, e, Nat.testBit_two_pow]
        simp [show ¬ n = i from fun q => h q.symm]
      · rw [ih, e]
theorem s_set_bit (b : Nat → Bool) {i n : Nat} (hi : i < 32) (hn : n ≤ 31) : zB (s_set b n) i = (decide (i < n) && b i) := by rw [s_set_N b n hn, zB_nI hi, s_setN_bit]
theorem s_set_congr {b b' : Nat → Bool} : ∀ n, (∀ i, i < n → b i = b' i) → s_set b n = s_set b' n := by
  intro n
  induction n with
  | zero => intro _; rfl
  | succ n ih => intro h; rw [s_set, s_set, ih (fun i hi => h i (by omega)), h n (by omega)]
theorem s_sum_congr {b b' : Nat → Bool} {v v' : Nat → Int32} : ∀ n, (∀ i, i < n → b i = b' i ∧ (b i = true → v i = v' i)) → s_sum b v n = s_sum b' v' n := by
  intro n
  induction n with
  | zero => intro _; rfl
  | succ n ih =>
    intro h
    rw [s_sum, s_sum, ih (fun i hi => h i (by omega)), (h n (by omega)).1]
    split
    · rename_i hb
      rw [(h n (by omega)).2 ((h n (by omega)).1.trans hb)]
    · rfl
/-- how many of the nine lowest bits -/
def pcN (s : Nat) : Nat := ((List.range 9).filter (fun i => s.testBit i)).length
