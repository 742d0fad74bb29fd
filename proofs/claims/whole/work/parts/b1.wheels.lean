/-! wheels: both sides -/
section WH0
variable {G : zG} {I I' I1 I2 I3 : Nat → Nat → Int32} {J J' J2 : Nat → Nat → Int64} {P : Nat → Nat → Option Nat} {S : List (Nat × Nat)} {f d nt np nl nn n fed mk t k p q s al r fr us m i u st : Nat} {a c x : Int32} {w : zW} {kk : Nat → Nat} {gv : Nat → Int32} {gg : Nat → Nat → Bool}
/-- who gives to whom -/
def gGv (A B C : Nat → Int32) (kk : Nat → Nat) (np nn p : Nat) : Int32 := s_or (fun t => decide (C t = nI p)) (fun t => B p &&& s_set (fun q => zB (A q) (kk t)) np) nn
/-- the reference's row -/
def s_ro (gg : Nat → Nat → Bool) (np front : Nat) : Nat → Nat → Int32 → Int32
  | 0, last, _ => if gg last front then nI 1 else nI 0
  | m + 1, last, seen => s_sum (fun q => decide (front < q) && !zB seen q && gg last q) (fun q => s_ro gg np front m q (seen ||| (nI 1 <<< (nI q &&& 31)))) np
theorem sum_up {b : Nat → Bool} {v : Nat → Int32} (h : ∀ i, n ≤ i → i < n + m → b i = false) : s_sum b v (n + m) = s_sum b v n := by
  induction m with
  | zero => rfl
  | succ m ih => rw [show n + (m + 1) = n + m + 1 by omega, s_sum, if_neg (by rw [h (n + m) (by omega) (by omega)]; decide), ih (fun i h1 h2 => h i h1 (by omega))]
theorem sum_c {b b' : Nat → Bool} {v v' : Nat → Int32} (h : ∀ i, i < n → b' i = b i) (hv : ∀ i, i < n → b i = true → v' i = v i) : s_sum b' v' n = s_sum b v n := by
  have : ∀ m, m ≤ n → s_sum b' v' m = s_sum b v m := by
    intro m
    induction m with
    | zero => intro _; rfl
    | succ m ih =>
      intro hm
      rw [s_sum, s_sum, ih (by omega), h m (by omega)]
      by_cases hb : b m = true
      · rw [if_pos hb, if_pos hb, hv m (by omega) hb]
      · rw [if_neg hb, if_neg hb]
  exact this n (Nat.le_refl _)
theorem wh_ro (hn : np ≤ 7) (hg : ∀ p q, p < 7 → q < 32 → zB (gv p) q = gg p q) (hl : ∀ p q, q < 32 → gg p q = true → q < np) (hf : k < 7) : ∀ m last c r, last < 7 → (∀ j, j < 7 → zB c j = (decide (j ≤ k) || zB r j)) → s_wh gv k m last c = s_ro gg np k m last r := by
  intro m
  induction m with
  | zero =>
    intro last c r hlast _
    rw [s_wh, s_ro, ← hg last k hlast (by omega)]
    by_cases h : zbit (gv last) k
    · rw [if_pos h]; exact zbit_i.mpr h
    · rw [if_neg h, zbit_n.mpr h]; rfl
  | succ m ih =>
    intro last c r hlast hc
    rw [s_wh, s_ro]
    have e7 := sum_up (n := np) (m := 7 - np) (b := zB (gv last &&& (c ^^^ -1))) (v := fun i => s_wh gv k m i (c ||| (nI 1 <<< (nI i &&& 31)))) (fun i h1 h2 => by
      rw [zB_and (by omega), hg last i hlast (by omega)]
      cases h : gg last i with
      | false => rfl
      | true => have := hl last i (by omega) h; omega)
    rw [show np + (7 - np) = 7 by omega] at e7
    rw [e7]
    refine sum_c (fun i hi => ?_) (fun i hi hb => ?_)
    · rw [zB_and (by omega), zB_not (by omega), hg last i hlast (by omega), hc i (by omega)]
      by_cases h : k < i
      · rw [decide_eq_false (show ¬ i ≤ k by omega), decide_eq_true h]
        cases gg last i <;> cases zB r i <;> rfl
      · rw [decide_eq_true (show i ≤ k by omega), decide_eq_false h]
        cases gg last i <;> cases zB r i <;> rfl
    · refine ih i _ _ (by omega) (fun j hj => ?_)
      rw [zB_or (by omega), zB_or (by omega), hc j hj, Bool.or_assoc]
theorem sh2 : ∀ i, i < 7 → (nI 2 <<< (nI i &&& 31)) - nI 1 = nI (2 ^ (i + 1) - 1) := by decide +kernel
theorem ro_top (hn : np ≤ 7) (hg : ∀ p q, p < 7 → q < 32 → zB (gv p) q = gg p q) (hl : ∀ p q, q < 32 → gg p q = true → q < np) (hk : k < 7) : s_wh gv k m k (nI (2 ^ (k + 1) - 1)) = s_ro gg np k m k (nI 1 <<< (nI k &&& 31)) := by
  refine wh_ro hn hg hl hk m k _ _ hk (fun j hj => ?_)
  rw [zB_nI (by omega), Nat.testBit_two_pow_sub_one, zB_sh (by omega) (by omega)]
  by_cases h : j ≤ k
  · rw [decide_eq_true (show j < k + 1 by omega), decide_eq_true h]; rfl
  · rw [decide_eq_false (show ¬ j < k + 1 by omega), decide_eq_false h, decide_eq_false (by omega)]; rfl
end WH0
