/-! the class: tokens -/
section TK0
theorem zu_zu {α : Type} (f : Nat → Nat → α) (a k : Nat) (x y : α) : zu (zu f a k x) a k y = zu f a k y := by
  funext u v
  by_cases h : u = a ∧ v = k
  · simp [zu, h]
  · simp only [zu, if_neg h]
theorem zu_id {α : Type} {f : Nat → Nat → α} {a k : Nat} {x : α} (h : f a k = x) : zu f a k x = f := by
  funext u v
  by_cases h2 : u = a ∧ v = k
  · obtain ⟨rfl, rfl⟩ := h2
    simp [zu, h]
  · simp only [zu, if_neg h2]
theorem zu_comm {α : Type} (f : Nat → Nat → α) {a k b l : Nat} (x y : α) (h : ¬ (a = b ∧ k = l)) : zu (zu f a k x) b l y = zu (zu f b l y) a k x := by
  funext u v
  by_cases h1 : u = a ∧ v = k
  · have h2 : ¬ (u = b ∧ v = l) := by rintro ⟨rfl, rfl⟩; exact h ⟨h1.1.symm, h1.2.symm⟩
    simp only [zu, if_pos h1, if_neg h2]
  · by_cases h2 : u = b ∧ v = l
    · simp only [zu, if_neg h1, if_pos h2]
    · simp only [zu, if_neg h1, if_neg h2]
theorem zu_4 {α : Type} (f : Nat → Nat → α) {k l : Nat} (a : Nat) (x y x' y' : α) (h : k ≠ l) : zu (zu (zu (zu f a k x) a l y) a k x') a l y' = zu (zu f a k x') a l y' := by
  rw [zu_comm (zu f a k x) y x' (by omega), zu_zu, zu_zu]
def s_run (b : Nat → Bool) : Nat → Nat → Nat
  | 0, p => p
  | n + 1, p => if b p then s_run b n (p + 1) else p
theorem s_run_end {b : Nat → Bool} {L j : Nat} (h : L ≤ j) : s_run b (L - j) j = j := by rw [Nat.sub_eq_zero_of_le h]; rfl
theorem s_run_go {b : Nat → Bool} {L j : Nat} (h : j < L) (hb : b j = true) : s_run b (L - j) j = s_run b (L - (j + 1)) (j + 1) := by
  rw [show L - j = (L - (j + 1)) + 1 by omega, s_run, if_pos hb]
theorem s_run_stop {b : Nat → Bool} {L j : Nat} (hb : b j = false) : s_run b (L - j) j = j := by
  cases h : L - j with
  | zero => rfl
  | succ n => rw [s_run, if_neg (by rw [hb]; decide)]
theorem s_run_ge {b : Nat → Bool} : ∀ n p, p ≤ s_run b n p ∧ s_run b n p ≤ p + n
  | 0, p => ⟨Nat.le_refl _, Nat.le_refl _⟩
  | n + 1, p => by
    have := s_run_ge (b := b) n (p + 1)
    rw [s_run]
    split <;> omega
theorem s_run_in {b : Nat → Bool} : ∀ n p i, p ≤ i → i < s_run b n p → b i = true
  | 0, p, i, h1, h2 => by rw [s_run] at h2; omega
  | n + 1, p, i, h1, h2 => by
    rw [s_run] at h2
    split at h2
    · rename_i hb
      by_cases e : i = p
      · rw [e]; exact hb
      · exact s_run_in n (p + 1) i (by omega) h2
    · omega
theorem s_run_at {b : Nat → Bool} : ∀ n p, s_run b n p < p + n → b (s_run b n p) = false
  | 0, p, h => by rw [s_run] at h; omega
  | n + 1, p, h => by
    rw [s_run] at h ⊢
    split
    · rename_i hb
      rw [if_pos hb] at h
      exact s_run_at n (p + 1) (by omega)
    · rename_i hb
      simpa using hb
def c_ws (x : Int32) : Bool := decide (x = nI 10) || decide (x = nI 32)
def c_le (x : Int32) : Bool := decide (¬ x < nI 97) && decide (¬ nI 122 < x)
def c_di (x : Int32) : Bool := decide (¬ x < nI 48) && decide (¬ nI 57 < x)
def c_sg (x : Int32) : Bool := decide (x = nI 59) || decide (x = nI 60) || decide (x = nI 62) || decide (x = nI 61)
def s_code (T : Nat → Int32) (s : Nat) : Nat → Int64
  | 0 => lN 0
  | n + 1 => s_code T s n * 32 + (T (s + n) - nI 97 + nI 1).toInt64
def s_num (T : Nat → Int32) (s : Nat) : Nat → Int32
  | 0 => nI 0
  | n + 1 => s_num T s n * nI 10 + T (s + n) - nI 48
def s_kw (K : Nat → Int64) (c : Int64) : Nat → Int32
  | 0 => -1
  | n + 1 => if K n = c then nI n else s_kw K c n
/-- a token: kind, start, end, word, keyword, number, sign -/
abbrev tk : Type := Nat × Nat × Nat × Int64 × Int32 × Int32 × Int32
abbrev tkd (t : tk) : Nat := t.1
abbrev tst (t : tk) : Nat := t.2.1
abbrev ten (t : tk) : Nat := t.2.2.1
abbrev twd (t : tk) : Int64 := t.2.2.2.1
abbrev tkw (t : tk) : Int32 := t.2.2.2.2.1
abbrev tnu (t : tk) : Int32 := t.2.2.2.2.2.1
abbrev tsg (t : tk) : Int32 := t.2.2.2.2.2.2
def s_tok1 (T : Nat → Int32) (L : Nat) (K : Nat → Int64) (s : Nat) : tk :=
  if L ≤ s then ⟨0, s, s, lN 0, -1, nI 0, nI 0⟩
  else if c_le (T s) then
    (let e := s_run (fun i => c_le (T i)) (L - s) s
     if e - s ≤ 8 then ⟨1, s, e, s_code T s (e - s), s_kw K (s_code T s (e - s)) 21, nI 0, nI 0⟩ else ⟨1, s, e, lN 0, -1, nI 0, nI 0⟩)
  else if c_di (T s) then
    (let e := s_run (fun i => c_di (T i)) (L - s) s
     ⟨if e - s ≤ 4 then 2 else 4, s, e, lN 0, -1, s_num T s (min (e - s) 4), nI 0⟩)
  else ⟨if c_sg (T s) then 3 else 4, s, s + 1, lN 0, -1, nI 0, if c_sg (T s) then T s else nI 0⟩
def s_tok (T : Nat → Int32) (L : Nat) (K : Nat → Int64) (p : Nat) : tk := s_tok1 T L K (s_run (fun i => c_ws (T i)) (L - p) p)
end TK0
section TK1
variable {G : zG} {I : Nat → Nat → Int32} {J : Nat → Nat → Int64} {P : Nat → Nat → Option Nat} {S : List (Nat × Nat)} {q l L : Nat} {a b : Int32}
def tkOk (P : Nat → Nat → Option Nat) (S : List (Nat × Nat)) (q l : Nat) : Prop := S[11]? = some (7, 12) ∧ P 11 0 = some q ∧ S[q]? = some (102, l) ∧ q ≠ 11 ∧ P 11 3 = some 13 ∧ S[13]? = some (101, 21)
theorem t_Tok_scanSign {s : Nat} (X : tkOk P S q l) (hs : s < l) (hl : l ≤ 900) (h2 : I 11 2 = nI s) : zEv G y_Tok_scanSign prog_9_method_6_code 3 1 0 0 [.ref 11] (I, J, P, S) (fun w => w = (zu (zu (zu I 11 4 (nI (if c_sg (I q s) then 3 else 4))) 11 9 (if c_sg (I q s) then I q s else nI 0)) 11 2 (nI (s + 1)), J, P, S)) := by
  obtain ⟨X0, X1, X2, X3, X4, X5⟩ := X
  refine zEv_of (lv := [some (.ref 11), none, none]) (by decide) rfl (Nat.le_of_ble_eq_true rfl) ?_
  refine z_aload_0 d_Tok_scanSign_0 ?_
  refine z_getR d_Tok_scanSign_1 f_Tok_7 (by first | assumption | exact zS0_at (by assumption) (by omega) | exact zS0_at rfl (by omega)) (by first | assumption | exact zS0_at (by assumption) (by omega) | exact zS0_at rfl (by omega)) ?_
  refine z_aload_0 d_Tok_scanSign_4 ?_
  refine z_getIv d_Tok_scanSign_5 f_Tok_57 (by first | assumption | exact zS0_at (by assumption) (by omega) | exact zS0_at rfl (by omega)) (by first | assumption | ((try simp (disch := omega) only [zu_same, zu_ne, zcp_ne, zfl_ne]); first | assumption | rfl)) ?_
  first | refine z_baldNv d_Tok_scanSign_8 (by first | assumption | exact zS0_at (by assumption) (by omega) | exact zS0_at rfl (by omega)) (by omega) (by first | decide | omega) (by first | assumption | ((try simp (disch := omega) only [zu_same, zu_ne, zcp_ne, zfl_ne]); first | assumption | rfl)) ?_ | refine z_zaldNv d_Tok_scanSign_8 (by first | assumption | exact zS0_at (by assumption) (by omega) | exact zS0_at rfl (by omega)) (by omega) (by first | decide | omega) (by first | assumption | ((try simp (disch := omega) only [zu_same, zu_ne, zcp_ne, zfl_ne]); first | assumption | rfl)) ?_ | refine z_bald d_Tok_scanSign_8 (by first | assumption | exact zS0_at (by assumption) (by omega) | exact zS0_at rfl (by omega)) (by first | assumption | exact zS0_at (by assumption) (by omega) | exact zS0_at rfl (by omega)) ?_ | refine z_zald d_Tok_scanSign_8 (by first | assumption | exact zS0_at (by assumption) (by omega) | exact zS0_at rfl (by omega)) (by first | assumption | exact zS0_at (by assumption) (by omega) | exact zS0_at rfl (by omega)) ?_
  first | refine z_istore_1 d_Tok_scanSign_9 rfl ?_ | (refine z_forget_0 ?_; refine z_istore_1 d_Tok_scanSign_9 rfl ?_)
  have pos : c_sg (I q s) = true → zA G y_Tok_scanSign prog_9_method_6_code 3 none (zRm 1 0 0) (zM G 0 0 (fun r w' => r = none ∧ (fun w => w = (zu (zu (zu I 11 4 (nI (if c_sg (I q s) then 3 else 4))) 11 9 (if c_sg (I q s) then I q s else nI 0)) 11 2 (nI (s + 1)), J, P, S)) w')) 34 [some (.ref 11), some (.int (I q s)), none] [] (I, J, P, S) 0 0 := by
    intro hc
    rw [hc]
    simp only [if_true]
    refine z_iconst (a := nI 1) d_Tok_scanSign_34 (by decide) ?_
    refine z_goto (tgt := 39) d_Tok_scanSign_35 (by decide) ?_
    first | refine z_istore_2 d_Tok_scanSign_39 rfl ?_ | (refine z_forget_1 ?_; refine z_istore_2 d_Tok_scanSign_39 rfl ?_)
    refine z_aload_0 d_Tok_scanSign_40 ?_
    refine z_iload_2 d_Tok_scanSign_41 ?_
    refine z_if_eq (tgt := 49) d_Tok_scanSign_42 (by decide) (fun h42 => ?_) (fun h42 => ?_)
    · first
      | (simp (disch := omega) only [← nI_0, nI_leI, nI_ltI, nI_eq, not_true_eq_false, not_false_eq_true] at h42; done)
      | (simp (disch := omega) only [← nI_0, nI_leI, nI_ltI, nI_eq, not_true_eq_false, not_false_eq_true] at h42; omega)
      | contradiction
      | exact absurd h42 (Int32.not_lt.mpr (by assumption))
      | exact absurd h42 (Int32.not_le.mpr (by assumption))
      | exact absurd h42 (by decide)
      | exact absurd (by decide) h42
      | ( try simp (disch := omega) only [← nI_0, nI_leI, nI_ltI, nI_eq, not_true_eq_false, not_false_eq_true] at h42
          (try have h42b := zbit_n0.mp h42); (try have h42b := zbit_p0.mp h42)
          refine z_iconst (a := nI 4) d_Tok_scanSign_49 (by decide) ?_
          refine z_putI d_Tok_scanSign_50 f_Tok_72 (by first | assumption | exact zS0_at (by assumption) (by omega) | exact zS0_at rfl (by omega)) ?_
          refine z_aload_0 d_Tok_scanSign_53 ?_
          refine z_iload_2 d_Tok_scanSign_54 ?_
          refine z_if_eq (tgt := 62) d_Tok_scanSign_55 (by decide) (fun h55 => ?_) (fun h55 => ?_)
          · first
            | (simp (disch := omega) only [← nI_0, nI_leI, nI_ltI, nI_eq, not_true_eq_false, not_false_eq_true] at h55; done)
            | (simp (disch := omega) only [← nI_0, nI_leI, nI_ltI, nI_eq, not_true_eq_false, not_false_eq_true] at h55; omega)
            | contradiction
            | exact absurd h55 (Int32.not_lt.mpr (by assumption))
            | exact absurd h55 (Int32.not_le.mpr (by assumption))
            | exact absurd h55 (by decide)
            | exact absurd (by decide) h55
            | ( try simp (disch := omega) only [← nI_0, nI_leI, nI_ltI, nI_eq, not_true_eq_false, not_false_eq_true] at h55
                (try have h55b := zbit_n0.mp h55); (try have h55b := zbit_p0.mp h55)
                refine z_iconst (a := nI 0) d_Tok_scanSign_62 (by decide) ?_
                refine z_putI d_Tok_scanSign_63 f_Tok_69 (by first | assumption | exact zS0_at (by assumption) (by omega) | exact zS0_at rfl (by omega)) ?_
                refine z_aload_0 d_Tok_scanSign_66 ?_
                refine z_dup rfl d_Tok_scanSign_67 ?_
                refine z_getIv d_Tok_scanSign_68 f_Tok_57 (by first | assumption | exact zS0_at (by assumption) (by omega) | exact zS0_at rfl (by omega)) (by first | assumption | ((try simp (disch := omega) only [zu_same, zu_ne, zcp_ne, zfl_ne]); first | assumption | rfl)) ?_
                refine z_iconst (a := nI 1) d_Tok_scanSign_71 (by decide) ?_
                first | refine z_iaddN d_Tok_scanSign_72 ?_ | refine z_iadd d_Tok_scanSign_72 ?_
                refine z_putI d_Tok_scanSign_73 f_Tok_57 (by first | assumption | exact zS0_at (by assumption) (by omega) | exact zS0_at rfl (by omega)) ?_
                refine z_retv d_Tok_scanSign_76 ?_
                exact rfl)
          · first
            | (simp (disch := omega) only [← nI_0, nI_leI, nI_ltI, nI_eq, not_true_eq_false, not_false_eq_true] at h55; done)
            | (simp (disch := omega) only [← nI_0, nI_leI, nI_ltI, nI_eq, not_true_eq_false, not_false_eq_true] at h55; omega)
            | contradiction
            | exact absurd h55 (Int32.not_lt.mpr (by assumption))
            | exact absurd h55 (Int32.not_le.mpr (by assumption))
            | exact absurd h55 (by decide)
            | exact absurd (by decide) h55
            | ( try simp (disch := omega) only [← nI_0, nI_leI, nI_ltI, nI_eq, not_true_eq_false, not_false_eq_true] at h55
                (try have h55b := zbit_n0.mp h55); (try have h55b := zbit_p0.mp h55)
                refine z_iload_1 d_Tok_scanSign_58 ?_
                refine z_goto (tgt := 63) d_Tok_scanSign_59 (by decide) ?_
                refine z_putI d_Tok_scanSign_63 f_Tok_69 (by first | assumption | exact zS0_at (by assumption) (by omega) | exact zS0_at rfl (by omega)) ?_
                refine z_aload_0 d_Tok_scanSign_66 ?_
                refine z_dup rfl d_Tok_scanSign_67 ?_
                refine z_getIv d_Tok_scanSign_68 f_Tok_57 (by first | assumption | exact zS0_at (by assumption) (by omega) | exact zS0_at rfl (by omega)) (by first | assumption | ((try simp (disch := omega) only [zu_same, zu_ne, zcp_ne, zfl_ne]); first | assumption | rfl)) ?_
                refine z_iconst (a := nI 1) d_Tok_scanSign_71 (by decide) ?_
                first | refine z_iaddN d_Tok_scanSign_72 ?_ | refine z_iadd d_Tok_scanSign_72 ?_
                refine z_putI d_Tok_scanSign_73 f_Tok_57 (by first | assumption | exact zS0_at (by assumption) (by omega) | exact zS0_at rfl (by omega)) ?_
                refine z_retv d_Tok_scanSign_76 ?_
                exact rfl))
    · first
      | (simp (disch := omega) only [← nI_0, nI_leI, nI_ltI, nI_eq, not_true_eq_false, not_false_eq_true] at h42; done)
      | (simp (disch := omega) only [← nI_0, nI_leI, nI_ltI, nI_eq, not_true_eq_false, not_false_eq_true] at h42; omega)
      | contradiction
      | exact absurd h42 (Int32.not_lt.mpr (by assumption))
      | exact absurd h42 (Int32.not_le.mpr (by assumption))
      | exact absurd h42 (by decide)
      | exact absurd (by decide) h42
      | ( try simp (disch := omega) only [← nI_0, nI_leI, nI_ltI, nI_eq, not_true_eq_false, not_false_eq_true] at h42
          (try have h42b := zbit_n0.mp h42); (try have h42b := zbit_p0.mp h42)
          refine z_iconst (a := nI 3) d_Tok_scanSign_45 (by decide) ?_
          refine z_goto (tgt := 50) d_Tok_scanSign_46 (by decide) ?_
          refine z_putI d_Tok_scanSign_50 f_Tok_72 (by first | assumption | exact zS0_at (by assumption) (by omega) | exact zS0_at rfl (by omega)) ?_
          refine z_aload_0 d_Tok_scanSign_53 ?_
          refine z_iload_2 d_Tok_scanSign_54 ?_
          refine z_if_eq (tgt := 62) d_Tok_scanSign_55 (by decide) (fun h55 => ?_) (fun h55 => ?_)
          · first
            | (simp (disch := omega) only [← nI_0, nI_leI, nI_ltI, nI_eq, not_true_eq_false, not_false_eq_true] at h55; done)
            | (simp (disch := omega) only [← nI_0, nI_leI, nI_ltI, nI_eq, not_true_eq_false, not_false_eq_true] at h55; omega)
            | contradiction
            | exact absurd h55 (Int32.not_lt.mpr (by assumption))
            | exact absurd h55 (Int32.not_le.mpr (by assumption))
            | exact absurd h55 (by decide)
            | exact absurd (by decide) h55
            | ( try simp (disch := omega) only [← nI_0, nI_leI, nI_ltI, nI_eq, not_true_eq_false, not_false_eq_true] at h55
                (try have h55b := zbit_n0.mp h55); (try have h55b := zbit_p0.mp h55)
                refine z_iconst (a := nI 0) d_Tok_scanSign_62 (by decide) ?_
                refine z_putI d_Tok_scanSign_63 f_Tok_69 (by first | assumption | exact zS0_at (by assumption) (by omega) | exact zS0_at rfl (by omega)) ?_
                refine z_aload_0 d_Tok_scanSign_66 ?_
                refine z_dup rfl d_Tok_scanSign_67 ?_
                refine z_getIv d_Tok_scanSign_68 f_Tok_57 (by first | assumption | exact zS0_at (by assumption) (by omega) | exact zS0_at rfl (by omega)) (by first | assumption | ((try simp (disch := omega) only [zu_same, zu_ne, zcp_ne, zfl_ne]); first | assumption | rfl)) ?_
                refine z_iconst (a := nI 1) d_Tok_scanSign_71 (by decide) ?_
                first | refine z_iaddN d_Tok_scanSign_72 ?_ | refine z_iadd d_Tok_scanSign_72 ?_
                refine z_putI d_Tok_scanSign_73 f_Tok_57 (by first | assumption | exact zS0_at (by assumption) (by omega) | exact zS0_at rfl (by omega)) ?_
                refine z_retv d_Tok_scanSign_76 ?_
                exact rfl)
          · first
            | (simp (disch := omega) only [← nI_0, nI_leI, nI_ltI, nI_eq, not_true_eq_false, not_false_eq_true] at h55; done)
            | (simp (disch := omega) only [← nI_0, nI_leI, nI_ltI, nI_eq, not_true_eq_false, not_false_eq_true] at h55; omega)
            | contradiction
            | exact absurd h55 (Int32.not_lt.mpr (by assumption))
            | exact absurd h55 (Int32.not_le.mpr (by assumption))
            | exact absurd h55 (by decide)
            | exact absurd (by decide) h55
            | ( try simp (disch := omega) only [← nI_0, nI_leI, nI_ltI, nI_eq, not_true_eq_false, not_false_eq_true] at h55
                (try have h55b := zbit_n0.mp h55); (try have h55b := zbit_p0.mp h55)
                refine z_iload_1 d_Tok_scanSign_58 ?_
                refine z_goto (tgt := 63) d_Tok_scanSign_59 (by decide) ?_
                refine z_putI d_Tok_scanSign_63 f_Tok_69 (by first | assumption | exact zS0_at (by assumption) (by omega) | exact zS0_at rfl (by omega)) ?_
                refine z_aload_0 d_Tok_scanSign_66 ?_
                refine z_dup rfl d_Tok_scanSign_67 ?_
                refine z_getIv d_Tok_scanSign_68 f_Tok_57 (by first | assumption | exact zS0_at (by assumption) (by omega) | exact zS0_at rfl (by omega)) (by first | assumption | ((try simp (disch := omega) only [zu_same, zu_ne, zcp_ne, zfl_ne]); first | assumption | rfl)) ?_
                refine z_iconst (a := nI 1) d_Tok_scanSign_71 (by decide) ?_
                first | refine z_iaddN d_Tok_scanSign_72 ?_ | refine z_iadd d_Tok_scanSign_72 ?_
                refine z_putI d_Tok_scanSign_73 f_Tok_57 (by first | assumption | exact zS0_at (by assumption) (by omega) | exact zS0_at rfl (by omega)) ?_
                refine z_retv d_Tok_scanSign_76 ?_
                exact rfl))
  refine z_iload_1 d_Tok_scanSign_10 ?_
  refine z_bipush (a := nI 59) d_Tok_scanSign_11 (by decide) ?_
  refine z_icmp_eq (tgt := 34) d_Tok_scanSign_13 (by decide) (fun h13 => ?_) (fun h13 => ?_)
  · first
    | (simp (disch := omega) only [← nI_0, nI_leI, nI_ltI, nI_eq, not_true_eq_false, not_false_eq_true] at h13; done)
    | (simp (disch := omega) only [← nI_0, nI_leI, nI_ltI, nI_eq, not_true_eq_false, not_false_eq_true] at h13; omega)
    | contradiction
    | exact absurd h13 (Int32.not_lt.mpr (by assumption))
    | exact absurd h13 (Int32.not_le.mpr (by assumption))
    | exact absurd h13 (by decide)
    | exact absurd (by decide) h13
    | ( try simp (disch := omega) only [← nI_0, nI_leI, nI_ltI, nI_eq, not_true_eq_false, not_false_eq_true] at h13
        exact pos (by unfold c_sg; simp_all))
  · first
    | (simp (disch := omega) only [← nI_0, nI_leI, nI_ltI, nI_eq, not_true_eq_false, not_false_eq_true] at h13; done)
    | (simp (disch := omega) only [← nI_0, nI_leI, nI_ltI, nI_eq, not_true_eq_false, not_false_eq_true] at h13; omega)
    | contradiction
    | exact absurd h13 (Int32.not_lt.mpr (by assumption))
    | exact absurd h13 (Int32.not_le.mpr (by assumption))
    | exact absurd h13 (by decide)
    | exact absurd (by decide) h13
    | ( try simp (disch := omega) only [← nI_0, nI_leI, nI_ltI, nI_eq, not_true_eq_false, not_false_eq_true] at h13
        refine z_iload_1 d_Tok_scanSign_16 ?_
        refine z_bipush (a := nI 60) d_Tok_scanSign_17 (by decide) ?_
        refine z_icmp_eq (tgt := 34) d_Tok_scanSign_19 (by decide) (fun h19 => ?_) (fun h19 => ?_)
        · first
          | (simp (disch := omega) only [← nI_0, nI_leI, nI_ltI, nI_eq, not_true_eq_false, not_false_eq_true] at h19; done)
          | (simp (disch := omega) only [← nI_0, nI_leI, nI_ltI, nI_eq, not_true_eq_false, not_false_eq_true] at h19; omega)
          | contradiction
          | exact absurd h19 (Int32.not_lt.mpr (by assumption))
          | exact absurd h19 (Int32.not_le.mpr (by assumption))
          | exact absurd h19 (by decide)
          | exact absurd (by decide) h19
          | ( try simp (disch := omega) only [← nI_0, nI_leI, nI_ltI, nI_eq, not_true_eq_false, not_false_eq_true] at h19
              exact pos (by unfold c_sg; simp_all))
        · first
          | (simp (disch := omega) only [← nI_0, nI_leI, nI_ltI, nI_eq, not_true_eq_false, not_false_eq_true] at h19; done)
          | (simp (disch := omega) only [← nI_0, nI_leI, nI_ltI, nI_eq, not_true_eq_false, not_false_eq_true] at h19; omega)
          | contradiction
          | exact absurd h19 (Int32.not_lt.mpr (by assumption))
          | exact absurd h19 (Int32.not_le.mpr (by assumption))
          | exact absurd h19 (by decide)
          | exact absurd (by decide) h19
          | ( try simp (disch := omega) only [← nI_0, nI_leI, nI_ltI, nI_eq, not_true_eq_false, not_false_eq_true] at h19
              refine z_iload_1 d_Tok_scanSign_22 ?_
              refine z_bipush (a := nI 62) d_Tok_scanSign_23 (by decide) ?_
              refine z_icmp_eq (tgt := 34) d_Tok_scanSign_25 (by decide) (fun h25 => ?_) (fun h25 => ?_)
              · first
                | (simp (disch := omega) only [← nI_0, nI_leI, nI_ltI, nI_eq, not_true_eq_false, not_false_eq_true] at h25; done)
                | (simp (disch := omega) only [← nI_0, nI_leI, nI_ltI, nI_eq, not_true_eq_false, not_false_eq_true] at h25; omega)
                | contradiction
                | exact absurd h25 (Int32.not_lt.mpr (by assumption))
                | exact absurd h25 (Int32.not_le.mpr (by assumption))
                | exact absurd h25 (by decide)
                | exact absurd (by decide) h25
                | ( try simp (disch := omega) only [← nI_0, nI_leI, nI_ltI, nI_eq, not_true_eq_false, not_false_eq_true] at h25
                    exact pos (by unfold c_sg; simp_all))
              · first
                | (simp (disch := omega) only [← nI_0, nI_leI, nI_ltI, nI_eq, not_true_eq_false, not_false_eq_true] at h25; done)
                | (simp (disch := omega) only [← nI_0, nI_leI, nI_ltI, nI_eq, not_true_eq_false, not_false_eq_true] at h25; omega)
                | contradiction
                | exact absurd h25 (Int32.not_lt.mpr (by assumption))
                | exact absurd h25 (Int32.not_le.mpr (by assumption))
                | exact absurd h25 (by decide)
                | exact absurd (by decide) h25
                | ( try simp (disch := omega) only [← nI_0, nI_leI, nI_ltI, nI_eq, not_true_eq_false, not_false_eq_true] at h25
                    refine z_iload_1 d_Tok_scanSign_28 ?_
                    refine z_bipush (a := nI 61) d_Tok_scanSign_29 (by decide) ?_
                    refine z_icmp_ne (tgt := 38) d_Tok_scanSign_31 (by decide) (fun h31 => ?_) (fun h31 => ?_)
                    · first
                      | (simp (disch := omega) only [← nI_0, nI_leI, nI_ltI, nI_eq, not_true_eq_false, not_false_eq_true] at h31; done)
                      | (simp (disch := omega) only [← nI_0, nI_leI, nI_ltI, nI_eq, not_true_eq_false, not_false_eq_true] at h31; omega)
                      | contradiction
                      | exact absurd h31 (Int32.not_lt.mpr (by assumption))
                      | exact absurd h31 (Int32.not_le.mpr (by assumption))
                      | exact absurd h31 (by decide)
                      | exact absurd (by decide) h31
                      | ( try simp (disch := omega) only [← nI_0, nI_leI, nI_ltI, nI_eq, not_true_eq_false, not_false_eq_true] at h31
                          refine z_iconst (a := nI 0) d_Tok_scanSign_38 (by decide) ?_
                          first | refine z_istore_2 d_Tok_scanSign_39 rfl ?_ | (refine z_forget_1 ?_; refine z_istore_2 d_Tok_scanSign_39 rfl ?_)
                          refine z_aload_0 d_Tok_scanSign_40 ?_
                          refine z_iload_2 d_Tok_scanSign_41 ?_
                          refine z_if_eq (tgt := 49) d_Tok_scanSign_42 (by decide) (fun h42 => ?_) (fun h42 => ?_)
                          · first
                            | (simp (disch := omega) only [← nI_0, nI_leI, nI_ltI, nI_eq, not_true_eq_false, not_false_eq_true] at h42; done)
                            | (simp (disch := omega) only [← nI_0, nI_leI, nI_ltI, nI_eq, not_true_eq_false, not_false_eq_true] at h42; omega)
                            | contradiction
                            | exact absurd h42 (Int32.not_lt.mpr (by assumption))
                            | exact absurd h42 (Int32.not_le.mpr (by assumption))
                            | exact absurd h42 (by decide)
                            | exact absurd (by decide) h42
                            | ( try simp (disch := omega) only [← nI_0, nI_leI, nI_ltI, nI_eq, not_true_eq_false, not_false_eq_true] at h42
                                refine z_iconst (a := nI 4) d_Tok_scanSign_49 (by decide) ?_
                                refine z_putI d_Tok_scanSign_50 f_Tok_72 (by first | assumption | exact zS0_at (by assumption) (by omega) | exact zS0_at rfl (by omega)) ?_
                                refine z_aload_0 d_Tok_scanSign_53 ?_
                                refine z_iload_2 d_Tok_scanSign_54 ?_
                                refine z_if_eq (tgt := 62) d_Tok_scanSign_55 (by decide) (fun h55 => ?_) (fun h55 => ?_)
                                · first
                                  | (simp (disch := omega) only [← nI_0, nI_leI, nI_ltI, nI_eq, not_true_eq_false, not_false_eq_true] at h55; done)
                                  | (simp (disch := omega) only [← nI_0, nI_leI, nI_ltI, nI_eq, not_true_eq_false, not_false_eq_true] at h55; omega)
                                  | contradiction
                                  | exact absurd h55 (Int32.not_lt.mpr (by assumption))
                                  | exact absurd h55 (Int32.not_le.mpr (by assumption))
                                  | exact absurd h55 (by decide)
                                  | exact absurd (by decide) h55
                                  | ( try simp (disch := omega) only [← nI_0, nI_leI, nI_ltI, nI_eq, not_true_eq_false, not_false_eq_true] at h55
                                      refine z_iconst (a := nI 0) d_Tok_scanSign_62 (by decide) ?_
                                      refine z_putI d_Tok_scanSign_63 f_Tok_69 (by first | assumption | exact zS0_at (by assumption) (by omega) | exact zS0_at rfl (by omega)) ?_
                                      refine z_aload_0 d_Tok_scanSign_66 ?_
                                      refine z_dup rfl d_Tok_scanSign_67 ?_
                                      refine z_getIv d_Tok_scanSign_68 f_Tok_57 (by first | assumption | exact zS0_at (by assumption) (by omega) | exact zS0_at rfl (by omega)) (by first | assumption | ((try simp (disch := omega) only [zu_same, zu_ne, zcp_ne, zfl_ne]); first | assumption | rfl)) ?_
                                      refine z_iconst (a := nI 1) d_Tok_scanSign_71 (by decide) ?_
                                      first | refine z_iaddN d_Tok_scanSign_72 ?_ | refine z_iadd d_Tok_scanSign_72 ?_
                                      refine z_putI d_Tok_scanSign_73 f_Tok_57 (by first | assumption | exact zS0_at (by assumption) (by omega) | exact zS0_at rfl (by omega)) ?_
                                      refine z_retv d_Tok_scanSign_76 ?_
                                      (have hc : c_sg (I q s) = false := by unfold c_sg; simp_all); rw [hc]; rfl)
                                · first
                                  | (simp (disch := omega) only [← nI_0, nI_leI, nI_ltI, nI_eq, not_true_eq_false, not_false_eq_true] at h55; done)
                                  | (simp (disch := omega) only [← nI_0, nI_leI, nI_ltI, nI_eq, not_true_eq_false, not_false_eq_true] at h55; omega)
                                  | contradiction
                                  | exact absurd h55 (Int32.not_lt.mpr (by assumption))
                                  | exact absurd h55 (Int32.not_le.mpr (by assumption))
                                  | exact absurd h55 (by decide)
                                  | exact absurd (by decide) h55
                                  | ( try simp (disch := omega) only [← nI_0, nI_leI, nI_ltI, nI_eq, not_true_eq_false, not_false_eq_true] at h55
                                      refine z_iload_1 d_Tok_scanSign_58 ?_
                                      refine z_goto (tgt := 63) d_Tok_scanSign_59 (by decide) ?_
                                      refine z_putI d_Tok_scanSign_63 f_Tok_69 (by first | assumption | exact zS0_at (by assumption) (by omega) | exact zS0_at rfl (by omega)) ?_
                                      refine z_aload_0 d_Tok_scanSign_66 ?_
                                      refine z_dup rfl d_Tok_scanSign_67 ?_
                                      refine z_getIv d_Tok_scanSign_68 f_Tok_57 (by first | assumption | exact zS0_at (by assumption) (by omega) | exact zS0_at rfl (by omega)) (by first | assumption | ((try simp (disch := omega) only [zu_same, zu_ne, zcp_ne, zfl_ne]); first | assumption | rfl)) ?_
                                      refine z_iconst (a := nI 1) d_Tok_scanSign_71 (by decide) ?_
                                      first | refine z_iaddN d_Tok_scanSign_72 ?_ | refine z_iadd d_Tok_scanSign_72 ?_
                                      refine z_putI d_Tok_scanSign_73 f_Tok_57 (by first | assumption | exact zS0_at (by assumption) (by omega) | exact zS0_at rfl (by omega)) ?_
                                      refine z_retv d_Tok_scanSign_76 ?_
                                      (have hc : c_sg (I q s) = false := by unfold c_sg; simp_all); rw [hc]; rfl))
                          · first
                            | (simp (disch := omega) only [← nI_0, nI_leI, nI_ltI, nI_eq, not_true_eq_false, not_false_eq_true] at h42; done)
                            | (simp (disch := omega) only [← nI_0, nI_leI, nI_ltI, nI_eq, not_true_eq_false, not_false_eq_true] at h42; omega)
                            | contradiction
                            | exact absurd h42 (Int32.not_lt.mpr (by assumption))
                            | exact absurd h42 (Int32.not_le.mpr (by assumption))
                            | exact absurd h42 (by decide)
                            | exact absurd (by decide) h42
                            | ( try simp (disch := omega) only [← nI_0, nI_leI, nI_ltI, nI_eq, not_true_eq_false, not_false_eq_true] at h42
                                refine z_iconst (a := nI 3) d_Tok_scanSign_45 (by decide) ?_
                                refine z_goto (tgt := 50) d_Tok_scanSign_46 (by decide) ?_
                                refine z_putI d_Tok_scanSign_50 f_Tok_72 (by first | assumption | exact zS0_at (by assumption) (by omega) | exact zS0_at rfl (by omega)) ?_
                                refine z_aload_0 d_Tok_scanSign_53 ?_
                                refine z_iload_2 d_Tok_scanSign_54 ?_
                                refine z_if_eq (tgt := 62) d_Tok_scanSign_55 (by decide) (fun h55 => ?_) (fun h55 => ?_)
                                · first
                                  | (simp (disch := omega) only [← nI_0, nI_leI, nI_ltI, nI_eq, not_true_eq_false, not_false_eq_true] at h55; done)
                                  | (simp (disch := omega) only [← nI_0, nI_leI, nI_ltI, nI_eq, not_true_eq_false, not_false_eq_true] at h55; omega)
                                  | contradiction
                                  | exact absurd h55 (Int32.not_lt.mpr (by assumption))
                                  | exact absurd h55 (Int32.not_le.mpr (by assumption))
                                  | exact absurd h55 (by decide)
                                  | exact absurd (by decide) h55
                                  | ( try simp (disch := omega) only [← nI_0, nI_leI, nI_ltI, nI_eq, not_true_eq_false, not_false_eq_true] at h55
                                      refine z_iconst (a := nI 0) d_Tok_scanSign_62 (by decide) ?_
                                      refine z_putI d_Tok_scanSign_63 f_Tok_69 (by first | assumption | exact zS0_at (by assumption) (by omega) | exact zS0_at rfl (by omega)) ?_
                                      refine z_aload_0 d_Tok_scanSign_66 ?_
                                      refine z_dup rfl d_Tok_scanSign_67 ?_
                                      refine z_getIv d_Tok_scanSign_68 f_Tok_57 (by first | assumption | exact zS0_at (by assumption) (by omega) | exact zS0_at rfl (by omega)) (by first | assumption | ((try simp (disch := omega) only [zu_same, zu_ne, zcp_ne, zfl_ne]); first | assumption | rfl)) ?_
                                      refine z_iconst (a := nI 1) d_Tok_scanSign_71 (by decide) ?_
                                      first | refine z_iaddN d_Tok_scanSign_72 ?_ | refine z_iadd d_Tok_scanSign_72 ?_
                                      refine z_putI d_Tok_scanSign_73 f_Tok_57 (by first | assumption | exact zS0_at (by assumption) (by omega) | exact zS0_at rfl (by omega)) ?_
                                      refine z_retv d_Tok_scanSign_76 ?_
                                      (have hc : c_sg (I q s) = false := by unfold c_sg; simp_all); rw [hc]; rfl)
                                · first
                                  | (simp (disch := omega) only [← nI_0, nI_leI, nI_ltI, nI_eq, not_true_eq_false, not_false_eq_true] at h55; done)
                                  | (simp (disch := omega) only [← nI_0, nI_leI, nI_ltI, nI_eq, not_true_eq_false, not_false_eq_true] at h55; omega)
                                  | contradiction
                                  | exact absurd h55 (Int32.not_lt.mpr (by assumption))
                                  | exact absurd h55 (Int32.not_le.mpr (by assumption))
                                  | exact absurd h55 (by decide)
                                  | exact absurd (by decide) h55
                                  | ( try simp (disch := omega) only [← nI_0, nI_leI, nI_ltI, nI_eq, not_true_eq_false, not_false_eq_true] at h55
                                      refine z_iload_1 d_Tok_scanSign_58 ?_
                                      refine z_goto (tgt := 63) d_Tok_scanSign_59 (by decide) ?_
                                      refine z_putI d_Tok_scanSign_63 f_Tok_69 (by first | assumption | exact zS0_at (by assumption) (by omega) | exact zS0_at rfl (by omega)) ?_
                                      refine z_aload_0 d_Tok_scanSign_66 ?_
                                      refine z_dup rfl d_Tok_scanSign_67 ?_
                                      refine z_getIv d_Tok_scanSign_68 f_Tok_57 (by first | assumption | exact zS0_at (by assumption) (by omega) | exact zS0_at rfl (by omega)) (by first | assumption | ((try simp (disch := omega) only [zu_same, zu_ne, zcp_ne, zfl_ne]); first | assumption | rfl)) ?_
                                      refine z_iconst (a := nI 1) d_Tok_scanSign_71 (by decide) ?_
                                      first | refine z_iaddN d_Tok_scanSign_72 ?_ | refine z_iadd d_Tok_scanSign_72 ?_
                                      refine z_putI d_Tok_scanSign_73 f_Tok_57 (by first | assumption | exact zS0_at (by assumption) (by omega) | exact zS0_at rfl (by omega)) ?_
                                      refine z_retv d_Tok_scanSign_76 ?_
                                      (have hc : c_sg (I q s) = false := by unfold c_sg; simp_all); rw [hc]; rfl)))
                    · first
                      | (simp (disch := omega) only [← nI_0, nI_leI, nI_ltI, nI_eq, not_true_eq_false, not_false_eq_true] at h31; done)
                      | (simp (disch := omega) only [← nI_0, nI_leI, nI_ltI, nI_eq, not_true_eq_false, not_false_eq_true] at h31; omega)
                      | contradiction
                      | exact absurd h31 (Int32.not_lt.mpr (by assumption))
                      | exact absurd h31 (Int32.not_le.mpr (by assumption))
                      | exact absurd h31 (by decide)
                      | exact absurd (by decide) h31
                      | ( try simp (disch := omega) only [← nI_0, nI_leI, nI_ltI, nI_eq, not_true_eq_false, not_false_eq_true] at h31
                          exact pos (by unfold c_sg; simp_all)))))
theorem t_Tok_scanNumber {s : Nat} (X : tkOk P S q l) (hL : L ≤ l) (hl : l ≤ 900) (h1 : I 11 1 = nI L) (h2 : I 11 2 = nI s) (hs : s ≤ L) (h5 : I 11 5 = nI s) (h8 : I 11 8 = nI 0) : zEv G y_Tok_scanNumber prog_9_method_5_code 1 1 0 0 [.ref 11] (I, J, P, S) (fun w => ∃ e, e = s_run (fun i => c_di (I q i)) (L - s) s ∧ w = (zu (zu (zu I 11 8 (s_num (I q) s (min (e - s) 4))) 11 2 (nI e)) 11 4 (nI (if e - s ≤ 4 then 2 else 4)), J, P, S)) := by
  obtain ⟨X0, X1, X2, X3, X4, X5⟩ := X
  refine zEv_of (lv := [some (.ref 11)]) (by decide) rfl (Nat.le_of_ble_eq_true rfl) ?_
  obtain ⟨e, he⟩ : ∃ e, s_run (fun i => c_di (I q i)) (L - s) s = e := ⟨_, rfl⟩
  have hse := s_run_ge (b := fun i => c_di (I q i)) (L - s) s
  have fin : s ≤ e → e ≤ L → zA G y_Tok_scanNumber prog_9_method_5_code 1 none (zRm 1 0 0) (zM G 0 0 (fun r w' => r = none ∧ (fun w => ∃ e, e = s_run (fun i => c_di (I q i)) (L - s) s ∧ w = (zu (zu (zu I 11 8 (s_num (I q) s (min (e - s) 4))) 11 2 (nI e)) 11 4 (nI (if e - s ≤ 4 then 2 else 4)), J, P, S)) w')) 89 [some (.ref 11)] [] (zu (zu I 11 8 (s_num (I q) s (min (e - s) 4))) 11 2 (nI e), J, P, S) 0 0 := by
    intro he1 he2
    refine z_aload_0 d_Tok_scanNumber_89 ?_
    refine z_aload_0 d_Tok_scanNumber_90 ?_
    refine z_getIv d_Tok_scanNumber_91 f_Tok_57 (by first | assumption | exact zS0_at (by assumption) (by omega) | exact zS0_at rfl (by omega)) (by first | assumption | ((try simp (disch := omega) only [zu_same, zu_ne, zcp_ne, zfl_ne]); first | assumption | rfl)) ?_
    refine z_aload_0 d_Tok_scanNumber_94 ?_
    refine z_getIv d_Tok_scanNumber_95 f_Tok_60 (by first | assumption | exact zS0_at (by assumption) (by omega) | exact zS0_at rfl (by omega)) (by first | assumption | ((try simp (disch := omega) only [zu_same, zu_ne, zcp_ne, zfl_ne]); first | assumption | rfl)) ?_
    first | refine z_isubN d_Tok_scanNumber_98 (by omega) ?_ | refine z_isub d_Tok_scanNumber_98 ?_
    refine z_iconst (a := nI 4) d_Tok_scanNumber_99 (by decide) ?_
    refine z_icmp_le (tgt := 107) d_Tok_scanNumber_100 (by decide) (fun hb => ?_) (fun hb => ?_)
    · simp (disch := omega) only [nI_leI] at hb
      refine z_iconst (a := nI 2) d_Tok_scanNumber_107 (by decide) ?_
      refine z_putI d_Tok_scanNumber_108 f_Tok_72 (by first | assumption | exact zS0_at (by assumption) (by omega) | exact zS0_at rfl (by omega)) ?_
      refine z_retv d_Tok_scanNumber_111 ?_
      exact ⟨e, he.symm, by rw [if_pos (by omega)]⟩
    · simp (disch := omega) only [nI_leI] at hb
      refine z_iconst (a := nI 4) d_Tok_scanNumber_103 (by decide) ?_
      refine z_goto (tgt := 108) d_Tok_scanNumber_104 (by decide) ?_
      refine z_putI d_Tok_scanNumber_108 f_Tok_72 (by first | assumption | exact zS0_at (by assumption) (by omega) | exact zS0_at rfl (by omega)) ?_
      refine z_retv d_Tok_scanNumber_111 ?_
      exact ⟨e, he.symm, by rw [if_neg (by omega)]⟩
  have loop : ∀ m j, L - j < m → j ≤ L → (s ≤ j) → (s_run (fun i => c_di (I q i)) (L - j) j = e) → zA G y_Tok_scanNumber prog_9_method_5_code 1 none (zRm 1 0 0) (zM G 0 0 (fun r w' => r = none ∧ (fun w => ∃ e, e = s_run (fun i => c_di (I q i)) (L - s) s ∧ w = (zu (zu (zu I 11 8 (s_num (I q) s (min (e - s) 4))) 11 2 (nI e)) 11 4 (nI (if e - s ≤ 4 then 2 else 4)), J, P, S)) w')) 0 [some (.ref 11)] [] (zu (zu I 11 8 (s_num (I q) s (min (j - s) 4))) 11 2 (nI j), J, P, S) 0 0 := by
    intro m
    induction m with
    | zero => intro j h; omega
    | succ m ih =>
      intro j hm hj hsj hI
      refine z_aload_0 d_Tok_scanNumber_0 ?_
      refine z_getIv d_Tok_scanNumber_1 f_Tok_57 (by first | assumption | exact zS0_at (by assumption) (by omega) | exact zS0_at rfl (by omega)) (by first | assumption | ((try simp (disch := omega) only [zu_same, zu_ne, zcp_ne, zfl_ne]); first | assumption | rfl)) ?_
      refine z_aload_0 d_Tok_scanNumber_4 ?_
      refine z_getIv d_Tok_scanNumber_5 f_Tok_55 (by first | assumption | exact zS0_at (by assumption) (by omega) | exact zS0_at rfl (by omega)) (by first | assumption | ((try simp (disch := omega) only [zu_same, zu_ne, zcp_ne, zfl_ne]); first | assumption | rfl)) ?_
      refine z_icmp_ge (tgt := 89) d_Tok_scanNumber_8 (by decide) (fun hb => ?_) (fun hb => ?_)
      · have hb := (nI_leI (by omega) (by omega)).mp hb
        rw [s_run_end hb] at hI
        obtain rfl := hI
        exact fin (by omega) (by omega)
      · have hb : j < L := Nat.lt_of_not_le (fun q => hb (nI_le q (by omega)))
        refine z_aload_0 d_Tok_scanNumber_11 ?_
        refine z_getR d_Tok_scanNumber_12 f_Tok_7 (by first | assumption | exact zS0_at (by assumption) (by omega) | exact zS0_at rfl (by omega)) (by first | assumption | exact zS0_at (by assumption) (by omega) | exact zS0_at rfl (by omega)) ?_
        refine z_aload_0 d_Tok_scanNumber_15 ?_
        refine z_getIv d_Tok_scanNumber_16 f_Tok_57 (by first | assumption | exact zS0_at (by assumption) (by omega) | exact zS0_at rfl (by omega)) (by first | assumption | ((try simp (disch := omega) only [zu_same, zu_ne, zcp_ne, zfl_ne]); first | assumption | rfl)) ?_
        first | refine z_baldNv d_Tok_scanNumber_19 (by first | assumption | exact zS0_at (by assumption) (by omega) | exact zS0_at rfl (by omega)) (by omega) (by first | decide | omega) (by first | assumption | ((try simp (disch := omega) only [zu_same, zu_ne, zcp_ne, zfl_ne]); first | assumption | rfl)) ?_ | refine z_zaldNv d_Tok_scanNumber_19 (by first | assumption | exact zS0_at (by assumption) (by omega) | exact zS0_at rfl (by omega)) (by omega) (by first | decide | omega) (by first | assumption | ((try simp (disch := omega) only [zu_same, zu_ne, zcp_ne, zfl_ne]); first | assumption | rfl)) ?_ | refine z_bald d_Tok_scanNumber_19 (by first | assumption | exact zS0_at (by assumption) (by omega) | exact zS0_at rfl (by omega)) (by first | assumption | exact zS0_at (by assumption) (by omega) | exact zS0_at rfl (by omega)) ?_ | refine z_zald d_Tok_scanNumber_19 (by first | assumption | exact zS0_at (by assumption) (by omega) | exact zS0_at rfl (by omega)) (by first | assumption | exact zS0_at (by assumption) (by omega) | exact zS0_at rfl (by omega)) ?_
        refine z_bipush (a := nI 48) d_Tok_scanNumber_20 (by decide) ?_
        refine z_icmp_lt (tgt := 89) d_Tok_scanNumber_22 (by decide) (fun hc => ?_) (fun hc => ?_)
        · rw [s_run_stop (by simp [c_di, hc])] at hI
          obtain rfl := hI
          exact fin (by omega) (by omega)
        · refine z_aload_0 d_Tok_scanNumber_25 ?_
          refine z_getR d_Tok_scanNumber_26 f_Tok_7 (by first | assumption | exact zS0_at (by assumption) (by omega) | exact zS0_at rfl (by omega)) (by first | assumption | exact zS0_at (by assumption) (by omega) | exact zS0_at rfl (by omega)) ?_
          refine z_aload_0 d_Tok_scanNumber_29 ?_
          refine z_getIv d_Tok_scanNumber_30 f_Tok_57 (by first | assumption | exact zS0_at (by assumption) (by omega) | exact zS0_at rfl (by omega)) (by first | assumption | ((try simp (disch := omega) only [zu_same, zu_ne, zcp_ne, zfl_ne]); first | assumption | rfl)) ?_
          first | refine z_baldNv d_Tok_scanNumber_33 (by first | assumption | exact zS0_at (by assumption) (by omega) | exact zS0_at rfl (by omega)) (by omega) (by first | decide | omega) (by first | assumption | ((try simp (disch := omega) only [zu_same, zu_ne, zcp_ne, zfl_ne]); first | assumption | rfl)) ?_ | refine z_zaldNv d_Tok_scanNumber_33 (by first | assumption | exact zS0_at (by assumption) (by omega) | exact zS0_at rfl (by omega)) (by omega) (by first | decide | omega) (by first | assumption | ((try simp (disch := omega) only [zu_same, zu_ne, zcp_ne, zfl_ne]); first | assumption | rfl)) ?_ | refine z_bald d_Tok_scanNumber_33 (by first | assumption | exact zS0_at (by assumption) (by omega) | exact zS0_at rfl (by omega)) (by first | assumption | exact zS0_at (by assumption) (by omega) | exact zS0_at rfl (by omega)) ?_ | refine z_zald d_Tok_scanNumber_33 (by first | assumption | exact zS0_at (by assumption) (by omega) | exact zS0_at rfl (by omega)) (by first | assumption | exact zS0_at (by assumption) (by omega) | exact zS0_at rfl (by omega)) ?_
          refine z_bipush (a := nI 57) d_Tok_scanNumber_34 (by decide) ?_
          refine z_icmp_gt (tgt := 89) d_Tok_scanNumber_36 (by decide) (fun hd => ?_) (fun hd => ?_)
          · rw [s_run_stop (by simp [c_di, hd])] at hI
            obtain rfl := hI
            exact fin (by omega) (by omega)
          · rw [s_run_go hb (by simp [c_di, hc, hd])] at hI
            have q0 := ih (j + 1) (by omega) (by omega) (by omega) hI
            refine z_aload_0 d_Tok_scanNumber_39 ?_
            refine z_getIv d_Tok_scanNumber_40 f_Tok_57 (by first | assumption | exact zS0_at (by assumption) (by omega) | exact zS0_at rfl (by omega)) (by first | assumption | ((try simp (disch := omega) only [zu_same, zu_ne, zcp_ne, zfl_ne]); first | assumption | rfl)) ?_
            refine z_aload_0 d_Tok_scanNumber_43 ?_
            refine z_getIv d_Tok_scanNumber_44 f_Tok_60 (by first | assumption | exact zS0_at (by assumption) (by omega) | exact zS0_at rfl (by omega)) (by first | assumption | ((try simp (disch := omega) only [zu_same, zu_ne, zcp_ne, zfl_ne]); first | assumption | rfl)) ?_
            first | refine z_isubN d_Tok_scanNumber_47 (by omega) ?_ | refine z_isub d_Tok_scanNumber_47 ?_
            refine z_iconst (a := nI 4) d_Tok_scanNumber_48 (by decide) ?_
            refine z_icmp_ge (tgt := 76) d_Tok_scanNumber_49 (by decide) (fun hf => ?_) (fun hf => ?_)
            · have hf := (nI_leI (by omega) (by omega)).mp hf
              rw [show min (j + 1 - s) 4 = 4 by omega] at q0
              rw [show min (j - s) 4 = 4 by omega]
              refine z_aload_0 d_Tok_scanNumber_76 ?_
              refine z_dup rfl d_Tok_scanNumber_77 ?_
              refine z_getIv d_Tok_scanNumber_78 f_Tok_57 (by first | assumption | exact zS0_at (by assumption) (by omega) | exact zS0_at rfl (by omega)) (by first | assumption | ((try simp (disch := omega) only [zu_same, zu_ne, zcp_ne, zfl_ne]); first | assumption | rfl)) ?_
              refine z_iconst (a := nI 1) d_Tok_scanNumber_81 (by decide) ?_
              first | refine z_iaddN d_Tok_scanNumber_82 ?_ | refine z_iadd d_Tok_scanNumber_82 ?_
              refine z_putI d_Tok_scanNumber_83 f_Tok_57 (by first | assumption | exact zS0_at (by assumption) (by omega) | exact zS0_at rfl (by omega)) ?_
              refine z_goto (tgt := 0) d_Tok_scanNumber_86 (by decide) ?_
              rw [zu_zu]
              exact q0
            · have hf : j - s < 4 := Nat.lt_of_not_le (fun q => hf (nI_le q (by omega)))
              rw [show min (j + 1 - s) 4 = (j - s) + 1 by omega, s_num, show s + (j - s) = j by omega] at q0
              rw [show min (j - s) 4 = j - s by omega]
              refine z_aload_0 d_Tok_scanNumber_52 ?_
              refine z_aload_0 d_Tok_scanNumber_53 ?_
              refine z_getIv d_Tok_scanNumber_54 f_Tok_66 (by first | assumption | exact zS0_at (by assumption) (by omega) | exact zS0_at rfl (by omega)) (by first | assumption | ((try simp (disch := omega) only [zu_same, zu_ne, zcp_ne, zfl_ne]); first | assumption | rfl)) ?_
              refine z_bipush (a := nI 10) d_Tok_scanNumber_57 (by decide) ?_
              first | refine z_imulN d_Tok_scanNumber_59 ?_ | refine z_imul d_Tok_scanNumber_59 ?_
              refine z_aload_0 d_Tok_scanNumber_60 ?_
              refine z_getR d_Tok_scanNumber_61 f_Tok_7 (by first | assumption | exact zS0_at (by assumption) (by omega) | exact zS0_at rfl (by omega)) (by first | assumption | exact zS0_at (by assumption) (by omega) | exact zS0_at rfl (by omega)) ?_
              refine z_aload_0 d_Tok_scanNumber_64 ?_
              refine z_getIv d_Tok_scanNumber_65 f_Tok_57 (by first | assumption | exact zS0_at (by assumption) (by omega) | exact zS0_at rfl (by omega)) (by first | assumption | ((try simp (disch := omega) only [zu_same, zu_ne, zcp_ne, zfl_ne]); first | assumption | rfl)) ?_
              first | refine z_baldNv d_Tok_scanNumber_68 (by first | assumption | exact zS0_at (by assumption) (by omega) | exact zS0_at rfl (by omega)) (by omega) (by first | decide | omega) (by first | assumption | ((try simp (disch := omega) only [zu_same, zu_ne, zcp_ne, zfl_ne]); first | assumption | rfl)) ?_ | refine z_zaldNv d_Tok_scanNumber_68 (by first | assumption | exact zS0_at (by assumption) (by omega) | exact zS0_at rfl (by omega)) (by omega) (by first | decide | omega) (by first | assumption | ((try simp (disch := omega) only [zu_same, zu_ne, zcp_ne, zfl_ne]); first | assumption | rfl)) ?_ | refine z_bald d_Tok_scanNumber_68 (by first | assumption | exact zS0_at (by assumption) (by omega) | exact zS0_at rfl (by omega)) (by first | assumption | exact zS0_at (by assumption) (by omega) | exact zS0_at rfl (by omega)) ?_ | refine z_zald d_Tok_scanNumber_68 (by first | assumption | exact zS0_at (by assumption) (by omega) | exact zS0_at rfl (by omega)) (by first | assumption | exact zS0_at (by assumption) (by omega) | exact zS0_at rfl (by omega)) ?_
              first | refine z_iaddN d_Tok_scanNumber_69 ?_ | refine z_iadd d_Tok_scanNumber_69 ?_
              refine z_bipush (a := nI 48) d_Tok_scanNumber_70 (by decide) ?_
              first | refine z_isubN d_Tok_scanNumber_72 (by omega) ?_ | refine z_isub d_Tok_scanNumber_72 ?_
              refine z_putI d_Tok_scanNumber_73 f_Tok_66 (by first | assumption | exact zS0_at (by assumption) (by omega) | exact zS0_at rfl (by omega)) ?_
              refine z_aload_0 d_Tok_scanNumber_76 ?_
              refine z_dup rfl d_Tok_scanNumber_77 ?_
              refine z_getIv d_Tok_scanNumber_78 f_Tok_57 (by first | assumption | exact zS0_at (by assumption) (by omega) | exact zS0_at rfl (by omega)) (by first | assumption | ((try simp (disch := omega) only [zu_same, zu_ne, zcp_ne, zfl_ne]); first | assumption | rfl)) ?_
              refine z_iconst (a := nI 1) d_Tok_scanNumber_81 (by decide) ?_
              first | refine z_iaddN d_Tok_scanNumber_82 ?_ | refine z_iadd d_Tok_scanNumber_82 ?_
              refine z_putI d_Tok_scanNumber_83 f_Tok_57 (by first | assumption | exact zS0_at (by assumption) (by omega) | exact zS0_at rfl (by omega)) ?_
              refine z_goto (tgt := 0) d_Tok_scanNumber_86 (by decide) ?_
              rw [zu_4 _ _ _ _ _ _ (by decide)]
              exact q0
  have q0 := loop (L + 1) s (by omega) (by omega) (by omega) he
  rw [Nat.sub_self, show min 0 4 = 0 from rfl, s_num, zu_id h8, zu_id h2] at q0
  exact q0
theorem t_Tok_scanWord {s : Nat} (X : tkOk P S q l) (hL : L ≤ l) (hl : l ≤ 900) (h1 : I 11 1 = nI L) (h2 : I 11 2 = nI s) (hs : s ≤ L) (h5 : I 11 5 = nI s) (h7 : I 11 7 = -1) : zEv G y_Tok_scanWord prog_9_method_4_code 4 1 0 0 [.ref 11] (I, J, P, S) (fun w => ∃ e, e = s_run (fun i => c_le (I q i)) (L - s) s ∧ w = (if e - s ≤ 8 then (zu (zu (zu I 11 2 (nI e)) 11 4 (nI 1)) 11 7 (s_kw (J 13) (s_code (I q) s (e - s)) 21), zu J 11 6 (s_code (I q) s (e - s)), P, S) else (zu (zu I 11 2 (nI e)) 11 4 (nI 1), J, P, S))) := by
  obtain ⟨X0, X1, X2, X3, X4, X5⟩ := X
  refine zEv_of (lv := [some (.ref 11), none, none, none]) (by decide) rfl (Nat.le_of_ble_eq_true rfl) ?_
  obtain ⟨e, he⟩ : ∃ e, s_run (fun i => c_le (I q i)) (L - s) s = e := ⟨_, rfl⟩
  have hse := s_run_ge (b := fun i => c_le (I q i)) (L - s) s
  have fin : s ≤ e → e ≤ L → zA G y_Tok_scanWord prog_9_method_4_code 4 none (zRm 1 0 0) (zM G 0 0 (fun r w' => r = none ∧ (fun w => ∃ e, e = s_run (fun i => c_le (I q i)) (L - s) s ∧ w = (if e - s ≤ 8 then (zu (zu (zu I 11 2 (nI e)) 11 4 (nI 1)) 11 7 (s_kw (J 13) (s_code (I q) s (e - s)) 21), zu J 11 6 (s_code (I q) s (e - s)), P, S) else (zu (zu I 11 2 (nI e)) 11 4 (nI 1), J, P, S))) w')) 76 [some (.ref 11), some (.long (s_code (I q) s (e - s))), none, none] [] (zu I 11 2 (nI e), J, P, S) 0 0 := by
    intro he1 he2
    refine z_aload_0 d_Tok_scanWord_76 ?_
    refine z_iconst (a := nI 1) d_Tok_scanWord_77 (by decide) ?_
    refine z_putI d_Tok_scanWord_78 f_Tok_72 (by first | assumption | exact zS0_at (by assumption) (by omega) | exact zS0_at rfl (by omega)) ?_
    refine z_aload_0 d_Tok_scanWord_81 ?_
    refine z_getIv d_Tok_scanWord_82 f_Tok_57 (by first | assumption | exact zS0_at (by assumption) (by omega) | exact zS0_at rfl (by omega)) (by first | assumption | ((try simp (disch := omega) only [zu_same, zu_ne, zcp_ne, zfl_ne]); first | assumption | rfl)) ?_
    refine z_aload_0 d_Tok_scanWord_85 ?_
    refine z_getIv d_Tok_scanWord_86 f_Tok_60 (by first | assumption | exact zS0_at (by assumption) (by omega) | exact zS0_at rfl (by omega)) (by first | assumption | ((try simp (disch := omega) only [zu_same, zu_ne, zcp_ne, zfl_ne]); first | assumption | rfl)) ?_
    first | refine z_isubN d_Tok_scanWord_89 (by omega) ?_ | refine z_isub d_Tok_scanWord_89 ?_
    refine z_bipush (a := nI 8) d_Tok_scanWord_90 (by decide) ?_
    refine z_icmp_le (tgt := 96) d_Tok_scanWord_92 (by decide) (fun hb => ?_) (fun hb => ?_)
    · simp (disch := omega) only [nI_leI] at hb
      have loop : ∀ m j, 21 - j < m → j ≤ 21 → zA G y_Tok_scanWord prog_9_method_4_code 4 none (zRm 1 0 0) (zM G 0 0 (fun r w' => r = none ∧ (fun w => ∃ e, e = s_run (fun i => c_le (I q i)) (L - s) s ∧ w = (if e - s ≤ 8 then (zu (zu (zu I 11 2 (nI e)) 11 4 (nI 1)) 11 7 (s_kw (J 13) (s_code (I q) s (e - s)) 21), zu J 11 6 (s_code (I q) s (e - s)), P, S) else (zu (zu I 11 2 (nI e)) 11 4 (nI 1), J, P, S))) w')) 103 [some (.ref 11), some (.long (s_code (I q) s (e - s))), none, some (.int (nI j))] [] (zu (zu (zu I 11 2 (nI e)) 11 4 (nI 1)) 11 7 (s_kw (J 13) (s_code (I q) s (e - s)) j), zu J 11 6 (s_code (I q) s (e - s)), P, S) 0 0 := by
        intro m
        induction m with
        | zero => intro j h; omega
        | succ m ih =>
          intro j hm hj
          refine z_iload_3 d_Tok_scanWord_103 ?_
          refine z_bipush (a := nI 21) d_Tok_scanWord_104 (by decide) ?_
          refine z_icmp_ge (tgt := 131) d_Tok_scanWord_106 (by decide) (fun hc => ?_) (fun hc => ?_)
          · have hc := (nI_leI (by omega) (by omega)).mp hc
            obtain rfl : j = 21 := by omega
            refine z_retv d_Tok_scanWord_131 ?_
            exact ⟨e, he.symm, by rw [if_pos hb]⟩
          · have hc : j < 21 := Nat.lt_of_not_le (fun q => hc (nI_le q (by omega)))
            have q0 := ih (j + 1) (by omega) (by omega)
            rw [s_kw] at q0
            refine z_aload_0 d_Tok_scanWord_109 ?_
            refine z_getR d_Tok_scanWord_110 f_Tok_13 (by first | assumption | exact zS0_at (by assumption) (by omega) | exact zS0_at rfl (by omega)) (by first | assumption | exact zS0_at (by assumption) (by omega) | exact zS0_at rfl (by omega)) ?_
            refine z_iload_3 d_Tok_scanWord_113 ?_
            first | refine z_laldNv d_Tok_scanWord_114 (by first | assumption | exact zS0_at (by assumption) (by omega) | exact zS0_at rfl (by omega)) (by omega) (by first | decide | omega) (by first | assumption | ((try simp (disch := omega) only [zu_same, zu_ne, zcp_ne, zfl_ne]); first | assumption | rfl)) ?_ | refine z_lald d_Tok_scanWord_114 (by first | assumption | exact zS0_at (by assumption) (by omega) | exact zS0_at rfl (by omega)) (by first | assumption | exact zS0_at (by assumption) (by omega) | exact zS0_at rfl (by omega)) ?_
            refine z_lload_1 d_Tok_scanWord_115 ?_
            refine z_lcmp d_Tok_scanWord_116 ?_
            refine z_if_ne (tgt := 125) d_Tok_scanWord_117 (by decide) (fun hd => ?_) (fun hd => ?_)
            · rw [lg_cmp_eq] at hd
              rw [if_neg hd] at q0
              first | refine z_iinc_3 d_Tok_scanWord_125 rfl (zi_inc _) ?_ | refine z_iinc_3 d_Tok_scanWord_125 rfl rfl ?_
              refine z_goto (tgt := 103) d_Tok_scanWord_128 (by decide) ?_
              exact q0
            · rw [lg_cmp_eq] at hd
              rw [if_pos hd] at q0
              refine z_aload_0 d_Tok_scanWord_120 ?_
              refine z_iload_3 d_Tok_scanWord_121 ?_
              refine z_putI d_Tok_scanWord_122 f_Tok_63 (by first | assumption | exact zS0_at (by assumption) (by omega) | exact zS0_at rfl (by omega)) ?_
              first | refine z_iinc_3 d_Tok_scanWord_125 rfl (zi_inc _) ?_ | refine z_iinc_3 d_Tok_scanWord_125 rfl rfl ?_
              refine z_goto (tgt := 103) d_Tok_scanWord_128 (by decide) ?_
              rw [zu_zu]
              exact q0
      refine z_aload_0 d_Tok_scanWord_96 ?_
      refine z_lload_1 d_Tok_scanWord_97 ?_
      refine z_putJ d_Tok_scanWord_98 f_Tok_42 (by first | assumption | exact zS0_at (by assumption) (by omega) | exact zS0_at rfl (by omega)) ?_
      refine z_iconst (a := nI 0) d_Tok_scanWord_101 (by decide) ?_
      first | refine z_istore_3 d_Tok_scanWord_102 rfl ?_ | (refine z_forget_2 ?_; refine z_istore_3 d_Tok_scanWord_102 rfl ?_)
      have q0 := loop 22 0 (by omega) (by omega)
      rw [s_kw, zu_id (f := zu (zu I 11 2 (nI e)) 11 4 (nI 1)) (by simp [zu, h7])] at q0
      exact q0
    · simp (disch := omega) only [nI_leI] at hb
      refine z_retv d_Tok_scanWord_95 ?_
      exact ⟨e, he.symm, by rw [if_neg hb]⟩
  have loop : ∀ m j, L - j < m → j ≤ L → (s ≤ j) → (s_run (fun i => c_le (I q i)) (L - j) j = e) → zA G y_Tok_scanWord prog_9_method_4_code 4 none (zRm 1 0 0) (zM G 0 0 (fun r w' => r = none ∧ (fun w => ∃ e, e = s_run (fun i => c_le (I q i)) (L - s) s ∧ w = (if e - s ≤ 8 then (zu (zu (zu I 11 2 (nI e)) 11 4 (nI 1)) 11 7 (s_kw (J 13) (s_code (I q) s (e - s)) 21), zu J 11 6 (s_code (I q) s (e - s)), P, S) else (zu (zu I 11 2 (nI e)) 11 4 (nI 1), J, P, S))) w')) 2 [some (.ref 11), some (.long (s_code (I q) s (j - s))), none, none] [] (zu I 11 2 (nI j), J, P, S) 0 0 := by
    intro m
    induction m with
    | zero => intro j h; omega
    | succ m ih =>
      intro j hm hj hsj hI
      refine z_aload_0 d_Tok_scanWord_2 ?_
      refine z_getIv d_Tok_scanWord_3 f_Tok_57 (by first | assumption | exact zS0_at (by assumption) (by omega) | exact zS0_at rfl (by omega)) (by first | assumption | ((try simp (disch := omega) only [zu_same, zu_ne, zcp_ne, zfl_ne]); first | assumption | rfl)) ?_
      refine z_aload_0 d_Tok_scanWord_6 ?_
      refine z_getIv d_Tok_scanWord_7 f_Tok_55 (by first | assumption | exact zS0_at (by assumption) (by omega) | exact zS0_at rfl (by omega)) (by first | assumption | ((try simp (disch := omega) only [zu_same, zu_ne, zcp_ne, zfl_ne]); first | assumption | rfl)) ?_
      refine z_icmp_ge (tgt := 76) d_Tok_scanWord_10 (by decide) (fun hb => ?_) (fun hb => ?_)
      · have hb := (nI_leI (by omega) (by omega)).mp hb
        rw [s_run_end hb] at hI
        obtain rfl := hI
        exact fin (by omega) (by omega)
      · have hb : j < L := Nat.lt_of_not_le (fun q => hb (nI_le q (by omega)))
        refine z_aload_0 d_Tok_scanWord_13 ?_
        refine z_getR d_Tok_scanWord_14 f_Tok_7 (by first | assumption | exact zS0_at (by assumption) (by omega) | exact zS0_at rfl (by omega)) (by first | assumption | exact zS0_at (by assumption) (by omega) | exact zS0_at rfl (by omega)) ?_
        refine z_aload_0 d_Tok_scanWord_17 ?_
        refine z_getIv d_Tok_scanWord_18 f_Tok_57 (by first | assumption | exact zS0_at (by assumption) (by omega) | exact zS0_at rfl (by omega)) (by first | assumption | ((try simp (disch := omega) only [zu_same, zu_ne, zcp_ne, zfl_ne]); first | assumption | rfl)) ?_
        first | refine z_baldNv d_Tok_scanWord_21 (by first | assumption | exact zS0_at (by assumption) (by omega) | exact zS0_at rfl (by omega)) (by omega) (by first | decide | omega) (by first | assumption | ((try simp (disch := omega) only [zu_same, zu_ne, zcp_ne, zfl_ne]); first | assumption | rfl)) ?_ | refine z_zaldNv d_Tok_scanWord_21 (by first | assumption | exact zS0_at (by assumption) (by omega) | exact zS0_at rfl (by omega)) (by omega) (by first | decide | omega) (by first | assumption | ((try simp (disch := omega) only [zu_same, zu_ne, zcp_ne, zfl_ne]); first | assumption | rfl)) ?_ | refine z_bald d_Tok_scanWord_21 (by first | assumption | exact zS0_at (by assumption) (by omega) | exact zS0_at rfl (by omega)) (by first | assumption | exact zS0_at (by assumption) (by omega) | exact zS0_at rfl (by omega)) ?_ | refine z_zald d_Tok_scanWord_21 (by first | assumption | exact zS0_at (by assumption) (by omega) | exact zS0_at rfl (by omega)) (by first | assumption | exact zS0_at (by assumption) (by omega) | exact zS0_at rfl (by omega)) ?_
        refine z_bipush (a := nI 97) d_Tok_scanWord_22 (by decide) ?_
        refine z_icmp_lt (tgt := 76) d_Tok_scanWord_24 (by decide) (fun hc => ?_) (fun hc => ?_)
        · rw [s_run_stop (by simp [c_le, hc])] at hI
          obtain rfl := hI
          exact fin (by omega) (by omega)
        · refine z_aload_0 d_Tok_scanWord_27 ?_
          refine z_getR d_Tok_scanWord_28 f_Tok_7 (by first | assumption | exact zS0_at (by assumption) (by omega) | exact zS0_at rfl (by omega)) (by first | assumption | exact zS0_at (by assumption) (by omega) | exact zS0_at rfl (by omega)) ?_
          refine z_aload_0 d_Tok_scanWord_31 ?_
          refine z_getIv d_Tok_scanWord_32 f_Tok_57 (by first | assumption | exact zS0_at (by assumption) (by omega) | exact zS0_at rfl (by omega)) (by first | assumption | ((try simp (disch := omega) only [zu_same, zu_ne, zcp_ne, zfl_ne]); first | assumption | rfl)) ?_
          first | refine z_baldNv d_Tok_scanWord_35 (by first | assumption | exact zS0_at (by assumption) (by omega) | exact zS0_at rfl (by omega)) (by omega) (by first | decide | omega) (by first | assumption | ((try simp (disch := omega) only [zu_same, zu_ne, zcp_ne, zfl_ne]); first | assumption | rfl)) ?_ | refine z_zaldNv d_Tok_scanWord_35 (by first | assumption | exact zS0_at (by assumption) (by omega) | exact zS0_at rfl (by omega)) (by omega) (by first | decide | omega) (by first | assumption | ((try simp (disch := omega) only [zu_same, zu_ne, zcp_ne, zfl_ne]); first | assumption | rfl)) ?_ | refine z_bald d_Tok_scanWord_35 (by first | assumption | exact zS0_at (by assumption) (by omega) | exact zS0_at rfl (by omega)) (by first | assumption | exact zS0_at (by assumption) (by omega) | exact zS0_at rfl (by omega)) ?_ | refine z_zald d_Tok_scanWord_35 (by first | assumption | exact zS0_at (by assumption) (by omega) | exact zS0_at rfl (by omega)) (by first | assumption | exact zS0_at (by assumption) (by omega) | exact zS0_at rfl (by omega)) ?_
          refine z_bipush (a := nI 122) d_Tok_scanWord_36 (by decide) ?_
          refine z_icmp_gt (tgt := 76) d_Tok_scanWord_38 (by decide) (fun hd => ?_) (fun hd => ?_)
          · rw [s_run_stop (by simp [c_le, hd])] at hI
            obtain rfl := hI
            exact fin (by omega) (by omega)
          · rw [s_run_go hb (by simp [c_le, hc, hd])] at hI
            have q0 := ih (j + 1) (by omega) (by omega) (by omega) hI
            rw [show j + 1 - s = (j - s) + 1 by omega, s_code, show s + (j - s) = j by omega] at q0
            refine z_lload_1 d_Tok_scanWord_41 ?_
            refine z_ldc2 d_Tok_scanWord_42 c_Tok_84 ?_
            refine z_lmul d_Tok_scanWord_45 ?_
            refine z_aload_0 d_Tok_scanWord_46 ?_
            refine z_getR d_Tok_scanWord_47 f_Tok_7 (by first | assumption | exact zS0_at (by assumption) (by omega) | exact zS0_at rfl (by omega)) (by first | assumption | exact zS0_at (by assumption) (by omega) | exact zS0_at rfl (by omega)) ?_
            refine z_aload_0 d_Tok_scanWord_50 ?_
            refine z_getIv d_Tok_scanWord_51 f_Tok_57 (by first | assumption | exact zS0_at (by assumption) (by omega) | exact zS0_at rfl (by omega)) (by first | assumption | ((try simp (disch := omega) only [zu_same, zu_ne, zcp_ne, zfl_ne]); first | assumption | rfl)) ?_
            first | refine z_baldNv d_Tok_scanWord_54 (by first | assumption | exact zS0_at (by assumption) (by omega) | exact zS0_at rfl (by omega)) (by omega) (by first | decide | omega) (by first | assumption | ((try simp (disch := omega) only [zu_same, zu_ne, zcp_ne, zfl_ne]); first | assumption | rfl)) ?_ | refine z_zaldNv d_Tok_scanWord_54 (by first | assumption | exact zS0_at (by assumption) (by omega) | exact zS0_at rfl (by omega)) (by omega) (by first | decide | omega) (by first | assumption | ((try simp (disch := omega) only [zu_same, zu_ne, zcp_ne, zfl_ne]); first | assumption | rfl)) ?_ | refine z_bald d_Tok_scanWord_54 (by first | assumption | exact zS0_at (by assumption) (by omega) | exact zS0_at rfl (by omega)) (by first | assumption | exact zS0_at (by assumption) (by omega) | exact zS0_at rfl (by omega)) ?_ | refine z_zald d_Tok_scanWord_54 (by first | assumption | exact zS0_at (by assumption) (by omega) | exact zS0_at rfl (by omega)) (by first | assumption | exact zS0_at (by assumption) (by omega) | exact zS0_at rfl (by omega)) ?_
            refine z_bipush (a := nI 97) d_Tok_scanWord_55 (by decide) ?_
            first | refine z_isubN d_Tok_scanWord_57 (by omega) ?_ | refine z_isub d_Tok_scanWord_57 ?_
            refine z_iconst (a := nI 1) d_Tok_scanWord_58 (by decide) ?_
            refine z_iadd d_Tok_scanWord_59 ?_
            refine z_i2l d_Tok_scanWord_60 ?_
            refine z_ladd d_Tok_scanWord_61 ?_
            first | refine z_lstore_1 d_Tok_scanWord_62 rfl ?_ | (refine z_forget_0 ?_; refine z_lstore_1 d_Tok_scanWord_62 rfl ?_)
            refine z_aload_0 d_Tok_scanWord_63 ?_
            refine z_dup rfl d_Tok_scanWord_64 ?_
            refine z_getIv d_Tok_scanWord_65 f_Tok_57 (by first | assumption | exact zS0_at (by assumption) (by omega) | exact zS0_at rfl (by omega)) (by first | assumption | ((try simp (disch := omega) only [zu_same, zu_ne, zcp_ne, zfl_ne]); first | assumption | rfl)) ?_
            refine z_iconst (a := nI 1) d_Tok_scanWord_68 (by decide) ?_
            first | refine z_iaddN d_Tok_scanWord_69 ?_ | refine z_iadd d_Tok_scanWord_69 ?_
            refine z_putI d_Tok_scanWord_70 f_Tok_57 (by first | assumption | exact zS0_at (by assumption) (by omega) | exact zS0_at rfl (by omega)) ?_
            refine z_goto (tgt := 2) d_Tok_scanWord_73 (by decide) ?_
            rw [zu_zu]
            exact q0
  refine z_lconst (f := lN 0) d_Tok_scanWord_0 rfl ?_
  first | refine z_lstore_1 d_Tok_scanWord_1 rfl ?_ | (refine z_forget_0 ?_; refine z_lstore_1 d_Tok_scanWord_1 rfl ?_)
  have q0 := loop (L + 1) s (by omega) (by omega) (by omega) he
  rw [Nat.sub_self, s_code, zu_id h2] at q0
  exact q0
end TK1
section TK2
variable {G : zG} {I : Nat → Nat → Int32} {J : Nat → Nat → Int64} {P : Nat → Nat → Option Nat} {S : List (Nat × Nat)} {q l L : Nat} {a b : Int32}
/-- the token that stands -/
def tokAt (I : Nat → Nat → Int32) (J : Nat → Nat → Int64) (t : tk) : Prop := I 11 2 = nI (ten t) ∧ I 11 4 = nI (tkd t) ∧ I 11 5 = nI (tst t) ∧ J 11 6 = twd t ∧ I 11 7 = tkw t ∧ I 11 8 = tnu t ∧ I 11 9 = tsg t
/-- only the token's fields are others -/
def tkF (I K : Nat → Nat → Int32) : Prop := (∀ a, a ≠ 11 → K a = I a) ∧ K 11 1 = I 11 1 ∧ K 11 10 = I 11 10 ∧ K 11 11 = I 11 11
def tkJ (J K : Nat → Nat → Int64) : Prop := ∀ a, a ≠ 11 → K a = J a
theorem tkF_r : tkF I I := ⟨fun _ _ => rfl, rfl, rfl, rfl⟩
theorem tkJ_r : tkJ J J := fun _ _ => rfl
theorem tkF_t {I K M : Nat → Nat → Int32} (h1 : tkF I K) (h2 : tkF K M) : tkF I M := ⟨fun a ha => (h2.1 a ha).trans (h1.1 a ha), h2.2.1.trans h1.2.1, h2.2.2.1.trans h1.2.2.1, h2.2.2.2.trans h1.2.2.2⟩
theorem tkJ_t {I K M : Nat → Nat → Int64} (h1 : tkJ I K) (h2 : tkJ K M) : tkJ I M := fun a ha => (h2 a ha).trans (h1 a ha)
theorem tkF_u {I K : Nat → Nat → Int32} {k : Nat} {x : Int32} (h : tkF I K) (h1 : k ≠ 1) (h2 : k ≠ 10) (h3 : k ≠ 11) : tkF I (zu K 11 k x) := by
  refine ⟨fun a ha => (zu_row K 11 k x ha).trans (h.1 a ha), ?_, ?_, ?_⟩
  · rw [zu_ne _ _ _ _ (by omega)]; exact h.2.1
  · rw [zu_ne _ _ _ _ (by omega)]; exact h.2.2.1
  · rw [zu_ne _ _ _ _ (by omega)]; exact h.2.2.2
theorem tkJ_u {I K : Nat → Nat → Int64} {k : Nat} {x : Int64} (h : tkJ I K) : tkJ I (zu K 11 k x) := fun a ha => (zu_row K 11 k x ha).trans (h a ha)
theorem s_tok_st (T : Nat → Int32) (L : Nat) (K : Nat → Int64) (p : Nat) (h : p ≤ L) : p ≤ tst (s_tok T L K p) ∧ tst (s_tok T L K p) ≤ L ∧ tst (s_tok T L K p) ≤ ten (s_tok T L K p) ∧ ten (s_tok T L K p) ≤ L ∧ (tkd (s_tok T L K p) ≠ 0 → tst (s_tok T L K p) < ten (s_tok T L K p)) := by
  have h1 := s_run_ge (b := fun i => c_ws (T i)) (L - p) p
  unfold s_tok
  generalize s_run (fun i => c_ws (T i)) (L - p) p = s at h1 ⊢
  have h2 := s_run_ge (b := fun i => c_le (T i)) (L - s) s
  have h3 := s_run_ge (b := fun i => c_di (T i)) (L - s) s
  unfold s_tok1
  split
  · refine ⟨?_, ?_, ?_, ?_, fun h => absurd rfl h⟩ <;> simp only [tst, ten] <;> omega
  · split
    · rename_i h4 h5
      have h6 : s_run (fun i => c_le (T i)) (L - s) s = s_run (fun i => c_le (T i)) (L - (s + 1)) (s + 1) := s_run_go (by omega) h5
      have h7 := s_run_ge (b := fun i => c_le (T i)) (L - (s + 1)) (s + 1)
      rw [h6]
      dsimp only
      split
      · refine ⟨?_, ?_, ?_, ?_, fun _ => ?_⟩ <;> simp only [tst, ten] <;> omega
      · refine ⟨?_, ?_, ?_, ?_, fun _ => ?_⟩ <;> simp only [tst, ten] <;> omega
    · split
      · rename_i h4 h0 h5
        have h6 : s_run (fun i => c_di (T i)) (L - s) s = s_run (fun i => c_di (T i)) (L - (s + 1)) (s + 1) := s_run_go (by omega) h5
        have h7 := s_run_ge (b := fun i => c_di (T i)) (L - (s + 1)) (s + 1)
        rw [h6]
        refine ⟨?_, ?_, ?_, ?_, fun _ => ?_⟩ <;> simp only [tst, ten] <;> omega
      · refine ⟨?_, ?_, ?_, ?_, fun _ => ?_⟩ <;> simp only [tst, ten] <;> omega
theorem t_Tok_advance {p : Nat} (X : tkOk P S q l) (hL : L ≤ l) (hl : l ≤ 900) (h1 : I 11 1 = nI L) (h2 : I 11 2 = nI p) (hp : p ≤ L) : zEv G y_Tok_advance prog_9_method_3_code 1 2 0 0 [.ref 11] (I, J, P, S) (fun w => ∃ K M, w = (K, M, P, S) ∧ tkF I K ∧ tkJ J M ∧ tokAt K M (s_tok (I q) L (J 13) p)) := by
  have X' := X
  obtain ⟨X0, X1, X2, X3, X4, X5⟩ := X
  refine zEv_of (lv := [some (.ref 11)]) (by decide) rfl (Nat.le_of_ble_eq_true rfl) ?_
  obtain ⟨s, he⟩ : ∃ s, s_run (fun i => c_ws (I q i)) (L - p) p = s := ⟨_, rfl⟩
  have hse := s_run_ge (b := fun i => c_ws (I q i)) (L - p) p
  rw [he] at hse
  have fin : zA G y_Tok_advance prog_9_method_3_code 1 none (zRm 2 0 0) (zM G 0 0 (fun r w' => r = none ∧ (fun w => ∃ K M, w = (K, M, P, S) ∧ tkF I K ∧ tkJ J M ∧ tokAt K M (s_tok (I q) L (J 13) p)) w')) 52 [some (.ref 11)] [] (zu I 11 2 (nI s), J, P, S) 0 0 := by
    have hst : s_tok (I q) L (J 13) p = s_tok1 (I q) L (J 13) s := by unfold s_tok; rw [he]
    refine z_aload_0 d_Tok_advance_52 ?_
    refine z_aload_0 d_Tok_advance_53 ?_
    refine z_getIv d_Tok_advance_54 f_Tok_57 (by first | assumption | exact zS0_at (by assumption) (by omega) | exact zS0_at rfl (by omega)) (by first | assumption | ((try simp (disch := omega) only [zu_same, zu_ne, zcp_ne, zfl_ne]); first | assumption | rfl)) ?_
    refine z_putI d_Tok_advance_57 f_Tok_60 (by first | assumption | exact zS0_at (by assumption) (by omega) | exact zS0_at rfl (by omega)) ?_
    refine z_aload_0 d_Tok_advance_60 ?_
    refine z_lconst (f := lN 0) d_Tok_advance_61 rfl ?_
    refine z_putJ d_Tok_advance_62 f_Tok_42 (by first | assumption | exact zS0_at (by assumption) (by omega) | exact zS0_at rfl (by omega)) ?_
    refine z_aload_0 d_Tok_advance_65 ?_
    refine z_iconst (a := -1) d_Tok_advance_66 (by decide) ?_
    refine z_putI d_Tok_advance_67 f_Tok_63 (by first | assumption | exact zS0_at (by assumption) (by omega) | exact zS0_at rfl (by omega)) ?_
    refine z_aload_0 d_Tok_advance_70 ?_
    refine z_iconst (a := nI 0) d_Tok_advance_71 (by decide) ?_
    refine z_putI d_Tok_advance_72 f_Tok_66 (by first | assumption | exact zS0_at (by assumption) (by omega) | exact zS0_at rfl (by omega)) ?_
    refine z_aload_0 d_Tok_advance_75 ?_
    refine z_iconst (a := nI 0) d_Tok_advance_76 (by decide) ?_
    refine z_putI d_Tok_advance_77 f_Tok_69 (by first | assumption | exact zS0_at (by assumption) (by omega) | exact zS0_at rfl (by omega)) ?_
    refine z_aload_0 d_Tok_advance_80 ?_
    refine z_getIv d_Tok_advance_81 f_Tok_57 (by first | assumption | exact zS0_at (by assumption) (by omega) | exact zS0_at rfl (by omega)) (by first | assumption | ((try simp (disch := omega) only [zu_same, zu_ne, zcp_ne, zfl_ne]); first | assumption | rfl)) ?_
    refine z_aload_0 d_Tok_advance_84 ?_
    refine z_getIv d_Tok_advance_85 f_Tok_55 (by first | assumption | exact zS0_at (by assumption) (by omega) | exact zS0_at rfl (by omega)) (by first | assumption | ((try simp (disch := omega) only [zu_same, zu_ne, zcp_ne, zfl_ne]); first | assumption | rfl)) ?_
    have hF := tkF_u (k := 9) (x := nI 0) (tkF_u (k := 8) (x := nI 0) (tkF_u (k := 7) (x := -1) (tkF_u (k := 5) (x := nI s) (tkF_u (k := 2) (x := nI s) (tkF_r (I := I)) (by decide) (by decide) (by decide)) (by decide) (by decide) (by decide)) (by decide) (by decide) (by decide)) (by decide) (by decide) (by decide)) (by decide) (by decide) (by decide)
    have hJ := tkJ_u (k := 6) (x := lN 0) (tkJ_r (J := J))
    have hq0 := hF.1 q X3
    have hj0 := hJ 13 (by decide)
    have g1 := hF.2.1.trans h1
    have g2 : zu (zu (zu (zu (zu I 11 2 (nI s)) 11 5 (nI s)) 11 7 (-1)) 11 8 (nI 0)) 11 9 (nI 0) 11 2 = nI s := by simp [zu]
    have g5 : zu (zu (zu (zu (zu I 11 2 (nI s)) 11 5 (nI s)) 11 7 (-1)) 11 8 (nI 0)) 11 9 (nI 0) 11 5 = nI s := by simp [zu]
    have g7 : zu (zu (zu (zu (zu I 11 2 (nI s)) 11 5 (nI s)) 11 7 (-1)) 11 8 (nI 0)) 11 9 (nI 0) 11 7 = -1 := by simp [zu]
    have g8 : zu (zu (zu (zu (zu I 11 2 (nI s)) 11 5 (nI s)) 11 7 (-1)) 11 8 (nI 0)) 11 9 (nI 0) 11 8 = nI 0 := by simp [zu]
    have g9 : zu (zu (zu (zu (zu I 11 2 (nI s)) 11 5 (nI s)) 11 7 (-1)) 11 8 (nI 0)) 11 9 (nI 0) 11 9 = nI 0 := by simp [zu]
    have gw : zu J 11 6 (lN 0) 11 6 = lN 0 := by simp [zu]
    generalize zu (zu (zu (zu (zu I 11 2 (nI s)) 11 5 (nI s)) 11 7 (-1)) 11 8 (nI 0)) 11 9 (nI 0) = K at hF hq0 g1 g2 g5 g7 g8 g9 ⊢
    generalize zu J 11 6 (lN 0) = M at hJ hj0 gw ⊢
    refine z_icmp_lt (tgt := 99) d_Tok_advance_88 (by decide) (fun hb => ?_) (fun hb => ?_)
    · have hb := (nI_ltI (by omega) (by omega)).mp hb
      have word : c_le (K q s) = true → zA G y_Tok_advance prog_9_method_3_code 1 none (zRm 2 0 0) (zM G 0 0 (fun r w' => r = none ∧ (fun w => ∃ K M, w = (K, M, P, S) ∧ tkF I K ∧ tkJ J M ∧ tokAt K M (s_tok (I q) L (J 13) p)) w')) 127 [some (.ref 11)] [] (K, M, P, S) 0 0 := by
        intro hc
        rw [hst, ← hq0, s_tok1, if_neg (by omega), if_pos hc]
        refine z_aload_0 d_Tok_advance_127 ?_
        refine z_Vv0 d_Tok_advance_128 k_Tok_75 (by first | assumption | exact zS0_at (by assumption) (by omega) | exact zS0_at rfl (by omega)) (t_Tok_scanWord X' hL hl g1 g2 (by omega) g5 g7) ⟨Nat.le_of_ble_eq_true rfl, Nat.le_of_ble_eq_true rfl, Nat.le_of_ble_eq_true rfl, Nat.le_of_ble_eq_true rfl⟩ (Nat.le_of_ble_eq_true rfl) ?_
        intro w hq
        obtain ⟨e, rfl, rfl⟩ := hq
        dsimp only
        rw [hj0]
        split
        · skip
          refine z_goto (tgt := 173) d_Tok_advance_131 (by decide) ?_
          refine z_retv d_Tok_advance_173 ?_
          exact ⟨_, _, rfl, tkF_u (tkF_u (tkF_u hF (by decide) (by decide) (by decide)) (by decide) (by decide) (by decide)) (by decide) (by decide) (by decide), tkJ_u hJ, by refine ⟨?_, ?_, ?_, ?_, ?_, ?_, ?_⟩ <;> simp [zu, g2, g5, g7, g8, g9]⟩
        · skip
          refine z_goto (tgt := 173) d_Tok_advance_131 (by decide) ?_
          refine z_retv d_Tok_advance_173 ?_
          exact ⟨_, _, rfl, tkF_u (tkF_u hF (by decide) (by decide) (by decide)) (by decide) (by decide) (by decide), hJ, by refine ⟨?_, ?_, ?_, ?_, ?_, ?_, ?_⟩ <;> simp [zu, g2, g5, g7, g8, g9, gw]⟩
      have digit : c_le (K q s) = false → c_di (K q s) = true → zA G y_Tok_advance prog_9_method_3_code 1 none (zRm 2 0 0) (zM G 0 0 (fun r w' => r = none ∧ (fun w => ∃ K M, w = (K, M, P, S) ∧ tkF I K ∧ tkJ J M ∧ tokAt K M (s_tok (I q) L (J 13) p)) w')) 162 [some (.ref 11)] [] (K, M, P, S) 0 0 := by
        intro hc hd
        rw [hst, ← hq0, s_tok1, if_neg (by omega), if_neg (by rw [hc]; decide), if_pos hd]
        refine z_aload_0 d_Tok_advance_162 ?_
        refine z_Vv0 d_Tok_advance_163 k_Tok_78 (by first | assumption | exact zS0_at (by assumption) (by omega) | exact zS0_at rfl (by omega)) (t_Tok_scanNumber X' hL hl g1 g2 (by omega) g5 g8) ⟨Nat.le_of_ble_eq_true rfl, Nat.le_of_ble_eq_true rfl, Nat.le_of_ble_eq_true rfl, Nat.le_of_ble_eq_true rfl⟩ (Nat.le_of_ble_eq_true rfl) ?_
        intro w hq
        obtain ⟨e, rfl, rfl⟩ := hq
        refine z_goto (tgt := 173) d_Tok_advance_166 (by decide) ?_
        refine z_retv d_Tok_advance_173 ?_
        exact ⟨_, _, rfl, tkF_u (tkF_u (tkF_u hF (by decide) (by decide) (by decide)) (by decide) (by decide) (by decide)) (by decide) (by decide) (by decide), hJ, by refine ⟨?_, ?_, ?_, ?_, ?_, ?_, ?_⟩ <;> simp [zu, g2, g5, g7, g8, g9, gw]⟩
      have sign : c_le (K q s) = false → c_di (K q s) = false → zA G y_Tok_advance prog_9_method_3_code 1 none (zRm 2 0 0) (zM G 0 0 (fun r w' => r = none ∧ (fun w => ∃ K M, w = (K, M, P, S) ∧ tkF I K ∧ tkJ J M ∧ tokAt K M (s_tok (I q) L (J 13) p)) w')) 169 [some (.ref 11)] [] (K, M, P, S) 0 0 := by
        intro hc hd
        rw [hst, ← hq0, s_tok1, if_neg (by omega), if_neg (by rw [hc]; decide), if_neg (by rw [hd]; decide)]
        refine z_aload_0 d_Tok_advance_169 ?_
        refine z_Vv0 d_Tok_advance_170 k_Tok_81 (by first | assumption | exact zS0_at (by assumption) (by omega) | exact zS0_at rfl (by omega)) (t_Tok_scanSign X' (by omega) hl g2) ⟨Nat.le_of_ble_eq_true rfl, Nat.le_of_ble_eq_true rfl, Nat.le_of_ble_eq_true rfl, Nat.le_of_ble_eq_true rfl⟩ (Nat.le_of_ble_eq_true rfl) ?_
        intro w hq
        obtain rfl := hq
        refine z_retv d_Tok_advance_173 ?_
        exact ⟨_, _, rfl, tkF_u (tkF_u (tkF_u hF (by decide) (by decide) (by decide)) (by decide) (by decide) (by decide)) (by decide) (by decide) (by decide), hJ, by refine ⟨?_, ?_, ?_, ?_, ?_, ?_, ?_⟩ <;> simp [zu, g2, g5, g7, g8, g9, gw]⟩
      refine z_aload_0 d_Tok_advance_99 ?_
      refine z_getR d_Tok_advance_100 f_Tok_7 (by first | assumption | exact zS0_at (by assumption) (by omega) | exact zS0_at rfl (by omega)) (by first | assumption | exact zS0_at (by assumption) (by omega) | exact zS0_at rfl (by omega)) ?_
      refine z_aload_0 d_Tok_advance_103 ?_
      refine z_getIv d_Tok_advance_104 f_Tok_57 (by first | assumption | exact zS0_at (by assumption) (by omega) | exact zS0_at rfl (by omega)) (by first | assumption | ((try simp (disch := omega) only [zu_same, zu_ne, zcp_ne, zfl_ne]); first | assumption | rfl)) ?_
      first | refine z_baldNv d_Tok_advance_107 (by first | assumption | exact zS0_at (by assumption) (by omega) | exact zS0_at rfl (by omega)) (by omega) (by first | decide | omega) (by first | assumption | ((try simp (disch := omega) only [zu_same, zu_ne, zcp_ne, zfl_ne]); first | assumption | rfl)) ?_ | refine z_zaldNv d_Tok_advance_107 (by first | assumption | exact zS0_at (by assumption) (by omega) | exact zS0_at rfl (by omega)) (by omega) (by first | decide | omega) (by first | assumption | ((try simp (disch := omega) only [zu_same, zu_ne, zcp_ne, zfl_ne]); first | assumption | rfl)) ?_ | refine z_bald d_Tok_advance_107 (by first | assumption | exact zS0_at (by assumption) (by omega) | exact zS0_at rfl (by omega)) (by first | assumption | exact zS0_at (by assumption) (by omega) | exact zS0_at rfl (by omega)) ?_ | refine z_zald d_Tok_advance_107 (by first | assumption | exact zS0_at (by assumption) (by omega) | exact zS0_at rfl (by omega)) (by first | assumption | exact zS0_at (by assumption) (by omega) | exact zS0_at rfl (by omega)) ?_
      refine z_bipush (a := nI 97) d_Tok_advance_108 (by decide) ?_
      refine z_icmp_lt (tgt := 134) d_Tok_advance_110 (by decide) (fun h110 => ?_) (fun h110 => ?_)
      · first
        | (simp (disch := omega) only [← nI_0, nI_leI, nI_ltI, nI_eq, not_true_eq_false, not_false_eq_true] at h110; done)
        | (simp (disch := omega) only [← nI_0, nI_leI, nI_ltI, nI_eq, not_true_eq_false, not_false_eq_true] at h110; omega)
        | contradiction
        | exact absurd h110 (Int32.not_lt.mpr (by assumption))
        | exact absurd h110 (Int32.not_le.mpr (by assumption))
        | exact absurd h110 (by decide)
        | exact absurd (by decide) h110
        | ( try simp (disch := omega) only [← nI_0, nI_leI, nI_ltI, nI_eq, not_true_eq_false, not_false_eq_true] at h110
            refine z_aload_0 d_Tok_advance_134 ?_
            refine z_getR d_Tok_advance_135 f_Tok_7 (by first | assumption | exact zS0_at (by assumption) (by omega) | exact zS0_at rfl (by omega)) (by first | assumption | exact zS0_at (by assumption) (by omega) | exact zS0_at rfl (by omega)) ?_
            refine z_aload_0 d_Tok_advance_138 ?_
            refine z_getIv d_Tok_advance_139 f_Tok_57 (by first | assumption | exact zS0_at (by assumption) (by omega) | exact zS0_at rfl (by omega)) (by first | assumption | ((try simp (disch := omega) only [zu_same, zu_ne, zcp_ne, zfl_ne]); first | assumption | rfl)) ?_
            first | refine z_baldNv d_Tok_advance_142 (by first | assumption | exact zS0_at (by assumption) (by omega) | exact zS0_at rfl (by omega)) (by omega) (by first | decide | omega) (by first | assumption | ((try simp (disch := omega) only [zu_same, zu_ne, zcp_ne, zfl_ne]); first | assumption | rfl)) ?_ | refine z_zaldNv d_Tok_advance_142 (by first | assumption | exact zS0_at (by assumption) (by omega) | exact zS0_at rfl (by omega)) (by omega) (by first | decide | omega) (by first | assumption | ((try simp (disch := omega) only [zu_same, zu_ne, zcp_ne, zfl_ne]); first | assumption | rfl)) ?_ | refine z_bald d_Tok_advance_142 (by first | assumption | exact zS0_at (by assumption) (by omega) | exact zS0_at rfl (by omega)) (by first | assumption | exact zS0_at (by assumption) (by omega) | exact zS0_at rfl (by omega)) ?_ | refine z_zald d_Tok_advance_142 (by first | assumption | exact zS0_at (by assumption) (by omega) | exact zS0_at rfl (by omega)) (by first | assumption | exact zS0_at (by assumption) (by omega) | exact zS0_at rfl (by omega)) ?_
            refine z_bipush (a := nI 48) d_Tok_advance_143 (by decide) ?_
            refine z_icmp_lt (tgt := 169) d_Tok_advance_145 (by decide) (fun h145 => ?_) (fun h145 => ?_)
            · first
              | (simp (disch := omega) only [← nI_0, nI_leI, nI_ltI, nI_eq, not_true_eq_false, not_false_eq_true] at h145; done)
              | (simp (disch := omega) only [← nI_0, nI_leI, nI_ltI, nI_eq, not_true_eq_false, not_false_eq_true] at h145; omega)
              | contradiction
              | exact absurd h145 (Int32.not_lt.mpr (by assumption))
              | exact absurd h145 (Int32.not_le.mpr (by assumption))
              | exact absurd h145 (by decide)
              | exact absurd (by decide) h145
              | ( try simp (disch := omega) only [← nI_0, nI_leI, nI_ltI, nI_eq, not_true_eq_false, not_false_eq_true] at h145
                  exact sign (by unfold c_le; simp_all) (by unfold c_di; simp_all))
            · first
              | (simp (disch := omega) only [← nI_0, nI_leI, nI_ltI, nI_eq, not_true_eq_false, not_false_eq_true] at h145; done)
              | (simp (disch := omega) only [← nI_0, nI_leI, nI_ltI, nI_eq, not_true_eq_false, not_false_eq_true] at h145; omega)
              | contradiction
              | exact absurd h145 (Int32.not_lt.mpr (by assumption))
              | exact absurd h145 (Int32.not_le.mpr (by assumption))
              | exact absurd h145 (by decide)
              | exact absurd (by decide) h145
              | ( try simp (disch := omega) only [← nI_0, nI_leI, nI_ltI, nI_eq, not_true_eq_false, not_false_eq_true] at h145
                  refine z_aload_0 d_Tok_advance_148 ?_
                  refine z_getR d_Tok_advance_149 f_Tok_7 (by first | assumption | exact zS0_at (by assumption) (by omega) | exact zS0_at rfl (by omega)) (by first | assumption | exact zS0_at (by assumption) (by omega) | exact zS0_at rfl (by omega)) ?_
                  refine z_aload_0 d_Tok_advance_152 ?_
                  refine z_getIv d_Tok_advance_153 f_Tok_57 (by first | assumption | exact zS0_at (by assumption) (by omega) | exact zS0_at rfl (by omega)) (by first | assumption | ((try simp (disch := omega) only [zu_same, zu_ne, zcp_ne, zfl_ne]); first | assumption | rfl)) ?_
                  first | refine z_baldNv d_Tok_advance_156 (by first | assumption | exact zS0_at (by assumption) (by omega) | exact zS0_at rfl (by omega)) (by omega) (by first | decide | omega) (by first | assumption | ((try simp (disch := omega) only [zu_same, zu_ne, zcp_ne, zfl_ne]); first | assumption | rfl)) ?_ | refine z_zaldNv d_Tok_advance_156 (by first | assumption | exact zS0_at (by assumption) (by omega) | exact zS0_at rfl (by omega)) (by omega) (by first | decide | omega) (by first | assumption | ((try simp (disch := omega) only [zu_same, zu_ne, zcp_ne, zfl_ne]); first | assumption | rfl)) ?_ | refine z_bald d_Tok_advance_156 (by first | assumption | exact zS0_at (by assumption) (by omega) | exact zS0_at rfl (by omega)) (by first | assumption | exact zS0_at (by assumption) (by omega) | exact zS0_at rfl (by omega)) ?_ | refine z_zald d_Tok_advance_156 (by first | assumption | exact zS0_at (by assumption) (by omega) | exact zS0_at rfl (by omega)) (by first | assumption | exact zS0_at (by assumption) (by omega) | exact zS0_at rfl (by omega)) ?_
                  refine z_bipush (a := nI 57) d_Tok_advance_157 (by decide) ?_
                  refine z_icmp_gt (tgt := 169) d_Tok_advance_159 (by decide) (fun h159 => ?_) (fun h159 => ?_)
                  · first
                    | (simp (disch := omega) only [← nI_0, nI_leI, nI_ltI, nI_eq, not_true_eq_false, not_false_eq_true] at h159; done)
                    | (simp (disch := omega) only [← nI_0, nI_leI, nI_ltI, nI_eq, not_true_eq_false, not_false_eq_true] at h159; omega)
                    | contradiction
                    | exact absurd h159 (Int32.not_lt.mpr (by assumption))
                    | exact absurd h159 (Int32.not_le.mpr (by assumption))
                    | exact absurd h159 (by decide)
                    | exact absurd (by decide) h159
                    | ( try simp (disch := omega) only [← nI_0, nI_leI, nI_ltI, nI_eq, not_true_eq_false, not_false_eq_true] at h159
                        exact sign (by unfold c_le; simp_all) (by unfold c_di; simp_all))
                  · first
                    | (simp (disch := omega) only [← nI_0, nI_leI, nI_ltI, nI_eq, not_true_eq_false, not_false_eq_true] at h159; done)
                    | (simp (disch := omega) only [← nI_0, nI_leI, nI_ltI, nI_eq, not_true_eq_false, not_false_eq_true] at h159; omega)
                    | contradiction
                    | exact absurd h159 (Int32.not_lt.mpr (by assumption))
                    | exact absurd h159 (Int32.not_le.mpr (by assumption))
                    | exact absurd h159 (by decide)
                    | exact absurd (by decide) h159
                    | ( try simp (disch := omega) only [← nI_0, nI_leI, nI_ltI, nI_eq, not_true_eq_false, not_false_eq_true] at h159
                        exact digit (by unfold c_le; simp_all) (by unfold c_di; simp_all))))
      · first
        | (simp (disch := omega) only [← nI_0, nI_leI, nI_ltI, nI_eq, not_true_eq_false, not_false_eq_true] at h110; done)
        | (simp (disch := omega) only [← nI_0, nI_leI, nI_ltI, nI_eq, not_true_eq_false, not_false_eq_true] at h110; omega)
        | contradiction
        | exact absurd h110 (Int32.not_lt.mpr (by assumption))
        | exact absurd h110 (Int32.not_le.mpr (by assumption))
        | exact absurd h110 (by decide)
        | exact absurd (by decide) h110
        | ( try simp (disch := omega) only [← nI_0, nI_leI, nI_ltI, nI_eq, not_true_eq_false, not_false_eq_true] at h110
            refine z_aload_0 d_Tok_advance_113 ?_
            refine z_getR d_Tok_advance_114 f_Tok_7 (by first | assumption | exact zS0_at (by assumption) (by omega) | exact zS0_at rfl (by omega)) (by first | assumption | exact zS0_at (by assumption) (by omega) | exact zS0_at rfl (by omega)) ?_
            refine z_aload_0 d_Tok_advance_117 ?_
            refine z_getIv d_Tok_advance_118 f_Tok_57 (by first | assumption | exact zS0_at (by assumption) (by omega) | exact zS0_at rfl (by omega)) (by first | assumption | ((try simp (disch := omega) only [zu_same, zu_ne, zcp_ne, zfl_ne]); first | assumption | rfl)) ?_
            first | refine z_baldNv d_Tok_advance_121 (by first | assumption | exact zS0_at (by assumption) (by omega) | exact zS0_at rfl (by omega)) (by omega) (by first | decide | omega) (by first | assumption | ((try simp (disch := omega) only [zu_same, zu_ne, zcp_ne, zfl_ne]); first | assumption | rfl)) ?_ | refine z_zaldNv d_Tok_advance_121 (by first | assumption | exact zS0_at (by assumption) (by omega) | exact zS0_at rfl (by omega)) (by omega) (by first | decide | omega) (by first | assumption | ((try simp (disch := omega) only [zu_same, zu_ne, zcp_ne, zfl_ne]); first | assumption | rfl)) ?_ | refine z_bald d_Tok_advance_121 (by first | assumption | exact zS0_at (by assumption) (by omega) | exact zS0_at rfl (by omega)) (by first | assumption | exact zS0_at (by assumption) (by omega) | exact zS0_at rfl (by omega)) ?_ | refine z_zald d_Tok_advance_121 (by first | assumption | exact zS0_at (by assumption) (by omega) | exact zS0_at rfl (by omega)) (by first | assumption | exact zS0_at (by assumption) (by omega) | exact zS0_at rfl (by omega)) ?_
            refine z_bipush (a := nI 122) d_Tok_advance_122 (by decide) ?_
            refine z_icmp_gt (tgt := 134) d_Tok_advance_124 (by decide) (fun h124 => ?_) (fun h124 => ?_)
            · first
              | (simp (disch := omega) only [← nI_0, nI_leI, nI_ltI, nI_eq, not_true_eq_false, not_false_eq_true] at h124; done)
              | (simp (disch := omega) only [← nI_0, nI_leI, nI_ltI, nI_eq, not_true_eq_false, not_false_eq_true] at h124; omega)
              | contradiction
              | exact absurd h124 (Int32.not_lt.mpr (by assumption))
              | exact absurd h124 (Int32.not_le.mpr (by assumption))
              | exact absurd h124 (by decide)
              | exact absurd (by decide) h124
              | ( try simp (disch := omega) only [← nI_0, nI_leI, nI_ltI, nI_eq, not_true_eq_false, not_false_eq_true] at h124
                  refine z_aload_0 d_Tok_advance_134 ?_
                  refine z_getR d_Tok_advance_135 f_Tok_7 (by first | assumption | exact zS0_at (by assumption) (by omega) | exact zS0_at rfl (by omega)) (by first | assumption | exact zS0_at (by assumption) (by omega) | exact zS0_at rfl (by omega)) ?_
                  refine z_aload_0 d_Tok_advance_138 ?_
                  refine z_getIv d_Tok_advance_139 f_Tok_57 (by first | assumption | exact zS0_at (by assumption) (by omega) | exact zS0_at rfl (by omega)) (by first | assumption | ((try simp (disch := omega) only [zu_same, zu_ne, zcp_ne, zfl_ne]); first | assumption | rfl)) ?_
                  first | refine z_baldNv d_Tok_advance_142 (by first | assumption | exact zS0_at (by assumption) (by omega) | exact zS0_at rfl (by omega)) (by omega) (by first | decide | omega) (by first | assumption | ((try simp (disch := omega) only [zu_same, zu_ne, zcp_ne, zfl_ne]); first | assumption | rfl)) ?_ | refine z_zaldNv d_Tok_advance_142 (by first | assumption | exact zS0_at (by assumption) (by omega) | exact zS0_at rfl (by omega)) (by omega) (by first | decide | omega) (by first | assumption | ((try simp (disch := omega) only [zu_same, zu_ne, zcp_ne, zfl_ne]); first | assumption | rfl)) ?_ | refine z_bald d_Tok_advance_142 (by first | assumption | exact zS0_at (by assumption) (by omega) | exact zS0_at rfl (by omega)) (by first | assumption | exact zS0_at (by assumption) (by omega) | exact zS0_at rfl (by omega)) ?_ | refine z_zald d_Tok_advance_142 (by first | assumption | exact zS0_at (by assumption) (by omega) | exact zS0_at rfl (by omega)) (by first | assumption | exact zS0_at (by assumption) (by omega) | exact zS0_at rfl (by omega)) ?_
                  refine z_bipush (a := nI 48) d_Tok_advance_143 (by decide) ?_
                  refine z_icmp_lt (tgt := 169) d_Tok_advance_145 (by decide) (fun h145 => ?_) (fun h145 => ?_)
                  · first
                    | (simp (disch := omega) only [← nI_0, nI_leI, nI_ltI, nI_eq, not_true_eq_false, not_false_eq_true] at h145; done)
                    | (simp (disch := omega) only [← nI_0, nI_leI, nI_ltI, nI_eq, not_true_eq_false, not_false_eq_true] at h145; omega)
                    | contradiction
                    | exact absurd h145 (Int32.not_lt.mpr (by assumption))
                    | exact absurd h145 (Int32.not_le.mpr (by assumption))
                    | exact absurd h145 (by decide)
                    | exact absurd (by decide) h145
                    | ( try simp (disch := omega) only [← nI_0, nI_leI, nI_ltI, nI_eq, not_true_eq_false, not_false_eq_true] at h145
                        exact sign (by unfold c_le; simp_all) (by unfold c_di; simp_all))
                  · first
                    | (simp (disch := omega) only [← nI_0, nI_leI, nI_ltI, nI_eq, not_true_eq_false, not_false_eq_true] at h145; done)
                    | (simp (disch := omega) only [← nI_0, nI_leI, nI_ltI, nI_eq, not_true_eq_false, not_false_eq_true] at h145; omega)
                    | contradiction
                    | exact absurd h145 (Int32.not_lt.mpr (by assumption))
                    | exact absurd h145 (Int32.not_le.mpr (by assumption))
                    | exact absurd h145 (by decide)
                    | exact absurd (by decide) h145
                    | ( try simp (disch := omega) only [← nI_0, nI_leI, nI_ltI, nI_eq, not_true_eq_false, not_false_eq_true] at h145
                        refine z_aload_0 d_Tok_advance_148 ?_
                        refine z_getR d_Tok_advance_149 f_Tok_7 (by first | assumption | exact zS0_at (by assumption) (by omega) | exact zS0_at rfl (by omega)) (by first | assumption | exact zS0_at (by assumption) (by omega) | exact zS0_at rfl (by omega)) ?_
                        refine z_aload_0 d_Tok_advance_152 ?_
                        refine z_getIv d_Tok_advance_153 f_Tok_57 (by first | assumption | exact zS0_at (by assumption) (by omega) | exact zS0_at rfl (by omega)) (by first | assumption | ((try simp (disch := omega) only [zu_same, zu_ne, zcp_ne, zfl_ne]); first | assumption | rfl)) ?_
                        first | refine z_baldNv d_Tok_advance_156 (by first | assumption | exact zS0_at (by assumption) (by omega) | exact zS0_at rfl (by omega)) (by omega) (by first | decide | omega) (by first | assumption | ((try simp (disch := omega) only [zu_same, zu_ne, zcp_ne, zfl_ne]); first | assumption | rfl)) ?_ | refine z_zaldNv d_Tok_advance_156 (by first | assumption | exact zS0_at (by assumption) (by omega) | exact zS0_at rfl (by omega)) (by omega) (by first | decide | omega) (by first | assumption | ((try simp (disch := omega) only [zu_same, zu_ne, zcp_ne, zfl_ne]); first | assumption | rfl)) ?_ | refine z_bald d_Tok_advance_156 (by first | assumption | exact zS0_at (by assumption) (by omega) | exact zS0_at rfl (by omega)) (by first | assumption | exact zS0_at (by assumption) (by omega) | exact zS0_at rfl (by omega)) ?_ | refine z_zald d_Tok_advance_156 (by first | assumption | exact zS0_at (by assumption) (by omega) | exact zS0_at rfl (by omega)) (by first | assumption | exact zS0_at (by assumption) (by omega) | exact zS0_at rfl (by omega)) ?_
                        refine z_bipush (a := nI 57) d_Tok_advance_157 (by decide) ?_
                        refine z_icmp_gt (tgt := 169) d_Tok_advance_159 (by decide) (fun h159 => ?_) (fun h159 => ?_)
                        · first
                          | (simp (disch := omega) only [← nI_0, nI_leI, nI_ltI, nI_eq, not_true_eq_false, not_false_eq_true] at h159; done)
                          | (simp (disch := omega) only [← nI_0, nI_leI, nI_ltI, nI_eq, not_true_eq_false, not_false_eq_true] at h159; omega)
                          | contradiction
                          | exact absurd h159 (Int32.not_lt.mpr (by assumption))
                          | exact absurd h159 (Int32.not_le.mpr (by assumption))
                          | exact absurd h159 (by decide)
                          | exact absurd (by decide) h159
                          | ( try simp (disch := omega) only [← nI_0, nI_leI, nI_ltI, nI_eq, not_true_eq_false, not_false_eq_true] at h159
                              exact sign (by unfold c_le; simp_all) (by unfold c_di; simp_all))
                        · first
                          | (simp (disch := omega) only [← nI_0, nI_leI, nI_ltI, nI_eq, not_true_eq_false, not_false_eq_true] at h159; done)
                          | (simp (disch := omega) only [← nI_0, nI_leI, nI_ltI, nI_eq, not_true_eq_false, not_false_eq_true] at h159; omega)
                          | contradiction
                          | exact absurd h159 (Int32.not_lt.mpr (by assumption))
                          | exact absurd h159 (Int32.not_le.mpr (by assumption))
                          | exact absurd h159 (by decide)
                          | exact absurd (by decide) h159
                          | ( try simp (disch := omega) only [← nI_0, nI_leI, nI_ltI, nI_eq, not_true_eq_false, not_false_eq_true] at h159
                              exact digit (by unfold c_le; simp_all) (by unfold c_di; simp_all))))
            · first
              | (simp (disch := omega) only [← nI_0, nI_leI, nI_ltI, nI_eq, not_true_eq_false, not_false_eq_true] at h124; done)
              | (simp (disch := omega) only [← nI_0, nI_leI, nI_ltI, nI_eq, not_true_eq_false, not_false_eq_true] at h124; omega)
              | contradiction
              | exact absurd h124 (Int32.not_lt.mpr (by assumption))
              | exact absurd h124 (Int32.not_le.mpr (by assumption))
              | exact absurd h124 (by decide)
              | exact absurd (by decide) h124
              | ( try simp (disch := omega) only [← nI_0, nI_leI, nI_ltI, nI_eq, not_true_eq_false, not_false_eq_true] at h124
                  exact word (by unfold c_le; simp_all)))
    · have hb : L ≤ s := Nat.le_of_not_lt (fun q => hb (nI_lt q (by omega)))
      rw [hst, s_tok1, if_pos hb]
      refine z_aload_0 d_Tok_advance_91 ?_
      refine z_iconst (a := nI 0) d_Tok_advance_92 (by decide) ?_
      refine z_putI d_Tok_advance_93 f_Tok_72 (by first | assumption | exact zS0_at (by assumption) (by omega) | exact zS0_at rfl (by omega)) ?_
      refine z_goto (tgt := 173) d_Tok_advance_96 (by decide) ?_
      refine z_retv d_Tok_advance_173 ?_
      exact ⟨_, _, rfl, tkF_u hF (by decide) (by decide) (by decide), hJ, by refine ⟨?_, ?_, ?_, ?_, ?_, ?_, ?_⟩ <;> simp [zu, g2, g5, g7, g8, g9, gw]⟩
  have loop : ∀ m j, L - j < m → j ≤ L → (p ≤ j) → (s_run (fun i => c_ws (I q i)) (L - j) j = s) → zA G y_Tok_advance prog_9_method_3_code 1 none (zRm 2 0 0) (zM G 0 0 (fun r w' => r = none ∧ (fun w => ∃ K M, w = (K, M, P, S) ∧ tkF I K ∧ tkJ J M ∧ tokAt K M (s_tok (I q) L (J 13) p)) w')) 0 [some (.ref 11)] [] (zu I 11 2 (nI j), J, P, S) 0 0 := by
    intro m
    induction m with
    | zero => intro j h; omega
    | succ m ih =>
      intro j hm hj hsj hI
      refine z_aload_0 d_Tok_advance_0 ?_
      refine z_getIv d_Tok_advance_1 f_Tok_57 (by first | assumption | exact zS0_at (by assumption) (by omega) | exact zS0_at rfl (by omega)) (by first | assumption | ((try simp (disch := omega) only [zu_same, zu_ne, zcp_ne, zfl_ne]); first | assumption | rfl)) ?_
      refine z_aload_0 d_Tok_advance_4 ?_
      refine z_getIv d_Tok_advance_5 f_Tok_55 (by first | assumption | exact zS0_at (by assumption) (by omega) | exact zS0_at rfl (by omega)) (by first | assumption | ((try simp (disch := omega) only [zu_same, zu_ne, zcp_ne, zfl_ne]); first | assumption | rfl)) ?_
      refine z_icmp_ge (tgt := 52) d_Tok_advance_8 (by decide) (fun hb => ?_) (fun hb => ?_)
      · have hb := (nI_leI (by omega) (by omega)).mp hb
        rw [s_run_end hb] at hI
        obtain rfl := hI
        exact fin
      · have hb : j < L := Nat.lt_of_not_le (fun q => hb (nI_le q (by omega)))
        have go : c_ws (I q j) = true → zA G y_Tok_advance prog_9_method_3_code 1 none (zRm 2 0 0) (zM G 0 0 (fun r w' => r = none ∧ (fun w => ∃ K M, w = (K, M, P, S) ∧ tkF I K ∧ tkJ J M ∧ tokAt K M (s_tok (I q) L (J 13) p)) w')) 39 [some (.ref 11)] [] (zu I 11 2 (nI j), J, P, S) 0 0 := by
          intro hc
          rw [s_run_go hb hc] at hI
          have q0 := ih (j + 1) (by omega) (by omega) (by omega) hI
          refine z_aload_0 d_Tok_advance_39 ?_
          refine z_dup rfl d_Tok_advance_40 ?_
          refine z_getIv d_Tok_advance_41 f_Tok_57 (by first | assumption | exact zS0_at (by assumption) (by omega) | exact zS0_at rfl (by omega)) (by first | assumption | ((try simp (disch := omega) only [zu_same, zu_ne, zcp_ne, zfl_ne]); first | assumption | rfl)) ?_
          refine z_iconst (a := nI 1) d_Tok_advance_44 (by decide) ?_
          first | refine z_iaddN d_Tok_advance_45 ?_ | refine z_iadd d_Tok_advance_45 ?_
          refine z_putI d_Tok_advance_46 f_Tok_57 (by first | assumption | exact zS0_at (by assumption) (by omega) | exact zS0_at rfl (by omega)) ?_
          refine z_goto (tgt := 0) d_Tok_advance_49 (by decide) ?_
          rw [zu_zu]
          exact q0
        refine z_aload_0 d_Tok_advance_11 ?_
        refine z_getR d_Tok_advance_12 f_Tok_7 (by first | assumption | exact zS0_at (by assumption) (by omega) | exact zS0_at rfl (by omega)) (by first | assumption | exact zS0_at (by assumption) (by omega) | exact zS0_at rfl (by omega)) ?_
        refine z_aload_0 d_Tok_advance_15 ?_
        refine z_getIv d_Tok_advance_16 f_Tok_57 (by first | assumption | exact zS0_at (by assumption) (by omega) | exact zS0_at rfl (by omega)) (by first | assumption | ((try simp (disch := omega) only [zu_same, zu_ne, zcp_ne, zfl_ne]); first | assumption | rfl)) ?_
        first | refine z_baldNv d_Tok_advance_19 (by first | assumption | exact zS0_at (by assumption) (by omega) | exact zS0_at rfl (by omega)) (by omega) (by first | decide | omega) (by first | assumption | ((try simp (disch := omega) only [zu_same, zu_ne, zcp_ne, zfl_ne]); first | assumption | rfl)) ?_ | refine z_zaldNv d_Tok_advance_19 (by first | assumption | exact zS0_at (by assumption) (by omega) | exact zS0_at rfl (by omega)) (by omega) (by first | decide | omega) (by first | assumption | ((try simp (disch := omega) only [zu_same, zu_ne, zcp_ne, zfl_ne]); first | assumption | rfl)) ?_ | refine z_bald d_Tok_advance_19 (by first | assumption | exact zS0_at (by assumption) (by omega) | exact zS0_at rfl (by omega)) (by first | assumption | exact zS0_at (by assumption) (by omega) | exact zS0_at rfl (by omega)) ?_ | refine z_zald d_Tok_advance_19 (by first | assumption | exact zS0_at (by assumption) (by omega) | exact zS0_at rfl (by omega)) (by first | assumption | exact zS0_at (by assumption) (by omega) | exact zS0_at rfl (by omega)) ?_
        refine z_bipush (a := nI 10) d_Tok_advance_20 (by decide) ?_
        refine z_icmp_eq (tgt := 39) d_Tok_advance_22 (by decide) (fun hc => ?_) (fun hc => ?_)
        · exact go (by simp [c_ws, hc])
        · refine z_aload_0 d_Tok_advance_25 ?_
          refine z_getR d_Tok_advance_26 f_Tok_7 (by first | assumption | exact zS0_at (by assumption) (by omega) | exact zS0_at rfl (by omega)) (by first | assumption | exact zS0_at (by assumption) (by omega) | exact zS0_at rfl (by omega)) ?_
          refine z_aload_0 d_Tok_advance_29 ?_
          refine z_getIv d_Tok_advance_30 f_Tok_57 (by first | assumption | exact zS0_at (by assumption) (by omega) | exact zS0_at rfl (by omega)) (by first | assumption | ((try simp (disch := omega) only [zu_same, zu_ne, zcp_ne, zfl_ne]); first | assumption | rfl)) ?_
          first | refine z_baldNv d_Tok_advance_33 (by first | assumption | exact zS0_at (by assumption) (by omega) | exact zS0_at rfl (by omega)) (by omega) (by first | decide | omega) (by first | assumption | ((try simp (disch := omega) only [zu_same, zu_ne, zcp_ne, zfl_ne]); first | assumption | rfl)) ?_ | refine z_zaldNv d_Tok_advance_33 (by first | assumption | exact zS0_at (by assumption) (by omega) | exact zS0_at rfl (by omega)) (by omega) (by first | decide | omega) (by first | assumption | ((try simp (disch := omega) only [zu_same, zu_ne, zcp_ne, zfl_ne]); first | assumption | rfl)) ?_ | refine z_bald d_Tok_advance_33 (by first | assumption | exact zS0_at (by assumption) (by omega) | exact zS0_at rfl (by omega)) (by first | assumption | exact zS0_at (by assumption) (by omega) | exact zS0_at rfl (by omega)) ?_ | refine z_zald d_Tok_advance_33 (by first | assumption | exact zS0_at (by assumption) (by omega) | exact zS0_at rfl (by omega)) (by first | assumption | exact zS0_at (by assumption) (by omega) | exact zS0_at rfl (by omega)) ?_
          refine z_bipush (a := nI 32) d_Tok_advance_34 (by decide) ?_
          refine z_icmp_ne (tgt := 52) d_Tok_advance_36 (by decide) (fun hd => ?_) (fun hd => ?_)
          · rw [s_run_stop (by simp [c_ws, hc, hd])] at hI
            obtain rfl := hI
            exact fin
          · exact go (by simp [c_ws, hd])
  have q0 := loop (L + 1) p (by omega) (by omega) (by omega) he
  rw [zu_id h2] at q0
  exact q0
end TK2
