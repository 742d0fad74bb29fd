/-! the class: what its readers take of the tokens -/
theorem zE_mono {G : zG} {y : MethodName} {cc : ByteArray} {mL : Nat} {ret : Option FieldType} {d mc ms : Nat} {as : List Value} {w : zW} {Q Q' : Option Value → zW → Prop} (h : zE G y cc mL ret d mc ms as w Q) (hQ : ∀ r w', Q r w' → Q' r w') : zE G y cc mL ret d mc ms as w Q' := by
  intro l p e h1 h2 h3 s m args below hf ha hp hk
  obtain ⟨n, o, a1, a2, a3, ⟨⟨r, w', b1, b2, b3⟩, a5⟩, a6⟩ := h l p e h1 h2 h3 s m args below hf ha hp hk
  exact ⟨n, o, a1, a2, a3, ⟨⟨r, w', b1, hQ r w' b2, b3⟩, a5⟩, a6⟩
theorem zEi_mono {G : zG} {y : MethodName} {cc : ByteArray} {mL : Nat} {ret : Option FieldType} {d : Nat} {as : List Value} {w : zW} {Q Q' : Int32 → zW → Prop} (h : zEi G y cc mL ret d as w Q) (hQ : ∀ r w', Q r w' → Q' r w') : zEi G y cc mL ret d as w Q' := zE_mono h (fun _ _ ⟨x, hx, hq⟩ => ⟨x, hx, hQ _ _ hq⟩)
theorem zEl_mono {G : zG} {y : MethodName} {cc : ByteArray} {mL : Nat} {ret : Option FieldType} {d : Nat} {as : List Value} {w : zW} {Q Q' : Int64 → zW → Prop} (h : zEl G y cc mL ret d as w Q) (hQ : ∀ r w', Q r w' → Q' r w') : zEl G y cc mL ret d as w Q' := zE_mono h (fun _ _ ⟨x, hx, hq⟩ => ⟨x, hx, hQ _ _ hq⟩)
theorem zEv_mono {G : zG} {y : MethodName} {cc : ByteArray} {mL : Nat} {d mc ms : Nat} {as : List Value} {w : zW} {Q Q' : zW → Prop} (h : zEv G y cc mL d mc ms as w Q) (hQ : ∀ w', Q w' → Q' w') : zEv G y cc mL d mc ms as w Q' := zE_mono h (fun _ _ hq => ⟨hq.1, hQ _ hq.2⟩)
theorem lg_cmp_eqN {x y : Int64} : lg_cmp x y = nI 0 ↔ x = y := by rw [nI_0]; exact lg_cmp_eq x y
section TK3
variable {G : zG} {I : Nat → Nat → Int32} {J : Nat → Nat → Int64} {P : Nat → Nat → Option Nat} {S : List (Nat × Nat)} {q l L : Nat} {a b : Int32} {T : Nat → Int32} {K : Nat → Int64} {t : tk}
/-- a text is being read, and this token stands -/
def tkC (T : Nat → Int32) (K : Nat → Int64) (q l L : Nat) (I : Nat → Nat → Int32) (J : Nat → Nat → Int64) (P : Nat → Nat → Option Nat) (S : List (Nat × Nat)) (t : tk) : Prop := tkOk P S q l ∧ (L ≤ l ∧ l ≤ 900) ∧ I 11 1 = nI L ∧ I q = T ∧ J 13 = K ∧ tokAt I J t ∧ (tst t ≤ ten t ∧ ten t ≤ L) ∧ (tkd t ≠ 0 → tst t < ten t) ∧ tkd t ≤ 4 ∧ (tkw t = -1 ∨ ∃ k, k < 21 ∧ tkw t = nI k)
/-- a text's reading may end so, or fail with a fault -/
abbrev pR (α : Type) : Type := (Nat × Nat) ⊕ α
def pb {α β : Type} (x : pR α) (f : α → pR β) : pR β := match x with
  | .inl e => .inl e
  | .inr v => f v
def p_mis (t : tk) : Nat × Nat := (if tkd t = 4 then 1 else 2, tst t)
def p_word (A : tk → tk) (a : Int32) (t : tk) : pR tk := if tkw t = a then .inr (A t) else .inl (p_mis t)
def p_semi (A : tk → tk) (t : tk) : pR tk := if tsg t = nI 59 then .inr (A t) else .inl (p_mis t)
def p_numb (A : tk → tk) (lo hi : Int32) (t : tk) : pR (Int32 × tk) := if tkd t = 2 then (if tnu t < lo ∨ hi < tnu t then .inl (4, tst t) else .inr (tnu t, A t)) else .inl (p_mis t)
def p_isN (t : tk) : Bool := decide (tkd t = 1) && !decide (twd t = lN 0) && decide (tkw t = -1)
def s_idx (N : Nat → Int64) (c : Int64) : Nat → Nat → Int32
  | 0, _ => -1
  | m + 1, j => if N j = c then nI j else s_idx N c m (j + 1)
theorem s_idx_c (N : Nat → Int64) (c : Int64) : ∀ m j, s_idx N c m j = -1 ∨ ∃ k, j ≤ k ∧ k < j + m ∧ s_idx N c m j = nI k ∧ N k = c := by
  intro m
  induction m with
  | zero => intro j; exact Or.inl rfl
  | succ m ih =>
    intro j
    rw [s_idx]
    split
    · rename_i h
      exact Or.inr ⟨j, Nat.le_refl _, by omega, rfl, h⟩
    · rcases ih (j + 1) with h | ⟨k, h1, h2, h3⟩
      · exact Or.inl h
      · exact Or.inr ⟨k, by omega, by omega, h3⟩
def p_known (N : Nat → Int64) (n : Nat) (t : tk) : pR Int32 := if p_isN t then (if s_idx N (twd t) n 0 = -1 then .inl (3, tst t) else .inr (s_idx N (twd t) n 0)) else .inl (p_mis t)
/-- the fault's fields -/
def tkX (I K : Nat → Nat → Int32) (e : Nat × Nat) : Prop := (∀ a, a ≠ 11 → K a = I a) ∧ K 11 10 = nI e.1 ∧ K 11 11 = nI e.2
abbrev tA (T : Nat → Int32) (L : Nat) (K : Nat → Int64) (t : tk) : tk := s_tok T L K (ten t)
/-- one step on: what an advance leaves -/
def tkN (T : Nat → Int32) (K : Nat → Int64) (q l L : Nat) (I : Nat → Nat → Int32) (J : Nat → Nat → Int64) (P : Nat → Nat → Option Nat) (S : List (Nat × Nat)) (t : tk) (w : zW) : Prop := ∃ I' J', w = (I', J', P, S) ∧ tkF I I' ∧ tkJ J J' ∧ tkC T K q l L I' J' P S t
def tkE (I : Nat → Nat → Int32) (J : Nat → Nat → Int64) (P : Nat → Nat → Option Nat) (S : List (Nat × Nat)) (e : Nat × Nat) (w : zW) : Prop := ∃ I' J', w = (I', J', P, S) ∧ tkX I I' e ∧ tkJ J J'
theorem s_tok_kd (T : Nat → Int32) (L : Nat) (K : Nat → Int64) (p : Nat) : tkd (s_tok T L K p) ≤ 4 := by
  unfold s_tok s_tok1
  split
  · exact Nat.zero_le _
  · split
    · dsimp only
      split
      · show 1 ≤ 4; omega
      · show 1 ≤ 4; omega
    · split
      · show (if _ then 2 else 4) ≤ 4
        split <;> omega
      · show (if _ then 3 else 4) ≤ 4
        split <;> omega
theorem s_kw_c (K : Nat → Int64) (c : Int64) : ∀ n, s_kw K c n = -1 ∨ ∃ k, k < n ∧ s_kw K c n = nI k := by
  intro n
  induction n with
  | zero => exact Or.inl rfl
  | succ n ih =>
    rw [s_kw]
    split
    · exact Or.inr ⟨n, by omega, rfl⟩
    · rcases ih with h | ⟨k, h1, h2⟩
      · exact Or.inl h
      · exact Or.inr ⟨k, by omega, h2⟩
theorem s_tok_kw (T : Nat → Int32) (L : Nat) (K : Nat → Int64) (p : Nat) : tkw (s_tok T L K p) = -1 ∨ ∃ k, k < 21 ∧ tkw (s_tok T L K p) = nI k := by
  unfold s_tok s_tok1
  split
  · exact Or.inl rfl
  · split
    · dsimp only
      split
      · exact s_kw_c _ _ 21
      · exact Or.inl rfl
    · split
      · exact Or.inl rfl
      · exact Or.inl rfl
theorem tkC_9 (C : tkC T K q l L I J P S t) : tkd t < 9 := by have := C.2.2.2.2.2.2.2.2.1; omega
theorem tkC_kw (C : tkC T K q l L I J P S t) : tkw t = -1 ∨ ∃ k, k < 21 ∧ tkw t = nI k := C.2.2.2.2.2.2.2.2.2
theorem t_adv (C : tkC T K q l L I J P S t) : zEv G y_Tok_advance prog_9_method_3_code 1 2 0 0 [.ref 11] (I, J, P, S) (fun w => tkN T K q l L I J P S (tA T L K t) w) := by
  obtain ⟨X, hL, h1, rfl, rfl, h2, h3, -⟩ := C
  refine zEv_mono (t_Tok_advance X hL.1 hL.2 h1 h2.1 h3.2) ?_
  rintro w ⟨K, M, rfl, h4, h5, h6⟩
  have h7 := s_tok_st (I q) L (J 13) (ten t) h3.2
  exact ⟨K, M, rfl, h4, h5, X, hL, h4.2.1.trans h1, h4.1 _ X.2.2.2.1, h5 _ (by decide), h6, ⟨h7.2.2.1, h7.2.2.2.1⟩, h7.2.2.2.2, s_tok_kd _ _ _ _, s_tok_kw _ _ _ _⟩
theorem t_Tok_faulty {k : Nat} (C : tkC T K q l L I J P S t) : zEi G y_Tok_faulty prog_9_method_8_code 2 (some .boolean) 1 [.ref 11, .int (nI k)] (I, J, P, S) (fun r w => r = nI 0 ∧ tkE I J P S (k, tst t) w) := by
  obtain ⟨⟨X0, -⟩, hL, h1, -, -, ⟨-, -, h5, -⟩, -⟩ := C
  refine zEi_of (lv := [some (.ref 11), some (.int (nI k))]) (by decide) rfl (Nat.le_of_ble_eq_true rfl) ?_
  refine z_aload_0 d_Tok_faulty_0 ?_
  refine z_iload_1 d_Tok_faulty_1 ?_
  refine z_putI d_Tok_faulty_2 f_Tok_19 (by first | assumption | exact zS0_at (by assumption) (by omega) | exact zS0_at rfl (by omega)) ?_
  refine z_aload_0 d_Tok_faulty_5 ?_
  refine z_aload_0 d_Tok_faulty_6 ?_
  refine z_getIv d_Tok_faulty_7 f_Tok_60 (by first | assumption | exact zS0_at (by assumption) (by omega) | exact zS0_at rfl (by omega)) (by first | assumption | ((try simp (disch := omega) only [zu_same, zu_ne, zcp_ne, zfl_ne]); first | assumption | rfl)) ?_
  refine z_putI d_Tok_faulty_10 f_Tok_23 (by first | assumption | exact zS0_at (by assumption) (by omega) | exact zS0_at rfl (by omega)) ?_
  refine z_iconst (a := nI 0) d_Tok_faulty_13 (by decide) ?_
  refine z_retz d_Tok_faulty_14 (by first | exact zb0 | exact zb1 | assumption) ?_
  exact ⟨rfl, _, _, rfl, ⟨fun a ha => by rw [zu_row _ _ _ _ ha, zu_row _ _ _ _ ha], by simp [zu], by simp [zu]⟩, tkJ_r⟩
theorem t_Tok_misplaced (C : tkC T K q l L I J P S t) : zEi G y_Tok_misplaced prog_9_method_9_code 1 (some .boolean) 1 [.ref 11] (I, J, P, S) (fun r w => r = nI 0 ∧ tkE I J P S (p_mis t) w) := by
  have h9 := tkC_9 C
  obtain ⟨⟨X0, -⟩, hL, h1, -, -, ⟨-, h4, h5, -⟩, -⟩ := C
  unfold p_mis
  refine zEi_of (lv := [some (.ref 11)]) (by decide) rfl (Nat.le_of_ble_eq_true rfl) ?_
  refine z_aload_0 d_Tok_misplaced_0 ?_
  refine z_aload_0 d_Tok_misplaced_1 ?_
  refine z_getIv d_Tok_misplaced_2 f_Tok_72 (by first | assumption | exact zS0_at (by assumption) (by omega) | exact zS0_at rfl (by omega)) (by first | assumption | ((try simp (disch := omega) only [zu_same, zu_ne, zcp_ne, zfl_ne]); first | assumption | rfl)) ?_
  refine z_iconst (a := nI 4) d_Tok_misplaced_5 (by decide) ?_
  refine z_icmp_ne (tgt := 13) d_Tok_misplaced_6 (by decide) (fun h6 => ?_) (fun h6 => ?_)
  · first
    | (simp (disch := omega) only [← nI_0, nI_leI, nI_ltI, nI_eq, not_true_eq_false, not_false_eq_true] at h6; done)
    | (simp (disch := omega) only [← nI_0, nI_leI, nI_ltI, nI_eq, not_true_eq_false, not_false_eq_true] at h6; omega)
    | contradiction
    | exact absurd h6 (Int32.not_lt.mpr (by assumption))
    | exact absurd h6 (Int32.not_le.mpr (by assumption))
    | exact absurd h6 (by decide)
    | exact absurd (by decide) h6
    | ( try simp (disch := omega) only [← nI_0, nI_leI, nI_ltI, nI_eq, not_true_eq_false, not_false_eq_true] at h6
        refine z_iconst (a := nI 2) d_Tok_misplaced_13 (by decide) ?_
        refine z_putI d_Tok_misplaced_14 f_Tok_19 (by first | assumption | exact zS0_at (by assumption) (by omega) | exact zS0_at rfl (by omega)) ?_
        refine z_aload_0 d_Tok_misplaced_17 ?_
        refine z_aload_0 d_Tok_misplaced_18 ?_
        refine z_getIv d_Tok_misplaced_19 f_Tok_60 (by first | assumption | exact zS0_at (by assumption) (by omega) | exact zS0_at rfl (by omega)) (by first | assumption | ((try simp (disch := omega) only [zu_same, zu_ne, zcp_ne, zfl_ne]); first | assumption | rfl)) ?_
        refine z_putI d_Tok_misplaced_22 f_Tok_23 (by first | assumption | exact zS0_at (by assumption) (by omega) | exact zS0_at rfl (by omega)) ?_
        refine z_iconst (a := nI 0) d_Tok_misplaced_25 (by decide) ?_
        refine z_retz d_Tok_misplaced_26 (by first | exact zb0 | exact zb1 | assumption) ?_
        refine ⟨rfl, _, _, rfl, ⟨fun a ha => by rw [zu_row _ _ _ _ ha, zu_row _ _ _ _ ha], by simp_all [zu], by simp [zu]⟩, tkJ_r⟩)
  · first
    | (simp (disch := omega) only [← nI_0, nI_leI, nI_ltI, nI_eq, not_true_eq_false, not_false_eq_true] at h6; done)
    | (simp (disch := omega) only [← nI_0, nI_leI, nI_ltI, nI_eq, not_true_eq_false, not_false_eq_true] at h6; omega)
    | contradiction
    | exact absurd h6 (Int32.not_lt.mpr (by assumption))
    | exact absurd h6 (Int32.not_le.mpr (by assumption))
    | exact absurd h6 (by decide)
    | exact absurd (by decide) h6
    | ( try simp (disch := omega) only [← nI_0, nI_leI, nI_ltI, nI_eq, not_true_eq_false, not_false_eq_true] at h6
        refine z_iconst (a := nI 1) d_Tok_misplaced_9 (by decide) ?_
        refine z_goto (tgt := 14) d_Tok_misplaced_10 (by decide) ?_
        refine z_putI d_Tok_misplaced_14 f_Tok_19 (by first | assumption | exact zS0_at (by assumption) (by omega) | exact zS0_at rfl (by omega)) ?_
        refine z_aload_0 d_Tok_misplaced_17 ?_
        refine z_aload_0 d_Tok_misplaced_18 ?_
        refine z_getIv d_Tok_misplaced_19 f_Tok_60 (by first | assumption | exact zS0_at (by assumption) (by omega) | exact zS0_at rfl (by omega)) (by first | assumption | ((try simp (disch := omega) only [zu_same, zu_ne, zcp_ne, zfl_ne]); first | assumption | rfl)) ?_
        refine z_putI d_Tok_misplaced_22 f_Tok_23 (by first | assumption | exact zS0_at (by assumption) (by omega) | exact zS0_at rfl (by omega)) ?_
        refine z_iconst (a := nI 0) d_Tok_misplaced_25 (by decide) ?_
        refine z_retz d_Tok_misplaced_26 (by first | exact zb0 | exact zb1 | assumption) ?_
        refine ⟨rfl, _, _, rfl, ⟨fun a ha => by rw [zu_row _ _ _ _ ha, zu_row _ _ _ _ ha], by simp_all [zu], by simp [zu]⟩, tkJ_r⟩)
theorem t_Tok_isName (C : tkC T K q l L I J P S t) : zEi G y_Tok_isName prog_9_method_7_code 1 (some .boolean) 1 [.ref 11] (I, J, P, S) (fun r w => (p_isN t = true ∧ r = nI 1 ∨ ¬ p_isN t = true ∧ r = nI 0) ∧ w = (I, J, P, S)) := by
  have h9 := tkC_9 C
  obtain ⟨⟨X0, -⟩, hL, h1, -, -, ⟨-, h4, h5, h6, h7, -⟩, -⟩ := C
  refine zEi_of (lv := [some (.ref 11)]) (by decide) rfl (Nat.le_of_ble_eq_true rfl) ?_
  refine z_aload_0 d_Tok_isName_0 ?_
  refine z_getIv d_Tok_isName_1 f_Tok_72 (by first | assumption | exact zS0_at (by assumption) (by omega) | exact zS0_at rfl (by omega)) (by first | assumption | ((try simp (disch := omega) only [zu_same, zu_ne, zcp_ne, zfl_ne]); first | assumption | rfl)) ?_
  refine z_iconst (a := nI 1) d_Tok_isName_4 (by decide) ?_
  refine z_icmp_ne (tgt := 29) d_Tok_isName_5 (by decide) (fun h5 => ?_) (fun h5 => ?_)
  · first
    | (simp (disch := omega) only [← nI_0, nI_leI, nI_ltI, nI_eq, not_true_eq_false, not_false_eq_true] at h5; done)
    | (simp (disch := omega) only [← nI_0, nI_leI, nI_ltI, nI_eq, not_true_eq_false, not_false_eq_true] at h5; omega)
    | contradiction
    | exact absurd h5 (Int32.not_lt.mpr (by assumption))
    | exact absurd h5 (Int32.not_le.mpr (by assumption))
    | exact absurd h5 (by decide)
    | exact absurd (by decide) h5
    | ( try simp (disch := omega) only [← nI_0, nI_leI, nI_ltI, nI_eq, not_true_eq_false, not_false_eq_true] at h5
        try simp only [lg_cmp_eqN] at h5
        refine z_iconst (a := nI 0) d_Tok_isName_29 (by decide) ?_
        refine z_retz d_Tok_isName_30 (by first | exact zb0 | exact zb1 | assumption) ?_
        first | exact ⟨Or.inl ⟨by unfold p_isN; simp_all, rfl⟩, rfl⟩ | exact ⟨Or.inr ⟨by unfold p_isN; simp_all, rfl⟩, rfl⟩)
  · first
    | (simp (disch := omega) only [← nI_0, nI_leI, nI_ltI, nI_eq, not_true_eq_false, not_false_eq_true] at h5; done)
    | (simp (disch := omega) only [← nI_0, nI_leI, nI_ltI, nI_eq, not_true_eq_false, not_false_eq_true] at h5; omega)
    | contradiction
    | exact absurd h5 (Int32.not_lt.mpr (by assumption))
    | exact absurd h5 (Int32.not_le.mpr (by assumption))
    | exact absurd h5 (by decide)
    | exact absurd (by decide) h5
    | ( try simp (disch := omega) only [← nI_0, nI_leI, nI_ltI, nI_eq, not_true_eq_false, not_false_eq_true] at h5
        try simp only [lg_cmp_eqN] at h5
        refine z_aload_0 d_Tok_isName_8 ?_
        refine z_getJv d_Tok_isName_9 f_Tok_42 (by first | assumption | exact zS0_at (by assumption) (by omega) | exact zS0_at rfl (by omega)) (by first | assumption | ((try simp (disch := omega) only [zu_same, zu_ne, zcp_ne, zfl_ne]); first | assumption | rfl)) ?_
        refine z_lconst (f := lN 0) d_Tok_isName_12 rfl ?_
        refine z_lcmp d_Tok_isName_13 ?_
        refine z_if_eq (tgt := 29) d_Tok_isName_14 (by decide) (fun h14 => ?_) (fun h14 => ?_)
        · first
          | (simp (disch := omega) only [← nI_0, nI_leI, nI_ltI, nI_eq, not_true_eq_false, not_false_eq_true] at h14; done)
          | (simp (disch := omega) only [← nI_0, nI_leI, nI_ltI, nI_eq, not_true_eq_false, not_false_eq_true] at h14; omega)
          | contradiction
          | exact absurd h14 (Int32.not_lt.mpr (by assumption))
          | exact absurd h14 (Int32.not_le.mpr (by assumption))
          | exact absurd h14 (by decide)
          | exact absurd (by decide) h14
          | ( try simp (disch := omega) only [← nI_0, nI_leI, nI_ltI, nI_eq, not_true_eq_false, not_false_eq_true] at h14
              try simp only [lg_cmp_eqN] at h14
              refine z_iconst (a := nI 0) d_Tok_isName_29 (by decide) ?_
              refine z_retz d_Tok_isName_30 (by first | exact zb0 | exact zb1 | assumption) ?_
              first | exact ⟨Or.inl ⟨by unfold p_isN; simp_all, rfl⟩, rfl⟩ | exact ⟨Or.inr ⟨by unfold p_isN; simp_all, rfl⟩, rfl⟩)
        · first
          | (simp (disch := omega) only [← nI_0, nI_leI, nI_ltI, nI_eq, not_true_eq_false, not_false_eq_true] at h14; done)
          | (simp (disch := omega) only [← nI_0, nI_leI, nI_ltI, nI_eq, not_true_eq_false, not_false_eq_true] at h14; omega)
          | contradiction
          | exact absurd h14 (Int32.not_lt.mpr (by assumption))
          | exact absurd h14 (Int32.not_le.mpr (by assumption))
          | exact absurd h14 (by decide)
          | exact absurd (by decide) h14
          | ( try simp (disch := omega) only [← nI_0, nI_leI, nI_ltI, nI_eq, not_true_eq_false, not_false_eq_true] at h14
              try simp only [lg_cmp_eqN] at h14
              refine z_aload_0 d_Tok_isName_17 ?_
              refine z_getIv d_Tok_isName_18 f_Tok_63 (by first | assumption | exact zS0_at (by assumption) (by omega) | exact zS0_at rfl (by omega)) (by first | assumption | ((try simp (disch := omega) only [zu_same, zu_ne, zcp_ne, zfl_ne]); first | assumption | rfl)) ?_
              refine z_iconst (a := -1) d_Tok_isName_21 (by decide) ?_
              refine z_icmp_ne (tgt := 29) d_Tok_isName_22 (by decide) (fun h22 => ?_) (fun h22 => ?_)
              · first
                | (simp (disch := omega) only [← nI_0, nI_leI, nI_ltI, nI_eq, not_true_eq_false, not_false_eq_true] at h22; done)
                | (simp (disch := omega) only [← nI_0, nI_leI, nI_ltI, nI_eq, not_true_eq_false, not_false_eq_true] at h22; omega)
                | contradiction
                | exact absurd h22 (Int32.not_lt.mpr (by assumption))
                | exact absurd h22 (Int32.not_le.mpr (by assumption))
                | exact absurd h22 (by decide)
                | exact absurd (by decide) h22
                | ( try simp (disch := omega) only [← nI_0, nI_leI, nI_ltI, nI_eq, not_true_eq_false, not_false_eq_true] at h22
                    try simp only [lg_cmp_eqN] at h22
                    refine z_iconst (a := nI 0) d_Tok_isName_29 (by decide) ?_
                    refine z_retz d_Tok_isName_30 (by first | exact zb0 | exact zb1 | assumption) ?_
                    first | exact ⟨Or.inl ⟨by unfold p_isN; simp_all, rfl⟩, rfl⟩ | exact ⟨Or.inr ⟨by unfold p_isN; simp_all, rfl⟩, rfl⟩)
              · first
                | (simp (disch := omega) only [← nI_0, nI_leI, nI_ltI, nI_eq, not_true_eq_false, not_false_eq_true] at h22; done)
                | (simp (disch := omega) only [← nI_0, nI_leI, nI_ltI, nI_eq, not_true_eq_false, not_false_eq_true] at h22; omega)
                | contradiction
                | exact absurd h22 (Int32.not_lt.mpr (by assumption))
                | exact absurd h22 (Int32.not_le.mpr (by assumption))
                | exact absurd h22 (by decide)
                | exact absurd (by decide) h22
                | ( try simp (disch := omega) only [← nI_0, nI_leI, nI_ltI, nI_eq, not_true_eq_false, not_false_eq_true] at h22
                    try simp only [lg_cmp_eqN] at h22
                    refine z_iconst (a := nI 1) d_Tok_isName_25 (by decide) ?_
                    refine z_goto (tgt := 30) d_Tok_isName_26 (by decide) ?_
                    refine z_retz d_Tok_isName_30 (by first | exact zb0 | exact zb1 | assumption) ?_
                    first | exact ⟨Or.inl ⟨by unfold p_isN; simp_all, rfl⟩, rfl⟩ | exact ⟨Or.inr ⟨by unfold p_isN; simp_all, rfl⟩, rfl⟩)))
theorem t_Tok_indexOf {z : Int64} {n m g : Nat} (h0 : S[g]? = some (101, m)) (hn : n ≤ m) (hm : m ≤ 900) : zEi G y_Tok_indexOf prog_9_method_15_code 5 (some .int) 1 [.long z, .ref g, .int (nI n)] (I, J, P, S) (fun r w => r = s_idx (J g) z n 0 ∧ w = (I, J, P, S)) := by
  refine zEi_of (lv := [some (.long z), none, some (.ref g), some (.int (nI n)), none]) (by decide) rfl (Nat.le_of_ble_eq_true rfl) ?_
  have loop : ∀ m j, n - j < m → j ≤ n → (s_idx (J g) z (n - j) j = s_idx (J g) z n 0) → zA G y_Tok_indexOf prog_9_method_15_code 5 (some .int) (zRm 1 0 0) (zM G 0 0 (fun r w' => ∃ x, r = some (.int x) ∧ (fun r w => r = s_idx (J g) z n 0 ∧ w = (I, J, P, S)) x w')) 3 [some (.long z), none, some (.ref g), some (.int (nI n)), some (.int (nI j))] [] (I, J, P, S) 0 0 := by
    intro m
    induction m with
    | zero => intro j h; omega
    | succ m ih =>
      intro j hm hj hI
      refine z_iload_4 d_Tok_indexOf_3 ?_
      refine z_iload_3 d_Tok_indexOf_5 ?_
      refine z_icmp_ge (tgt := 34) d_Tok_indexOf_6 (by decide) (fun hb => ?_) (fun hb => ?_)
      · have hb := (nI_leI (by omega) (by omega)).mp hb
        obtain rfl : j = n := by omega
        rw [Nat.sub_self, s_idx] at hI
        refine z_iconst (a := -1) d_Tok_indexOf_34 (by decide) ?_
        refine z_reti d_Tok_indexOf_35 ?_
        exact ⟨hI, rfl⟩
      · have hb : j < n := Nat.lt_of_not_le (fun q => hb (nI_le q (by omega)))
        rw [show n - j = (n - (j + 1)) + 1 by omega, s_idx] at hI
        refine z_iload_4 d_Tok_indexOf_9 ?_
        refine z_aload_2 d_Tok_indexOf_11 ?_
        first | refine z_alen100 d_Tok_indexOf_12 (by first | assumption | exact zS0_at (by assumption) (by omega) | exact zS0_at rfl (by omega)) ?_ | refine z_alen101 d_Tok_indexOf_12 (by first | assumption | exact zS0_at (by assumption) (by omega) | exact zS0_at rfl (by omega)) ?_ | refine z_alen102 d_Tok_indexOf_12 (by first | assumption | exact zS0_at (by assumption) (by omega) | exact zS0_at rfl (by omega)) ?_
        refine z_icmp_ge (tgt := 34) d_Tok_indexOf_13 (by decide) (fun hc => ?_) (fun hc => ?_)
        · have hc := (nI_leI (by omega) (by omega)).mp hc
          omega
        · refine z_aload_2 d_Tok_indexOf_16 ?_
          refine z_iload_4 d_Tok_indexOf_17 ?_
          first | refine z_laldNv d_Tok_indexOf_19 (by first | assumption | exact zS0_at (by assumption) (by omega) | exact zS0_at rfl (by omega)) (by omega) (by first | decide | omega) (by first | assumption | ((try simp (disch := omega) only [zu_same, zu_ne, zcp_ne, zfl_ne]); first | assumption | rfl)) ?_ | refine z_lald d_Tok_indexOf_19 (by first | assumption | exact zS0_at (by assumption) (by omega) | exact zS0_at rfl (by omega)) (by first | assumption | exact zS0_at (by assumption) (by omega) | exact zS0_at rfl (by omega)) ?_
          refine z_lload_0 d_Tok_indexOf_20 ?_
          refine z_lcmp d_Tok_indexOf_21 ?_
          refine z_if_ne (tgt := 28) d_Tok_indexOf_22 (by decide) (fun hd => ?_) (fun hd => ?_)
          · rw [lg_cmp_eq] at hd
            rw [if_neg hd] at hI
            first | refine z_iinc_4 d_Tok_indexOf_28 rfl (zi_inc _) ?_ | refine z_iinc_4 d_Tok_indexOf_28 rfl rfl ?_
            refine z_goto (tgt := 3) d_Tok_indexOf_31 (by decide) ?_
            exact ih (j + 1) (by omega) (by omega) hI
          · rw [lg_cmp_eq] at hd
            rw [if_pos hd] at hI
            refine z_iload_4 d_Tok_indexOf_25 ?_
            refine z_reti d_Tok_indexOf_27 ?_
            exact ⟨hI, rfl⟩
  refine z_iconst (a := nI 0) d_Tok_indexOf_0 (by decide) ?_
  first | refine z_istore_4 d_Tok_indexOf_1 rfl ?_ | (refine z_forget_3 ?_; refine z_istore_4 d_Tok_indexOf_1 rfl ?_)
  exact loop (n + 1) 0 (by omega) (by omega) rfl
def pQ {α : Type} (x : pR α) (E : Nat × Nat → Prop) (Q : α → Prop) : Prop := match x with
  | .inl e => E e
  | .inr v => Q v
theorem t_Tok_takeWord (C : tkC T K q l L I J P S t) : zEi G y_Tok_takeWord prog_9_method_10_code 2 (some .boolean) 3 [.ref 11, .int a] (I, J, P, S) (fun r w => pQ (p_word (tA T L K) a t) (fun e => r = nI 0 ∧ tkE I J P S e w) (fun t' => r = nI 1 ∧ tkN T K q l L I J P S t' w)) := by
  have h9 := tkC_9 C
  have ⟨⟨X0, _⟩, hL, h1, _, _, ⟨_, h4, h5, h6, h7, h8⟩, _⟩ := C
  refine zEi_of (lv := [some (.ref 11), some (.int a)]) (by decide) rfl (Nat.le_of_ble_eq_true rfl) ?_
  refine z_aload_0 d_Tok_takeWord_0 ?_
  refine z_getIv d_Tok_takeWord_1 f_Tok_63 (by first | assumption | exact zS0_at (by assumption) (by omega) | exact zS0_at rfl (by omega)) (by first | assumption | ((try simp (disch := omega) only [zu_same, zu_ne, zcp_ne, zfl_ne]); first | assumption | rfl)) ?_
  refine z_iload_1 d_Tok_takeWord_4 ?_
  refine z_icmp_eq (tgt := 13) d_Tok_takeWord_5 (by decide) (fun hb => ?_) (fun hb => ?_)
  · skip
    refine z_aload_0 d_Tok_takeWord_13 ?_
    refine z_Vv0 d_Tok_takeWord_14 k_Tok_46 (by first | assumption | exact zS0_at (by assumption) (by omega) | exact zS0_at rfl (by omega)) (t_adv C) ⟨Nat.le_of_ble_eq_true rfl, Nat.le_of_ble_eq_true rfl, Nat.le_of_ble_eq_true rfl, Nat.le_of_ble_eq_true rfl⟩ (Nat.le_of_ble_eq_true rfl) ?_
    intro w hq
    have hq2 := hq
    obtain ⟨I', J', rfl, -⟩ := hq2
    refine z_iconst (a := nI 1) d_Tok_takeWord_17 (by decide) ?_
    refine z_retz d_Tok_takeWord_18 (by first | exact zb0 | exact zb1 | assumption) ?_
    exact (by unfold p_word; rw [if_pos hb]; exact ⟨rfl, hq⟩)
  · skip
    refine z_aload_0 d_Tok_takeWord_8 ?_
    refine z_Vi0 d_Tok_takeWord_9 k_Tok_86 (by first | assumption | exact zS0_at (by assumption) (by omega) | exact zS0_at rfl (by omega)) (t_Tok_misplaced C) ⟨Nat.le_of_ble_eq_true rfl, Nat.le_of_ble_eq_true rfl, Nat.le_of_ble_eq_true rfl, Nat.le_of_ble_eq_true rfl⟩ (Nat.le_of_ble_eq_true rfl) ?_
    intro r w hq
    obtain ⟨rfl, hq⟩ := hq
    refine z_retz d_Tok_takeWord_12 (by first | exact zb0 | exact zb1 | assumption) ?_
    exact (by unfold p_word; rw [if_neg hb]; exact ⟨rfl, hq⟩)
theorem t_Tok_takeSemicolon (C : tkC T K q l L I J P S t) : zEi G y_Tok_takeSemicolon prog_9_method_11_code 1 (some .boolean) 3 [.ref 11] (I, J, P, S) (fun r w => pQ (p_semi (tA T L K) t) (fun e => r = nI 0 ∧ tkE I J P S e w) (fun t' => r = nI 1 ∧ tkN T K q l L I J P S t' w)) := by
  have h9 := tkC_9 C
  have ⟨⟨X0, _⟩, hL, h1, _, _, ⟨_, h4, h5, h6, h7, h8, h10⟩, _⟩ := C
  refine zEi_of (lv := [some (.ref 11)]) (by decide) rfl (Nat.le_of_ble_eq_true rfl) ?_
  refine z_aload_0 d_Tok_takeSemicolon_0 ?_
  refine z_getIv d_Tok_takeSemicolon_1 f_Tok_69 (by first | assumption | exact zS0_at (by assumption) (by omega) | exact zS0_at rfl (by omega)) (by first | assumption | ((try simp (disch := omega) only [zu_same, zu_ne, zcp_ne, zfl_ne]); first | assumption | rfl)) ?_
  refine z_bipush (a := nI 59) d_Tok_takeSemicolon_4 (by decide) ?_
  refine z_icmp_eq (tgt := 14) d_Tok_takeSemicolon_6 (by decide) (fun hb => ?_) (fun hb => ?_)
  · skip
    refine z_aload_0 d_Tok_takeSemicolon_14 ?_
    refine z_Vv0 d_Tok_takeSemicolon_15 k_Tok_46 (by first | assumption | exact zS0_at (by assumption) (by omega) | exact zS0_at rfl (by omega)) (t_adv C) ⟨Nat.le_of_ble_eq_true rfl, Nat.le_of_ble_eq_true rfl, Nat.le_of_ble_eq_true rfl, Nat.le_of_ble_eq_true rfl⟩ (Nat.le_of_ble_eq_true rfl) ?_
    intro w hq
    have hq2 := hq
    obtain ⟨I', J', rfl, -⟩ := hq2
    refine z_iconst (a := nI 1) d_Tok_takeSemicolon_18 (by decide) ?_
    refine z_retz d_Tok_takeSemicolon_19 (by first | exact zb0 | exact zb1 | assumption) ?_
    exact (by unfold p_semi; rw [if_pos hb]; exact ⟨rfl, hq⟩)
  · skip
    refine z_aload_0 d_Tok_takeSemicolon_9 ?_
    refine z_Vi0 d_Tok_takeSemicolon_10 k_Tok_86 (by first | assumption | exact zS0_at (by assumption) (by omega) | exact zS0_at rfl (by omega)) (t_Tok_misplaced C) ⟨Nat.le_of_ble_eq_true rfl, Nat.le_of_ble_eq_true rfl, Nat.le_of_ble_eq_true rfl, Nat.le_of_ble_eq_true rfl⟩ (Nat.le_of_ble_eq_true rfl) ?_
    intro r w hq
    obtain ⟨rfl, hq⟩ := hq
    refine z_retz d_Tok_takeSemicolon_13 (by first | exact zb0 | exact zb1 | assumption) ?_
    exact (by unfold p_semi; rw [if_neg hb]; exact ⟨rfl, hq⟩)
theorem t_Tok_takeNumber (C : tkC T K q l L I J P S t) : zEi G y_Tok_takeNumber prog_9_method_12_code 4 (some .int) 3 [.ref 11, .int a, .int b] (I, J, P, S) (fun r w => pQ (p_numb (tA T L K) a b t) (fun e => r = -1 ∧ tkE I J P S e w) (fun v => r = v.1 ∧ tkN T K q l L I J P S v.2 w)) := by
  have h9 := tkC_9 C
  have ⟨⟨X0, _⟩, hL, h1, _, _, ⟨_, h4, h5, h6, h7, h8, h10⟩, _⟩ := C
  refine zEi_of (lv := [some (.ref 11), some (.int a), some (.int b), none]) (by decide) rfl (Nat.le_of_ble_eq_true rfl) ?_
  refine z_aload_0 d_Tok_takeNumber_0 ?_
  refine z_getIv d_Tok_takeNumber_1 f_Tok_72 (by first | assumption | exact zS0_at (by assumption) (by omega) | exact zS0_at rfl (by omega)) (by first | assumption | ((try simp (disch := omega) only [zu_same, zu_ne, zcp_ne, zfl_ne]); first | assumption | rfl)) ?_
  refine z_iconst (a := nI 2) d_Tok_takeNumber_4 (by decide) ?_
  refine z_icmp_eq (tgt := 15) d_Tok_takeNumber_5 (by decide) (fun hb => ?_) (fun hb => ?_)
  · have hb := (nI_eq (by omega) (by omega)).mp hb
    unfold p_numb
    rw [if_pos hb]
    refine z_aload_0 d_Tok_takeNumber_15 ?_
    refine z_getIv d_Tok_takeNumber_16 f_Tok_66 (by first | assumption | exact zS0_at (by assumption) (by omega) | exact zS0_at rfl (by omega)) (by first | assumption | ((try simp (disch := omega) only [zu_same, zu_ne, zcp_ne, zfl_ne]); first | assumption | rfl)) ?_
    refine z_iload_1 d_Tok_takeNumber_19 ?_
    refine z_icmp_lt (tgt := 31) d_Tok_takeNumber_20 (by decide) (fun hc => ?_) (fun hc => ?_)
    · rw [if_pos (Or.inl hc)]
      refine z_aload_0 d_Tok_takeNumber_31 ?_
      refine z_iconst (a := nI 4) d_Tok_takeNumber_32 (by decide) ?_
      refine z_Vi1 d_Tok_takeNumber_33 k_Tok_90 (by first | assumption | exact zS0_at (by assumption) (by omega) | exact zS0_at rfl (by omega)) (t_Tok_faulty C) ⟨Nat.le_of_ble_eq_true rfl, Nat.le_of_ble_eq_true rfl, Nat.le_of_ble_eq_true rfl, Nat.le_of_ble_eq_true rfl⟩ (Nat.le_of_ble_eq_true rfl) ?_
      intro r w hq
      obtain ⟨rfl, hq⟩ := hq
      refine z_pop rfl d_Tok_takeNumber_36 ?_
      refine z_iconst (a := -1) d_Tok_takeNumber_37 (by decide) ?_
      refine z_reti d_Tok_takeNumber_38 ?_
      exact ⟨rfl, hq⟩
    · refine z_aload_0 d_Tok_takeNumber_23 ?_
      refine z_getIv d_Tok_takeNumber_24 f_Tok_66 (by first | assumption | exact zS0_at (by assumption) (by omega) | exact zS0_at rfl (by omega)) (by first | assumption | ((try simp (disch := omega) only [zu_same, zu_ne, zcp_ne, zfl_ne]); first | assumption | rfl)) ?_
      refine z_iload_2 d_Tok_takeNumber_27 ?_
      refine z_icmp_le (tgt := 39) d_Tok_takeNumber_28 (by decide) (fun hd => ?_) (fun hd => ?_)
      · rw [if_neg (by rintro (h | h); exact hc h; exact absurd h (Int32.not_lt.mpr hd))]
        refine z_aload_0 d_Tok_takeNumber_39 ?_
        refine z_getIv d_Tok_takeNumber_40 f_Tok_66 (by first | assumption | exact zS0_at (by assumption) (by omega) | exact zS0_at rfl (by omega)) (by first | assumption | ((try simp (disch := omega) only [zu_same, zu_ne, zcp_ne, zfl_ne]); first | assumption | rfl)) ?_
        first | refine z_istore_3 d_Tok_takeNumber_43 rfl ?_ | (refine z_forget_2 ?_; refine z_istore_3 d_Tok_takeNumber_43 rfl ?_)
        refine z_aload_0 d_Tok_takeNumber_44 ?_
        refine z_Vv0 d_Tok_takeNumber_45 k_Tok_46 (by first | assumption | exact zS0_at (by assumption) (by omega) | exact zS0_at rfl (by omega)) (t_adv C) ⟨Nat.le_of_ble_eq_true rfl, Nat.le_of_ble_eq_true rfl, Nat.le_of_ble_eq_true rfl, Nat.le_of_ble_eq_true rfl⟩ (Nat.le_of_ble_eq_true rfl) ?_
        intro w hq
        have hq2 := hq
        obtain ⟨I', J', rfl, -⟩ := hq2
        refine z_iload_3 d_Tok_takeNumber_48 ?_
        refine z_reti d_Tok_takeNumber_49 ?_
        exact ⟨rfl, hq⟩
      · rw [if_pos (Or.inr (Int32.not_le.mp hd))]
        refine z_aload_0 d_Tok_takeNumber_31 ?_
        refine z_iconst (a := nI 4) d_Tok_takeNumber_32 (by decide) ?_
        refine z_Vi1 d_Tok_takeNumber_33 k_Tok_90 (by first | assumption | exact zS0_at (by assumption) (by omega) | exact zS0_at rfl (by omega)) (t_Tok_faulty C) ⟨Nat.le_of_ble_eq_true rfl, Nat.le_of_ble_eq_true rfl, Nat.le_of_ble_eq_true rfl, Nat.le_of_ble_eq_true rfl⟩ (Nat.le_of_ble_eq_true rfl) ?_
        intro r w hq
        obtain ⟨rfl, hq⟩ := hq
        refine z_pop rfl d_Tok_takeNumber_36 ?_
        refine z_iconst (a := -1) d_Tok_takeNumber_37 (by decide) ?_
        refine z_reti d_Tok_takeNumber_38 ?_
        exact ⟨rfl, hq⟩
  · have hb : ¬ tkd t = 2 := fun h => hb (by rw [h])
    refine z_aload_0 d_Tok_takeNumber_8 ?_
    refine z_Vi0 d_Tok_takeNumber_9 k_Tok_86 (by first | assumption | exact zS0_at (by assumption) (by omega) | exact zS0_at rfl (by omega)) (t_Tok_misplaced C) ⟨Nat.le_of_ble_eq_true rfl, Nat.le_of_ble_eq_true rfl, Nat.le_of_ble_eq_true rfl, Nat.le_of_ble_eq_true rfl⟩ (Nat.le_of_ble_eq_true rfl) ?_
    intro r w hq
    obtain ⟨rfl, hq⟩ := hq
    refine z_pop rfl d_Tok_takeNumber_12 ?_
    refine z_iconst (a := -1) d_Tok_takeNumber_13 (by decide) ?_
    refine z_reti d_Tok_takeNumber_14 ?_
    exact (by unfold p_numb; rw [if_neg hb]; exact ⟨rfl, hq⟩)
theorem t_Tok_known {n m g : Nat} (C : tkC T K q l L I J P S t) (h0 : S[g]? = some (101, m)) (hn : n ≤ m) (hm : m ≤ 900) : zEi G y_Tok_known prog_9_method_13_code 4 (some .int) 3 [.ref 11, .ref g, .int (nI n)] (I, J, P, S) (fun r w => pQ (p_known (J g) n t) (fun e => r = -1 ∧ tkE I J P S e w) (fun v => r = v ∧ w = (I, J, P, S))) := by
  have h9 := tkC_9 C
  have ⟨⟨X0, _⟩, hL, h1, _, _, ⟨_, h4, h5, h6, h7, h8, h10⟩, _⟩ := C
  refine zEi_of (lv := [some (.ref 11), some (.ref g), some (.int (nI n)), none]) (by decide) rfl (Nat.le_of_ble_eq_true rfl) ?_
  refine z_aload_0 d_Tok_known_0 ?_
  refine z_Vi0 d_Tok_known_1 k_Tok_94 (by first | assumption | exact zS0_at (by assumption) (by omega) | exact zS0_at rfl (by omega)) (t_Tok_isName C) ⟨Nat.le_of_ble_eq_true rfl, Nat.le_of_ble_eq_true rfl, Nat.le_of_ble_eq_true rfl, Nat.le_of_ble_eq_true rfl⟩ (Nat.le_of_ble_eq_true rfl) ?_
  intro r w hq
  rcases hq with ⟨⟨hb, rfl⟩ | ⟨hb, rfl⟩, rfl⟩
  · unfold p_known
    rw [if_pos hb]
    refine z_if_ne (tgt := 14) d_Tok_known_4 (by decide) (fun _ => ?_) (fun h => absurd h (by decide))
    refine z_aload_0 d_Tok_known_14 ?_
    refine z_getJv d_Tok_known_15 f_Tok_42 (by first | assumption | exact zS0_at (by assumption) (by omega) | exact zS0_at rfl (by omega)) (by first | assumption | ((try simp (disch := omega) only [zu_same, zu_ne, zcp_ne, zfl_ne]); first | assumption | rfl)) ?_
    refine z_aload_1 d_Tok_known_18 ?_
    refine z_iload_2 d_Tok_known_19 ?_
    refine z_Si3 d_Tok_known_20 k_Tok_97 (t_Tok_indexOf h0 hn hm) ⟨Nat.le_of_ble_eq_true rfl, Nat.le_of_ble_eq_true rfl, Nat.le_of_ble_eq_true rfl, Nat.le_of_ble_eq_true rfl⟩ (Nat.le_of_ble_eq_true rfl) ?_
    intro r w hq
    obtain ⟨rfl, rfl⟩ := hq
    first | refine z_istore_3 d_Tok_known_23 rfl ?_ | (refine z_forget_2 ?_; refine z_istore_3 d_Tok_known_23 rfl ?_)
    refine z_iload_3 d_Tok_known_24 ?_
    refine z_if_ge (tgt := 34) d_Tok_known_25 (by decide) (fun hc => ?_) (fun hc => ?_)
    · rw [if_neg (fun h => by rw [h] at hc; exact absurd hc (by decide))]
      refine z_iload_3 d_Tok_known_34 ?_
      refine z_reti d_Tok_known_35 ?_
      exact ⟨rfl, rfl⟩
    · have he : s_idx (J g) (twd t) n 0 = -1 := by
        rcases s_idx_c (J g) (twd t) n 0 with h | ⟨k, h1, h2, h3, -⟩
        · exact h
        · rw [h3] at hc
          exact absurd (Int32.not_lt.mp (nI_pos (by omega))) hc
      rw [if_pos he]
      refine z_aload_0 d_Tok_known_28 ?_
      refine z_iconst (a := nI 3) d_Tok_known_29 (by decide) ?_
      refine z_Vi1 d_Tok_known_30 k_Tok_90 (by first | assumption | exact zS0_at (by assumption) (by omega) | exact zS0_at rfl (by omega)) (t_Tok_faulty C) ⟨Nat.le_of_ble_eq_true rfl, Nat.le_of_ble_eq_true rfl, Nat.le_of_ble_eq_true rfl, Nat.le_of_ble_eq_true rfl⟩ (Nat.le_of_ble_eq_true rfl) ?_
      intro r w hq
      obtain ⟨rfl, hq⟩ := hq
      refine z_pop rfl d_Tok_known_33 ?_
      refine z_iload_3 d_Tok_known_34 ?_
      refine z_reti d_Tok_known_35 ?_
      exact ⟨he, hq⟩
  · unfold p_known
    rw [if_neg hb]
    refine z_if_ne (tgt := 14) d_Tok_known_4 (by decide) (fun h => absurd rfl h) (fun _ => ?_)
    refine z_aload_0 d_Tok_known_7 ?_
    refine z_Vi0 d_Tok_known_8 k_Tok_86 (by first | assumption | exact zS0_at (by assumption) (by omega) | exact zS0_at rfl (by omega)) (t_Tok_misplaced C) ⟨Nat.le_of_ble_eq_true rfl, Nat.le_of_ble_eq_true rfl, Nat.le_of_ble_eq_true rfl, Nat.le_of_ble_eq_true rfl⟩ (Nat.le_of_ble_eq_true rfl) ?_
    intro r w hq
    obtain ⟨rfl, hq⟩ := hq
    refine z_pop rfl d_Tok_known_11 ?_
    refine z_iconst (a := -1) d_Tok_known_12 (by decide) ?_
    refine z_reti d_Tok_known_13 ?_
    exact ⟨rfl, hq⟩
theorem p_known_c {N : Nat → Int64} {n : Nat} {v : Int32} (h : p_known N n t = .inr v) : ∃ k, k < n ∧ v = nI k ∧ N k = twd t := by
  unfold p_known at h
  split at h
  · split at h
    · cases h
    · rename_i h1 h2
      cases h
      rcases s_idx_c N (twd t) n 0 with h3 | ⟨k, h3, h4, h5, h6⟩
      · exact absurd h3 h2
      · exact ⟨k, by omega, h5, h6⟩
  · cases h
theorem t_Tok_takeKnown {n m g : Nat} (C : tkC T K q l L I J P S t) (h0 : S[g]? = some (101, m)) (hn : n ≤ m) (hm : m ≤ 900) : zEi G y_Tok_takeKnown prog_9_method_14_code 4 (some .int) 4 [.ref 11, .ref g, .int (nI n)] (I, J, P, S) (fun r w => pQ (p_known (J g) n t) (fun e => r = -1 ∧ tkE I J P S e w) (fun v => r = v ∧ tkN T K q l L I J P S (tA T L K t) w)) := by
  have ⟨⟨X0, _⟩, hL, h1, _, _, ⟨_, h4, h5, h6, h7, h8, h10⟩, _⟩ := C
  refine zEi_of (lv := [some (.ref 11), some (.ref g), some (.int (nI n)), none]) (by decide) rfl (Nat.le_of_ble_eq_true rfl) ?_
  refine z_aload_0 d_Tok_takeKnown_0 ?_
  refine z_aload_1 d_Tok_takeKnown_1 ?_
  refine z_iload_2 d_Tok_takeKnown_2 ?_
  refine z_Vi2 d_Tok_takeKnown_3 k_Tok_101 (by first | assumption | exact zS0_at (by assumption) (by omega) | exact zS0_at rfl (by omega)) (t_Tok_known C h0 hn hm) ⟨Nat.le_of_ble_eq_true rfl, Nat.le_of_ble_eq_true rfl, Nat.le_of_ble_eq_true rfl, Nat.le_of_ble_eq_true rfl⟩ (Nat.le_of_ble_eq_true rfl) ?_
  intro r w hq
  cases hx : p_known (J g) n t with
  | inl e =>
    rw [hx] at hq
    obtain ⟨rfl, I', J', rfl, hq⟩ := hq
    first | refine z_istore_3 d_Tok_takeKnown_6 rfl ?_ | (refine z_forget_2 ?_; refine z_istore_3 d_Tok_takeKnown_6 rfl ?_)
    refine z_iload_3 d_Tok_takeKnown_7 ?_
    refine z_if_lt (tgt := 15) d_Tok_takeKnown_8 (by decide) (fun _ => ?_) (fun h => absurd (by decide) h)
    refine z_iload_3 d_Tok_takeKnown_15 ?_
    refine z_reti d_Tok_takeKnown_16 ?_
    exact ⟨rfl, I', J', rfl, hq⟩
  | inr v =>
    rw [hx] at hq
    obtain ⟨rfl, rfl⟩ := hq
    obtain ⟨k, hk, rfl, -⟩ := p_known_c hx
    first | refine z_istore_3 d_Tok_takeKnown_6 rfl ?_ | (refine z_forget_2 ?_; refine z_istore_3 d_Tok_takeKnown_6 rfl ?_)
    refine z_iload_3 d_Tok_takeKnown_7 ?_
    refine z_if_lt (tgt := 15) d_Tok_takeKnown_8 (by decide) (fun h => absurd h (nI_pos (by omega))) (fun _ => ?_)
    refine z_aload_0 d_Tok_takeKnown_11 ?_
    refine z_Vv0 d_Tok_takeKnown_12 k_Tok_46 (by first | assumption | exact zS0_at (by assumption) (by omega) | exact zS0_at rfl (by omega)) (t_adv C) ⟨Nat.le_of_ble_eq_true rfl, Nat.le_of_ble_eq_true rfl, Nat.le_of_ble_eq_true rfl, Nat.le_of_ble_eq_true rfl⟩ (Nat.le_of_ble_eq_true rfl) ?_
    intro w hq
    have hq2 := hq
    obtain ⟨I', J', rfl, -⟩ := hq2
    refine z_iload_3 d_Tok_takeKnown_15 ?_
    refine z_reti d_Tok_takeKnown_16 ?_
    exact ⟨rfl, hq⟩
theorem t_Tok_open {n : Nat} (X0 : S[11]? = some (7, 12)) (X3 : P 11 3 = some 13) (X4 : S[13]? = some (101, 21)) (h0 : S[q]? = some (102, l)) (hl : l ≤ 900) (hn : n ≤ l) (hq1 : q ≠ 11) : zEv G y_Tok_open prog_9_method_2_code 3 3 0 0 [.ref 11, .ref q, .int (nI n)] (I, J, P, S) (fun w => ∃ I' J', w = (I', J', zu P 11 0 (some q), S) ∧ (∀ a, a ≠ 11 → I' a = I a) ∧ I' 11 10 = nI 0 ∧ I' 11 11 = -1 ∧ tkJ J J' ∧ tkC (I q) (J 13) q l n I' J' (zu P 11 0 (some q)) S (s_tok (I q) n (J 13) 0)) := by
  refine zEv_of (lv := [some (.ref 11), some (.ref q), some (.int (nI n))]) (by decide) rfl (Nat.le_of_ble_eq_true rfl) ?_
  refine z_aload_0 d_Tok_open_0 ?_
  refine z_aload_1 d_Tok_open_1 ?_
  refine z_putR d_Tok_open_2 f_Tok_7 (by first | assumption | exact zS0_at (by assumption) (by omega) | exact zS0_at rfl (by omega)) (fun _ => ⟨rfl, rfl⟩) ?_
  refine z_aload_0 d_Tok_open_5 ?_
  refine z_iload_2 d_Tok_open_6 ?_
  refine z_aload_1 d_Tok_open_7 ?_
  first | refine z_alen100 d_Tok_open_8 (by first | assumption | exact zS0_at (by assumption) (by omega) | exact zS0_at rfl (by omega)) ?_ | refine z_alen101 d_Tok_open_8 (by first | assumption | exact zS0_at (by assumption) (by omega) | exact zS0_at rfl (by omega)) ?_ | refine z_alen102 d_Tok_open_8 (by first | assumption | exact zS0_at (by assumption) (by omega) | exact zS0_at rfl (by omega)) ?_
  refine z_min d_Tok_open_9 k_Tok_49.2.1 ⟨Nat.le_of_ble_eq_true rfl, Nat.le_of_ble_eq_true rfl, Nat.le_of_ble_eq_true rfl, Nat.le_of_ble_eq_true rfl⟩ (Nat.le_of_ble_eq_true rfl) ?_
  rw [z_minN (by omega) (by omega), Nat.min_eq_left (by omega)]
  refine z_putI d_Tok_open_12 f_Tok_55 (by first | assumption | exact zS0_at (by assumption) (by omega) | exact zS0_at rfl (by omega)) ?_
  refine z_aload_0 d_Tok_open_15 ?_
  refine z_iconst (a := nI 0) d_Tok_open_16 (by decide) ?_
  refine z_putI d_Tok_open_17 f_Tok_57 (by first | assumption | exact zS0_at (by assumption) (by omega) | exact zS0_at rfl (by omega)) ?_
  refine z_aload_0 d_Tok_open_20 ?_
  refine z_iconst (a := nI 0) d_Tok_open_21 (by decide) ?_
  refine z_putI d_Tok_open_22 f_Tok_19 (by first | assumption | exact zS0_at (by assumption) (by omega) | exact zS0_at rfl (by omega)) ?_
  refine z_aload_0 d_Tok_open_25 ?_
  refine z_iconst (a := -1) d_Tok_open_26 (by decide) ?_
  refine z_putI d_Tok_open_27 f_Tok_23 (by first | assumption | exact zS0_at (by assumption) (by omega) | exact zS0_at rfl (by omega)) ?_
  refine z_aload_0 d_Tok_open_30 ?_
  refine z_Vv0 d_Tok_open_31 k_Tok_46 (by first | assumption | exact zS0_at (by assumption) (by omega) | exact zS0_at rfl (by omega)) (t_Tok_advance (q := q) (l := l) (L := n) (p := 0) ⟨X0, zu_same _ _ _ _, h0, hq1, by rw [zu_ne _ _ _ _ (by omega)]; exact X3, X4⟩ hn hl (by simp [zu]) (by simp [zu]) (by omega)) ⟨Nat.le_of_ble_eq_true rfl, Nat.le_of_ble_eq_true rfl, Nat.le_of_ble_eq_true rfl, Nat.le_of_ble_eq_true rfl⟩ (Nat.le_of_ble_eq_true rfl) ?_
  intro w hq
  obtain ⟨K', M', rfl, h4, h5, h6⟩ := hq
  have e1 : zu (zu (zu (zu I 11 1 (nI n)) 11 2 (nI 0)) 11 10 (nI 0)) 11 11 (-1) q = I q := by rw [zu_row _ _ _ _ hq1, zu_row _ _ _ _ hq1, zu_row _ _ _ _ hq1, zu_row _ _ _ _ hq1]
  rw [e1] at h6
  have h7 := s_tok_st (I q) n (J 13) 0 (by omega)
  refine z_retv d_Tok_open_34 ?_
  exact ⟨K', M', rfl, fun a ha => by rw [h4.1 a ha, zu_row _ _ _ _ ha, zu_row _ _ _ _ ha, zu_row _ _ _ _ ha, zu_row _ _ _ _ ha], h4.2.2.1.trans (by simp [zu]), h4.2.2.2.trans (by simp [zu]), h5, ⟨X0, zu_same _ _ _ _, h0, hq1, by rw [zu_ne _ _ _ _ (by omega)]; exact X3, X4⟩, ⟨hn, hl⟩, h4.2.1.trans (by simp [zu]), (h4.1 q hq1).trans e1, h5 _ (by decide), h6, ⟨h7.2.2.1, h7.2.2.2.1⟩, h7.2.2.2.2, s_tok_kd _ _ _ _, s_tok_kw _ _ _ _⟩
end TK3
