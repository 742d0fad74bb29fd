/-! the reference: tokens -/
section MT0
def byt (n : Nat) : Int32 := (Int8.ofNat n).toInt32
def bytOk (T : Nat → Int32) : Prop := ∀ k, ∃ n, n < 256 ∧ T k = byt n
theorem byt_le : ∀ n, n < 256 → c_le (byt n &&& nI 255) = c_le (byt n) := by decide +kernel
theorem byt_di : ∀ n, n < 256 → c_di (byt n &&& nI 255) = c_di (byt n) := by decide +kernel
theorem byt_sg : ∀ n, n < 256 → c_sg (byt n &&& nI 255) = c_sg (byt n) := by decide +kernel
theorem byt_ws : ∀ n, n < 256 → c_ws (byt n &&& nI 255) = c_ws (byt n) := by decide +kernel
theorem byt_le2 : ∀ n, n < 256 → c_le (byt n) = true → byt n &&& nI 255 = byt n ∧ (byt n - nI 97 + nI 1).toInt64 = (byt n).toInt64 - 96 ∧ ∃ x, x < 27 ∧ 0 < x ∧ (byt n - nI 97 + nI 1).toInt64 = lN x := by decide +kernel
theorem byt_di2 : ∀ n, n < 256 → c_di (byt n) = true → byt n &&& nI 255 = byt n := by decide +kernel
theorem byt_sg2 : ∀ n, n < 256 → c_sg (byt n) = true → byt n &&& nI 255 = byt n := by decide +kernel
theorem s_code_n {T : Nat → Int32} (hT : bytOk T) (s : Nat) : ∀ n, (∀ i, s ≤ i → i < s + n → c_le (T i) = true) → ∃ m, s_code T s n = lN m ∧ (0 < n → 0 < m) ∧ m < 32 ^ n := by
  intro n
  induction n with
  | zero => intro _; exact ⟨0, rfl, fun h => absurd h (by omega), by decide⟩
  | succ n ih =>
    intro h
    obtain ⟨m, h1, h2, h3⟩ := ih (fun i g1 g2 => h i g1 (by omega))
    obtain ⟨b, hb, hb2⟩ := hT (s + n)
    have hl := h (s + n) (by omega) (by omega)
    rw [hb2] at hl
    obtain ⟨-, -, x, hx, hx0, hx2⟩ := byt_le2 b hb hl
    refine ⟨m * 32 + x, ?_, by omega, ?_⟩
    · rw [s_code, h1, hb2, hx2]
      show lN m * lN 32 + lN x = _
      rw [lN_mul, lN_add]
    · rw [Nat.pow_succ]; omega
def zKw (i : Nat) : Int64 := ([495763, 21562676, 24627848, 542723566, 307, 394693, 20782, 486, 494, 398372, 525939, 75397, 12748366, 409189, 1497, 762030, 7668, 245189, 409072, 5572, 643568] : List Int64).getD i 0
theorem zKw_inj : ∀ i, i < 21 → ∀ j, j < 21 → zKw i = zKw j → i = j := by decide +kernel
theorem zKw_m1 : ∀ i, i < 21 → ¬ zKw i = -1 := by decide +kernel
theorem s_kw_iff {K : Nat → Int64} (hK : ∀ i, i < 21 → K i = zKw i) {c : Int64} {i : Nat} (hi : i < 21) : s_kw K c 21 = nI i ↔ zKw i = c := by
  have key : ∀ n, n ≤ 21 → ((∃ j, j < n ∧ zKw j = c ∧ s_kw K c n = nI j) ∨ ((∀ j, j < n → ¬ zKw j = c) ∧ s_kw K c n = -1)) := by
    intro n
    induction n with
    | zero => intro _; exact Or.inr ⟨fun j hj => by omega, rfl⟩
    | succ n ih =>
      intro hn
      rw [s_kw]
      split
      · rename_i h
        exact Or.inl ⟨n, by omega, by rw [← hK n (by omega)]; exact h, rfl⟩
      · rename_i h
        rcases ih (by omega) with ⟨j, h1, h2, h3⟩ | ⟨h1, h2⟩
        · exact Or.inl ⟨j, by omega, h2, h3⟩
        · refine Or.inr ⟨fun j hj => ?_, h2⟩
          by_cases e : j = n
          · subst e; rw [← hK j (by omega)]; exact h
          · exact h1 j (by omega)
  rcases key 21 (by omega) with ⟨j, h1, h2, h3⟩ | ⟨h1, h2⟩
  · rw [h3, nI_eq (by omega) (by omega)]
    constructor
    · intro e; subst e; exact h2
    · intro e; exact zKw_inj j h1 i hi (h2.trans e.symm)
  · rw [h2]
    constructor
    · intro e; exact absurd e ((by decide +kernel : ∀ i, i < 21 → ¬ (-1 : Int32) = nI i) i hi)
    · intro e; exact absurd e (h1 i hi)
/-- what is so of every token of a text -/
def tkP (K : Nat → Int64) (t : tk) : Prop := (tkd t = 1 → 0 < ten t - tst t) ∧ (tkd t = 1 → ten t - tst t ≤ 8 → tkw t = s_kw K (twd t) 21 ∧ ¬ twd t = lN 0) ∧ (¬ (tkd t = 1 ∧ ten t - tst t ≤ 8) → tkw t = -1 ∧ twd t = lN 0) ∧ (tkd t = 3 → ∃ k, 59 ≤ k ∧ k ≤ 62 ∧ tsg t = nI k) ∧ (¬ tkd t = 3 → tsg t = nI 0) ∧ (tst t ≤ ten t) ∧ (tkd t ≠ 0 → tst t < ten t) ∧ tkd t ≤ 4
theorem sg_c : ∀ n, n < 256 → c_sg (byt n) = true → ∃ k, k < 63 ∧ 59 ≤ k ∧ byt n = nI k := by decide +kernel
theorem s_tok_P {T : Nat → Int32} (hT : bytOk T) (L : Nat) (K : Nat → Int64) (p : Nat) (hp : p ≤ L) : tkP K (s_tok T L K p) := by
  have hst := s_tok_st T L K p hp
  have hkd := s_tok_kd T L K p
  have key : (tkd (s_tok T L K p) = 1 → ten (s_tok T L K p) - tst (s_tok T L K p) ≤ 8 → tkw (s_tok T L K p) = s_kw K (twd (s_tok T L K p)) 21 ∧ ¬ twd (s_tok T L K p) = lN 0) ∧ (¬ (tkd (s_tok T L K p) = 1 ∧ ten (s_tok T L K p) - tst (s_tok T L K p) ≤ 8) → tkw (s_tok T L K p) = -1 ∧ twd (s_tok T L K p) = lN 0) ∧ (tkd (s_tok T L K p) = 3 → ∃ k, 59 ≤ k ∧ k ≤ 62 ∧ tsg (s_tok T L K p) = nI k) ∧ (¬ tkd (s_tok T L K p) = 3 → tsg (s_tok T L K p) = nI 0) := by
    unfold s_tok
    generalize s_run (fun i => c_ws (T i)) (L - p) p = s
    unfold s_tok1
    split
    · exact ⟨fun h => absurd h (show ¬ (0 : Nat) = 1 by decide), fun _ => ⟨rfl, rfl⟩, fun h => absurd h (show ¬ (0 : Nat) = 3 by decide), fun _ => rfl⟩
    · split
      · rename_i h4 h5
        have h6 : s_run (fun i => c_le (T i)) (L - s) s = s_run (fun i => c_le (T i)) (L - (s + 1)) (s + 1) := s_run_go (by omega) h5
        have h7 := s_run_ge (b := fun i => c_le (T i)) (L - (s + 1)) (s + 1)
        have h8 := s_run_in (b := fun i => c_le (T i)) (L - s) s
        rw [← h6] at h7
        dsimp only
        split
        · rename_i h9
          refine ⟨fun _ _ => ⟨rfl, ?_⟩, fun h => absurd ⟨rfl, h9⟩ h, fun h => absurd h (show ¬ (1 : Nat) = 3 by decide), fun _ => rfl⟩
          obtain ⟨m, g1, g2, g3⟩ := s_code_n hT s (s_run (fun i => c_le (T i)) (L - s) s - s) (fun i a b => h8 i a (by omega))
          have g4 : m < 2 ^ 40 := Nat.lt_of_lt_of_le g3 (by
            have := Nat.pow_le_pow_right (n := 32) (by decide) h9
            omega)
          show ¬ s_code T s _ = _
          rw [g1]
          intro e
          have e2 : (lN m).toInt = (lN 0).toInt := by rw [e]
          unfold lN at e2
          rw [lg_ofNat_toInt (by omega), lg_ofNat_toInt (by omega)] at e2
          have := g2 (by omega)
          omega
        · rename_i h9
          exact ⟨fun _ h => absurd h h9, fun _ => ⟨rfl, rfl⟩, fun h => absurd h (show ¬ (1 : Nat) = 3 by decide), fun _ => rfl⟩
      · split
        · refine ⟨fun h => ?_, fun _ => ⟨rfl, rfl⟩, fun h => ?_, fun _ => rfl⟩
          · have h : (if _ then 2 else 4) = 1 := h
            split at h <;> omega
          · have h : (if _ then 2 else 4) = 3 := h
            split at h <;> omega
        · refine ⟨fun h => ?_, fun _ => ⟨rfl, rfl⟩, fun h => ?_, fun h => ?_⟩
          · have h : (if _ then 3 else 4) = 1 := h
            split at h <;> omega
          · have h : (if c_sg (T s) = true then 3 else 4) = 3 := h
            split at h
            · rename_i hc
              obtain ⟨b, hb, hb2⟩ := hT s
              rw [hb2] at hc
              obtain ⟨k, k1, k2, k3⟩ := sg_c b hb hc
              refine ⟨k, k2, by omega, ?_⟩
              show (if c_sg (T s) = true then T s else nI 0) = _
              rw [hb2, if_pos hc, k3]
            · omega
          · have h : ¬ (if c_sg (T s) = true then 3 else 4) = 3 := h
            show (if c_sg (T s) = true then T s else nI 0) = nI 0
            split
            · rename_i hc
              rw [if_pos hc] at h
              exact absurd rfl h
            · rfl
  exact ⟨fun h => by have := hst.2.2.2.2 (by omega); omega, key.1, key.2.1, key.2.2.1, key.2.2.2, hst.2.2.1, hst.2.2.2.2, hkd⟩
end MT0
section MT1
variable {G : zG} {I : Nat → Nat → Int32} {J : Nat → Nat → Int64} {P : Nat → Nat → Option Nat} {S : List (Nat × Nat)} {L : Nat} {a b : Int32} {T : Nat → Int32} {K : Nat → Int64} {t : tk}
/-- the reference's token is this -/
def moAt (I : Nat → Nat → Int32) (J : Nat → Nat → Int64) (t : tk) : Prop := I 145 14 = nI (tkd t) ∧ I 145 15 = nI (tst t) ∧ I 145 16 = nI (ten t) ∧ (tkd t = 1 → I 145 18 = nI (ten t - tst t) ∧ J 145 19 = (if ten t - tst t ≤ 8 then twd t else -1)) ∧ (tkd t = 2 → I 145 17 = tnu t) ∧ (tkd t = 3 → I 145 17 = tsg t)
def mF (I K : Nat → Nat → Int32) : Prop := (∀ a, a ≠ 145 → K a = I a) ∧ ∀ k, ¬ (14 ≤ k ∧ k ≤ 18) → K 145 k = I 145 k
def mJ (J K : Nat → Nat → Int64) : Prop := (∀ a, a ≠ 145 → K a = J a) ∧ ∀ k, k ≠ 19 → K 145 k = J 145 k
theorem mF_r : mF I I := ⟨fun _ _ => rfl, fun _ _ => rfl⟩
theorem mJ_r : mJ J J := ⟨fun _ _ => rfl, fun _ _ => rfl⟩
theorem mF_u {I K : Nat → Nat → Int32} {k : Nat} {x : Int32} (h : mF I K) (h1 : 14 ≤ k ∧ k ≤ 18) : mF I (zu K 145 k x) := ⟨fun a ha => (zu_row K 145 k x ha).trans (h.1 a ha), fun i hi => (zu_ne _ _ _ _ (by omega)).trans (h.2 i hi)⟩
theorem mJ_u {I K : Nat → Nat → Int64} {x : Int64} (h : mJ I K) : mJ I (zu K 145 19 x) := ⟨fun a ha => (zu_row K 145 19 x ha).trans (h.1 a ha), fun i hi => (zu_ne _ _ _ _ (by omega)).trans (h.2 i hi)⟩
theorem t_Mo_look2 {p : Nat} (M : modOk P S) (h9 : I 145 9 = nI L) (hL : L ≤ 900) (hT : ∀ k, k < 900 → I 149 k = T k) (hp : p ≤ 900) : zEi G y_Mo_look2 prog_14_method_21_code 2 (some .int) 1 [.ref 145, .int (nI p)] (I, J, P, S) (fun r w => r = (if p < L then T p &&& nI 255 else nI 0) ∧ w = (I, J, P, S)) := by
  obtain ⟨M0, ⟨M4, M4s⟩, ⟨M5, M5s⟩, ⟨M6, M6s⟩, ⟨M7, M7s⟩, ⟨M20, M20s⟩, ⟨M21, M21s⟩, ⟨M22, M22s⟩, ⟨M26, M26s⟩, ⟨M27, M27s⟩, ⟨M28, M28s⟩, ⟨M30, M30s⟩, ⟨M34, M34s⟩, ⟨M36, M36s⟩, ⟨M37, M37s⟩⟩ := id M
  refine zEi_of (lv := [some (.ref 145), some (.int (nI p))]) (by decide) rfl (Nat.le_of_ble_eq_true rfl) ?_
  refine z_iload_1 d_Mo_look2_0 ?_
  refine z_aload_0 d_Mo_look2_1 ?_
  refine z_getIv d_Mo_look2_2 f_Mo_113 (by first | assumption | exact zS0_at (by assumption) (by omega) | exact zS0_at rfl (by omega)) (by first | assumption | ((try simp (disch := omega) only [zu_same, zu_ne, zcp_ne, zfl_ne]); first | assumption | rfl)) ?_
  refine z_icmp_ge (tgt := 21) d_Mo_look2_5 (by decide) (fun hb => ?_) (fun hb => ?_)
  · have hb := (nI_leI (by omega) (by omega)).mp hb
    rw [if_neg (by omega)]
    refine z_iconst (a := nI 0) d_Mo_look2_21 (by decide) ?_
    refine z_reti d_Mo_look2_22 ?_
    exact ⟨rfl, rfl⟩
  · have hb : p < L := Nat.lt_of_not_le (fun q => hb (nI_le q (by omega)))
    rw [if_pos hb, ← hT p (by omega)]
    refine z_aload_0 d_Mo_look2_8 ?_
    refine z_getR d_Mo_look2_9 f_Mo_24 (by first | assumption | exact zS0_at (by assumption) (by omega) | exact zS0_at rfl (by omega)) (by first | assumption | exact zS0_at (by assumption) (by omega) | exact zS0_at rfl (by omega)) ?_
    refine z_iload_1 d_Mo_look2_12 ?_
    first | refine z_baldNv d_Mo_look2_13 (by first | assumption | exact zS0_at (by assumption) (by omega) | exact zS0_at rfl (by omega)) (by omega) (by first | decide | omega) (by first | assumption | ((try simp (disch := omega) only [zu_same, zu_ne, zcp_ne, zfl_ne]); first | assumption | rfl)) ?_ | refine z_zaldNv d_Mo_look2_13 (by first | assumption | exact zS0_at (by assumption) (by omega) | exact zS0_at rfl (by omega)) (by omega) (by first | decide | omega) (by first | assumption | ((try simp (disch := omega) only [zu_same, zu_ne, zcp_ne, zfl_ne]); first | assumption | rfl)) ?_ | refine z_bald d_Mo_look2_13 (by first | assumption | exact zS0_at (by assumption) (by omega) | exact zS0_at rfl (by omega)) (by first | assumption | exact zS0_at (by assumption) (by omega) | exact zS0_at rfl (by omega)) ?_ | refine z_zald d_Mo_look2_13 (by first | assumption | exact zS0_at (by assumption) (by omega) | exact zS0_at rfl (by omega)) (by first | assumption | exact zS0_at (by assumption) (by omega) | exact zS0_at rfl (by omega)) ?_
    refine z_sipush (a := nI 255) d_Mo_look2_14 (by decide) ?_
    refine z_iand d_Mo_look2_17 ?_
    refine z_goto (tgt := 22) d_Mo_look2_18 (by decide) ?_
    refine z_reti d_Mo_look2_22 ?_
    exact ⟨rfl, rfl⟩
theorem t_Mo_isLetter : zEi G y_Mo_isLetter prog_14_method_22_code 1 (some .boolean) 1 [.int a] (I, J, P, S) (fun r w => (c_le a = true ∧ r = nI 1 ∨ ¬ c_le a = true ∧ r = nI 0) ∧ w = (I, J, P, S)) := by
  refine zEi_of (lv := [some (.int a)]) (by decide) rfl (Nat.le_of_ble_eq_true rfl) ?_
  refine z_iload_0 d_Mo_isLetter_0 ?_
  refine z_bipush (a := nI 97) d_Mo_isLetter_1 (by decide) ?_
  refine z_icmp_lt (tgt := 16) d_Mo_isLetter_3 (by decide) (fun h3 => ?_) (fun h3 => ?_)
  · first
    | (simp (disch := omega) only [← nI_0, nI_leI, nI_ltI, nI_eq, not_true_eq_false, not_false_eq_true] at h3; done)
    | (simp (disch := omega) only [← nI_0, nI_leI, nI_ltI, nI_eq, not_true_eq_false, not_false_eq_true] at h3; omega)
    | contradiction
    | exact absurd h3 (Int32.not_lt.mpr (by assumption))
    | exact absurd h3 (Int32.not_le.mpr (by assumption))
    | exact absurd h3 (by decide)
    | exact absurd (by decide) h3
    | ( try simp (disch := omega) only [← nI_0, nI_leI, nI_ltI, nI_eq, not_true_eq_false, not_false_eq_true] at h3
        refine z_iconst (a := nI 0) d_Mo_isLetter_16 (by decide) ?_
        refine z_retz d_Mo_isLetter_17 (by first | exact zb0 | exact zb1 | assumption) ?_
        first | exact ⟨Or.inl ⟨by unfold c_le; simp_all, rfl⟩, rfl⟩ | exact ⟨Or.inr ⟨by unfold c_le; simp_all, rfl⟩, rfl⟩)
  · first
    | (simp (disch := omega) only [← nI_0, nI_leI, nI_ltI, nI_eq, not_true_eq_false, not_false_eq_true] at h3; done)
    | (simp (disch := omega) only [← nI_0, nI_leI, nI_ltI, nI_eq, not_true_eq_false, not_false_eq_true] at h3; omega)
    | contradiction
    | exact absurd h3 (Int32.not_lt.mpr (by assumption))
    | exact absurd h3 (Int32.not_le.mpr (by assumption))
    | exact absurd h3 (by decide)
    | exact absurd (by decide) h3
    | ( try simp (disch := omega) only [← nI_0, nI_leI, nI_ltI, nI_eq, not_true_eq_false, not_false_eq_true] at h3
        refine z_iload_0 d_Mo_isLetter_6 ?_
        refine z_bipush (a := nI 122) d_Mo_isLetter_7 (by decide) ?_
        refine z_icmp_gt (tgt := 16) d_Mo_isLetter_9 (by decide) (fun h9 => ?_) (fun h9 => ?_)
        · first
          | (simp (disch := omega) only [← nI_0, nI_leI, nI_ltI, nI_eq, not_true_eq_false, not_false_eq_true] at h9; done)
          | (simp (disch := omega) only [← nI_0, nI_leI, nI_ltI, nI_eq, not_true_eq_false, not_false_eq_true] at h9; omega)
          | contradiction
          | exact absurd h9 (Int32.not_lt.mpr (by assumption))
          | exact absurd h9 (Int32.not_le.mpr (by assumption))
          | exact absurd h9 (by decide)
          | exact absurd (by decide) h9
          | ( try simp (disch := omega) only [← nI_0, nI_leI, nI_ltI, nI_eq, not_true_eq_false, not_false_eq_true] at h9
              refine z_iconst (a := nI 0) d_Mo_isLetter_16 (by decide) ?_
              refine z_retz d_Mo_isLetter_17 (by first | exact zb0 | exact zb1 | assumption) ?_
              first | exact ⟨Or.inl ⟨by unfold c_le; simp_all, rfl⟩, rfl⟩ | exact ⟨Or.inr ⟨by unfold c_le; simp_all, rfl⟩, rfl⟩)
        · first
          | (simp (disch := omega) only [← nI_0, nI_leI, nI_ltI, nI_eq, not_true_eq_false, not_false_eq_true] at h9; done)
          | (simp (disch := omega) only [← nI_0, nI_leI, nI_ltI, nI_eq, not_true_eq_false, not_false_eq_true] at h9; omega)
          | contradiction
          | exact absurd h9 (Int32.not_lt.mpr (by assumption))
          | exact absurd h9 (Int32.not_le.mpr (by assumption))
          | exact absurd h9 (by decide)
          | exact absurd (by decide) h9
          | ( try simp (disch := omega) only [← nI_0, nI_leI, nI_ltI, nI_eq, not_true_eq_false, not_false_eq_true] at h9
              refine z_iconst (a := nI 1) d_Mo_isLetter_12 (by decide) ?_
              refine z_goto (tgt := 17) d_Mo_isLetter_13 (by decide) ?_
              refine z_retz d_Mo_isLetter_17 (by first | exact zb0 | exact zb1 | assumption) ?_
              first | exact ⟨Or.inl ⟨by unfold c_le; simp_all, rfl⟩, rfl⟩ | exact ⟨Or.inr ⟨by unfold c_le; simp_all, rfl⟩, rfl⟩))
theorem t_Mo_isDigit : zEi G y_Mo_isDigit prog_14_method_23_code 1 (some .boolean) 1 [.int a] (I, J, P, S) (fun r w => (c_di a = true ∧ r = nI 1 ∨ ¬ c_di a = true ∧ r = nI 0) ∧ w = (I, J, P, S)) := by
  refine zEi_of (lv := [some (.int a)]) (by decide) rfl (Nat.le_of_ble_eq_true rfl) ?_
  refine z_iload_0 d_Mo_isDigit_0 ?_
  refine z_bipush (a := nI 48) d_Mo_isDigit_1 (by decide) ?_
  refine z_icmp_lt (tgt := 16) d_Mo_isDigit_3 (by decide) (fun h3 => ?_) (fun h3 => ?_)
  · first
    | (simp (disch := omega) only [← nI_0, nI_leI, nI_ltI, nI_eq, not_true_eq_false, not_false_eq_true] at h3; done)
    | (simp (disch := omega) only [← nI_0, nI_leI, nI_ltI, nI_eq, not_true_eq_false, not_false_eq_true] at h3; omega)
    | contradiction
    | exact absurd h3 (Int32.not_lt.mpr (by assumption))
    | exact absurd h3 (Int32.not_le.mpr (by assumption))
    | exact absurd h3 (by decide)
    | exact absurd (by decide) h3
    | ( try simp (disch := omega) only [← nI_0, nI_leI, nI_ltI, nI_eq, not_true_eq_false, not_false_eq_true] at h3
        refine z_iconst (a := nI 0) d_Mo_isDigit_16 (by decide) ?_
        refine z_retz d_Mo_isDigit_17 (by first | exact zb0 | exact zb1 | assumption) ?_
        first | exact ⟨Or.inl ⟨by unfold c_di; simp_all, rfl⟩, rfl⟩ | exact ⟨Or.inr ⟨by unfold c_di; simp_all, rfl⟩, rfl⟩)
  · first
    | (simp (disch := omega) only [← nI_0, nI_leI, nI_ltI, nI_eq, not_true_eq_false, not_false_eq_true] at h3; done)
    | (simp (disch := omega) only [← nI_0, nI_leI, nI_ltI, nI_eq, not_true_eq_false, not_false_eq_true] at h3; omega)
    | contradiction
    | exact absurd h3 (Int32.not_lt.mpr (by assumption))
    | exact absurd h3 (Int32.not_le.mpr (by assumption))
    | exact absurd h3 (by decide)
    | exact absurd (by decide) h3
    | ( try simp (disch := omega) only [← nI_0, nI_leI, nI_ltI, nI_eq, not_true_eq_false, not_false_eq_true] at h3
        refine z_iload_0 d_Mo_isDigit_6 ?_
        refine z_bipush (a := nI 57) d_Mo_isDigit_7 (by decide) ?_
        refine z_icmp_gt (tgt := 16) d_Mo_isDigit_9 (by decide) (fun h9 => ?_) (fun h9 => ?_)
        · first
          | (simp (disch := omega) only [← nI_0, nI_leI, nI_ltI, nI_eq, not_true_eq_false, not_false_eq_true] at h9; done)
          | (simp (disch := omega) only [← nI_0, nI_leI, nI_ltI, nI_eq, not_true_eq_false, not_false_eq_true] at h9; omega)
          | contradiction
          | exact absurd h9 (Int32.not_lt.mpr (by assumption))
          | exact absurd h9 (Int32.not_le.mpr (by assumption))
          | exact absurd h9 (by decide)
          | exact absurd (by decide) h9
          | ( try simp (disch := omega) only [← nI_0, nI_leI, nI_ltI, nI_eq, not_true_eq_false, not_false_eq_true] at h9
              refine z_iconst (a := nI 0) d_Mo_isDigit_16 (by decide) ?_
              refine z_retz d_Mo_isDigit_17 (by first | exact zb0 | exact zb1 | assumption) ?_
              first | exact ⟨Or.inl ⟨by unfold c_di; simp_all, rfl⟩, rfl⟩ | exact ⟨Or.inr ⟨by unfold c_di; simp_all, rfl⟩, rfl⟩)
        · first
          | (simp (disch := omega) only [← nI_0, nI_leI, nI_ltI, nI_eq, not_true_eq_false, not_false_eq_true] at h9; done)
          | (simp (disch := omega) only [← nI_0, nI_leI, nI_ltI, nI_eq, not_true_eq_false, not_false_eq_true] at h9; omega)
          | contradiction
          | exact absurd h9 (Int32.not_lt.mpr (by assumption))
          | exact absurd h9 (Int32.not_le.mpr (by assumption))
          | exact absurd h9 (by decide)
          | exact absurd (by decide) h9
          | ( try simp (disch := omega) only [← nI_0, nI_leI, nI_ltI, nI_eq, not_true_eq_false, not_false_eq_true] at h9
              refine z_iconst (a := nI 1) d_Mo_isDigit_12 (by decide) ?_
              refine z_goto (tgt := 17) d_Mo_isDigit_13 (by decide) ?_
              refine z_retz d_Mo_isDigit_17 (by first | exact zb0 | exact zb1 | assumption) ?_
              first | exact ⟨Or.inl ⟨by unfold c_di; simp_all, rfl⟩, rfl⟩ | exact ⟨Or.inr ⟨by unfold c_di; simp_all, rfl⟩, rfl⟩))
theorem t_Mo_isSignByte (M : modOk P S) : zEi G y_Mo_isSignByte prog_14_method_24_code 2 (some .boolean) 1 [.ref 145, .int a] (I, J, P, S) (fun r w => (c_sg a = true ∧ r = nI 1 ∨ ¬ c_sg a = true ∧ r = nI 0) ∧ w = (I, J, P, S)) := by
  refine zEi_of (lv := [some (.ref 145), some (.int a)]) (by decide) rfl (Nat.le_of_ble_eq_true rfl) ?_
  have pos : c_sg a = true → zA G y_Mo_isSignByte prog_14_method_24_code 2 (some .boolean) (zRm 1 0 0) (zM G 0 0 (fun r w' => ∃ x, r = some (.int x) ∧ (fun r w => (c_sg a = true ∧ r = nI 1 ∨ ¬ c_sg a = true ∧ r = nI 0) ∧ w = (I, J, P, S)) x w')) 24 [some (.ref 145), some (.int a)] [] (I, J, P, S) 0 0 := by
    intro hc
    refine z_iconst (a := nI 1) d_Mo_isSignByte_24 (by decide) ?_
    refine z_goto (tgt := 29) d_Mo_isSignByte_25 (by decide) ?_
    refine z_retz d_Mo_isSignByte_29 (by first | exact zb0 | exact zb1 | assumption) ?_
    exact ⟨Or.inl ⟨hc, rfl⟩, rfl⟩
  refine z_iload_1 d_Mo_isSignByte_0 ?_
  refine z_bipush (a := nI 59) d_Mo_isSignByte_1 (by decide) ?_
  refine z_icmp_eq (tgt := 24) d_Mo_isSignByte_3 (by decide) (fun h3 => ?_) (fun h3 => ?_)
  · first
    | (simp (disch := omega) only [← nI_0, nI_leI, nI_ltI, nI_eq, not_true_eq_false, not_false_eq_true] at h3; done)
    | (simp (disch := omega) only [← nI_0, nI_leI, nI_ltI, nI_eq, not_true_eq_false, not_false_eq_true] at h3; omega)
    | contradiction
    | exact absurd h3 (Int32.not_lt.mpr (by assumption))
    | exact absurd h3 (Int32.not_le.mpr (by assumption))
    | exact absurd h3 (by decide)
    | exact absurd (by decide) h3
    | ( try simp (disch := omega) only [← nI_0, nI_leI, nI_ltI, nI_eq, not_true_eq_false, not_false_eq_true] at h3
        exact pos (by unfold c_sg; simp_all))
  · first
    | (simp (disch := omega) only [← nI_0, nI_leI, nI_ltI, nI_eq, not_true_eq_false, not_false_eq_true] at h3; done)
    | (simp (disch := omega) only [← nI_0, nI_leI, nI_ltI, nI_eq, not_true_eq_false, not_false_eq_true] at h3; omega)
    | contradiction
    | exact absurd h3 (Int32.not_lt.mpr (by assumption))
    | exact absurd h3 (Int32.not_le.mpr (by assumption))
    | exact absurd h3 (by decide)
    | exact absurd (by decide) h3
    | ( try simp (disch := omega) only [← nI_0, nI_leI, nI_ltI, nI_eq, not_true_eq_false, not_false_eq_true] at h3
        refine z_iload_1 d_Mo_isSignByte_6 ?_
        refine z_bipush (a := nI 60) d_Mo_isSignByte_7 (by decide) ?_
        refine z_icmp_eq (tgt := 24) d_Mo_isSignByte_9 (by decide) (fun h9 => ?_) (fun h9 => ?_)
        · first
          | (simp (disch := omega) only [← nI_0, nI_leI, nI_ltI, nI_eq, not_true_eq_false, not_false_eq_true] at h9; done)
          | (simp (disch := omega) only [← nI_0, nI_leI, nI_ltI, nI_eq, not_true_eq_false, not_false_eq_true] at h9; omega)
          | contradiction
          | exact absurd h9 (Int32.not_lt.mpr (by assumption))
          | exact absurd h9 (Int32.not_le.mpr (by assumption))
          | exact absurd h9 (by decide)
          | exact absurd (by decide) h9
          | ( try simp (disch := omega) only [← nI_0, nI_leI, nI_ltI, nI_eq, not_true_eq_false, not_false_eq_true] at h9
              exact pos (by unfold c_sg; simp_all))
        · first
          | (simp (disch := omega) only [← nI_0, nI_leI, nI_ltI, nI_eq, not_true_eq_false, not_false_eq_true] at h9; done)
          | (simp (disch := omega) only [← nI_0, nI_leI, nI_ltI, nI_eq, not_true_eq_false, not_false_eq_true] at h9; omega)
          | contradiction
          | exact absurd h9 (Int32.not_lt.mpr (by assumption))
          | exact absurd h9 (Int32.not_le.mpr (by assumption))
          | exact absurd h9 (by decide)
          | exact absurd (by decide) h9
          | ( try simp (disch := omega) only [← nI_0, nI_leI, nI_ltI, nI_eq, not_true_eq_false, not_false_eq_true] at h9
              refine z_iload_1 d_Mo_isSignByte_12 ?_
              refine z_bipush (a := nI 62) d_Mo_isSignByte_13 (by decide) ?_
              refine z_icmp_eq (tgt := 24) d_Mo_isSignByte_15 (by decide) (fun h15 => ?_) (fun h15 => ?_)
              · first
                | (simp (disch := omega) only [← nI_0, nI_leI, nI_ltI, nI_eq, not_true_eq_false, not_false_eq_true] at h15; done)
                | (simp (disch := omega) only [← nI_0, nI_leI, nI_ltI, nI_eq, not_true_eq_false, not_false_eq_true] at h15; omega)
                | contradiction
                | exact absurd h15 (Int32.not_lt.mpr (by assumption))
                | exact absurd h15 (Int32.not_le.mpr (by assumption))
                | exact absurd h15 (by decide)
                | exact absurd (by decide) h15
                | ( try simp (disch := omega) only [← nI_0, nI_leI, nI_ltI, nI_eq, not_true_eq_false, not_false_eq_true] at h15
                    exact pos (by unfold c_sg; simp_all))
              · first
                | (simp (disch := omega) only [← nI_0, nI_leI, nI_ltI, nI_eq, not_true_eq_false, not_false_eq_true] at h15; done)
                | (simp (disch := omega) only [← nI_0, nI_leI, nI_ltI, nI_eq, not_true_eq_false, not_false_eq_true] at h15; omega)
                | contradiction
                | exact absurd h15 (Int32.not_lt.mpr (by assumption))
                | exact absurd h15 (Int32.not_le.mpr (by assumption))
                | exact absurd h15 (by decide)
                | exact absurd (by decide) h15
                | ( try simp (disch := omega) only [← nI_0, nI_leI, nI_ltI, nI_eq, not_true_eq_false, not_false_eq_true] at h15
                    refine z_iload_1 d_Mo_isSignByte_18 ?_
                    refine z_bipush (a := nI 61) d_Mo_isSignByte_19 (by decide) ?_
                    refine z_icmp_ne (tgt := 28) d_Mo_isSignByte_21 (by decide) (fun h21 => ?_) (fun h21 => ?_)
                    · first
                      | (simp (disch := omega) only [← nI_0, nI_leI, nI_ltI, nI_eq, not_true_eq_false, not_false_eq_true] at h21; done)
                      | (simp (disch := omega) only [← nI_0, nI_leI, nI_ltI, nI_eq, not_true_eq_false, not_false_eq_true] at h21; omega)
                      | contradiction
                      | exact absurd h21 (Int32.not_lt.mpr (by assumption))
                      | exact absurd h21 (Int32.not_le.mpr (by assumption))
                      | exact absurd h21 (by decide)
                      | exact absurd (by decide) h21
                      | ( try simp (disch := omega) only [← nI_0, nI_leI, nI_ltI, nI_eq, not_true_eq_false, not_false_eq_true] at h21
                          refine z_iconst (a := nI 0) d_Mo_isSignByte_28 (by decide) ?_
                          refine z_retz d_Mo_isSignByte_29 (by first | exact zb0 | exact zb1 | assumption) ?_
                          exact ⟨Or.inr ⟨by unfold c_sg; simp_all, rfl⟩, rfl⟩)
                    · first
                      | (simp (disch := omega) only [← nI_0, nI_leI, nI_ltI, nI_eq, not_true_eq_false, not_false_eq_true] at h21; done)
                      | (simp (disch := omega) only [← nI_0, nI_leI, nI_ltI, nI_eq, not_true_eq_false, not_false_eq_true] at h21; omega)
                      | contradiction
                      | exact absurd h21 (Int32.not_lt.mpr (by assumption))
                      | exact absurd h21 (Int32.not_le.mpr (by assumption))
                      | exact absurd h21 (by decide)
                      | exact absurd (by decide) h21
                      | ( try simp (disch := omega) only [← nI_0, nI_leI, nI_ltI, nI_eq, not_true_eq_false, not_false_eq_true] at h21
                          exact pos (by unfold c_sg; simp_all)))))
def mcode (T : Nat → Int32) (s n : Nat) : Int64 := if n ≤ 8 then s_code T s n else -1
theorem l_as (a b c : Int64) : a + b - c = a + (b - c) := by rw [Int64.sub_eq_add_neg, Int64.add_assoc, ← Int64.sub_eq_add_neg]
theorem mcode_lo {s n : Nat} (h : n ≤ 8) : mcode T s n = s_code T s n := if_pos h
theorem mcode_hi {s n : Nat} (h : ¬ n ≤ 8) : mcode T s n = -1 := if_neg h
theorem t_Mo_advance {p : Nat} (M : modOk P S) (h9 : I 145 9 = nI L) (hL : L ≤ 900) (hT : ∀ k, k < 900 → I 149 k = T k) (hB : bytOk T) (hb : I 145 16 = nI p) (hp : p ≤ L) : zEv G y_Mo_advance prog_14_method_25_code 2 2 0 0 [.ref 145] (I, J, P, S) (fun w => ∃ I' J', w = (I', J', P, S) ∧ mF I I' ∧ mJ J J' ∧ moAt I' J' (s_tok T L K p)) := by
  have M' := M
  obtain ⟨M0, ⟨M4, M4s⟩, ⟨M5, M5s⟩, ⟨M6, M6s⟩, ⟨M7, M7s⟩, ⟨M20, M20s⟩, ⟨M21, M21s⟩, ⟨M22, M22s⟩, ⟨M26, M26s⟩, ⟨M27, M27s⟩, ⟨M28, M28s⟩, ⟨M30, M30s⟩, ⟨M34, M34s⟩, ⟨M36, M36s⟩, ⟨M37, M37s⟩⟩ := id M
  refine zEv_of (lv := [some (.ref 145), none]) (by decide) rfl (Nat.le_of_ble_eq_true rfl) ?_
  obtain ⟨s, he⟩ : ∃ s, s_run (fun i => c_ws (T i)) (L - p) p = s := ⟨_, rfl⟩
  have hse := s_run_ge (b := fun i => c_ws (T i)) (L - p) p
  rw [he] at hse
  have hst : s_tok T L K p = s_tok1 T L K s := by unfold s_tok; rw [he]
  have look : ∀ (Ix : Nat → Nat → Int32) (Jx : Nat → Nat → Int64) (j : Nat), mF I Ix → j ≤ 900 → zEi G y_Mo_look2 prog_14_method_21_code 2 (some .int) 1 [.ref 145, .int (nI j)] (Ix, Jx, P, S) (fun r w => r = (if j < L then T j &&& nI 255 else nI 0) ∧ w = (Ix, Jx, P, S)) := by 
    intro Ix Jx j hx hj
    exact t_Mo_look2 M' ((hx.2 9 (by omega)).trans h9) hL (fun k hk => by rw [hx.1 149 (by decide)]; exact hT k hk) hj
  have fin : zA G y_Mo_advance prog_14_method_25_code 2 none (zRm 2 0 0) (zM G 0 0 (fun r w' => r = none ∧ (fun w => ∃ I' J', w = (I', J', P, S) ∧ mF I I' ∧ mJ J J' ∧ moAt I' J' (s_tok T L K p)) w')) 58 [some (.ref 145), none] [] (zu I 145 15 (nI s), J, P, S) 0 0 := by
    have hF := mF_u (k := 16) (x := nI s) (mF_u (k := 15) (x := nI s) (mF_r (I := I)) (by decide)) (by decide)
    refine z_aload_0 d_Mo_advance_58 ?_
    refine z_aload_0 d_Mo_advance_59 ?_
    refine z_getIv d_Mo_advance_60 f_Mo_119 (by first | assumption | exact zS0_at (by assumption) (by omega) | exact zS0_at rfl (by omega)) (by first | assumption | ((try simp (disch := omega) only [zu_same, zu_ne, zcp_ne, zfl_ne]); first | assumption | rfl)) ?_
    refine z_putI d_Mo_advance_63 f_Mo_116 (by first | assumption | exact zS0_at (by assumption) (by omega) | exact zS0_at rfl (by omega)) ?_
    refine z_aload_0 d_Mo_advance_66 ?_
    refine z_getIv d_Mo_advance_67 f_Mo_119 (by first | assumption | exact zS0_at (by assumption) (by omega) | exact zS0_at rfl (by omega)) (by first | assumption | ((try simp (disch := omega) only [zu_same, zu_ne, zcp_ne, zfl_ne]); first | assumption | rfl)) ?_
    refine z_aload_0 d_Mo_advance_70 ?_
    refine z_getIv d_Mo_advance_71 f_Mo_113 (by first | assumption | exact zS0_at (by assumption) (by omega) | exact zS0_at rfl (by omega)) (by first | assumption | ((try simp (disch := omega) only [zu_same, zu_ne, zcp_ne, zfl_ne]); first | assumption | rfl)) ?_
    have g9 := (hF.2 9 (by omega)).trans h9
    have g15 : zu (zu I 145 15 (nI s)) 145 16 (nI s) 145 15 = nI s := by simp [zu]
    have g16 : zu (zu I 145 15 (nI s)) 145 16 (nI s) 145 16 = nI s := by simp [zu]
    generalize zu (zu I 145 15 (nI s)) 145 16 (nI s) = I0 at hF g9 g15 g16 ⊢
    refine z_icmp_lt (tgt := 83) d_Mo_advance_74 (by decide) (fun hc => ?_) (fun hc => ?_)
    · have hc := (nI_ltI (by omega) (by omega)).mp hc
      refine z_aload_0 d_Mo_advance_83 ?_
      refine z_aload_0 d_Mo_advance_84 ?_
      refine z_getIv d_Mo_advance_85 f_Mo_119 (by first | assumption | exact zS0_at (by assumption) (by omega) | exact zS0_at rfl (by omega)) (by first | assumption | ((try simp (disch := omega) only [zu_same, zu_ne, zcp_ne, zfl_ne]); first | assumption | rfl)) ?_
      refine z_Vi1 d_Mo_advance_88 k_Mo_122 (by first | assumption | exact zS0_at (by assumption) (by omega) | exact zS0_at rfl (by omega)) (look I0 J s hF (by omega)) ⟨Nat.le_of_ble_eq_true rfl, Nat.le_of_ble_eq_true rfl, Nat.le_of_ble_eq_true rfl, Nat.le_of_ble_eq_true rfl⟩ (Nat.le_of_ble_eq_true rfl) ?_
      rw [if_pos hc]
      intro r w hq
      obtain ⟨rfl, rfl⟩ := hq
      obtain ⟨n0, hn0, hn1⟩ := hB s
      first | refine z_istore_1 d_Mo_advance_91 rfl ?_ | (refine z_forget_0 ?_; refine z_istore_1 d_Mo_advance_91 rfl ?_)
      refine z_iload_1 d_Mo_advance_92 ?_
      refine z_Si1 d_Mo_advance_93 k_Mo_128 (t_Mo_isLetter) ⟨Nat.le_of_ble_eq_true rfl, Nat.le_of_ble_eq_true rfl, Nat.le_of_ble_eq_true rfl, Nat.le_of_ble_eq_true rfl⟩ (Nat.le_of_ble_eq_true rfl) ?_
      intro r w hq
      rcases hq with ⟨⟨hd, rfl⟩ | ⟨hd, rfl⟩, rfl⟩
      · rw [hn1, byt_le n0 hn0, ← hn1] at hd
        rw [hst, s_tok1, if_neg (by omega), if_pos hd]
        refine z_if_eq (tgt := 198) d_Mo_advance_96 (by decide) (fun h => absurd h (by decide)) (fun _ => ?_)
        refine z_aload_0 d_Mo_advance_99 ?_
        refine z_iconst (a := nI 1) d_Mo_advance_100 (by decide) ?_
        refine z_putI d_Mo_advance_101 f_Mo_125 (by first | assumption | exact zS0_at (by assumption) (by omega) | exact zS0_at rfl (by omega)) ?_
        refine z_aload_0 d_Mo_advance_104 ?_
        refine z_lconst (f := lN 0) d_Mo_advance_105 rfl ?_
        refine z_putJ d_Mo_advance_106 f_Mo_131 (by first | assumption | exact zS0_at (by assumption) (by omega) | exact zS0_at rfl (by omega)) ?_
        obtain ⟨e, he2⟩ : ∃ e, s_run (fun i => c_le (T i)) (L - s) s = e := ⟨_, rfl⟩
        have hse2 := s_run_ge (b := fun i => c_le (T i)) (L - s) s
        rw [he2] at hse2 ⊢
        have hF1 : mF I (zu I0 145 14 (nI 1)) := mF_u hF (by decide)
        have e15 : zu I0 145 14 (nI 1) 145 15 = nI s := by rw [zu_ne _ _ _ _ (by omega)]; exact g15
        have e16 : zu I0 145 14 (nI 1) 145 16 = nI s := by rw [zu_ne _ _ _ _ (by omega)]; exact g16
        have e14 : zu I0 145 14 (nI 1) 145 14 = nI 1 := zu_same _ _ _ _
        have hJ1 : mJ J (zu J 145 19 (lN 0)) := mJ_u mJ_r
        have j19 : zu J 145 19 (lN 0) 145 19 = lN 0 := zu_same _ _ _ _
        generalize zu I0 145 14 (nI 1) = I1 at hF1 e14 e15 e16 ⊢
        generalize zu J 145 19 (lN 0) = J1 at hJ1 j19 ⊢
        have loop : ∀ m j, L - j < m → j ≤ L → (s ≤ j) → (s_run (fun i => c_le (T i)) (L - j) j = e) → zA G y_Mo_advance prog_14_method_25_code 2 none (zRm 2 0 0) (zM G 0 0 (fun r w' => r = none ∧ (fun w => ∃ I' J', w = (I', J', P, S) ∧ mF I I' ∧ mJ J J' ∧ moAt I' J' ((if e - s ≤ 8 then ((1, s, e, s_code T s (e - s), s_kw K (s_code T s (e - s)) 21, nI 0, nI 0) : tk) else (1, s, e, lN 0, -1, nI 0, nI 0)))) w')) 109 [some (.ref 145), some (.int (T s &&& nI 255))] [] (zu I1 145 16 (nI j), zu J1 145 19 (mcode T s (j - s)), P, S) 0 0 := by
          intro m
          induction m with
          | zero => intro j h; omega
          | succ m ih =>
            intro j hm hj hsj hI
            have hF2 : mF I (zu I1 145 16 (nI j)) := mF_u hF1 (by decide)
            have stop : j = e → zA G y_Mo_advance prog_14_method_25_code 2 none (zRm 2 0 0) (zM G 0 0 (fun r w' => r = none ∧ (fun w => ∃ I' J', w = (I', J', P, S) ∧ mF I I' ∧ mJ J J' ∧ moAt I' J' ((if e - s ≤ 8 then ((1, s, e, s_code T s (e - s), s_kw K (s_code T s (e - s)) 21, nI 0, nI 0) : tk) else (1, s, e, lN 0, -1, nI 0, nI 0)))) w')) 182 [some (.ref 145), some (.int (T s &&& nI 255))] [] (zu I1 145 16 (nI j), zu J1 145 19 (mcode T s (j - s)), P, S) 0 0 := by
              intro hje
              subst hje
              have hA : moAt (zu (zu I1 145 16 (nI j)) 145 18 (nI (j - s))) (zu J1 145 19 (mcode T s (j - s))) (if j - s ≤ 8 then ((1, s, j, s_code T s (j - s), s_kw K (s_code T s (j - s)) 21, nI 0, nI 0) : tk) else (1, s, j, lN 0, -1, nI 0, nI 0)) := by
                by_cases h8 : j - s ≤ 8
                · rw [if_pos h8, mcode_lo h8]
                  refine ⟨?_, ?_, ?_, fun _ => ⟨zu_same _ _ _ _, (zu_same _ _ _ _).trans (if_pos h8).symm⟩, fun h => absurd h (show ¬ (1 : Nat) = 2 by decide), fun h => absurd h (show ¬ (1 : Nat) = 3 by decide)⟩ <;> simp [zu, e14, e15]
                · rw [if_neg h8, mcode_hi h8]
                  refine ⟨?_, ?_, ?_, fun _ => ⟨zu_same _ _ _ _, (zu_same _ _ _ _).trans (if_neg h8).symm⟩, fun h => absurd h (show ¬ (1 : Nat) = 2 by decide), fun h => absurd h (show ¬ (1 : Nat) = 3 by decide)⟩ <;> simp [zu, e14, e15]
              refine z_aload_0 d_Mo_advance_182 ?_
              refine z_aload_0 d_Mo_advance_183 ?_
              refine z_getIv d_Mo_advance_184 f_Mo_116 (by first | assumption | exact zS0_at (by assumption) (by omega) | exact zS0_at rfl (by omega)) (by first | assumption | ((try simp (disch := omega) only [zu_same, zu_ne, zcp_ne, zfl_ne]); first | assumption | rfl)) ?_
              refine z_aload_0 d_Mo_advance_187 ?_
              refine z_getIv d_Mo_advance_188 f_Mo_119 (by first | assumption | exact zS0_at (by assumption) (by omega) | exact zS0_at rfl (by omega)) (by first | assumption | ((try simp (disch := omega) only [zu_same, zu_ne, zcp_ne, zfl_ne]); first | assumption | rfl)) ?_
              first | refine z_isubN d_Mo_advance_191 (by omega) ?_ | refine z_isub d_Mo_advance_191 ?_
              refine z_putI d_Mo_advance_192 f_Mo_138 (by first | assumption | exact zS0_at (by assumption) (by omega) | exact zS0_at rfl (by omega)) ?_
              refine z_goto (tgt := 330) d_Mo_advance_195 (by decide) ?_
              refine z_retv d_Mo_advance_330 ?_
              exact ⟨_, _, rfl, mF_u hF2 (by decide), mJ_u hJ1, hA⟩
            refine z_aload_0 d_Mo_advance_109 ?_
            refine z_aload_0 d_Mo_advance_110 ?_
            refine z_getIv d_Mo_advance_111 f_Mo_116 (by first | assumption | exact zS0_at (by assumption) (by omega) | exact zS0_at rfl (by omega)) (by first | assumption | ((try simp (disch := omega) only [zu_same, zu_ne, zcp_ne, zfl_ne]); first | assumption | rfl)) ?_
            refine z_Vi1 d_Mo_advance_114 k_Mo_122 (by first | assumption | exact zS0_at (by assumption) (by omega) | exact zS0_at rfl (by omega)) (look _ _ j hF2 (by omega)) ⟨Nat.le_of_ble_eq_true rfl, Nat.le_of_ble_eq_true rfl, Nat.le_of_ble_eq_true rfl, Nat.le_of_ble_eq_true rfl⟩ (Nat.le_of_ble_eq_true rfl) ?_
            intro r w hq
            obtain ⟨rfl, rfl⟩ := hq
            refine z_Si1 d_Mo_advance_117 k_Mo_128 (t_Mo_isLetter) ⟨Nat.le_of_ble_eq_true rfl, Nat.le_of_ble_eq_true rfl, Nat.le_of_ble_eq_true rfl, Nat.le_of_ble_eq_true rfl⟩ (Nat.le_of_ble_eq_true rfl) ?_
            intro r w hq
            rcases hq with ⟨⟨hl, rfl⟩ | ⟨hl, rfl⟩, rfl⟩
            · have hjL : j < L := by
                rcases Nat.lt_or_ge j L with h | h
                · exact h
                · rw [if_neg (by omega)] at hl; exact absurd hl (by decide)
              rw [if_pos hjL] at hl
              obtain ⟨m0, hm0, hm1⟩ := hB j
              rw [hm1, byt_le m0 hm0] at hl
              obtain ⟨q1, q2, -⟩ := byt_le2 m0 hm0 hl
              rw [s_run_go hjL (by rw [hm1]; exact hl)] at hI
              have q0 := ih (j + 1) (by omega) (by omega) (by omega) hI
              refine z_if_eq (tgt := 182) d_Mo_advance_120 (by decide) (fun h => absurd h (by decide)) (fun _ => ?_)
              refine z_aload_0 d_Mo_advance_123 ?_
              refine z_aload_0 d_Mo_advance_124 ?_
              refine z_getIv d_Mo_advance_125 f_Mo_116 (by first | assumption | exact zS0_at (by assumption) (by omega) | exact zS0_at rfl (by omega)) (by first | assumption | ((try simp (disch := omega) only [zu_same, zu_ne, zcp_ne, zfl_ne]); first | assumption | rfl)) ?_
              refine z_aload_0 d_Mo_advance_128 ?_
              refine z_getIv d_Mo_advance_129 f_Mo_119 (by first | assumption | exact zS0_at (by assumption) (by omega) | exact zS0_at rfl (by omega)) (by first | assumption | ((try simp (disch := omega) only [zu_same, zu_ne, zcp_ne, zfl_ne]); first | assumption | rfl)) ?_
              first | refine z_isubN d_Mo_advance_132 (by omega) ?_ | refine z_isub d_Mo_advance_132 ?_
              refine z_bipush (a := nI 8) d_Mo_advance_133 (by decide) ?_
              refine z_icmp_ge (tgt := 163) d_Mo_advance_135 (by decide) (fun hf => ?_) (fun hf => ?_)
              · have hf := (nI_leI (by omega) (by omega)).mp hf
                rw [mcode_hi (by omega)] at q0
                refine z_ldc2 d_Mo_advance_163 c_Mo_101 ?_
                refine z_putJ d_Mo_advance_166 f_Mo_131 (by first | assumption | exact zS0_at (by assumption) (by omega) | exact zS0_at rfl (by omega)) ?_
                refine z_aload_0 d_Mo_advance_169 ?_
                refine z_dup rfl d_Mo_advance_170 ?_
                refine z_getIv d_Mo_advance_171 f_Mo_116 (by first | assumption | exact zS0_at (by assumption) (by omega) | exact zS0_at rfl (by omega)) (by first | assumption | ((try simp (disch := omega) only [zu_same, zu_ne, zcp_ne, zfl_ne]); first | assumption | rfl)) ?_
                refine z_iconst (a := nI 1) d_Mo_advance_174 (by decide) ?_
                first | refine z_iaddN d_Mo_advance_175 ?_ | refine z_iadd d_Mo_advance_175 ?_
                refine z_putI d_Mo_advance_176 f_Mo_116 (by first | assumption | exact zS0_at (by assumption) (by omega) | exact zS0_at rfl (by omega)) ?_
                refine z_goto (tgt := 109) d_Mo_advance_179 (by decide) ?_
                rw [zu_zu, zu_zu]
                exact q0
              · have hf : j - s < 8 := Nat.lt_of_not_le (fun q => hf (nI_le q (by omega)))
                rw [mcode_lo (by omega), show j + 1 - s = (j - s) + 1 by omega, s_code, show s + (j - s) = j by omega, hm1, q2] at q0
                refine z_aload_0 d_Mo_advance_138 ?_
                refine z_getJv d_Mo_advance_139 f_Mo_131 (by first | assumption | exact zS0_at (by assumption) (by omega) | exact zS0_at rfl (by omega)) (by first | assumption | ((try simp (disch := omega) only [zu_same, zu_ne, zcp_ne, zfl_ne]); first | assumption | rfl)) ?_
                refine z_ldc2 d_Mo_advance_142 c_Mo_134 ?_
                refine z_lmul d_Mo_advance_145 ?_
                refine z_aload_0 d_Mo_advance_146 ?_
                refine z_aload_0 d_Mo_advance_147 ?_
                refine z_getIv d_Mo_advance_148 f_Mo_116 (by first | assumption | exact zS0_at (by assumption) (by omega) | exact zS0_at rfl (by omega)) (by first | assumption | ((try simp (disch := omega) only [zu_same, zu_ne, zcp_ne, zfl_ne]); first | assumption | rfl)) ?_
                refine z_Vi1 d_Mo_advance_151 k_Mo_122 (by first | assumption | exact zS0_at (by assumption) (by omega) | exact zS0_at rfl (by omega)) (look _ _ j hF2 (by omega)) ⟨Nat.le_of_ble_eq_true rfl, Nat.le_of_ble_eq_true rfl, Nat.le_of_ble_eq_true rfl, Nat.le_of_ble_eq_true rfl⟩ (Nat.le_of_ble_eq_true rfl) ?_
                intro r w hq
                obtain ⟨rfl, rfl⟩ := hq
                rw [if_pos hjL, hm1, q1, mcode_lo (show j - s ≤ 8 by omega)]
                refine z_i2l d_Mo_advance_154 ?_
                refine z_ladd d_Mo_advance_155 ?_
                refine z_ldc2 d_Mo_advance_156 c_Mo_136 ?_
                refine z_lsub d_Mo_advance_159 ?_
                refine z_goto (tgt := 166) d_Mo_advance_160 (by decide) ?_
                refine z_putJ d_Mo_advance_166 f_Mo_131 (by first | assumption | exact zS0_at (by assumption) (by omega) | exact zS0_at rfl (by omega)) ?_
                refine z_aload_0 d_Mo_advance_169 ?_
                refine z_dup rfl d_Mo_advance_170 ?_
                refine z_getIv d_Mo_advance_171 f_Mo_116 (by first | assumption | exact zS0_at (by assumption) (by omega) | exact zS0_at rfl (by omega)) (by first | assumption | ((try simp (disch := omega) only [zu_same, zu_ne, zcp_ne, zfl_ne]); first | assumption | rfl)) ?_
                refine z_iconst (a := nI 1) d_Mo_advance_174 (by decide) ?_
                first | refine z_iaddN d_Mo_advance_175 ?_ | refine z_iadd d_Mo_advance_175 ?_
                refine z_putI d_Mo_advance_176 f_Mo_116 (by first | assumption | exact zS0_at (by assumption) (by omega) | exact zS0_at rfl (by omega)) ?_
                refine z_goto (tgt := 109) d_Mo_advance_179 (by decide) ?_
                rw [zu_zu, zu_zu, l_as]
                exact q0
            · refine z_if_eq (tgt := 182) d_Mo_advance_120 (by decide) (fun _ => ?_) (fun h => absurd (by decide) h)
              refine stop ?_
              rcases Nat.lt_or_ge j L with h | h
              · rw [if_pos h] at hl
                obtain ⟨m0, hm0, hm1⟩ := hB j
                rw [hm1, byt_le m0 hm0, ← hm1] at hl
                rw [s_run_stop (by simpa using hl)] at hI
                exact hI
              · rw [s_run_end h] at hI
                exact hI
        have q0 := loop (L + 1) s (by omega) (by omega) (by omega) he2
        rw [Nat.sub_self, zu_id (f := I1) e16, zu_id (f := J1) (by rw [j19]; rfl)] at q0
        exact q0
      · rw [hn1, byt_le n0 hn0, ← hn1] at hd
        refine z_if_eq (tgt := 198) d_Mo_advance_96 (by decide) (fun _ => ?_) (fun h => absurd (by decide) h)
        refine z_iload_1 d_Mo_advance_198 ?_
        refine z_Si1 d_Mo_advance_199 k_Mo_141 (t_Mo_isDigit) ⟨Nat.le_of_ble_eq_true rfl, Nat.le_of_ble_eq_true rfl, Nat.le_of_ble_eq_true rfl, Nat.le_of_ble_eq_true rfl⟩ (Nat.le_of_ble_eq_true rfl) ?_
        intro r w hq
        rcases hq with ⟨⟨hg, rfl⟩ | ⟨hg, rfl⟩, rfl⟩
        · rw [hn1, byt_di n0 hn0, ← hn1] at hg
          rw [hst, s_tok1, if_neg (by omega), if_neg hd, if_pos hg]
          refine z_if_eq (tgt := 298) d_Mo_advance_202 (by decide) (fun h => absurd h (by decide)) (fun _ => ?_)
          refine z_aload_0 d_Mo_advance_205 ?_
          refine z_iconst (a := nI 0) d_Mo_advance_206 (by decide) ?_
          refine z_putI d_Mo_advance_207 f_Mo_144 (by first | assumption | exact zS0_at (by assumption) (by omega) | exact zS0_at rfl (by omega)) ?_
          obtain ⟨e, he2⟩ : ∃ e, s_run (fun i => c_di (T i)) (L - s) s = e := ⟨_, rfl⟩
          have hse2 := s_run_ge (b := fun i => c_di (T i)) (L - s) s
          rw [he2] at hse2 ⊢
          have hF1 : mF I (zu I0 145 17 (nI 0)) := mF_u hF (by decide)
          have e15 : zu I0 145 17 (nI 0) 145 15 = nI s := by rw [zu_ne _ _ _ _ (by omega)]; exact g15
          have e16 : zu I0 145 17 (nI 0) 145 16 = nI s := by rw [zu_ne _ _ _ _ (by omega)]; exact g16
          have e17 : zu I0 145 17 (nI 0) 145 17 = nI 0 := zu_same _ _ _ _
          generalize zu I0 145 17 (nI 0) = I1 at hF1 e15 e16 e17 ⊢
          have loop : ∀ m j, L - j < m → j ≤ L → (s ≤ j) → (s_run (fun i => c_di (T i)) (L - j) j = e) → zA G y_Mo_advance prog_14_method_25_code 2 none (zRm 2 0 0) (zM G 0 0 (fun r w' => r = none ∧ (fun w => ∃ I' J', w = (I', J', P, S) ∧ mF I I' ∧ mJ J J' ∧ moAt I' J' (((if e - s ≤ 4 then 2 else 4, s, e, lN 0, -1, s_num T s (min (e - s) 4), nI 0) : tk))) w')) 210 [some (.ref 145), some (.int (T s &&& nI 255))] [] (zu (zu I1 145 17 (s_num T s (min (j - s) 4))) 145 16 (nI j), J, P, S) 0 0 := by
            intro m
            induction m with
            | zero => intro j h; omega
            | succ m ih =>
              intro j hm hj hsj hI
              have hF2 : mF I (zu (zu I1 145 17 (s_num T s (min (j - s) 4))) 145 16 (nI j)) := mF_u (mF_u hF1 (by decide)) (by decide)
              have stop : j = e → zA G y_Mo_advance prog_14_method_25_code 2 none (zRm 2 0 0) (zM G 0 0 (fun r w' => r = none ∧ (fun w => ∃ I' J', w = (I', J', P, S) ∧ mF I I' ∧ mJ J J' ∧ moAt I' J' (((if e - s ≤ 4 then 2 else 4, s, e, lN 0, -1, s_num T s (min (e - s) 4), nI 0) : tk))) w')) 273 [some (.ref 145), some (.int (T s &&& nI 255))] [] (zu (zu I1 145 17 (s_num T s (min (j - s) 4))) 145 16 (nI j), J, P, S) 0 0 := by
                intro hje
                subst hje
                refine z_aload_0 d_Mo_advance_273 ?_
                refine z_aload_0 d_Mo_advance_274 ?_
                refine z_getIv d_Mo_advance_275 f_Mo_116 (by first | assumption | exact zS0_at (by assumption) (by omega) | exact zS0_at rfl (by omega)) (by first | assumption | ((try simp (disch := omega) only [zu_same, zu_ne, zcp_ne, zfl_ne]); first | assumption | rfl)) ?_
                refine z_aload_0 d_Mo_advance_278 ?_
                refine z_getIv d_Mo_advance_279 f_Mo_119 (by first | assumption | exact zS0_at (by assumption) (by omega) | exact zS0_at rfl (by omega)) (by first | assumption | ((try simp (disch := omega) only [zu_same, zu_ne, zcp_ne, zfl_ne]); first | assumption | rfl)) ?_
                first | refine z_isubN d_Mo_advance_282 (by omega) ?_ | refine z_isub d_Mo_advance_282 ?_
                refine z_iconst (a := nI 4) d_Mo_advance_283 (by decide) ?_
                refine z_icmp_le (tgt := 291) d_Mo_advance_284 (by decide) (fun hk => ?_) (fun hk => ?_)
                · have hk := (nI_leI (by omega) (by omega)).mp hk
                  refine z_iconst (a := nI 2) d_Mo_advance_291 (by decide) ?_
                  refine z_putI d_Mo_advance_292 f_Mo_125 (by first | assumption | exact zS0_at (by assumption) (by omega) | exact zS0_at rfl (by omega)) ?_
                  refine z_goto (tgt := 330) d_Mo_advance_295 (by decide) ?_
                  refine z_retv d_Mo_advance_330 ?_
                  exact ⟨_, _, rfl, mF_u hF2 (by decide), mJ_r, by rw [if_pos hk]; refine ⟨?_, ?_, ?_, fun h => absurd h (show ¬ (2 : Nat) = 1 by decide), fun _ => ?_, fun h => absurd h (show ¬ (2 : Nat) = 3 by decide)⟩ <;> simp_all [zu]⟩
                · have hk : ¬ j - s ≤ 4 := fun h => hk (nI_le h (by omega))
                  refine z_iconst (a := nI 4) d_Mo_advance_287 (by decide) ?_
                  refine z_goto (tgt := 292) d_Mo_advance_288 (by decide) ?_
                  refine z_putI d_Mo_advance_292 f_Mo_125 (by first | assumption | exact zS0_at (by assumption) (by omega) | exact zS0_at rfl (by omega)) ?_
                  refine z_goto (tgt := 330) d_Mo_advance_295 (by decide) ?_
                  refine z_retv d_Mo_advance_330 ?_
                  exact ⟨_, _, rfl, mF_u hF2 (by decide), mJ_r, by rw [if_neg hk]; refine ⟨?_, ?_, ?_, fun h => absurd h (show ¬ (4 : Nat) = 1 by decide), fun h => absurd h (show ¬ (4 : Nat) = 2 by decide), fun h => absurd h (show ¬ (4 : Nat) = 3 by decide)⟩ <;> simp_all [zu]⟩
              refine z_aload_0 d_Mo_advance_210 ?_
              refine z_aload_0 d_Mo_advance_211 ?_
              refine z_getIv d_Mo_advance_212 f_Mo_116 (by first | assumption | exact zS0_at (by assumption) (by omega) | exact zS0_at rfl (by omega)) (by first | assumption | ((try simp (disch := omega) only [zu_same, zu_ne, zcp_ne, zfl_ne]); first | assumption | rfl)) ?_
              refine z_Vi1 d_Mo_advance_215 k_Mo_122 (by first | assumption | exact zS0_at (by assumption) (by omega) | exact zS0_at rfl (by omega)) (look _ _ j hF2 (by omega)) ⟨Nat.le_of_ble_eq_true rfl, Nat.le_of_ble_eq_true rfl, Nat.le_of_ble_eq_true rfl, Nat.le_of_ble_eq_true rfl⟩ (Nat.le_of_ble_eq_true rfl) ?_
              intro r w hq
              obtain ⟨rfl, rfl⟩ := hq
              refine z_Si1 d_Mo_advance_218 k_Mo_141 (t_Mo_isDigit) ⟨Nat.le_of_ble_eq_true rfl, Nat.le_of_ble_eq_true rfl, Nat.le_of_ble_eq_true rfl, Nat.le_of_ble_eq_true rfl⟩ (Nat.le_of_ble_eq_true rfl) ?_
              intro r w hq
              rcases hq with ⟨⟨hl, rfl⟩ | ⟨hl, rfl⟩, rfl⟩
              · have hjL : j < L := by
                  rcases Nat.lt_or_ge j L with h | h
                  · exact h
                  · rw [if_neg (by omega)] at hl; exact absurd hl (by decide)
                rw [if_pos hjL] at hl
                obtain ⟨m0, hm0, hm1⟩ := hB j
                rw [hm1, byt_di m0 hm0] at hl
                have q1 := byt_di2 m0 hm0 hl
                rw [s_run_go hjL (by rw [hm1]; exact hl)] at hI
                have q0 := ih (j + 1) (by omega) (by omega) (by omega) hI
                refine z_if_eq (tgt := 273) d_Mo_advance_221 (by decide) (fun h => absurd h (by decide)) (fun _ => ?_)
                refine z_aload_0 d_Mo_advance_224 ?_
                refine z_getIv d_Mo_advance_225 f_Mo_116 (by first | assumption | exact zS0_at (by assumption) (by omega) | exact zS0_at rfl (by omega)) (by first | assumption | ((try simp (disch := omega) only [zu_same, zu_ne, zcp_ne, zfl_ne]); first | assumption | rfl)) ?_
                refine z_aload_0 d_Mo_advance_228 ?_
                refine z_getIv d_Mo_advance_229 f_Mo_119 (by first | assumption | exact zS0_at (by assumption) (by omega) | exact zS0_at rfl (by omega)) (by first | assumption | ((try simp (disch := omega) only [zu_same, zu_ne, zcp_ne, zfl_ne]); first | assumption | rfl)) ?_
                first | refine z_isubN d_Mo_advance_232 (by omega) ?_ | refine z_isub d_Mo_advance_232 ?_
                refine z_iconst (a := nI 4) d_Mo_advance_233 (by decide) ?_
                refine z_icmp_ge (tgt := 260) d_Mo_advance_234 (by decide) (fun hf => ?_) (fun hf => ?_)
                · have hf := (nI_leI (by omega) (by omega)).mp hf
                  rw [show min (j + 1 - s) 4 = 4 by omega] at q0
                  rw [show min (j - s) 4 = 4 by omega]
                  refine z_aload_0 d_Mo_advance_260 ?_
                  refine z_dup rfl d_Mo_advance_261 ?_
                  refine z_getIv d_Mo_advance_262 f_Mo_116 (by first | assumption | exact zS0_at (by assumption) (by omega) | exact zS0_at rfl (by omega)) (by first | assumption | ((try simp (disch := omega) only [zu_same, zu_ne, zcp_ne, zfl_ne]); first | assumption | rfl)) ?_
                  refine z_iconst (a := nI 1) d_Mo_advance_265 (by decide) ?_
                  first | refine z_iaddN d_Mo_advance_266 ?_ | refine z_iadd d_Mo_advance_266 ?_
                  refine z_putI d_Mo_advance_267 f_Mo_116 (by first | assumption | exact zS0_at (by assumption) (by omega) | exact zS0_at rfl (by omega)) ?_
                  refine z_goto (tgt := 210) d_Mo_advance_270 (by decide) ?_
                  rw [zu_zu]
                  exact q0
                · have hf : j - s < 4 := Nat.lt_of_not_le (fun q => hf (nI_le q (by omega)))
                  rw [show min (j + 1 - s) 4 = (j - s) + 1 by omega, s_num, show s + (j - s) = j by omega] at q0
                  rw [show min (j - s) 4 = j - s by omega] at hF2 ⊢
                  refine z_aload_0 d_Mo_advance_237 ?_
                  refine z_bipush (a := nI 10) d_Mo_advance_238 (by decide) ?_
                  refine z_aload_0 d_Mo_advance_240 ?_
                  refine z_getIv d_Mo_advance_241 f_Mo_144 (by first | assumption | exact zS0_at (by assumption) (by omega) | exact zS0_at rfl (by omega)) (by first | assumption | ((try simp (disch := omega) only [zu_same, zu_ne, zcp_ne, zfl_ne]); first | assumption | rfl)) ?_
                  refine z_imul d_Mo_advance_244 ?_
                  refine z_aload_0 d_Mo_advance_245 ?_
                  refine z_aload_0 d_Mo_advance_246 ?_
                  refine z_getIv d_Mo_advance_247 f_Mo_116 (by first | assumption | exact zS0_at (by assumption) (by omega) | exact zS0_at rfl (by omega)) (by first | assumption | ((try simp (disch := omega) only [zu_same, zu_ne, zcp_ne, zfl_ne]); first | assumption | rfl)) ?_
                  refine z_Vi1 d_Mo_advance_250 k_Mo_122 (by first | assumption | exact zS0_at (by assumption) (by omega) | exact zS0_at rfl (by omega)) (look _ _ j hF2 (by omega)) ⟨Nat.le_of_ble_eq_true rfl, Nat.le_of_ble_eq_true rfl, Nat.le_of_ble_eq_true rfl, Nat.le_of_ble_eq_true rfl⟩ (Nat.le_of_ble_eq_true rfl) ?_
                  intro r w hq
                  obtain ⟨rfl, rfl⟩ := hq
                  rw [if_pos hjL, hm1, q1, ← hm1]
                  refine z_iadd d_Mo_advance_253 ?_
                  refine z_bipush (a := nI 48) d_Mo_advance_254 (by decide) ?_
                  refine z_isub d_Mo_advance_256 ?_
                  refine z_putI d_Mo_advance_257 f_Mo_144 (by first | assumption | exact zS0_at (by assumption) (by omega) | exact zS0_at rfl (by omega)) ?_
                  refine z_aload_0 d_Mo_advance_260 ?_
                  refine z_dup rfl d_Mo_advance_261 ?_
                  refine z_getIv d_Mo_advance_262 f_Mo_116 (by first | assumption | exact zS0_at (by assumption) (by omega) | exact zS0_at rfl (by omega)) (by first | assumption | ((try simp (disch := omega) only [zu_same, zu_ne, zcp_ne, zfl_ne]); first | assumption | rfl)) ?_
                  refine z_iconst (a := nI 1) d_Mo_advance_265 (by decide) ?_
                  first | refine z_iaddN d_Mo_advance_266 ?_ | refine z_iadd d_Mo_advance_266 ?_
                  refine z_putI d_Mo_advance_267 f_Mo_116 (by first | assumption | exact zS0_at (by assumption) (by omega) | exact zS0_at rfl (by omega)) ?_
                  refine z_goto (tgt := 210) d_Mo_advance_270 (by decide) ?_
                  rw [zu_4 _ _ _ _ _ _ (by decide), Int32.mul_comm]
                  exact q0
              · refine z_if_eq (tgt := 273) d_Mo_advance_221 (by decide) (fun _ => ?_) (fun h => absurd (by decide) h)
                refine stop ?_
                rcases Nat.lt_or_ge j L with h | h
                · rw [if_pos h] at hl
                  obtain ⟨m0, hm0, hm1⟩ := hB j
                  rw [hm1, byt_di m0 hm0, ← hm1] at hl
                  rw [s_run_stop (by simpa using hl)] at hI
                  exact hI
                · rw [s_run_end h] at hI
                  exact hI
          have q0 := loop (L + 1) s (by omega) (by omega) (by omega) he2
          rw [Nat.sub_self, show min 0 4 = 0 from rfl, s_num, zu_id (f := I1) e17, zu_id (f := I1) e16] at q0
          exact q0
        · rw [hn1, byt_di n0 hn0, ← hn1] at hg
          rw [hst, s_tok1, if_neg (by omega), if_neg hd, if_neg hg]
          refine z_if_eq (tgt := 298) d_Mo_advance_202 (by decide) (fun _ => ?_) (fun h => absurd (by decide) h)
          refine z_aload_0 d_Mo_advance_298 ?_
          refine z_aload_0 d_Mo_advance_299 ?_
          refine z_getIv d_Mo_advance_300 f_Mo_119 (by first | assumption | exact zS0_at (by assumption) (by omega) | exact zS0_at rfl (by omega)) (by first | assumption | ((try simp (disch := omega) only [zu_same, zu_ne, zcp_ne, zfl_ne]); first | assumption | rfl)) ?_
          refine z_iconst (a := nI 1) d_Mo_advance_303 (by decide) ?_
          first | refine z_iaddN d_Mo_advance_304 ?_ | refine z_iadd d_Mo_advance_304 ?_
          refine z_putI d_Mo_advance_305 f_Mo_116 (by first | assumption | exact zS0_at (by assumption) (by omega) | exact zS0_at rfl (by omega)) ?_
          refine z_aload_0 d_Mo_advance_308 ?_
          refine z_iload_1 d_Mo_advance_309 ?_
          refine z_putI d_Mo_advance_310 f_Mo_144 (by first | assumption | exact zS0_at (by assumption) (by omega) | exact zS0_at rfl (by omega)) ?_
          refine z_aload_0 d_Mo_advance_313 ?_
          refine z_aload_0 d_Mo_advance_314 ?_
          refine z_iload_1 d_Mo_advance_315 ?_
          refine z_Vi1 d_Mo_advance_316 k_Mo_147 (by first | assumption | exact zS0_at (by assumption) (by omega) | exact zS0_at rfl (by omega)) (t_Mo_isSignByte M') ⟨Nat.le_of_ble_eq_true rfl, Nat.le_of_ble_eq_true rfl, Nat.le_of_ble_eq_true rfl, Nat.le_of_ble_eq_true rfl⟩ (Nat.le_of_ble_eq_true rfl) ?_
          intro r w hq
          rcases hq with ⟨⟨hs, rfl⟩ | ⟨hs, rfl⟩, rfl⟩
          · rw [hn1, byt_sg n0 hn0] at hs
            have q1 := byt_sg2 n0 hn0 hs
            rw [hn1, q1, if_pos hs, if_pos hs]
            refine z_if_eq (tgt := 326) d_Mo_advance_319 (by decide) (fun h => absurd h (by decide)) (fun _ => ?_)
            refine z_iconst (a := nI 3) d_Mo_advance_322 (by decide) ?_
            refine z_goto (tgt := 327) d_Mo_advance_323 (by decide) ?_
            refine z_putI d_Mo_advance_327 f_Mo_125 (by first | assumption | exact zS0_at (by assumption) (by omega) | exact zS0_at rfl (by omega)) ?_
            refine z_retv d_Mo_advance_330 ?_
            exact ⟨_, _, rfl, mF_u (mF_u (mF_u hF (by decide)) (by decide)) (by decide), mJ_r, by refine ⟨?_, ?_, ?_, fun h => absurd h (show ¬ (3 : Nat) = 1 by decide), fun h => absurd h (show ¬ (3 : Nat) = 2 by decide), fun _ => ?_⟩ <;> simp [zu, g15]⟩
          · rw [hn1, byt_sg n0 hn0] at hs
            rw [hn1, if_neg hs, if_neg hs]
            refine z_if_eq (tgt := 326) d_Mo_advance_319 (by decide) (fun _ => ?_) (fun h => absurd (by decide) h)
            refine z_iconst (a := nI 4) d_Mo_advance_326 (by decide) ?_
            refine z_putI d_Mo_advance_327 f_Mo_125 (by first | assumption | exact zS0_at (by assumption) (by omega) | exact zS0_at rfl (by omega)) ?_
            refine z_retv d_Mo_advance_330 ?_
            exact ⟨_, _, rfl, mF_u (mF_u (mF_u hF (by decide)) (by decide)) (by decide), mJ_r, by refine ⟨?_, ?_, ?_, fun h => absurd h (show ¬ (4 : Nat) = 1 by decide), fun h => absurd h (show ¬ (4 : Nat) = 2 by decide), fun h => absurd h (show ¬ (4 : Nat) = 3 by decide)⟩ <;> simp [zu, g15]⟩
    · have hc : L ≤ s := Nat.le_of_not_lt (fun q => hc (nI_lt q (by omega)))
      rw [hst, s_tok1, if_pos hc]
      refine z_aload_0 d_Mo_advance_77 ?_
      refine z_iconst (a := nI 0) d_Mo_advance_78 (by decide) ?_
      refine z_putI d_Mo_advance_79 f_Mo_125 (by first | assumption | exact zS0_at (by assumption) (by omega) | exact zS0_at rfl (by omega)) ?_
      refine z_retv d_Mo_advance_82 ?_
      exact ⟨_, _, rfl, mF_u hF (by decide), mJ_r, by refine ⟨?_, ?_, ?_, fun h => absurd h (show ¬ (0 : Nat) = 1 by decide), fun h => absurd h (show ¬ (0 : Nat) = 2 by decide), fun h => absurd h (show ¬ (0 : Nat) = 3 by decide)⟩ <;> simp [zu, g15, g16]⟩
  have loop : ∀ m j, L - j < m → j ≤ L → (p ≤ j) → (s_run (fun i => c_ws (T i)) (L - j) j = s) → zA G y_Mo_advance prog_14_method_25_code 2 none (zRm 2 0 0) (zM G 0 0 (fun r w' => r = none ∧ (fun w => ∃ I' J', w = (I', J', P, S) ∧ mF I I' ∧ mJ J J' ∧ moAt I' J' (s_tok T L K p)) w')) 8 [some (.ref 145), none] [] (zu I 145 15 (nI j), J, P, S) 0 0 := by
    intro m
    induction m with
    | zero => intro j h; omega
    | succ m ih =>
      intro j hm hj hsj hI
      have hF2 : mF I (zu I 145 15 (nI j)) := mF_u mF_r (by decide)
      refine z_aload_0 d_Mo_advance_8 ?_
      refine z_getIv d_Mo_advance_9 f_Mo_119 (by first | assumption | exact zS0_at (by assumption) (by omega) | exact zS0_at rfl (by omega)) (by first | assumption | ((try simp (disch := omega) only [zu_same, zu_ne, zcp_ne, zfl_ne]); first | assumption | rfl)) ?_
      refine z_aload_0 d_Mo_advance_12 ?_
      refine z_getIv d_Mo_advance_13 f_Mo_113 (by first | assumption | exact zS0_at (by assumption) (by omega) | exact zS0_at rfl (by omega)) (by first | assumption | ((try simp (disch := omega) only [zu_same, zu_ne, zcp_ne, zfl_ne]); first | assumption | rfl)) ?_
      refine z_icmp_ge (tgt := 58) d_Mo_advance_16 (by decide) (fun hb => ?_) (fun hb => ?_)
      · have hb := (nI_leI (by omega) (by omega)).mp hb
        rw [s_run_end hb] at hI
        obtain rfl := hI
        exact fin
      · have hb : j < L := Nat.lt_of_not_le (fun q => hb (nI_le q (by omega)))
        obtain ⟨m0, hm0, hm1⟩ := hB j
        have hw := byt_ws m0 hm0
        rw [← hm1] at hw
        have go : c_ws (T j) = true → zA G y_Mo_advance prog_14_method_25_code 2 none (zRm 2 0 0) (zM G 0 0 (fun r w' => r = none ∧ (fun w => ∃ I' J', w = (I', J', P, S) ∧ mF I I' ∧ mJ J J' ∧ moAt I' J' (s_tok T L K p)) w')) 45 [some (.ref 145), none] [] (zu I 145 15 (nI j), J, P, S) 0 0 := by
          intro hc
          rw [s_run_go hb hc] at hI
          have q0 := ih (j + 1) (by omega) (by omega) (by omega) hI
          refine z_aload_0 d_Mo_advance_45 ?_
          refine z_dup rfl d_Mo_advance_46 ?_
          refine z_getIv d_Mo_advance_47 f_Mo_119 (by first | assumption | exact zS0_at (by assumption) (by omega) | exact zS0_at rfl (by omega)) (by first | assumption | ((try simp (disch := omega) only [zu_same, zu_ne, zcp_ne, zfl_ne]); first | assumption | rfl)) ?_
          refine z_iconst (a := nI 1) d_Mo_advance_50 (by decide) ?_
          first | refine z_iaddN d_Mo_advance_51 ?_ | refine z_iadd d_Mo_advance_51 ?_
          refine z_putI d_Mo_advance_52 f_Mo_119 (by first | assumption | exact zS0_at (by assumption) (by omega) | exact zS0_at rfl (by omega)) ?_
          refine z_goto (tgt := 8) d_Mo_advance_55 (by decide) ?_
          rw [zu_zu]
          exact q0
        refine z_aload_0 d_Mo_advance_19 ?_
        refine z_aload_0 d_Mo_advance_20 ?_
        refine z_getIv d_Mo_advance_21 f_Mo_119 (by first | assumption | exact zS0_at (by assumption) (by omega) | exact zS0_at rfl (by omega)) (by first | assumption | ((try simp (disch := omega) only [zu_same, zu_ne, zcp_ne, zfl_ne]); first | assumption | rfl)) ?_
        refine z_Vi1 d_Mo_advance_24 k_Mo_122 (by first | assumption | exact zS0_at (by assumption) (by omega) | exact zS0_at rfl (by omega)) (look _ _ j hF2 (by omega)) ⟨Nat.le_of_ble_eq_true rfl, Nat.le_of_ble_eq_true rfl, Nat.le_of_ble_eq_true rfl, Nat.le_of_ble_eq_true rfl⟩ (Nat.le_of_ble_eq_true rfl) ?_
        rw [if_pos hb]
        intro r w hq
        obtain ⟨rfl, rfl⟩ := hq
        refine z_bipush (a := nI 10) d_Mo_advance_27 (by decide) ?_
        refine z_icmp_eq (tgt := 45) d_Mo_advance_29 (by decide) (fun hc => ?_) (fun hc => ?_)
        · exact go (by rw [← hw]; simp [c_ws, hc])
        · refine z_aload_0 d_Mo_advance_32 ?_
          refine z_aload_0 d_Mo_advance_33 ?_
          refine z_getIv d_Mo_advance_34 f_Mo_119 (by first | assumption | exact zS0_at (by assumption) (by omega) | exact zS0_at rfl (by omega)) (by first | assumption | ((try simp (disch := omega) only [zu_same, zu_ne, zcp_ne, zfl_ne]); first | assumption | rfl)) ?_
          refine z_Vi1 d_Mo_advance_37 k_Mo_122 (by first | assumption | exact zS0_at (by assumption) (by omega) | exact zS0_at rfl (by omega)) (look _ _ j hF2 (by omega)) ⟨Nat.le_of_ble_eq_true rfl, Nat.le_of_ble_eq_true rfl, Nat.le_of_ble_eq_true rfl, Nat.le_of_ble_eq_true rfl⟩ (Nat.le_of_ble_eq_true rfl) ?_
          rw [if_pos hb]
          intro r w hq
          obtain ⟨rfl, rfl⟩ := hq
          refine z_bipush (a := nI 32) d_Mo_advance_40 (by decide) ?_
          refine z_icmp_ne (tgt := 58) d_Mo_advance_42 (by decide) (fun hd => ?_) (fun hd => ?_)
          · rw [s_run_stop (by rw [← hw]; simp [c_ws, hc, hd])] at hI
            obtain rfl := hI
            exact fin
          · exact go (by rw [← hw]; simp [c_ws, hd])
  refine z_aload_0 d_Mo_advance_0 ?_
  refine z_aload_0 d_Mo_advance_1 ?_
  refine z_getIv d_Mo_advance_2 f_Mo_116 (by first | assumption | exact zS0_at (by assumption) (by omega) | exact zS0_at rfl (by omega)) (by first | assumption | ((try simp (disch := omega) only [zu_same, zu_ne, zcp_ne, zfl_ne]); first | assumption | rfl)) ?_
  refine z_putI d_Mo_advance_5 f_Mo_119 (by first | assumption | exact zS0_at (by assumption) (by omega) | exact zS0_at rfl (by omega)) ?_
  exact loop (L + 1) p (by omega) (by omega) (by omega) he
end MT1
