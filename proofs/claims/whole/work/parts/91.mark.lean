/-! MARKS, both sides -/
section MK0
variable {G : zG} {I I' I2 : Nat → Nat → Int32} {J J' J2 : Nat → Nat → Int64} {P : Nat → Nat → Option Nat} {S : List (Nat × Nat)} {f d nt np nl nn n fed mk g f0 f1 sz c c' m : Nat} {w : zW} {A A' : Nat → Nat → Int32} {R : Nat → Int32}
theorem fmR_P (h : fmR g A R nt np nl nn) (e0 : ∀ k, k < 8 → A' 0 k = A 0 k) (e1 : ∀ k, k < 6 → A' 1 k = A 1 k) (e2 : ∀ r k, 2 ≤ r → r ≤ 4 → k < 7 → A' r k = A r k) (e5 : ∀ r k, 5 ≤ r → r ≤ 8 → k < 9 → A' r k = A r k) : fmR g A' R nt np nl nn := by
  obtain ⟨⟨⟨a1, r1, b1⟩, ⟨a2, r2, b2⟩, ⟨a3, r3, b3⟩, ⟨a4, r4, b4⟩⟩, ⟨⟨o, ob, ao, ro⟩, r5⟩, fw, fp, ft, fz⟩ := h
  refine ⟨⟨⟨(e0 1 (by omega)).trans a1, r1, b1⟩, ⟨(e0 2 (by omega)).trans a2, r2, b2⟩, ⟨(e0 3 (by omega)).trans a3, r3, b3⟩, ⟨(e0 4 (by omega)).trans a4, r4, b4⟩⟩, ⟨⟨o, ob, (e0 0 (by omega)).trans ao, ro⟩, r5.trans (e0 5 (by omega)).symm⟩, fun k hk => ?_, fun p hp => ?_, fun t ht => ?_, fun t g1 g2 => ?_⟩
  · rw [e1 k (by omega)]; exact fw k hk
  · rw [e2 2 p (by omega) (by omega) (by omega), e2 3 p (by omega) (by omega) (by omega), e2 4 p (by omega) (by omega) (by omega)]; exact fp p hp
  · rw [e5 5 t (by omega) (by omega) (by omega), e5 6 t (by omega) (by omega) (by omega), e5 7 t (by omega) (by omega) (by omega), e5 8 t (by omega) (by omega) (by omega), e0 6 (by omega), e0 7 (by omega)]; exact ft t ht
  · rw [e0 6 (by omega), e0 7 (by omega)]; exact fz t g1 g2
theorem fnR_cp (h : fnR g f0 c nt np nl nn I J) (e0 : ∀ k, k < 8 → I' f1 k = I f0 k) (e1 : ∀ k, k < 6 → I' (f1 + 1) k = I (f0 + 1) k) (e2 : ∀ r k, 2 ≤ r → r ≤ 4 → k < 7 → I' (f1 + r) k = I (f0 + r) k) (e5 : ∀ r k, 5 ≤ r → r ≤ 8 → k < 9 → I' (f1 + r) k = I (f0 + r) k) (ey : ∀ k, k < 3 → I' (f1 + 12) k = I (f0 + 12) k) (eyr : ∀ sz r k, I (f0 + 12) 2 = nI sz → sz ≤ 60 → 1 ≤ r → r ≤ 4 → k < sz → I' (f1 + 12 + r) k = I (f0 + 12 + r) k) (eb : ∀ k, k < 359 → I' 150 (359 * c' + k) = I 150 (359 * c + k)) (j9 : ∀ k, k < 6 → J' (f1 + 9) k = J (f0 + 9) k) (j10 : ∀ k, k < 7 → J' (f1 + 10) k = J (f0 + 10) k) (j11 : ∀ k, k < 9 → J' (f1 + 11) k = J (f0 + 11) k) (jb : ∀ k, k < 22 → J' 152 (22 * c' + k) = J 152 (22 * c + k)) : fnR g f1 c' nt np nl nn I' J' := by
  obtain ⟨a1, ⟨a2, a3, a4⟩, a5⟩ := h
  have b := a1.1
  refine ⟨fmR_P (fmR_R a1 (fun k hk => eb k (by omega))) e0 e1 e2 e5, ⟨fun k hk => ?_, fun k hk => ?_, fun k hk => ?_⟩, ?_⟩
  · rw [jb k (by omega), j9 k (by omega)]; exact a2 k hk
  · rw [Nat.add_assoc, jb (6 + k) (by omega), ← Nat.add_assoc, j10 k (by omega)]; exact a3 k hk
  · rw [Nat.add_assoc, jb (13 + k) (by omega), ← Nat.add_assoc, j11 k (by omega)]; exact a4 k hk
  · rcases a5 with ⟨q1, q2, q3⟩ | ⟨m, ns, sz, q1, q2, ⟨q3, q4, q5⟩, ⟨q6, q7⟩, q8⟩
    · left
      rw [ey 0 (by omega), ey 2 (by omega), eb 87 (by omega)]
      exact ⟨q1, q2, q3⟩
    · right
      refine ⟨m, ns, sz, ?_, ?_, ⟨?_, ?_, q5⟩, ⟨?_, q7⟩, ?_⟩
      · rw [ey 0 (by omega)]; exact q1
      · rw [eb 87 (by omega)]; exact q2
      · rw [ey 1 (by omega)]; exact q3
      · rw [eb 88 (by omega)]; exact q4
      · rw [ey 2 (by omega)]; exact q6
      · refine yb_c _ _ _ _ _ (fun r k g1 g2 _ g4 => eyr sz r k q6 q7 g1 g2 g4) (fun s k _ g2 g3 => ?_) q8
        show I' 150 (359 * c' + 89 + 9 * s + k) = I 150 (359 * c + 89 + 9 * s + k)
        rw [show 359 * c' + 89 + 9 * s + k = 359 * c' + (89 + 9 * s + k) by omega, eb _ (by omega), show 359 * c + 89 + 9 * s + k = 359 * c + (89 + 9 * s + k) by omega]
theorem cpF_o {a : Nat} (h : ¬ (f ≤ a ∧ a ≤ f + 16)) : s_cpF I g f sz a = I a := by
  unfold s_cpF s_cpY
  rw [zcp_ne (by omega), zcp_ne (by omega), zcp_ne (by omega), zcp_ne (by omega), zu_row _ _ _ _ (by omega), zu_row _ _ _ _ (by omega), zu_row _ _ _ _ (by omega), zcp_ne (by omega), zcp_ne (by omega), zcp_ne (by omega), zcp_ne (by omega), zcp_ne (by omega), zcp_ne (by omega), zcp_ne (by omega), zcp_ne (by omega), zu_row _ _ _ _ (by omega), zu_row _ _ _ _ (by omega), zu_row _ _ _ _ (by omega), zu_row _ _ _ _ (by omega), zu_row _ _ _ _ (by omega), zu_row _ _ _ _ (by omega), zu_row _ _ _ _ (by omega), zu_row _ _ _ _ (by omega)]
/-- the numbers taken over -/
def s_cp0 (I : Nat → Nat → Int32) (g f : Nat) : Nat → Nat → Int32 := zu (zu (zu (zu (zu (zu (zu (zu I f 0 (I g 0)) f 1 (I g 1)) f 2 (I g 2)) f 3 (I g 3)) f 4 (I g 4)) f 5 (I g 5)) f 6 (I g 6)) f 7 (I g 7)
theorem cp0_o {a : Nat} (h : a ≠ f) : s_cp0 I g f a = I a := by
  unfold s_cp0
  rw [zu_row _ _ _ _ h, zu_row _ _ _ _ h, zu_row _ _ _ _ h, zu_row _ _ _ _ h, zu_row _ _ _ _ h, zu_row _ _ _ _ h, zu_row _ _ _ _ h, zu_row _ _ _ _ h]
theorem cp0_f {k : Nat} (hk : k < 8) : s_cp0 I g f f k = I g k := by
  unfold s_cp0
  rcases (show k = 0 ∨ k = 1 ∨ k = 2 ∨ k = 3 ∨ k = 4 ∨ k = 5 ∨ k = 6 ∨ k = 7 by omega) with rfl | rfl | rfl | rfl | rfl | rfl | rfl | rfl <;> simp [zu]
/-- its rows, so many of them -/
def s_cp8 (I : Nat → Nat → Int32) (g f : Nat) : Nat → Nat → Int32 := zcp (zcp (zcp (zcp (zcp (zcp (zcp (zcp I (g + 1) (f + 1) 0 0 6) (g + 2) (f + 2) 0 0 7) (g + 3) (f + 3) 0 0 7) (g + 4) (f + 4) 0 0 7) (g + 5) (f + 5) 0 0 9) (g + 6) (f + 6) 0 0 9) (g + 7) (f + 7) 0 0 9) (g + 8) (f + 8) 0 0 9
theorem cp8_o {a : Nat} (h : ¬ (f + 1 ≤ a ∧ a ≤ f + 8)) : s_cp8 I g f a = I a := by
  unfold s_cp8
  rw [zcp_ne (by omega), zcp_ne (by omega), zcp_ne (by omega), zcp_ne (by omega), zcp_ne (by omega), zcp_ne (by omega), zcp_ne (by omega), zcp_ne (by omega)]
theorem cp8_1 {k : Nat} (hd : f + 16 < g ∨ g + 16 < f) (hk : k < 6) : s_cp8 I g f (f + 1) k = I (g + 1) k := by
  unfold s_cp8
  rw [zcp_ne (by omega), zcp_ne (by omega), zcp_ne (by omega), zcp_ne (by omega), zcp_ne (by omega), zcp_ne (by omega), zcp_ne (by omega), zcp_in (Nat.zero_le _) (by omega), Nat.sub_zero, Nat.zero_add]
theorem cp8_2 {k : Nat} (hd : f + 16 < g ∨ g + 16 < f) (hk : k < 7) : s_cp8 I g f (f + 2) k = I (g + 2) k := by
  unfold s_cp8
  rw [zcp_ne (by omega), zcp_ne (by omega), zcp_ne (by omega), zcp_ne (by omega), zcp_ne (by omega), zcp_ne (by omega), zcp_in (Nat.zero_le _) (by omega), zcp_ne (by omega), Nat.sub_zero, Nat.zero_add]
theorem cp8_3 {k : Nat} (hd : f + 16 < g ∨ g + 16 < f) (hk : k < 7) : s_cp8 I g f (f + 3) k = I (g + 3) k := by
  unfold s_cp8
  rw [zcp_ne (by omega), zcp_ne (by omega), zcp_ne (by omega), zcp_ne (by omega), zcp_ne (by omega), zcp_in (Nat.zero_le _) (by omega), zcp_ne (by omega), zcp_ne (by omega), Nat.sub_zero, Nat.zero_add]
theorem cp8_4 {k : Nat} (hd : f + 16 < g ∨ g + 16 < f) (hk : k < 7) : s_cp8 I g f (f + 4) k = I (g + 4) k := by
  unfold s_cp8
  rw [zcp_ne (by omega), zcp_ne (by omega), zcp_ne (by omega), zcp_ne (by omega), zcp_in (Nat.zero_le _) (by omega), zcp_ne (by omega), zcp_ne (by omega), zcp_ne (by omega), Nat.sub_zero, Nat.zero_add]
theorem cp8_5 {k : Nat} (hd : f + 16 < g ∨ g + 16 < f) (hk : k < 9) : s_cp8 I g f (f + 5) k = I (g + 5) k := by
  unfold s_cp8
  rw [zcp_ne (by omega), zcp_ne (by omega), zcp_ne (by omega), zcp_in (Nat.zero_le _) (by omega), zcp_ne (by omega), zcp_ne (by omega), zcp_ne (by omega), zcp_ne (by omega), Nat.sub_zero, Nat.zero_add]
theorem cp8_6 {k : Nat} (hd : f + 16 < g ∨ g + 16 < f) (hk : k < 9) : s_cp8 I g f (f + 6) k = I (g + 6) k := by
  unfold s_cp8
  rw [zcp_ne (by omega), zcp_ne (by omega), zcp_in (Nat.zero_le _) (by omega), zcp_ne (by omega), zcp_ne (by omega), zcp_ne (by omega), zcp_ne (by omega), zcp_ne (by omega), Nat.sub_zero, Nat.zero_add]
theorem cp8_7 {k : Nat} (hd : f + 16 < g ∨ g + 16 < f) (hk : k < 9) : s_cp8 I g f (f + 7) k = I (g + 7) k := by
  unfold s_cp8
  rw [zcp_ne (by omega), zcp_in (Nat.zero_le _) (by omega), zcp_ne (by omega), zcp_ne (by omega), zcp_ne (by omega), zcp_ne (by omega), zcp_ne (by omega), zcp_ne (by omega), Nat.sub_zero, Nat.zero_add]
theorem cp8_8 {k : Nat} (hd : f + 16 < g ∨ g + 16 < f) (hk : k < 9) : s_cp8 I g f (f + 8) k = I (g + 8) k := by
  unfold s_cp8
  rw [zcp_in (Nat.zero_le _) (by omega), zcp_ne (by omega), zcp_ne (by omega), zcp_ne (by omega), zcp_ne (by omega), zcp_ne (by omega), zcp_ne (by omega), zcp_ne (by omega), Nat.sub_zero, Nat.zero_add]
theorem cpF_eq : s_cpF I g f sz = s_cpY (s_cp8 (s_cp0 I g f) g f) (g + 12) (f + 12) sz := rfl
theorem cpY_o {z a : Nat} (h : ¬ (f ≤ a ∧ a ≤ f + 4)) : s_cpY I z f sz a = I a := by
  unfold s_cpY
  rw [zcp_ne (by omega), zcp_ne (by omega), zcp_ne (by omega), zcp_ne (by omega), zu_row _ _ _ _ (by omega), zu_row _ _ _ _ (by omega), zu_row _ _ _ _ (by omega)]
theorem cpY_0 {z k : Nat} (h : I z 2 = nI sz) (hk : k < 3) : s_cpY I z f sz f k = I z k := by
  unfold s_cpY
  rw [zcp_ne (by omega), zcp_ne (by omega), zcp_ne (by omega), zcp_ne (by omega)]
  rcases (show k = 0 ∨ k = 1 ∨ k = 2 by omega) with rfl | rfl | rfl
  · rw [zu_ne _ _ _ _ (by omega), zu_ne _ _ _ _ (by omega), zu_same]
  · rw [zu_ne _ _ _ _ (by omega), zu_same]
  · rw [zu_same, h]
theorem cpY_1 {z k : Nat} (hd : f + 4 < z ∨ z + 4 < f) (hk : k < sz) : s_cpY I z f sz (f + 1) k = I (z + 1) k := by
  unfold s_cpY
  rw [zcp_ne (by omega), zcp_ne (by omega), zcp_ne (by omega), zcp_in (Nat.zero_le _) (by omega), zu_row _ _ _ _ (by omega), zu_row _ _ _ _ (by omega), zu_row _ _ _ _ (by omega), Nat.sub_zero, Nat.zero_add]
theorem cpY_2 {z k : Nat} (hd : f + 4 < z ∨ z + 4 < f) (hk : k < sz) : s_cpY I z f sz (f + 2) k = I (z + 2) k := by
  unfold s_cpY
  rw [zcp_ne (by omega), zcp_ne (by omega), zcp_in (Nat.zero_le _) (by omega), zcp_ne (by omega), zu_row _ _ _ _ (by omega), zu_row _ _ _ _ (by omega), zu_row _ _ _ _ (by omega), Nat.sub_zero, Nat.zero_add]
theorem cpY_3 {z k : Nat} (hd : f + 4 < z ∨ z + 4 < f) (hk : k < sz) : s_cpY I z f sz (f + 3) k = I (z + 3) k := by
  unfold s_cpY
  rw [zcp_ne (by omega), zcp_in (Nat.zero_le _) (by omega), zcp_ne (by omega), zcp_ne (by omega), zu_row _ _ _ _ (by omega), zu_row _ _ _ _ (by omega), zu_row _ _ _ _ (by omega), Nat.sub_zero, Nat.zero_add]
theorem cpY_4 {z k : Nat} (hd : f + 4 < z ∨ z + 4 < f) (hk : k < sz) : s_cpY I z f sz (f + 4) k = I (z + 4) k := by
  unfold s_cpY
  rw [zcp_in (Nat.zero_le _) (by omega), zcp_ne (by omega), zcp_ne (by omega), zcp_ne (by omega), zu_row _ _ _ _ (by omega), zu_row _ _ _ _ (by omega), zu_row _ _ _ _ (by omega), Nat.sub_zero, Nat.zero_add]
theorem cpN_o {a : Nat} (h : ¬ (f + 9 ≤ a ∧ a ≤ f + 11)) : s_cpN J g f a = J a := by
  unfold s_cpN
  rw [zcp_ne (by omega), zcp_ne (by omega), zcp_ne (by omega)]
theorem cpN_9 {k : Nat} (hd : f + 16 < g ∨ g + 16 < f) (hk : k < 6) : s_cpN J g f (f + 9) k = J (g + 9) k := by
  unfold s_cpN
  rw [zcp_ne (by omega), zcp_ne (by omega), zcp_in (Nat.zero_le _) (by omega), Nat.sub_zero, Nat.zero_add]
theorem cpN_10 {k : Nat} (hd : f + 16 < g ∨ g + 16 < f) (hk : k < 7) : s_cpN J g f (f + 10) k = J (g + 10) k := by
  unfold s_cpN
  rw [zcp_ne (by omega), zcp_in (Nat.zero_le _) (by omega), zcp_ne (by omega), Nat.sub_zero, Nat.zero_add]
theorem cpN_11 {k : Nat} (hd : f + 16 < g ∨ g + 16 < f) (hk : k < 9) : s_cpN J g f (f + 11) k = J (g + 11) k := by
  unfold s_cpN
  rw [zcp_in (Nat.zero_le _) (by omega), zcp_ne (by omega), zcp_ne (by omega), Nat.sub_zero, Nat.zero_add]
/-- a Fen taken over: what of it matters -/
theorem cpF_all (hd : f + 16 < g ∨ g + 16 < f) (hs : I (g + 12) 2 = nI sz) : (∀ k, k < 8 → s_cpF I g f sz f k = I g k) ∧ (∀ k, k < 6 → s_cpF I g f sz (f + 1) k = I (g + 1) k) ∧ (∀ r k, 2 ≤ r → r ≤ 4 → k < 7 → s_cpF I g f sz (f + r) k = I (g + r) k) ∧ (∀ r k, 5 ≤ r → r ≤ 8 → k < 9 → s_cpF I g f sz (f + r) k = I (g + r) k) ∧ (∀ k, k < 3 → s_cpF I g f sz (f + 12) k = I (g + 12) k) ∧ ∀ r k, 1 ≤ r → r ≤ 4 → k < sz → s_cpF I g f sz (f + 12 + r) k = I (g + 12 + r) k := by
  have o0 : ∀ r, 1 ≤ r → r ≤ 16 → s_cp0 I g f (g + r) = I (g + r) := fun r h1 h2 => cp0_o (by omega)
  have o8 : ∀ r, 9 ≤ r → r ≤ 16 → s_cp8 (s_cp0 I g f) g f (g + r) = I (g + r) := fun r h1 h2 => (cp8_o (by omega)).trans (o0 r (by omega) h2)
  rw [cpF_eq]
  refine ⟨fun k hk => ?_, fun k hk => ?_, fun r k h1 h2 hk => ?_, fun r k h1 h2 hk => ?_, fun k hk => ?_, fun r k h1 h2 hk => ?_⟩
  · rw [cpY_o (by omega), cp8_o (by omega), cp0_f hk]
  · rw [cpY_o (by omega), cp8_1 hd hk, o0 1 (by omega) (by omega)]
  · rw [cpY_o (by omega)]
    rcases (show r = 2 ∨ r = 3 ∨ r = 4 by omega) with rfl | rfl | rfl
    · rw [cp8_2 hd hk, o0 2 (by omega) (by omega)]
    · rw [cp8_3 hd hk, o0 3 (by omega) (by omega)]
    · rw [cp8_4 hd hk, o0 4 (by omega) (by omega)]
  · rw [cpY_o (by omega)]
    rcases (show r = 5 ∨ r = 6 ∨ r = 7 ∨ r = 8 by omega) with rfl | rfl | rfl | rfl
    · rw [cp8_5 hd hk, o0 5 (by omega) (by omega)]
    · rw [cp8_6 hd hk, o0 6 (by omega) (by omega)]
    · rw [cp8_7 hd hk, o0 7 (by omega) (by omega)]
    · rw [cp8_8 hd hk, o0 8 (by omega) (by omega)]
  · rw [cpY_0 (by rw [o8 12 (by omega) (by omega)]; exact hs) hk, o8 12 (by omega) (by omega)]
  · rcases (show r = 1 ∨ r = 2 ∨ r = 3 ∨ r = 4 by omega) with rfl | rfl | rfl | rfl
    · rw [cpY_1 (by omega) hk, Nat.add_assoc, o8 13 (by omega) (by omega)]
    · rw [cpY_2 (by omega) hk, Nat.add_assoc, o8 14 (by omega) (by omega)]
    · rw [cpY_3 (by omega) hk, Nat.add_assoc, o8 15 (by omega) (by omega)]
    · rw [cpY_4 (by omega) hk, Nat.add_assoc, o8 16 (by omega) (by omega)]
theorem yrR_sz (h : yrR f c nt np nn I) : ∃ sz, I (f + 12) 2 = nI sz ∧ sz ≤ 60 ∧ (I (f + 12) 0 = 0 ∨ I (f + 12) 0 = 1) := by
  rcases h with ⟨q1, q2, q3⟩ | ⟨m, ns, sz, q1, q2, ⟨q3, q4, q5⟩, ⟨q6, q7⟩, q8⟩
  · exact ⟨0, q3, by omega, Or.inl q1⟩
  · exact ⟨sz, q6, q7, Or.inr q1⟩
theorem t_Tf_mark_x (Z : clOk f d P S) (h : I 0 13 = nI 3) : zEi G y_Tf_mark prog_1_method_51_code 1 (some .int) 4 [.ref 0] (I, J, P, S) (fun r w => r = -1 ∧ cW I J P S 7 w) := by
  obtain ⟨⟨c0, c3, c1s⟩, ⟨c5, c2s, ctr⟩, ⟨c6, c11s, c11, c13s⟩, ⟨c7, c15s, c15⟩, ⟨c8, c16s, c16a, c16b, c17s⟩, ⟨c9, c10, cfd, F, Fd⟩, ⟨c11b, Ft⟩, ⟨c12, c69s, cmk⟩, ⟨c14, c121s, c121, c122s⟩, ⟨c15b, c123s, c123, c124s⟩, ⟨c16, c125s, c125, c126s⟩, ⟨c17, c127s, c127, c128s, ctb⟩, ⟨c18, c139s, c139, c140s⟩, ⟨c19, c141s, ⟨c141a, c142s⟩, ⟨c141b, c143s⟩, ⟨c141c, c144s⟩⟩, M⟩ := id Z
  refine zEi_of (lv := [some (.ref 0)]) (by decide) rfl (Nat.le_of_ble_eq_true rfl) ?_
  refine z_aload_0 d_Tf_mark_0 ?_
  refine z_getIv d_Tf_mark_1 f_Tf_74 (by first | assumption | exact zS0_at (by assumption) (by omega) | exact zS0_at rfl (by omega)) (by first | assumption | ((try simp (disch := omega) only [zu_same, zu_ne, zcp_ne, zfl_ne]); first | assumption | rfl)) ?_
  refine z_iconst (a := nI 3) d_Tf_mark_4 (by decide) ?_
  refine z_icmp_lt (tgt := 15) d_Tf_mark_5 (by decide) (fun h5 => ?_) (fun h5 => ?_)
  · first
    | (simp (disch := omega) only [← nI_0, nI_leI, nI_ltI, nI_eq, not_true_eq_false, not_false_eq_true] at h5; done)
    | (simp (disch := omega) only [← nI_0, nI_leI, nI_ltI, nI_eq, not_true_eq_false, not_false_eq_true] at h5; omega)
    | contradiction
    | exact absurd h5 (Int32.not_lt.mpr (by assumption))
    | exact absurd h5 (Int32.not_le.mpr (by assumption))
    | exact absurd h5 (by decide)
    | exact absurd (by decide) h5
    | ( try simp (disch := omega) only [← nI_0, nI_leI, nI_ltI, nI_eq, not_true_eq_false, not_false_eq_true] at h5
        (try have h5b := zbit_n0.mp h5); (try have h5b := zbit_p0.mp h5)
        fail)
  · first
    | (simp (disch := omega) only [← nI_0, nI_leI, nI_ltI, nI_eq, not_true_eq_false, not_false_eq_true] at h5; done)
    | (simp (disch := omega) only [← nI_0, nI_leI, nI_ltI, nI_eq, not_true_eq_false, not_false_eq_true] at h5; omega)
    | contradiction
    | exact absurd h5 (Int32.not_lt.mpr (by assumption))
    | exact absurd h5 (Int32.not_le.mpr (by assumption))
    | exact absurd h5 (by decide)
    | exact absurd (by decide) h5
    | ( try simp (disch := omega) only [← nI_0, nI_leI, nI_ltI, nI_eq, not_true_eq_false, not_false_eq_true] at h5
        (try have h5b := zbit_n0.mp h5); (try have h5b := zbit_p0.mp h5)
        refine z_aload_0 d_Tf_mark_8 ?_
        refine z_bipush (a := nI 7) d_Tf_mark_9 (by decide) ?_
        refine z_Vi1 d_Tf_mark_11 k_Tf_138 (by first | assumption | exact zS0_at (by assumption) (by omega) | exact zS0_at rfl (by omega)) (t_Tf_fail (by assumption)) ⟨Nat.le_of_ble_eq_true rfl, Nat.le_of_ble_eq_true rfl, Nat.le_of_ble_eq_true rfl, Nat.le_of_ble_eq_true rfl⟩ (Nat.le_of_ble_eq_true rfl) ?_
        intro r w hq
        obtain ⟨rfl, rfl⟩ := hq
        refine z_reti d_Tf_mark_14 ?_
        exact ⟨rfl, cW_0⟩)
theorem t_Tf_mark (Z : clOk f d P S) (h : I 0 13 = nI mk) (hm : mk < 3) (hs : I (f + 12) 2 = nI sz) (hs6 : sz ≤ 60) (hb : I (f + 12) 0 = 0 ∨ I (f + 12) 0 = 1) : zEi G y_Tf_mark prog_1_method_51_code 1 (some .int) 4 [.ref 0] (I, J, P, S) (fun r w => r = nI (mk + 1) ∧ w = (zu (zu (s_cpF I f (70 + 17 * mk) sz) 0 13 (nI (mk + 1))) 0 0 (nI 0), s_cpN J f (70 + 17 * mk), P, S)) := by
  obtain ⟨⟨c0, c3, c1s⟩, ⟨c5, c2s, ctr⟩, ⟨c6, c11s, c11, c13s⟩, ⟨c7, c15s, c15⟩, ⟨c8, c16s, c16a, c16b, c17s⟩, ⟨c9, c10, cfd, F, Fd⟩, ⟨c11b, Ft⟩, ⟨c12, c69s, cmk⟩, ⟨c14, c121s, c121, c122s⟩, ⟨c15b, c123s, c123, c124s⟩, ⟨c16, c125s, c125, c126s⟩, ⟨c17, c127s, c127, c128s, ctb⟩, ⟨c18, c139s, c139, c140s⟩, ⟨c19, c141s, ⟨c141a, c142s⟩, ⟨c141b, c143s⟩, ⟨c141c, c144s⟩⟩, M⟩ := id Z
  obtain ⟨cm, Fm⟩ := cmk mk hm
  have Fm0 := Fm.1
  have F0 := F.1
  have h' : s_cpF I f (70 + 17 * mk) sz 0 13 = nI mk := by rw [cpF_o (by omega)]; exact h
  refine zEi_of (lv := [some (.ref 0)]) (by decide) rfl (Nat.le_of_ble_eq_true rfl) ?_
  refine z_aload_0 d_Tf_mark_0 ?_
  refine z_getIv d_Tf_mark_1 f_Tf_74 (by first | assumption | exact zS0_at (by assumption) (by omega) | exact zS0_at rfl (by omega)) (by first | assumption | ((try simp (disch := omega) only [zu_same, zu_ne, zcp_ne, zfl_ne]); first | assumption | rfl)) ?_
  refine z_iconst (a := nI 3) d_Tf_mark_4 (by decide) ?_
  refine z_icmp_lt (tgt := 15) d_Tf_mark_5 (by decide) (fun h5 => ?_) (fun h5 => ?_)
  · first
    | (simp (disch := omega) only [← nI_0, nI_leI, nI_ltI, nI_eq, not_true_eq_false, not_false_eq_true] at h5; done)
    | (simp (disch := omega) only [← nI_0, nI_leI, nI_ltI, nI_eq, not_true_eq_false, not_false_eq_true] at h5; omega)
    | contradiction
    | exact absurd h5 (Int32.not_lt.mpr (by assumption))
    | exact absurd h5 (Int32.not_le.mpr (by assumption))
    | exact absurd h5 (by decide)
    | exact absurd (by decide) h5
    | ( try simp (disch := omega) only [← nI_0, nI_leI, nI_ltI, nI_eq, not_true_eq_false, not_false_eq_true] at h5
        (try have h5b := zbit_n0.mp h5); (try have h5b := zbit_p0.mp h5)
        refine z_aload_0 d_Tf_mark_15 ?_
        refine z_getR d_Tf_mark_16 f_Tf_70 (by first | assumption | exact zS0_at (by assumption) (by omega) | exact zS0_at rfl (by omega)) (by first | assumption | exact zS0_at (by assumption) (by omega) | exact zS0_at rfl (by omega)) ?_
        refine z_aload_0 d_Tf_mark_19 ?_
        refine z_getIv d_Tf_mark_20 f_Tf_74 (by first | assumption | exact zS0_at (by assumption) (by omega) | exact zS0_at rfl (by omega)) (by first | assumption | ((try simp (disch := omega) only [zu_same, zu_ne, zcp_ne, zfl_ne]); first | assumption | rfl)) ?_
        first | refine z_ald4N d_Tf_mark_23 (by first | assumption | exact zS0_at (by assumption) (by omega) | exact zS0_at rfl (by omega)) (by omega) (by first | decide | omega) (by first | assumption | exact zS0_at (by assumption) (by omega) | exact zS0_at rfl (by omega)) ?_ | refine z_ald5N d_Tf_mark_23 (by first | assumption | exact zS0_at (by assumption) (by omega) | exact zS0_at rfl (by omega)) (by omega) (by first | decide | omega) (by first | assumption | exact zS0_at (by assumption) (by omega) | exact zS0_at rfl (by omega)) ?_ | refine z_ald6N d_Tf_mark_23 (by first | assumption | exact zS0_at (by assumption) (by omega) | exact zS0_at rfl (by omega)) (by omega) (by first | decide | omega) (by first | assumption | exact zS0_at (by assumption) (by omega) | exact zS0_at rfl (by omega)) ?_
        refine z_aload_0 d_Tf_mark_24 ?_
        refine z_getR d_Tf_mark_25 f_Tf_60 (by first | assumption | exact zS0_at (by assumption) (by omega) | exact zS0_at rfl (by omega)) (by first | assumption | exact zS0_at (by assumption) (by omega) | exact zS0_at rfl (by omega)) ?_
        refine z_Vv1 d_Tf_mark_28 k_Tf_406 (by first | assumption | exact zS0_at (by assumption) (by omega) | exact zS0_at rfl (by omega)) (t_Fen_copyFrom Fm F (by omega) hb hs hs6) ⟨Nat.le_of_ble_eq_true rfl, Nat.le_of_ble_eq_true rfl, Nat.le_of_ble_eq_true rfl, Nat.le_of_ble_eq_true rfl⟩ (Nat.le_of_ble_eq_true rfl) ?_
        intro w hq
        obtain rfl := hq
        refine z_aload_0 d_Tf_mark_31 ?_
        refine z_dup rfl d_Tf_mark_32 ?_
        refine z_getIv d_Tf_mark_33 f_Tf_74 (by first | assumption | exact zS0_at (by assumption) (by omega) | exact zS0_at rfl (by omega)) (by first | assumption | ((try simp (disch := omega) only [zu_same, zu_ne, zcp_ne, zfl_ne]); first | assumption | rfl)) ?_
        refine z_iconst (a := nI 1) d_Tf_mark_36 (by decide) ?_
        first | refine z_iaddN d_Tf_mark_37 ?_ | refine z_iadd d_Tf_mark_37 ?_
        refine z_putI d_Tf_mark_38 f_Tf_74 (by first | assumption | exact zS0_at (by assumption) (by omega) | exact zS0_at rfl (by omega)) ?_
        refine z_aload_0 d_Tf_mark_41 ?_
        refine z_aload_0 d_Tf_mark_42 ?_
        refine z_getIv d_Tf_mark_43 f_Tf_74 (by first | assumption | exact zS0_at (by assumption) (by omega) | exact zS0_at rfl (by omega)) (by first | assumption | ((try simp (disch := omega) only [zu_same, zu_ne, zcp_ne, zfl_ne]); first | assumption | rfl)) ?_
        refine z_Vi1 d_Tf_mark_46 k_Tf_174 (by first | assumption | exact zS0_at (by assumption) (by omega) | exact zS0_at rfl (by omega)) (t_Tf_give (by assumption)) ⟨Nat.le_of_ble_eq_true rfl, Nat.le_of_ble_eq_true rfl, Nat.le_of_ble_eq_true rfl, Nat.le_of_ble_eq_true rfl⟩ (Nat.le_of_ble_eq_true rfl) ?_
        intro r w hq
        obtain ⟨rfl, rfl⟩ := hq
        refine z_reti d_Tf_mark_49 ?_
        exact ⟨rfl, rfl⟩)
  · first
    | (simp (disch := omega) only [← nI_0, nI_leI, nI_ltI, nI_eq, not_true_eq_false, not_false_eq_true] at h5; done)
    | (simp (disch := omega) only [← nI_0, nI_leI, nI_ltI, nI_eq, not_true_eq_false, not_false_eq_true] at h5; omega)
    | contradiction
    | exact absurd h5 (Int32.not_lt.mpr (by assumption))
    | exact absurd h5 (Int32.not_le.mpr (by assumption))
    | exact absurd h5 (by decide)
    | exact absurd (by decide) h5
    | ( try simp (disch := omega) only [← nI_0, nI_leI, nI_ltI, nI_eq, not_true_eq_false, not_false_eq_true] at h5
        (try have h5b := zbit_n0.mp h5); (try have h5b := zbit_p0.mp h5)
        refine z_aload_0 d_Tf_mark_8 ?_
        refine z_bipush (a := nI 7) d_Tf_mark_9 (by decide) ?_
        refine z_Vi1 d_Tf_mark_11 k_Tf_138 (by first | assumption | exact zS0_at (by assumption) (by omega) | exact zS0_at rfl (by omega)) (t_Tf_fail (by assumption)) ⟨Nat.le_of_ble_eq_true rfl, Nat.le_of_ble_eq_true rfl, Nat.le_of_ble_eq_true rfl, Nat.le_of_ble_eq_true rfl⟩ (Nat.le_of_ble_eq_true rfl) ?_
        intro r w hq
        obtain ⟨rfl, rfl⟩ := hq
        refine z_reti d_Tf_mark_14 ?_
        exact ⟨rfl, rfl⟩)
theorem t_Tf_back_x (Z : clOk f d P S) (h : I 0 13 = nI 0) : zEi G y_Tf_back prog_1_method_52_code 1 (some .int) 4 [.ref 0] (I, J, P, S) (fun r w => r = -1 ∧ cW I J P S 8 w) := by
  obtain ⟨⟨c0, c3, c1s⟩, ⟨c5, c2s, ctr⟩, ⟨c6, c11s, c11, c13s⟩, ⟨c7, c15s, c15⟩, ⟨c8, c16s, c16a, c16b, c17s⟩, ⟨c9, c10, cfd, F, Fd⟩, ⟨c11b, Ft⟩, ⟨c12, c69s, cmk⟩, ⟨c14, c121s, c121, c122s⟩, ⟨c15b, c123s, c123, c124s⟩, ⟨c16, c125s, c125, c126s⟩, ⟨c17, c127s, c127, c128s, ctb⟩, ⟨c18, c139s, c139, c140s⟩, ⟨c19, c141s, ⟨c141a, c142s⟩, ⟨c141b, c143s⟩, ⟨c141c, c144s⟩⟩, M⟩ := id Z
  refine zEi_of (lv := [some (.ref 0)]) (by decide) rfl (Nat.le_of_ble_eq_true rfl) ?_
  refine z_aload_0 d_Tf_back_0 ?_
  refine z_getIv d_Tf_back_1 f_Tf_74 (by first | assumption | exact zS0_at (by assumption) (by omega) | exact zS0_at rfl (by omega)) (by first | assumption | ((try simp (disch := omega) only [zu_same, zu_ne, zcp_ne, zfl_ne]); first | assumption | rfl)) ?_
  refine z_iconst (a := nI 1) d_Tf_back_4 (by decide) ?_
  refine z_icmp_ge (tgt := 15) d_Tf_back_5 (by decide) (fun h5 => ?_) (fun h5 => ?_)
  · first
    | (simp (disch := omega) only [← nI_0, nI_leI, nI_ltI, nI_eq, not_true_eq_false, not_false_eq_true] at h5; done)
    | (simp (disch := omega) only [← nI_0, nI_leI, nI_ltI, nI_eq, not_true_eq_false, not_false_eq_true] at h5; omega)
    | contradiction
    | exact absurd h5 (Int32.not_lt.mpr (by assumption))
    | exact absurd h5 (Int32.not_le.mpr (by assumption))
    | exact absurd h5 (by decide)
    | exact absurd (by decide) h5
    | ( try simp (disch := omega) only [← nI_0, nI_leI, nI_ltI, nI_eq, not_true_eq_false, not_false_eq_true] at h5
        (try have h5b := zbit_n0.mp h5); (try have h5b := zbit_p0.mp h5)
        fail)
  · first
    | (simp (disch := omega) only [← nI_0, nI_leI, nI_ltI, nI_eq, not_true_eq_false, not_false_eq_true] at h5; done)
    | (simp (disch := omega) only [← nI_0, nI_leI, nI_ltI, nI_eq, not_true_eq_false, not_false_eq_true] at h5; omega)
    | contradiction
    | exact absurd h5 (Int32.not_lt.mpr (by assumption))
    | exact absurd h5 (Int32.not_le.mpr (by assumption))
    | exact absurd h5 (by decide)
    | exact absurd (by decide) h5
    | ( try simp (disch := omega) only [← nI_0, nI_leI, nI_ltI, nI_eq, not_true_eq_false, not_false_eq_true] at h5
        (try have h5b := zbit_n0.mp h5); (try have h5b := zbit_p0.mp h5)
        refine z_aload_0 d_Tf_back_8 ?_
        refine z_bipush (a := nI 8) d_Tf_back_9 (by decide) ?_
        refine z_Vi1 d_Tf_back_11 k_Tf_138 (by first | assumption | exact zS0_at (by assumption) (by omega) | exact zS0_at rfl (by omega)) (t_Tf_fail (by assumption)) ⟨Nat.le_of_ble_eq_true rfl, Nat.le_of_ble_eq_true rfl, Nat.le_of_ble_eq_true rfl, Nat.le_of_ble_eq_true rfl⟩ (Nat.le_of_ble_eq_true rfl) ?_
        intro r w hq
        obtain ⟨rfl, rfl⟩ := hq
        refine z_reti d_Tf_back_14 ?_
        exact ⟨rfl, cW_0⟩)
theorem t_Tf_back (Z : clOk f d P S) (h : I 0 13 = nI (m + 1)) (hm : m < 3) (hs : I (70 + 17 * m + 12) 2 = nI sz) (hs6 : sz ≤ 60) (hb : I (70 + 17 * m + 12) 0 = 0 ∨ I (70 + 17 * m + 12) 0 = 1) : zEi G y_Tf_back prog_1_method_52_code 1 (some .int) 4 [.ref 0] (I, J, P, S) (fun r w => r = nI m ∧ w = (zu (s_cpF (zu I 0 13 (nI m)) (70 + 17 * m) f sz) 0 0 (nI 0), s_cpN J (70 + 17 * m) f, P, S)) := by
  obtain ⟨⟨c0, c3, c1s⟩, ⟨c5, c2s, ctr⟩, ⟨c6, c11s, c11, c13s⟩, ⟨c7, c15s, c15⟩, ⟨c8, c16s, c16a, c16b, c17s⟩, ⟨c9, c10, cfd, F, Fd⟩, ⟨c11b, Ft⟩, ⟨c12, c69s, cmk⟩, ⟨c14, c121s, c121, c122s⟩, ⟨c15b, c123s, c123, c124s⟩, ⟨c16, c125s, c125, c126s⟩, ⟨c17, c127s, c127, c128s, ctb⟩, ⟨c18, c139s, c139, c140s⟩, ⟨c19, c141s, ⟨c141a, c142s⟩, ⟨c141b, c143s⟩, ⟨c141c, c144s⟩⟩, M⟩ := id Z
  obtain ⟨cm, Fm⟩ := cmk m hm
  have Fm0 := Fm.1
  have F0 := F.1
  have h' : s_cpF (zu I 0 13 (nI m)) (70 + 17 * m) f sz 0 13 = nI m := by rw [cpF_o (by omega), zu_same]
  have e1 : m + 1 - 1 = m := by omega
  refine zEi_of (lv := [some (.ref 0)]) (by decide) rfl (Nat.le_of_ble_eq_true rfl) ?_
  refine z_aload_0 d_Tf_back_0 ?_
  refine z_getIv d_Tf_back_1 f_Tf_74 (by first | assumption | exact zS0_at (by assumption) (by omega) | exact zS0_at rfl (by omega)) (by first | assumption | ((try simp (disch := omega) only [zu_same, zu_ne, zcp_ne, zfl_ne]); first | assumption | rfl)) ?_
  refine z_iconst (a := nI 1) d_Tf_back_4 (by decide) ?_
  refine z_icmp_ge (tgt := 15) d_Tf_back_5 (by decide) (fun _ => ?_) (fun h => absurd (nI_le (by omega) (by omega)) h)
  refine z_aload_0 d_Tf_back_15 ?_
  refine z_dup rfl d_Tf_back_16 ?_
  refine z_getIv d_Tf_back_17 f_Tf_74 (by first | assumption | exact zS0_at (by assumption) (by omega) | exact zS0_at rfl (by omega)) (by first | assumption | ((try simp (disch := omega) only [zu_same, zu_ne, zcp_ne, zfl_ne]); first | assumption | rfl)) ?_
  refine z_iconst (a := nI 1) d_Tf_back_20 (by decide) ?_
  refine z_isubN d_Tf_back_21 (by omega) ?_
  rw [e1]
  refine z_putI d_Tf_back_22 f_Tf_74 (by first | assumption | exact zS0_at (by assumption) (by omega) | exact zS0_at rfl (by omega)) ?_
  refine z_aload_0 d_Tf_back_25 ?_
  refine z_getR d_Tf_back_26 f_Tf_60 (by first | assumption | exact zS0_at (by assumption) (by omega) | exact zS0_at rfl (by omega)) (by first | assumption | exact zS0_at (by assumption) (by omega) | exact zS0_at rfl (by omega)) ?_
  refine z_aload_0 d_Tf_back_29 ?_
  refine z_getR d_Tf_back_30 f_Tf_70 (by first | assumption | exact zS0_at (by assumption) (by omega) | exact zS0_at rfl (by omega)) (by first | assumption | exact zS0_at (by assumption) (by omega) | exact zS0_at rfl (by omega)) ?_
  refine z_aload_0 d_Tf_back_33 ?_
  refine z_getIv d_Tf_back_34 f_Tf_74 (by first | assumption | exact zS0_at (by assumption) (by omega) | exact zS0_at rfl (by omega)) (by first | assumption | ((try simp (disch := omega) only [zu_same, zu_ne, zcp_ne, zfl_ne]); first | assumption | rfl)) ?_
  first | refine z_ald4N d_Tf_back_37 (by first | assumption | exact zS0_at (by assumption) (by omega) | exact zS0_at rfl (by omega)) (by omega) (by first | decide | omega) (by first | assumption | exact zS0_at (by assumption) (by omega) | exact zS0_at rfl (by omega)) ?_ | refine z_ald5N d_Tf_back_37 (by first | assumption | exact zS0_at (by assumption) (by omega) | exact zS0_at rfl (by omega)) (by omega) (by first | decide | omega) (by first | assumption | exact zS0_at (by assumption) (by omega) | exact zS0_at rfl (by omega)) ?_ | refine z_ald6N d_Tf_back_37 (by first | assumption | exact zS0_at (by assumption) (by omega) | exact zS0_at rfl (by omega)) (by omega) (by first | decide | omega) (by first | assumption | exact zS0_at (by assumption) (by omega) | exact zS0_at rfl (by omega)) ?_
  refine z_Vv1 d_Tf_back_38 k_Tf_406 (by first | assumption | exact zS0_at (by assumption) (by omega) | exact zS0_at rfl (by omega)) (t_Fen_copyFrom F Fm (by omega) (by rw [zu_row _ _ _ _ (by omega)]; exact hb) (by rw [zu_row _ _ _ _ (by omega)]; exact hs) hs6) ⟨Nat.le_of_ble_eq_true rfl, Nat.le_of_ble_eq_true rfl, Nat.le_of_ble_eq_true rfl, Nat.le_of_ble_eq_true rfl⟩ (Nat.le_of_ble_eq_true rfl) ?_
  intro w hq
  obtain rfl := hq
  refine z_aload_0 d_Tf_back_41 ?_
  refine z_aload_0 d_Tf_back_42 ?_
  refine z_getIv d_Tf_back_43 f_Tf_74 (by first | assumption | exact zS0_at (by assumption) (by omega) | exact zS0_at rfl (by omega)) (by first | assumption | ((try simp (disch := omega) only [zu_same, zu_ne, zcp_ne, zfl_ne]); first | assumption | rfl)) ?_
  refine z_Vi1 d_Tf_back_46 k_Tf_174 (by first | assumption | exact zS0_at (by assumption) (by omega) | exact zS0_at rfl (by omega)) (t_Tf_give (by assumption)) ⟨Nat.le_of_ble_eq_true rfl, Nat.le_of_ble_eq_true rfl, Nat.le_of_ble_eq_true rfl, Nat.le_of_ble_eq_true rfl⟩ (Nat.le_of_ble_eq_true rfl) ?_
  intro r w hq
  obtain ⟨rfl, rfl⟩ := hq
  refine z_reti d_Tf_back_49 ?_
  exact ⟨rfl, rfl⟩
theorem t_Mo_mark_x (M : modOk P S) (N : modIn I nt np nl nn) (h : I 145 23 = nI 3) : zEi G y_Mo_mark prog_14_method_153_code 1 (some .int) 2 [.ref 145] (I, J, P, S) (fun r w => r = -1 ∧ mW I J P S 7 w) := by
  obtain ⟨M0, ⟨M4, M4s⟩, ⟨M5, M5s⟩, ⟨M6, M6s⟩, ⟨M7, M7s⟩, ⟨M20, M20s⟩, ⟨M21, M21s⟩, ⟨M22, M22s⟩, ⟨M26, M26s⟩, ⟨M27, M27s⟩, ⟨M28, M28s⟩, ⟨M30, M30s⟩, ⟨M34, M34s⟩, ⟨M36, M36s⟩, ⟨M37, M37s⟩⟩ := id M
  obtain ⟨I1, hI1, N1, h1, h0, e150, er, ek⟩ := mo_beg N
  have h' : I1 145 23 = nI 3 := by rw [ek 23 (by omega)]; exact h
  refine zEi_of (lv := [some (.ref 145)]) (by decide) rfl (Nat.le_of_ble_eq_true rfl) ?_
  refine z_aload_0 d_Mo_mark_0 ?_
  refine z_iconst (a := nI 0) d_Mo_mark_1 (by decide) ?_
  refine z_putI d_Mo_mark_2 f_Mo_70 (by first | assumption | exact zS0_at (by assumption) (by omega) | exact zS0_at rfl (by omega)) ?_
  refine z_aload_0 d_Mo_mark_5 ?_
  refine z_iconst (a := nI 0) d_Mo_mark_6 (by decide) ?_
  refine z_putI d_Mo_mark_7 f_Mo_73 (by first | assumption | exact zS0_at (by assumption) (by omega) | exact zS0_at rfl (by omega)) ?_
  rw [← hI1]
  refine z_aload_0 d_Mo_mark_10 ?_
  refine z_getIv d_Mo_mark_11 f_Mo_519 (by first | assumption | exact zS0_at (by assumption) (by omega) | exact zS0_at rfl (by omega)) (by first | assumption | ((try simp (disch := omega) only [zu_same, zu_ne, zcp_ne, zfl_ne]); first | assumption | rfl)) ?_
  refine z_iconst (a := nI 3) d_Mo_mark_14 (by decide) ?_
  refine z_icmp_ne (tgt := 25) d_Mo_mark_15 (by decide) (fun h15 => ?_) (fun h15 => ?_)
  · first
    | (simp (disch := omega) only [← nI_0, nI_leI, nI_ltI, nI_eq, not_true_eq_false, not_false_eq_true] at h15; done)
    | (simp (disch := omega) only [← nI_0, nI_leI, nI_ltI, nI_eq, not_true_eq_false, not_false_eq_true] at h15; omega)
    | contradiction
    | exact absurd h15 (Int32.not_lt.mpr (by assumption))
    | exact absurd h15 (Int32.not_le.mpr (by assumption))
    | exact absurd h15 (by decide)
    | exact absurd (by decide) h15
    | ( try simp (disch := omega) only [← nI_0, nI_leI, nI_ltI, nI_eq, not_true_eq_false, not_false_eq_true] at h15
        (try have h15b := zbit_n0.mp h15); (try have h15b := zbit_p0.mp h15)
        fail)
  · first
    | (simp (disch := omega) only [← nI_0, nI_leI, nI_ltI, nI_eq, not_true_eq_false, not_false_eq_true] at h15; done)
    | (simp (disch := omega) only [← nI_0, nI_leI, nI_ltI, nI_eq, not_true_eq_false, not_false_eq_true] at h15; omega)
    | contradiction
    | exact absurd h15 (Int32.not_lt.mpr (by assumption))
    | exact absurd h15 (Int32.not_le.mpr (by assumption))
    | exact absurd h15 (by decide)
    | exact absurd (by decide) h15
    | ( try simp (disch := omega) only [← nI_0, nI_leI, nI_ltI, nI_eq, not_true_eq_false, not_false_eq_true] at h15
        (try have h15b := zbit_n0.mp h15); (try have h15b := zbit_p0.mp h15)
        refine z_aload_0 d_Mo_mark_18 ?_
        refine z_bipush (a := nI 7) d_Mo_mark_19 (by decide) ?_
        refine z_Vi1 d_Mo_mark_21 k_Mo_327 (by first | assumption | exact zS0_at (by assumption) (by omega) | exact zS0_at rfl (by omega)) (t_Mo_refuse (by assumption)) ⟨Nat.le_of_ble_eq_true rfl, Nat.le_of_ble_eq_true rfl, Nat.le_of_ble_eq_true rfl, Nat.le_of_ble_eq_true rfl⟩ (Nat.le_of_ble_eq_true rfl) ?_
        intro r w hq
        obtain ⟨rfl, rfl⟩ := hq
        refine z_reti d_Mo_mark_24 ?_
        exact ⟨rfl, _, _, rfl, mqF_z h1 (by decide), mqJ_r, zu_same _ _ _ _⟩)
theorem t_Mo_mark (M : modOk P S) (N : modIn I nt np nl nn) (h : I 145 23 = nI mk) (hm : mk < 3) : zEi G y_Mo_mark prog_14_method_153_code 1 (some .int) 2 [.ref 145] (I, J, P, S) (fun r w => r = nI (mk + 1) ∧ ∃ I1, mD I I1 ∧ w = (zcp (zu I1 145 23 (nI (mk + 1))) 150 150 (359 * 0) (359 * (mk + 1)) 359, zcp J 152 152 (22 * 0) (22 * (mk + 1)) 22, P, S)) := by
  obtain ⟨M0, ⟨M4, M4s⟩, ⟨M5, M5s⟩, ⟨M6, M6s⟩, ⟨M7, M7s⟩, ⟨M20, M20s⟩, ⟨M21, M21s⟩, ⟨M22, M22s⟩, ⟨M26, M26s⟩, ⟨M27, M27s⟩, ⟨M28, M28s⟩, ⟨M30, M30s⟩, ⟨M34, M34s⟩, ⟨M36, M36s⟩, ⟨M37, M37s⟩⟩ := id M
  obtain ⟨I1, hI1, N1, h1, h0, e150, er, ek⟩ := mo_beg N
  have hD : mD I I1 := ⟨h1, h0, e150, er⟩
  have h' : I1 145 23 = nI mk := by rw [ek 23 (by omega)]; exact h
  have h2 : zcp (zu I1 145 23 (nI (mk + 1))) 150 150 (359 * 0) (359 * (mk + 1)) 359 145 23 = nI (mk + 1) := by rw [zcp_ne (by decide), zu_same]
  refine zEi_of (lv := [some (.ref 145)]) (by decide) rfl (Nat.le_of_ble_eq_true rfl) ?_
  refine z_aload_0 d_Mo_mark_0 ?_
  refine z_iconst (a := nI 0) d_Mo_mark_1 (by decide) ?_
  refine z_putI d_Mo_mark_2 f_Mo_70 (by first | assumption | exact zS0_at (by assumption) (by omega) | exact zS0_at rfl (by omega)) ?_
  refine z_aload_0 d_Mo_mark_5 ?_
  refine z_iconst (a := nI 0) d_Mo_mark_6 (by decide) ?_
  refine z_putI d_Mo_mark_7 f_Mo_73 (by first | assumption | exact zS0_at (by assumption) (by omega) | exact zS0_at rfl (by omega)) ?_
  rw [← hI1]
  refine z_aload_0 d_Mo_mark_10 ?_
  refine z_getIv d_Mo_mark_11 f_Mo_519 (by first | assumption | exact zS0_at (by assumption) (by omega) | exact zS0_at rfl (by omega)) (by first | assumption | ((try simp (disch := omega) only [zu_same, zu_ne, zcp_ne, zfl_ne]); first | assumption | rfl)) ?_
  refine z_iconst (a := nI 3) d_Mo_mark_14 (by decide) ?_
  refine z_icmp_ne (tgt := 25) d_Mo_mark_15 (by decide) (fun h15 => ?_) (fun h15 => ?_)
  · first
    | (simp (disch := omega) only [← nI_0, nI_leI, nI_ltI, nI_eq, not_true_eq_false, not_false_eq_true] at h15; done)
    | (simp (disch := omega) only [← nI_0, nI_leI, nI_ltI, nI_eq, not_true_eq_false, not_false_eq_true] at h15; omega)
    | contradiction
    | exact absurd h15 (Int32.not_lt.mpr (by assumption))
    | exact absurd h15 (Int32.not_le.mpr (by assumption))
    | exact absurd h15 (by decide)
    | exact absurd (by decide) h15
    | ( try simp (disch := omega) only [← nI_0, nI_leI, nI_ltI, nI_eq, not_true_eq_false, not_false_eq_true] at h15
        (try have h15b := zbit_n0.mp h15); (try have h15b := zbit_p0.mp h15)
        refine z_aload_0 d_Mo_mark_25 ?_
        refine z_dup rfl d_Mo_mark_26 ?_
        refine z_getIv d_Mo_mark_27 f_Mo_519 (by first | assumption | exact zS0_at (by assumption) (by omega) | exact zS0_at rfl (by omega)) (by first | assumption | ((try simp (disch := omega) only [zu_same, zu_ne, zcp_ne, zfl_ne]); first | assumption | rfl)) ?_
        refine z_iconst (a := nI 1) d_Mo_mark_30 (by decide) ?_
        first | refine z_iaddN d_Mo_mark_31 ?_ | refine z_iadd d_Mo_mark_31 ?_
        refine z_putI d_Mo_mark_32 f_Mo_519 (by first | assumption | exact zS0_at (by assumption) (by omega) | exact zS0_at rfl (by omega)) ?_
        refine z_aload_0 d_Mo_mark_35 ?_
        refine z_iconst (a := nI 0) d_Mo_mark_36 (by decide) ?_
        refine z_aload_0 d_Mo_mark_37 ?_
        refine z_getIv d_Mo_mark_38 f_Mo_519 (by first | assumption | exact zS0_at (by assumption) (by omega) | exact zS0_at rfl (by omega)) (by first | assumption | ((try simp (disch := omega) only [zu_same, zu_ne, zcp_ne, zfl_ne]); first | assumption | rfl)) ?_
        refine z_Vv2 d_Mo_mark_41 k_Mo_295 (by first | assumption | exact zS0_at (by assumption) (by omega) | exact zS0_at rfl (by omega)) (t_Mo_copy (c := 0) (d := mk + 1) M (by omega) (by omega) (by omega)) ⟨Nat.le_of_ble_eq_true rfl, Nat.le_of_ble_eq_true rfl, Nat.le_of_ble_eq_true rfl, Nat.le_of_ble_eq_true rfl⟩ (Nat.le_of_ble_eq_true rfl) ?_
        intro w hq
        obtain rfl := hq
        refine z_aload_0 d_Mo_mark_44 ?_
        refine z_getIv d_Mo_mark_45 f_Mo_519 (by first | assumption | exact zS0_at (by assumption) (by omega) | exact zS0_at rfl (by omega)) (by first | assumption | ((try simp (disch := omega) only [zu_same, zu_ne, zcp_ne, zfl_ne]); first | assumption | rfl)) ?_
        refine z_reti d_Mo_mark_48 ?_
        exact ⟨rfl, I1, hD, rfl⟩)
  · first
    | (simp (disch := omega) only [← nI_0, nI_leI, nI_ltI, nI_eq, not_true_eq_false, not_false_eq_true] at h15; done)
    | (simp (disch := omega) only [← nI_0, nI_leI, nI_ltI, nI_eq, not_true_eq_false, not_false_eq_true] at h15; omega)
    | contradiction
    | exact absurd h15 (Int32.not_lt.mpr (by assumption))
    | exact absurd h15 (Int32.not_le.mpr (by assumption))
    | exact absurd h15 (by decide)
    | exact absurd (by decide) h15
    | ( try simp (disch := omega) only [← nI_0, nI_leI, nI_ltI, nI_eq, not_true_eq_false, not_false_eq_true] at h15
        (try have h15b := zbit_n0.mp h15); (try have h15b := zbit_p0.mp h15)
        refine z_aload_0 d_Mo_mark_18 ?_
        refine z_bipush (a := nI 7) d_Mo_mark_19 (by decide) ?_
        refine z_Vi1 d_Mo_mark_21 k_Mo_327 (by first | assumption | exact zS0_at (by assumption) (by omega) | exact zS0_at rfl (by omega)) (t_Mo_refuse (by assumption)) ⟨Nat.le_of_ble_eq_true rfl, Nat.le_of_ble_eq_true rfl, Nat.le_of_ble_eq_true rfl, Nat.le_of_ble_eq_true rfl⟩ (Nat.le_of_ble_eq_true rfl) ?_
        intro r w hq
        obtain ⟨rfl, rfl⟩ := hq
        refine z_reti d_Mo_mark_24 ?_
        exact ⟨rfl, I1, hD, rfl⟩)
theorem t_Mo_back_x (M : modOk P S) (N : modIn I nt np nl nn) (h : I 145 23 = nI 0) : zEi G y_Mo_back prog_14_method_154_code 1 (some .int) 2 [.ref 145] (I, J, P, S) (fun r w => r = -1 ∧ mW I J P S 8 w) := by
  obtain ⟨M0, ⟨M4, M4s⟩, ⟨M5, M5s⟩, ⟨M6, M6s⟩, ⟨M7, M7s⟩, ⟨M20, M20s⟩, ⟨M21, M21s⟩, ⟨M22, M22s⟩, ⟨M26, M26s⟩, ⟨M27, M27s⟩, ⟨M28, M28s⟩, ⟨M30, M30s⟩, ⟨M34, M34s⟩, ⟨M36, M36s⟩, ⟨M37, M37s⟩⟩ := id M
  obtain ⟨I1, hI1, N1, h1, h0, e150, er, ek⟩ := mo_beg N
  have h' : I1 145 23 = nI 0 := by rw [ek 23 (by omega)]; exact h
  refine zEi_of (lv := [some (.ref 145)]) (by decide) rfl (Nat.le_of_ble_eq_true rfl) ?_
  refine z_aload_0 d_Mo_back_0 ?_
  refine z_iconst (a := nI 0) d_Mo_back_1 (by decide) ?_
  refine z_putI d_Mo_back_2 f_Mo_70 (by first | assumption | exact zS0_at (by assumption) (by omega) | exact zS0_at rfl (by omega)) ?_
  refine z_aload_0 d_Mo_back_5 ?_
  refine z_iconst (a := nI 0) d_Mo_back_6 (by decide) ?_
  refine z_putI d_Mo_back_7 f_Mo_73 (by first | assumption | exact zS0_at (by assumption) (by omega) | exact zS0_at rfl (by omega)) ?_
  rw [← hI1]
  refine z_aload_0 d_Mo_back_10 ?_
  refine z_getIv d_Mo_back_11 f_Mo_519 (by first | assumption | exact zS0_at (by assumption) (by omega) | exact zS0_at rfl (by omega)) (by first | assumption | ((try simp (disch := omega) only [zu_same, zu_ne, zcp_ne, zfl_ne]); first | assumption | rfl)) ?_
  refine z_if_ne (tgt := 24) d_Mo_back_14 (by decide) (fun h14 => ?_) (fun h14 => ?_)
  · first
    | (simp (disch := omega) only [← nI_0, nI_leI, nI_ltI, nI_eq, not_true_eq_false, not_false_eq_true] at h14; done)
    | (simp (disch := omega) only [← nI_0, nI_leI, nI_ltI, nI_eq, not_true_eq_false, not_false_eq_true] at h14; omega)
    | contradiction
    | exact absurd h14 (Int32.not_lt.mpr (by assumption))
    | exact absurd h14 (Int32.not_le.mpr (by assumption))
    | exact absurd h14 (by decide)
    | exact absurd (by decide) h14
    | ( try simp (disch := omega) only [← nI_0, nI_leI, nI_ltI, nI_eq, not_true_eq_false, not_false_eq_true] at h14
        (try have h14b := zbit_n0.mp h14); (try have h14b := zbit_p0.mp h14)
        fail)
  · first
    | (simp (disch := omega) only [← nI_0, nI_leI, nI_ltI, nI_eq, not_true_eq_false, not_false_eq_true] at h14; done)
    | (simp (disch := omega) only [← nI_0, nI_leI, nI_ltI, nI_eq, not_true_eq_false, not_false_eq_true] at h14; omega)
    | contradiction
    | exact absurd h14 (Int32.not_lt.mpr (by assumption))
    | exact absurd h14 (Int32.not_le.mpr (by assumption))
    | exact absurd h14 (by decide)
    | exact absurd (by decide) h14
    | ( try simp (disch := omega) only [← nI_0, nI_leI, nI_ltI, nI_eq, not_true_eq_false, not_false_eq_true] at h14
        (try have h14b := zbit_n0.mp h14); (try have h14b := zbit_p0.mp h14)
        refine z_aload_0 d_Mo_back_17 ?_
        refine z_bipush (a := nI 8) d_Mo_back_18 (by decide) ?_
        refine z_Vi1 d_Mo_back_20 k_Mo_327 (by first | assumption | exact zS0_at (by assumption) (by omega) | exact zS0_at rfl (by omega)) (t_Mo_refuse (by assumption)) ⟨Nat.le_of_ble_eq_true rfl, Nat.le_of_ble_eq_true rfl, Nat.le_of_ble_eq_true rfl, Nat.le_of_ble_eq_true rfl⟩ (Nat.le_of_ble_eq_true rfl) ?_
        intro r w hq
        obtain ⟨rfl, rfl⟩ := hq
        refine z_reti d_Mo_back_23 ?_
        exact ⟨rfl, _, _, rfl, mqF_z h1 (by decide), mqJ_r, zu_same _ _ _ _⟩)
theorem t_Mo_back (M : modOk P S) (N : modIn I nt np nl nn) (h : I 145 23 = nI (m + 1)) (hm : m < 3) : zEi G y_Mo_back prog_14_method_154_code 1 (some .int) 2 [.ref 145] (I, J, P, S) (fun r w => r = nI m ∧ ∃ I1, mD I I1 ∧ w = (zu (zcp I1 150 150 (359 * (m + 1)) (359 * 0) 359) 145 23 (nI m), zcp J 152 152 (22 * (m + 1)) (22 * 0) 22, P, S)) := by
  obtain ⟨M0, ⟨M4, M4s⟩, ⟨M5, M5s⟩, ⟨M6, M6s⟩, ⟨M7, M7s⟩, ⟨M20, M20s⟩, ⟨M21, M21s⟩, ⟨M22, M22s⟩, ⟨M26, M26s⟩, ⟨M27, M27s⟩, ⟨M28, M28s⟩, ⟨M30, M30s⟩, ⟨M34, M34s⟩, ⟨M36, M36s⟩, ⟨M37, M37s⟩⟩ := id M
  obtain ⟨I1, hI1, N1, h1, h0, e150, er, ek⟩ := mo_beg N
  have hD : mD I I1 := ⟨h1, h0, e150, er⟩
  have h' : I1 145 23 = nI (m + 1) := by rw [ek 23 (by omega)]; exact h
  have h2 : zcp I1 150 150 (359 * (m + 1)) (359 * 0) 359 145 23 = nI (m + 1) := by rw [zcp_ne (by decide)]; exact h'
  have e1 : m + 1 - 1 = m := by omega
  have hn : ¬ nI (m + 1) = 0 := nI_ne0 (by omega) (by omega)
  refine zEi_of (lv := [some (.ref 145)]) (by decide) rfl (Nat.le_of_ble_eq_true rfl) ?_
  refine z_aload_0 d_Mo_back_0 ?_
  refine z_iconst (a := nI 0) d_Mo_back_1 (by decide) ?_
  refine z_putI d_Mo_back_2 f_Mo_70 (by first | assumption | exact zS0_at (by assumption) (by omega) | exact zS0_at rfl (by omega)) ?_
  refine z_aload_0 d_Mo_back_5 ?_
  refine z_iconst (a := nI 0) d_Mo_back_6 (by decide) ?_
  refine z_putI d_Mo_back_7 f_Mo_73 (by first | assumption | exact zS0_at (by assumption) (by omega) | exact zS0_at rfl (by omega)) ?_
  rw [← hI1]
  refine z_aload_0 d_Mo_back_10 ?_
  refine z_getIv d_Mo_back_11 f_Mo_519 (by first | assumption | exact zS0_at (by assumption) (by omega) | exact zS0_at rfl (by omega)) (by first | assumption | ((try simp (disch := omega) only [zu_same, zu_ne, zcp_ne, zfl_ne]); first | assumption | rfl)) ?_
  refine z_if_ne (tgt := 24) d_Mo_back_14 (by decide) (fun _ => ?_) (fun h => absurd h hn)
  refine z_aload_0 d_Mo_back_24 ?_
  refine z_aload_0 d_Mo_back_25 ?_
  refine z_getIv d_Mo_back_26 f_Mo_519 (by first | assumption | exact zS0_at (by assumption) (by omega) | exact zS0_at rfl (by omega)) (by first | assumption | ((try simp (disch := omega) only [zu_same, zu_ne, zcp_ne, zfl_ne]); first | assumption | rfl)) ?_
  refine z_iconst (a := nI 0) d_Mo_back_29 (by decide) ?_
  refine z_Vv2 d_Mo_back_30 k_Mo_295 (by first | assumption | exact zS0_at (by assumption) (by omega) | exact zS0_at rfl (by omega)) (t_Mo_copy (c := m + 1) (d := 0) M (by omega) (by omega) (by omega)) ⟨Nat.le_of_ble_eq_true rfl, Nat.le_of_ble_eq_true rfl, Nat.le_of_ble_eq_true rfl, Nat.le_of_ble_eq_true rfl⟩ (Nat.le_of_ble_eq_true rfl) ?_
  intro w hq
  obtain rfl := hq
  refine z_aload_0 d_Mo_back_33 ?_
  refine z_dup rfl d_Mo_back_34 ?_
  refine z_getIv d_Mo_back_35 f_Mo_519 (by first | assumption | exact zS0_at (by assumption) (by omega) | exact zS0_at rfl (by omega)) (by first | assumption | ((try simp (disch := omega) only [zu_same, zu_ne, zcp_ne, zfl_ne]); first | assumption | rfl)) ?_
  refine z_iconst (a := nI 1) d_Mo_back_38 (by decide) ?_
  refine z_isubN d_Mo_back_39 (by omega) ?_
  rw [e1]
  refine z_putI d_Mo_back_40 f_Mo_519 (by first | assumption | exact zS0_at (by assumption) (by omega) | exact zS0_at rfl (by omega)) ?_
  refine z_aload_0 d_Mo_back_43 ?_
  refine z_getIv d_Mo_back_44 f_Mo_519 (by first | assumption | exact zS0_at (by assumption) (by omega) | exact zS0_at rfl (by omega)) (by first | assumption | ((try simp (disch := omega) only [zu_same, zu_ne, zcp_ne, zfl_ne]); first | assumption | rfl)) ?_
  refine z_reti d_Mo_back_47 ?_
  exact ⟨rfl, I1, hD, rfl⟩
theorem L_mark (h : zInv n w) : zEi G y_Tf_mark prog_1_method_51_code 1 (some .int) 4 [.ref 0] w (fun r w1 => w1.2.2.2 = w.2.2.2 ∧ zEi G y_Mo_mark prog_14_method_153_code 1 (some .int) 2 [.ref 145] w1 (fun r' w2 => r' = r ∧ zInv (n + 1) w2)) := by
  obtain ⟨f, d, nt, np, nl, nn, fed, mk, I, J, P, S, rfl, Z, X⟩ := h
  have M := clOk_M Z
  have hf := clOk_f Z
  have N := stR_fen X
  have N0 := stR_mod X
  have fm := stR_fm X
  obtain ⟨⟨⟨a1, r1, b1⟩, ⟨a2, r2, b2⟩, ⟨a3, r3, b3⟩, ⟨a4, r4, b4⟩⟩, ⟨⟨o, ob, ao, ro⟩, r5⟩, fw, fp, ft, fz⟩ := id fm
  obtain ⟨⟨x1, x2, x3⟩, x4, ⟨⟨x5, x6, x7⟩, x8, x9⟩, ⟨x10, x11⟩, x12, x13, ⟨⟨x14, x15, x16⟩, x17⟩, x18⟩ := id X
  by_cases hm : mk = 3
  · subst hm
    exact L_q Z X (t_Tf_mark_x Z x14) (fun I' J' e _ => ⟨_, rfl, t_Mo_mark_x M (modIn_c N0 (e 150 (by decide))) (by rw [e 145 (by decide)]; exact x15)⟩)
  have hm : mk < 3 := by omega
  obtain ⟨sz, s1, s2, s3⟩ := yrR_sz x13.2.2
  refine zEi_mono (t_Tf_mark Z x14 hm s1 s2 s3) ?_
  rintro r w ⟨rfl, rfl⟩
  have h150 : ∀ a, 145 ≤ a → zu (zu (s_cpF I f (70 + 17 * mk) sz) 0 13 (nI (mk + 1))) 0 0 (nI 0) a = I a := fun a ha => by rw [zu_row _ _ _ _ (by omega), zu_row _ _ _ _ (by omega), cpF_o (by omega)]
  refine ⟨rfl, zEi_mono (t_Mo_mark M (modIn_c N0 (h150 150 (by decide))) (by rw [h150 145 (by decide)]; exact x15) hm) ?_⟩
  rintro r w ⟨rfl, I1, hD, rfl⟩
  obtain ⟨d1, d2, d3, d4⟩ := hD
  rw [h150 150 (by decide)] at d3
  refine ⟨rfl, f, d, nt, np, nl, nn, fed, mk + 1, _, _, P, S, rfl, Z, ?_⟩
  generalize hI2 : zcp (zu I1 145 23 (nI (mk + 1))) 150 150 (359 * 0) (359 * (mk + 1)) 359 = I2
  generalize hJ2 : zcp (s_cpN J f (70 + 17 * mk)) 152 152 (22 * 0) (22 * (mk + 1)) 22 = J2
  have e : ∀ a, a ≠ 145 → a ≠ 150 → I2 a = zu (zu (s_cpF I f (70 + 17 * mk) sz) 0 13 (nI (mk + 1))) 0 0 (nI 0) a := fun a g1 g2 => by rw [← hI2, zcp_ne g2, zu_row _ _ _ _ g1, d4 a g1]
  have ek : ∀ a, a ≠ 0 → a ≠ 145 → a ≠ 150 → ¬ (70 + 17 * mk ≤ a ∧ a ≤ 70 + 17 * mk + 16) → I2 a = I a := fun a g0 g1 g2 g3 => by rw [e a g1 g2, zu_row _ _ _ _ g0, zu_row _ _ _ _ g0, cpF_o g3]
  have et : ∀ a, 70 + 17 * mk ≤ a → a ≤ 70 + 17 * mk + 16 → I2 a = s_cpF I f (70 + 17 * mk) sz a := fun a g1 g2 => by rw [e a (by omega) (by omega), zu_row _ _ _ _ (by omega), zu_row _ _ _ _ (by omega)]
  have eb : ∀ k, k < 359 * (mk + 1) → I2 150 k = I 150 k := fun k hk => by rw [← hI2, zcp_out (by omega), zu_row _ _ _ _ (by decide), d3]
  have en : ∀ k, k < 359 → I2 150 (359 * (mk + 1) + k) = I 150 (359 * 0 + k) := fun k hk => by rw [← hI2, zcp_in (by omega) (by omega), zu_row _ _ _ _ (by decide), d3, show 359 * 0 + (359 * (mk + 1) + k - 359 * (mk + 1)) = 359 * 0 + k by omega]
  have e0 : ∀ k, k ≠ 0 → k ≠ 13 → I2 0 k = I 0 k := fun k g1 g2 => by rw [e 0 (by decide) (by decide), zu_ne _ _ _ _ (by omega), zu_ne _ _ _ _ (by omega), cpF_o (by omega)]
  have e145 : ∀ k, (k = 8 ∨ k = 10 ∨ k = 11 ∨ k = 38) → I2 145 k = I 145 k := fun k hk => by rw [← hI2, zcp_ne (by decide), zu_ne _ _ _ _ (by omega), d1.2 k (by omega), h150 145 (by decide)]
  have j1 : ∀ a, a ≠ 152 → ¬ (70 + 17 * mk + 9 ≤ a ∧ a ≤ 70 + 17 * mk + 11) → J2 a = J a := fun a g1 g2 => by rw [← hJ2, zcp_ne g1, cpN_o g2]
  have jt : ∀ a, a ≠ 152 → J2 a = s_cpN J f (70 + 17 * mk) a := fun a g1 => by rw [← hJ2, zcp_ne g1]
  have jb : ∀ k, k < 22 * (mk + 1) → J2 152 k = J 152 k := fun k hk => by rw [← hJ2, zcp_out (by omega), cpN_o (by omega)]
  have jn : ∀ k, k < 22 → J2 152 (22 * (mk + 1) + k) = J 152 (22 * 0 + k) := fun k hk => by rw [← hJ2, zcp_in (by omega) (by omega), cpN_o (by omega), show 22 * 0 + (22 * (mk + 1) + k - 22 * (mk + 1)) = 22 * 0 + k by omega]
  obtain ⟨c1, c2, c3, c4, c5, c6⟩ := cpF_all (I := I) (g := f) (f := 70 + 17 * mk) (sz := sz) (by omega) s1
  have hd : 70 + 17 * mk + 16 < f ∨ f + 16 < 70 + 17 * mk := by omega
  refine ⟨⟨?_, ?_, ?_⟩, fun t ht => ?_, ⟨⟨(e0 4 (by omega) (by omega)).trans x5, (e145 8 (by omega)).trans x6, x7⟩, fun k hk => ?_, ?_⟩, ⟨?_, ?_⟩, fun i hi => ?_, ?_, ⟨⟨?_, ?_, by omega⟩, fun m hm' => ?_⟩, ?_⟩
  · rw [← hI2, zcp_ne (by decide), zu_ne _ _ _ _ (by omega), d2, zcp_ne (by decide), zu_row _ _ _ _ (by decide), d4 0 (by decide), zu_same]
  · rw [j1 145 (by omega) (by omega), j1 0 (by omega) (by omega)]; exact x2
  · rw [j1 145 (by omega) (by omega), j1 0 (by omega) (by omega)]; exact x3
  · exact trR_c (x4 t ht) (ek _ (by omega) (by omega) (by omega) (by omega)) (by rw [ek 147 (by omega) (by omega) (by omega) (by omega)]) (by rw [ek 146 (by omega) (by omega) (by omega) (by omega)]) (j1 _ (by omega) (by omega)) (fun p _ => by rw [j1 148 (by omega) (by omega)])
  · rw [ek 149 (by omega) (by omega) (by omega) (by omega), ek 1 (by omega) (by omega) (by omega) (by omega)]; exact x8 k hk
  · rw [ek 1 (by omega) (by omega) (by omega) (by omega)]; exact x9
  · rw [e145 10 (by omega), ek 11 (by omega) (by omega) (by omega) (by omega)]; exact x10
  · rw [e145 11 (by omega), ek 11 (by omega) (by omega) (by omega) (by omega)]; exact x11
  · rw [j1 13 (by omega) (by omega)]; exact x12 i hi
  · exact fnR_g (fnR_c x13 (fun a g1 g2 => ek a (by omega) (by omega) (by omega) (by omega)) (fun k hk => eb _ (by omega)) (fun a g1 g2 => j1 a (by omega) (by omega)) (fun k hk => jb _ (by omega))) (by omega)
  · rw [e 0 (by decide) (by decide), zu_ne _ _ _ _ (by omega), zu_same]
  · rw [← hI2, zcp_ne (by decide), zu_same]
  · by_cases hmm : m = mk
    · subst hmm
      refine ⟨nt, np, nl, nn, fnR_g (fnR_cp x13 (fun k hk => ?_) (fun k hk => ?_) (fun r k h1 h2 hk => ?_) (fun r k h1 h2 hk => ?_) (fun k hk => ?_) (fun z r k h0 hz h1 h2 hk => ?_) en (fun k hk => ?_) (fun k hk => ?_) (fun k hk => ?_) jn) (by omega)⟩
      · rw [et _ (by omega) (by omega)]; exact c1 k hk
      · rw [et _ (by omega) (by omega)]; exact c2 k hk
      · rw [et _ (by omega) (by omega)]; exact c3 r k h1 h2 hk
      · rw [et _ (by omega) (by omega)]; exact c4 r k h1 h2 hk
      · rw [et _ (by omega) (by omega)]; exact c5 k hk
      · obtain rfl : z = sz := (nI_eq (by omega) (by omega)).mp (h0.symm.trans s1)
        rw [et _ (by omega) (by omega)]; exact c6 r k h1 h2 hk
      · rw [jt _ (by omega)]; exact cpN_9 hd hk
      · rw [jt _ (by omega)]; exact cpN_10 hd hk
      · rw [jt _ (by omega)]; exact cpN_11 hd hk
    · obtain ⟨nt', np', nl', nn', q⟩ := x17 m (by omega)
      exact ⟨nt', np', nl', nn', fnR_g (fnR_c q (fun a g1 g2 => ek a (by omega) (by omega) (by omega) (by omega)) (fun k hk => eb _ (by omega)) (fun a g1 g2 => j1 a (by omega) (by omega)) (fun k hk => jb _ (by omega))) (by omega)⟩
  · unfold lvR at x18 ⊢
    rw [ek 121 (by omega) (by omega) (by omega) (by omega), ek 159 (by omega) (by omega) (by omega) (by omega), e145 38 (by omega)]
    exact x18
theorem L_back (h : zInv n w) : zEi G y_Tf_back prog_1_method_52_code 1 (some .int) 4 [.ref 0] w (fun r w1 => w1.2.2.2 = w.2.2.2 ∧ zEi G y_Mo_back prog_14_method_154_code 1 (some .int) 2 [.ref 145] w1 (fun r' w2 => r' = r ∧ zInv (n + 1) w2)) := by
  obtain ⟨f, d, nt, np, nl, nn, fed, mk, I, J, P, S, rfl, Z, X⟩ := h
  have M := clOk_M Z
  have hf := clOk_f Z
  have N := stR_fen X
  have N0 := stR_mod X
  have fm := stR_fm X
  obtain ⟨⟨⟨a1, r1, b1⟩, ⟨a2, r2, b2⟩, ⟨a3, r3, b3⟩, ⟨a4, r4, b4⟩⟩, ⟨⟨o, ob, ao, ro⟩, r5⟩, fw, fp, ft, fz⟩ := id fm
  obtain ⟨⟨x1, x2, x3⟩, x4, ⟨⟨x5, x6, x7⟩, x8, x9⟩, ⟨x10, x11⟩, x12, x13, ⟨⟨x14, x15, x16⟩, x17⟩, x18⟩ := id X
  cases mk with
  | zero => exact L_q Z X (t_Tf_back_x Z x14) (fun I' J' e _ => ⟨_, rfl, t_Mo_back_x M (modIn_c N0 (e 150 (by decide))) (by rw [e 145 (by decide)]; exact x15)⟩)
  | succ m =>
    have hm : m < 3 := by omega
    obtain ⟨nt', np', nl', nn', y13⟩ := x17 m (by omega)
    obtain ⟨sz, s1, s2, s3⟩ := yrR_sz y13.2.2
    refine zEi_mono (t_Tf_back Z x14 hm s1 s2 s3) ?_
    rintro r w ⟨rfl, rfl⟩
    have h150 : ∀ a, 145 ≤ a → zu (s_cpF (zu I 0 13 (nI m)) (70 + 17 * m) f sz) 0 0 (nI 0) a = I a := fun a ha => by rw [zu_row _ _ _ _ (by omega), cpF_o (by omega), zu_row _ _ _ _ (by omega)]
    refine ⟨rfl, zEi_mono (t_Mo_back M (modIn_c N0 (h150 150 (by decide))) (by rw [h150 145 (by decide)]; exact x15) hm) ?_⟩
    rintro r w ⟨rfl, I1, hD, rfl⟩
    obtain ⟨d1, d2, d3, d4⟩ := hD
    rw [h150 150 (by decide)] at d3
    refine ⟨rfl, f, d, nt', np', nl', nn', fed, m, _, _, P, S, rfl, Z, ?_⟩
    generalize hI2 : zu (zcp I1 150 150 (359 * (m + 1)) (359 * 0) 359) 145 23 (nI m) = I2
    generalize hJ2 : zcp (s_cpN J (70 + 17 * m) f) 152 152 (22 * (m + 1)) (22 * 0) 22 = J2
    have e : ∀ a, a ≠ 145 → a ≠ 150 → I2 a = zu (s_cpF (zu I 0 13 (nI m)) (70 + 17 * m) f sz) 0 0 (nI 0) a := fun a g1 g2 => by rw [← hI2, zu_row _ _ _ _ g1, zcp_ne g2, d4 a g1]
    have ek : ∀ a, a ≠ 0 → a ≠ 145 → a ≠ 150 → ¬ (f ≤ a ∧ a ≤ f + 16) → I2 a = I a := fun a g0 g1 g2 g3 => by rw [e a g1 g2, zu_row _ _ _ _ g0, cpF_o g3, zu_row _ _ _ _ g0]
    have et : ∀ a, f ≤ a → a ≤ f + 16 → I2 a = s_cpF (zu I 0 13 (nI m)) (70 + 17 * m) f sz a := fun a g1 g2 => by rw [e a (by omega) (by omega), zu_row _ _ _ _ (by omega)]
    have eb : ∀ k, 359 ≤ k → I2 150 k = I 150 k := fun k hk => by rw [← hI2, zu_row _ _ _ _ (by decide), zcp_out (by omega), d3]
    have en : ∀ k, k < 359 → I2 150 (359 * 0 + k) = I 150 (359 * (m + 1) + k) := fun k hk => by rw [← hI2, zu_row _ _ _ _ (by decide), zcp_in (by omega) (by omega), d3, show 359 * (m + 1) + (359 * 0 + k - 359 * 0) = 359 * (m + 1) + k by omega]
    have e0 : ∀ k, k ≠ 0 → k ≠ 13 → I2 0 k = I 0 k := fun k g1 g2 => by rw [e 0 (by decide) (by decide), zu_ne _ _ _ _ (by omega), cpF_o (by omega), zu_ne _ _ _ _ (by omega)]
    have e145 : ∀ k, (k = 8 ∨ k = 10 ∨ k = 11 ∨ k = 38) → I2 145 k = I 145 k := fun k hk => by rw [← hI2, zu_ne _ _ _ _ (by omega), zcp_ne (by decide), d1.2 k (by omega), h150 145 (by decide)]
    have j1 : ∀ a, a ≠ 152 → ¬ (f + 9 ≤ a ∧ a ≤ f + 11) → J2 a = J a := fun a g1 g2 => by rw [← hJ2, zcp_ne g1, cpN_o g2]
    have jt : ∀ a, a ≠ 152 → J2 a = s_cpN J (70 + 17 * m) f a := fun a g1 => by rw [← hJ2, zcp_ne g1]
    have jb : ∀ k, 22 ≤ k → J2 152 k = J 152 k := fun k hk => by rw [← hJ2, zcp_out (by omega), cpN_o (by omega)]
    have jn : ∀ k, k < 22 → J2 152 (22 * 0 + k) = J 152 (22 * (m + 1) + k) := fun k hk => by rw [← hJ2, zcp_in (by omega) (by omega), cpN_o (by omega), show 22 * (m + 1) + (22 * 0 + k - 22 * 0) = 22 * (m + 1) + k by omega]
    have r0 : ∀ r, zu I 0 13 (nI m) (70 + 17 * m + r) = I (70 + 17 * m + r) := fun r => zu_row _ _ _ _ (by omega)
    obtain ⟨c1, c2, c3, c4, c5, c6⟩ := cpF_all (I := zu I 0 13 (nI m)) (g := 70 + 17 * m) (f := f) (sz := sz) (by omega) (by rw [r0 12]; exact s1)
    have hd : f + 16 < 70 + 17 * m ∨ 70 + 17 * m + 16 < f := by omega
    refine ⟨⟨?_, ?_, ?_⟩, fun t ht => ?_, ⟨⟨(e0 4 (by omega) (by omega)).trans x5, (e145 8 (by omega)).trans x6, x7⟩, fun k hk => ?_, ?_⟩, ⟨?_, ?_⟩, fun i hi => ?_, ?_, ⟨⟨?_, ?_, by omega⟩, fun m' hm' => ?_⟩, ?_⟩
    · rw [← hI2, zu_ne _ _ _ _ (by omega), zcp_ne (by decide), d2, zu_row _ _ _ _ (by decide), zcp_ne (by decide), d4 0 (by decide), zu_same]
    · rw [j1 145 (by omega) (by omega), j1 0 (by omega) (by omega)]; exact x2
    · rw [j1 145 (by omega) (by omega), j1 0 (by omega) (by omega)]; exact x3
    · exact trR_c (x4 t ht) (ek _ (by omega) (by omega) (by omega) (by omega)) (by rw [ek 147 (by omega) (by omega) (by omega) (by omega)]) (by rw [ek 146 (by omega) (by omega) (by omega) (by omega)]) (j1 _ (by omega) (by omega)) (fun p _ => by rw [j1 148 (by omega) (by omega)])
    · rw [ek 149 (by omega) (by omega) (by omega) (by omega), ek 1 (by omega) (by omega) (by omega) (by omega)]; exact x8 k hk
    · rw [ek 1 (by omega) (by omega) (by omega) (by omega)]; exact x9
    · rw [e145 10 (by omega), ek 11 (by omega) (by omega) (by omega) (by omega)]; exact x10
    · rw [e145 11 (by omega), ek 11 (by omega) (by omega) (by omega) (by omega)]; exact x11
    · rw [j1 13 (by omega) (by omega)]; exact x12 i hi
    · refine fnR_g (fnR_cp y13 (fun k hk => ?_) (fun k hk => ?_) (fun r k h1 h2 hk => ?_) (fun r k h1 h2 hk => ?_) (fun k hk => ?_) (fun z r k h0 hz h1 h2 hk => ?_) en (fun k hk => ?_) (fun k hk => ?_) (fun k hk => ?_) jn) (by omega)
      · rw [et _ (by omega) (by omega), c1 k hk, zu_row _ _ _ _ (by omega)]
      · rw [et _ (by omega) (by omega), c2 k hk, r0]
      · rw [et _ (by omega) (by omega), c3 r k h1 h2 hk, r0]
      · rw [et _ (by omega) (by omega), c4 r k h1 h2 hk, r0]
      · rw [et _ (by omega) (by omega), c5 k hk, r0]
      · obtain rfl : z = sz := (nI_eq (by omega) (by omega)).mp (h0.symm.trans s1)
        rw [et _ (by omega) (by omega), c6 r k h1 h2 hk, Nat.add_assoc, r0]
      · rw [jt _ (by omega)]; exact cpN_9 hd hk
      · rw [jt _ (by omega)]; exact cpN_10 hd hk
      · rw [jt _ (by omega)]; exact cpN_11 hd hk
    · rw [e 0 (by decide) (by decide), zu_ne _ _ _ _ (by omega), cpF_o (by omega), zu_same]
    · rw [← hI2, zu_same]
    · obtain ⟨nt', np', nl', nn', q⟩ := x17 m' (by omega)
      exact ⟨nt', np', nl', nn', fnR_g (fnR_c q (fun a g1 g2 => ek a (by omega) (by omega) (by omega) (by omega)) (fun k hk => eb _ (by omega)) (fun a g1 g2 => j1 a (by omega) (by omega)) (fun k hk => jb _ (by omega))) (by omega)⟩
    · unfold lvR at x18 ⊢
      rw [ek 121 (by omega) (by omega) (by omega) (by omega), ek 159 (by omega) (by omega) (by omega) (by omega), e145 38 (by omega)]
      exact x18
end MK0
