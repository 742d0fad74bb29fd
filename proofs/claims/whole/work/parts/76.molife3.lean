/-! the reference: a run, beside the class's -/
section ML2
variable {G : zG} {I I1 : Nat → Nat → Int32} {J : Nat → Nat → Int64} {P : Nat → Nat → Option Nat} {S : List (Nat × Nat)} {f l nt np nl nn sz g s : Nat} {a b fa : Int32} {C C' A Q : Nat → Nat → Int32}
def rR (f l nt np nl nn : Nat) (fa : Int32) (g s : Nat) (C I : Nat → Nat → Int32) : Prop := rD f l nt np nl nn fa (g + 99 * s) C I ∧ (I 145 41 = nI s ∧ C l 1 = nI s ∧ s ≤ 300) ∧ I 145 42 = C l 2 ∧ I 145 46 = C l 6
def cK (f l : Nat) (C C' : Nat → Nat → Int32) : Prop := ∀ a, ¬ (f ≤ a ∧ a ≤ f + 8) → a ≠ l → a ≠ l + 1 → C' a = C a
/-- a run in its midst: both tables, where the class's machine is, what the program is -/
def rM (f l nt np nl nn sz : Nat) (fa : Int32) (g : Nat) (A Q : Nat → Nat → Int32) (s i : Nat) (C I : Nat → Nat → Int32) : Prop := rR f l nt np nl nn fa g s C I ∧ C l 8 = nI i ∧ (∀ r, r ≤ 4 → C (f + 12 + r) = A r) ∧ (∀ c k, c < 30 → k < 9 → I 150 (89 + 9 * c + k) = Q c k) ∧ (A 0 2 = nI sz ∧ sz ≤ 60)
def rP (f l nt np nl nn sz : Nat) (fa : Int32) (g : Nat) (A Q : Nat → Nat → Int32) (C I : Nat → Nat → Int32) (s lo j : Nat) (J : Nat → Nat → Int64) (P : Nat → Nat → Option Nat) (S : List (Nat × Nat)) (w : zW) : Prop := ∃ (C' I' : Nat → Nat → Int32) (s' N i' : Nat), w = (I', J, P, S) ∧ rF I I' ∧ rM f l nt np nl nn sz fa g A Q s' i' C' I' ∧ s ≤ s' ∧ cK f l C C' ∧ (∀ k, k < lo → C' (l + 1) k = C (l + 1) k) ∧ (∀ M, c_its f l (N + M) C = c_its f l M C') ∧ ((I' 145 39 = nI 0 ∧ i' = j ∧ N ≤ 200 * (s' - s)) ∨ (I' 145 39 = nI 1 ∧ (sz ≤ i' ∧ i' ≤ 61) ∧ N ≤ 200 * (s' - s) + 1))
theorem rR_C (hl : f + 16 < l) (h : rR f l nt np nl nn fa g s C I) (h1 : ∀ a, f ≤ a → a ≤ f + 8 → C' a = C a) (h2 : ∀ k, k ≠ 8 → C' l k = C l k) : rR f l nt np nl nn fa g s C' I := by
  obtain ⟨a1, ⟨a2, a3, a4⟩, a5, a6⟩ := h
  exact ⟨rD_C a1 h1 (h2 7 (by decide)), ⟨a2, (h2 1 (by decide)).trans a3, a4⟩, a5.trans (h2 2 (by decide)).symm, a6.trans (h2 6 (by decide)).symm⟩
theorem it_go {i : Nat} (W : rM f l nt np nl nn sz fa g A Q s i C I) (hi : i < sz) (M : Nat) : c_its f l (1 + M) C = c_its f l M (c_it C f l) := by
  obtain ⟨-, w2, w3, -, w5, w6⟩ := W
  have e : C (f + 12) 2 = nI sz := by rw [← w5, ← w3 0 (by decide)]
  rw [Nat.add_comm, c_its, w2, e, nI_clamp (by omega), nI_clamp (by omega), if_pos hi]
theorem rM_op {i : Nat} (W : rM f l nt np nl nn sz fa g A Q s i C I) : C (f + 13) = A 1 ∧ C (f + 14) = A 2 ∧ C (f + 15) = A 3 ∧ C (f + 16) = A 4 ∧ C (f + 12) 2 = nI sz := by
  obtain ⟨-, -, w3, -, w5, -⟩ := W
  exact ⟨w3 1 (by decide), w3 2 (by decide), w3 3 (by decide), w3 4 (by decide), by rw [← w5, ← w3 0 (by decide)]⟩
/-- at an end of a block that is no loop's, or of a loop -/
theorem end_go {i E : Nat} (hl : f + 16 < l) (W : rM f l nt np nl nn sz fa g A Q s E C I) (hE : E < sz) (hi : i < 60) (h19 : A 1 E = nI 19) (hk : A 4 E = nI i) : c_it C f l = c_end C f l E ∧ ∀ (X : Nat → Nat → Int32) (j : Nat), (∀ a, a ≠ l → a ≠ l + 1 → X a = C a) → (∀ k, k ≠ 8 → X l k = C l k) → X l 8 = nI j → rM f l nt np nl nn sz fa g A Q s j X I := by
  have o := rM_op W
  obtain ⟨w1, w2, w3, w4, w5⟩ := W
  constructor
  · unfold c_it
    rw [w2, nI_clamp (by omega), o.1, if_pos h19]
  · intro X j h1 h2 h3
    exact ⟨rR_C hl w1 (fun a g1 g2 => h1 a (by omega) (by omega)) h2, h3, fun r hr => by rw [h1 _ (by omega) (by omega)]; exact w3 r hr, w4, w5⟩
theorem opv_n {n : yN} {i x : Nat} (h : yst n A Q i x ∨ ybk n A Q i x) : ¬ A 1 i = nI 19 := by
  intro h19
  have : opv n A 0 i ∨ True := Or.inr trivial
  rcases h with hv | hv
  · rcases hv with ⟨x, p, -, -, o1, -⟩ | ⟨x, -, o1, -⟩ | ⟨p, k, -, -, ⟨o1, -⟩ | ⟨o1, -⟩, -⟩ | ⟨o1, -⟩ | ⟨o1, -⟩ <;> (rw [h19] at o1; exact absurd o1 (by decide))
  · rcases hv with ⟨m, -, -, o1, -⟩ | ⟨-, ⟨x, p, -, -, o1, -⟩ | ⟨x, -, o1, -⟩ | ⟨p, j, v, -, hj, -, o1, -⟩⟩
    · rw [h19] at o1; exact absurd o1 (by decide)
    · rw [h19] at o1; exact absurd o1 (by decide)
    · rw [h19] at o1; exact absurd o1 (by decide)
    · rw [h19] at o1
      rcases hj with rfl | rfl | rfl <;> exact absurd o1 (by decide)
theorem m_doOne {D m x i j : Nat} (M : modOk P S) (hl : f + 16 < l) (hD : 6 ≤ D) (hA : ∀ (x y i j s : Nat) (C I : Nat → Nat → Int32), yb (n3 nt np nn) A Q m x y i j → j ≤ sz → y ≤ 30 → rM f l nt np nl nn sz fa g A Q s i C I → I 145 39 = nI 0 → zEv G y_Mo_doAll prog_14_method_147_code 4 D 0 0 [.ref 145, .int (nI x), .int (nI y)] (I, J, P, S) (fun w => rP f l nt np nl nn sz fa g A Q C I s i j J P S w)) (W : rM f l nt np nl nn sz fa g A Q s i C I) (h39 : I 145 39 = nI 0) (hx : x < 30) (hi : i < sz) (H : (yst (n3 nt np nn) A Q i x ∧ j = i + 1) ∨ (∃ e E, ybk (n3 nt np nn) A Q i x ∧ Q x 8 = nI e ∧ A 4 i = nI E ∧ A 1 E = nI 19 ∧ A 4 E = nI i ∧ yb (n3 nt np nn) A Q m (x + 1) e (i + 1) E ∧ j = E + 1 ∧ E < sz ∧ e ≤ 30)) : zEv G y_Mo_doOne prog_14_method_146_code 5 (D+1) 0 0 [.ref 145, .int (nI x)] (I, J, P, S) (fun w => rP f l nt np nl nn sz fa g A Q C I s i j J P S w) := by
  have M' := M
  obtain ⟨M0, ⟨M4, M4s⟩, ⟨M5, M5s⟩, ⟨M6, M6s⟩, ⟨M7, M7s⟩, ⟨M20, M20s⟩, ⟨M21, M21s⟩, ⟨M22, M22s⟩, ⟨M26, M26s⟩, ⟨M27, M27s⟩, ⟨M28, M28s⟩, ⟨M30, M30s⟩, ⟨M34, M34s⟩, ⟨M36, M36s⟩, ⟨M37, M37s⟩⟩ := id M
  have W' := W
  have go1 := it_go W hi
  obtain ⟨q13, q14, q15, q16, q12⟩ := rM_op W
  obtain ⟨⟨R1, ⟨R2, R3, R4⟩, R5, R6⟩, w2, w3, w4, w5, w6⟩ := W
  have hno : ¬ A 1 i = nI 19 := opv_n (n := n3 nt np nn) (Q := Q) (x := x) (by rcases H with h | ⟨e, E, h, -⟩; exact Or.inl h.1; exact Or.inr h)
  have hlf : ¬ (f ≤ l ∧ l ≤ f + 16) := by omega
  refine zEv_of (lv := [some (.ref 145), some (.int (nI x)), none, none, none]) (by decide) rfl (Nat.le_of_ble_eq_true rfl) ?_
  refine z_aload_0 d_Mo_doOne_0 ?_
  refine z_getIv d_Mo_doOne_1 f_Mo_476 (by first | assumption | exact zS0_at (by assumption) (by omega) | exact zS0_at rfl (by omega)) (by first | assumption | ((try simp (disch := omega) only [zu_same, zu_ne, zcp_ne, zfl_ne]); first | assumption | rfl)) ?_
  refine z_sipush (a := nI 300) d_Mo_doOne_4 (by decide) ?_
  refine z_icmp_ne (tgt := 21) d_Mo_doOne_7 (by decide) (fun h3 => ?_) (fun h3 => ?_)
  rotate_left
  · have h3 : s = 300 := (nI_eq (by omega) (by omega)).mp h3
    have ec : c_it C f l = zu (zu C l 6 (nI 1)) l 8 (nI sz) := by
      unfold c_it
      rw [w2, nI_clamp (by omega), q13, if_neg hno, R3, nI_clamp (by omega), if_neg (by omega), q12]
    refine z_aload_0 d_Mo_doOne_10 ?_
    refine z_iconst (a := nI 1) d_Mo_doOne_11 (by decide) ?_
    refine z_putZ d_Mo_doOne_12 f_Mo_479 (by first | assumption | exact zS0_at (by assumption) (by omega) | exact zS0_at rfl (by omega)) (by first | exact zb0 | exact zb1 | assumption) ?_
    refine z_aload_0 d_Mo_doOne_15 ?_
    refine z_iconst (a := nI 1) d_Mo_doOne_16 (by decide) ?_
    refine z_putI d_Mo_doOne_17 f_Mo_482 (by first | assumption | exact zS0_at (by assumption) (by omega) | exact zS0_at rfl (by omega)) ?_
    refine z_retv d_Mo_doOne_20 ?_
    refine ⟨c_it C f l, _, s, 1, sz, rfl, rF_p (rF_p rF_r (by omega)) (by omega), ?_, Nat.le_refl _, ?_, fun k _ => ?_, go1, Or.inr ⟨?_, by omega, by omega⟩⟩
    · rw [ec]
      refine ⟨⟨⟨?_, ⟨?_, dr_c R1.2.1.2 (by rw [zu_ne _ _ _ _ (by omega), zu_ne _ _ _ _ (by omega)])⟩, ?_⟩, ⟨?_, ?_, R4⟩, ?_, ?_⟩, zu_same _ _ _ _, fun r hr => by rw [zu_row _ _ _ _ (by omega), zu_row _ _ _ _ (by omega)]; exact w3 r hr, fun c k h1 h2 => by rw [zu_row _ _ _ _ (by decide), zu_row _ _ _ _ (by decide)]; exact w4 c k h1 h2, w5, w6⟩
      · rw [zu_row _ _ _ _ (by decide), zu_row _ _ _ _ (by decide)]
        exact fmR_A R1.1 (fun r hr => by show zu (zu C l 6 (nI 1)) l 8 (nI sz) (f + r) = _; rw [zu_row _ _ _ _ (by omega), zu_row _ _ _ _ (by omega)]; rfl)
      · rw [zu_ne _ _ _ _ (by omega), zu_ne _ _ _ _ (by omega), zu_ne _ _ _ _ (by omega), zu_ne _ _ _ _ (by omega)]; exact R1.2.1.1
      · rw [zu_ne _ _ _ _ (by omega), zu_ne _ _ _ _ (by omega), zu_row _ _ _ _ (by omega), zu_row _ _ _ _ (by omega)]; exact R1.2.2
      · rw [zu_ne _ _ _ _ (by omega), zu_ne _ _ _ _ (by omega)]; exact R2
      · rw [zu_ne _ _ _ _ (by omega), zu_ne _ _ _ _ (by omega)]; exact R3
      · rw [zu_ne _ _ _ _ (by omega), zu_ne _ _ _ _ (by omega), zu_ne _ _ _ _ (by omega), zu_ne _ _ _ _ (by omega)]; exact R5
      · rw [zu_same, zu_ne _ _ _ _ (by omega), zu_same]
    · rw [ec]; intro a _ g2 _; rw [zu_row _ _ _ _ g2, zu_row _ _ _ _ g2]
    · rw [ec, zu_row _ _ _ _ (by omega), zu_row _ _ _ _ (by omega)]
    · rw [zu_ne _ _ _ _ (by omega), zu_same]
  have h3 : s < 300 := by
    have : s ≠ 300 := fun h => h3 (by rw [h])
    omega
  have e1 : ∀ a, a ≠ l → zu C l 1 (nI (s + 1)) a = C a := fun a ha => zu_row _ _ _ _ ha
  have ec : c_it C f l = c_do (zu C l 1 (nI (s + 1))) f l i := by
    unfold c_it
    rw [w2, nI_clamp (by omega), q13, if_neg hno, R3, nI_clamp (by omega), if_pos h3, nI_add]
  have D1 : rD f l nt np nl nn fa (g + 99 * s) (zu C l 1 (nI (s + 1))) (zu I 145 41 (nI (s + 1))) := by
    have q := rD_C (C' := zu C l 1 (nI (s + 1))) R1 (fun a g1 g2 => e1 a (by omega)) (zu_ne _ _ _ _ (by omega))
    obtain ⟨p1, ⟨p2, p3⟩, p4⟩ := q
    refine ⟨by rw [zu_row _ _ _ _ (by decide)]; exact p1, ⟨(zu_ne _ _ _ _ (by omega)).trans p2, p3⟩, (zu_ne _ _ _ _ (by omega)).trans p4.1, p4.2⟩
  /- the class's table behind a deed that leaves at where it is -/
  have mk : ∀ (X I' : Nat → Nat → Int32) (gg i' : Nat), rD f l nt np nl nn fa gg X I' → gg ≤ g + 99 * (s + 1) → cK f l (zu C l 1 (nI (s + 1))) X → X l 1 = nI (s + 1) → X l 6 = C l 6 → X l 8 + nI 1 = nI i' → rF I I' → I' 145 41 = nI (s + 1) → I' 145 46 = I 145 46 → I' 145 42 = X l 2 → rM f l nt np nl nn sz fa g A Q (s + 1) i' (zu X l 8 (X l 8 + nI 1)) I' := by
    intro X I' gg i' hX hg hK h1 h6 h8 hF g41 g46 g42
    refine ⟨⟨rD_C (rD_g hX hg) (fun a g1 g2 => zu_row _ _ _ _ (by omega)) (zu_ne _ _ _ _ (by omega)), ⟨g41, (zu_ne _ _ _ _ (by omega)).trans h1, by omega⟩, ?_, ?_⟩, (zu_same _ _ _ _).trans h8, fun r hr => ?_, fun c k c1 c2 => ?_, w5, w6⟩
    · rw [zu_ne _ _ _ _ (by omega)]; exact g42
    · rw [zu_ne _ _ _ _ (by omega), h6, g46]; exact R6
    · rw [zu_row _ _ _ _ (by omega), hK _ (by omega) (by omega) (by omega), e1 _ (by omega)]; exact w3 r hr
    · rw [hF.2.1 _ (by omega)]; exact w4 c k c1 c2
  have kK : ∀ X : Nat → Nat → Int32, cK f l (zu C l 1 (nI (s + 1))) X → cK f l C (zu X l 8 (X l 8 + nI 1)) := by
    intro X hX a g1 g2 g3
    rw [zu_row _ _ _ _ g2, hX a g1 g2 g3, e1 a g2]
  have eDo : c_do (zu C l 1 (nI (s + 1))) f l i = zu (c_do1 (zu C l 1 (nI (s + 1))) f l i) l 8 (c_do1 (zu C l 1 (nI (s + 1))) f l i l 8 + nI 1) := rfl
  have r8 : zu C l 1 (nI (s + 1)) l 8 = nI i := (zu_ne _ _ _ _ (by omega)).trans w2
  have r1 : zu C l 1 (nI (s + 1)) l 1 = nI (s + 1) := zu_same _ _ _ _
  have r6 : zu C l 1 (nI (s + 1)) l 6 = C l 6 := zu_ne _ _ _ _ (by omega)
  have rl : ∀ r, r ≤ 4 → sf (f + 12) (zu C l 1 (nI (s + 1))) r = A r := fun r hr => (e1 _ (by omega)).trans (w3 r hr)
  have rQ : ∀ k, k < 8 → (fun c k => zu I 145 41 (nI (s + 1)) 150 (89 + 9 * c + k)) x k = Q x k := fun k hk => by show zu I 145 41 (nI (s + 1)) 150 (89 + 9 * x + k) = Q x k; rw [zu_row _ _ _ _ (by decide)]; exact w4 x k hx (by omega)
  have f0 : rF I (zu I 145 41 (nI (s + 1))) := rF_p rF_r (by omega)
  have g41 : zu I 145 41 (nI (s + 1)) 145 41 = nI (s + 1) := zu_same _ _ _ _
  have g42 : zu I 145 41 (nI (s + 1)) 145 42 = I 145 42 := zu_ne _ _ _ _ (by omega)
  have g46 : zu I 145 41 (nI (s + 1)) 145 46 = I 145 46 := zu_ne _ _ _ _ (by omega)
  have g39 : zu I 145 41 (nI (s + 1)) 145 39 = nI 0 := (zu_ne _ _ _ _ (by omega)).trans h39
  have g150 : ∀ k, zu I 145 41 (nI (s + 1)) 150 k = I 150 k := fun k => by rw [zu_row _ _ _ _ (by decide)]
  have q8 : zu C l 1 (nI (s + 1)) (f + 16) i = A 4 i := by rw [e1 _ (by omega), q16]
  have q13' : zu C l 1 (nI (s + 1)) (f + 13) i = A 1 i := by rw [e1 _ (by omega), q13]
  have q12' : zu C l 1 (nI (s + 1)) (f + 12) 2 = nI sz := by rw [e1 _ (by omega), q12]
  refine z_aload_0 d_Mo_doOne_21 ?_
  refine z_dup rfl d_Mo_doOne_22 ?_
  refine z_getIv d_Mo_doOne_23 f_Mo_476 (by first | assumption | exact zS0_at (by assumption) (by omega) | exact zS0_at rfl (by omega)) (by first | assumption | ((try simp (disch := omega) only [zu_same, zu_ne, zcp_ne, zfl_ne]); first | assumption | rfl)) ?_
  refine z_iconst (a := nI 1) d_Mo_doOne_26 (by decide) ?_
  first | refine z_iaddN d_Mo_doOne_27 ?_ | refine z_iadd d_Mo_doOne_27 ?_
  refine z_putI d_Mo_doOne_28 f_Mo_476 (by first | assumption | exact zS0_at (by assumption) (by omega) | exact zS0_at rfl (by omega)) ?_
  generalize hI1 : zu I 145 41 (nI (s + 1)) = I1 at D1 mk rQ f0 g41 g42 g46 g39 g150 ⊢
  generalize hC1 : zu C l 1 (nI (s + 1)) = C1 at D1 mk kK eDo r8 r1 r6 rl q8 q13' q12' ec ⊢
  have w0 : I1 150 (89 + 9 * x) = Q x 0 := rQ 0 (by decide)
  rcases H with ⟨hv, rfl⟩ | ⟨e, E, hv, he8, hl4, hE19, hE4, hb, rfl, hEs, he30⟩
  · by_cases h7 : Q x 0 = nI 7
    · have o20 : A 1 i = nI 20 := by
        rcases hv with ⟨t, p, -, -, -, q0, -⟩ | ⟨t, -, -, q0, -⟩ | ⟨p, k, -, -, ⟨-, q0⟩ | ⟨-, q0⟩, -⟩ | ⟨-, q0⟩ | ⟨o1, -⟩
        · rw [h7] at q0; exact absurd q0 (by decide)
        · rw [h7] at q0; exact absurd q0 (by decide)
        · rw [h7] at q0; exact absurd q0 (by decide)
        · rw [h7] at q0; exact absurd q0 (by decide)
        · rw [h7] at q0; exact absurd q0 (by decide)
        · exact o1
      have eX : c_do1 C1 f l i = zu C1 l 8 (nI sz) := by
        unfold c_do1
        rw [q13', o20, if_neg (by decide), if_neg (by decide), if_neg (by decide), if_neg (by decide), if_neg (by decide), if_pos rfl, q12']
      rw [h7] at w0
      refine z_bipush (a := nI 89) d_Mo_doOne_31 (by decide) ?_
      refine z_bipush (a := nI 9) d_Mo_doOne_33 (by decide) ?_
      refine z_iload_1 d_Mo_doOne_35 ?_
      first | refine z_imulN d_Mo_doOne_36 ?_ | refine z_imul d_Mo_doOne_36 ?_
      first | refine z_iaddN d_Mo_doOne_37 ?_ | refine z_iadd d_Mo_doOne_37 ?_
      first | refine z_istore_2 d_Mo_doOne_38 rfl ?_ | (refine z_forget_1 ?_; refine z_istore_2 d_Mo_doOne_38 rfl ?_)
      refine z_aload_0 d_Mo_doOne_39 ?_
      refine z_getR d_Mo_doOne_40 f_Mo_35 (by first | assumption | exact zS0_at (by assumption) (by omega) | exact zS0_at rfl (by omega)) (by first | assumption | exact zS0_at (by assumption) (by omega) | exact zS0_at rfl (by omega)) ?_
      refine z_iload_2 d_Mo_doOne_43 ?_
      first | refine z_ialdNv d_Mo_doOne_44 (by first | assumption | exact zS0_at (by assumption) (by omega) | exact zS0_at rfl (by omega)) (by omega) (by first | decide | omega) (by first | assumption | ((try simp (disch := omega) only [zu_same, zu_ne, zcp_ne, zfl_ne]); first | assumption | rfl)) ?_ | refine z_iald d_Mo_doOne_44 (by first | assumption | exact zS0_at (by assumption) (by omega) | exact zS0_at rfl (by omega)) (by first | assumption | exact zS0_at (by assumption) (by omega) | exact zS0_at rfl (by omega)) ?_
      first | refine z_istore_3 d_Mo_doOne_45 rfl ?_ | (refine z_forget_2 ?_; refine z_istore_3 d_Mo_doOne_45 rfl ?_)
      refine z_iload_3 d_Mo_doOne_46 ?_
      refine z_iconst (a := nI 5) d_Mo_doOne_47 (by decide) ?_
      refine z_icmp_ge (tgt := 76) d_Mo_doOne_48 (by decide) (fun _ => ?_) (fun h => absurd (by decide) h)
      refine z_iload_3 d_Mo_doOne_76 ?_
      refine z_iconst (a := nI 5) d_Mo_doOne_77 (by decide) ?_
      refine z_icmp_ne (tgt := 108) d_Mo_doOne_78 (by decide) (fun _ => ?_) (fun h => absurd h (by decide))
      refine z_iload_3 d_Mo_doOne_108 ?_
      refine z_bipush (a := nI 6) d_Mo_doOne_109 (by decide) ?_
      refine z_icmp_ne (tgt := 162) d_Mo_doOne_111 (by decide) (fun _ => ?_) (fun h => absurd h (by decide))
      refine z_iload_3 d_Mo_doOne_162 ?_
      refine z_bipush (a := nI 6) d_Mo_doOne_163 (by decide) ?_
      refine z_icmp_le (tgt := 173) d_Mo_doOne_165 (by decide) (fun h => absurd h (by decide)) (fun _ => ?_)
      refine z_aload_0 d_Mo_doOne_168 ?_
      refine z_iconst (a := nI 1) d_Mo_doOne_169 (by decide) ?_
      refine z_putZ d_Mo_doOne_170 f_Mo_479 (by first | assumption | exact zS0_at (by assumption) (by omega) | exact zS0_at rfl (by omega)) (by first | exact zb0 | exact zb1 | assumption) ?_
      refine z_retv d_Mo_doOne_173 ?_
      have hm := mk (zu C1 l 8 (nI sz)) (zu I1 145 39 (nI 1)) (g + 99 * s) (sz + 1) ?_ (by omega) (fun a _ g2 _ => zu_row _ _ _ _ g2) ((zu_ne _ _ _ _ (by omega)).trans r1) ((zu_ne _ _ _ _ (by omega)).trans r6) (by rw [zu_same, nI_add]) (rF_p f0 (by omega)) ((zu_ne _ _ _ _ (by omega)).trans g41) ((zu_ne _ _ _ _ (by omega)).trans g46) ?_
      · refine ⟨c_it C f l, _, s + 1, 1, sz + 1, rfl, rF_p f0 (by omega), ?_, by omega, ?_, fun k _ => ?_, go1, Or.inr ⟨zu_same _ _ _ _, by omega, by omega⟩⟩
        · rw [ec, eDo, eX]; exact hm
        · rw [ec, eDo, eX]; exact kK _ (fun a _ g2 _ => zu_row _ _ _ _ g2)
        · rw [ec, eDo, eX, zu_row _ _ _ _ (by omega), zu_row _ _ _ _ (by omega), ← hC1, zu_row _ _ _ _ (by omega)]
      · obtain ⟨p1, ⟨p2, p3⟩, p4⟩ := rD_C (C' := zu C1 l 8 (nI sz)) D1 (fun a g1 g2 => zu_row _ _ _ _ (by omega)) (zu_ne _ _ _ _ (by omega))
        exact ⟨by rw [zu_row _ _ _ _ (by decide)]; exact p1, ⟨(zu_ne _ _ _ _ (by omega)).trans p2, p3⟩, (zu_ne _ _ _ _ (by omega)).trans p4.1, p4.2⟩
      · rw [zu_ne _ _ _ _ (by omega), zu_ne _ _ _ _ (by omega), g42, R5, ← hC1, zu_ne _ _ _ _ (by omega)]
    · have k5 : ∃ k, k < 5 ∧ Q x 0 = nI k := by
        rcases hv with ⟨t, p, -, -, -, q0, -⟩ | ⟨t, -, -, q0, -⟩ | ⟨p, k, -, -, ⟨-, q0⟩ | ⟨-, q0⟩, -⟩ | ⟨-, q0⟩ | ⟨-, q0⟩
        · exact ⟨0, by omega, q0⟩
        · exact ⟨1, by omega, q0⟩
        · exact ⟨2, by omega, q0⟩
        · exact ⟨3, by omega, q0⟩
        · exact ⟨4, by omega, q0⟩
        · exact absurd q0 h7
      obtain ⟨k, hk5, hk⟩ := k5
      have hv' : yst (n3 nt np nn) (sf (f + 12) C1) (fun c k => I1 150 (89 + 9 * c + k)) i x := yst_c (fun r g1 g2 => congrFun (rl r (by omega)) i) rQ hv
      have hok := do1_ok (sz := sz) (i := i) (C := C1) hl ⟨_, _, D1.1⟩ D1.2.1.2 r8 hi q12' w6 (Or.inl ⟨_, _, hv'⟩) (by rw [q13']; exact hno)
      obtain ⟨-, -, -, k1, kA⟩ := hok
      have hX6 : c_do1 C1 f l i l 6 = C1 l 6 ∧ c_do1 C1 f l i l 8 = C1 l 8 ∧ ∀ k, c_do1 C1 f l i (l + 1) k = C1 (l + 1) k := by
        have c8 : cF f l C1 (c_do1 C1 f l i) := by
          unfold c_do1
          rcases hv with ⟨t, p, -, -, o1, -⟩ | ⟨t, -, o1, -⟩ | ⟨p, k, -, -, ⟨o1, -⟩ | ⟨o1, -⟩, -⟩ | ⟨o1, -⟩ | ⟨-, q0⟩
          · rw [q13', if_pos o1]; exact cF_pass hlf
          · rw [q13', o1, if_neg (by decide), if_pos rfl]; exact cF_bite hlf
          · rw [q13', o1, if_neg (by decide), if_neg (by decide), if_pos rfl]; exact cF_turn hlf
          · rw [q13', o1, if_neg (by decide), if_neg (by decide), if_neg (by decide), if_pos rfl]; exact cF_turn hlf
          · rw [q13', o1, if_neg (by decide), if_neg (by decide), if_neg (by decide), if_neg (by decide), if_pos rfl]; exact cF_any hlf
          · exact absurd q0 h7
        exact ⟨c8.2 6 (by decide) (by decide), c8.2 8 (by decide) (by decide), fun k => by rw [c8.1 (l + 1) (by omega) (by omega)]⟩
      rw [hk] at w0
      have fin : ∀ (I2 : Nat → Nat → Int32) (v : Int32), rF I1 I2 → (∀ k, k ≠ 40 → k ≠ 44 → I2 145 k = I1 145 k) → rD f l nt np nl nn fa (g + 99 * s + 99) (c_do1 C1 f l i) I2 → v = c_do1 C1 f l i l 2 → rP f l nt np nl nn sz fa g A Q C I s i (i + 1) J P S (zu I2 145 42 v, J, P, S) := by
        intro I2 v F2 K2 D2 hv2
        refine ⟨c_it C f l, _, s + 1, 1, i + 1, rfl, rF_p (rF_t f0 F2) (by omega), ?_, by omega, ?_, fun k _ => ?_, go1, Or.inl ⟨?_, rfl, by omega⟩⟩
        · rw [ec, eDo]
          refine mk _ _ (g + 99 * s + 99) (i + 1) ?_ (by omega) kA (k1.trans r1) (hX6.1.trans r6) (by rw [hX6.2.1, r8, nI_add]) (rF_p (rF_t f0 F2) (by omega)) ?_ ?_ ?_
          · obtain ⟨p1, ⟨p2, p3⟩, p4⟩ := D2
            exact ⟨by rw [zu_row _ _ _ _ (by decide)]; exact p1, ⟨(zu_ne _ _ _ _ (by omega)).trans p2, p3⟩, (zu_ne _ _ _ _ (by omega)).trans p4.1, p4.2⟩
          · rw [zu_ne _ _ _ _ (by omega), K2 41 (by decide) (by decide)]; exact g41
          · rw [zu_ne _ _ _ _ (by omega), K2 46 (by decide) (by decide)]; exact g46
          · rw [zu_same]; exact hv2
        · rw [ec, eDo]; exact kK _ kA
        · rw [ec, eDo, zu_row _ _ _ _ (by omega), hX6.2.2 k, ← hC1, zu_row _ _ _ _ (by omega)]
        · rw [zu_ne _ _ _ _ (by omega), K2 39 (by decide) (by decide)]; exact g39
      have c2 : C1 l 2 = I 145 42 := by rw [← hC1, zu_ne _ _ _ _ (by omega)]; exact R5.symm
      refine z_bipush (a := nI 89) d_Mo_doOne_31 (by decide) ?_
      refine z_bipush (a := nI 9) d_Mo_doOne_33 (by decide) ?_
      refine z_iload_1 d_Mo_doOne_35 ?_
      first | refine z_imulN d_Mo_doOne_36 ?_ | refine z_imul d_Mo_doOne_36 ?_
      first | refine z_iaddN d_Mo_doOne_37 ?_ | refine z_iadd d_Mo_doOne_37 ?_
      first | refine z_istore_2 d_Mo_doOne_38 rfl ?_ | (refine z_forget_1 ?_; refine z_istore_2 d_Mo_doOne_38 rfl ?_)
      refine z_aload_0 d_Mo_doOne_39 ?_
      refine z_getR d_Mo_doOne_40 f_Mo_35 (by first | assumption | exact zS0_at (by assumption) (by omega) | exact zS0_at rfl (by omega)) (by first | assumption | exact zS0_at (by assumption) (by omega) | exact zS0_at rfl (by omega)) ?_
      refine z_iload_2 d_Mo_doOne_43 ?_
      first | refine z_ialdNv d_Mo_doOne_44 (by first | assumption | exact zS0_at (by assumption) (by omega) | exact zS0_at rfl (by omega)) (by omega) (by first | decide | omega) (by first | assumption | ((try simp (disch := omega) only [zu_same, zu_ne, zcp_ne, zfl_ne]); first | assumption | rfl)) ?_ | refine z_iald d_Mo_doOne_44 (by first | assumption | exact zS0_at (by assumption) (by omega) | exact zS0_at rfl (by omega)) (by first | assumption | exact zS0_at (by assumption) (by omega) | exact zS0_at rfl (by omega)) ?_
      first | refine z_istore_3 d_Mo_doOne_45 rfl ?_ | (refine z_forget_2 ?_; refine z_istore_3 d_Mo_doOne_45 rfl ?_)
      refine z_iload_3 d_Mo_doOne_46 ?_
      refine z_iconst (a := nI 5) d_Mo_doOne_47 (by decide) ?_
      refine z_icmp_ge (tgt := 76) d_Mo_doOne_48 (by decide) (fun h => absurd ((nI_leI (by omega) (by omega)).mp h) (by omega)) (fun _ => ?_)
      refine z_aload_0 d_Mo_doOne_51 ?_
      refine z_dup rfl d_Mo_doOne_52 ?_
      refine z_getIv d_Mo_doOne_53 f_Mo_485 (by first | assumption | exact zS0_at (by assumption) (by omega) | exact zS0_at rfl (by omega)) (by first | assumption | ((try simp (disch := omega) only [zu_same, zu_ne, zcp_ne, zfl_ne]); first | assumption | rfl)) ?_
      refine z_aload_0 d_Mo_doOne_56 ?_
      refine z_iload_2 d_Mo_doOne_57 ?_
      refine z_Vi1 d_Mo_doOne_58 k_Mo_488 (by first | assumption | exact zS0_at (by assumption) (by omega) | exact zS0_at rfl (by omega)) (m_does (i := i) M' hl D1 hx hv' (by rw [w0]; intro h; have := (nI_eq (by omega) (by omega)).mp h; omega)) (by refine ⟨?_, ?_, ?_, ?_⟩ <;> simp only [zRm] <;> omega) (Nat.le_of_ble_eq_true rfl) ?_
      intro r w hq
      obtain ⟨I2, rfl, F2, K2, D2, ⟨rfl, h2⟩ | ⟨rfl, h2⟩⟩ := hq
      · refine z_if_eq (tgt := 68) d_Mo_doOne_61 (by decide) (fun h => absurd h (by decide)) (fun _ => ?_)
        refine z_iconst (a := nI 0) d_Mo_doOne_64 (by decide) ?_
        refine z_goto (tgt := 69) d_Mo_doOne_65 (by decide) ?_
        refine z_iadd d_Mo_doOne_69 ?_
        refine z_putI d_Mo_doOne_70 f_Mo_485 (by first | assumption | exact zS0_at (by assumption) (by omega) | exact zS0_at rfl (by omega)) ?_
        refine z_goto (tgt := 173) d_Mo_doOne_73 (by decide) ?_
        refine z_retv d_Mo_doOne_173 ?_
        exact fin I2 _ F2 K2 D2 (by rw [zadd0, h2, c2])
      · refine z_if_eq (tgt := 68) d_Mo_doOne_61 (by decide) (fun _ => ?_) (fun h => absurd (by decide) h)
        refine z_iconst (a := nI 1) d_Mo_doOne_68 (by decide) ?_
        refine z_iadd d_Mo_doOne_69 ?_
        refine z_putI d_Mo_doOne_70 f_Mo_485 (by first | assumption | exact zS0_at (by assumption) (by omega) | exact zS0_at rfl (by omega)) ?_
        refine z_goto (tgt := 173) d_Mo_doOne_73 (by decide) ?_
        refine z_retv d_Mo_doOne_173 ?_
        exact fin I2 _ F2 K2 D2 (by rw [h2, c2])
  · have K1 : cK f l C C1 := fun a _ g2 _ => by rw [← hC1]; exact zu_row _ _ _ _ g2
    have L1 : ∀ k, C1 (l + 1) k = C (l + 1) k := fun k => by rw [← hC1, zu_row _ _ _ _ (by omega)]
    have hv' : ybk (n3 nt np nn) (sf (f + 12) C1) (fun c k => I1 150 (89 + 9 * c + k)) i x := ybk_c (fun r g1 g2 => congrFun (rl r (by omega)) i) rQ hv
    have q14' : C1 (f + 14) i = A 2 i := by rw [← hC1, e1 _ (by omega), q14]
    have c2 : C1 l 2 = I 145 42 := by rw [← hC1, zu_ne _ _ _ _ (by omega)]; exact R5.symm
    have hiE : i + 1 ≤ E := (yb_le _ _ _ _ _ hb).2
    by_cases h6 : Q x 0 = nI 6
    · obtain ⟨m0, hm1, hm2, o1, a2, q2⟩ : ∃ m0, 1 ≤ m0 ∧ m0 ≤ 99 ∧ A 1 i = nI 18 ∧ A 2 i = nI m0 ∧ Q x 1 = nI m0 := by
        rcases hv with ⟨m0, a1, a2, a3, -, a5, a6⟩ | ⟨h5, -⟩
        · exact ⟨m0, a1, a2, a3, a5, a6⟩
        · rw [h6] at h5; exact absurd h5 (by decide)
      have eX : c_do1 C1 f l i = zu C1 (l + 1) i (nI m0) := by
        unfold c_do1
        rw [q13', o1, if_neg (by decide), if_neg (by decide), if_neg (by decide), if_neg (by decide), if_neg (by decide), if_neg (by decide), if_pos rfl, q14', a2]
      rw [h6] at w0
      have M2 : rM f l nt np nl nn sz fa g A Q (s + 1) (i + 1) (c_it C f l) I1 := by
        rw [ec, eDo, eX]
        exact mk (zu C1 (l + 1) i (nI m0)) I1 (g + 99 * s) (i + 1) (rD_C D1 (fun a g1 g2 => zu_row _ _ _ _ (by omega)) (zu_ne _ _ _ _ (by omega))) (by omega) (fun a _ _ g3 => zu_row _ _ _ _ g3) ((zu_ne _ _ _ _ (by omega)).trans r1) ((zu_ne _ _ _ _ (by omega)).trans r6) (by rw [zu_ne _ _ _ _ (by omega), r8, nI_add]) f0 g41 g46 (by rw [g42, zu_ne _ _ _ _ (by omega), c2])
      have K2 : cK f l C (c_it C f l) := by
        rw [ec, eDo, eX]
        exact kK _ (fun a _ _ g3 => zu_row _ _ _ _ g3)
      have L2 : ∀ k, k < i → c_it C f l (l + 1) k = C (l + 1) k := fun k hk => by
        rw [ec, eDo, eX, zu_row _ _ _ _ (by omega), zu_ne _ _ _ _ (by omega), L1]
      have T2 : c_it C f l (l + 1) i = nI m0 := by
        rw [ec, eDo, eX, zu_row _ _ _ _ (by omega), zu_same]
      have exitL : ∀ (Cx Ix : Nat → Nat → Int32) (sx Nx ix k : Nat), rF I Ix → rM f l nt np nl nn sz fa g A Q sx ix Cx Ix → s ≤ sx → cK f l C Cx → (∀ k, k < i → Cx (l + 1) k = C (l + 1) k) → (∀ M, c_its f l (Nx + M) C = c_its f l M Cx) → ((Ix 145 39 = nI 0 ∧ ix = E + 1 ∧ Nx ≤ 200 * (sx - s)) ∨ (Ix 145 39 = nI 1 ∧ (sz ≤ ix ∧ ix ≤ 61) ∧ Nx ≤ 200 * (sx - s) + 1)) → k ≤ m0 → (k = m0 ∨ Ix 145 39 = nI 1) → zA G y_Mo_doOne prog_14_method_146_code 5 none (zRm (D+1) 0 0) (zM G 0 0 (fun r w' => r = none ∧ (fun w => rP f l nt np nl nn sz fa g A Q C I s i (E + 1) J P S w) w')) 117 [some (.ref 145), some (.int (nI x)), some (.int (nI (89 + 9 * x))), some (.int (nI 6)), some (.int (nI k))] [] (Ix, J, P, S) 0 0 := by
        intro Cx Ix sx Nx ix k h1 h2 h3 h4 h5 h7 h8 hk hor
        have q1x : Ix 150 (89 + 9 * x + 1) = nI m0 := (h2.2.2.2.1 x 1 hx (by decide)).trans q2
        have fin : rP f l nt np nl nn sz fa g A Q C I s i (E + 1) J P S (Ix, J, P, S) := ⟨Cx, Ix, sx, Nx, ix, rfl, h1, h2, h3, h4, h5, h7, h8⟩
        refine z_iload_4 d_Mo_doOne_117 ?_
        refine z_aload_0 d_Mo_doOne_119 ?_
        refine z_getR d_Mo_doOne_120 f_Mo_35 (by first | assumption | exact zS0_at (by assumption) (by omega) | exact zS0_at rfl (by omega)) (by first | assumption | exact zS0_at (by assumption) (by omega) | exact zS0_at rfl (by omega)) ?_
        refine z_iload_2 d_Mo_doOne_123 ?_
        refine z_iconst (a := nI 1) d_Mo_doOne_124 (by decide) ?_
        first | refine z_iaddN d_Mo_doOne_125 ?_ | refine z_iadd d_Mo_doOne_125 ?_
        first | refine z_ialdNv d_Mo_doOne_126 (by first | assumption | exact zS0_at (by assumption) (by omega) | exact zS0_at rfl (by omega)) (by omega) (by first | decide | omega) (by first | assumption | ((try simp (disch := omega) only [zu_same, zu_ne, zcp_ne, zfl_ne]); first | assumption | rfl)) ?_ | refine z_iald d_Mo_doOne_126 (by first | assumption | exact zS0_at (by assumption) (by omega) | exact zS0_at rfl (by omega)) (by first | assumption | exact zS0_at (by assumption) (by omega) | exact zS0_at rfl (by omega)) ?_
        refine z_icmp_ge (tgt := 159) d_Mo_doOne_127 (by decide) (fun hb => ?_) (fun hb => ?_)
        · refine z_goto (tgt := 173) d_Mo_doOne_159 (by decide) ?_
          refine z_retv d_Mo_doOne_173 ?_
          exact fin
        · rcases hor with rfl | h39x
          · exact absurd (nI_le (Nat.le_refl _) (by omega)) hb
          · refine z_aload_0 d_Mo_doOne_130 ?_
            refine z_getIv d_Mo_doOne_131 f_Mo_479 (by first | assumption | exact zS0_at (by assumption) (by omega) | exact zS0_at rfl (by omega)) (by first | assumption | ((try simp (disch := omega) only [zu_same, zu_ne, zcp_ne, zfl_ne]); first | assumption | rfl)) ?_
            refine z_if_ne (tgt := 159) d_Mo_doOne_134 (by decide) (fun _ => ?_) (fun h => absurd h (by decide))
            refine z_goto (tgt := 173) d_Mo_doOne_159 (by decide) ?_
            refine z_retv d_Mo_doOne_173 ?_
            exact fin
      have loop : ∀ (r k : Nat) (Cx Ix : Nat → Nat → Int32) (sx Nx : Nat), m0 - k = r → k < m0 → rF I Ix → rM f l nt np nl nn sz fa g A Q sx (i + 1) Cx Ix → s + 1 ≤ sx → cK f l C Cx → (∀ k, k < i → Cx (l + 1) k = C (l + 1) k) → Cx (l + 1) i = nI (m0 - k) → (∀ M, c_its f l (Nx + M) C = c_its f l M Cx) → Nx ≤ 1 + k + 200 * (sx - (s + 1)) → Ix 145 39 = nI 0 → zA G y_Mo_doOne prog_14_method_146_code 5 none (zRm (D+1) 0 0) (zM G 0 0 (fun r w' => r = none ∧ (fun w => rP f l nt np nl nn sz fa g A Q C I s i (E + 1) J P S w) w')) 117 [some (.ref 145), some (.int (nI x)), some (.int (nI (89 + 9 * x))), some (.int (nI 6)), some (.int (nI k))] [] (Ix, J, P, S) 0 0 := by
        intro r
        induction r with
        | zero => intro k Cx Ix sx Nx hr hk; omega
        | succ r ih =>
          intro k Cx Ix sx Nx hr hk h1 h2 h3 h4 h5 hcn h7 h8 h39x
          have q1x : Ix 150 (89 + 9 * x + 1) = nI m0 := (h2.2.2.2.1 x 1 hx (by decide)).trans q2
          have q8x : Ix 150 (89 + 9 * x + 8) = nI e := (h2.2.2.2.1 x 8 hx (by decide)).trans he8
          refine z_iload_4 d_Mo_doOne_117 ?_
          refine z_aload_0 d_Mo_doOne_119 ?_
          refine z_getR d_Mo_doOne_120 f_Mo_35 (by first | assumption | exact zS0_at (by assumption) (by omega) | exact zS0_at rfl (by omega)) (by first | assumption | exact zS0_at (by assumption) (by omega) | exact zS0_at rfl (by omega)) ?_
          refine z_iload_2 d_Mo_doOne_123 ?_
          refine z_iconst (a := nI 1) d_Mo_doOne_124 (by decide) ?_
          first | refine z_iaddN d_Mo_doOne_125 ?_ | refine z_iadd d_Mo_doOne_125 ?_
          first | refine z_ialdNv d_Mo_doOne_126 (by first | assumption | exact zS0_at (by assumption) (by omega) | exact zS0_at rfl (by omega)) (by omega) (by first | decide | omega) (by first | assumption | ((try simp (disch := omega) only [zu_same, zu_ne, zcp_ne, zfl_ne]); first | assumption | rfl)) ?_ | refine z_iald d_Mo_doOne_126 (by first | assumption | exact zS0_at (by assumption) (by omega) | exact zS0_at rfl (by omega)) (by first | assumption | exact zS0_at (by assumption) (by omega) | exact zS0_at rfl (by omega)) ?_
          refine z_icmp_ge (tgt := 159) d_Mo_doOne_127 (by decide) (fun h => absurd ((nI_leI (by omega) (by omega)).mp h) (by omega)) (fun _ => ?_)
          refine z_aload_0 d_Mo_doOne_130 ?_
          refine z_getIv d_Mo_doOne_131 f_Mo_479 (by first | assumption | exact zS0_at (by assumption) (by omega) | exact zS0_at rfl (by omega)) (by first | assumption | ((try simp (disch := omega) only [zu_same, zu_ne, zcp_ne, zfl_ne]); first | assumption | rfl)) ?_
          refine z_if_ne (tgt := 159) d_Mo_doOne_134 (by decide) (fun h => absurd (by decide) h) (fun _ => ?_)
          refine z_aload_0 d_Mo_doOne_137 ?_
          refine z_iload_1 d_Mo_doOne_138 ?_
          refine z_iconst (a := nI 1) d_Mo_doOne_139 (by decide) ?_
          first | refine z_iaddN d_Mo_doOne_140 ?_ | refine z_iadd d_Mo_doOne_140 ?_
          refine z_aload_0 d_Mo_doOne_141 ?_
          refine z_getR d_Mo_doOne_142 f_Mo_35 (by first | assumption | exact zS0_at (by assumption) (by omega) | exact zS0_at rfl (by omega)) (by first | assumption | exact zS0_at (by assumption) (by omega) | exact zS0_at rfl (by omega)) ?_
          refine z_iload_2 d_Mo_doOne_145 ?_
          refine z_bipush (a := nI 8) d_Mo_doOne_146 (by decide) ?_
          first | refine z_iaddN d_Mo_doOne_148 ?_ | refine z_iadd d_Mo_doOne_148 ?_
          first | refine z_ialdNv d_Mo_doOne_149 (by first | assumption | exact zS0_at (by assumption) (by omega) | exact zS0_at rfl (by omega)) (by omega) (by first | decide | omega) (by first | assumption | ((try simp (disch := omega) only [zu_same, zu_ne, zcp_ne, zfl_ne]); first | assumption | rfl)) ?_ | refine z_iald d_Mo_doOne_149 (by first | assumption | exact zS0_at (by assumption) (by omega) | exact zS0_at rfl (by omega)) (by first | assumption | exact zS0_at (by assumption) (by omega) | exact zS0_at rfl (by omega)) ?_
          refine z_Vv2 d_Mo_doOne_150 k_Mo_494 (by first | assumption | exact zS0_at (by assumption) (by omega) | exact zS0_at rfl (by omega)) (hA (x + 1) e (i + 1) E sx Cx Ix hb (by omega) he30 h2 h39x) (by refine ⟨?_, ?_, ?_, ?_⟩ <;> simp only [zRm] <;> omega) (Nat.le_of_ble_eq_true rfl) ?_
          intro w hq
          obtain ⟨C', I', s', N, i', rfl, F', W', hs', K', L', T', hend⟩ := hq
          have K'' : cK f l C C' := fun a g1 g2 g3 => (K' a g1 g2 g3).trans (h4 a g1 g2 g3)
          rcases hend with ⟨z39, he, hN⟩ | ⟨z39, hi', hN⟩
          · rw [he] at W'
            have eg := end_go (i := i) hl W' hEs (by omega) hE19 hE4
            obtain ⟨p13, -, -, p16, -⟩ := rM_op W'
            have cnt : C' (l + 1) i = nI (m0 - k) := (L' i (by omega)).trans hcn
            have tgo := it_go W' hEs
            by_cases hlast : k + 1 = m0
            · have e1x : c_it C' f l = zu (zu C' (l + 1) i (nI (m0 - k) - nI 1)) l 8 (nI (E + 1)) := by
                rw [eg.1]
                unfold c_end
                rw [p16, hE4, nI_clamp (by omega), p13, o1, if_pos rfl, cnt, if_neg (by rw [pk_sub (by omega), show m0 - k - 1 = 0 by omega]; decide)]
              first | refine z_iinc_4 d_Mo_doOne_153 rfl (zi_inc _) ?_ | refine z_iinc_4 d_Mo_doOne_153 rfl rfl ?_
              refine z_goto (tgt := 117) d_Mo_doOne_156 (by decide) ?_
              refine exitL (c_it C' f l) I' s' (Nx + N + 1) (E + 1) (k + 1) (rF_t h1 F') ?_ (by omega) ?_ (fun k' hk' => ?_) (fun M => ?_) (Or.inl ⟨z39, rfl, by omega⟩) (by omega) (Or.inl hlast)
              · rw [e1x]
                exact eg.2 _ _ (fun a g2 g3 => by rw [zu_row _ _ _ _ g2, zu_row _ _ _ _ g3]) (fun k' hk' => by rw [zu_ne _ _ _ _ (by omega), zu_ne _ _ _ _ (by omega)]) (zu_same _ _ _ _)
              · rw [e1x]
                intro a g1 g2 g3
                rw [zu_row _ _ _ _ g2, zu_row _ _ _ _ g3]
                exact K'' a g1 g2 g3
              · rw [e1x, zu_row _ _ _ _ (by omega), zu_ne _ _ _ _ (by omega), L' k' (by omega)]
                exact h5 k' hk'
              · rw [show Nx + N + 1 + M = Nx + (N + (1 + M)) by omega, h7, T', tgo]
            · have e1x : c_it C' f l = zu (zu C' (l + 1) i (nI (m0 - (k + 1)))) l 8 (nI (i + 1)) := by
                rw [eg.1]
                unfold c_end
                rw [p16, hE4, nI_clamp (by omega), p13, o1, if_pos rfl, cnt, pk_sub (by omega), if_pos (by rw [← nI_0]; exact nI_lt (by omega) (by omega)), show m0 - k - 1 = m0 - (k + 1) by omega]
              first | refine z_iinc_4 d_Mo_doOne_153 rfl (zi_inc _) ?_ | refine z_iinc_4 d_Mo_doOne_153 rfl rfl ?_
              refine z_goto (tgt := 117) d_Mo_doOne_156 (by decide) ?_
              refine ih (k + 1) (c_it C' f l) I' s' (Nx + N + 1) (by omega) (by omega) (rF_t h1 F') ?_ (by omega) ?_ (fun k' hk' => ?_) ?_ (fun M => ?_) (by omega) z39
              · rw [e1x]
                exact eg.2 _ _ (fun a g2 g3 => by rw [zu_row _ _ _ _ g2, zu_row _ _ _ _ g3]) (fun k' hk' => by rw [zu_ne _ _ _ _ (by omega), zu_ne _ _ _ _ (by omega)]) (zu_same _ _ _ _)
              · rw [e1x]
                intro a g1 g2 g3
                rw [zu_row _ _ _ _ g2, zu_row _ _ _ _ g3]
                exact K'' a g1 g2 g3
              · rw [e1x, zu_row _ _ _ _ (by omega), zu_ne _ _ _ _ (by omega), L' k' (by omega)]
                exact h5 k' hk'
              · rw [e1x, zu_row _ _ _ _ (by omega), zu_same]
              · rw [show Nx + N + 1 + M = Nx + (N + (1 + M)) by omega, h7, T', tgo]
          · first | refine z_iinc_4 d_Mo_doOne_153 rfl (zi_inc _) ?_ | refine z_iinc_4 d_Mo_doOne_153 rfl rfl ?_
            refine z_goto (tgt := 117) d_Mo_doOne_156 (by decide) ?_
            exact exitL C' I' s' (Nx + N) i' (k + 1) (rF_t h1 F') W' (by omega) K'' (fun k' hk' => (L' k' (by omega)).trans (h5 k' hk')) (fun M => by rw [Nat.add_assoc, h7, T']) (Or.inr ⟨z39, hi', by omega⟩) (by omega) (Or.inr z39)
      refine z_bipush (a := nI 89) d_Mo_doOne_31 (by decide) ?_
      refine z_bipush (a := nI 9) d_Mo_doOne_33 (by decide) ?_
      refine z_iload_1 d_Mo_doOne_35 ?_
      first | refine z_imulN d_Mo_doOne_36 ?_ | refine z_imul d_Mo_doOne_36 ?_
      first | refine z_iaddN d_Mo_doOne_37 ?_ | refine z_iadd d_Mo_doOne_37 ?_
      first | refine z_istore_2 d_Mo_doOne_38 rfl ?_ | (refine z_forget_1 ?_; refine z_istore_2 d_Mo_doOne_38 rfl ?_)
      refine z_aload_0 d_Mo_doOne_39 ?_
      refine z_getR d_Mo_doOne_40 f_Mo_35 (by first | assumption | exact zS0_at (by assumption) (by omega) | exact zS0_at rfl (by omega)) (by first | assumption | exact zS0_at (by assumption) (by omega) | exact zS0_at rfl (by omega)) ?_
      refine z_iload_2 d_Mo_doOne_43 ?_
      first | refine z_ialdNv d_Mo_doOne_44 (by first | assumption | exact zS0_at (by assumption) (by omega) | exact zS0_at rfl (by omega)) (by omega) (by first | decide | omega) (by first | assumption | ((try simp (disch := omega) only [zu_same, zu_ne, zcp_ne, zfl_ne]); first | assumption | rfl)) ?_ | refine z_iald d_Mo_doOne_44 (by first | assumption | exact zS0_at (by assumption) (by omega) | exact zS0_at rfl (by omega)) (by first | assumption | exact zS0_at (by assumption) (by omega) | exact zS0_at rfl (by omega)) ?_
      first | refine z_istore_3 d_Mo_doOne_45 rfl ?_ | (refine z_forget_2 ?_; refine z_istore_3 d_Mo_doOne_45 rfl ?_)
      refine z_iload_3 d_Mo_doOne_46 ?_
      refine z_iconst (a := nI 5) d_Mo_doOne_47 (by decide) ?_
      refine z_icmp_ge (tgt := 76) d_Mo_doOne_48 (by decide) (fun _ => ?_) (fun h => absurd (by decide) h)
      refine z_iload_3 d_Mo_doOne_76 ?_
      refine z_iconst (a := nI 5) d_Mo_doOne_77 (by decide) ?_
      refine z_icmp_ne (tgt := 108) d_Mo_doOne_78 (by decide) (fun _ => ?_) (fun h => absurd h (by decide))
      refine z_iload_3 d_Mo_doOne_108 ?_
      refine z_bipush (a := nI 6) d_Mo_doOne_109 (by decide) ?_
      refine z_icmp_ne (tgt := 162) d_Mo_doOne_111 (by decide) (fun h => absurd (by decide) h) (fun _ => ?_)
      refine z_iconst (a := nI 0) d_Mo_doOne_114 (by decide) ?_
      first | refine z_istore_4 d_Mo_doOne_115 rfl ?_ | (refine z_forget_3 ?_; refine z_istore_4 d_Mo_doOne_115 rfl ?_)
      exact loop m0 0 (c_it C f l) I1 (s + 1) 1 (by omega) (by omega) f0 M2 (Nat.le_refl _) K2 L2 T2 go1 (by omega) g39
    · have h5 : Q x 0 = nI 5 := by
        rcases hv with ⟨m0, -, -, -, a4, -⟩ | ⟨h, -⟩
        · exact absurd a4 h6
        · exact h
      have hj : ∃ j, (j = 8 ∨ j = 17 ∨ j = 60 ∨ j = 61 ∨ j = 62) ∧ A 1 i = nI j := by
        rcases hv with ⟨m0, -, -, -, a4, -⟩ | ⟨-, hv⟩
        · exact absurd a4 h6
        · rcases hv with ⟨x, p, -, -, o1, -⟩ | ⟨x, -, o1, -⟩ | ⟨p, j, v, -, hj, -, o1, -⟩
          · exact ⟨8, by omega, o1⟩
          · exact ⟨17, by omega, o1⟩
          · exact ⟨j, by omega, o1⟩
      obtain ⟨jj, hjj, o1⟩ := hj
      have n18 : ¬ A 1 i = nI 18 := by rw [o1]; rcases hjj with rfl | rfl | rfl | rfl | rfl <;> decide
      have eX : c_do1 C1 f l i = if c_holds C1 f (C1 (f + 13) i) (C1 (f + 14) i).toNatClampNeg (C1 (f + 15) i) then C1 else zu C1 l 8 (nI E) := by
        unfold c_do1
        rw [q8, hl4, if_neg, if_neg, if_neg, if_neg, if_neg, if_neg, if_neg]
        all_goals (rw [q13', o1]; rcases hjj with rfl | rfl | rfl | rfl | rfl <;> decide)
      rw [h5] at w0
      have q8x : I1 150 (89 + 9 * x + 8) = nI e := by rw [g150]; exact (w4 x 8 hx (by decide)).trans he8
      refine z_bipush (a := nI 89) d_Mo_doOne_31 (by decide) ?_
      refine z_bipush (a := nI 9) d_Mo_doOne_33 (by decide) ?_
      refine z_iload_1 d_Mo_doOne_35 ?_
      first | refine z_imulN d_Mo_doOne_36 ?_ | refine z_imul d_Mo_doOne_36 ?_
      first | refine z_iaddN d_Mo_doOne_37 ?_ | refine z_iadd d_Mo_doOne_37 ?_
      first | refine z_istore_2 d_Mo_doOne_38 rfl ?_ | (refine z_forget_1 ?_; refine z_istore_2 d_Mo_doOne_38 rfl ?_)
      refine z_aload_0 d_Mo_doOne_39 ?_
      refine z_getR d_Mo_doOne_40 f_Mo_35 (by first | assumption | exact zS0_at (by assumption) (by omega) | exact zS0_at rfl (by omega)) (by first | assumption | exact zS0_at (by assumption) (by omega) | exact zS0_at rfl (by omega)) ?_
      refine z_iload_2 d_Mo_doOne_43 ?_
      first | refine z_ialdNv d_Mo_doOne_44 (by first | assumption | exact zS0_at (by assumption) (by omega) | exact zS0_at rfl (by omega)) (by omega) (by first | decide | omega) (by first | assumption | ((try simp (disch := omega) only [zu_same, zu_ne, zcp_ne, zfl_ne]); first | assumption | rfl)) ?_ | refine z_iald d_Mo_doOne_44 (by first | assumption | exact zS0_at (by assumption) (by omega) | exact zS0_at rfl (by omega)) (by first | assumption | exact zS0_at (by assumption) (by omega) | exact zS0_at rfl (by omega)) ?_
      first | refine z_istore_3 d_Mo_doOne_45 rfl ?_ | (refine z_forget_2 ?_; refine z_istore_3 d_Mo_doOne_45 rfl ?_)
      refine z_iload_3 d_Mo_doOne_46 ?_
      refine z_iconst (a := nI 5) d_Mo_doOne_47 (by decide) ?_
      refine z_icmp_ge (tgt := 76) d_Mo_doOne_48 (by decide) (fun _ => ?_) (fun h => absurd (by decide) h)
      refine z_iload_3 d_Mo_doOne_76 ?_
      refine z_iconst (a := nI 5) d_Mo_doOne_77 (by decide) ?_
      refine z_icmp_ne (tgt := 108) d_Mo_doOne_78 (by decide) (fun h => absurd (by decide) h) (fun _ => ?_)
      refine z_aload_0 d_Mo_doOne_81 ?_
      refine z_iload_2 d_Mo_doOne_82 ?_
      refine z_Vi1 d_Mo_doOne_83 k_Mo_491 (by first | assumption | exact zS0_at (by assumption) (by omega) | exact zS0_at rfl (by omega)) (m_isSo M' D1 hx hv' w0) (by refine ⟨?_, ?_, ?_, ?_⟩ <;> simp only [zRm] <;> omega) (Nat.le_of_ble_eq_true rfl) ?_
      intro r w hz
      rcases hz with ⟨⟨hz, rfl⟩ | ⟨hz, rfl⟩, rfl⟩
      · rw [if_pos hz] at eX
        have M2 : rM f l nt np nl nn sz fa g A Q (s + 1) (i + 1) (c_it C f l) I1 := by
          rw [ec, eDo, eX]
          exact mk C1 I1 (g + 99 * s) (i + 1) D1 (by omega) (fun _ _ _ _ => rfl) r1 r6 (by rw [r8, nI_add]) f0 g41 g46 (by rw [g42, c2])
        have K2 : cK f l C (c_it C f l) := by
          rw [ec, eDo, eX]
          exact kK _ (fun _ _ _ _ => rfl)
        have L2 : ∀ k, c_it C f l (l + 1) k = C (l + 1) k := fun k => by
          rw [ec, eDo, eX, zu_row _ _ _ _ (by omega), L1]
        refine z_if_eq (tgt := 108) d_Mo_doOne_86 (by decide) (fun h => absurd h (by decide)) (fun _ => ?_)
        refine z_aload_0 d_Mo_doOne_89 ?_
        refine z_iload_1 d_Mo_doOne_90 ?_
        refine z_iconst (a := nI 1) d_Mo_doOne_91 (by decide) ?_
        first | refine z_iaddN d_Mo_doOne_92 ?_ | refine z_iadd d_Mo_doOne_92 ?_
        refine z_aload_0 d_Mo_doOne_93 ?_
        refine z_getR d_Mo_doOne_94 f_Mo_35 (by first | assumption | exact zS0_at (by assumption) (by omega) | exact zS0_at rfl (by omega)) (by first | assumption | exact zS0_at (by assumption) (by omega) | exact zS0_at rfl (by omega)) ?_
        refine z_iload_2 d_Mo_doOne_97 ?_
        refine z_bipush (a := nI 8) d_Mo_doOne_98 (by decide) ?_
        first | refine z_iaddN d_Mo_doOne_100 ?_ | refine z_iadd d_Mo_doOne_100 ?_
        first | refine z_ialdNv d_Mo_doOne_101 (by first | assumption | exact zS0_at (by assumption) (by omega) | exact zS0_at rfl (by omega)) (by omega) (by first | decide | omega) (by first | assumption | ((try simp (disch := omega) only [zu_same, zu_ne, zcp_ne, zfl_ne]); first | assumption | rfl)) ?_ | refine z_iald d_Mo_doOne_101 (by first | assumption | exact zS0_at (by assumption) (by omega) | exact zS0_at rfl (by omega)) (by first | assumption | exact zS0_at (by assumption) (by omega) | exact zS0_at rfl (by omega)) ?_
        refine z_Vv2 d_Mo_doOne_102 k_Mo_494 (by first | assumption | exact zS0_at (by assumption) (by omega) | exact zS0_at rfl (by omega)) (hA (x + 1) e (i + 1) E (s + 1) (c_it C f l) I1 hb (by omega) he30 M2 g39) (by refine ⟨?_, ?_, ?_, ?_⟩ <;> simp only [zRm] <;> omega) (Nat.le_of_ble_eq_true rfl) ?_
        intro w hq
        obtain ⟨C', I', s', N, i', rfl, F', W', hs', K', L', T', hend⟩ := hq
        have K'' : cK f l C C' := fun a g1 g2 g3 => (K' a g1 g2 g3).trans (K2 a g1 g2 g3)
        refine z_goto (tgt := 173) d_Mo_doOne_105 (by decide) ?_
        refine z_retv d_Mo_doOne_173 ?_
        rcases hend with ⟨z39, he, hN⟩ | ⟨z39, hi', hN⟩
        · rw [he] at W'
          have eg := end_go (i := i) hl W' hEs (by omega) hE19 hE4
          obtain ⟨p13, -, -, p16, -⟩ := rM_op W'
          have tgo := it_go W' hEs
          have e1x : c_it C' f l = zu C' l 8 (nI (E + 1)) := by
            rw [eg.1]
            unfold c_end
            rw [p16, hE4, nI_clamp (by omega), p13, if_neg n18]
          refine ⟨c_it C' f l, I', s', 1 + N + 1, E + 1, rfl, rF_t f0 F', ?_, by omega, ?_, fun k hk => ?_, fun M => ?_, Or.inl ⟨z39, rfl, by omega⟩⟩
          · rw [e1x]
            exact eg.2 _ _ (fun a g2 g3 => zu_row _ _ _ _ g2) (fun k' hk' => zu_ne _ _ _ _ (by omega)) (zu_same _ _ _ _)
          · rw [e1x]
            intro a g1 g2 g3
            rw [zu_row _ _ _ _ g2]
            exact K'' a g1 g2 g3
          · rw [e1x, zu_row _ _ _ _ (by omega), L' k (by omega)]
            exact L2 k
          · rw [show 1 + N + 1 + M = 1 + (N + (1 + M)) by omega, go1, T', tgo]
        · exact ⟨C', I', s', 1 + N, i', rfl, rF_t f0 F', W', by omega, K'', fun k hk => (L' k (by omega)).trans (L2 k), fun M => by rw [Nat.add_assoc, go1, T'], Or.inr ⟨z39, hi', by omega⟩⟩
      · rw [if_neg hz] at eX
        refine z_if_eq (tgt := 108) d_Mo_doOne_86 (by decide) (fun _ => ?_) (fun h => absurd (by decide) h)
        refine z_iload_3 d_Mo_doOne_108 ?_
        refine z_bipush (a := nI 6) d_Mo_doOne_109 (by decide) ?_
        refine z_icmp_ne (tgt := 162) d_Mo_doOne_111 (by decide) (fun _ => ?_) (fun h => absurd h (by decide))
        refine z_iload_3 d_Mo_doOne_162 ?_
        refine z_bipush (a := nI 6) d_Mo_doOne_163 (by decide) ?_
        refine z_icmp_le (tgt := 173) d_Mo_doOne_165 (by decide) (fun _ => ?_) (fun h => absurd (by decide) h)
        refine z_retv d_Mo_doOne_173 ?_
        refine ⟨c_it C f l, I1, s + 1, 1, E + 1, rfl, f0, ?_, by omega, ?_, fun k _ => ?_, go1, Or.inl ⟨g39, rfl, by omega⟩⟩
        · rw [ec, eDo, eX]
          exact mk (zu C1 l 8 (nI E)) I1 (g + 99 * s) (E + 1) (rD_C D1 (fun a g1 g2 => zu_row _ _ _ _ (by omega)) (zu_ne _ _ _ _ (by omega))) (by omega) (fun a _ g2 _ => zu_row _ _ _ _ g2) ((zu_ne _ _ _ _ (by omega)).trans r1) ((zu_ne _ _ _ _ (by omega)).trans r6) (by rw [zu_same, nI_add]) f0 g41 g46 (by rw [g42, zu_ne _ _ _ _ (by omega), c2])
        · rw [ec, eDo, eX]
          exact kK _ (fun a _ g2 _ => zu_row _ _ _ _ g2)
        · rw [ec, eDo, eX, zu_row _ _ _ _ (by omega), zu_row _ _ _ _ (by omega), L1]
end ML2
