/-! the reference: a run, whole, beside the class's -/
section ML3
variable {G : zG} {I I1 : Nat → Nat → Int32} {J : Nat → Nat → Int64} {P : Nat → Nat → Option Nat} {S : List (Nat × Nat)} {f l nt np nl nn sz g s : Nat} {a b fa : Int32} {C C' A Q : Nat → Nat → Int32}
theorem yb_f {n : yN} : ∀ m x y i j, yb n A Q m x y i j → ∀ m', j - i ≤ m' → yb n A Q m' x y i j := by
  intro m
  induction m with
  | zero =>
    rintro x y i j ⟨rfl, rfl⟩ m' -
    cases m' with
    | zero => exact ⟨rfl, rfl⟩
    | succ m' => exact Or.inl ⟨rfl, rfl⟩
  | succ m ih =>
    rintro x y i j (⟨rfl, rfl⟩ | ⟨h1, h2, h⟩ | ⟨e, E, h1, h2, h3, h4, h5, h6, h7⟩) m' hm
    · cases m' with
      | zero => exact ⟨rfl, rfl⟩
      | succ m' => exact Or.inl ⟨rfl, rfl⟩
    · have q := (yb_le _ _ _ _ _ h).2
      cases m' with
      | zero => omega
      | succ m' => exact Or.inr (Or.inl ⟨h1, h2, ih _ _ _ _ h m' (by omega)⟩)
    · have q := (yb_le _ _ _ _ _ h6).2
      have q2 := (yb_le _ _ _ _ _ h7).2
      cases m' with
      | zero => omega
      | succ m' => exact Or.inr (Or.inr ⟨e, E, h1, h2, h3, h4, h5, ih _ _ _ _ h6 m' (by omega), ih _ _ _ _ h7 m' (by omega)⟩)
theorem rP_t {i j s1 i1 N1 : Nat} {w : zW} (h1 : rF I I1) (h2 : s ≤ s1) (h3 : cK f l C C') (h4 : ∀ k, k < i → C' (l + 1) k = C (l + 1) k) (h5 : ∀ M, c_its f l (N1 + M) C = c_its f l M C') (h6 : N1 ≤ 200 * (s1 - s)) (hi : i ≤ i1) (h : rP f l nt np nl nn sz fa g A Q C' I1 s1 i1 j J P S w) : rP f l nt np nl nn sz fa g A Q C I s i j J P S w := by
  obtain ⟨C2, I2, s2, N2, i2, rfl, a1, a2, a3, a4, a5, a6, a7⟩ := h
  refine ⟨C2, I2, s2, N1 + N2, i2, rfl, rF_t h1 a1, a2, by omega, fun a g1 g2 g3 => (a4 a g1 g2 g3).trans (h3 a g1 g2 g3), fun k hk => (a5 k (by omega)).trans (h4 k hk), fun M => by rw [Nat.add_assoc, h5, a6], ?_⟩
  rcases a7 with ⟨b1, b2, b3⟩ | ⟨b1, b2, b3⟩
  · exact Or.inl ⟨b1, b2, by omega⟩
  · exact Or.inr ⟨b1, b2, by omega⟩
theorem m_doAll (M : modOk P S) (hl : f + 16 < l) : ∀ (m D x y i j s : Nat) (C I : Nat → Nat → Int32), 2 * m + 8 ≤ D → yb (n3 nt np nn) A Q m x y i j → j ≤ sz → y ≤ 30 → rM f l nt np nl nn sz fa g A Q s i C I → I 145 39 = nI 0 → zEv G y_Mo_doAll prog_14_method_147_code 4 D 0 0 [.ref 145, .int (nI x), .int (nI y)] (I, J, P, S) (fun w => rP f l nt np nl nn sz fa g A Q C I s i j J P S w) := by
  have M' := M
  obtain ⟨M0, ⟨M4, M4s⟩, ⟨M5, M5s⟩, ⟨M6, M6s⟩, ⟨M7, M7s⟩, ⟨M20, M20s⟩, ⟨M21, M21s⟩, ⟨M22, M22s⟩, ⟨M26, M26s⟩, ⟨M27, M27s⟩, ⟨M28, M28s⟩, ⟨M30, M30s⟩, ⟨M34, M34s⟩, ⟨M36, M36s⟩, ⟨M37, M37s⟩⟩ := id M
  intro m
  induction m with
  | zero =>
    intro D x y i j s C I hD hy hj hy30 W h39
    refine zEv_of (lv := [some (.ref 145), some (.int (nI x)), some (.int (nI y)), none]) (by decide) rfl (Nat.le_of_ble_eq_true rfl) ?_
    obtain ⟨rfl, rfl⟩ := hy
    refine z_iload_1 d_Mo_doAll_0 ?_
    first | refine z_istore_3 d_Mo_doAll_1 rfl ?_ | (refine z_forget_2 ?_; refine z_istore_3 d_Mo_doAll_1 rfl ?_)
    refine z_iload_3 d_Mo_doAll_2 ?_
    refine z_iload_2 d_Mo_doAll_3 ?_
    refine z_icmp_ge (tgt := 38) d_Mo_doAll_4 (by decide) (fun _ => ?_) (fun h => absurd (nI_le (Nat.le_refl _) (by omega)) h)
    refine z_retv d_Mo_doAll_38 ?_
    exact ⟨C, I, s, 0, i, rfl, rF_r, W, Nat.le_refl _, fun _ _ _ _ => rfl, fun _ _ => rfl, fun M => by rw [Nat.zero_add], Or.inl ⟨h39, rfl, by omega⟩⟩
  | succ m ihm =>
    have loopD : ∀ (q D x0 y x i j s : Nat) (C I : Nat → Nat → Int32) (Z : zW → Prop), q ≤ m + 1 → 2 * (m + 1) + 8 ≤ D → yb (n3 nt np nn) A Q q x y i j → j ≤ sz → y ≤ 30 → rM f l nt np nl nn sz fa g A Q s i C I → I 145 39 = nI 0 → (∀ w, rP f l nt np nl nn sz fa g A Q C I s i j J P S w → Z w) → zA G y_Mo_doAll prog_14_method_147_code 4 none (zRm D 0 0) (zM G 0 0 (fun r w' => r = none ∧ Z w')) 2 [some (.ref 145), some (.int (nI x0)), some (.int (nI y)), some (.int (nI x))] [] (I, J, P, S) 0 0 := by
      intro q
      induction q with
      | zero =>
        intro D x0 y x i j s C I Z hq hD hy hj hy30 W h39 hZ
        obtain ⟨rfl, rfl⟩ := hy
        refine z_iload_3 d_Mo_doAll_2 ?_
        refine z_iload_2 d_Mo_doAll_3 ?_
        refine z_icmp_ge (tgt := 38) d_Mo_doAll_4 (by decide) (fun _ => ?_) (fun h => absurd (nI_le (Nat.le_refl _) (by omega)) h)
        refine z_retv d_Mo_doAll_38 ?_
        exact hZ _ ⟨C, I, s, 0, i, rfl, rF_r, W, Nat.le_refl _, fun _ _ _ _ => rfl, fun _ _ => rfl, fun M => by rw [Nat.zero_add], Or.inl ⟨h39, rfl, by omega⟩⟩
      | succ q ihq =>
        intro D x0 y x i j s C I Z hq hD hy hj hy30 W h39 hZ
        have one : ∀ (j1 x1 : Nat), x < y → i < sz → j1 ≤ j → i ≤ j1 → x1 ≤ 30 → Q x 8 = nI x1 → ((yst (n3 nt np nn) A Q i x ∧ j1 = i + 1) ∨ (∃ e E, ybk (n3 nt np nn) A Q i x ∧ Q x 8 = nI e ∧ A 4 i = nI E ∧ A 1 E = nI 19 ∧ A 4 E = nI i ∧ yb (n3 nt np nn) A Q q (x + 1) e (i + 1) E ∧ j1 = E + 1 ∧ E < sz ∧ e ≤ 30)) → yb (n3 nt np nn) A Q q x1 y j1 j → zA G y_Mo_doAll prog_14_method_147_code 4 none (zRm D 0 0) (zM G 0 0 (fun r w' => r = none ∧ Z w')) 2 [some (.ref 145), some (.int (nI x0)), some (.int (nI y)), some (.int (nI x))] [] (I, J, P, S) 0 0 := by
          intro j1 x1 hxy his hj1 hij hx1 h8 H hrest
          refine z_iload_3 d_Mo_doAll_2 ?_
          refine z_iload_2 d_Mo_doAll_3 ?_
          refine z_icmp_ge (tgt := 38) d_Mo_doAll_4 (by decide) (fun h => absurd ((nI_leI (by omega) (by omega)).mp h) (by omega)) (fun _ => ?_)
          refine z_aload_0 d_Mo_doAll_7 ?_
          refine z_getIv d_Mo_doAll_8 f_Mo_479 (by first | assumption | exact zS0_at (by assumption) (by omega) | exact zS0_at rfl (by omega)) (by first | assumption | ((try simp (disch := omega) only [zu_same, zu_ne, zcp_ne, zfl_ne]); first | assumption | rfl)) ?_
          refine z_if_ne (tgt := 38) d_Mo_doAll_11 (by decide) (fun h => absurd (by decide) h) (fun _ => ?_)
          refine z_aload_0 d_Mo_doAll_14 ?_
          refine z_iload_3 d_Mo_doAll_15 ?_
          refine z_Vv1 d_Mo_doAll_16 k_Mo_497 (by first | assumption | exact zS0_at (by assumption) (by omega) | exact zS0_at rfl (by omega)) (m_doOne (D := D - 2) (m := q) (j := j1) M' hl (by omega) (fun x y i j s C I g1 g2 g3 g4 g5 => ihm (D - 2) x y i j s C I (by omega) (by have h := yb_m g1 (m - q); rwa [show q + (m - q) = m by omega] at h) g2 g3 g4 g5) W h39 (by omega) his H) (by refine ⟨?_, ?_, ?_, ?_⟩ <;> simp only [zRm] <;> omega) (Nat.le_of_ble_eq_true rfl) ?_
          intro w hw
          obtain ⟨C1, I1, s1, N1, i1, rfl, F1, W1, hs1, K1, L1, T1, hend⟩ := hw
          have q8 : I1 150 (89 + 9 * x + 8) = nI x1 := (W1.2.2.2.1 x 8 (by omega) (by decide)).trans h8
          refine z_aload_0 d_Mo_doAll_19 ?_
          refine z_getR d_Mo_doAll_20 f_Mo_35 (by first | assumption | exact zS0_at (by assumption) (by omega) | exact zS0_at rfl (by omega)) (by first | assumption | exact zS0_at (by assumption) (by omega) | exact zS0_at rfl (by omega)) ?_
          refine z_bipush (a := nI 89) d_Mo_doAll_23 (by decide) ?_
          refine z_bipush (a := nI 9) d_Mo_doAll_25 (by decide) ?_
          refine z_iload_3 d_Mo_doAll_27 ?_
          first | refine z_imulN d_Mo_doAll_28 ?_ | refine z_imul d_Mo_doAll_28 ?_
          first | refine z_iaddN d_Mo_doAll_29 ?_ | refine z_iadd d_Mo_doAll_29 ?_
          refine z_bipush (a := nI 8) d_Mo_doAll_30 (by decide) ?_
          first | refine z_iaddN d_Mo_doAll_32 ?_ | refine z_iadd d_Mo_doAll_32 ?_
          first | refine z_ialdNv d_Mo_doAll_33 (by first | assumption | exact zS0_at (by assumption) (by omega) | exact zS0_at rfl (by omega)) (by omega) (by first | decide | omega) (by first | assumption | ((try simp (disch := omega) only [zu_same, zu_ne, zcp_ne, zfl_ne]); first | assumption | rfl)) ?_ | refine z_iald d_Mo_doAll_33 (by first | assumption | exact zS0_at (by assumption) (by omega) | exact zS0_at rfl (by omega)) (by first | assumption | exact zS0_at (by assumption) (by omega) | exact zS0_at rfl (by omega)) ?_
          first | refine z_istore_3 d_Mo_doAll_34 rfl ?_ | (refine z_forget_2 ?_; refine z_istore_3 d_Mo_doAll_34 rfl ?_)
          refine z_goto (tgt := 2) d_Mo_doAll_35 (by decide) ?_
          rcases hend with ⟨z39, he, hN⟩ | ⟨z39, hi', hN⟩
          · rw [he] at W1
            exact ihq D x0 y x1 j1 j s1 C1 I1 Z (by omega) hD hrest hj hy30 W1 z39 (fun w hw => hZ w (rP_t F1 hs1 K1 L1 T1 hN hij hw))
          · have fin : Z (I1, J, P, S) := hZ _ ⟨C1, I1, s1, N1, i1, rfl, F1, W1, hs1, K1, L1, T1, Or.inr ⟨z39, hi', hN⟩⟩
            refine z_iload_3 d_Mo_doAll_2 ?_
            refine z_iload_2 d_Mo_doAll_3 ?_
            refine z_icmp_ge (tgt := 38) d_Mo_doAll_4 (by decide) (fun hb => ?_) (fun hb => ?_)
            · refine z_retv d_Mo_doAll_38 ?_
              exact fin
            · refine z_aload_0 d_Mo_doAll_7 ?_
              refine z_getIv d_Mo_doAll_8 f_Mo_479 (by first | assumption | exact zS0_at (by assumption) (by omega) | exact zS0_at rfl (by omega)) (by first | assumption | ((try simp (disch := omega) only [zu_same, zu_ne, zcp_ne, zfl_ne]); first | assumption | rfl)) ?_
              refine z_if_ne (tgt := 38) d_Mo_doAll_11 (by decide) (fun _ => ?_) (fun h => absurd h (by decide))
              refine z_retv d_Mo_doAll_38 ?_
              exact fin
        rcases hy with ⟨rfl, rfl⟩ | ⟨h1, h2, h⟩ | ⟨e, E, h1, h2, h3, h4, h5, h6, h7⟩
        · refine z_iload_3 d_Mo_doAll_2 ?_
          refine z_iload_2 d_Mo_doAll_3 ?_
          refine z_icmp_ge (tgt := 38) d_Mo_doAll_4 (by decide) (fun _ => ?_) (fun h => absurd (nI_le (Nat.le_refl _) (by omega)) h)
          refine z_retv d_Mo_doAll_38 ?_
          exact hZ _ ⟨C, I, s, 0, i, rfl, rF_r, W, Nat.le_refl _, fun _ _ _ _ => rfl, fun _ _ => rfl, fun M => by rw [Nat.zero_add], Or.inl ⟨h39, rfl, by omega⟩⟩
        · have q1 := yb_le _ _ _ _ _ h
          exact one (i + 1) (x + 1) (by omega) (by omega) (by omega) (by omega) (by omega) h2 (Or.inl ⟨h1, rfl⟩) h
        · have q1 := yb_le _ _ _ _ _ h6
          have q2 := yb_le _ _ _ _ _ h7
          exact one (E + 1) e (by omega) (by omega) (by omega) (by omega) (by omega) h2 (Or.inr ⟨e, E, h1, h2, h3, h4, h5, h6, rfl, by omega, by omega⟩) h7
    intro D x y i j s C I hD hy hj hy30 W h39
    refine zEv_of (lv := [some (.ref 145), some (.int (nI x)), some (.int (nI y)), none]) (by decide) rfl (Nat.le_of_ble_eq_true rfl) ?_
    refine z_iload_1 d_Mo_doAll_0 ?_
    first | refine z_istore_3 d_Mo_doAll_1 rfl ?_ | (refine z_forget_2 ?_; refine z_istore_3 d_Mo_doAll_1 rfl ?_)
    exact loopD (m + 1) D x y x i j s C I _ (Nat.le_refl _) hD hy hj hy30 W h39 (fun _ h => h)
end ML3
