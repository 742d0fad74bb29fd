/-! what holds of class and reference between two calls -/
section IV0
def trR (t : Nat) (I : Nat → Nat → Int32) (J : Nat → Nat → Int64) : Prop := (I (3 + 2 * t) 0 = nI 0 ∧ I 147 t = -1) ∨ (∃ k l, k ≤ 3 ∧ l ≤ 60 ∧ I (3 + 2 * t) 0 = nI 1 ∧ (I (3 + 2 * t) 1 = nI k ∧ I 146 t = nI k) ∧ (I (3 + 2 * t) 2 = nI l ∧ I 147 t = nI l) ∧ ∀ p, p < l → J 148 (60 * t + p) = J (4 + 2 * t) p)
def yrR (f c nt np nn : Nat) (I : Nat → Nat → Int32) : Prop := (I (f + 12) 0 = nI 0 ∧ I 150 (359 * c + 87) = nI 0 ∧ I (f + 12) 2 = nI 0) ∨ (∃ m ns sz, I (f + 12) 0 = nI 1 ∧ I 150 (359 * c + 87) = nI 1 ∧ (I (f + 12) 1 = nI ns ∧ I 150 (359 * c + 88) = nI ns ∧ ns ≤ 30) ∧ (I (f + 12) 2 = nI sz ∧ sz ≤ 60) ∧ yb (n3 nt np nn) (sf (f + 12) I) (fun x k => I 150 (359 * c + 89 + 9 * x + k)) m 0 ns 0 sz)
def fnR (g f c nt np nl nn : Nat) (I : Nat → Nat → Int32) (J : Nat → Nat → Int64) : Prop := fmR g (sf f I) (fun k => I 150 (359 * c + k)) nt np nl nn ∧ ((∀ k, k < nt → J 152 (22 * c + k) = J (f + 9) k) ∧ (∀ k, k < np → J 152 (22 * c + 6 + k) = J (f + 10) k) ∧ (∀ k, k < nn → J 152 (22 * c + 13 + k) = J (f + 11) k)) ∧ yrR f c nt np nn I
def lvR (I : Nat → Nat → Int32) : Prop := (I 121 0 = nI 0 ∧ I 145 38 = nI 0) ∨ (I 121 0 = nI 1 ∧ I 145 38 = nI 1 ∧ I 159 0 = I 121 2 ∧ I 159 1 = I 121 3 ∧ I 159 2 = I 121 4 ∧ I 159 3 = I 121 5 ∧ I 159 4 = I 121 6)
/-- both tables between two calls, behind n of them -/
def stR (n f nt np nl nn fed mk : Nat) (I : Nat → Nat → Int32) (J : Nat → Nat → Int64) : Prop :=
  (I 145 0 = I 0 0 ∧ J 145 2 = J 0 1 ∧ J 145 3 = J 0 2) ∧ (∀ t, t < 4 → trR t I J) ∧
  ((I 0 4 = nI fed ∧ I 145 8 = nI fed ∧ fed ≤ 900) ∧ (∀ k, k < 900 → I 149 k = I 1 k) ∧ bytOk (I 1)) ∧
  (I 145 10 = I 11 10 ∧ I 145 11 = I 11 11) ∧ (∀ i, i < 21 → J 13 i = zKw i) ∧
  fnR (29700 * n) f 0 nt np nl nn I J ∧
  ((I 0 13 = nI mk ∧ I 145 23 = nI mk ∧ mk ≤ 3) ∧ ∀ m, m < mk → ∃ nt np nl nn, fnR (29700 * n) (70 + 17 * m) (m + 1) nt np nl nn I J) ∧ lvR I
/-- the class's objects, by their addresses -/
def clOk (f d : Nat) (P : Nat → Nat → Option Nat) (S : List (Nat × Nat)) : Prop :=
  (S[0]? = some (11, 20) ∧ P 0 3 = some 1 ∧ S[1]? = some (102, 900)) ∧
  (P 0 5 = some 2 ∧ S[2]? = some (105, 4) ∧ ∀ t, t < 4 → P 2 t = some (3 + 2 * t) ∧ trOk P S (3 + 2 * t)) ∧
  (P 0 6 = some 11 ∧ S[11]? = some (7, 12) ∧ P 11 3 = some 13 ∧ S[13]? = some (101, 21)) ∧
  (P 0 7 = some 15 ∧ S[15]? = some (1, 2) ∧ P 15 0 = some 11) ∧
  (P 0 8 = some 16 ∧ S[16]? = some (10, 3) ∧ P 16 0 = some 11 ∧ P 16 1 = some 17 ∧ S[17]? = some (100, 3)) ∧
  (P 0 9 = some f ∧ P 0 10 = some d ∧ (f = 18 ∧ d = 35 ∨ f = 35 ∧ d = 18) ∧ fenOk P S f ∧ fenOk P S d) ∧
  (P 0 11 = some 52 ∧ fenOk P S 52) ∧
  (P 0 12 = some 69 ∧ S[69]? = some (106, 3) ∧ ∀ m, m < 3 → P 69 m = some (70 + 17 * m) ∧ fenOk P S (70 + 17 * m)) ∧
  (P 0 14 = some 121 ∧ S[121]? = some (4, 10) ∧ P 121 9 = some 122 ∧ S[122]? = some (100, 60)) ∧
  (P 0 15 = some 123 ∧ S[123]? = some (4, 10) ∧ P 123 9 = some 124 ∧ S[124]? = some (100, 60)) ∧
  (P 0 16 = some 125 ∧ S[125]? = some (5, 1) ∧ P 125 0 = some 126 ∧ S[126]? = some (100, 7)) ∧
  (P 0 17 = some 127 ∧ S[127]? = some (3, 1) ∧ P 127 0 = some 128 ∧ S[128]? = some (104, 10) ∧ ∀ i, i < 10 → P 128 i = some (129 + i) ∧ S[129 + i]? = some (100, 128)) ∧
  (P 0 18 = some 139 ∧ S[139]? = some (6, 4) ∧ P 139 3 = some 140 ∧ S[140]? = some (100, 7)) ∧
  (P 0 19 = some 141 ∧ S[141]? = some (2, 6) ∧ (P 141 2 = some 142 ∧ S[142]? = some (100, 9)) ∧ (P 141 3 = some 143 ∧ S[143]? = some (100, 9)) ∧ (P 141 4 = some 144 ∧ S[144]? = some (100, 9))) ∧ modOk P S
def zInv (n : Nat) (w : zW) : Prop := ∃ (f d nt np nl nn fed mk : Nat) (I : Nat → Nat → Int32) (J : Nat → Nat → Int64) (P : Nat → Nat → Option Nat) (S : List (Nat × Nat)), w = (I, J, P, S) ∧ clOk f d P S ∧ stR n f nt np nl nn fed mk I J
variable {I I' : Nat → Nat → Int32} {J J' : Nat → Nat → Int64} {P : Nat → Nat → Option Nat} {S : List (Nat × Nat)} {f d nt np nl nn nl' nn' n fed mk g g' c : Nat} {A A' Q : Nat → Nat → Int32} {R R' : Nat → Int32}
theorem fmR_R (h : fmR g A R nt np nl nn) (e : ∀ k, k < 87 → R' k = R k) : fmR g A R' nt np nl nn := by
  obtain ⟨⟨⟨a1, r1, b1⟩, ⟨a2, r2, b2⟩, ⟨a3, r3, b3⟩, ⟨a4, r4, b4⟩⟩, ⟨⟨o, ob, ao, ro⟩, r5⟩, fw, fp, ft, fz⟩ := h
  refine ⟨⟨⟨a1, (e _ (by omega)).trans r1, b1⟩, ⟨a2, (e _ (by omega)).trans r2, b2⟩, ⟨a3, (e _ (by omega)).trans r3, b3⟩, ⟨a4, (e _ (by omega)).trans r4, b4⟩⟩, ⟨⟨o, ob, ao, (e _ (by omega)).trans ro⟩, (e _ (by omega)).trans r5⟩, fun k hk => ?_, fun p hp => ?_, fun t ht => ?_, fz⟩
  · rw [e _ (by omega)]; exact fw k hk
  · rw [e _ (by omega), e _ (by omega), e _ (by omega)]; exact fp p hp
  · rw [e _ (by omega), e _ (by omega), e _ (by omega), e _ (by omega), e _ (by omega), e _ (by omega)]; exact ft t ht
theorem yb_n {n n' : yN} (h1 : n.2.1 ≤ n'.2.1) (h2 : n.2.2.1 ≤ n'.2.2.1) (h3 : n.2.2.2 ≤ n'.2.2.2) : ∀ m x y i j, yb n A Q m x y i j → yb n' A Q m x y i j := by
  have hs : ∀ i s, yst n A Q i s → yst n' A Q i s := by
    rintro i s (⟨x, p, a1, a2, a3⟩ | ⟨x, a1, a3⟩ | ⟨p, k, a1, a2, a3⟩ | a | a)
    · exact Or.inl ⟨x, p, by omega, by omega, a3⟩
    · exact Or.inr (Or.inl ⟨x, by omega, a3⟩)
    · exact Or.inr (Or.inr (Or.inl ⟨p, k, by omega, by omega, a3⟩))
    · exact Or.inr (Or.inr (Or.inr (Or.inl a)))
    · exact Or.inr (Or.inr (Or.inr (Or.inr a)))
  have hk : ∀ i s, ybk n A Q i s → ybk n' A Q i s := by
    rintro i s (a | ⟨q0, ⟨x, p, a1, a2, a3⟩ | ⟨x, a1, a3⟩ | ⟨p, j, v, a1, a3⟩⟩)
    · exact Or.inl a
    · exact Or.inr ⟨q0, Or.inl ⟨x, p, by omega, by omega, a3⟩⟩
    · exact Or.inr ⟨q0, Or.inr (Or.inl ⟨x, by omega, a3⟩)⟩
    · exact Or.inr ⟨q0, Or.inr (Or.inr ⟨p, j, v, by omega, a3⟩)⟩
  intro m
  induction m with
  | zero => intro x y i j h; exact h
  | succ m ih =>
    rintro x y i j (h | ⟨a1, a2, h⟩ | ⟨e, E, a1, a2, a3, a4, a5, a6, a7⟩)
    · exact Or.inl h
    · exact Or.inr (Or.inl ⟨hs _ _ a1, a2, ih _ _ _ _ h⟩)
    · exact Or.inr (Or.inr ⟨e, E, hk _ _ a1, a2, a3, a4, a5, ih _ _ _ _ a6, ih _ _ _ _ a7⟩)
theorem yrR_c (h : yrR f c nt np nn I) (hn : nn ≤ nn') (h1 : ∀ a, f + 12 ≤ a → a ≤ f + 16 → I' a = I a) (h2 : ∀ k, 87 ≤ k → k < 359 → I' 150 (359 * c + k) = I 150 (359 * c + k)) : yrR f c nt np nn' I' := by
  rcases h with ⟨a1, a2, a3⟩ | ⟨m, ns, sz, a1, a2, ⟨a3, a4, a5⟩, ⟨a6, a7⟩, a8⟩
  · left
    rw [h1 (f + 12) (by omega) (by omega), h2 87 (by omega) (by omega)]
    exact ⟨a1, a2, a3⟩
  · right
    refine ⟨m, ns, sz, ?_, ?_, ⟨?_, ?_, a5⟩, ⟨?_, a7⟩, ?_⟩
    · rw [h1 (f + 12) (by omega) (by omega)]; exact a1
    · rw [h2 87 (by omega) (by omega)]; exact a2
    · rw [h1 (f + 12) (by omega) (by omega)]; exact a3
    · rw [h2 88 (by omega) (by omega)]; exact a4
    · rw [h1 (f + 12) (by omega) (by omega)]; exact a6
    · refine yb_c _ _ _ _ _ (fun r k g1 g2 _ _ => congrFun (h1 (f + 12 + r) (by omega) (by omega)) k) (fun s k _ g2 g3 => ?_) (yb_n (n := n3 nt np nn) (n' := n3 nt np nn') (Nat.le_refl _) (Nat.le_refl _) hn _ _ _ _ _ a8)
      show I' 150 (359 * c + 89 + 9 * s + k) = I 150 (359 * c + 89 + 9 * s + k)
      rw [show 359 * c + 89 + 9 * s + k = 359 * c + (89 + 9 * s + k) by omega]
      exact h2 _ (by omega) (by omega)
theorem fnR_g (h : fnR g f c nt np nl nn I J) (hg : g ≤ g') : fnR g' f c nt np nl nn I J := ⟨fmR_g h.1 hg, h.2⟩
theorem fnR_c (h : fnR g f c nt np nl nn I J) (h1 : ∀ a, f ≤ a → a ≤ f + 16 → I' a = I a) (h2 : ∀ k, k < 359 → I' 150 (359 * c + k) = I 150 (359 * c + k)) (h3 : ∀ a, f + 9 ≤ a → a ≤ f + 11 → J' a = J a) (h4 : ∀ k, k < 22 → J' 152 (22 * c + k) = J 152 (22 * c + k)) : fnR g f c nt np nl nn I' J' := by
  obtain ⟨a1, ⟨a2, a3, a4⟩, a5⟩ := h
  have b := a1.1
  refine ⟨fmR_R (fmR_A a1 (fun r hr => h1 (f + r) (by omega) (by omega))) (fun k hk => h2 k (by omega)), ⟨fun k hk => ?_, fun k hk => ?_, fun k hk => ?_⟩, yrR_c a5 (Nat.le_refl _) (fun a g1 g2 => h1 a (by omega) (by omega)) (fun k _ g2 => h2 k g2)⟩
  · rw [h3 (f + 9) (by omega) (by omega), h4 k (by omega)]; exact a2 k hk
  · rw [h3 (f + 10) (by omega) (by omega), Nat.add_assoc, h4 (6 + k) (by omega), ← Nat.add_assoc]; exact a3 k hk
  · rw [h3 (f + 11) (by omega) (by omega), Nat.add_assoc, h4 (13 + k) (by omega), ← Nat.add_assoc]; exact a4 k hk
theorem fmR_0 : fmR g A (fun k => I 150 (359 * 0 + k)) nt np nl nn ↔ fmR g A (I 150) nt np nl nn := by
  have e : (fun k => I 150 (359 * 0 + k)) = I 150 := by funext k; rw [Nat.mul_zero, Nat.zero_add]
  rw [e]
/-- what stays but for the FEN itself -/
def kL (f : Nat) (I I' : Nat → Nat → Int32) : Prop := (∀ a, (a = 1 ∨ (3 ≤ a ∧ a ≤ 10) ∨ (f + 12 ≤ a ∧ a ≤ f + 16) ∨ (70 ≤ a ∧ a ≤ 121) ∨ a = 146 ∨ a = 147 ∨ a = 149 ∨ a = 159) → I' a = I a) ∧ (∀ k, 1 ≤ k → I' 0 k = I 0 k) ∧ (I' 11 10 = I 11 10 ∧ I' 11 11 = I 11 11) ∧ (∀ k, 87 ≤ k → I' 150 k = I 150 k) ∧ (∀ k, (k = 8 ∨ k = 10 ∨ k = 11 ∨ k = 23 ∨ k = 38) → I' 145 k = I 145 k)
def jL (f nn : Nat) (J J' : Nat → Nat → Int64) : Prop := (∀ a, (a = 4 ∨ a = 6 ∨ a = 8 ∨ a = 10 ∨ a = 13 ∨ a = f + 9 ∨ a = f + 10 ∨ (70 ≤ a ∧ a ≤ 120) ∨ a = 148) → J' a = J a) ∧ (∀ k, k < nn → J' (f + 11) k = J (f + 11) k) ∧ ∀ k, (k < 13 + nn ∨ 22 ≤ k) → J' 152 k = J 152 k
theorem kL_r : kL f I I := ⟨fun _ _ => rfl, fun _ _ => rfl, ⟨rfl, rfl⟩, fun _ _ => rfl, fun _ _ => rfl⟩
theorem jL_r : jL f nn J J := ⟨fun _ _ => rfl, fun _ _ => rfl, fun _ _ => rfl⟩
theorem kL_t {I1 : Nat → Nat → Int32} (h1 : kL f I I1) (h2 : kL f I1 I') : kL f I I' := ⟨fun a h => (h2.1 a h).trans (h1.1 a h), fun k h => (h2.2.1 k h).trans (h1.2.1 k h), ⟨h2.2.2.1.1.trans h1.2.2.1.1, h2.2.2.1.2.trans h1.2.2.1.2⟩, fun k h => (h2.2.2.2.1 k h).trans (h1.2.2.2.1 k h), fun k h => (h2.2.2.2.2 k h).trans (h1.2.2.2.2 k h)⟩
theorem jL_t {J1 : Nat → Nat → Int64} (h1 : jL f nn J J1) (h2 : jL f nn J1 J') : jL f nn J J' := ⟨fun a h => (h2.1 a h).trans (h1.1 a h), fun k h => (h2.2.1 k h).trans (h1.2.1 k h), fun k h => (h2.2.2 k h).trans (h1.2.2 k h)⟩
/-- a cell that does not matter between two calls, or that of the FEN -/
theorem kL_u {I1 : Nat → Nat → Int32} {a k : Nat} {x : Int32} (h : kL f I I1) (h1 : ¬ (a = 1 ∨ (3 ≤ a ∧ a ≤ 10) ∨ (f + 12 ≤ a ∧ a ≤ f + 16) ∨ (70 ≤ a ∧ a ≤ 121) ∨ a = 146 ∨ a = 147 ∨ a = 149 ∨ a = 159)) (h2 : a ≠ 0 ∨ k = 0) (h3 : a ≠ 11 ∨ (k ≠ 10 ∧ k ≠ 11)) (h4 : a ≠ 150 ∨ k < 87) (h5 : a ≠ 145 ∨ ¬ (k = 8 ∨ k = 10 ∨ k = 11 ∨ k = 23 ∨ k = 38)) : kL f I (zu I1 a k x) := ⟨fun b hb => (zu_row _ _ _ _ (by rintro rfl; exact h1 hb)).trans (h.1 b hb), fun i hi => (zu_ne _ _ _ _ (by omega)).trans (h.2.1 i hi), ⟨(zu_ne _ _ _ _ (by omega)).trans h.2.2.1.1, (zu_ne _ _ _ _ (by omega)).trans h.2.2.1.2⟩, fun i hi => (zu_ne _ _ _ _ (by omega)).trans (h.2.2.2.1 i hi), fun i hi => (zu_ne _ _ _ _ (by omega)).trans (h.2.2.2.2 i hi)⟩
theorem stR_up (Z : stR n f nt np nl nn fed mk I J) (hf : f = 18 ∨ f = 35) (hK : kL f I I') (hJ : jL f nn J J') (hs : I' 145 0 = I' 0 0 ∧ J' 145 2 = J' 0 1 ∧ J' 145 3 = J' 0 2) (hm : fmR (29700 * (n + 1)) (sf f I') (I' 150) nt np nl' nn') (hn : nn ≤ nn') (hN : ∀ k, nn ≤ k → k < nn' → J' 152 (13 + k) = J' (f + 11) k) : stR (n + 1) f nt np nl' nn' fed mk I' J' := by
  obtain ⟨-, z2, ⟨⟨z3, z4, z5⟩, z6, z7⟩, ⟨z8, z9⟩, z10, ⟨z11, ⟨z12, z13, z14⟩, z15⟩, ⟨⟨z16, z17, z18⟩, z19⟩, z20⟩ := Z
  have b := z11.1
  obtain ⟨k1, k2, ⟨k3, k4⟩, k5, k6⟩ := hK
  obtain ⟨j1, j2, j3⟩ := hJ
  refine ⟨hs, fun t ht => ?_, ⟨⟨(k2 4 (by omega)).trans z3, (k6 8 (by omega)).trans z4, z5⟩, fun k hk => ?_, ?_⟩, ⟨?_, ?_⟩, fun i hi => ?_, ⟨fmR_0.mpr hm, ⟨fun k hk => ?_, fun k hk => ?_, fun k hk => ?_⟩, ?_⟩, ⟨⟨(k2 13 (by omega)).trans z16, (k6 23 (by omega)).trans z17, z18⟩, fun m hm => ?_⟩, ?_⟩
  · have q := z2 t ht
    unfold trR at q ⊢
    rw [k1 (3 + 2 * t) (by omega), k1 147 (by omega), k1 146 (by omega), j1 148 (by omega), j1 (4 + 2 * t) (by omega)]
    exact q
  · rw [k1 149 (by omega), k1 1 (by omega)]; exact z6 k hk
  · rw [k1 1 (by omega)]; exact z7
  · rw [k6 10 (by omega), k3]; exact z8
  · rw [k6 11 (by omega), k4]; exact z9
  · rw [j1 13 (by omega)]; exact z10 i hi
  · rw [j1 (f + 9) (by omega), j3 _ (by omega)]; exact z12 k hk
  · rw [j1 (f + 10) (by omega), j3 _ (by omega)]; exact z13 k hk
  · by_cases h : k < nn
    · rw [j2 k h, j3 _ (by omega)]; exact z14 k h
    · rw [Nat.mul_zero, Nat.zero_add]; exact hN k (by omega) hk
  · exact yrR_c z15 hn (fun a g1 g2 => k1 a (by omega)) (fun k g1 _ => k5 _ (by omega))
  · obtain ⟨nt', np', nl', nn', q⟩ := z19 m hm
    exact ⟨nt', np', nl', nn', fnR_g (fnR_c q (fun a g1 g2 => k1 a (by omega)) (fun k hk => k5 _ (by omega)) (fun a g1 g2 => j1 a (by omega)) (fun k hk => j3 _ (by omega))) (by omega)⟩
  · unfold lvR at z20 ⊢
    rw [k1 121 (by omega), k1 159 (by omega), k6 38 (by omega)]
    exact z20
theorem stR_q (Z : stR n f nt np nl nn fed mk I J) (hf : f = 18 ∨ f = 35) (hK : kL f I I') (hF : ∀ a, f ≤ a → a ≤ f + 8 → I' a = I a) (hB : ∀ k, k < 87 → I' 150 k = I 150 k) (hJ : jL f nn J J') (hs : I' 145 0 = I' 0 0 ∧ J' 145 2 = J' 0 1 ∧ J' 145 3 = J' 0 2) : stR (n + 1) f nt np nl nn fed mk I' J' := by
  refine stR_up Z hf hK hJ hs ?_ (Nat.le_refl _) (fun k _ _ => by omega)
  have q := fmR_0.mp Z.2.2.2.2.2.1.1
  exact fmR_R (fmR_A (fmR_g q (by omega)) (fun r hr => hF (f + r) (by omega) (by omega))) hB
theorem stR_fm (Z : stR n f nt np nl nn fed mk I J) : fmR (29700 * n) (sf f I) (I 150) nt np nl nn := fmR_0.mp Z.2.2.2.2.2.1.1
theorem stR_fen (Z : stR n f nt np nl nn fed mk I J) : fenIn I f nt np nl nn := fmR_in (stR_fm Z)
theorem stR_mod (Z : stR n f nt np nl nn fed mk I J) : modIn I nt np nl nn := fmR_mod (stR_fm Z)
end IV0
