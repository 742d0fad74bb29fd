/-! YEARS' text, in pure words; the class's reader of it -/
section YR0
/-- YEARS as they are read: how many steps, ops, blocks that stand open; which ops opened these; the rows -/
abbrev yS : Type := (Nat × Nat × Nat) × (Nat → Nat) × (Nat → Nat → Int32)
/-- the names that may stand, and how many there are -/
abbrev yN : Type := (Nat → Nat → Int64) × Nat × Nat × Nat
def y_first (a : tk → tk) (n : yN) (o : Int32) (t : tk) : pR (Int32 × tk) := if o = nI 8 ∨ o = nI 10 ∨ o = nI 11 ∨ o = nI 17 then pb (p_known (n.1 11) n.2.2.2 t) (fun k => .inr (k, a t)) else if o = nI 12 ∨ o = nI 13 ∨ o = nI 16 then pb (p_known (n.1 10) n.2.2.1 t) (fun k => .inr (k, a t)) else if o = nI 18 then p_numb a (nI 1) (nI 99) t else .inr (nI 0, t)
def y_second (a : tk → tk) (n : yN) (o : Int32) (t : tk) : pR (Int32 × tk) := if o = nI 8 ∨ o = nI 10 then pb (p_known (n.1 10) n.2.2.1 t) (fun k => .inr (k, a t)) else if o = nI 12 ∨ o = nI 13 then pb (p_known (n.1 9) n.2.1 t) (fun k => .inr (k, a t)) else if o = nI 60 ∨ o = nI 61 ∨ o = nI 62 then p_numb a (nI 0) (nI 9999) t else .inr (nI 0, t)
def y_op (a : tk → tk) (t : tk) : pR (Int32 × tk) := if tkw t = nI 15 then (if tkw (a t) = nI 8 ∨ tkw (a t) = nI 16 ∨ tkw (a t) = nI 17 then .inr (tkw (a t), a (a t)) else .inl (p_mis (a t))) else .inr (tkw t, a t)
def y_cmp (a : tk → tk) (o : Int32) (t : tk) : pR (Int32 × tk) := if o = nI 16 then (if tsg t = nI 60 ∨ tsg t = nI 62 ∨ tsg t = nI 61 then .inr (tsg t, a t) else .inl (p_mis t)) else .inr (o, t)
abbrev y_opens (t : tk) : Prop := tkw t = nI 15 ∨ tkw t = nI 18
abbrev y_word (t : tk) : Prop := y_opens t ∨ tkw t = nI 20 ∨ (nI 10 ≤ tkw t ∧ tkw t ≤ nI 14)
def y_beg (s : yS) (t : tk) : pR Nat := if y_word t then (if 30 ≤ s.1.1 then .inl (6, tst t) else if y_opens t ∧ 3 ≤ s.1.2.2 then .inl (7, tst t) else .inr 0) else .inl (p_mis t)
def y_add (s : yS) (op : Prop) [Decidable op] (o f g : Int32) : yS := ((s.1.1 + 1, s.1.2.1 + 1, if op then s.1.2.2 + 1 else s.1.2.2), (if op then (fun d => if d = s.1.2.2 then s.1.2.1 else s.2.1 d) else s.2.1), zu (s_addOp s.2.2 0 s.1.2.1 o f g) 0 1 (nI (s.1.1 + 1)))
def y_step (a : tk → tk) (n : yN) (s : yS) (t : tk) : pR (yS × tk) := pb (y_op a t) (fun o => pb (y_first a n o.1 o.2) (fun f => pb (y_cmp a o.1 f.2) (fun c => pb (y_second a n c.1 c.2) (fun g => pb (p_semi a g.2) (fun t' => .inr (y_add s (y_opens t) c.1 f.1 g.1, t'))))))
def y_end (a : tk → tk) (s : yS) (t : tk) : pR (yS × tk) := if s.1.2.2 = 0 then .inl (p_mis t) else pb (p_semi a (a t)) (fun t' => .inr (((s.1.1, s.1.2.1 + 1, s.1.2.2 - 1), s.2.1, s_addOp (zu (zu s.2.2 4 (s.2.1 (s.1.2.2 - 1)) (nI s.1.2.1)) 4 s.1.2.1 (nI (s.2.1 (s.1.2.2 - 1)))) 0 s.1.2.1 (nI 19) (nI 0) (nI 0)), t'))
def y_it (a : tk → tk) (n : yN) (s : yS) (t : tk) : pR (yS × tk) := if tkw t = nI 19 then y_end a s t else pb (y_beg s t) (fun _ => y_step a n s t)
def y_parts (a : tk → tk) (n : yN) : Nat → yS → tk → pR yS
  | 0, s, t => if s.1.2.2 = 0 then .inr s else .inl (p_mis t)
  | m + 1, s, t => if tkd t = 0 then (if s.1.2.2 = 0 then .inr s else .inl (p_mis t)) else pb (y_it a n s t) (fun x => y_parts a n m x.1 x.2)
end YR0
section YR1
variable {G : zG} {I I1 I2 : Nat → Nat → Int32} {J J1 J2 : Nat → Nat → Int64} {P : Nat → Nat → Option Nat} {S : List (Nat × Nat)} {L f g : Nat} {T : Nat → Int32} {K : Nat → Int64} {t t' : tk} {s : yS} {e : Nat × Nat} {w : zW} {n : yN}
/-- what YEARS' reading leaves as it is -/
def yrF {α : Type} (g : Nat) (I I' : Nat → Nat → α) : Prop := ∀ a, a ≠ 11 → a ≠ 16 → a ≠ 17 → ¬ (g ≤ a ∧ a ≤ g + 4) → I' a = I a
theorem yrF_r {α : Type} {I : Nat → Nat → α} : yrF g I I := fun _ _ _ _ _ => rfl
theorem yrF_t {α : Type} {I I1 I2 : Nat → Nat → α} (h1 : yrF g I I1) (h2 : yrF g I1 I2) : yrF g I I2 := fun a g1 g2 g3 g4 => (h2 a g1 g2 g3 g4).trans (h1 a g1 g2 g3 g4)
theorem yrF_u {α : Type} {I I1 : Nat → Nat → α} {a k : Nat} {x : α} (h1 : yrF g I I1) (h : a = 11 ∨ a = 16 ∨ a = 17 ∨ (g ≤ a ∧ a ≤ g + 4)) : yrF g I (zu I1 a k x) := fun b g1 g2 g3 g4 => (zu_row _ _ _ _ (by omega)).trans (h1 b g1 g2 g3 g4)
theorem yrF_tk (h : tkF I I1) : yrF g I I1 := fun a g1 _ _ _ => h.1 a g1
theorem yrF_tj (h : tkJ J J1) : yrF g J J1 := fun a g1 _ _ _ => h a g1
/-- the FEN by whose names YEARS are read -/
def yfN (f : Nat) (I : Nat → Nat → Int32) (J : Nat → Nat → Int64) (n : yN) : Prop := J (f + 9) = n.1 9 ∧ J (f + 10) = n.1 10 ∧ J (f + 11) = n.1 11 ∧ (I f 1 = nI n.2.1 ∧ n.2.1 ≤ 6) ∧ (I f 2 = nI n.2.2.1 ∧ n.2.2.1 ≤ 7) ∧ (I f 4 = nI n.2.2.2 ∧ n.2.2.2 ≤ 9)
def yrC (T : Nat → Int32) (K : Nat → Int64) (L f g : Nat) (n : yN) (I : Nat → Nat → Int32) (J : Nat → Nat → Int64) (P : Nat → Nat → Option Nat) (S : List (Nat × Nat)) (s : yS) (t : tk) : Prop := tkC T K 1 900 L I J P S t ∧ fenOk P S f ∧ yrOk P S g ∧ (S[16]? = some (10, 3) ∧ P 16 0 = some 11 ∧ P 16 1 = some 17 ∧ S[17]? = some (100, 3)) ∧ (17 < f ∧ 17 < g ∧ (f + 12 < g ∨ g + 4 < f)) ∧ yfN f I J n ∧ sf g I = s.2.2 ∧ (I g 1 = nI s.1.1 ∧ s.1.1 ≤ 30) ∧ I g 2 = nI s.1.2.1 ∧ (I 16 2 = nI s.1.2.2 ∧ s.1.2.2 ≤ 3) ∧ s.1.2.1 + s.1.2.2 ≤ 2 * s.1.1 ∧ (∀ d, d < s.1.2.2 → I 17 d = nI (s.2.1 d) ∧ s.2.1 d < s.1.2.1) ∧ I 11 10 = nI 0 ∧ I 11 11 = -1
def yrN (T : Nat → Int32) (K : Nat → Int64) (L f g : Nat) (n : yN) (I : Nat → Nat → Int32) (J : Nat → Nat → Int64) (P : Nat → Nat → Option Nat) (S : List (Nat × Nat)) (x : yS × tk) (w : zW) : Prop := ∃ I' J', w = (I', J', P, S) ∧ yrF g I I' ∧ yrF g J J' ∧ yrC T K L f g n I' J' P S x.1 x.2
def yrE (g : Nat) (I : Nat → Nat → Int32) (J : Nat → Nat → Int64) (P : Nat → Nat → Option Nat) (S : List (Nat × Nat)) (e : Nat × Nat) (w : zW) : Prop := ∃ I' J', w = (I', J', P, S) ∧ yrF g I I' ∧ yrF g J J' ∧ I' 11 10 = nI e.1 ∧ I' 11 11 = nI e.2
theorem yrN_tk (C : yrC T K L f g n I J P S s t) (h : tkN T K 1 900 L I J P S t' w) : yrN T K L f g n I J P S (s, t') w := by
  obtain ⟨I1, J1, rfl, h1, h2, h3⟩ := h
  obtain ⟨-, c1, c2, c3, ⟨d1, d2, d3⟩, ⟨b1, b2, b3, b4, b5, b6⟩, c5, c6, c7, c8, c9, c10, c11, c12⟩ := C
  have e1 : I1 g = I g := h1.1 g (by omega)
  have e2 : I1 f = I f := h1.1 f (by omega)
  refine ⟨I1, J1, rfl, yrF_tk h1, yrF_tj h2, h3, c1, c2, c3, ⟨d1, d2, d3⟩, ⟨(h2 _ (by omega)).trans b1, (h2 _ (by omega)).trans b2, (h2 _ (by omega)).trans b3, by rw [e2]; exact b4, by rw [e2]; exact b5, by rw [e2]; exact b6⟩, ?_, ?_, ?_, ?_, c9, ?_, h1.2.2.1.trans c11, h1.2.2.2.trans c12⟩
  · rw [← c5]; funext i; exact h1.1 (g + i) (by omega)
  · rw [e1]; exact c6
  · rw [e1]; exact c7
  · rw [h1.1 16 (by decide)]; exact c8
  · rw [h1.1 17 (by decide)]; exact c10
theorem yrE_tk (h : tkE I J P S e w) : yrE g I J P S e w := by
  obtain ⟨I1, J1, rfl, h1, h2⟩ := h
  exact ⟨I1, J1, rfl, fun a g _ _ _ => h1.1 a g, yrF_tj h2, h1.2.1, h1.2.2⟩
theorem yrE_t (h1 : yrF g I I1) (h2 : yrF g J J1) (h : yrE g I1 J1 P S e w) : yrE g I J P S e w := by
  obtain ⟨I2, J2, rfl, g1, g2, g3⟩ := h
  exact ⟨I2, J2, rfl, yrF_t h1 g1, yrF_t h2 g2, g3⟩
theorem yrN_t {x : yS × tk} (h1 : yrF g I I1) (h2 : yrF g J J1) (h : yrN T K L f g n I1 J1 P S x w) : yrN T K L f g n I J P S x w := by
  obtain ⟨I2, J2, rfl, g1, g2, g3⟩ := h
  exact ⟨I2, J2, rfl, yrF_t h1 g1, yrF_t h2 g2, g3⟩
theorem t_YearsR_takeFirst {k : Nat} (C : tkC T K 1 900 L I J P S t) (F : fenOk P S f) (R : S[16]? = some (10, 3) ∧ P 16 0 = some 11 ∧ P 16 1 = some 17 ∧ S[17]? = some (100, 3)) (N : yfN f I J n) (hk : k = 8 ∨ k = 10 ∨ k = 11 ∨ k = 12 ∨ k = 13 ∨ k = 14 ∨ k = 16 ∨ k = 17 ∨ k = 18 ∨ k = 20) : zEi G y_YearsR_takeFirst prog_12_method_6_code 3 (some .int) 5 [.ref 16, .ref f, .int (nI k)] (I, J, P, S) (fun r w => pQ (y_first (tA T L K) n (nI k) t) (fun e => r = -1 ∧ tkE I J P S e w) (fun v => r = v.1 ∧ tkN T K 1 900 L I J P S v.2 w)) := by
  have X0 := C.1.1
  obtain ⟨R0, R1, R2, R3⟩ := R
  obtain ⟨N9, N10, N11, ⟨n1, n1b⟩, ⟨n2, n2b⟩, ⟨n4, n4b⟩⟩ := N
  obtain ⟨F0, ⟨F8, F8s⟩, ⟨F9, F9s⟩, ⟨F10, F10s⟩, ⟨F11, F11s⟩, ⟨F12, F12s⟩, ⟨F13, F13s⟩, ⟨F14, F14s⟩, ⟨F15, F15s⟩, ⟨F16, F16s⟩, ⟨F17, F17s⟩, ⟨F18, F18s⟩, ⟨F19, F19s⟩, ⟨Y3, Y3s⟩, ⟨Y4, Y4s⟩, ⟨Y5, Y5s⟩, ⟨Y6, Y6s⟩⟩ := id F
  refine zEi_of (lv := [some (.ref 16), some (.ref f), some (.int (nI k))]) (by decide) rfl (Nat.le_of_ble_eq_true rfl) ?_
  have c60 : zA G y_YearsR_takeFirst prog_12_method_6_code 3 (some .int) (zRm 5 0 0) (zM G 0 0 (fun r w' => ∃ x, r = some (.int x) ∧ (fun r w => pQ (y_first (tA T L K) n (nI k) t) (fun e => r = -1 ∧ tkE I J P S e w) (fun v => r = v.1 ∧ tkN T K 1 900 L I J P S v.2 w)) x w')) 60 [some (.ref 16), some (.ref f), some (.int (nI k))] [] (I, J, P, S) 0 0 ∨ ¬ (k = 8 ∨ k = 10 ∨ k = 11 ∨ k = 17) := by
    by_cases hc : k = 8 ∨ k = 10 ∨ k = 11 ∨ k = 17
    · left
      have e0 : y_first (tA T L K) n (nI k) t = pb (p_known (n.1 11) n.2.2.2 t) (fun k => .inr (k, tA T L K t)) := by
        unfold y_first
        rw [if_pos]
        rcases hc with rfl | rfl | rfl | rfl <;> decide
      rw [e0, ← N11]
      refine z_aload_0 d_YearsR_takeFirst_60 ?_
      refine z_getR d_YearsR_takeFirst_61 f_YearsR_15 (by first | assumption | exact zS0_at (by assumption) (by omega) | exact zS0_at rfl (by omega)) (by first | assumption | exact zS0_at (by assumption) (by omega) | exact zS0_at rfl (by omega)) ?_
      refine z_aload_1 d_YearsR_takeFirst_64 ?_
      refine z_getR d_YearsR_takeFirst_65 f_YearsR_93 (by first | assumption | exact zS0_at (by assumption) (by omega) | exact zS0_at rfl (by omega)) (by first | assumption | exact zS0_at (by assumption) (by omega) | exact zS0_at rfl (by omega)) ?_
      refine z_aload_1 d_YearsR_takeFirst_68 ?_
      refine z_getIv d_YearsR_takeFirst_69 f_YearsR_99 (by first | assumption | exact zS0_at (by assumption) (by omega) | exact zS0_at rfl (by omega)) (by first | assumption | ((try simp (disch := omega) only [zu_same, zu_ne, zcp_ne, zfl_ne]); first | assumption | rfl)) ?_
      refine z_Vi2 d_YearsR_takeFirst_72 k_YearsR_102 (by first | assumption | exact zS0_at (by assumption) (by omega) | exact zS0_at rfl (by omega)) (t_Tok_takeKnown C F18s n4b (by decide)) ⟨Nat.le_of_ble_eq_true rfl, Nat.le_of_ble_eq_true rfl, Nat.le_of_ble_eq_true rfl, Nat.le_of_ble_eq_true rfl⟩ (Nat.le_of_ble_eq_true rfl) ?_
      intro r w hq
      rcases hx : p_known (J (f + 11)) n.2.2.2 t with e | v <;> rw [hx] at hq <;> dsimp only [pb, pQ]
      · obtain ⟨rfl, I', J', rfl, hq⟩ := hq
        refine z_reti d_YearsR_takeFirst_75 ?_
        exact ⟨rfl, I', J', rfl, hq⟩
      · obtain ⟨rfl, I', J', rfl, hq⟩ := hq
        refine z_reti d_YearsR_takeFirst_75 ?_
        exact ⟨rfl, I', J', rfl, hq⟩
    · exact Or.inr hc
  have c76 : zA G y_YearsR_takeFirst prog_12_method_6_code 3 (some .int) (zRm 5 0 0) (zM G 0 0 (fun r w' => ∃ x, r = some (.int x) ∧ (fun r w => pQ (y_first (tA T L K) n (nI k) t) (fun e => r = -1 ∧ tkE I J P S e w) (fun v => r = v.1 ∧ tkN T K 1 900 L I J P S v.2 w)) x w')) 76 [some (.ref 16), some (.ref f), some (.int (nI k))] [] (I, J, P, S) 0 0 ∨ ¬ (k = 12 ∨ k = 13 ∨ k = 16) := by
    by_cases hc : k = 12 ∨ k = 13 ∨ k = 16
    · left
      have e0 : y_first (tA T L K) n (nI k) t = pb (p_known (n.1 10) n.2.2.1 t) (fun k => .inr (k, tA T L K t)) := by
        unfold y_first
        rw [if_neg, if_pos]
        · rcases hc with rfl | rfl | rfl <;> decide
        · rcases hc with rfl | rfl | rfl <;> decide
      rw [e0, ← N10]
      refine z_aload_0 d_YearsR_takeFirst_76 ?_
      refine z_getR d_YearsR_takeFirst_77 f_YearsR_15 (by first | assumption | exact zS0_at (by assumption) (by omega) | exact zS0_at rfl (by omega)) (by first | assumption | exact zS0_at (by assumption) (by omega) | exact zS0_at rfl (by omega)) ?_
      refine z_aload_1 d_YearsR_takeFirst_80 ?_
      refine z_getR d_YearsR_takeFirst_81 f_YearsR_106 (by first | assumption | exact zS0_at (by assumption) (by omega) | exact zS0_at rfl (by omega)) (by first | assumption | exact zS0_at (by assumption) (by omega) | exact zS0_at rfl (by omega)) ?_
      refine z_aload_1 d_YearsR_takeFirst_84 ?_
      refine z_getIv d_YearsR_takeFirst_85 f_YearsR_109 (by first | assumption | exact zS0_at (by assumption) (by omega) | exact zS0_at rfl (by omega)) (by first | assumption | ((try simp (disch := omega) only [zu_same, zu_ne, zcp_ne, zfl_ne]); first | assumption | rfl)) ?_
      refine z_Vi2 d_YearsR_takeFirst_88 k_YearsR_102 (by first | assumption | exact zS0_at (by assumption) (by omega) | exact zS0_at rfl (by omega)) (t_Tok_takeKnown C F17s n2b (by decide)) ⟨Nat.le_of_ble_eq_true rfl, Nat.le_of_ble_eq_true rfl, Nat.le_of_ble_eq_true rfl, Nat.le_of_ble_eq_true rfl⟩ (Nat.le_of_ble_eq_true rfl) ?_
      intro r w hq
      rcases hx : p_known (J (f + 10)) n.2.2.1 t with e | v <;> rw [hx] at hq <;> dsimp only [pb, pQ]
      · obtain ⟨rfl, I', J', rfl, hq⟩ := hq
        refine z_reti d_YearsR_takeFirst_91 ?_
        exact ⟨rfl, I', J', rfl, hq⟩
      · obtain ⟨rfl, I', J', rfl, hq⟩ := hq
        refine z_reti d_YearsR_takeFirst_91 ?_
        exact ⟨rfl, I', J', rfl, hq⟩
    · exact Or.inr hc
  have c103 : zA G y_YearsR_takeFirst prog_12_method_6_code 3 (some .int) (zRm 5 0 0) (zM G 0 0 (fun r w' => ∃ x, r = some (.int x) ∧ (fun r w => pQ (y_first (tA T L K) n (nI k) t) (fun e => r = -1 ∧ tkE I J P S e w) (fun v => r = v.1 ∧ tkN T K 1 900 L I J P S v.2 w)) x w')) 103 [some (.ref 16), some (.ref f), some (.int (nI k))] [] (I, J, P, S) 0 0 ∨ ¬ (k = 14 ∨ k = 20) := by
    by_cases hc : k = 14 ∨ k = 20
    · left
      have e0 : y_first (tA T L K) n (nI k) t = .inr (nI 0, t) := by
        unfold y_first
        rw [if_neg, if_neg, if_neg]
        · rcases hc with rfl | rfl <;> decide
        · rcases hc with rfl | rfl <;> decide
        · rcases hc with rfl | rfl <;> decide
      rw [e0]
      refine z_iconst (a := nI 0) d_YearsR_takeFirst_103 (by decide) ?_
      refine z_reti d_YearsR_takeFirst_104 ?_
      exact ⟨rfl, I, J, rfl, tkF_r, tkJ_r, C⟩
    · exact Or.inr hc
  refine z_iload_2 d_YearsR_takeFirst_0 ?_
  rcases hk with rfl | rfl | rfl | rfl | rfl | rfl | rfl | rfl | rfl | rfl
  · refine z_tableIn (off := 59) (tgt := 60) d_YearsR_takeFirst_1 (by decide) (by decide) (by decide) (by decide) ?_
    exact c60.resolve_right (fun h => h (by decide))
  · refine z_tableIn (off := 59) (tgt := 60) d_YearsR_takeFirst_1 (by decide) (by decide) (by decide) (by decide) ?_
    exact c60.resolve_right (fun h => h (by decide))
  · refine z_tableIn (off := 59) (tgt := 60) d_YearsR_takeFirst_1 (by decide) (by decide) (by decide) (by decide) ?_
    exact c60.resolve_right (fun h => h (by decide))
  · refine z_tableIn (off := 75) (tgt := 76) d_YearsR_takeFirst_1 (by decide) (by decide) (by decide) (by decide) ?_
    exact c76.resolve_right (fun h => h (by decide))
  · refine z_tableIn (off := 75) (tgt := 76) d_YearsR_takeFirst_1 (by decide) (by decide) (by decide) (by decide) ?_
    exact c76.resolve_right (fun h => h (by decide))
  · refine z_tableIn (off := 102) (tgt := 103) d_YearsR_takeFirst_1 (by decide) (by decide) (by decide) (by decide) ?_
    exact c103.resolve_right (fun h => h (by decide))
  · refine z_tableIn (off := 75) (tgt := 76) d_YearsR_takeFirst_1 (by decide) (by decide) (by decide) (by decide) ?_
    exact c76.resolve_right (fun h => h (by decide))
  · refine z_tableIn (off := 59) (tgt := 60) d_YearsR_takeFirst_1 (by decide) (by decide) (by decide) (by decide) ?_
    exact c60.resolve_right (fun h => h (by decide))
  · refine z_tableIn (off := 91) (tgt := 92) d_YearsR_takeFirst_1 (by decide) (by decide) (by decide) (by decide) ?_
    have e0 : y_first (tA T L K) n (nI 18) t = p_numb (tA T L K) (nI 1) (nI 99) t := by
      unfold y_first
      rw [if_neg (by decide), if_neg (by decide), if_pos rfl]
    rw [e0]
    refine z_aload_0 d_YearsR_takeFirst_92 ?_
    refine z_getR d_YearsR_takeFirst_93 f_YearsR_15 (by first | assumption | exact zS0_at (by assumption) (by omega) | exact zS0_at rfl (by omega)) (by first | assumption | exact zS0_at (by assumption) (by omega) | exact zS0_at rfl (by omega)) ?_
    refine z_iconst (a := nI 1) d_YearsR_takeFirst_96 (by decide) ?_
    refine z_bipush (a := nI 99) d_YearsR_takeFirst_97 (by decide) ?_
    refine z_Vi2 d_YearsR_takeFirst_99 k_YearsR_112 (by first | assumption | exact zS0_at (by assumption) (by omega) | exact zS0_at rfl (by omega)) (t_Tok_takeNumber C) ⟨Nat.le_of_ble_eq_true rfl, Nat.le_of_ble_eq_true rfl, Nat.le_of_ble_eq_true rfl, Nat.le_of_ble_eq_true rfl⟩ (Nat.le_of_ble_eq_true rfl) ?_
    intro r w hq
    rcases hx : p_numb (tA T L K) (nI 1) (nI 99) t with e | v <;> rw [hx] at hq
    · obtain ⟨rfl, I', J', rfl, hq⟩ := hq
      refine z_reti d_YearsR_takeFirst_102 ?_
      exact ⟨rfl, I', J', rfl, hq⟩
    · obtain ⟨rfl, I', J', rfl, hq⟩ := hq
      refine z_reti d_YearsR_takeFirst_102 ?_
      exact ⟨rfl, I', J', rfl, hq⟩
  · refine z_tableOut (tgt := 103) d_YearsR_takeFirst_1 (by decide) (by decide) ?_
    exact c103.resolve_right (fun h => h (by decide))
theorem t_YearsR_takeSecond {k : Nat} (C : tkC T K 1 900 L I J P S t) (F : fenOk P S f) (R : S[16]? = some (10, 3) ∧ P 16 0 = some 11 ∧ P 16 1 = some 17 ∧ S[17]? = some (100, 3)) (N : yfN f I J n) (hk : k = 8 ∨ k = 10 ∨ k = 11 ∨ k = 12 ∨ k = 13 ∨ k = 14 ∨ k = 17 ∨ k = 18 ∨ k = 20 ∨ k = 60 ∨ k = 61 ∨ k = 62) : zEi G y_YearsR_takeSecond prog_12_method_7_code 3 (some .int) 5 [.ref 16, .ref f, .int (nI k)] (I, J, P, S) (fun r w => pQ (y_second (tA T L K) n (nI k) t) (fun e => r = -1 ∧ tkE I J P S e w) (fun v => r = v.1 ∧ tkN T K 1 900 L I J P S v.2 w)) := by
  have X0 := C.1.1
  obtain ⟨R0, R1, R2, R3⟩ := R
  obtain ⟨N9, N10, N11, ⟨n1, n1b⟩, ⟨n2, n2b⟩, ⟨n4, n4b⟩⟩ := N
  obtain ⟨F0, ⟨F8, F8s⟩, ⟨F9, F9s⟩, ⟨F10, F10s⟩, ⟨F11, F11s⟩, ⟨F12, F12s⟩, ⟨F13, F13s⟩, ⟨F14, F14s⟩, ⟨F15, F15s⟩, ⟨F16, F16s⟩, ⟨F17, F17s⟩, ⟨F18, F18s⟩, ⟨F19, F19s⟩, ⟨Y3, Y3s⟩, ⟨Y4, Y4s⟩, ⟨Y5, Y5s⟩, ⟨Y6, Y6s⟩⟩ := id F
  refine zEi_of (lv := [some (.ref 16), some (.ref f), some (.int (nI k))]) (by decide) rfl (Nat.le_of_ble_eq_true rfl) ?_
  have c68 : zA G y_YearsR_takeSecond prog_12_method_7_code 3 (some .int) (zRm 5 0 0) (zM G 0 0 (fun r w' => ∃ x, r = some (.int x) ∧ (fun r w => pQ (y_second (tA T L K) n (nI k) t) (fun e => r = -1 ∧ tkE I J P S e w) (fun v => r = v.1 ∧ tkN T K 1 900 L I J P S v.2 w)) x w')) 68 [some (.ref 16), some (.ref f), some (.int (nI k))] [] (I, J, P, S) 0 0 ∨ ¬ (k = 8 ∨ k = 10) := by
    by_cases hc : k = 8 ∨ k = 10
    · left
      have e0 : y_second (tA T L K) n (nI k) t = pb (p_known (n.1 10) n.2.2.1 t) (fun k => .inr (k, tA T L K t)) := by
        unfold y_second
        rw [if_pos]
        rcases hc with rfl | rfl <;> decide
      rw [e0, ← N10]
      refine z_aload_0 d_YearsR_takeSecond_68 ?_
      refine z_getR d_YearsR_takeSecond_69 f_YearsR_15 (by first | assumption | exact zS0_at (by assumption) (by omega) | exact zS0_at rfl (by omega)) (by first | assumption | exact zS0_at (by assumption) (by omega) | exact zS0_at rfl (by omega)) ?_
      refine z_aload_1 d_YearsR_takeSecond_72 ?_
      refine z_getR d_YearsR_takeSecond_73 f_YearsR_106 (by first | assumption | exact zS0_at (by assumption) (by omega) | exact zS0_at rfl (by omega)) (by first | assumption | exact zS0_at (by assumption) (by omega) | exact zS0_at rfl (by omega)) ?_
      refine z_aload_1 d_YearsR_takeSecond_76 ?_
      refine z_getIv d_YearsR_takeSecond_77 f_YearsR_109 (by first | assumption | exact zS0_at (by assumption) (by omega) | exact zS0_at rfl (by omega)) (by first | assumption | ((try simp (disch := omega) only [zu_same, zu_ne, zcp_ne, zfl_ne]); first | assumption | rfl)) ?_
      refine z_Vi2 d_YearsR_takeSecond_80 k_YearsR_102 (by first | assumption | exact zS0_at (by assumption) (by omega) | exact zS0_at rfl (by omega)) (t_Tok_takeKnown C F17s n2b (by decide)) ⟨Nat.le_of_ble_eq_true rfl, Nat.le_of_ble_eq_true rfl, Nat.le_of_ble_eq_true rfl, Nat.le_of_ble_eq_true rfl⟩ (Nat.le_of_ble_eq_true rfl) ?_
      intro r w hq
      rcases hx : p_known (J (f + 10)) n.2.2.1 t with e | v <;> rw [hx] at hq <;> dsimp only [pb, pQ]
      · obtain ⟨rfl, I', J', rfl, hq⟩ := hq
        refine z_reti d_YearsR_takeSecond_83 ?_
        exact ⟨rfl, I', J', rfl, hq⟩
      · obtain ⟨rfl, I', J', rfl, hq⟩ := hq
        refine z_reti d_YearsR_takeSecond_83 ?_
        exact ⟨rfl, I', J', rfl, hq⟩
    · exact Or.inr hc
  have c84 : zA G y_YearsR_takeSecond prog_12_method_7_code 3 (some .int) (zRm 5 0 0) (zM G 0 0 (fun r w' => ∃ x, r = some (.int x) ∧ (fun r w => pQ (y_second (tA T L K) n (nI k) t) (fun e => r = -1 ∧ tkE I J P S e w) (fun v => r = v.1 ∧ tkN T K 1 900 L I J P S v.2 w)) x w')) 84 [some (.ref 16), some (.ref f), some (.int (nI k))] [] (I, J, P, S) 0 0 ∨ ¬ (k = 12 ∨ k = 13) := by
    by_cases hc : k = 12 ∨ k = 13
    · left
      have e0 : y_second (tA T L K) n (nI k) t = pb (p_known (n.1 9) n.2.1 t) (fun k => .inr (k, tA T L K t)) := by
        unfold y_second
        rw [if_neg, if_pos]
        · rcases hc with rfl | rfl <;> decide
        · rcases hc with rfl | rfl <;> decide
      rw [e0, ← N9]
      refine z_aload_0 d_YearsR_takeSecond_84 ?_
      refine z_getR d_YearsR_takeSecond_85 f_YearsR_15 (by first | assumption | exact zS0_at (by assumption) (by omega) | exact zS0_at rfl (by omega)) (by first | assumption | exact zS0_at (by assumption) (by omega) | exact zS0_at rfl (by omega)) ?_
      refine z_aload_1 d_YearsR_takeSecond_88 ?_
      refine z_getR d_YearsR_takeSecond_89 f_YearsR_116 (by first | assumption | exact zS0_at (by assumption) (by omega) | exact zS0_at rfl (by omega)) (by first | assumption | exact zS0_at (by assumption) (by omega) | exact zS0_at rfl (by omega)) ?_
      refine z_aload_1 d_YearsR_takeSecond_92 ?_
      refine z_getIv d_YearsR_takeSecond_93 f_YearsR_119 (by first | assumption | exact zS0_at (by assumption) (by omega) | exact zS0_at rfl (by omega)) (by first | assumption | ((try simp (disch := omega) only [zu_same, zu_ne, zcp_ne, zfl_ne]); first | assumption | rfl)) ?_
      refine z_Vi2 d_YearsR_takeSecond_96 k_YearsR_102 (by first | assumption | exact zS0_at (by assumption) (by omega) | exact zS0_at rfl (by omega)) (t_Tok_takeKnown C F16s n1b (by decide)) ⟨Nat.le_of_ble_eq_true rfl, Nat.le_of_ble_eq_true rfl, Nat.le_of_ble_eq_true rfl, Nat.le_of_ble_eq_true rfl⟩ (Nat.le_of_ble_eq_true rfl) ?_
      intro r w hq
      rcases hx : p_known (J (f + 9)) n.2.1 t with e | v <;> rw [hx] at hq <;> dsimp only [pb, pQ]
      · obtain ⟨rfl, I', J', rfl, hq⟩ := hq
        refine z_reti d_YearsR_takeSecond_99 ?_
        exact ⟨rfl, I', J', rfl, hq⟩
      · obtain ⟨rfl, I', J', rfl, hq⟩ := hq
        refine z_reti d_YearsR_takeSecond_99 ?_
        exact ⟨rfl, I', J', rfl, hq⟩
    · exact Or.inr hc
  have c100 : zA G y_YearsR_takeSecond prog_12_method_7_code 3 (some .int) (zRm 5 0 0) (zM G 0 0 (fun r w' => ∃ x, r = some (.int x) ∧ (fun r w => pQ (y_second (tA T L K) n (nI k) t) (fun e => r = -1 ∧ tkE I J P S e w) (fun v => r = v.1 ∧ tkN T K 1 900 L I J P S v.2 w)) x w')) 100 [some (.ref 16), some (.ref f), some (.int (nI k))] [] (I, J, P, S) 0 0 ∨ ¬ (k = 60 ∨ k = 61 ∨ k = 62) := by
    by_cases hc : k = 60 ∨ k = 61 ∨ k = 62
    · left
      have e0 : y_second (tA T L K) n (nI k) t = p_numb (tA T L K) (nI 0) (nI 9999) t := by
        unfold y_second
        rw [if_neg, if_neg, if_pos]
        · rcases hc with rfl | rfl | rfl <;> decide
        · rcases hc with rfl | rfl | rfl <;> decide
        · rcases hc with rfl | rfl | rfl <;> decide
      rw [e0]
      refine z_aload_0 d_YearsR_takeSecond_100 ?_
      refine z_getR d_YearsR_takeSecond_101 f_YearsR_15 (by first | assumption | exact zS0_at (by assumption) (by omega) | exact zS0_at rfl (by omega)) (by first | assumption | exact zS0_at (by assumption) (by omega) | exact zS0_at rfl (by omega)) ?_
      refine z_iconst (a := nI 0) d_YearsR_takeSecond_104 (by decide) ?_
      refine z_sipush (a := nI 9999) d_YearsR_takeSecond_105 (by decide) ?_
      refine z_Vi2 d_YearsR_takeSecond_108 k_YearsR_112 (by first | assumption | exact zS0_at (by assumption) (by omega) | exact zS0_at rfl (by omega)) (t_Tok_takeNumber C) ⟨Nat.le_of_ble_eq_true rfl, Nat.le_of_ble_eq_true rfl, Nat.le_of_ble_eq_true rfl, Nat.le_of_ble_eq_true rfl⟩ (Nat.le_of_ble_eq_true rfl) ?_
      intro r w hq
      rcases hx : p_numb (tA T L K) (nI 0) (nI 9999) t with e | v <;> rw [hx] at hq
      · obtain ⟨rfl, I', J', rfl, hq⟩ := hq
        refine z_reti d_YearsR_takeSecond_111 ?_
        exact ⟨rfl, I', J', rfl, hq⟩
      · obtain ⟨rfl, I', J', rfl, hq⟩ := hq
        refine z_reti d_YearsR_takeSecond_111 ?_
        exact ⟨rfl, I', J', rfl, hq⟩
    · exact Or.inr hc
  have c112 : zA G y_YearsR_takeSecond prog_12_method_7_code 3 (some .int) (zRm 5 0 0) (zM G 0 0 (fun r w' => ∃ x, r = some (.int x) ∧ (fun r w => pQ (y_second (tA T L K) n (nI k) t) (fun e => r = -1 ∧ tkE I J P S e w) (fun v => r = v.1 ∧ tkN T K 1 900 L I J P S v.2 w)) x w')) 112 [some (.ref 16), some (.ref f), some (.int (nI k))] [] (I, J, P, S) 0 0 ∨ ¬ (k = 11 ∨ k = 14 ∨ k = 17 ∨ k = 18 ∨ k = 20) := by
    by_cases hc : k = 11 ∨ k = 14 ∨ k = 17 ∨ k = 18 ∨ k = 20
    · left
      have e0 : y_second (tA T L K) n (nI k) t = .inr (nI 0, t) := by
        unfold y_second
        rw [if_neg, if_neg, if_neg]
        · rcases hc with rfl | rfl | rfl | rfl | rfl <;> decide
        · rcases hc with rfl | rfl | rfl | rfl | rfl <;> decide
        · rcases hc with rfl | rfl | rfl | rfl | rfl <;> decide
      rw [e0]
      refine z_iconst (a := nI 0) d_YearsR_takeSecond_112 (by decide) ?_
      refine z_reti d_YearsR_takeSecond_113 ?_
      exact ⟨rfl, I, J, rfl, tkF_r, tkJ_r, C⟩
    · exact Or.inr hc
  refine z_iload_2 d_YearsR_takeSecond_0 ?_
  rcases hk with rfl | rfl | rfl | rfl | rfl | rfl | rfl | rfl | rfl | rfl | rfl | rfl
  · refine z_lookup (off := 67) (tgt := 68) d_YearsR_takeSecond_1 (by decide) (by decide) (by decide) ?_
    exact c68.resolve_right (fun h => h (by decide))
  · refine z_lookup (off := 67) (tgt := 68) d_YearsR_takeSecond_1 (by decide) (by decide) (by decide) ?_
    exact c68.resolve_right (fun h => h (by decide))
  · refine z_lookup (off := 111) (tgt := 112) d_YearsR_takeSecond_1 (by decide) (by decide) (by decide) ?_
    exact c112.resolve_right (fun h => h (by decide))
  · refine z_lookup (off := 83) (tgt := 84) d_YearsR_takeSecond_1 (by decide) (by decide) (by decide) ?_
    exact c84.resolve_right (fun h => h (by decide))
  · refine z_lookup (off := 83) (tgt := 84) d_YearsR_takeSecond_1 (by decide) (by decide) (by decide) ?_
    exact c84.resolve_right (fun h => h (by decide))
  · refine z_lookup (off := 111) (tgt := 112) d_YearsR_takeSecond_1 (by decide) (by decide) (by decide) ?_
    exact c112.resolve_right (fun h => h (by decide))
  · refine z_lookup (off := 111) (tgt := 112) d_YearsR_takeSecond_1 (by decide) (by decide) (by decide) ?_
    exact c112.resolve_right (fun h => h (by decide))
  · refine z_lookup (off := 111) (tgt := 112) d_YearsR_takeSecond_1 (by decide) (by decide) (by decide) ?_
    exact c112.resolve_right (fun h => h (by decide))
  · refine z_lookup (off := 111) (tgt := 112) d_YearsR_takeSecond_1 (by decide) (by decide) (by decide) ?_
    exact c112.resolve_right (fun h => h (by decide))
  · refine z_lookup (off := 99) (tgt := 100) d_YearsR_takeSecond_1 (by decide) (by decide) (by decide) ?_
    exact c100.resolve_right (fun h => h (by decide))
  · refine z_lookup (off := 99) (tgt := 100) d_YearsR_takeSecond_1 (by decide) (by decide) (by decide) ?_
    exact c100.resolve_right (fun h => h (by decide))
  · refine z_lookup (off := 99) (tgt := 100) d_YearsR_takeSecond_1 (by decide) (by decide) (by decide) ?_
    exact c100.resolve_right (fun h => h (by decide))
end YR1
