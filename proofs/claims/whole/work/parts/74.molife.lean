/-! the reference: deeds of a run, beside the class's -/
section ML0
variable {G : zG} {I I1 : Nat → Nat → Int32} {J : Nat → Nat → Int64} {P : Nat → Nat → Option Nat} {S : List (Nat × Nat)} {f l nt np nl nn sz g : Nat} {a b fa : Int32} {C : Nat → Nat → Int32}
theorem fmR_mod {A : Nat → Nat → Int32} (h : fmR g A (I 150) nt np nl nn) : modIn I nt np nl nn := by
  obtain ⟨⟨⟨-, r1, b1⟩, ⟨-, r2, b2⟩, ⟨-, r3, b3⟩, ⟨-, r4, b4⟩⟩, -, -, -, ft, -⟩ := h
  refine ⟨⟨r1, b1⟩, ⟨r2, b2⟩, ⟨r3, b3⟩, ⟨r4, b4⟩, fun t ht => ?_, fun t ht => ?_⟩
  · obtain ⟨⟨k, hk, -, h1⟩, -⟩ := ft t ht
    exact ⟨k, hk, h1⟩
  · obtain ⟨-, ⟨h1, h2⟩, -⟩ := ft t ht
    rw [h2]; exact h1
/-- what a run of the reference leaves as it is -/
def rF (I I' : Nat → Nat → Int32) : Prop := (∀ a, a ≠ 145 → a ≠ 150 → I' a = I a) ∧ (∀ k, 87 ≤ k → I' 150 k = I 150 k) ∧ (∀ k, (k < 39 ∨ k = 43 ∨ k = 45 ∨ 47 ≤ k) → I' 145 k = I 145 k)
theorem rF_r : rF I I := ⟨fun _ _ _ => rfl, fun _ _ => rfl, fun _ _ => rfl⟩
theorem rF_t {I2 : Nat → Nat → Int32} (h1 : rF I I1) (h2 : rF I1 I2) : rF I I2 := ⟨fun a g1 g2 => (h2.1 a g1 g2).trans (h1.1 a g1 g2), fun k hk => (h2.2.1 k hk).trans (h1.2.1 k hk), fun k hk => (h2.2.2 k hk).trans (h1.2.2 k hk)⟩
theorem rF_c {k : Nat} {x : Int32} (h : rF I I1) (hk : k < 87) : rF I (zu I1 150 k x) := ⟨fun a g1 g2 => (zu_row _ _ _ _ g2).trans (h.1 a g1 g2), fun i hi => (zu_ne _ _ _ _ (by omega)).trans (h.2.1 i hi), fun i hi => (zu_ne _ _ _ _ (by omega)).trans (h.2.2 i hi)⟩
theorem rF_p {k : Nat} {x : Int32} (h : rF I I1) (hk : k = 39 ∨ k = 40 ∨ k = 41 ∨ k = 42 ∨ k = 44 ∨ k = 46) : rF I (zu I1 145 k x) := ⟨fun a g1 g2 => (zu_row _ _ _ _ g1).trans (h.1 a g1 g2), fun i hi => (zu_ne _ _ _ _ (by omega)).trans (h.2.1 i hi), fun i hi => (zu_ne _ _ _ _ (by omega)).trans (h.2.2 i hi)⟩
def fnd (fa x : Int32) : Nat := s_cnt (zB (x &&& (fa ^^^ -1))) 9
/-- the class's table C and the reference's I in the midst of a run -/
def rD (f l nt np nl nn : Nat) (fa : Int32) (g : Nat) (C I : Nat → Nat → Int32) : Prop := fmR g (sf f C) (I 150) nt np nl nn ∧ (I 145 40 = C l 7 ∧ dr l C) ∧ (I 145 44 = nI (fnd fa (C f 7)) ∧ ∀ t, t < 9 → zbit fa t → zbit (C f 7) t)
/-- how a deed ends: done, or missed -/
def rE (l : Nat) (C X : Nat → Nat → Int32) (r : Int32) : Prop := (r = nI 1 ∧ X l 2 = C l 2) ∨ (r = nI 0 ∧ X l 2 = C l 2 + nI 1)
def rZ (f l nt np nl nn : Nat) (fa : Int32) (g : Nat) (C X I : Nat → Nat → Int32) (J : Nat → Nat → Int64) (P : Nat → Nat → Option Nat) (S : List (Nat × Nat)) (r : Int32) (w : zW) : Prop := ∃ I', w = (I', J, P, S) ∧ rF I I' ∧ (∀ k, k ≠ 40 → k ≠ 44 → I' 145 k = I 145 k) ∧ rD f l nt np nl nn fa (g + 99) X I' ∧ rE l C X r
theorem rD_g {g' : Nat} (h : rD f l nt np nl nn fa g C I) (hg : g ≤ g') : rD f l nt np nl nn fa g' C I := ⟨fmR_g h.1 hg, h.2⟩
theorem rD_C {C' : Nat → Nat → Int32} (h : rD f l nt np nl nn fa g C I) (h1 : ∀ a, f ≤ a → a ≤ f + 8 → C' a = C a) (h2 : C' l 7 = C l 7) : rD f l nt np nl nn fa g C' I := by
  obtain ⟨a1, ⟨a2, a3⟩, a4⟩ := h
  refine ⟨fmR_A a1 (fun r hr => h1 (f + r) (by omega) (by omega)), ⟨a2.trans h2.symm, dr_c a3 h2⟩, ?_⟩
  rw [h1 f (by omega) (by omega)]; exact a4
theorem rD_miss (hl : f + 16 < l) (h : rD f l nt np nl nn fa g C I) : rD f l nt np nl nn fa (g + 99) (c_miss C l) I := rD_g (rD_C h (fun a _ g2 => zu_row _ _ _ _ (by omega)) (zu_ne _ _ _ _ (by omega))) (by omega)
theorem rE_miss : rE l C (c_miss C l) (nI 0) := Or.inr ⟨rfl, zu_same _ _ _ _⟩
theorem m_pas {t q : Nat} (M : modOk P S) (hl : f + 16 < l) (D : rD f l nt np nl nn fa g C I) (ht : t < nn) (hq : q < np) : zEi G y_Mo_passes prog_14_method_90_code 4 (some .boolean) 4 [.ref 145, .int (nI t), .int (nI q)] (I, J, P, S) (fun r w => rZ f l nt np nl nn fa g C (c_pass C f l t q) I J P S r w) := by
  have D' := D
  obtain ⟨D1, ⟨D2, D3⟩, D4⟩ := D
  have N := fmR_mod D1
  have b := D1.1
  obtain ⟨-, -, -, fp, ft, -⟩ := id D1
  obtain ⟨⟨k, hk, k1, k2⟩, ⟨h1, h2⟩, -⟩ := ft t ht
  have k1 : C (f + 5) t = nI k := k1
  have h2 : I 150 (42 + t) = C (f + 6) t := h2
  rcases h1 with h1 | ⟨p, hp, h1⟩
  · have h1 : C (f + 6) t = -1 := h1
    refine zEi_mono (t_Mo_passes0 M N ht (h2.trans h1)) ?_
    rintro r w ⟨rfl, rfl⟩
    have e : c_pass C f l t q = c_miss C l := by unfold c_pass; rw [if_pos h1]
    rw [e]
    exact ⟨I, rfl, rF_r, fun _ _ _ => rfl, rD_miss hl D', rE_miss⟩
  · have h1 : C (f + 6) t = nI p := h1
    have e1 : I 150 (19 + p) = C (f + 3) p := (fp p hp).2.1
    have e2 : I 150 (12 + q) = C (f + 2) q := (fp q hq).1
    have ec : c_pass C f l t q = if zB (C (f + 3) p) q && zB (C (f + 2) q) k then s_hand C f t k p q else c_miss C l := by
      unfold c_pass
      rw [if_neg (by rw [h1]; exact nI_m1 (by omega)), h1, k1, nI_clamp (by omega), nI_clamp (by omega)]
    rw [ec]
    refine zEi_mono (t_Mo_passes M N ht k2 (by omega) (h2.trans h1) hp hq) ?_
    rw [e1, e2]
    rintro r w (⟨hz, rfl, rfl⟩ | ⟨hz, rfl, rfl⟩)
    · rw [if_pos (by rw [Bool.and_eq_true]; exact hz)]
      have hr : ∀ a, a ≠ 150 → m_hand I t k p q a = I a := fun a ha => by unfold m_hand; rw [zu_row _ _ _ _ ha, zu_row _ _ _ _ ha, zu_row _ _ _ _ ha, zu_row _ _ _ _ ha, zu_row _ _ _ _ ha]
      have hs : ∀ k', s_hand C f t k p q l k' = C l k' := fun k' => by unfold s_hand; rw [zu_ne _ _ _ _ (by omega), zu_ne _ _ _ _ (by omega), zu_ne _ _ _ _ (by omega), zu_ne _ _ _ _ (by omega), zu_ne _ _ _ _ (by omega)]
      have h7 : s_hand C f t k p q f 7 = C f 7 := by unfold s_hand; rw [zu_ne _ _ _ _ (by omega), zu_ne _ _ _ _ (by omega), zu_ne _ _ _ _ (by omega), zu_ne _ _ _ _ (by omega), zu_ne _ _ _ _ (by omega)]
      refine ⟨_, rfl, ?_, fun k' _ _ => by rw [hr 145 (by decide)], ⟨?_, ⟨?_, dr_c D3 (hs 7)⟩, ?_⟩, Or.inl ⟨rfl, hs 2⟩⟩
      · unfold m_hand
        exact rF_c (rF_c (rF_c (rF_c (rF_c rF_r (by omega)) (by omega)) (by omega)) (by omega)) (by omega)
      · rw [sf_hand]; exact fmR_hand ht k1 hk h1 hp hq D1
      · rw [hr 145 (by decide), hs 7]; exact D2
      · rw [hr 145 (by decide), h7]; exact D4
    · rw [if_neg (by rw [Bool.and_eq_true]; exact hz)]
      exact ⟨I, rfl, rF_r, fun _ _ _ => rfl, rD_miss hl D', rE_miss⟩
theorem m_drw {n s : Nat} (M : modOk P S) (hl : f + 16 < l) (D : rD f l nt np nl nn fa g C I) (hn : 0 < n) (hn2 : n ≤ 16) : zEi G y_Mo_draw prog_14_method_140_code 2 (some .int) 1 [.ref 145, .int (nI n)] (I, J, P, S) (fun r w => r = nI (c_dn C l n) ∧ ∃ I', w = (I', J, P, S) ∧ rF I I' ∧ (∀ k, k ≠ 40 → I' 145 k = I 145 k) ∧ rD f l nt np nl nn fa g (c_draw C l) I' ∧ I' 150 = I 150) := by
  obtain ⟨D1, ⟨D2, d, hd, D3⟩, D4⟩ := D
  refine zEi_mono (t_Mo_draw M (D2.trans D3) hd hn hn2) ?_
  rintro r w ⟨rfl, rfl⟩
  have e : (C l 7).toNatClampNeg = d := by rw [D3, nI_clamp (by omega)]
  refine ⟨by unfold c_dn; rw [e], _, rfl, rF_p rF_r (by omega), fun k hk => zu_ne _ _ _ _ (by omega), ⟨?_, ⟨?_, dr_draw⟩, ?_⟩, zu_row _ _ _ _ (by decide)⟩
  · rw [zu_row _ _ _ _ (by decide)]
    exact fmR_A D1 (fun r hr => by show c_draw C l (f + r) = _; unfold c_draw; rw [zu_row _ _ _ _ (by omega)]; rfl)
  · unfold c_draw
    rw [zu_same, zu_same, e]
  · unfold c_draw
    rw [zu_ne _ _ _ _ (by omega), zu_row _ _ _ _ (by omega)]; exact D4
theorem m_tea {p k j : Nat} {bb : Bool} (M : modOk P S) (hl : f + 16 < l) (D : rD f l nt np nl nn fa g C I) (hp : p < np) (hj : j = 1 ∧ bb = true ∨ j = 0 ∧ bb = false) : zEi G y_Mo_teaches prog_14_method_97_code 4 (some .boolean) 2 [.ref 145, .int (nI p), .int (nI k), .int (nI j)] (I, J, P, S) (fun r w => rZ f l nt np nl nn fa g C (c_turn C f l p k bb) I J P S r w) := by
  have D' := D
  obtain ⟨D1, ⟨D2, D3⟩, D4⟩ := D
  have b := D1.1
  have e2 : I 150 (12 + p) = C (f + 2) p := (D1.2.2.2.1 p hp).1
  have turned : rZ f l nt np nl nn fa g C (zu C (f + 2) p (C (f + 2) p ^^^ (nI 1 <<< (nI k &&& 31)))) I J P S (nI 1) (zu I 150 (12 + p) (I 150 (12 + p) ^^^ (nI 1 <<< (nI k &&& 31))), J, P, S) := by
    refine ⟨_, rfl, rF_c rF_r (by omega), fun _ _ _ => zu_ne _ _ _ _ (by omega), rD_g (g := g) ⟨?_, ⟨?_, dr_c D3 (zu_ne _ _ _ _ (by omega))⟩, ?_⟩ (by omega), Or.inl ⟨rfl, zu_ne _ _ _ _ (by omega)⟩⟩
    · rw [sf_zu]; exact fmR_turn hp D1
    · rw [zu_ne _ _ _ _ (by omega), zu_ne _ _ _ _ (by omega)]; exact D2
    · rw [zu_ne _ _ _ _ (by omega), zu_ne _ _ _ _ (by omega)]; exact D4
  have missed : rZ f l nt np nl nn fa g C (c_miss C l) I J P S (nI 0) (I, J, P, S) := ⟨I, rfl, rF_r, fun _ _ _ => rfl, rD_miss hl D', rE_miss⟩
  unfold c_turn
  rcases hj with ⟨rfl, rfl⟩ | ⟨rfl, rfl⟩
  · refine zEi_mono (t_Mo_teaches1 M (by omega)) ?_
    rintro r w (⟨hz, rfl, rfl⟩ | ⟨hz, rfl, rfl⟩) <;> rw [e2] at hz
    · rw [if_neg hz]; exact turned
    · rw [if_pos hz]; exact missed
  · refine zEi_mono (t_Mo_teaches0 M (by omega)) ?_
    rintro r w (⟨hz, rfl, rfl⟩ | ⟨hz, rfl, rfl⟩) <;> rw [e2] at hz
    · rw [if_neg (by rw [hz]; decide)]; exact turned
    · rw [if_pos (by simpa using hz)]; exact missed
theorem m_any (M : modOk P S) (hl : f + 16 < l) (D : rD f l nt np nl nn fa g C I) : zEi G y_Mo_isAny prog_14_method_143_code 2 (some .boolean) 5 [.ref 145] (I, J, P, S) (fun r w => rZ f l nt np nl nn fa g C (c_any C f l) I J P S r w) := by
  have M' := M
  obtain ⟨M0, ⟨M4, M4s⟩, ⟨M5, M5s⟩, ⟨M6, M6s⟩, ⟨M7, M7s⟩, ⟨M20, M20s⟩, ⟨M21, M21s⟩, ⟨M22, M22s⟩, ⟨M26, M26s⟩, ⟨M27, M27s⟩, ⟨M28, M28s⟩, ⟨M30, M30s⟩, ⟨M34, M34s⟩, ⟨M36, M36s⟩, ⟨M37, M37s⟩⟩ := id M
  have D' := D
  obtain ⟨D1, ⟨D2, D3⟩, D4⟩ := D
  have b := D1.1
  have hnp := fmR_np D1
  have i3 : I 150 3 = nI nn := b.2.2.2.2.1
  have i1 : I 150 1 = nI np := b.2.1.2.1
  have c4 : C f 4 = nI nn := b.2.2.2.1
  have c2 : C f 2 = nI np := b.2.1.1
  unfold c_any
  rw [c4, c2, nI_clamp (by omega), nI_clamp (by omega)]
  refine zEi_of (lv := [some (.ref 145), none]) (by decide) rfl (Nat.le_of_ble_eq_true rfl) ?_
  refine z_aload_0 d_Mo_isAny_0 ?_
  refine z_getR d_Mo_isAny_1 f_Mo_35 (by first | assumption | exact zS0_at (by assumption) (by omega) | exact zS0_at rfl (by omega)) (by first | assumption | exact zS0_at (by assumption) (by omega) | exact zS0_at rfl (by omega)) ?_
  refine z_iconst (a := nI 3) d_Mo_isAny_4 (by decide) ?_
  first | refine z_ialdNv d_Mo_isAny_5 (by first | assumption | exact zS0_at (by assumption) (by omega) | exact zS0_at rfl (by omega)) (by omega) (by first | decide | omega) (by first | assumption | ((try simp (disch := omega) only [zu_same, zu_ne, zcp_ne, zfl_ne]); first | assumption | rfl)) ?_ | refine z_iald d_Mo_isAny_5 (by first | assumption | exact zS0_at (by assumption) (by omega) | exact zS0_at rfl (by omega)) (by first | assumption | exact zS0_at (by assumption) (by omega) | exact zS0_at rfl (by omega)) ?_
  refine z_if_ne (tgt := 11) d_Mo_isAny_6 (by decide) (fun hb => ?_) (fun hb => ?_)
  · have hb : ¬ nn = 0 := fun h => hb (by rw [h]; rfl)
    have hnp := hnp (by omega)
    rw [if_neg hb]
    refine z_aload_0 d_Mo_isAny_11 ?_
    refine z_aload_0 d_Mo_isAny_12 ?_
    refine z_getR d_Mo_isAny_13 f_Mo_35 (by first | assumption | exact zS0_at (by assumption) (by omega) | exact zS0_at rfl (by omega)) (by first | assumption | exact zS0_at (by assumption) (by omega) | exact zS0_at rfl (by omega)) ?_
    refine z_iconst (a := nI 3) d_Mo_isAny_16 (by decide) ?_
    first | refine z_ialdNv d_Mo_isAny_17 (by first | assumption | exact zS0_at (by assumption) (by omega) | exact zS0_at rfl (by omega)) (by omega) (by first | decide | omega) (by first | assumption | ((try simp (disch := omega) only [zu_same, zu_ne, zcp_ne, zfl_ne]); first | assumption | rfl)) ?_ | refine z_iald d_Mo_isAny_17 (by first | assumption | exact zS0_at (by assumption) (by omega) | exact zS0_at rfl (by omega)) (by first | assumption | exact zS0_at (by assumption) (by omega) | exact zS0_at rfl (by omega)) ?_
    refine z_Vi1 d_Mo_isAny_18 k_Mo_464 (by first | assumption | exact zS0_at (by assumption) (by omega) | exact zS0_at rfl (by omega)) (m_drw (s := 0) M' hl D' (by omega) (by omega)) ⟨Nat.le_of_ble_eq_true rfl, Nat.le_of_ble_eq_true rfl, Nat.le_of_ble_eq_true rfl, Nat.le_of_ble_eq_true rfl⟩ (Nat.le_of_ble_eq_true rfl) ?_
    intro r w hq
    obtain ⟨rfl, Ia, rfl, ra, ka, Da, ea⟩ := hq
    have i1 : Ia 150 1 = nI np := by rw [ea]; exact i1
    first | refine z_istore_1 d_Mo_isAny_21 rfl ?_ | (refine z_forget_0 ?_; refine z_istore_1 d_Mo_isAny_21 rfl ?_)
    refine z_aload_0 d_Mo_isAny_22 ?_
    refine z_iload_1 d_Mo_isAny_23 ?_
    refine z_aload_0 d_Mo_isAny_24 ?_
    refine z_aload_0 d_Mo_isAny_25 ?_
    refine z_getR d_Mo_isAny_26 f_Mo_35 (by first | assumption | exact zS0_at (by assumption) (by omega) | exact zS0_at rfl (by omega)) (by first | assumption | exact zS0_at (by assumption) (by omega) | exact zS0_at rfl (by omega)) ?_
    refine z_iconst (a := nI 1) d_Mo_isAny_29 (by decide) ?_
    first | refine z_ialdNv d_Mo_isAny_30 (by first | assumption | exact zS0_at (by assumption) (by omega) | exact zS0_at rfl (by omega)) (by omega) (by first | decide | omega) (by first | assumption | ((try simp (disch := omega) only [zu_same, zu_ne, zcp_ne, zfl_ne]); first | assumption | rfl)) ?_ | refine z_iald d_Mo_isAny_30 (by first | assumption | exact zS0_at (by assumption) (by omega) | exact zS0_at rfl (by omega)) (by first | assumption | exact zS0_at (by assumption) (by omega) | exact zS0_at rfl (by omega)) ?_
    refine z_Vi1 d_Mo_isAny_31 k_Mo_464 (by first | assumption | exact zS0_at (by assumption) (by omega) | exact zS0_at rfl (by omega)) (m_drw (s := 0) M' hl Da (by omega) (by omega)) ⟨Nat.le_of_ble_eq_true rfl, Nat.le_of_ble_eq_true rfl, Nat.le_of_ble_eq_true rfl, Nat.le_of_ble_eq_true rfl⟩ (Nat.le_of_ble_eq_true rfl) ?_
    intro r w hq
    obtain ⟨rfl, Ib, rfl, rb, kb, Db, eb⟩ := hq
    refine z_Vi2 d_Mo_isAny_34 k_Mo_360 (by first | assumption | exact zS0_at (by assumption) (by omega) | exact zS0_at rfl (by omega)) (m_pas M' hl Db (Nat.mod_lt _ (by omega)) (Nat.mod_lt _ (by omega))) ⟨Nat.le_of_ble_eq_true rfl, Nat.le_of_ble_eq_true rfl, Nat.le_of_ble_eq_true rfl, Nat.le_of_ble_eq_true rfl⟩ (Nat.le_of_ble_eq_true rfl) ?_
    intro r w hq
    obtain ⟨Ic, rfl, rc, kc, Dc, he⟩ := hq
    have e2 : c_draw (c_draw C l) l l 2 = C l 2 := by unfold c_draw; rw [zu_ne _ _ _ _ (by omega), zu_ne _ _ _ _ (by omega)]
    unfold rE at he
    rw [e2] at he
    rcases he with ⟨rfl, he⟩ | ⟨rfl, he⟩
    · refine z_retz d_Mo_isAny_37 (by first | exact zb0 | exact zb1 | assumption) ?_
      exact ⟨Ic, rfl, rF_t (rF_t ra rb) rc, fun k h1 h2 => by rw [kc k h1 h2, kb k h1, ka k h1], Dc, Or.inl ⟨rfl, he⟩⟩
    · refine z_retz d_Mo_isAny_37 (by first | exact zb0 | exact zb1 | assumption) ?_
      exact ⟨Ic, rfl, rF_t (rF_t ra rb) rc, fun k h1 h2 => by rw [kc k h1 h2, kb k h1, ka k h1], Dc, Or.inr ⟨rfl, he⟩⟩
  · have hb : nn = 0 := (nI_eq (by omega) (by omega)).mp (by rw [nI_0]; exact hb)
    rw [if_pos hb]
    refine z_iconst (a := nI 0) d_Mo_isAny_9 (by decide) ?_
    refine z_retz d_Mo_isAny_10 (by first | exact zb0 | exact zb1 | assumption) ?_
    exact ⟨I, rfl, rF_r, fun _ _ _ => rfl, rD_miss hl D', rE_miss⟩
end ML0
