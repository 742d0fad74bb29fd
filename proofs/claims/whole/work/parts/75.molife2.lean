/-! the reference: deeds and tests of a run, on -/
section ML1
variable {G : zG} {I I1 : Nat → Nat → Int32} {J : Nat → Nat → Int64} {P : Nat → Nat → Option Nat} {S : List (Nat × Nat)} {f l nt np nl nn sz g : Nat} {a b fa : Int32} {C : Nat → Nat → Int32}
theorem fnd_add {x : Int32} {t : Nat} (ht : t < 9) (h1 : zB x t = false) (h2 : ¬ zbit fa t) : fnd fa (x ||| (nI 1 <<< (nI t &&& 31))) = fnd fa x + 1 := by
  unfold fnd
  have h2 : zB fa t = false := by cases e : zB fa t with
    | false => rfl
    | true => exact absurd e h2
  have e1 : s_cnt (zB ((x ||| (nI 1 <<< (nI t &&& 31))) &&& (fa ^^^ -1))) 9 = s_cnt (fun i => (zB x i || decide (i = t)) && !zB fa i) 9 := s_cnt_g 9 (fun i hi => by rw [zB_and (by omega), zB_or (by omega), zB_sh (by omega) (by omega), zB_not (by omega)])
  have e2 : s_cnt (zB (x &&& (fa ^^^ -1))) 9 = s_cnt (fun i => zB x i && !zB fa i) 9 := s_cnt_g 9 (fun i hi => by rw [zB_and (by omega), zB_not (by omega)])
  rw [e1, e2]
  exact s_cnt_add (k := t) (by simp [h1]) (by simp [h2]) (fun i hi => by simp [hi]) 9 ht
theorem m_bit {t : Nat} (M : modOk P S) (hl : f + 16 < l) (D : rD f l nt np nl nn fa g C I) (ht : t < nn) : zEi G y_Mo_isBitten prog_14_method_142_code 2 (some .boolean) 2 [.ref 145, .int (nI t)] (I, J, P, S) (fun r w => rZ f l nt np nl nn fa g C (c_bite C f l t) I J P S r w) := by
  have M' := M
  obtain ⟨M0, ⟨M4, M4s⟩, ⟨M5, M5s⟩, ⟨M6, M6s⟩, ⟨M7, M7s⟩, ⟨M20, M20s⟩, ⟨M21, M21s⟩, ⟨M22, M22s⟩, ⟨M26, M26s⟩, ⟨M27, M27s⟩, ⟨M28, M28s⟩, ⟨M30, M30s⟩, ⟨M34, M34s⟩, ⟨M36, M36s⟩, ⟨M37, M37s⟩⟩ := id M
  have D' := D
  obtain ⟨D1, ⟨D2, D3⟩, D4⟩ := D
  have b := D1.1
  obtain ⟨o, ho, o1, o2⟩ := D1.2.1.1
  have o1 : C f 0 = nI o := o1
  obtain ⟨-, ⟨h1, h2⟩, h3, h4, h5, -⟩ := D1.2.2.2.2.1 t ht
  have h2 : I 150 (42 + t) = C (f + 6) t := h2
  have h3 : I 150 (51 + t) = zb (C f 6) t := h3
  have h5 : zbit (C f 7) t → C (f + 6) t = -1 := h5
  have hx := neg1_of h1 (by omega)
  have hx : C (f + 6) t < 0 ↔ C (f + 6) t = -1 := hx
  have hlt : c_dn C l 16 < 16 := Nat.mod_lt _ (by decide)
  unfold c_bite
  rw [o1, nI_clamp (by omega)]
  refine zEi_of (lv := [some (.ref 145), some (.int (nI t))]) (by decide) rfl (Nat.le_of_ble_eq_true rfl) ?_
  refine z_aload_0 d_Mo_isBitten_0 ?_
  refine z_iload_1 d_Mo_isBitten_1 ?_
  refine z_Vi1 d_Mo_isBitten_2 k_Mo_310 (by first | assumption | exact zS0_at (by assumption) (by omega) | exact zS0_at rfl (by omega)) (t_Mo_isGone M' (by omega)) ⟨Nat.le_of_ble_eq_true rfl, Nat.le_of_ble_eq_true rfl, Nat.le_of_ble_eq_true rfl, Nat.le_of_ble_eq_true rfl⟩ (Nat.le_of_ble_eq_true rfl) ?_
  rw [h2]
  intro r w hz
  rcases hz with ⟨⟨hz, rfl⟩ | ⟨hz, rfl⟩, rfl⟩
  · rw [if_pos (hx.mp hz)]
    refine z_if_ne (tgt := 35) d_Mo_isBitten_5 (by decide) (fun _ => ?_) (fun h => absurd h (by decide))
    refine z_iconst (a := nI 0) d_Mo_isBitten_35 (by decide) ?_
    refine z_retz d_Mo_isBitten_36 (by first | exact zb0 | exact zb1 | assumption) ?_
    exact ⟨I, rfl, rF_r, fun _ _ _ => rfl, rD_miss hl D', rE_miss⟩
  have hz : ¬ C (f + 6) t = -1 := fun h => hz (hx.mpr h)
  rw [if_neg hz]
  refine z_if_ne (tgt := 35) d_Mo_isBitten_5 (by decide) (fun h => absurd (by decide) h) (fun _ => ?_)
  by_cases hld : zB (C f 6) t = true
  rotate_left
  · rw [if_neg hld]
    have h3 : I 150 (51 + t) = nI 0 := by rw [h3, zb, if_neg hld]
    refine z_aload_0 d_Mo_isBitten_8 ?_
    refine z_getR d_Mo_isBitten_9 f_Mo_35 (by first | assumption | exact zS0_at (by assumption) (by omega) | exact zS0_at rfl (by omega)) (by first | assumption | exact zS0_at (by assumption) (by omega) | exact zS0_at rfl (by omega)) ?_
    refine z_bipush (a := nI 51) d_Mo_isBitten_12 (by decide) ?_
    refine z_iload_1 d_Mo_isBitten_14 ?_
    first | refine z_iaddN d_Mo_isBitten_15 ?_ | refine z_iadd d_Mo_isBitten_15 ?_
    first | refine z_ialdNv d_Mo_isBitten_16 (by first | assumption | exact zS0_at (by assumption) (by omega) | exact zS0_at rfl (by omega)) (by omega) (by first | decide | omega) (by first | assumption | ((try simp (disch := omega) only [zu_same, zu_ne, zcp_ne, zfl_ne]); first | assumption | rfl)) ?_ | refine z_iald d_Mo_isBitten_16 (by first | assumption | exact zS0_at (by assumption) (by omega) | exact zS0_at rfl (by omega)) (by first | assumption | exact zS0_at (by assumption) (by omega) | exact zS0_at rfl (by omega)) ?_
    refine z_if_eq (tgt := 35) d_Mo_isBitten_17 (by decide) (fun _ => ?_) (fun h => absurd (by decide) h)
    refine z_iconst (a := nI 0) d_Mo_isBitten_35 (by decide) ?_
    refine z_retz d_Mo_isBitten_36 (by first | exact zb0 | exact zb1 | assumption) ?_
    exact ⟨I, rfl, rF_r, fun _ _ _ => rfl, rD_miss hl D', rE_miss⟩
  rw [if_pos hld]
  have h3 : I 150 (51 + t) = nI 1 := by rw [h3, zb, if_pos hld]
  refine z_aload_0 d_Mo_isBitten_8 ?_
  refine z_getR d_Mo_isBitten_9 f_Mo_35 (by first | assumption | exact zS0_at (by assumption) (by omega) | exact zS0_at rfl (by omega)) (by first | assumption | exact zS0_at (by assumption) (by omega) | exact zS0_at rfl (by omega)) ?_
  refine z_bipush (a := nI 51) d_Mo_isBitten_12 (by decide) ?_
  refine z_iload_1 d_Mo_isBitten_14 ?_
  first | refine z_iaddN d_Mo_isBitten_15 ?_ | refine z_iadd d_Mo_isBitten_15 ?_
  first | refine z_ialdNv d_Mo_isBitten_16 (by first | assumption | exact zS0_at (by assumption) (by omega) | exact zS0_at rfl (by omega)) (by omega) (by first | decide | omega) (by first | assumption | ((try simp (disch := omega) only [zu_same, zu_ne, zcp_ne, zfl_ne]); first | assumption | rfl)) ?_ | refine z_iald d_Mo_isBitten_16 (by first | assumption | exact zS0_at (by assumption) (by omega) | exact zS0_at rfl (by omega)) (by first | assumption | exact zS0_at (by assumption) (by omega) | exact zS0_at rfl (by omega)) ?_
  refine z_if_eq (tgt := 35) d_Mo_isBitten_17 (by decide) (fun h => absurd h (by decide)) (fun _ => ?_)
  refine z_aload_0 d_Mo_isBitten_20 ?_
  refine z_bipush (a := nI 16) d_Mo_isBitten_21 (by decide) ?_
  refine z_Vi1 d_Mo_isBitten_23 k_Mo_464 (by first | assumption | exact zS0_at (by assumption) (by omega) | exact zS0_at rfl (by omega)) (m_drw (s := 0) M' hl D' (by decide) (by decide)) ⟨Nat.le_of_ble_eq_true rfl, Nat.le_of_ble_eq_true rfl, Nat.le_of_ble_eq_true rfl, Nat.le_of_ble_eq_true rfl⟩ (Nat.le_of_ble_eq_true rfl) ?_
  intro r w hq
  obtain ⟨rfl, Ia, rfl, ra, ka, Da, ea⟩ := hq
  have o2 : Ia 150 4 = nI o := by rw [ea]; exact o2
  have e2 : c_draw C l l 2 = C l 2 := by unfold c_draw; rw [zu_ne _ _ _ _ (by omega)]
  have e7 : c_draw C l f 7 = C f 7 := by unfold c_draw; rw [zu_row _ _ _ _ (by omega)]
  have e6 : c_draw C l (f + 6) t = C (f + 6) t := by unfold c_draw; rw [zu_row _ _ _ _ (by omega)]
  refine z_aload_0 d_Mo_isBitten_26 ?_
  refine z_getR d_Mo_isBitten_27 f_Mo_35 (by first | assumption | exact zS0_at (by assumption) (by omega) | exact zS0_at rfl (by omega)) (by first | assumption | exact zS0_at (by assumption) (by omega) | exact zS0_at rfl (by omega)) ?_
  refine z_iconst (a := nI 4) d_Mo_isBitten_30 (by decide) ?_
  first | refine z_ialdNv d_Mo_isBitten_31 (by first | assumption | exact zS0_at (by assumption) (by omega) | exact zS0_at rfl (by omega)) (by omega) (by first | decide | omega) (by first | assumption | ((try simp (disch := omega) only [zu_same, zu_ne, zcp_ne, zfl_ne]); first | assumption | rfl)) ?_ | refine z_iald d_Mo_isBitten_31 (by first | assumption | exact zS0_at (by assumption) (by omega) | exact zS0_at rfl (by omega)) (by first | assumption | exact zS0_at (by assumption) (by omega) | exact zS0_at rfl (by omega)) ?_
  refine z_icmp_lt (tgt := 37) d_Mo_isBitten_32 (by decide) (fun hb => ?_) (fun hb => ?_)
  · have hb := (nI_ltI (by omega) (by omega)).mp hb
    rw [if_pos hb]
    have hf : zB (C f 7) t = false := by cases e : zB (C f 7) t with
      | false => rfl
      | true => exact absurd (h5 e) hz
    have hfa : ¬ zbit fa t := fun h => by
      have := D4.2 t (by omega) h
      rw [zbit, hf] at this
      cases this
    obtain ⟨A1, ⟨A2, A3⟩, A4, A5⟩ := id Da
    refine z_aload_0 d_Mo_isBitten_37 ?_
    refine z_iload_1 d_Mo_isBitten_38 ?_
    refine z_Vv1 d_Mo_isBitten_39 k_Mo_363 (by first | assumption | exact zS0_at (by assumption) (by omega) | exact zS0_at rfl (by omega)) (t_Mo_finds M' (by omega)) ⟨Nat.le_of_ble_eq_true rfl, Nat.le_of_ble_eq_true rfl, Nat.le_of_ble_eq_true rfl, Nat.le_of_ble_eq_true rfl⟩ (Nat.le_of_ble_eq_true rfl) ?_
    intro w hq
    obtain rfl := hq
    have k44 : zu (zu Ia 150 (60 + t) (nI 1)) 150 (42 + t) (-1) 145 44 = nI (fnd fa (C f 7)) := by rw [zu_ne _ _ _ _ (by omega), zu_ne _ _ _ _ (by omega), A4, e7]
    refine z_aload_0 d_Mo_isBitten_42 ?_
    refine z_dup rfl d_Mo_isBitten_43 ?_
    refine z_getIv d_Mo_isBitten_44 f_Mo_467 (by first | assumption | exact zS0_at (by assumption) (by omega) | exact zS0_at rfl (by omega)) (by first | assumption | ((try simp (disch := omega) only [zu_same, zu_ne, zcp_ne, zfl_ne]); first | assumption | rfl)) ?_
    refine z_iconst (a := nI 1) d_Mo_isBitten_47 (by decide) ?_
    first | refine z_iaddN d_Mo_isBitten_48 ?_ | refine z_iadd d_Mo_isBitten_48 ?_
    refine z_putI d_Mo_isBitten_49 f_Mo_467 (by first | assumption | exact zS0_at (by assumption) (by omega) | exact zS0_at rfl (by omega)) ?_
    refine z_iconst (a := nI 1) d_Mo_isBitten_52 (by decide) ?_
    refine z_retz d_Mo_isBitten_53 (by first | exact zb0 | exact zb1 | assumption) ?_
    refine ⟨_, rfl, rF_p (rF_c (rF_c ra (by omega)) (by omega)) (by omega), fun k g1 g2 => ?_, rD_g (g := g) ⟨?_, ⟨?_, ?_⟩, ?_, fun i hi hz => ?_⟩ (by omega), Or.inl ⟨rfl, ?_⟩⟩
    · rw [zu_ne _ _ _ _ (by omega), zu_ne _ _ _ _ (by omega), zu_ne _ _ _ _ (by omega), ka k g1]
    · rw [zu_row _ _ _ _ (by decide)]
      unfold c_find
      rw [sf_zu, sf_zu0]
      exact fmR_find ht A1
    · unfold c_find
      rw [zu_ne _ _ _ _ (by omega), zu_ne _ _ _ _ (by omega), zu_ne _ _ _ _ (by omega), zu_ne _ _ _ _ (by omega), zu_ne _ _ _ _ (by omega)]; exact A2
    · refine dr_c A3 ?_
      unfold c_find
      rw [zu_ne _ _ _ _ (by omega), zu_ne _ _ _ _ (by omega)]
    · unfold c_find
      rw [zu_same, zu_ne _ _ _ _ (by omega), zu_same, e7, fnd_add (by omega) hf hfa]
    · unfold c_find
      rw [zu_ne _ _ _ _ (by omega), zu_same, zbit, zB_or (by omega)]
      have := A5 i hi hz
      rw [zbit] at this
      rw [this]; rfl
    · unfold c_find
      rw [zu_ne _ _ _ _ (by omega), zu_ne _ _ _ _ (by omega)]; exact e2
  · have hb : ¬ c_dn C l 16 < o := fun h => hb (nI_lt h (by omega))
    rw [if_neg hb]
    refine z_iconst (a := nI 0) d_Mo_isBitten_35 (by decide) ?_
    refine z_retz d_Mo_isBitten_36 (by first | exact zb0 | exact zb1 | assumption) ?_
    exact ⟨Ia, rfl, ra, fun k g1 _ => ka k g1, rD_miss hl Da, Or.inr ⟨rfl, by unfold c_miss; rw [zu_same, e2]⟩⟩
theorem m_does {x i : Nat} (M : modOk P S) (hl : f + 16 < l) (D : rD f l nt np nl nn fa g C I) (hx : x < 30) (hv : yst (n3 nt np nn) (sf (f + 12) C) (fun c k => I 150 (89 + 9 * c + k)) i x) (h7 : ¬ I 150 (89 + 9 * x) = nI 7) : zEi G y_Mo_does prog_14_method_144_code 5 (some .boolean) 6 [.ref 145, .int (nI (89 + 9 * x))] (I, J, P, S) (fun r w => rZ f l nt np nl nn fa g C (c_do1 C f l i) I J P S r w) := by
  have M' := M
  obtain ⟨M0, ⟨M4, M4s⟩, ⟨M5, M5s⟩, ⟨M6, M6s⟩, ⟨M7, M7s⟩, ⟨M20, M20s⟩, ⟨M21, M21s⟩, ⟨M22, M22s⟩, ⟨M26, M26s⟩, ⟨M27, M27s⟩, ⟨M28, M28s⟩, ⟨M30, M30s⟩, ⟨M34, M34s⟩, ⟨M36, M36s⟩, ⟨M37, M37s⟩⟩ := id M
  have b := D.1.1
  have out : ∀ (X : Nat → Nat → Int32) (r : Int32) (w : zW), rZ f l nt np nl nn fa g C X I J P S r w → (∃ I', w = (I', J, P, S)) ∧ (r = nI 1 ∨ r = nI 0) := by
    rintro X r w ⟨I', rfl, -, -, -, ⟨rfl, -⟩ | ⟨rfl, -⟩⟩
    · exact ⟨⟨I', rfl⟩, Or.inl rfl⟩
    · exact ⟨⟨I', rfl⟩, Or.inr rfl⟩
  unfold c_do1
  refine zEi_of (lv := [some (.ref 145), some (.int (nI (89 + 9 * x))), none, none, none]) (by decide) rfl (Nat.le_of_ble_eq_true rfl) ?_
  rcases hv with ⟨t, p, ht, hp, o1, q0, a1, q1, a2, q2⟩ | ⟨t, ht, o1, q0, a1, q1⟩ | ⟨p, k, hp, hk, oo, a1, q1, a2, q2⟩ | ⟨o1, q0⟩ | ⟨-, q0⟩
  · have o1 : C (f + 13) i = nI 10 := o1
    have a1 : C (f + 14) i = nI t := a1
    have a2 : C (f + 15) i = nI p := a2
    have ht : t < nn := ht
    have hp : p < np := hp
    have q0 : I 150 (89 + 9 * x) = nI 0 := q0
    have q1 : I 150 (89 + 9 * x + 1) = nI t := q1
    have q2 : I 150 (89 + 9 * x + 2) = nI p := q2
    rw [if_pos o1, a1, a2, nI_clamp (by omega), nI_clamp (by omega)]
    refine z_aload_0 d_Mo_does_0 ?_
    refine z_getR d_Mo_does_1 f_Mo_35 (by first | assumption | exact zS0_at (by assumption) (by omega) | exact zS0_at rfl (by omega)) (by first | assumption | exact zS0_at (by assumption) (by omega) | exact zS0_at rfl (by omega)) ?_
    refine z_iload_1 d_Mo_does_4 ?_
    first | refine z_ialdNv d_Mo_does_5 (by first | assumption | exact zS0_at (by assumption) (by omega) | exact zS0_at rfl (by omega)) (by omega) (by first | decide | omega) (by first | assumption | ((try simp (disch := omega) only [zu_same, zu_ne, zcp_ne, zfl_ne]); first | assumption | rfl)) ?_ | refine z_iald d_Mo_does_5 (by first | assumption | exact zS0_at (by assumption) (by omega) | exact zS0_at rfl (by omega)) (by first | assumption | exact zS0_at (by assumption) (by omega) | exact zS0_at rfl (by omega)) ?_
    first | refine z_istore_2 d_Mo_does_6 rfl ?_ | (refine z_forget_1 ?_; refine z_istore_2 d_Mo_does_6 rfl ?_)
    refine z_aload_0 d_Mo_does_7 ?_
    refine z_getR d_Mo_does_8 f_Mo_35 (by first | assumption | exact zS0_at (by assumption) (by omega) | exact zS0_at rfl (by omega)) (by first | assumption | exact zS0_at (by assumption) (by omega) | exact zS0_at rfl (by omega)) ?_
    refine z_iload_1 d_Mo_does_11 ?_
    refine z_iconst (a := nI 1) d_Mo_does_12 (by decide) ?_
    first | refine z_iaddN d_Mo_does_13 ?_ | refine z_iadd d_Mo_does_13 ?_
    first | refine z_ialdNv d_Mo_does_14 (by first | assumption | exact zS0_at (by assumption) (by omega) | exact zS0_at rfl (by omega)) (by omega) (by first | decide | omega) (by first | assumption | ((try simp (disch := omega) only [zu_same, zu_ne, zcp_ne, zfl_ne]); first | assumption | rfl)) ?_ | refine z_iald d_Mo_does_14 (by first | assumption | exact zS0_at (by assumption) (by omega) | exact zS0_at rfl (by omega)) (by first | assumption | exact zS0_at (by assumption) (by omega) | exact zS0_at rfl (by omega)) ?_
    first | refine z_istore_3 d_Mo_does_15 rfl ?_ | (refine z_forget_2 ?_; refine z_istore_3 d_Mo_does_15 rfl ?_)
    refine z_aload_0 d_Mo_does_16 ?_
    refine z_getR d_Mo_does_17 f_Mo_35 (by first | assumption | exact zS0_at (by assumption) (by omega) | exact zS0_at rfl (by omega)) (by first | assumption | exact zS0_at (by assumption) (by omega) | exact zS0_at rfl (by omega)) ?_
    refine z_iload_1 d_Mo_does_20 ?_
    refine z_iconst (a := nI 2) d_Mo_does_21 (by decide) ?_
    first | refine z_iaddN d_Mo_does_22 ?_ | refine z_iadd d_Mo_does_22 ?_
    first | refine z_ialdNv d_Mo_does_23 (by first | assumption | exact zS0_at (by assumption) (by omega) | exact zS0_at rfl (by omega)) (by omega) (by first | decide | omega) (by first | assumption | ((try simp (disch := omega) only [zu_same, zu_ne, zcp_ne, zfl_ne]); first | assumption | rfl)) ?_ | refine z_iald d_Mo_does_23 (by first | assumption | exact zS0_at (by assumption) (by omega) | exact zS0_at rfl (by omega)) (by first | assumption | exact zS0_at (by assumption) (by omega) | exact zS0_at rfl (by omega)) ?_
    first | refine z_istore_4 d_Mo_does_24 rfl ?_ | (refine z_forget_3 ?_; refine z_istore_4 d_Mo_does_24 rfl ?_)
    refine z_iload_2 d_Mo_does_26 ?_
    refine z_if_ne (tgt := 38) d_Mo_does_27 (by decide) (fun h => absurd (by decide) h) (fun _ => ?_)
    refine z_aload_0 d_Mo_does_30 ?_
    refine z_iload_3 d_Mo_does_31 ?_
    refine z_iload_4 d_Mo_does_32 ?_
    refine z_Vi2 d_Mo_does_34 k_Mo_360 (by first | assumption | exact zS0_at (by assumption) (by omega) | exact zS0_at rfl (by omega)) (m_pas M' hl D ht hp) ⟨Nat.le_of_ble_eq_true rfl, Nat.le_of_ble_eq_true rfl, Nat.le_of_ble_eq_true rfl, Nat.le_of_ble_eq_true rfl⟩ (Nat.le_of_ble_eq_true rfl) ?_
    intro r w hq
    obtain ⟨⟨I', rfl⟩, rfl | rfl⟩ := out _ _ _ hq
    · refine z_retz d_Mo_does_37 (by first | exact zb0 | exact zb1 | assumption) ?_
      exact hq
    · refine z_retz d_Mo_does_37 (by first | exact zb0 | exact zb1 | assumption) ?_
      exact hq
  · have o1 : C (f + 13) i = nI 11 := o1
    have a1 : C (f + 14) i = nI t := a1
    have ht : t < nn := ht
    have q0 : I 150 (89 + 9 * x) = nI 1 := q0
    have q1 : I 150 (89 + 9 * x + 1) = nI t := q1
    rw [o1, if_neg (by decide), if_pos rfl, a1, nI_clamp (by omega)]
    refine z_aload_0 d_Mo_does_0 ?_
    refine z_getR d_Mo_does_1 f_Mo_35 (by first | assumption | exact zS0_at (by assumption) (by omega) | exact zS0_at rfl (by omega)) (by first | assumption | exact zS0_at (by assumption) (by omega) | exact zS0_at rfl (by omega)) ?_
    refine z_iload_1 d_Mo_does_4 ?_
    first | refine z_ialdNv d_Mo_does_5 (by first | assumption | exact zS0_at (by assumption) (by omega) | exact zS0_at rfl (by omega)) (by omega) (by first | decide | omega) (by first | assumption | ((try simp (disch := omega) only [zu_same, zu_ne, zcp_ne, zfl_ne]); first | assumption | rfl)) ?_ | refine z_iald d_Mo_does_5 (by first | assumption | exact zS0_at (by assumption) (by omega) | exact zS0_at rfl (by omega)) (by first | assumption | exact zS0_at (by assumption) (by omega) | exact zS0_at rfl (by omega)) ?_
    first | refine z_istore_2 d_Mo_does_6 rfl ?_ | (refine z_forget_1 ?_; refine z_istore_2 d_Mo_does_6 rfl ?_)
    refine z_aload_0 d_Mo_does_7 ?_
    refine z_getR d_Mo_does_8 f_Mo_35 (by first | assumption | exact zS0_at (by assumption) (by omega) | exact zS0_at rfl (by omega)) (by first | assumption | exact zS0_at (by assumption) (by omega) | exact zS0_at rfl (by omega)) ?_
    refine z_iload_1 d_Mo_does_11 ?_
    refine z_iconst (a := nI 1) d_Mo_does_12 (by decide) ?_
    first | refine z_iaddN d_Mo_does_13 ?_ | refine z_iadd d_Mo_does_13 ?_
    first | refine z_ialdNv d_Mo_does_14 (by first | assumption | exact zS0_at (by assumption) (by omega) | exact zS0_at rfl (by omega)) (by omega) (by first | decide | omega) (by first | assumption | ((try simp (disch := omega) only [zu_same, zu_ne, zcp_ne, zfl_ne]); first | assumption | rfl)) ?_ | refine z_iald d_Mo_does_14 (by first | assumption | exact zS0_at (by assumption) (by omega) | exact zS0_at rfl (by omega)) (by first | assumption | exact zS0_at (by assumption) (by omega) | exact zS0_at rfl (by omega)) ?_
    first | refine z_istore_3 d_Mo_does_15 rfl ?_ | (refine z_forget_2 ?_; refine z_istore_3 d_Mo_does_15 rfl ?_)
    refine z_aload_0 d_Mo_does_16 ?_
    refine z_getR d_Mo_does_17 f_Mo_35 (by first | assumption | exact zS0_at (by assumption) (by omega) | exact zS0_at rfl (by omega)) (by first | assumption | exact zS0_at (by assumption) (by omega) | exact zS0_at rfl (by omega)) ?_
    refine z_iload_1 d_Mo_does_20 ?_
    refine z_iconst (a := nI 2) d_Mo_does_21 (by decide) ?_
    first | refine z_iaddN d_Mo_does_22 ?_ | refine z_iadd d_Mo_does_22 ?_
    first | refine z_ialdNv d_Mo_does_23 (by first | assumption | exact zS0_at (by assumption) (by omega) | exact zS0_at rfl (by omega)) (by omega) (by first | decide | omega) (by first | assumption | ((try simp (disch := omega) only [zu_same, zu_ne, zcp_ne, zfl_ne]); first | assumption | rfl)) ?_ | refine z_iald d_Mo_does_23 (by first | assumption | exact zS0_at (by assumption) (by omega) | exact zS0_at rfl (by omega)) (by first | assumption | exact zS0_at (by assumption) (by omega) | exact zS0_at rfl (by omega)) ?_
    first | refine z_istore_4 d_Mo_does_24 rfl ?_ | (refine z_forget_3 ?_; refine z_istore_4 d_Mo_does_24 rfl ?_)
    refine z_iload_2 d_Mo_does_26 ?_
    refine z_if_ne (tgt := 38) d_Mo_does_27 (by decide) (fun _ => ?_) (fun h => absurd h (by decide))
    refine z_iload_2 d_Mo_does_38 ?_
    refine z_iconst (a := nI 1) d_Mo_does_39 (by decide) ?_
    refine z_icmp_ne (tgt := 49) d_Mo_does_40 (by decide) (fun h => absurd (by decide) h) (fun _ => ?_)
    refine z_aload_0 d_Mo_does_43 ?_
    refine z_iload_3 d_Mo_does_44 ?_
    refine z_Vi1 d_Mo_does_45 k_Mo_470 (by first | assumption | exact zS0_at (by assumption) (by omega) | exact zS0_at rfl (by omega)) (m_bit M' hl D ht) ⟨Nat.le_of_ble_eq_true rfl, Nat.le_of_ble_eq_true rfl, Nat.le_of_ble_eq_true rfl, Nat.le_of_ble_eq_true rfl⟩ (Nat.le_of_ble_eq_true rfl) ?_
    intro r w hq
    obtain ⟨⟨I', rfl⟩, rfl | rfl⟩ := out _ _ _ hq
    · refine z_retz d_Mo_does_48 (by first | exact zb0 | exact zb1 | assumption) ?_
      exact hq
    · refine z_retz d_Mo_does_48 (by first | exact zb0 | exact zb1 | assumption) ?_
      exact hq
  · have a1 : C (f + 14) i = nI p := a1
    have a2 : C (f + 15) i = nI k := a2
    have hp : p < np := hp
    have hk : k < nt := hk
    have q1 : I 150 (89 + 9 * x + 1) = nI p := q1
    have q2 : I 150 (89 + 9 * x + 2) = nI k := q2
    rcases oo with ⟨o1, q0⟩ | ⟨o1, q0⟩
    · have o1 : C (f + 13) i = nI 12 := o1
      have q0 : I 150 (89 + 9 * x) = nI 2 := q0
      rw [o1, if_neg (by decide), if_neg (by decide), if_pos rfl, a1, a2, nI_clamp (by omega), nI_clamp (by omega)]
      refine z_aload_0 d_Mo_does_0 ?_
      refine z_getR d_Mo_does_1 f_Mo_35 (by first | assumption | exact zS0_at (by assumption) (by omega) | exact zS0_at rfl (by omega)) (by first | assumption | exact zS0_at (by assumption) (by omega) | exact zS0_at rfl (by omega)) ?_
      refine z_iload_1 d_Mo_does_4 ?_
      first | refine z_ialdNv d_Mo_does_5 (by first | assumption | exact zS0_at (by assumption) (by omega) | exact zS0_at rfl (by omega)) (by omega) (by first | decide | omega) (by first | assumption | ((try simp (disch := omega) only [zu_same, zu_ne, zcp_ne, zfl_ne]); first | assumption | rfl)) ?_ | refine z_iald d_Mo_does_5 (by first | assumption | exact zS0_at (by assumption) (by omega) | exact zS0_at rfl (by omega)) (by first | assumption | exact zS0_at (by assumption) (by omega) | exact zS0_at rfl (by omega)) ?_
      first | refine z_istore_2 d_Mo_does_6 rfl ?_ | (refine z_forget_1 ?_; refine z_istore_2 d_Mo_does_6 rfl ?_)
      refine z_aload_0 d_Mo_does_7 ?_
      refine z_getR d_Mo_does_8 f_Mo_35 (by first | assumption | exact zS0_at (by assumption) (by omega) | exact zS0_at rfl (by omega)) (by first | assumption | exact zS0_at (by assumption) (by omega) | exact zS0_at rfl (by omega)) ?_
      refine z_iload_1 d_Mo_does_11 ?_
      refine z_iconst (a := nI 1) d_Mo_does_12 (by decide) ?_
      first | refine z_iaddN d_Mo_does_13 ?_ | refine z_iadd d_Mo_does_13 ?_
      first | refine z_ialdNv d_Mo_does_14 (by first | assumption | exact zS0_at (by assumption) (by omega) | exact zS0_at rfl (by omega)) (by omega) (by first | decide | omega) (by first | assumption | ((try simp (disch := omega) only [zu_same, zu_ne, zcp_ne, zfl_ne]); first | assumption | rfl)) ?_ | refine z_iald d_Mo_does_14 (by first | assumption | exact zS0_at (by assumption) (by omega) | exact zS0_at rfl (by omega)) (by first | assumption | exact zS0_at (by assumption) (by omega) | exact zS0_at rfl (by omega)) ?_
      first | refine z_istore_3 d_Mo_does_15 rfl ?_ | (refine z_forget_2 ?_; refine z_istore_3 d_Mo_does_15 rfl ?_)
      refine z_aload_0 d_Mo_does_16 ?_
      refine z_getR d_Mo_does_17 f_Mo_35 (by first | assumption | exact zS0_at (by assumption) (by omega) | exact zS0_at rfl (by omega)) (by first | assumption | exact zS0_at (by assumption) (by omega) | exact zS0_at rfl (by omega)) ?_
      refine z_iload_1 d_Mo_does_20 ?_
      refine z_iconst (a := nI 2) d_Mo_does_21 (by decide) ?_
      first | refine z_iaddN d_Mo_does_22 ?_ | refine z_iadd d_Mo_does_22 ?_
      first | refine z_ialdNv d_Mo_does_23 (by first | assumption | exact zS0_at (by assumption) (by omega) | exact zS0_at rfl (by omega)) (by omega) (by first | decide | omega) (by first | assumption | ((try simp (disch := omega) only [zu_same, zu_ne, zcp_ne, zfl_ne]); first | assumption | rfl)) ?_ | refine z_iald d_Mo_does_23 (by first | assumption | exact zS0_at (by assumption) (by omega) | exact zS0_at rfl (by omega)) (by first | assumption | exact zS0_at (by assumption) (by omega) | exact zS0_at rfl (by omega)) ?_
      first | refine z_istore_4 d_Mo_does_24 rfl ?_ | (refine z_forget_3 ?_; refine z_istore_4 d_Mo_does_24 rfl ?_)
      refine z_iload_2 d_Mo_does_26 ?_
      refine z_if_ne (tgt := 38) d_Mo_does_27 (by decide) (fun _ => ?_) (fun h => absurd h (by decide))
      refine z_iload_2 d_Mo_does_38 ?_
      refine z_iconst (a := nI 1) d_Mo_does_39 (by decide) ?_
      refine z_icmp_ne (tgt := 49) d_Mo_does_40 (by decide) (fun _ => ?_) (fun h => absurd h (by decide))
      refine z_iload_2 d_Mo_does_49 ?_
      refine z_iconst (a := nI 4) d_Mo_does_50 (by decide) ?_
      refine z_icmp_ne (tgt := 61) d_Mo_does_51 (by decide) (fun _ => ?_) (fun h => absurd h (by decide))
      refine z_aload_0 d_Mo_does_61 ?_
      refine z_iload_3 d_Mo_does_62 ?_
      refine z_iload_4 d_Mo_does_63 ?_
      refine z_iload_2 d_Mo_does_65 ?_
      refine z_iconst (a := nI 2) d_Mo_does_66 (by decide) ?_
      refine z_icmp_ne (tgt := 74) d_Mo_does_67 (by decide) (fun h => absurd (by decide) h) (fun _ => ?_)
      refine z_iconst (a := nI 1) d_Mo_does_70 (by decide) ?_
      refine z_goto (tgt := 75) d_Mo_does_71 (by decide) ?_
      refine z_Vi3 d_Mo_does_75 k_Mo_366 (by first | assumption | exact zS0_at (by assumption) (by omega) | exact zS0_at rfl (by omega)) (m_tea M' hl D hp (Or.inl ⟨rfl, rfl⟩)) ⟨Nat.le_of_ble_eq_true rfl, Nat.le_of_ble_eq_true rfl, Nat.le_of_ble_eq_true rfl, Nat.le_of_ble_eq_true rfl⟩ (Nat.le_of_ble_eq_true rfl) ?_
      intro r w hq
      obtain ⟨⟨I', rfl⟩, rfl | rfl⟩ := out _ _ _ hq
      · refine z_retz d_Mo_does_78 (by first | exact zb0 | exact zb1 | assumption) ?_
        exact hq
      · refine z_retz d_Mo_does_78 (by first | exact zb0 | exact zb1 | assumption) ?_
        exact hq
    · have o1 : C (f + 13) i = nI 13 := o1
      have q0 : I 150 (89 + 9 * x) = nI 3 := q0
      rw [o1, if_neg (by decide), if_neg (by decide), if_neg (by decide), if_pos rfl, a1, a2, nI_clamp (by omega), nI_clamp (by omega)]
      refine z_aload_0 d_Mo_does_0 ?_
      refine z_getR d_Mo_does_1 f_Mo_35 (by first | assumption | exact zS0_at (by assumption) (by omega) | exact zS0_at rfl (by omega)) (by first | assumption | exact zS0_at (by assumption) (by omega) | exact zS0_at rfl (by omega)) ?_
      refine z_iload_1 d_Mo_does_4 ?_
      first | refine z_ialdNv d_Mo_does_5 (by first | assumption | exact zS0_at (by assumption) (by omega) | exact zS0_at rfl (by omega)) (by omega) (by first | decide | omega) (by first | assumption | ((try simp (disch := omega) only [zu_same, zu_ne, zcp_ne, zfl_ne]); first | assumption | rfl)) ?_ | refine z_iald d_Mo_does_5 (by first | assumption | exact zS0_at (by assumption) (by omega) | exact zS0_at rfl (by omega)) (by first | assumption | exact zS0_at (by assumption) (by omega) | exact zS0_at rfl (by omega)) ?_
      first | refine z_istore_2 d_Mo_does_6 rfl ?_ | (refine z_forget_1 ?_; refine z_istore_2 d_Mo_does_6 rfl ?_)
      refine z_aload_0 d_Mo_does_7 ?_
      refine z_getR d_Mo_does_8 f_Mo_35 (by first | assumption | exact zS0_at (by assumption) (by omega) | exact zS0_at rfl (by omega)) (by first | assumption | exact zS0_at (by assumption) (by omega) | exact zS0_at rfl (by omega)) ?_
      refine z_iload_1 d_Mo_does_11 ?_
      refine z_iconst (a := nI 1) d_Mo_does_12 (by decide) ?_
      first | refine z_iaddN d_Mo_does_13 ?_ | refine z_iadd d_Mo_does_13 ?_
      first | refine z_ialdNv d_Mo_does_14 (by first | assumption | exact zS0_at (by assumption) (by omega) | exact zS0_at rfl (by omega)) (by omega) (by first | decide | omega) (by first | assumption | ((try simp (disch := omega) only [zu_same, zu_ne, zcp_ne, zfl_ne]); first | assumption | rfl)) ?_ | refine z_iald d_Mo_does_14 (by first | assumption | exact zS0_at (by assumption) (by omega) | exact zS0_at rfl (by omega)) (by first | assumption | exact zS0_at (by assumption) (by omega) | exact zS0_at rfl (by omega)) ?_
      first | refine z_istore_3 d_Mo_does_15 rfl ?_ | (refine z_forget_2 ?_; refine z_istore_3 d_Mo_does_15 rfl ?_)
      refine z_aload_0 d_Mo_does_16 ?_
      refine z_getR d_Mo_does_17 f_Mo_35 (by first | assumption | exact zS0_at (by assumption) (by omega) | exact zS0_at rfl (by omega)) (by first | assumption | exact zS0_at (by assumption) (by omega) | exact zS0_at rfl (by omega)) ?_
      refine z_iload_1 d_Mo_does_20 ?_
      refine z_iconst (a := nI 2) d_Mo_does_21 (by decide) ?_
      first | refine z_iaddN d_Mo_does_22 ?_ | refine z_iadd d_Mo_does_22 ?_
      first | refine z_ialdNv d_Mo_does_23 (by first | assumption | exact zS0_at (by assumption) (by omega) | exact zS0_at rfl (by omega)) (by omega) (by first | decide | omega) (by first | assumption | ((try simp (disch := omega) only [zu_same, zu_ne, zcp_ne, zfl_ne]); first | assumption | rfl)) ?_ | refine z_iald d_Mo_does_23 (by first | assumption | exact zS0_at (by assumption) (by omega) | exact zS0_at rfl (by omega)) (by first | assumption | exact zS0_at (by assumption) (by omega) | exact zS0_at rfl (by omega)) ?_
      first | refine z_istore_4 d_Mo_does_24 rfl ?_ | (refine z_forget_3 ?_; refine z_istore_4 d_Mo_does_24 rfl ?_)
      refine z_iload_2 d_Mo_does_26 ?_
      refine z_if_ne (tgt := 38) d_Mo_does_27 (by decide) (fun _ => ?_) (fun h => absurd h (by decide))
      refine z_iload_2 d_Mo_does_38 ?_
      refine z_iconst (a := nI 1) d_Mo_does_39 (by decide) ?_
      refine z_icmp_ne (tgt := 49) d_Mo_does_40 (by decide) (fun _ => ?_) (fun h => absurd h (by decide))
      refine z_iload_2 d_Mo_does_49 ?_
      refine z_iconst (a := nI 4) d_Mo_does_50 (by decide) ?_
      refine z_icmp_ne (tgt := 61) d_Mo_does_51 (by decide) (fun _ => ?_) (fun h => absurd h (by decide))
      refine z_aload_0 d_Mo_does_61 ?_
      refine z_iload_3 d_Mo_does_62 ?_
      refine z_iload_4 d_Mo_does_63 ?_
      refine z_iload_2 d_Mo_does_65 ?_
      refine z_iconst (a := nI 2) d_Mo_does_66 (by decide) ?_
      refine z_icmp_ne (tgt := 74) d_Mo_does_67 (by decide) (fun _ => ?_) (fun h => absurd h (by decide))
      refine z_iconst (a := nI 0) d_Mo_does_74 (by decide) ?_
      refine z_Vi3 d_Mo_does_75 k_Mo_366 (by first | assumption | exact zS0_at (by assumption) (by omega) | exact zS0_at rfl (by omega)) (m_tea M' hl D hp (Or.inr ⟨rfl, rfl⟩)) ⟨Nat.le_of_ble_eq_true rfl, Nat.le_of_ble_eq_true rfl, Nat.le_of_ble_eq_true rfl, Nat.le_of_ble_eq_true rfl⟩ (Nat.le_of_ble_eq_true rfl) ?_
      intro r w hq
      obtain ⟨⟨I', rfl⟩, rfl | rfl⟩ := out _ _ _ hq
      · refine z_retz d_Mo_does_78 (by first | exact zb0 | exact zb1 | assumption) ?_
        exact hq
      · refine z_retz d_Mo_does_78 (by first | exact zb0 | exact zb1 | assumption) ?_
        exact hq
  · have o1 : C (f + 13) i = nI 14 := o1
    have q0 : I 150 (89 + 9 * x) = nI 4 := q0
    rw [o1, if_neg (by decide), if_neg (by decide), if_neg (by decide), if_neg (by decide), if_pos rfl]
    refine z_aload_0 d_Mo_does_0 ?_
    refine z_getR d_Mo_does_1 f_Mo_35 (by first | assumption | exact zS0_at (by assumption) (by omega) | exact zS0_at rfl (by omega)) (by first | assumption | exact zS0_at (by assumption) (by omega) | exact zS0_at rfl (by omega)) ?_
    refine z_iload_1 d_Mo_does_4 ?_
    first | refine z_ialdNv d_Mo_does_5 (by first | assumption | exact zS0_at (by assumption) (by omega) | exact zS0_at rfl (by omega)) (by omega) (by first | decide | omega) (by first | assumption | ((try simp (disch := omega) only [zu_same, zu_ne, zcp_ne, zfl_ne]); first | assumption | rfl)) ?_ | refine z_iald d_Mo_does_5 (by first | assumption | exact zS0_at (by assumption) (by omega) | exact zS0_at rfl (by omega)) (by first | assumption | exact zS0_at (by assumption) (by omega) | exact zS0_at rfl (by omega)) ?_
    first | refine z_istore_2 d_Mo_does_6 rfl ?_ | (refine z_forget_1 ?_; refine z_istore_2 d_Mo_does_6 rfl ?_)
    refine z_aload_0 d_Mo_does_7 ?_
    refine z_getR d_Mo_does_8 f_Mo_35 (by first | assumption | exact zS0_at (by assumption) (by omega) | exact zS0_at rfl (by omega)) (by first | assumption | exact zS0_at (by assumption) (by omega) | exact zS0_at rfl (by omega)) ?_
    refine z_iload_1 d_Mo_does_11 ?_
    refine z_iconst (a := nI 1) d_Mo_does_12 (by decide) ?_
    first | refine z_iaddN d_Mo_does_13 ?_ | refine z_iadd d_Mo_does_13 ?_
    first | refine z_ialdNv d_Mo_does_14 (by first | assumption | exact zS0_at (by assumption) (by omega) | exact zS0_at rfl (by omega)) (by omega) (by first | decide | omega) (by first | assumption | ((try simp (disch := omega) only [zu_same, zu_ne, zcp_ne, zfl_ne]); first | assumption | rfl)) ?_ | refine z_iald d_Mo_does_14 (by first | assumption | exact zS0_at (by assumption) (by omega) | exact zS0_at rfl (by omega)) (by first | assumption | exact zS0_at (by assumption) (by omega) | exact zS0_at rfl (by omega)) ?_
    first | refine z_istore_3 d_Mo_does_15 rfl ?_ | (refine z_forget_2 ?_; refine z_istore_3 d_Mo_does_15 rfl ?_)
    refine z_aload_0 d_Mo_does_16 ?_
    refine z_getR d_Mo_does_17 f_Mo_35 (by first | assumption | exact zS0_at (by assumption) (by omega) | exact zS0_at rfl (by omega)) (by first | assumption | exact zS0_at (by assumption) (by omega) | exact zS0_at rfl (by omega)) ?_
    refine z_iload_1 d_Mo_does_20 ?_
    refine z_iconst (a := nI 2) d_Mo_does_21 (by decide) ?_
    first | refine z_iaddN d_Mo_does_22 ?_ | refine z_iadd d_Mo_does_22 ?_
    first | refine z_ialdNv d_Mo_does_23 (by first | assumption | exact zS0_at (by assumption) (by omega) | exact zS0_at rfl (by omega)) (by omega) (by first | decide | omega) (by first | assumption | ((try simp (disch := omega) only [zu_same, zu_ne, zcp_ne, zfl_ne]); first | assumption | rfl)) ?_ | refine z_iald d_Mo_does_23 (by first | assumption | exact zS0_at (by assumption) (by omega) | exact zS0_at rfl (by omega)) (by first | assumption | exact zS0_at (by assumption) (by omega) | exact zS0_at rfl (by omega)) ?_
    first | refine z_istore_4 d_Mo_does_24 rfl ?_ | (refine z_forget_3 ?_; refine z_istore_4 d_Mo_does_24 rfl ?_)
    refine z_iload_2 d_Mo_does_26 ?_
    refine z_if_ne (tgt := 38) d_Mo_does_27 (by decide) (fun _ => ?_) (fun h => absurd h (by decide))
    refine z_iload_2 d_Mo_does_38 ?_
    refine z_iconst (a := nI 1) d_Mo_does_39 (by decide) ?_
    refine z_icmp_ne (tgt := 49) d_Mo_does_40 (by decide) (fun _ => ?_) (fun h => absurd h (by decide))
    refine z_iload_2 d_Mo_does_49 ?_
    refine z_iconst (a := nI 4) d_Mo_does_50 (by decide) ?_
    refine z_icmp_ne (tgt := 61) d_Mo_does_51 (by decide) (fun h => absurd (by decide) h) (fun _ => ?_)
    refine z_aload_0 d_Mo_does_54 ?_
    refine z_Vi0 d_Mo_does_55 k_Mo_473 (by first | assumption | exact zS0_at (by assumption) (by omega) | exact zS0_at rfl (by omega)) (m_any M' hl D) ⟨Nat.le_of_ble_eq_true rfl, Nat.le_of_ble_eq_true rfl, Nat.le_of_ble_eq_true rfl, Nat.le_of_ble_eq_true rfl⟩ (Nat.le_of_ble_eq_true rfl) ?_
    intro r w hq
    obtain ⟨⟨I', rfl⟩, rfl | rfl⟩ := out _ _ _ hq
    · refine z_goto (tgt := 78) d_Mo_does_58 (by decide) ?_
      refine z_retz d_Mo_does_78 (by first | exact zb0 | exact zb1 | assumption) ?_
      exact hq
    · refine z_goto (tgt := 78) d_Mo_does_58 (by decide) ?_
      refine z_retz d_Mo_does_78 (by first | exact zb0 | exact zb1 | assumption) ?_
      exact hq
  · exact absurd q0 h7
theorem m_isSo {x i : Nat} (M : modOk P S) (D : rD f l nt np nl nn fa g C I) (hx : x < 30) (hv : ybk (n3 nt np nn) (sf (f + 12) C) (fun c k => I 150 (89 + 9 * c + k)) i x) (h5 : I 150 (89 + 9 * x) = nI 5) : zEi G y_Mo_isSo prog_14_method_145_code 5 (some .boolean) 2 [.ref 145, .int (nI (89 + 9 * x))] (I, J, P, S) (fun r w => (c_holds C f (C (f + 13) i) (C (f + 14) i).toNatClampNeg (C (f + 15) i) = true ∧ r = nI 1 ∨ ¬ c_holds C f (C (f + 13) i) (C (f + 14) i).toNatClampNeg (C (f + 15) i) = true ∧ r = nI 0) ∧ w = (I, J, P, S)) := by
  have M' := M
  obtain ⟨M0, ⟨M4, M4s⟩, ⟨M5, M5s⟩, ⟨M6, M6s⟩, ⟨M7, M7s⟩, ⟨M20, M20s⟩, ⟨M21, M21s⟩, ⟨M22, M22s⟩, ⟨M26, M26s⟩, ⟨M27, M27s⟩, ⟨M28, M28s⟩, ⟨M30, M30s⟩, ⟨M34, M34s⟩, ⟨M36, M36s⟩, ⟨M37, M37s⟩⟩ := id M
  have b := D.1.1
  obtain ⟨-, -, -, fp, ft, -⟩ := id D.1
  unfold c_holds
  refine zEi_of (lv := [some (.ref 145), some (.int (nI (89 + 9 * x))), none, none, none]) (by decide) rfl (Nat.le_of_ble_eq_true rfl) ?_
  rcases hv with ⟨m, -, -, -, q0, -⟩ | ⟨-, hv⟩
  · have q0 : I 150 (89 + 9 * x) = nI 6 := q0
    rw [h5] at q0
    exact absurd q0 (by decide)
  rcases hv with ⟨t, p, ht, hp, o1, q5, a1, q1, a2, q2⟩ | ⟨t, ht, o1, q5, a1, q1⟩ | ⟨p, j, v, hp, hj, hv, o1, q5, q7, a1, q1, a2, q6⟩
  · have o1 : C (f + 13) i = nI 8 := o1
    have a1 : C (f + 14) i = nI t := a1
    have a2 : C (f + 15) i = nI p := a2
    have ht : t < nn := ht
    have q5 : I 150 (89 + 9 * x + 5) = nI 0 := q5
    have q1 : I 150 (89 + 9 * x + 1) = nI t := q1
    have q2 : I 150 (89 + 9 * x + 2) = nI p := q2
    have h2 : I 150 (42 + t) = C (f + 6) t := (ft t ht).2.1.2
    rw [o1, if_pos rfl, a1, a2, nI_clamp (by omega)]
    refine z_aload_0 d_Mo_isSo_0 ?_
    refine z_getR d_Mo_isSo_1 f_Mo_35 (by first | assumption | exact zS0_at (by assumption) (by omega) | exact zS0_at rfl (by omega)) (by first | assumption | exact zS0_at (by assumption) (by omega) | exact zS0_at rfl (by omega)) ?_
    refine z_iload_1 d_Mo_isSo_4 ?_
    refine z_iconst (a := nI 5) d_Mo_isSo_5 (by decide) ?_
    first | refine z_iaddN d_Mo_isSo_6 ?_ | refine z_iadd d_Mo_isSo_6 ?_
    first | refine z_ialdNv d_Mo_isSo_7 (by first | assumption | exact zS0_at (by assumption) (by omega) | exact zS0_at rfl (by omega)) (by omega) (by first | decide | omega) (by first | assumption | ((try simp (disch := omega) only [zu_same, zu_ne, zcp_ne, zfl_ne]); first | assumption | rfl)) ?_ | refine z_iald d_Mo_isSo_7 (by first | assumption | exact zS0_at (by assumption) (by omega) | exact zS0_at rfl (by omega)) (by first | assumption | exact zS0_at (by assumption) (by omega) | exact zS0_at rfl (by omega)) ?_
    first | refine z_istore_2 d_Mo_isSo_8 rfl ?_ | (refine z_forget_1 ?_; refine z_istore_2 d_Mo_isSo_8 rfl ?_)
    refine z_aload_0 d_Mo_isSo_9 ?_
    refine z_getR d_Mo_isSo_10 f_Mo_35 (by first | assumption | exact zS0_at (by assumption) (by omega) | exact zS0_at rfl (by omega)) (by first | assumption | exact zS0_at (by assumption) (by omega) | exact zS0_at rfl (by omega)) ?_
    refine z_iload_1 d_Mo_isSo_13 ?_
    refine z_iconst (a := nI 1) d_Mo_isSo_14 (by decide) ?_
    first | refine z_iaddN d_Mo_isSo_15 ?_ | refine z_iadd d_Mo_isSo_15 ?_
    first | refine z_ialdNv d_Mo_isSo_16 (by first | assumption | exact zS0_at (by assumption) (by omega) | exact zS0_at rfl (by omega)) (by omega) (by first | decide | omega) (by first | assumption | ((try simp (disch := omega) only [zu_same, zu_ne, zcp_ne, zfl_ne]); first | assumption | rfl)) ?_ | refine z_iald d_Mo_isSo_16 (by first | assumption | exact zS0_at (by assumption) (by omega) | exact zS0_at rfl (by omega)) (by first | assumption | exact zS0_at (by assumption) (by omega) | exact zS0_at rfl (by omega)) ?_
    first | refine z_istore_3 d_Mo_isSo_17 rfl ?_ | (refine z_forget_2 ?_; refine z_istore_3 d_Mo_isSo_17 rfl ?_)
    refine z_iload_2 d_Mo_isSo_18 ?_
    refine z_if_ne (tgt := 48) d_Mo_isSo_19 (by decide) (fun h => absurd (by decide) h) (fun _ => ?_)
    refine z_aload_0 d_Mo_isSo_22 ?_
    refine z_getR d_Mo_isSo_23 f_Mo_35 (by first | assumption | exact zS0_at (by assumption) (by omega) | exact zS0_at rfl (by omega)) (by first | assumption | exact zS0_at (by assumption) (by omega) | exact zS0_at rfl (by omega)) ?_
    refine z_bipush (a := nI 42) d_Mo_isSo_26 (by decide) ?_
    refine z_iload_3 d_Mo_isSo_28 ?_
    first | refine z_iaddN d_Mo_isSo_29 ?_ | refine z_iadd d_Mo_isSo_29 ?_
    first | refine z_ialdNv d_Mo_isSo_30 (by first | assumption | exact zS0_at (by assumption) (by omega) | exact zS0_at rfl (by omega)) (by omega) (by first | decide | omega) (by first | assumption | ((try simp (disch := omega) only [zu_same, zu_ne, zcp_ne, zfl_ne]); first | assumption | rfl)) ?_ | refine z_iald d_Mo_isSo_30 (by first | assumption | exact zS0_at (by assumption) (by omega) | exact zS0_at rfl (by omega)) (by first | assumption | exact zS0_at (by assumption) (by omega) | exact zS0_at rfl (by omega)) ?_
    refine z_aload_0 d_Mo_isSo_31 ?_
    refine z_getR d_Mo_isSo_32 f_Mo_35 (by first | assumption | exact zS0_at (by assumption) (by omega) | exact zS0_at rfl (by omega)) (by first | assumption | exact zS0_at (by assumption) (by omega) | exact zS0_at rfl (by omega)) ?_
    refine z_iload_1 d_Mo_isSo_35 ?_
    refine z_iconst (a := nI 2) d_Mo_isSo_36 (by decide) ?_
    first | refine z_iaddN d_Mo_isSo_37 ?_ | refine z_iadd d_Mo_isSo_37 ?_
    first | refine z_ialdNv d_Mo_isSo_38 (by first | assumption | exact zS0_at (by assumption) (by omega) | exact zS0_at rfl (by omega)) (by omega) (by first | decide | omega) (by first | assumption | ((try simp (disch := omega) only [zu_same, zu_ne, zcp_ne, zfl_ne]); first | assumption | rfl)) ?_ | refine z_iald d_Mo_isSo_38 (by first | assumption | exact zS0_at (by assumption) (by omega) | exact zS0_at rfl (by omega)) (by first | assumption | exact zS0_at (by assumption) (by omega) | exact zS0_at rfl (by omega)) ?_
    refine z_icmp_ne (tgt := 46) d_Mo_isSo_39 (by decide) (fun hb => ?_) (fun hb => ?_)
    · refine z_iconst (a := nI 0) d_Mo_isSo_46 (by decide) ?_
      refine z_retz d_Mo_isSo_47 (by first | exact zb0 | exact zb1 | assumption) ?_
      exact ⟨Or.inr ⟨fun h => hb (of_decide_eq_true h), rfl⟩, rfl⟩
    · refine z_iconst (a := nI 1) d_Mo_isSo_42 (by decide) ?_
      refine z_goto (tgt := 47) d_Mo_isSo_43 (by decide) ?_
      refine z_retz d_Mo_isSo_47 (by first | exact zb0 | exact zb1 | assumption) ?_
      exact ⟨Or.inl ⟨decide_eq_true hb, rfl⟩, rfl⟩
  · have o1 : C (f + 13) i = nI 17 := o1
    have a1 : C (f + 14) i = nI t := a1
    have ht : t < nn := ht
    have q5 : I 150 (89 + 9 * x + 5) = nI 2 := q5
    have q1 : I 150 (89 + 9 * x + 1) = nI t := q1
    have h2 : I 150 (42 + t) = C (f + 6) t := (ft t ht).2.1.2
    rw [o1, if_neg (by decide), if_pos rfl, a1, nI_clamp (by omega)]
    refine z_aload_0 d_Mo_isSo_0 ?_
    refine z_getR d_Mo_isSo_1 f_Mo_35 (by first | assumption | exact zS0_at (by assumption) (by omega) | exact zS0_at rfl (by omega)) (by first | assumption | exact zS0_at (by assumption) (by omega) | exact zS0_at rfl (by omega)) ?_
    refine z_iload_1 d_Mo_isSo_4 ?_
    refine z_iconst (a := nI 5) d_Mo_isSo_5 (by decide) ?_
    first | refine z_iaddN d_Mo_isSo_6 ?_ | refine z_iadd d_Mo_isSo_6 ?_
    first | refine z_ialdNv d_Mo_isSo_7 (by first | assumption | exact zS0_at (by assumption) (by omega) | exact zS0_at rfl (by omega)) (by omega) (by first | decide | omega) (by first | assumption | ((try simp (disch := omega) only [zu_same, zu_ne, zcp_ne, zfl_ne]); first | assumption | rfl)) ?_ | refine z_iald d_Mo_isSo_7 (by first | assumption | exact zS0_at (by assumption) (by omega) | exact zS0_at rfl (by omega)) (by first | assumption | exact zS0_at (by assumption) (by omega) | exact zS0_at rfl (by omega)) ?_
    first | refine z_istore_2 d_Mo_isSo_8 rfl ?_ | (refine z_forget_1 ?_; refine z_istore_2 d_Mo_isSo_8 rfl ?_)
    refine z_aload_0 d_Mo_isSo_9 ?_
    refine z_getR d_Mo_isSo_10 f_Mo_35 (by first | assumption | exact zS0_at (by assumption) (by omega) | exact zS0_at rfl (by omega)) (by first | assumption | exact zS0_at (by assumption) (by omega) | exact zS0_at rfl (by omega)) ?_
    refine z_iload_1 d_Mo_isSo_13 ?_
    refine z_iconst (a := nI 1) d_Mo_isSo_14 (by decide) ?_
    first | refine z_iaddN d_Mo_isSo_15 ?_ | refine z_iadd d_Mo_isSo_15 ?_
    first | refine z_ialdNv d_Mo_isSo_16 (by first | assumption | exact zS0_at (by assumption) (by omega) | exact zS0_at rfl (by omega)) (by omega) (by first | decide | omega) (by first | assumption | ((try simp (disch := omega) only [zu_same, zu_ne, zcp_ne, zfl_ne]); first | assumption | rfl)) ?_ | refine z_iald d_Mo_isSo_16 (by first | assumption | exact zS0_at (by assumption) (by omega) | exact zS0_at rfl (by omega)) (by first | assumption | exact zS0_at (by assumption) (by omega) | exact zS0_at rfl (by omega)) ?_
    first | refine z_istore_3 d_Mo_isSo_17 rfl ?_ | (refine z_forget_2 ?_; refine z_istore_3 d_Mo_isSo_17 rfl ?_)
    refine z_iload_2 d_Mo_isSo_18 ?_
    refine z_if_ne (tgt := 48) d_Mo_isSo_19 (by decide) (fun _ => ?_) (fun h => absurd h (by decide))
    refine z_iload_2 d_Mo_isSo_48 ?_
    refine z_iconst (a := nI 2) d_Mo_isSo_49 (by decide) ?_
    refine z_icmp_ne (tgt := 59) d_Mo_isSo_50 (by decide) (fun h => absurd (by decide) h) (fun _ => ?_)
    refine z_aload_0 d_Mo_isSo_53 ?_
    refine z_iload_3 d_Mo_isSo_54 ?_
    refine z_Vi1 d_Mo_isSo_55 k_Mo_310 (by first | assumption | exact zS0_at (by assumption) (by omega) | exact zS0_at rfl (by omega)) (t_Mo_isGone M' (by omega)) ⟨Nat.le_of_ble_eq_true rfl, Nat.le_of_ble_eq_true rfl, Nat.le_of_ble_eq_true rfl, Nat.le_of_ble_eq_true rfl⟩ (Nat.le_of_ble_eq_true rfl) ?_
    rw [h2]
    intro r w hz
    rcases hz with ⟨⟨hz, rfl⟩ | ⟨hz, rfl⟩, rfl⟩
    · refine z_retz d_Mo_isSo_58 (by first | exact zb0 | exact zb1 | assumption) ?_
      exact ⟨Or.inl ⟨decide_eq_true hz, rfl⟩, rfl⟩
    · refine z_retz d_Mo_isSo_58 (by first | exact zb0 | exact zb1 | assumption) ?_
      exact ⟨Or.inr ⟨fun h => hz (of_decide_eq_true h), rfl⟩, rfl⟩
  · have o1 : C (f + 13) i = nI j := o1
    have a1 : C (f + 14) i = nI p := a1
    have a2 : C (f + 15) i = nI v := a2
    have hp : p < np := hp
    have q5 : I 150 (89 + 9 * x + 5) = nI 1 := q5
    have q1 : I 150 (89 + 9 * x + 1) = nI p := q1
    have q7 : I 150 (89 + 9 * x + 7) = nI j := q7
    have q6 : I 150 (89 + 9 * x + 6) = nI v := q6
    have h2 : I 150 (26 + p) = C (f + 4) p := by
      obtain ⟨-, -, v, -, v1, v2⟩ := fp p hp
      exact v2.trans v1.symm
    rw [o1, a1, a2, nI_clamp (by omega)]
    rcases hj with rfl | rfl | rfl
    · rw [if_neg (by decide), if_neg (by decide), if_pos rfl]
      refine z_aload_0 d_Mo_isSo_0 ?_
      refine z_getR d_Mo_isSo_1 f_Mo_35 (by first | assumption | exact zS0_at (by assumption) (by omega) | exact zS0_at rfl (by omega)) (by first | assumption | exact zS0_at (by assumption) (by omega) | exact zS0_at rfl (by omega)) ?_
      refine z_iload_1 d_Mo_isSo_4 ?_
      refine z_iconst (a := nI 5) d_Mo_isSo_5 (by decide) ?_
      first | refine z_iaddN d_Mo_isSo_6 ?_ | refine z_iadd d_Mo_isSo_6 ?_
      first | refine z_ialdNv d_Mo_isSo_7 (by first | assumption | exact zS0_at (by assumption) (by omega) | exact zS0_at rfl (by omega)) (by omega) (by first | decide | omega) (by first | assumption | ((try simp (disch := omega) only [zu_same, zu_ne, zcp_ne, zfl_ne]); first | assumption | rfl)) ?_ | refine z_iald d_Mo_isSo_7 (by first | assumption | exact zS0_at (by assumption) (by omega) | exact zS0_at rfl (by omega)) (by first | assumption | exact zS0_at (by assumption) (by omega) | exact zS0_at rfl (by omega)) ?_
      first | refine z_istore_2 d_Mo_isSo_8 rfl ?_ | (refine z_forget_1 ?_; refine z_istore_2 d_Mo_isSo_8 rfl ?_)
      refine z_aload_0 d_Mo_isSo_9 ?_
      refine z_getR d_Mo_isSo_10 f_Mo_35 (by first | assumption | exact zS0_at (by assumption) (by omega) | exact zS0_at rfl (by omega)) (by first | assumption | exact zS0_at (by assumption) (by omega) | exact zS0_at rfl (by omega)) ?_
      refine z_iload_1 d_Mo_isSo_13 ?_
      refine z_iconst (a := nI 1) d_Mo_isSo_14 (by decide) ?_
      first | refine z_iaddN d_Mo_isSo_15 ?_ | refine z_iadd d_Mo_isSo_15 ?_
      first | refine z_ialdNv d_Mo_isSo_16 (by first | assumption | exact zS0_at (by assumption) (by omega) | exact zS0_at rfl (by omega)) (by omega) (by first | decide | omega) (by first | assumption | ((try simp (disch := omega) only [zu_same, zu_ne, zcp_ne, zfl_ne]); first | assumption | rfl)) ?_ | refine z_iald d_Mo_isSo_16 (by first | assumption | exact zS0_at (by assumption) (by omega) | exact zS0_at rfl (by omega)) (by first | assumption | exact zS0_at (by assumption) (by omega) | exact zS0_at rfl (by omega)) ?_
      first | refine z_istore_3 d_Mo_isSo_17 rfl ?_ | (refine z_forget_2 ?_; refine z_istore_3 d_Mo_isSo_17 rfl ?_)
      refine z_iload_2 d_Mo_isSo_18 ?_
      refine z_if_ne (tgt := 48) d_Mo_isSo_19 (by decide) (fun _ => ?_) (fun h => absurd h (by decide))
      refine z_iload_2 d_Mo_isSo_48 ?_
      refine z_iconst (a := nI 2) d_Mo_isSo_49 (by decide) ?_
      refine z_icmp_ne (tgt := 59) d_Mo_isSo_50 (by decide) (fun _ => ?_) (fun h => absurd h (by decide))
      refine z_aload_0 d_Mo_isSo_59 ?_
      refine z_getR d_Mo_isSo_60 f_Mo_35 (by first | assumption | exact zS0_at (by assumption) (by omega) | exact zS0_at rfl (by omega)) (by first | assumption | exact zS0_at (by assumption) (by omega) | exact zS0_at rfl (by omega)) ?_
      refine z_bipush (a := nI 26) d_Mo_isSo_63 (by decide) ?_
      refine z_iload_3 d_Mo_isSo_65 ?_
      first | refine z_iaddN d_Mo_isSo_66 ?_ | refine z_iadd d_Mo_isSo_66 ?_
      first | refine z_ialdNv d_Mo_isSo_67 (by first | assumption | exact zS0_at (by assumption) (by omega) | exact zS0_at rfl (by omega)) (by omega) (by first | decide | omega) (by first | assumption | ((try simp (disch := omega) only [zu_same, zu_ne, zcp_ne, zfl_ne]); first | assumption | rfl)) ?_ | refine z_iald d_Mo_isSo_67 (by first | assumption | exact zS0_at (by assumption) (by omega) | exact zS0_at rfl (by omega)) (by first | assumption | exact zS0_at (by assumption) (by omega) | exact zS0_at rfl (by omega)) ?_
      first | refine z_istore_4 d_Mo_isSo_68 rfl ?_ | (refine z_forget_3 ?_; refine z_istore_4 d_Mo_isSo_68 rfl ?_)
      refine z_aload_0 d_Mo_isSo_70 ?_
      refine z_getR d_Mo_isSo_71 f_Mo_35 (by first | assumption | exact zS0_at (by assumption) (by omega) | exact zS0_at rfl (by omega)) (by first | assumption | exact zS0_at (by assumption) (by omega) | exact zS0_at rfl (by omega)) ?_
      refine z_iload_1 d_Mo_isSo_74 ?_
      refine z_bipush (a := nI 7) d_Mo_isSo_75 (by decide) ?_
      first | refine z_iaddN d_Mo_isSo_77 ?_ | refine z_iadd d_Mo_isSo_77 ?_
      first | refine z_ialdNv d_Mo_isSo_78 (by first | assumption | exact zS0_at (by assumption) (by omega) | exact zS0_at rfl (by omega)) (by omega) (by first | decide | omega) (by first | assumption | ((try simp (disch := omega) only [zu_same, zu_ne, zcp_ne, zfl_ne]); first | assumption | rfl)) ?_ | refine z_iald d_Mo_isSo_78 (by first | assumption | exact zS0_at (by assumption) (by omega) | exact zS0_at rfl (by omega)) (by first | assumption | exact zS0_at (by assumption) (by omega) | exact zS0_at rfl (by omega)) ?_
      refine z_bipush (a := nI 60) d_Mo_isSo_79 (by decide) ?_
      refine z_icmp_ne (tgt := 106) d_Mo_isSo_81 (by decide) (fun h => absurd (by decide) h) (fun _ => ?_)
      refine z_iload_4 d_Mo_isSo_84 ?_
      refine z_aload_0 d_Mo_isSo_86 ?_
      refine z_getR d_Mo_isSo_87 f_Mo_35 (by first | assumption | exact zS0_at (by assumption) (by omega) | exact zS0_at rfl (by omega)) (by first | assumption | exact zS0_at (by assumption) (by omega) | exact zS0_at rfl (by omega)) ?_
      refine z_iload_1 d_Mo_isSo_90 ?_
      refine z_bipush (a := nI 6) d_Mo_isSo_91 (by decide) ?_
      first | refine z_iaddN d_Mo_isSo_93 ?_ | refine z_iadd d_Mo_isSo_93 ?_
      first | refine z_ialdNv d_Mo_isSo_94 (by first | assumption | exact zS0_at (by assumption) (by omega) | exact zS0_at rfl (by omega)) (by omega) (by first | decide | omega) (by first | assumption | ((try simp (disch := omega) only [zu_same, zu_ne, zcp_ne, zfl_ne]); first | assumption | rfl)) ?_ | refine z_iald d_Mo_isSo_94 (by first | assumption | exact zS0_at (by assumption) (by omega) | exact zS0_at rfl (by omega)) (by first | assumption | exact zS0_at (by assumption) (by omega) | exact zS0_at rfl (by omega)) ?_
      refine z_icmp_ge (tgt := 102) d_Mo_isSo_95 (by decide) (fun hb => ?_) (fun hb => ?_)
      · refine z_iconst (a := nI 0) d_Mo_isSo_102 (by decide) ?_
        refine z_goto (tgt := 161) d_Mo_isSo_103 (by decide) ?_
        refine z_retz d_Mo_isSo_161 (by first | exact zb0 | exact zb1 | assumption) ?_
        exact ⟨Or.inr ⟨fun h => absurd (of_decide_eq_true h) (Int32.not_lt.mpr hb), rfl⟩, rfl⟩
      · refine z_iconst (a := nI 1) d_Mo_isSo_98 (by decide) ?_
        refine z_goto (tgt := 161) d_Mo_isSo_99 (by decide) ?_
        refine z_retz d_Mo_isSo_161 (by first | exact zb0 | exact zb1 | assumption) ?_
        exact ⟨Or.inl ⟨decide_eq_true (Int32.not_le.mp hb), rfl⟩, rfl⟩
    · rw [if_neg (by decide), if_neg (by decide), if_neg (by decide), if_neg (by decide)]
      refine z_aload_0 d_Mo_isSo_0 ?_
      refine z_getR d_Mo_isSo_1 f_Mo_35 (by first | assumption | exact zS0_at (by assumption) (by omega) | exact zS0_at rfl (by omega)) (by first | assumption | exact zS0_at (by assumption) (by omega) | exact zS0_at rfl (by omega)) ?_
      refine z_iload_1 d_Mo_isSo_4 ?_
      refine z_iconst (a := nI 5) d_Mo_isSo_5 (by decide) ?_
      first | refine z_iaddN d_Mo_isSo_6 ?_ | refine z_iadd d_Mo_isSo_6 ?_
      first | refine z_ialdNv d_Mo_isSo_7 (by first | assumption | exact zS0_at (by assumption) (by omega) | exact zS0_at rfl (by omega)) (by omega) (by first | decide | omega) (by first | assumption | ((try simp (disch := omega) only [zu_same, zu_ne, zcp_ne, zfl_ne]); first | assumption | rfl)) ?_ | refine z_iald d_Mo_isSo_7 (by first | assumption | exact zS0_at (by assumption) (by omega) | exact zS0_at rfl (by omega)) (by first | assumption | exact zS0_at (by assumption) (by omega) | exact zS0_at rfl (by omega)) ?_
      first | refine z_istore_2 d_Mo_isSo_8 rfl ?_ | (refine z_forget_1 ?_; refine z_istore_2 d_Mo_isSo_8 rfl ?_)
      refine z_aload_0 d_Mo_isSo_9 ?_
      refine z_getR d_Mo_isSo_10 f_Mo_35 (by first | assumption | exact zS0_at (by assumption) (by omega) | exact zS0_at rfl (by omega)) (by first | assumption | exact zS0_at (by assumption) (by omega) | exact zS0_at rfl (by omega)) ?_
      refine z_iload_1 d_Mo_isSo_13 ?_
      refine z_iconst (a := nI 1) d_Mo_isSo_14 (by decide) ?_
      first | refine z_iaddN d_Mo_isSo_15 ?_ | refine z_iadd d_Mo_isSo_15 ?_
      first | refine z_ialdNv d_Mo_isSo_16 (by first | assumption | exact zS0_at (by assumption) (by omega) | exact zS0_at rfl (by omega)) (by omega) (by first | decide | omega) (by first | assumption | ((try simp (disch := omega) only [zu_same, zu_ne, zcp_ne, zfl_ne]); first | assumption | rfl)) ?_ | refine z_iald d_Mo_isSo_16 (by first | assumption | exact zS0_at (by assumption) (by omega) | exact zS0_at rfl (by omega)) (by first | assumption | exact zS0_at (by assumption) (by omega) | exact zS0_at rfl (by omega)) ?_
      first | refine z_istore_3 d_Mo_isSo_17 rfl ?_ | (refine z_forget_2 ?_; refine z_istore_3 d_Mo_isSo_17 rfl ?_)
      refine z_iload_2 d_Mo_isSo_18 ?_
      refine z_if_ne (tgt := 48) d_Mo_isSo_19 (by decide) (fun _ => ?_) (fun h => absurd h (by decide))
      refine z_iload_2 d_Mo_isSo_48 ?_
      refine z_iconst (a := nI 2) d_Mo_isSo_49 (by decide) ?_
      refine z_icmp_ne (tgt := 59) d_Mo_isSo_50 (by decide) (fun _ => ?_) (fun h => absurd h (by decide))
      refine z_aload_0 d_Mo_isSo_59 ?_
      refine z_getR d_Mo_isSo_60 f_Mo_35 (by first | assumption | exact zS0_at (by assumption) (by omega) | exact zS0_at rfl (by omega)) (by first | assumption | exact zS0_at (by assumption) (by omega) | exact zS0_at rfl (by omega)) ?_
      refine z_bipush (a := nI 26) d_Mo_isSo_63 (by decide) ?_
      refine z_iload_3 d_Mo_isSo_65 ?_
      first | refine z_iaddN d_Mo_isSo_66 ?_ | refine z_iadd d_Mo_isSo_66 ?_
      first | refine z_ialdNv d_Mo_isSo_67 (by first | assumption | exact zS0_at (by assumption) (by omega) | exact zS0_at rfl (by omega)) (by omega) (by first | decide | omega) (by first | assumption | ((try simp (disch := omega) only [zu_same, zu_ne, zcp_ne, zfl_ne]); first | assumption | rfl)) ?_ | refine z_iald d_Mo_isSo_67 (by first | assumption | exact zS0_at (by assumption) (by omega) | exact zS0_at rfl (by omega)) (by first | assumption | exact zS0_at (by assumption) (by omega) | exact zS0_at rfl (by omega)) ?_
      first | refine z_istore_4 d_Mo_isSo_68 rfl ?_ | (refine z_forget_3 ?_; refine z_istore_4 d_Mo_isSo_68 rfl ?_)
      refine z_aload_0 d_Mo_isSo_70 ?_
      refine z_getR d_Mo_isSo_71 f_Mo_35 (by first | assumption | exact zS0_at (by assumption) (by omega) | exact zS0_at rfl (by omega)) (by first | assumption | exact zS0_at (by assumption) (by omega) | exact zS0_at rfl (by omega)) ?_
      refine z_iload_1 d_Mo_isSo_74 ?_
      refine z_bipush (a := nI 7) d_Mo_isSo_75 (by decide) ?_
      first | refine z_iaddN d_Mo_isSo_77 ?_ | refine z_iadd d_Mo_isSo_77 ?_
      first | refine z_ialdNv d_Mo_isSo_78 (by first | assumption | exact zS0_at (by assumption) (by omega) | exact zS0_at rfl (by omega)) (by omega) (by first | decide | omega) (by first | assumption | ((try simp (disch := omega) only [zu_same, zu_ne, zcp_ne, zfl_ne]); first | assumption | rfl)) ?_ | refine z_iald d_Mo_isSo_78 (by first | assumption | exact zS0_at (by assumption) (by omega) | exact zS0_at rfl (by omega)) (by first | assumption | exact zS0_at (by assumption) (by omega) | exact zS0_at rfl (by omega)) ?_
      refine z_bipush (a := nI 60) d_Mo_isSo_79 (by decide) ?_
      refine z_icmp_ne (tgt := 106) d_Mo_isSo_81 (by decide) (fun _ => ?_) (fun h => absurd h (by decide))
      refine z_aload_0 d_Mo_isSo_106 ?_
      refine z_getR d_Mo_isSo_107 f_Mo_35 (by first | assumption | exact zS0_at (by assumption) (by omega) | exact zS0_at rfl (by omega)) (by first | assumption | exact zS0_at (by assumption) (by omega) | exact zS0_at rfl (by omega)) ?_
      refine z_iload_1 d_Mo_isSo_110 ?_
      refine z_bipush (a := nI 7) d_Mo_isSo_111 (by decide) ?_
      first | refine z_iaddN d_Mo_isSo_113 ?_ | refine z_iadd d_Mo_isSo_113 ?_
      first | refine z_ialdNv d_Mo_isSo_114 (by first | assumption | exact zS0_at (by assumption) (by omega) | exact zS0_at rfl (by omega)) (by omega) (by first | decide | omega) (by first | assumption | ((try simp (disch := omega) only [zu_same, zu_ne, zcp_ne, zfl_ne]); first | assumption | rfl)) ?_ | refine z_iald d_Mo_isSo_114 (by first | assumption | exact zS0_at (by assumption) (by omega) | exact zS0_at rfl (by omega)) (by first | assumption | exact zS0_at (by assumption) (by omega) | exact zS0_at rfl (by omega)) ?_
      refine z_bipush (a := nI 62) d_Mo_isSo_115 (by decide) ?_
      refine z_icmp_ne (tgt := 142) d_Mo_isSo_117 (by decide) (fun _ => ?_) (fun h => absurd h (by decide))
      refine z_iload_4 d_Mo_isSo_142 ?_
      refine z_aload_0 d_Mo_isSo_144 ?_
      refine z_getR d_Mo_isSo_145 f_Mo_35 (by first | assumption | exact zS0_at (by assumption) (by omega) | exact zS0_at rfl (by omega)) (by first | assumption | exact zS0_at (by assumption) (by omega) | exact zS0_at rfl (by omega)) ?_
      refine z_iload_1 d_Mo_isSo_148 ?_
      refine z_bipush (a := nI 6) d_Mo_isSo_149 (by decide) ?_
      first | refine z_iaddN d_Mo_isSo_151 ?_ | refine z_iadd d_Mo_isSo_151 ?_
      first | refine z_ialdNv d_Mo_isSo_152 (by first | assumption | exact zS0_at (by assumption) (by omega) | exact zS0_at rfl (by omega)) (by omega) (by first | decide | omega) (by first | assumption | ((try simp (disch := omega) only [zu_same, zu_ne, zcp_ne, zfl_ne]); first | assumption | rfl)) ?_ | refine z_iald d_Mo_isSo_152 (by first | assumption | exact zS0_at (by assumption) (by omega) | exact zS0_at rfl (by omega)) (by first | assumption | exact zS0_at (by assumption) (by omega) | exact zS0_at rfl (by omega)) ?_
      refine z_icmp_ne (tgt := 160) d_Mo_isSo_153 (by decide) (fun hb => ?_) (fun hb => ?_)
      · refine z_iconst (a := nI 0) d_Mo_isSo_160 (by decide) ?_
        refine z_retz d_Mo_isSo_161 (by first | exact zb0 | exact zb1 | assumption) ?_
        exact ⟨Or.inr ⟨fun h => hb (of_decide_eq_true h), rfl⟩, rfl⟩
      · refine z_iconst (a := nI 1) d_Mo_isSo_156 (by decide) ?_
        refine z_goto (tgt := 161) d_Mo_isSo_157 (by decide) ?_
        refine z_retz d_Mo_isSo_161 (by first | exact zb0 | exact zb1 | assumption) ?_
        exact ⟨Or.inl ⟨decide_eq_true hb, rfl⟩, rfl⟩
    · rw [if_neg (by decide), if_neg (by decide), if_neg (by decide), if_pos rfl]
      refine z_aload_0 d_Mo_isSo_0 ?_
      refine z_getR d_Mo_isSo_1 f_Mo_35 (by first | assumption | exact zS0_at (by assumption) (by omega) | exact zS0_at rfl (by omega)) (by first | assumption | exact zS0_at (by assumption) (by omega) | exact zS0_at rfl (by omega)) ?_
      refine z_iload_1 d_Mo_isSo_4 ?_
      refine z_iconst (a := nI 5) d_Mo_isSo_5 (by decide) ?_
      first | refine z_iaddN d_Mo_isSo_6 ?_ | refine z_iadd d_Mo_isSo_6 ?_
      first | refine z_ialdNv d_Mo_isSo_7 (by first | assumption | exact zS0_at (by assumption) (by omega) | exact zS0_at rfl (by omega)) (by omega) (by first | decide | omega) (by first | assumption | ((try simp (disch := omega) only [zu_same, zu_ne, zcp_ne, zfl_ne]); first | assumption | rfl)) ?_ | refine z_iald d_Mo_isSo_7 (by first | assumption | exact zS0_at (by assumption) (by omega) | exact zS0_at rfl (by omega)) (by first | assumption | exact zS0_at (by assumption) (by omega) | exact zS0_at rfl (by omega)) ?_
      first | refine z_istore_2 d_Mo_isSo_8 rfl ?_ | (refine z_forget_1 ?_; refine z_istore_2 d_Mo_isSo_8 rfl ?_)
      refine z_aload_0 d_Mo_isSo_9 ?_
      refine z_getR d_Mo_isSo_10 f_Mo_35 (by first | assumption | exact zS0_at (by assumption) (by omega) | exact zS0_at rfl (by omega)) (by first | assumption | exact zS0_at (by assumption) (by omega) | exact zS0_at rfl (by omega)) ?_
      refine z_iload_1 d_Mo_isSo_13 ?_
      refine z_iconst (a := nI 1) d_Mo_isSo_14 (by decide) ?_
      first | refine z_iaddN d_Mo_isSo_15 ?_ | refine z_iadd d_Mo_isSo_15 ?_
      first | refine z_ialdNv d_Mo_isSo_16 (by first | assumption | exact zS0_at (by assumption) (by omega) | exact zS0_at rfl (by omega)) (by omega) (by first | decide | omega) (by first | assumption | ((try simp (disch := omega) only [zu_same, zu_ne, zcp_ne, zfl_ne]); first | assumption | rfl)) ?_ | refine z_iald d_Mo_isSo_16 (by first | assumption | exact zS0_at (by assumption) (by omega) | exact zS0_at rfl (by omega)) (by first | assumption | exact zS0_at (by assumption) (by omega) | exact zS0_at rfl (by omega)) ?_
      first | refine z_istore_3 d_Mo_isSo_17 rfl ?_ | (refine z_forget_2 ?_; refine z_istore_3 d_Mo_isSo_17 rfl ?_)
      refine z_iload_2 d_Mo_isSo_18 ?_
      refine z_if_ne (tgt := 48) d_Mo_isSo_19 (by decide) (fun _ => ?_) (fun h => absurd h (by decide))
      refine z_iload_2 d_Mo_isSo_48 ?_
      refine z_iconst (a := nI 2) d_Mo_isSo_49 (by decide) ?_
      refine z_icmp_ne (tgt := 59) d_Mo_isSo_50 (by decide) (fun _ => ?_) (fun h => absurd h (by decide))
      refine z_aload_0 d_Mo_isSo_59 ?_
      refine z_getR d_Mo_isSo_60 f_Mo_35 (by first | assumption | exact zS0_at (by assumption) (by omega) | exact zS0_at rfl (by omega)) (by first | assumption | exact zS0_at (by assumption) (by omega) | exact zS0_at rfl (by omega)) ?_
      refine z_bipush (a := nI 26) d_Mo_isSo_63 (by decide) ?_
      refine z_iload_3 d_Mo_isSo_65 ?_
      first | refine z_iaddN d_Mo_isSo_66 ?_ | refine z_iadd d_Mo_isSo_66 ?_
      first | refine z_ialdNv d_Mo_isSo_67 (by first | assumption | exact zS0_at (by assumption) (by omega) | exact zS0_at rfl (by omega)) (by omega) (by first | decide | omega) (by first | assumption | ((try simp (disch := omega) only [zu_same, zu_ne, zcp_ne, zfl_ne]); first | assumption | rfl)) ?_ | refine z_iald d_Mo_isSo_67 (by first | assumption | exact zS0_at (by assumption) (by omega) | exact zS0_at rfl (by omega)) (by first | assumption | exact zS0_at (by assumption) (by omega) | exact zS0_at rfl (by omega)) ?_
      first | refine z_istore_4 d_Mo_isSo_68 rfl ?_ | (refine z_forget_3 ?_; refine z_istore_4 d_Mo_isSo_68 rfl ?_)
      refine z_aload_0 d_Mo_isSo_70 ?_
      refine z_getR d_Mo_isSo_71 f_Mo_35 (by first | assumption | exact zS0_at (by assumption) (by omega) | exact zS0_at rfl (by omega)) (by first | assumption | exact zS0_at (by assumption) (by omega) | exact zS0_at rfl (by omega)) ?_
      refine z_iload_1 d_Mo_isSo_74 ?_
      refine z_bipush (a := nI 7) d_Mo_isSo_75 (by decide) ?_
      first | refine z_iaddN d_Mo_isSo_77 ?_ | refine z_iadd d_Mo_isSo_77 ?_
      first | refine z_ialdNv d_Mo_isSo_78 (by first | assumption | exact zS0_at (by assumption) (by omega) | exact zS0_at rfl (by omega)) (by omega) (by first | decide | omega) (by first | assumption | ((try simp (disch := omega) only [zu_same, zu_ne, zcp_ne, zfl_ne]); first | assumption | rfl)) ?_ | refine z_iald d_Mo_isSo_78 (by first | assumption | exact zS0_at (by assumption) (by omega) | exact zS0_at rfl (by omega)) (by first | assumption | exact zS0_at (by assumption) (by omega) | exact zS0_at rfl (by omega)) ?_
      refine z_bipush (a := nI 60) d_Mo_isSo_79 (by decide) ?_
      refine z_icmp_ne (tgt := 106) d_Mo_isSo_81 (by decide) (fun _ => ?_) (fun h => absurd h (by decide))
      refine z_aload_0 d_Mo_isSo_106 ?_
      refine z_getR d_Mo_isSo_107 f_Mo_35 (by first | assumption | exact zS0_at (by assumption) (by omega) | exact zS0_at rfl (by omega)) (by first | assumption | exact zS0_at (by assumption) (by omega) | exact zS0_at rfl (by omega)) ?_
      refine z_iload_1 d_Mo_isSo_110 ?_
      refine z_bipush (a := nI 7) d_Mo_isSo_111 (by decide) ?_
      first | refine z_iaddN d_Mo_isSo_113 ?_ | refine z_iadd d_Mo_isSo_113 ?_
      first | refine z_ialdNv d_Mo_isSo_114 (by first | assumption | exact zS0_at (by assumption) (by omega) | exact zS0_at rfl (by omega)) (by omega) (by first | decide | omega) (by first | assumption | ((try simp (disch := omega) only [zu_same, zu_ne, zcp_ne, zfl_ne]); first | assumption | rfl)) ?_ | refine z_iald d_Mo_isSo_114 (by first | assumption | exact zS0_at (by assumption) (by omega) | exact zS0_at rfl (by omega)) (by first | assumption | exact zS0_at (by assumption) (by omega) | exact zS0_at rfl (by omega)) ?_
      refine z_bipush (a := nI 62) d_Mo_isSo_115 (by decide) ?_
      refine z_icmp_ne (tgt := 142) d_Mo_isSo_117 (by decide) (fun h => absurd (by decide) h) (fun _ => ?_)
      refine z_iload_4 d_Mo_isSo_120 ?_
      refine z_aload_0 d_Mo_isSo_122 ?_
      refine z_getR d_Mo_isSo_123 f_Mo_35 (by first | assumption | exact zS0_at (by assumption) (by omega) | exact zS0_at rfl (by omega)) (by first | assumption | exact zS0_at (by assumption) (by omega) | exact zS0_at rfl (by omega)) ?_
      refine z_iload_1 d_Mo_isSo_126 ?_
      refine z_bipush (a := nI 6) d_Mo_isSo_127 (by decide) ?_
      first | refine z_iaddN d_Mo_isSo_129 ?_ | refine z_iadd d_Mo_isSo_129 ?_
      first | refine z_ialdNv d_Mo_isSo_130 (by first | assumption | exact zS0_at (by assumption) (by omega) | exact zS0_at rfl (by omega)) (by omega) (by first | decide | omega) (by first | assumption | ((try simp (disch := omega) only [zu_same, zu_ne, zcp_ne, zfl_ne]); first | assumption | rfl)) ?_ | refine z_iald d_Mo_isSo_130 (by first | assumption | exact zS0_at (by assumption) (by omega) | exact zS0_at rfl (by omega)) (by first | assumption | exact zS0_at (by assumption) (by omega) | exact zS0_at rfl (by omega)) ?_
      refine z_icmp_le (tgt := 138) d_Mo_isSo_131 (by decide) (fun hb => ?_) (fun hb => ?_)
      · refine z_iconst (a := nI 0) d_Mo_isSo_138 (by decide) ?_
        refine z_goto (tgt := 161) d_Mo_isSo_139 (by decide) ?_
        refine z_retz d_Mo_isSo_161 (by first | exact zb0 | exact zb1 | assumption) ?_
        exact ⟨Or.inr ⟨fun h => absurd (of_decide_eq_true h) (Int32.not_lt.mpr hb), rfl⟩, rfl⟩
      · refine z_iconst (a := nI 1) d_Mo_isSo_134 (by decide) ?_
        refine z_goto (tgt := 161) d_Mo_isSo_135 (by decide) ?_
        refine z_retz d_Mo_isSo_161 (by first | exact zb0 | exact zb1 | assumption) ?_
        exact ⟨Or.inl ⟨decide_eq_true (Int32.not_le.mp hb), rfl⟩, rfl⟩
end ML1
