/-! the class: one run through YEARS, on -/
section LF1
variable {G : zG} {I : Nat → Nat → Int32} {J : Nat → Nat → Int64} {P : Nat → Nat → Option Nat} {S : List (Nat × Nat)} {f l nt np nl nn sz : Nat} {a b : Int32} {C C' C1 : Nat → Nat → Int32}
abbrev n3 (nt np nn : Nat) : yN := ((fun _ _ => 0), nt, np, nn)
/-- what stands in a row of YEARS can be done -/
def opv (n : yN) (A : Nat → Nat → Int32) (sz i : Nat) : Prop := (∃ Q s, yst n A Q i s) ∨ ((∃ Q s, ybk n A Q i s) ∧ ∃ E, E < sz ∧ A 4 i = nI E) ∨ (A 1 i = nI 19 ∧ ∃ o, o < sz ∧ A 4 i = nI o)
/-- a run leaves all but the FEN's rows and its own as it is -/
def cF (f l : Nat) (C C' : Nat → Nat → Int32) : Prop := (∀ a, ¬ (f ≤ a ∧ a ≤ f + 8) → a ≠ l → C' a = C a) ∧ (∀ k, k ≠ 2 → k ≠ 7 → C' l k = C l k)
theorem cF_r : cF f l C C := ⟨fun _ _ _ => rfl, fun _ _ _ => rfl⟩
theorem cF_t (h1 : cF f l C C1) (h2 : cF f l C1 C') : cF f l C C' := ⟨fun a g1 g2 => (h2.1 a g1 g2).trans (h1.1 a g1 g2), fun k g1 g2 => (h2.2 k g1 g2).trans (h1.2 k g1 g2)⟩
theorem cF_miss : cF f l C (c_miss C l) := ⟨fun a _ g2 => zu_row _ _ _ _ g2, fun k g1 _ => zu_ne _ _ _ _ (by omega)⟩
theorem cF_draw : cF f l C (c_draw C l) := ⟨fun a _ g2 => zu_row _ _ _ _ g2, fun k _ g1 => zu_ne _ _ _ _ (by omega)⟩
theorem cF_f {a k : Nat} {x : Int32} (hl : ¬ (f ≤ l ∧ l ≤ f + 16)) (h : cF f l C C1) (ha : f ≤ a ∧ a ≤ f + 8) : cF f l C (zu C1 a k x) := ⟨fun b g1 g2 => (zu_row _ _ _ _ (by omega)).trans (h.1 b g1 g2), fun i g1 g2 => (zu_ne _ _ _ _ (by omega)).trans (h.2 i g1 g2)⟩
theorem cF_pass {t q : Nat} (hl : ¬ (f ≤ l ∧ l ≤ f + 16)) : cF f l C (c_pass C f l t q) := by
  unfold c_pass
  split
  · exact cF_miss
  · split
    · unfold s_hand
      exact cF_f hl (cF_f hl (cF_f hl (cF_f hl (cF_f hl cF_r (by omega)) (by omega)) (by omega)) (by omega)) (by omega)
    · exact cF_miss
theorem cF_bite {t : Nat} (hl : ¬ (f ≤ l ∧ l ≤ f + 16)) : cF f l C (c_bite C f l t) := by
  unfold c_bite
  split
  · exact cF_miss
  · split
    · split
      · exact cF_f hl (cF_f hl cF_draw (by omega)) (by omega)
      · exact cF_t cF_draw cF_miss
    · exact cF_miss
theorem cF_turn {p k : Nat} {bb : Bool} (hl : ¬ (f ≤ l ∧ l ≤ f + 16)) : cF f l C (c_turn C f l p k bb) := by
  unfold c_turn
  split
  · exact cF_miss
  · exact cF_f hl cF_r (by omega)
theorem cF_any (hl : ¬ (f ≤ l ∧ l ≤ f + 16)) : cF f l C (c_any C f l) := by
  unfold c_any
  split
  · exact cF_miss
  · exact cF_t (cF_t cF_draw cF_draw) (cF_pass hl)
theorem zu_zu' {α : Type} (f : Nat → Nat → α) (a k : Nat) (x y : α) : zu (zu f a k x) a k y = zu f a k y := zu_zu _ _ _ _ _
theorem t_Life_doEnd {i o : Nat} (h0 : S[l]? = some (4, 10)) (h9 : P l 9 = some (l + 1)) (h9s : S[l + 1]? = some (100, 60)) (F : fenOk P S f) (hl : ¬ (f ≤ l ∧ l ≤ f + 16)) (hi : I l 8 = nI i) (hi6 : i < 60) (ho : I (f + 16) i = nI o) (ho6 : o < 60) : zEv G y_Life_doEnd prog_6_method_3_code 3 1 0 0 [.ref l, .ref (f + 12)] (I, J, P, S) (fun w => w = (c_end I f l i, J, P, S)) := by
  obtain ⟨F0, ⟨F8, F8s⟩, ⟨F9, F9s⟩, ⟨F10, F10s⟩, ⟨F11, F11s⟩, ⟨F12, F12s⟩, ⟨F13, F13s⟩, ⟨F14, F14s⟩, ⟨F15, F15s⟩, ⟨F16, F16s⟩, ⟨F17, F17s⟩, ⟨F18, F18s⟩, ⟨F19, F19s⟩, ⟨Y3, Y3s⟩, ⟨Y4, Y4s⟩, ⟨Y5, Y5s⟩, ⟨Y6, Y6s⟩⟩ := id F
  unfold c_end
  rw [ho, nI_clamp (by omega)]
  refine zEv_of (lv := [some (.ref l), some (.ref (f + 12)), none]) (by decide) rfl (Nat.le_of_ble_eq_true rfl) ?_
  refine z_aload_1 d_Life_doEnd_0 ?_
  refine z_getR d_Life_doEnd_1 f_Life_81 (by first | assumption | exact zS0_at (by assumption) (by omega) | exact zS0_at rfl (by omega)) (by first | assumption | exact zS0_at (by assumption) (by omega) | exact zS0_at rfl (by omega)) ?_
  refine z_aload_0 d_Life_doEnd_4 ?_
  refine z_getIv d_Life_doEnd_5 f_Life_34 (by first | assumption | exact zS0_at (by assumption) (by omega) | exact zS0_at rfl (by omega)) (by first | assumption | ((try simp (disch := omega) only [zu_same, zu_ne, zcp_ne, zfl_ne]); first | assumption | rfl)) ?_
  first | refine z_ialdNv d_Life_doEnd_8 (by first | assumption | exact zS0_at (by assumption) (by omega) | exact zS0_at rfl (by omega)) (by omega) (by first | decide | omega) (by first | assumption | ((try simp (disch := omega) only [zu_same, zu_ne, zcp_ne, zfl_ne]); first | assumption | rfl)) ?_ | refine z_iald d_Life_doEnd_8 (by first | assumption | exact zS0_at (by assumption) (by omega) | exact zS0_at rfl (by omega)) (by first | assumption | exact zS0_at (by assumption) (by omega) | exact zS0_at rfl (by omega)) ?_
  first | refine z_istore_2 d_Life_doEnd_9 rfl ?_ | (refine z_forget_1 ?_; refine z_istore_2 d_Life_doEnd_9 rfl ?_)
  refine z_aload_1 d_Life_doEnd_10 ?_
  refine z_getR d_Life_doEnd_11 f_Life_57 (by first | assumption | exact zS0_at (by assumption) (by omega) | exact zS0_at rfl (by omega)) (by first | assumption | exact zS0_at (by assumption) (by omega) | exact zS0_at rfl (by omega)) ?_
  refine z_iload_2 d_Life_doEnd_14 ?_
  first | refine z_ialdNv d_Life_doEnd_15 (by first | assumption | exact zS0_at (by assumption) (by omega) | exact zS0_at rfl (by omega)) (by omega) (by first | decide | omega) (by first | assumption | ((try simp (disch := omega) only [zu_same, zu_ne, zcp_ne, zfl_ne]); first | assumption | rfl)) ?_ | refine z_iald d_Life_doEnd_15 (by first | assumption | exact zS0_at (by assumption) (by omega) | exact zS0_at rfl (by omega)) (by first | assumption | exact zS0_at (by assumption) (by omega) | exact zS0_at rfl (by omega)) ?_
  refine z_bipush (a := nI 18) d_Life_doEnd_16 (by decide) ?_
  refine z_icmp_ne (tgt := 45) d_Life_doEnd_18 (by decide) (fun hb => ?_) (fun hb => ?_)
  · rw [if_neg hb]
    refine z_aload_0 d_Life_doEnd_45 ?_
    refine z_dup rfl d_Life_doEnd_46 ?_
    refine z_getIv d_Life_doEnd_47 f_Life_34 (by first | assumption | exact zS0_at (by assumption) (by omega) | exact zS0_at rfl (by omega)) (by first | assumption | ((try simp (disch := omega) only [zu_same, zu_ne, zcp_ne, zfl_ne]); first | assumption | rfl)) ?_
    refine z_iconst (a := nI 1) d_Life_doEnd_50 (by decide) ?_
    first | refine z_iaddN d_Life_doEnd_51 ?_ | refine z_iadd d_Life_doEnd_51 ?_
    refine z_putI d_Life_doEnd_52 f_Life_34 (by first | assumption | exact zS0_at (by assumption) (by omega) | exact zS0_at rfl (by omega)) ?_
    refine z_retv d_Life_doEnd_55 ?_
    rfl
  · rw [if_pos hb]
    refine z_aload_0 d_Life_doEnd_21 ?_
    refine z_getR d_Life_doEnd_22 f_Life_11 (by first | assumption | exact zS0_at (by assumption) (by omega) | exact zS0_at rfl (by omega)) (by first | assumption | exact zS0_at (by assumption) (by omega) | exact zS0_at rfl (by omega)) ?_
    refine z_iload_2 d_Life_doEnd_25 ?_
    first | refine z_dup2 rfl rfl d_Life_doEnd_26 ?_ | refine z_dup2l rfl d_Life_doEnd_26 ?_
    first | refine z_ialdNv d_Life_doEnd_27 (by first | assumption | exact zS0_at (by assumption) (by omega) | exact zS0_at rfl (by omega)) (by omega) (by first | decide | omega) (by first | assumption | ((try simp (disch := omega) only [zu_same, zu_ne, zcp_ne, zfl_ne]); first | assumption | rfl)) ?_ | refine z_iald d_Life_doEnd_27 (by first | assumption | exact zS0_at (by assumption) (by omega) | exact zS0_at rfl (by omega)) (by first | assumption | exact zS0_at (by assumption) (by omega) | exact zS0_at rfl (by omega)) ?_
    refine z_iconst (a := nI 1) d_Life_doEnd_28 (by decide) ?_
    refine z_isub d_Life_doEnd_29 ?_
    first | refine z_iastN d_Life_doEnd_30 (by first | assumption | exact zS0_at (by assumption) (by omega) | exact zS0_at rfl (by omega)) (by omega) (by first | decide | omega) ?_ | refine z_iast d_Life_doEnd_30 (by first | assumption | exact zS0_at (by assumption) (by omega) | exact zS0_at rfl (by omega)) (by first | assumption | exact zS0_at (by assumption) (by omega) | exact zS0_at rfl (by omega)) ?_
    refine z_aload_0 d_Life_doEnd_31 ?_
    refine z_getR d_Life_doEnd_32 f_Life_11 (by first | assumption | exact zS0_at (by assumption) (by omega) | exact zS0_at rfl (by omega)) (by first | assumption | exact zS0_at (by assumption) (by omega) | exact zS0_at rfl (by omega)) ?_
    refine z_iload_2 d_Life_doEnd_35 ?_
    refine z_ialdNv d_Life_doEnd_36 h9s (by omega) (by decide) (zu_same _ _ _ _) ?_
    have e8 : zu I (l + 1) o (I (l + 1) o - nI 1) l 8 = nI i := by rw [zu_row _ _ _ _ (by omega)]; exact hi
    refine z_if_le (tgt := 45) d_Life_doEnd_37 (by decide) (fun hc => ?_) (fun hc => ?_)
    · rw [if_neg (Int32.not_lt.mpr hc)]
      refine z_aload_0 d_Life_doEnd_45 ?_
      refine z_dup rfl d_Life_doEnd_46 ?_
      refine z_getIv d_Life_doEnd_47 f_Life_34 (by first | assumption | exact zS0_at (by assumption) (by omega) | exact zS0_at rfl (by omega)) (by first | assumption | ((try simp (disch := omega) only [zu_same, zu_ne, zcp_ne, zfl_ne]); first | assumption | rfl)) ?_
      refine z_iconst (a := nI 1) d_Life_doEnd_50 (by decide) ?_
      first | refine z_iaddN d_Life_doEnd_51 ?_ | refine z_iadd d_Life_doEnd_51 ?_
      refine z_putI d_Life_doEnd_52 f_Life_34 (by first | assumption | exact zS0_at (by assumption) (by omega) | exact zS0_at rfl (by omega)) ?_
      refine z_retv d_Life_doEnd_55 ?_
      rfl
    · rw [if_pos (Int32.not_le.mp hc)]
      refine z_aload_0 d_Life_doEnd_40 ?_
      refine z_iload_2 d_Life_doEnd_41 ?_
      refine z_putI d_Life_doEnd_42 f_Life_34 (by first | assumption | exact zS0_at (by assumption) (by omega) | exact zS0_at rfl (by omega)) ?_
      generalize zu I (l + 1) o (I (l + 1) o - nI 1) = X
      have e9 : zu X l 8 (nI o) l 8 = nI o := zu_same _ _ _ _
      refine z_aload_0 d_Life_doEnd_45 ?_
      refine z_dup rfl d_Life_doEnd_46 ?_
      refine z_getIv d_Life_doEnd_47 f_Life_34 (by first | assumption | exact zS0_at (by assumption) (by omega) | exact zS0_at rfl (by omega)) (by first | assumption | ((try simp (disch := omega) only [zu_same, zu_ne, zcp_ne, zfl_ne]); first | assumption | rfl)) ?_
      refine z_iconst (a := nI 1) d_Life_doEnd_50 (by decide) ?_
      first | refine z_iaddN d_Life_doEnd_51 ?_ | refine z_iadd d_Life_doEnd_51 ?_
      refine z_putI d_Life_doEnd_52 f_Life_34 (by first | assumption | exact zS0_at (by assumption) (by omega) | exact zS0_at rfl (by omega)) ?_
      rw [zu_zu']
      refine z_retv d_Life_doEnd_55 ?_
      rfl
theorem do_fin {L : List (Option Value)} {X : Nat → Nat → Int32} {Q : zW → Prop} (h0 : S[l]? = some (4, 10)) (hL : L = [some (.ref l), some (.ref f), some (.ref (f + 12)), L.getD 3 none, L.getD 4 none]) (hQ : Q (zu X l 8 (X l 8 + nI 1), J, P, S)) : zA G y_Life_doStep prog_6_method_4_code 5 none (zRm 5 0 0) (zM G 0 0 (fun r w' => r = none ∧ Q w')) 200 L [] (X, J, P, S) 0 0 := by
  rw [hL]
  refine z_aload_0 d_Life_doStep_200 ?_
  refine z_dup rfl d_Life_doStep_201 ?_
  refine z_getI d_Life_doStep_202 f_Life_34 h0 ?_
  refine z_iconst (a := nI 1) d_Life_doStep_205 (by decide) ?_
  refine z_iadd d_Life_doStep_206 ?_
  refine z_putI d_Life_doStep_207 f_Life_34 h0 ?_
  exact z_retv d_Life_doStep_210 hQ
theorem t_Life_doStep {i s o : Nat} (h0 : S[l]? = some (4, 10)) (h9 : P l 9 = some (l + 1)) (h9s : S[l + 1]? = some (100, 60)) (F : fenOk P S f) (N : fenIn I f nt np nl nn) (hl : ¬ (f ≤ l ∧ l ≤ f + 16)) (hi : I l 8 = nI i) (hi6 : i < 60) (h7 : I l 7 = nI s) (hs : s < 65536) (ho : I f 0 = nI o) (ho2 : o ≤ 16) (hnp : 0 < nn → 0 < np) (hv : opv (n3 nt np nn) (sf (f + 12) I) sz i) (h19 : ¬ I (f + 13) i = nI 19) : zEv G y_Life_doStep prog_6_method_4_code 5 5 0 0 [.ref l, .ref f] (I, J, P, S) (fun w => w = (c_do I f l i, J, P, S)) := by
  obtain ⟨F0, ⟨F8, F8s⟩, ⟨F9, F9s⟩, ⟨F10, F10s⟩, ⟨F11, F11s⟩, ⟨F12, F12s⟩, ⟨F13, F13s⟩, ⟨F14, F14s⟩, ⟨F15, F15s⟩, ⟨F16, F16s⟩, ⟨F17, F17s⟩, ⟨F18, F18s⟩, ⟨F19, F19s⟩, ⟨Y3, Y3s⟩, ⟨Y4, Y4s⟩, ⟨Y5, Y5s⟩, ⟨Y6, Y6s⟩⟩ := id F
  obtain ⟨⟨n1, n1b⟩, ⟨n2, n2b⟩, ⟨n3, n3b⟩, ⟨n4, n4b⟩, nof, non⟩ := id N
  unfold c_do
  have go : ∀ X : Nat → Nat → Int32, c_do1 I f l i = X → (fun w => w = (zu (c_do1 I f l i) l 8 (c_do1 I f l i l 8 + nI 1), J, P, S)) (zu X l 8 (X l 8 + nI 1), J, P, S) := by
    intro X h; rw [h]
  refine zEv_of (lv := [some (.ref l), some (.ref f), none, none, none]) (by decide) rfl (Nat.le_of_ble_eq_true rfl) ?_
  rcases hv with ⟨Q, z, hv⟩ | ⟨⟨Q, z, hv⟩, E, hE, hE2⟩ | ⟨hv, -⟩
  · rcases hv with ⟨x, p, hx, hp, o1, -, a1, -, a2, -⟩ | ⟨x, hx, o1, -, a1, -⟩ | ⟨p, k, hp, hk, oo, a1, -, a2, -⟩ | ⟨o1, -⟩ | ⟨o1, -⟩
    · have o1 : I (f + 13) i = nI 10 := o1
      have hx : x < nn := hx
      have hp : p < np := hp
      have a1 : I (f + 14) i = nI x := a1
      have a2 : I (f + 15) i = nI p := a2
      refine z_aload_1 d_Life_doStep_0 ?_
      refine z_getR d_Life_doStep_1 f_Life_50 (by first | assumption | exact zS0_at (by assumption) (by omega) | exact zS0_at rfl (by omega)) (by first | assumption | exact zS0_at (by assumption) (by omega) | exact zS0_at rfl (by omega)) ?_
      first | refine z_astore_2 d_Life_doStep_4 rfl ?_ | (refine z_forget_1 ?_; refine z_astore_2 d_Life_doStep_4 rfl ?_)
      refine z_aload_2 d_Life_doStep_5 ?_
      refine z_getR d_Life_doStep_6 f_Life_84 (by first | assumption | exact zS0_at (by assumption) (by omega) | exact zS0_at rfl (by omega)) (by first | assumption | exact zS0_at (by assumption) (by omega) | exact zS0_at rfl (by omega)) ?_
      refine z_aload_0 d_Life_doStep_9 ?_
      refine z_getIv d_Life_doStep_10 f_Life_34 (by first | assumption | exact zS0_at (by assumption) (by omega) | exact zS0_at rfl (by omega)) (by first | assumption | ((try simp (disch := omega) only [zu_same, zu_ne, zcp_ne, zfl_ne]); first | assumption | rfl)) ?_
      first | refine z_ialdNv d_Life_doStep_13 (by first | assumption | exact zS0_at (by assumption) (by omega) | exact zS0_at rfl (by omega)) (by omega) (by first | decide | omega) (by first | assumption | ((try simp (disch := omega) only [zu_same, zu_ne, zcp_ne, zfl_ne]); first | assumption | rfl)) ?_ | refine z_iald d_Life_doStep_13 (by first | assumption | exact zS0_at (by assumption) (by omega) | exact zS0_at rfl (by omega)) (by first | assumption | exact zS0_at (by assumption) (by omega) | exact zS0_at rfl (by omega)) ?_
      first | refine z_istore_3 d_Life_doStep_14 rfl ?_ | (refine z_forget_2 ?_; refine z_istore_3 d_Life_doStep_14 rfl ?_)
      refine z_aload_2 d_Life_doStep_15 ?_
      refine z_getR d_Life_doStep_16 f_Life_87 (by first | assumption | exact zS0_at (by assumption) (by omega) | exact zS0_at rfl (by omega)) (by first | assumption | exact zS0_at (by assumption) (by omega) | exact zS0_at rfl (by omega)) ?_
      refine z_aload_0 d_Life_doStep_19 ?_
      refine z_getIv d_Life_doStep_20 f_Life_34 (by first | assumption | exact zS0_at (by assumption) (by omega) | exact zS0_at rfl (by omega)) (by first | assumption | ((try simp (disch := omega) only [zu_same, zu_ne, zcp_ne, zfl_ne]); first | assumption | rfl)) ?_
      first | refine z_ialdNv d_Life_doStep_23 (by first | assumption | exact zS0_at (by assumption) (by omega) | exact zS0_at rfl (by omega)) (by omega) (by first | decide | omega) (by first | assumption | ((try simp (disch := omega) only [zu_same, zu_ne, zcp_ne, zfl_ne]); first | assumption | rfl)) ?_ | refine z_iald d_Life_doStep_23 (by first | assumption | exact zS0_at (by assumption) (by omega) | exact zS0_at rfl (by omega)) (by first | assumption | exact zS0_at (by assumption) (by omega) | exact zS0_at rfl (by omega)) ?_
      first | refine z_istore_4 d_Life_doStep_24 rfl ?_ | (refine z_forget_3 ?_; refine z_istore_4 d_Life_doStep_24 rfl ?_)
      refine z_aload_2 d_Life_doStep_26 ?_
      refine z_getR d_Life_doStep_27 f_Life_57 (by first | assumption | exact zS0_at (by assumption) (by omega) | exact zS0_at rfl (by omega)) (by first | assumption | exact zS0_at (by assumption) (by omega) | exact zS0_at rfl (by omega)) ?_
      refine z_aload_0 d_Life_doStep_30 ?_
      refine z_getIv d_Life_doStep_31 f_Life_34 (by first | assumption | exact zS0_at (by assumption) (by omega) | exact zS0_at rfl (by omega)) (by first | assumption | ((try simp (disch := omega) only [zu_same, zu_ne, zcp_ne, zfl_ne]); first | assumption | rfl)) ?_
      first | refine z_ialdNv d_Life_doStep_34 (by first | assumption | exact zS0_at (by assumption) (by omega) | exact zS0_at rfl (by omega)) (by omega) (by first | decide | omega) (by first | assumption | ((try simp (disch := omega) only [zu_same, zu_ne, zcp_ne, zfl_ne]); first | assumption | rfl)) ?_ | refine z_iald d_Life_doStep_34 (by first | assumption | exact zS0_at (by assumption) (by omega) | exact zS0_at rfl (by omega)) (by first | assumption | exact zS0_at (by assumption) (by omega) | exact zS0_at rfl (by omega)) ?_
      refine z_tableIn (off := 57) (tgt := 92) d_Life_doStep_35 (by decide) (by decide) (by decide) (by decide) ?_
      refine z_aload_0 d_Life_doStep_92 ?_
      refine z_aload_1 d_Life_doStep_93 ?_
      refine z_iload_3 d_Life_doStep_94 ?_
      refine z_iload_4 d_Life_doStep_95 ?_
      refine z_Vv3 d_Life_doStep_97 k_Life_90 (by first | assumption | exact zS0_at (by assumption) (by omega) | exact zS0_at rfl (by omega)) (t_Life_doPass h0 F N hx hp) ⟨Nat.le_of_ble_eq_true rfl, Nat.le_of_ble_eq_true rfl, Nat.le_of_ble_eq_true rfl, Nat.le_of_ble_eq_true rfl⟩ (Nat.le_of_ble_eq_true rfl) ?_
      intro w hz
      obtain rfl := hz
      refine z_goto (tgt := 200) d_Life_doStep_100 (by decide) ?_
      exact do_fin h0 rfl (go _ (by unfold c_do1; rw [if_pos o1, a1, a2, nI_clamp (by omega), nI_clamp (by omega)]))
    · have o1 : I (f + 13) i = nI 11 := o1
      have hx : x < nn := hx
      have a1 : I (f + 14) i = nI x := a1
      refine z_aload_1 d_Life_doStep_0 ?_
      refine z_getR d_Life_doStep_1 f_Life_50 (by first | assumption | exact zS0_at (by assumption) (by omega) | exact zS0_at rfl (by omega)) (by first | assumption | exact zS0_at (by assumption) (by omega) | exact zS0_at rfl (by omega)) ?_
      first | refine z_astore_2 d_Life_doStep_4 rfl ?_ | (refine z_forget_1 ?_; refine z_astore_2 d_Life_doStep_4 rfl ?_)
      refine z_aload_2 d_Life_doStep_5 ?_
      refine z_getR d_Life_doStep_6 f_Life_84 (by first | assumption | exact zS0_at (by assumption) (by omega) | exact zS0_at rfl (by omega)) (by first | assumption | exact zS0_at (by assumption) (by omega) | exact zS0_at rfl (by omega)) ?_
      refine z_aload_0 d_Life_doStep_9 ?_
      refine z_getIv d_Life_doStep_10 f_Life_34 (by first | assumption | exact zS0_at (by assumption) (by omega) | exact zS0_at rfl (by omega)) (by first | assumption | ((try simp (disch := omega) only [zu_same, zu_ne, zcp_ne, zfl_ne]); first | assumption | rfl)) ?_
      first | refine z_ialdNv d_Life_doStep_13 (by first | assumption | exact zS0_at (by assumption) (by omega) | exact zS0_at rfl (by omega)) (by omega) (by first | decide | omega) (by first | assumption | ((try simp (disch := omega) only [zu_same, zu_ne, zcp_ne, zfl_ne]); first | assumption | rfl)) ?_ | refine z_iald d_Life_doStep_13 (by first | assumption | exact zS0_at (by assumption) (by omega) | exact zS0_at rfl (by omega)) (by first | assumption | exact zS0_at (by assumption) (by omega) | exact zS0_at rfl (by omega)) ?_
      first | refine z_istore_3 d_Life_doStep_14 rfl ?_ | (refine z_forget_2 ?_; refine z_istore_3 d_Life_doStep_14 rfl ?_)
      refine z_aload_2 d_Life_doStep_15 ?_
      refine z_getR d_Life_doStep_16 f_Life_87 (by first | assumption | exact zS0_at (by assumption) (by omega) | exact zS0_at rfl (by omega)) (by first | assumption | exact zS0_at (by assumption) (by omega) | exact zS0_at rfl (by omega)) ?_
      refine z_aload_0 d_Life_doStep_19 ?_
      refine z_getIv d_Life_doStep_20 f_Life_34 (by first | assumption | exact zS0_at (by assumption) (by omega) | exact zS0_at rfl (by omega)) (by first | assumption | ((try simp (disch := omega) only [zu_same, zu_ne, zcp_ne, zfl_ne]); first | assumption | rfl)) ?_
      first | refine z_ialdNv d_Life_doStep_23 (by first | assumption | exact zS0_at (by assumption) (by omega) | exact zS0_at rfl (by omega)) (by omega) (by first | decide | omega) (by first | assumption | ((try simp (disch := omega) only [zu_same, zu_ne, zcp_ne, zfl_ne]); first | assumption | rfl)) ?_ | refine z_iald d_Life_doStep_23 (by first | assumption | exact zS0_at (by assumption) (by omega) | exact zS0_at rfl (by omega)) (by first | assumption | exact zS0_at (by assumption) (by omega) | exact zS0_at rfl (by omega)) ?_
      first | refine z_istore_4 d_Life_doStep_24 rfl ?_ | (refine z_forget_3 ?_; refine z_istore_4 d_Life_doStep_24 rfl ?_)
      refine z_aload_2 d_Life_doStep_26 ?_
      refine z_getR d_Life_doStep_27 f_Life_57 (by first | assumption | exact zS0_at (by assumption) (by omega) | exact zS0_at rfl (by omega)) (by first | assumption | exact zS0_at (by assumption) (by omega) | exact zS0_at rfl (by omega)) ?_
      refine z_aload_0 d_Life_doStep_30 ?_
      refine z_getIv d_Life_doStep_31 f_Life_34 (by first | assumption | exact zS0_at (by assumption) (by omega) | exact zS0_at rfl (by omega)) (by first | assumption | ((try simp (disch := omega) only [zu_same, zu_ne, zcp_ne, zfl_ne]); first | assumption | rfl)) ?_
      first | refine z_ialdNv d_Life_doStep_34 (by first | assumption | exact zS0_at (by assumption) (by omega) | exact zS0_at rfl (by omega)) (by omega) (by first | decide | omega) (by first | assumption | ((try simp (disch := omega) only [zu_same, zu_ne, zcp_ne, zfl_ne]); first | assumption | rfl)) ?_ | refine z_iald d_Life_doStep_34 (by first | assumption | exact zS0_at (by assumption) (by omega) | exact zS0_at rfl (by omega)) (by first | assumption | exact zS0_at (by assumption) (by omega) | exact zS0_at rfl (by omega)) ?_
      refine z_tableIn (off := 68) (tgt := 103) d_Life_doStep_35 (by decide) (by decide) (by decide) (by decide) ?_
      refine z_aload_0 d_Life_doStep_103 ?_
      refine z_aload_1 d_Life_doStep_104 ?_
      refine z_iload_3 d_Life_doStep_105 ?_
      refine z_Vv2 d_Life_doStep_106 k_Life_94 (by first | assumption | exact zS0_at (by assumption) (by omega) | exact zS0_at rfl (by omega)) (t_Life_doBite h0 F N hx h7 hs ho ho2 hl) ⟨Nat.le_of_ble_eq_true rfl, Nat.le_of_ble_eq_true rfl, Nat.le_of_ble_eq_true rfl, Nat.le_of_ble_eq_true rfl⟩ (Nat.le_of_ble_eq_true rfl) ?_
      intro w hz
      obtain rfl := hz
      refine z_goto (tgt := 200) d_Life_doStep_109 (by decide) ?_
      exact do_fin h0 rfl (go _ (by unfold c_do1; rw [o1, if_neg (by decide), if_pos rfl, a1, nI_clamp (by omega)]))
    · have a1 : I (f + 14) i = nI p := a1
      have a2 : I (f + 15) i = nI k := a2
      have hp : p < np := hp
      have hk : k < nt := hk
      rcases oo with ⟨o1, -⟩ | ⟨o1, -⟩
      · have o1 : I (f + 13) i = nI 12 := o1
        refine z_aload_1 d_Life_doStep_0 ?_
        refine z_getR d_Life_doStep_1 f_Life_50 (by first | assumption | exact zS0_at (by assumption) (by omega) | exact zS0_at rfl (by omega)) (by first | assumption | exact zS0_at (by assumption) (by omega) | exact zS0_at rfl (by omega)) ?_
        first | refine z_astore_2 d_Life_doStep_4 rfl ?_ | (refine z_forget_1 ?_; refine z_astore_2 d_Life_doStep_4 rfl ?_)
        refine z_aload_2 d_Life_doStep_5 ?_
        refine z_getR d_Life_doStep_6 f_Life_84 (by first | assumption | exact zS0_at (by assumption) (by omega) | exact zS0_at rfl (by omega)) (by first | assumption | exact zS0_at (by assumption) (by omega) | exact zS0_at rfl (by omega)) ?_
        refine z_aload_0 d_Life_doStep_9 ?_
        refine z_getIv d_Life_doStep_10 f_Life_34 (by first | assumption | exact zS0_at (by assumption) (by omega) | exact zS0_at rfl (by omega)) (by first | assumption | ((try simp (disch := omega) only [zu_same, zu_ne, zcp_ne, zfl_ne]); first | assumption | rfl)) ?_
        first | refine z_ialdNv d_Life_doStep_13 (by first | assumption | exact zS0_at (by assumption) (by omega) | exact zS0_at rfl (by omega)) (by omega) (by first | decide | omega) (by first | assumption | ((try simp (disch := omega) only [zu_same, zu_ne, zcp_ne, zfl_ne]); first | assumption | rfl)) ?_ | refine z_iald d_Life_doStep_13 (by first | assumption | exact zS0_at (by assumption) (by omega) | exact zS0_at rfl (by omega)) (by first | assumption | exact zS0_at (by assumption) (by omega) | exact zS0_at rfl (by omega)) ?_
        first | refine z_istore_3 d_Life_doStep_14 rfl ?_ | (refine z_forget_2 ?_; refine z_istore_3 d_Life_doStep_14 rfl ?_)
        refine z_aload_2 d_Life_doStep_15 ?_
        refine z_getR d_Life_doStep_16 f_Life_87 (by first | assumption | exact zS0_at (by assumption) (by omega) | exact zS0_at rfl (by omega)) (by first | assumption | exact zS0_at (by assumption) (by omega) | exact zS0_at rfl (by omega)) ?_
        refine z_aload_0 d_Life_doStep_19 ?_
        refine z_getIv d_Life_doStep_20 f_Life_34 (by first | assumption | exact zS0_at (by assumption) (by omega) | exact zS0_at rfl (by omega)) (by first | assumption | ((try simp (disch := omega) only [zu_same, zu_ne, zcp_ne, zfl_ne]); first | assumption | rfl)) ?_
        first | refine z_ialdNv d_Life_doStep_23 (by first | assumption | exact zS0_at (by assumption) (by omega) | exact zS0_at rfl (by omega)) (by omega) (by first | decide | omega) (by first | assumption | ((try simp (disch := omega) only [zu_same, zu_ne, zcp_ne, zfl_ne]); first | assumption | rfl)) ?_ | refine z_iald d_Life_doStep_23 (by first | assumption | exact zS0_at (by assumption) (by omega) | exact zS0_at rfl (by omega)) (by first | assumption | exact zS0_at (by assumption) (by omega) | exact zS0_at rfl (by omega)) ?_
        first | refine z_istore_4 d_Life_doStep_24 rfl ?_ | (refine z_forget_3 ?_; refine z_istore_4 d_Life_doStep_24 rfl ?_)
        refine z_aload_2 d_Life_doStep_26 ?_
        refine z_getR d_Life_doStep_27 f_Life_57 (by first | assumption | exact zS0_at (by assumption) (by omega) | exact zS0_at rfl (by omega)) (by first | assumption | exact zS0_at (by assumption) (by omega) | exact zS0_at rfl (by omega)) ?_
        refine z_aload_0 d_Life_doStep_30 ?_
        refine z_getIv d_Life_doStep_31 f_Life_34 (by first | assumption | exact zS0_at (by assumption) (by omega) | exact zS0_at rfl (by omega)) (by first | assumption | ((try simp (disch := omega) only [zu_same, zu_ne, zcp_ne, zfl_ne]); first | assumption | rfl)) ?_
        first | refine z_ialdNv d_Life_doStep_34 (by first | assumption | exact zS0_at (by assumption) (by omega) | exact zS0_at rfl (by omega)) (by omega) (by first | decide | omega) (by first | assumption | ((try simp (disch := omega) only [zu_same, zu_ne, zcp_ne, zfl_ne]); first | assumption | rfl)) ?_ | refine z_iald d_Life_doStep_34 (by first | assumption | exact zS0_at (by assumption) (by omega) | exact zS0_at rfl (by omega)) (by first | assumption | exact zS0_at (by assumption) (by omega) | exact zS0_at rfl (by omega)) ?_
        refine z_tableIn (off := 77) (tgt := 112) d_Life_doStep_35 (by decide) (by decide) (by decide) (by decide) ?_
        refine z_aload_0 d_Life_doStep_112 ?_
        refine z_aload_1 d_Life_doStep_113 ?_
        refine z_iload_3 d_Life_doStep_114 ?_
        refine z_iload_4 d_Life_doStep_115 ?_
        refine z_iconst (a := nI 1) d_Life_doStep_117 (by decide) ?_
        refine z_Vv4 d_Life_doStep_118 k_Life_98 (by first | assumption | exact zS0_at (by assumption) (by omega) | exact zS0_at rfl (by omega)) (t_Life_doTurn h0 F (by omega) (Or.inl ⟨rfl, rfl⟩)) ⟨Nat.le_of_ble_eq_true rfl, Nat.le_of_ble_eq_true rfl, Nat.le_of_ble_eq_true rfl, Nat.le_of_ble_eq_true rfl⟩ (Nat.le_of_ble_eq_true rfl) ?_
        intro w hz
        obtain rfl := hz
        refine z_goto (tgt := 200) d_Life_doStep_121 (by decide) ?_
        exact do_fin h0 rfl (go _ (by unfold c_do1; rw [o1, if_neg (by decide), if_neg (by decide), if_pos rfl, a1, a2, nI_clamp (by omega), nI_clamp (by omega)]))
      · have o1 : I (f + 13) i = nI 13 := o1
        refine z_aload_1 d_Life_doStep_0 ?_
        refine z_getR d_Life_doStep_1 f_Life_50 (by first | assumption | exact zS0_at (by assumption) (by omega) | exact zS0_at rfl (by omega)) (by first | assumption | exact zS0_at (by assumption) (by omega) | exact zS0_at rfl (by omega)) ?_
        first | refine z_astore_2 d_Life_doStep_4 rfl ?_ | (refine z_forget_1 ?_; refine z_astore_2 d_Life_doStep_4 rfl ?_)
        refine z_aload_2 d_Life_doStep_5 ?_
        refine z_getR d_Life_doStep_6 f_Life_84 (by first | assumption | exact zS0_at (by assumption) (by omega) | exact zS0_at rfl (by omega)) (by first | assumption | exact zS0_at (by assumption) (by omega) | exact zS0_at rfl (by omega)) ?_
        refine z_aload_0 d_Life_doStep_9 ?_
        refine z_getIv d_Life_doStep_10 f_Life_34 (by first | assumption | exact zS0_at (by assumption) (by omega) | exact zS0_at rfl (by omega)) (by first | assumption | ((try simp (disch := omega) only [zu_same, zu_ne, zcp_ne, zfl_ne]); first | assumption | rfl)) ?_
        first | refine z_ialdNv d_Life_doStep_13 (by first | assumption | exact zS0_at (by assumption) (by omega) | exact zS0_at rfl (by omega)) (by omega) (by first | decide | omega) (by first | assumption | ((try simp (disch := omega) only [zu_same, zu_ne, zcp_ne, zfl_ne]); first | assumption | rfl)) ?_ | refine z_iald d_Life_doStep_13 (by first | assumption | exact zS0_at (by assumption) (by omega) | exact zS0_at rfl (by omega)) (by first | assumption | exact zS0_at (by assumption) (by omega) | exact zS0_at rfl (by omega)) ?_
        first | refine z_istore_3 d_Life_doStep_14 rfl ?_ | (refine z_forget_2 ?_; refine z_istore_3 d_Life_doStep_14 rfl ?_)
        refine z_aload_2 d_Life_doStep_15 ?_
        refine z_getR d_Life_doStep_16 f_Life_87 (by first | assumption | exact zS0_at (by assumption) (by omega) | exact zS0_at rfl (by omega)) (by first | assumption | exact zS0_at (by assumption) (by omega) | exact zS0_at rfl (by omega)) ?_
        refine z_aload_0 d_Life_doStep_19 ?_
        refine z_getIv d_Life_doStep_20 f_Life_34 (by first | assumption | exact zS0_at (by assumption) (by omega) | exact zS0_at rfl (by omega)) (by first | assumption | ((try simp (disch := omega) only [zu_same, zu_ne, zcp_ne, zfl_ne]); first | assumption | rfl)) ?_
        first | refine z_ialdNv d_Life_doStep_23 (by first | assumption | exact zS0_at (by assumption) (by omega) | exact zS0_at rfl (by omega)) (by omega) (by first | decide | omega) (by first | assumption | ((try simp (disch := omega) only [zu_same, zu_ne, zcp_ne, zfl_ne]); first | assumption | rfl)) ?_ | refine z_iald d_Life_doStep_23 (by first | assumption | exact zS0_at (by assumption) (by omega) | exact zS0_at rfl (by omega)) (by first | assumption | exact zS0_at (by assumption) (by omega) | exact zS0_at rfl (by omega)) ?_
        first | refine z_istore_4 d_Life_doStep_24 rfl ?_ | (refine z_forget_3 ?_; refine z_istore_4 d_Life_doStep_24 rfl ?_)
        refine z_aload_2 d_Life_doStep_26 ?_
        refine z_getR d_Life_doStep_27 f_Life_57 (by first | assumption | exact zS0_at (by assumption) (by omega) | exact zS0_at rfl (by omega)) (by first | assumption | exact zS0_at (by assumption) (by omega) | exact zS0_at rfl (by omega)) ?_
        refine z_aload_0 d_Life_doStep_30 ?_
        refine z_getIv d_Life_doStep_31 f_Life_34 (by first | assumption | exact zS0_at (by assumption) (by omega) | exact zS0_at rfl (by omega)) (by first | assumption | ((try simp (disch := omega) only [zu_same, zu_ne, zcp_ne, zfl_ne]); first | assumption | rfl)) ?_
        first | refine z_ialdNv d_Life_doStep_34 (by first | assumption | exact zS0_at (by assumption) (by omega) | exact zS0_at rfl (by omega)) (by omega) (by first | decide | omega) (by first | assumption | ((try simp (disch := omega) only [zu_same, zu_ne, zcp_ne, zfl_ne]); first | assumption | rfl)) ?_ | refine z_iald d_Life_doStep_34 (by first | assumption | exact zS0_at (by assumption) (by omega) | exact zS0_at rfl (by omega)) (by first | assumption | exact zS0_at (by assumption) (by omega) | exact zS0_at rfl (by omega)) ?_
        refine z_tableIn (off := 89) (tgt := 124) d_Life_doStep_35 (by decide) (by decide) (by decide) (by decide) ?_
        refine z_aload_0 d_Life_doStep_124 ?_
        refine z_aload_1 d_Life_doStep_125 ?_
        refine z_iload_3 d_Life_doStep_126 ?_
        refine z_iload_4 d_Life_doStep_127 ?_
        refine z_iconst (a := nI 0) d_Life_doStep_129 (by decide) ?_
        refine z_Vv4 d_Life_doStep_130 k_Life_98 (by first | assumption | exact zS0_at (by assumption) (by omega) | exact zS0_at rfl (by omega)) (t_Life_doTurn h0 F (by omega) (Or.inr ⟨rfl, rfl⟩)) ⟨Nat.le_of_ble_eq_true rfl, Nat.le_of_ble_eq_true rfl, Nat.le_of_ble_eq_true rfl, Nat.le_of_ble_eq_true rfl⟩ (Nat.le_of_ble_eq_true rfl) ?_
        intro w hz
        obtain rfl := hz
        refine z_goto (tgt := 200) d_Life_doStep_133 (by decide) ?_
        exact do_fin h0 rfl (go _ (by unfold c_do1; rw [o1, if_neg (by decide), if_neg (by decide), if_neg (by decide), if_pos rfl, a1, a2, nI_clamp (by omega), nI_clamp (by omega)]))
    · have o1 : I (f + 13) i = nI 14 := o1
      refine z_aload_1 d_Life_doStep_0 ?_
      refine z_getR d_Life_doStep_1 f_Life_50 (by first | assumption | exact zS0_at (by assumption) (by omega) | exact zS0_at rfl (by omega)) (by first | assumption | exact zS0_at (by assumption) (by omega) | exact zS0_at rfl (by omega)) ?_
      first | refine z_astore_2 d_Life_doStep_4 rfl ?_ | (refine z_forget_1 ?_; refine z_astore_2 d_Life_doStep_4 rfl ?_)
      refine z_aload_2 d_Life_doStep_5 ?_
      refine z_getR d_Life_doStep_6 f_Life_84 (by first | assumption | exact zS0_at (by assumption) (by omega) | exact zS0_at rfl (by omega)) (by first | assumption | exact zS0_at (by assumption) (by omega) | exact zS0_at rfl (by omega)) ?_
      refine z_aload_0 d_Life_doStep_9 ?_
      refine z_getIv d_Life_doStep_10 f_Life_34 (by first | assumption | exact zS0_at (by assumption) (by omega) | exact zS0_at rfl (by omega)) (by first | assumption | ((try simp (disch := omega) only [zu_same, zu_ne, zcp_ne, zfl_ne]); first | assumption | rfl)) ?_
      first | refine z_ialdNv d_Life_doStep_13 (by first | assumption | exact zS0_at (by assumption) (by omega) | exact zS0_at rfl (by omega)) (by omega) (by first | decide | omega) (by first | assumption | ((try simp (disch := omega) only [zu_same, zu_ne, zcp_ne, zfl_ne]); first | assumption | rfl)) ?_ | refine z_iald d_Life_doStep_13 (by first | assumption | exact zS0_at (by assumption) (by omega) | exact zS0_at rfl (by omega)) (by first | assumption | exact zS0_at (by assumption) (by omega) | exact zS0_at rfl (by omega)) ?_
      first | refine z_istore_3 d_Life_doStep_14 rfl ?_ | (refine z_forget_2 ?_; refine z_istore_3 d_Life_doStep_14 rfl ?_)
      refine z_aload_2 d_Life_doStep_15 ?_
      refine z_getR d_Life_doStep_16 f_Life_87 (by first | assumption | exact zS0_at (by assumption) (by omega) | exact zS0_at rfl (by omega)) (by first | assumption | exact zS0_at (by assumption) (by omega) | exact zS0_at rfl (by omega)) ?_
      refine z_aload_0 d_Life_doStep_19 ?_
      refine z_getIv d_Life_doStep_20 f_Life_34 (by first | assumption | exact zS0_at (by assumption) (by omega) | exact zS0_at rfl (by omega)) (by first | assumption | ((try simp (disch := omega) only [zu_same, zu_ne, zcp_ne, zfl_ne]); first | assumption | rfl)) ?_
      first | refine z_ialdNv d_Life_doStep_23 (by first | assumption | exact zS0_at (by assumption) (by omega) | exact zS0_at rfl (by omega)) (by omega) (by first | decide | omega) (by first | assumption | ((try simp (disch := omega) only [zu_same, zu_ne, zcp_ne, zfl_ne]); first | assumption | rfl)) ?_ | refine z_iald d_Life_doStep_23 (by first | assumption | exact zS0_at (by assumption) (by omega) | exact zS0_at rfl (by omega)) (by first | assumption | exact zS0_at (by assumption) (by omega) | exact zS0_at rfl (by omega)) ?_
      first | refine z_istore_4 d_Life_doStep_24 rfl ?_ | (refine z_forget_3 ?_; refine z_istore_4 d_Life_doStep_24 rfl ?_)
      refine z_aload_2 d_Life_doStep_26 ?_
      refine z_getR d_Life_doStep_27 f_Life_57 (by first | assumption | exact zS0_at (by assumption) (by omega) | exact zS0_at rfl (by omega)) (by first | assumption | exact zS0_at (by assumption) (by omega) | exact zS0_at rfl (by omega)) ?_
      refine z_aload_0 d_Life_doStep_30 ?_
      refine z_getIv d_Life_doStep_31 f_Life_34 (by first | assumption | exact zS0_at (by assumption) (by omega) | exact zS0_at rfl (by omega)) (by first | assumption | ((try simp (disch := omega) only [zu_same, zu_ne, zcp_ne, zfl_ne]); first | assumption | rfl)) ?_
      first | refine z_ialdNv d_Life_doStep_34 (by first | assumption | exact zS0_at (by assumption) (by omega) | exact zS0_at rfl (by omega)) (by omega) (by first | decide | omega) (by first | assumption | ((try simp (disch := omega) only [zu_same, zu_ne, zcp_ne, zfl_ne]); first | assumption | rfl)) ?_ | refine z_iald d_Life_doStep_34 (by first | assumption | exact zS0_at (by assumption) (by omega) | exact zS0_at rfl (by omega)) (by first | assumption | exact zS0_at (by assumption) (by omega) | exact zS0_at rfl (by omega)) ?_
      refine z_tableIn (off := 101) (tgt := 136) d_Life_doStep_35 (by decide) (by decide) (by decide) (by decide) ?_
      refine z_aload_0 d_Life_doStep_136 ?_
      refine z_aload_1 d_Life_doStep_137 ?_
      refine z_Vv1 d_Life_doStep_138 k_Life_102 (by first | assumption | exact zS0_at (by assumption) (by omega) | exact zS0_at rfl (by omega)) (t_Life_doAny h0 F N h7 hs hnp hl) ⟨Nat.le_of_ble_eq_true rfl, Nat.le_of_ble_eq_true rfl, Nat.le_of_ble_eq_true rfl, Nat.le_of_ble_eq_true rfl⟩ (Nat.le_of_ble_eq_true rfl) ?_
      intro w hz
      obtain rfl := hz
      refine z_goto (tgt := 200) d_Life_doStep_141 (by decide) ?_
      exact do_fin h0 rfl (go _ (by unfold c_do1; rw [o1, if_neg (by decide), if_neg (by decide), if_neg (by decide), if_neg (by decide), if_pos rfl]))
    · have o1 : I (f + 13) i = nI 20 := o1
      refine z_aload_1 d_Life_doStep_0 ?_
      refine z_getR d_Life_doStep_1 f_Life_50 (by first | assumption | exact zS0_at (by assumption) (by omega) | exact zS0_at rfl (by omega)) (by first | assumption | exact zS0_at (by assumption) (by omega) | exact zS0_at rfl (by omega)) ?_
      first | refine z_astore_2 d_Life_doStep_4 rfl ?_ | (refine z_forget_1 ?_; refine z_astore_2 d_Life_doStep_4 rfl ?_)
      refine z_aload_2 d_Life_doStep_5 ?_
      refine z_getR d_Life_doStep_6 f_Life_84 (by first | assumption | exact zS0_at (by assumption) (by omega) | exact zS0_at rfl (by omega)) (by first | assumption | exact zS0_at (by assumption) (by omega) | exact zS0_at rfl (by omega)) ?_
      refine z_aload_0 d_Life_doStep_9 ?_
      refine z_getIv d_Life_doStep_10 f_Life_34 (by first | assumption | exact zS0_at (by assumption) (by omega) | exact zS0_at rfl (by omega)) (by first | assumption | ((try simp (disch := omega) only [zu_same, zu_ne, zcp_ne, zfl_ne]); first | assumption | rfl)) ?_
      first | refine z_ialdNv d_Life_doStep_13 (by first | assumption | exact zS0_at (by assumption) (by omega) | exact zS0_at rfl (by omega)) (by omega) (by first | decide | omega) (by first | assumption | ((try simp (disch := omega) only [zu_same, zu_ne, zcp_ne, zfl_ne]); first | assumption | rfl)) ?_ | refine z_iald d_Life_doStep_13 (by first | assumption | exact zS0_at (by assumption) (by omega) | exact zS0_at rfl (by omega)) (by first | assumption | exact zS0_at (by assumption) (by omega) | exact zS0_at rfl (by omega)) ?_
      first | refine z_istore_3 d_Life_doStep_14 rfl ?_ | (refine z_forget_2 ?_; refine z_istore_3 d_Life_doStep_14 rfl ?_)
      refine z_aload_2 d_Life_doStep_15 ?_
      refine z_getR d_Life_doStep_16 f_Life_87 (by first | assumption | exact zS0_at (by assumption) (by omega) | exact zS0_at rfl (by omega)) (by first | assumption | exact zS0_at (by assumption) (by omega) | exact zS0_at rfl (by omega)) ?_
      refine z_aload_0 d_Life_doStep_19 ?_
      refine z_getIv d_Life_doStep_20 f_Life_34 (by first | assumption | exact zS0_at (by assumption) (by omega) | exact zS0_at rfl (by omega)) (by first | assumption | ((try simp (disch := omega) only [zu_same, zu_ne, zcp_ne, zfl_ne]); first | assumption | rfl)) ?_
      first | refine z_ialdNv d_Life_doStep_23 (by first | assumption | exact zS0_at (by assumption) (by omega) | exact zS0_at rfl (by omega)) (by omega) (by first | decide | omega) (by first | assumption | ((try simp (disch := omega) only [zu_same, zu_ne, zcp_ne, zfl_ne]); first | assumption | rfl)) ?_ | refine z_iald d_Life_doStep_23 (by first | assumption | exact zS0_at (by assumption) (by omega) | exact zS0_at rfl (by omega)) (by first | assumption | exact zS0_at (by assumption) (by omega) | exact zS0_at rfl (by omega)) ?_
      first | refine z_istore_4 d_Life_doStep_24 rfl ?_ | (refine z_forget_3 ?_; refine z_istore_4 d_Life_doStep_24 rfl ?_)
      refine z_aload_2 d_Life_doStep_26 ?_
      refine z_getR d_Life_doStep_27 f_Life_57 (by first | assumption | exact zS0_at (by assumption) (by omega) | exact zS0_at rfl (by omega)) (by first | assumption | exact zS0_at (by assumption) (by omega) | exact zS0_at rfl (by omega)) ?_
      refine z_aload_0 d_Life_doStep_30 ?_
      refine z_getIv d_Life_doStep_31 f_Life_34 (by first | assumption | exact zS0_at (by assumption) (by omega) | exact zS0_at rfl (by omega)) (by first | assumption | ((try simp (disch := omega) only [zu_same, zu_ne, zcp_ne, zfl_ne]); first | assumption | rfl)) ?_
      first | refine z_ialdNv d_Life_doStep_34 (by first | assumption | exact zS0_at (by assumption) (by omega) | exact zS0_at rfl (by omega)) (by omega) (by first | decide | omega) (by first | assumption | ((try simp (disch := omega) only [zu_same, zu_ne, zcp_ne, zfl_ne]); first | assumption | rfl)) ?_ | refine z_iald d_Life_doStep_34 (by first | assumption | exact zS0_at (by assumption) (by omega) | exact zS0_at rfl (by omega)) (by first | assumption | exact zS0_at (by assumption) (by omega) | exact zS0_at rfl (by omega)) ?_
      refine z_tableIn (off := 109) (tgt := 144) d_Life_doStep_35 (by decide) (by decide) (by decide) (by decide) ?_
      refine z_aload_0 d_Life_doStep_144 ?_
      refine z_aload_2 d_Life_doStep_145 ?_
      refine z_getIv d_Life_doStep_146 f_Life_54 (by first | assumption | exact zS0_at (by assumption) (by omega) | exact zS0_at rfl (by omega)) (by first | assumption | ((try simp (disch := omega) only [zu_same, zu_ne, zcp_ne, zfl_ne]); first | assumption | rfl)) ?_
      refine z_putI d_Life_doStep_149 f_Life_34 (by first | assumption | exact zS0_at (by assumption) (by omega) | exact zS0_at rfl (by omega)) ?_
      refine z_goto (tgt := 200) d_Life_doStep_152 (by decide) ?_
      exact do_fin h0 rfl (go _ (by unfold c_do1; rw [o1, if_neg (by decide), if_neg (by decide), if_neg (by decide), if_neg (by decide), if_neg (by decide), if_pos rfl]))
  · have hE2 : I (f + 16) i = nI E := hE2
    rcases hv with ⟨m, -, -, o1, -, a1, -⟩ | ⟨-, hv⟩
    · have o1 : I (f + 13) i = nI 18 := o1
      have a1 : I (f + 14) i = nI m := a1
      refine z_aload_1 d_Life_doStep_0 ?_
      refine z_getR d_Life_doStep_1 f_Life_50 (by first | assumption | exact zS0_at (by assumption) (by omega) | exact zS0_at rfl (by omega)) (by first | assumption | exact zS0_at (by assumption) (by omega) | exact zS0_at rfl (by omega)) ?_
      first | refine z_astore_2 d_Life_doStep_4 rfl ?_ | (refine z_forget_1 ?_; refine z_astore_2 d_Life_doStep_4 rfl ?_)
      refine z_aload_2 d_Life_doStep_5 ?_
      refine z_getR d_Life_doStep_6 f_Life_84 (by first | assumption | exact zS0_at (by assumption) (by omega) | exact zS0_at rfl (by omega)) (by first | assumption | exact zS0_at (by assumption) (by omega) | exact zS0_at rfl (by omega)) ?_
      refine z_aload_0 d_Life_doStep_9 ?_
      refine z_getIv d_Life_doStep_10 f_Life_34 (by first | assumption | exact zS0_at (by assumption) (by omega) | exact zS0_at rfl (by omega)) (by first | assumption | ((try simp (disch := omega) only [zu_same, zu_ne, zcp_ne, zfl_ne]); first | assumption | rfl)) ?_
      first | refine z_ialdNv d_Life_doStep_13 (by first | assumption | exact zS0_at (by assumption) (by omega) | exact zS0_at rfl (by omega)) (by omega) (by first | decide | omega) (by first | assumption | ((try simp (disch := omega) only [zu_same, zu_ne, zcp_ne, zfl_ne]); first | assumption | rfl)) ?_ | refine z_iald d_Life_doStep_13 (by first | assumption | exact zS0_at (by assumption) (by omega) | exact zS0_at rfl (by omega)) (by first | assumption | exact zS0_at (by assumption) (by omega) | exact zS0_at rfl (by omega)) ?_
      first | refine z_istore_3 d_Life_doStep_14 rfl ?_ | (refine z_forget_2 ?_; refine z_istore_3 d_Life_doStep_14 rfl ?_)
      refine z_aload_2 d_Life_doStep_15 ?_
      refine z_getR d_Life_doStep_16 f_Life_87 (by first | assumption | exact zS0_at (by assumption) (by omega) | exact zS0_at rfl (by omega)) (by first | assumption | exact zS0_at (by assumption) (by omega) | exact zS0_at rfl (by omega)) ?_
      refine z_aload_0 d_Life_doStep_19 ?_
      refine z_getIv d_Life_doStep_20 f_Life_34 (by first | assumption | exact zS0_at (by assumption) (by omega) | exact zS0_at rfl (by omega)) (by first | assumption | ((try simp (disch := omega) only [zu_same, zu_ne, zcp_ne, zfl_ne]); first | assumption | rfl)) ?_
      first | refine z_ialdNv d_Life_doStep_23 (by first | assumption | exact zS0_at (by assumption) (by omega) | exact zS0_at rfl (by omega)) (by omega) (by first | decide | omega) (by first | assumption | ((try simp (disch := omega) only [zu_same, zu_ne, zcp_ne, zfl_ne]); first | assumption | rfl)) ?_ | refine z_iald d_Life_doStep_23 (by first | assumption | exact zS0_at (by assumption) (by omega) | exact zS0_at rfl (by omega)) (by first | assumption | exact zS0_at (by assumption) (by omega) | exact zS0_at rfl (by omega)) ?_
      first | refine z_istore_4 d_Life_doStep_24 rfl ?_ | (refine z_forget_3 ?_; refine z_istore_4 d_Life_doStep_24 rfl ?_)
      refine z_aload_2 d_Life_doStep_26 ?_
      refine z_getR d_Life_doStep_27 f_Life_57 (by first | assumption | exact zS0_at (by assumption) (by omega) | exact zS0_at rfl (by omega)) (by first | assumption | exact zS0_at (by assumption) (by omega) | exact zS0_at rfl (by omega)) ?_
      refine z_aload_0 d_Life_doStep_30 ?_
      refine z_getIv d_Life_doStep_31 f_Life_34 (by first | assumption | exact zS0_at (by assumption) (by omega) | exact zS0_at rfl (by omega)) (by first | assumption | ((try simp (disch := omega) only [zu_same, zu_ne, zcp_ne, zfl_ne]); first | assumption | rfl)) ?_
      first | refine z_ialdNv d_Life_doStep_34 (by first | assumption | exact zS0_at (by assumption) (by omega) | exact zS0_at rfl (by omega)) (by omega) (by first | decide | omega) (by first | assumption | ((try simp (disch := omega) only [zu_same, zu_ne, zcp_ne, zfl_ne]); first | assumption | rfl)) ?_ | refine z_iald d_Life_doStep_34 (by first | assumption | exact zS0_at (by assumption) (by omega) | exact zS0_at rfl (by omega)) (by first | assumption | exact zS0_at (by assumption) (by omega) | exact zS0_at rfl (by omega)) ?_
      refine z_tableIn (off := 120) (tgt := 155) d_Life_doStep_35 (by decide) (by decide) (by decide) (by decide) ?_
      refine z_aload_0 d_Life_doStep_155 ?_
      refine z_getR d_Life_doStep_156 f_Life_11 (by first | assumption | exact zS0_at (by assumption) (by omega) | exact zS0_at rfl (by omega)) (by first | assumption | exact zS0_at (by assumption) (by omega) | exact zS0_at rfl (by omega)) ?_
      refine z_aload_0 d_Life_doStep_159 ?_
      refine z_getIv d_Life_doStep_160 f_Life_34 (by first | assumption | exact zS0_at (by assumption) (by omega) | exact zS0_at rfl (by omega)) (by first | assumption | ((try simp (disch := omega) only [zu_same, zu_ne, zcp_ne, zfl_ne]); first | assumption | rfl)) ?_
      refine z_iload_3 d_Life_doStep_163 ?_
      first | refine z_iastN d_Life_doStep_164 (by first | assumption | exact zS0_at (by assumption) (by omega) | exact zS0_at rfl (by omega)) (by omega) (by first | decide | omega) ?_ | refine z_iast d_Life_doStep_164 (by first | assumption | exact zS0_at (by assumption) (by omega) | exact zS0_at rfl (by omega)) (by first | assumption | exact zS0_at (by assumption) (by omega) | exact zS0_at rfl (by omega)) ?_
      refine z_goto (tgt := 200) d_Life_doStep_165 (by decide) ?_
      exact do_fin h0 rfl (go _ (by unfold c_do1; rw [o1, if_neg (by decide), if_neg (by decide), if_neg (by decide), if_neg (by decide), if_neg (by decide), if_neg (by decide), if_pos rfl, a1]))
    · have key : ∀ (j x : Nat), I (f + 13) i = nI j → I (f + 14) i = nI x → x < 60 → ((j = 8 ∧ x < nn) ∨ (j = 17 ∧ x < nn) ∨ ((j = 60 ∨ j = 61 ∨ j = 62) ∧ x < np)) → zA G y_Life_doStep prog_6_method_4_code 5 none (zRm 5 0 0) (zM G 0 0 (fun r w' => r = none ∧ (fun w => w = (c_do I f l i, J, P, S)) w')) 168 [some (.ref l), some (.ref f), some (.ref (f + 12)), some (.int (nI x)), some (.int (I (f + 15) i))] [] (I, J, P, S) 0 0 := by
        intro j x o1 a1 hx60 hj
        have ec : c_do1 I f l i = if c_holds I f (nI j) x (I (f + 15) i) then I else zu I l 8 (I (f + 16) i) := by
          unfold c_do1
          rw [o1, a1, nI_clamp (by omega), if_neg, if_neg, if_neg, if_neg, if_neg, if_neg, if_neg]
          all_goals (rcases hj with ⟨rfl, -⟩ | ⟨rfl, -⟩ | ⟨rfl | rfl | rfl, -⟩ <;> decide)
        refine z_aload_1 d_Life_doStep_168 ?_
        refine z_aload_2 d_Life_doStep_169 ?_
        refine z_getR d_Life_doStep_170 f_Life_57 (by first | assumption | exact zS0_at (by assumption) (by omega) | exact zS0_at rfl (by omega)) (by first | assumption | exact zS0_at (by assumption) (by omega) | exact zS0_at rfl (by omega)) ?_
        refine z_aload_0 d_Life_doStep_173 ?_
        refine z_getIv d_Life_doStep_174 f_Life_34 (by first | assumption | exact zS0_at (by assumption) (by omega) | exact zS0_at rfl (by omega)) (by first | assumption | ((try simp (disch := omega) only [zu_same, zu_ne, zcp_ne, zfl_ne]); first | assumption | rfl)) ?_
        first | refine z_ialdNv d_Life_doStep_177 (by first | assumption | exact zS0_at (by assumption) (by omega) | exact zS0_at rfl (by omega)) (by omega) (by first | decide | omega) (by first | assumption | ((try simp (disch := omega) only [zu_same, zu_ne, zcp_ne, zfl_ne]); first | assumption | rfl)) ?_ | refine z_iald d_Life_doStep_177 (by first | assumption | exact zS0_at (by assumption) (by omega) | exact zS0_at rfl (by omega)) (by first | assumption | exact zS0_at (by assumption) (by omega) | exact zS0_at rfl (by omega)) ?_
        refine z_iload_3 d_Life_doStep_178 ?_
        refine z_iload_4 d_Life_doStep_179 ?_
        refine z_Si4 d_Life_doStep_181 k_Life_105 (t_Life_holds F N hj) ⟨Nat.le_of_ble_eq_true rfl, Nat.le_of_ble_eq_true rfl, Nat.le_of_ble_eq_true rfl, Nat.le_of_ble_eq_true rfl⟩ (Nat.le_of_ble_eq_true rfl) ?_
        intro r w hz
        rcases hz with ⟨⟨hz, rfl⟩ | ⟨hz, rfl⟩, rfl⟩
        · refine z_if_ne (tgt := 200) d_Life_doStep_184 (by decide) (fun _ => ?_) (fun h => absurd h (by decide))
          exact do_fin h0 rfl (go _ (by rw [ec, if_pos hz]))
        · refine z_if_ne (tgt := 200) d_Life_doStep_184 (by decide) (fun h => absurd (by decide) h) (fun _ => ?_)
          refine z_aload_0 d_Life_doStep_187 ?_
          refine z_aload_2 d_Life_doStep_188 ?_
          refine z_getR d_Life_doStep_189 f_Life_81 (by first | assumption | exact zS0_at (by assumption) (by omega) | exact zS0_at rfl (by omega)) (by first | assumption | exact zS0_at (by assumption) (by omega) | exact zS0_at rfl (by omega)) ?_
          refine z_aload_0 d_Life_doStep_192 ?_
          refine z_getIv d_Life_doStep_193 f_Life_34 (by first | assumption | exact zS0_at (by assumption) (by omega) | exact zS0_at rfl (by omega)) (by first | assumption | ((try simp (disch := omega) only [zu_same, zu_ne, zcp_ne, zfl_ne]); first | assumption | rfl)) ?_
          first | refine z_ialdNv d_Life_doStep_196 (by first | assumption | exact zS0_at (by assumption) (by omega) | exact zS0_at rfl (by omega)) (by omega) (by first | decide | omega) (by first | assumption | ((try simp (disch := omega) only [zu_same, zu_ne, zcp_ne, zfl_ne]); first | assumption | rfl)) ?_ | refine z_iald d_Life_doStep_196 (by first | assumption | exact zS0_at (by assumption) (by omega) | exact zS0_at rfl (by omega)) (by first | assumption | exact zS0_at (by assumption) (by omega) | exact zS0_at rfl (by omega)) ?_
          refine z_putI d_Life_doStep_197 f_Life_34 (by first | assumption | exact zS0_at (by assumption) (by omega) | exact zS0_at rfl (by omega)) ?_
          exact do_fin h0 rfl (go _ (by rw [ec, if_neg hz, hE2]))
      rcases hv with ⟨x, p, hx, hp, o1, -, a1, -, -, -⟩ | ⟨x, hx, o1, -, a1, -⟩ | ⟨p, j, v, hp, hj, hv, o1, -, -, a1, -⟩
      · have o1 : I (f + 13) i = nI 8 := o1
        have hx : x < nn := hx
        have a1 : I (f + 14) i = nI x := a1
        have q := key 8 x o1 a1 (by omega) (Or.inl ⟨rfl, hx⟩)
        refine z_aload_1 d_Life_doStep_0 ?_
        refine z_getR d_Life_doStep_1 f_Life_50 (by first | assumption | exact zS0_at (by assumption) (by omega) | exact zS0_at rfl (by omega)) (by first | assumption | exact zS0_at (by assumption) (by omega) | exact zS0_at rfl (by omega)) ?_
        first | refine z_astore_2 d_Life_doStep_4 rfl ?_ | (refine z_forget_1 ?_; refine z_astore_2 d_Life_doStep_4 rfl ?_)
        refine z_aload_2 d_Life_doStep_5 ?_
        refine z_getR d_Life_doStep_6 f_Life_84 (by first | assumption | exact zS0_at (by assumption) (by omega) | exact zS0_at rfl (by omega)) (by first | assumption | exact zS0_at (by assumption) (by omega) | exact zS0_at rfl (by omega)) ?_
        refine z_aload_0 d_Life_doStep_9 ?_
        refine z_getIv d_Life_doStep_10 f_Life_34 (by first | assumption | exact zS0_at (by assumption) (by omega) | exact zS0_at rfl (by omega)) (by first | assumption | ((try simp (disch := omega) only [zu_same, zu_ne, zcp_ne, zfl_ne]); first | assumption | rfl)) ?_
        first | refine z_ialdNv d_Life_doStep_13 (by first | assumption | exact zS0_at (by assumption) (by omega) | exact zS0_at rfl (by omega)) (by omega) (by first | decide | omega) (by first | assumption | ((try simp (disch := omega) only [zu_same, zu_ne, zcp_ne, zfl_ne]); first | assumption | rfl)) ?_ | refine z_iald d_Life_doStep_13 (by first | assumption | exact zS0_at (by assumption) (by omega) | exact zS0_at rfl (by omega)) (by first | assumption | exact zS0_at (by assumption) (by omega) | exact zS0_at rfl (by omega)) ?_
        first | refine z_istore_3 d_Life_doStep_14 rfl ?_ | (refine z_forget_2 ?_; refine z_istore_3 d_Life_doStep_14 rfl ?_)
        refine z_aload_2 d_Life_doStep_15 ?_
        refine z_getR d_Life_doStep_16 f_Life_87 (by first | assumption | exact zS0_at (by assumption) (by omega) | exact zS0_at rfl (by omega)) (by first | assumption | exact zS0_at (by assumption) (by omega) | exact zS0_at rfl (by omega)) ?_
        refine z_aload_0 d_Life_doStep_19 ?_
        refine z_getIv d_Life_doStep_20 f_Life_34 (by first | assumption | exact zS0_at (by assumption) (by omega) | exact zS0_at rfl (by omega)) (by first | assumption | ((try simp (disch := omega) only [zu_same, zu_ne, zcp_ne, zfl_ne]); first | assumption | rfl)) ?_
        first | refine z_ialdNv d_Life_doStep_23 (by first | assumption | exact zS0_at (by assumption) (by omega) | exact zS0_at rfl (by omega)) (by omega) (by first | decide | omega) (by first | assumption | ((try simp (disch := omega) only [zu_same, zu_ne, zcp_ne, zfl_ne]); first | assumption | rfl)) ?_ | refine z_iald d_Life_doStep_23 (by first | assumption | exact zS0_at (by assumption) (by omega) | exact zS0_at rfl (by omega)) (by first | assumption | exact zS0_at (by assumption) (by omega) | exact zS0_at rfl (by omega)) ?_
        first | refine z_istore_4 d_Life_doStep_24 rfl ?_ | (refine z_forget_3 ?_; refine z_istore_4 d_Life_doStep_24 rfl ?_)
        refine z_aload_2 d_Life_doStep_26 ?_
        refine z_getR d_Life_doStep_27 f_Life_57 (by first | assumption | exact zS0_at (by assumption) (by omega) | exact zS0_at rfl (by omega)) (by first | assumption | exact zS0_at (by assumption) (by omega) | exact zS0_at rfl (by omega)) ?_
        refine z_aload_0 d_Life_doStep_30 ?_
        refine z_getIv d_Life_doStep_31 f_Life_34 (by first | assumption | exact zS0_at (by assumption) (by omega) | exact zS0_at rfl (by omega)) (by first | assumption | ((try simp (disch := omega) only [zu_same, zu_ne, zcp_ne, zfl_ne]); first | assumption | rfl)) ?_
        first | refine z_ialdNv d_Life_doStep_34 (by first | assumption | exact zS0_at (by assumption) (by omega) | exact zS0_at rfl (by omega)) (by omega) (by first | decide | omega) (by first | assumption | ((try simp (disch := omega) only [zu_same, zu_ne, zcp_ne, zfl_ne]); first | assumption | rfl)) ?_ | refine z_iald d_Life_doStep_34 (by first | assumption | exact zS0_at (by assumption) (by omega) | exact zS0_at rfl (by omega)) (by first | assumption | exact zS0_at (by assumption) (by omega) | exact zS0_at rfl (by omega)) ?_
        refine z_tableOut (tgt := 168) d_Life_doStep_35 (by decide) (by decide) ?_
        exact q
      · have o1 : I (f + 13) i = nI 17 := o1
        have hx : x < nn := hx
        have a1 : I (f + 14) i = nI x := a1
        have q := key 17 x o1 a1 (by omega) (Or.inr (Or.inl ⟨rfl, hx⟩))
        refine z_aload_1 d_Life_doStep_0 ?_
        refine z_getR d_Life_doStep_1 f_Life_50 (by first | assumption | exact zS0_at (by assumption) (by omega) | exact zS0_at rfl (by omega)) (by first | assumption | exact zS0_at (by assumption) (by omega) | exact zS0_at rfl (by omega)) ?_
        first | refine z_astore_2 d_Life_doStep_4 rfl ?_ | (refine z_forget_1 ?_; refine z_astore_2 d_Life_doStep_4 rfl ?_)
        refine z_aload_2 d_Life_doStep_5 ?_
        refine z_getR d_Life_doStep_6 f_Life_84 (by first | assumption | exact zS0_at (by assumption) (by omega) | exact zS0_at rfl (by omega)) (by first | assumption | exact zS0_at (by assumption) (by omega) | exact zS0_at rfl (by omega)) ?_
        refine z_aload_0 d_Life_doStep_9 ?_
        refine z_getIv d_Life_doStep_10 f_Life_34 (by first | assumption | exact zS0_at (by assumption) (by omega) | exact zS0_at rfl (by omega)) (by first | assumption | ((try simp (disch := omega) only [zu_same, zu_ne, zcp_ne, zfl_ne]); first | assumption | rfl)) ?_
        first | refine z_ialdNv d_Life_doStep_13 (by first | assumption | exact zS0_at (by assumption) (by omega) | exact zS0_at rfl (by omega)) (by omega) (by first | decide | omega) (by first | assumption | ((try simp (disch := omega) only [zu_same, zu_ne, zcp_ne, zfl_ne]); first | assumption | rfl)) ?_ | refine z_iald d_Life_doStep_13 (by first | assumption | exact zS0_at (by assumption) (by omega) | exact zS0_at rfl (by omega)) (by first | assumption | exact zS0_at (by assumption) (by omega) | exact zS0_at rfl (by omega)) ?_
        first | refine z_istore_3 d_Life_doStep_14 rfl ?_ | (refine z_forget_2 ?_; refine z_istore_3 d_Life_doStep_14 rfl ?_)
        refine z_aload_2 d_Life_doStep_15 ?_
        refine z_getR d_Life_doStep_16 f_Life_87 (by first | assumption | exact zS0_at (by assumption) (by omega) | exact zS0_at rfl (by omega)) (by first | assumption | exact zS0_at (by assumption) (by omega) | exact zS0_at rfl (by omega)) ?_
        refine z_aload_0 d_Life_doStep_19 ?_
        refine z_getIv d_Life_doStep_20 f_Life_34 (by first | assumption | exact zS0_at (by assumption) (by omega) | exact zS0_at rfl (by omega)) (by first | assumption | ((try simp (disch := omega) only [zu_same, zu_ne, zcp_ne, zfl_ne]); first | assumption | rfl)) ?_
        first | refine z_ialdNv d_Life_doStep_23 (by first | assumption | exact zS0_at (by assumption) (by omega) | exact zS0_at rfl (by omega)) (by omega) (by first | decide | omega) (by first | assumption | ((try simp (disch := omega) only [zu_same, zu_ne, zcp_ne, zfl_ne]); first | assumption | rfl)) ?_ | refine z_iald d_Life_doStep_23 (by first | assumption | exact zS0_at (by assumption) (by omega) | exact zS0_at rfl (by omega)) (by first | assumption | exact zS0_at (by assumption) (by omega) | exact zS0_at rfl (by omega)) ?_
        first | refine z_istore_4 d_Life_doStep_24 rfl ?_ | (refine z_forget_3 ?_; refine z_istore_4 d_Life_doStep_24 rfl ?_)
        refine z_aload_2 d_Life_doStep_26 ?_
        refine z_getR d_Life_doStep_27 f_Life_57 (by first | assumption | exact zS0_at (by assumption) (by omega) | exact zS0_at rfl (by omega)) (by first | assumption | exact zS0_at (by assumption) (by omega) | exact zS0_at rfl (by omega)) ?_
        refine z_aload_0 d_Life_doStep_30 ?_
        refine z_getIv d_Life_doStep_31 f_Life_34 (by first | assumption | exact zS0_at (by assumption) (by omega) | exact zS0_at rfl (by omega)) (by first | assumption | ((try simp (disch := omega) only [zu_same, zu_ne, zcp_ne, zfl_ne]); first | assumption | rfl)) ?_
        first | refine z_ialdNv d_Life_doStep_34 (by first | assumption | exact zS0_at (by assumption) (by omega) | exact zS0_at rfl (by omega)) (by omega) (by first | decide | omega) (by first | assumption | ((try simp (disch := omega) only [zu_same, zu_ne, zcp_ne, zfl_ne]); first | assumption | rfl)) ?_ | refine z_iald d_Life_doStep_34 (by first | assumption | exact zS0_at (by assumption) (by omega) | exact zS0_at rfl (by omega)) (by first | assumption | exact zS0_at (by assumption) (by omega) | exact zS0_at rfl (by omega)) ?_
        refine z_tableIn (off := 133) (tgt := 168) d_Life_doStep_35 (by decide) (by decide) (by decide) (by decide) ?_
        exact q
      · have o1 : I (f + 13) i = nI j := o1
        have hp : p < np := hp
        have a1 : I (f + 14) i = nI p := a1
        have q := key j p o1 a1 (by omega) (Or.inr (Or.inr ⟨hj, hp⟩))
        rcases hj with rfl | rfl | rfl
        · refine z_aload_1 d_Life_doStep_0 ?_
          refine z_getR d_Life_doStep_1 f_Life_50 (by first | assumption | exact zS0_at (by assumption) (by omega) | exact zS0_at rfl (by omega)) (by first | assumption | exact zS0_at (by assumption) (by omega) | exact zS0_at rfl (by omega)) ?_
          first | refine z_astore_2 d_Life_doStep_4 rfl ?_ | (refine z_forget_1 ?_; refine z_astore_2 d_Life_doStep_4 rfl ?_)
          refine z_aload_2 d_Life_doStep_5 ?_
          refine z_getR d_Life_doStep_6 f_Life_84 (by first | assumption | exact zS0_at (by assumption) (by omega) | exact zS0_at rfl (by omega)) (by first | assumption | exact zS0_at (by assumption) (by omega) | exact zS0_at rfl (by omega)) ?_
          refine z_aload_0 d_Life_doStep_9 ?_
          refine z_getIv d_Life_doStep_10 f_Life_34 (by first | assumption | exact zS0_at (by assumption) (by omega) | exact zS0_at rfl (by omega)) (by first | assumption | ((try simp (disch := omega) only [zu_same, zu_ne, zcp_ne, zfl_ne]); first | assumption | rfl)) ?_
          first | refine z_ialdNv d_Life_doStep_13 (by first | assumption | exact zS0_at (by assumption) (by omega) | exact zS0_at rfl (by omega)) (by omega) (by first | decide | omega) (by first | assumption | ((try simp (disch := omega) only [zu_same, zu_ne, zcp_ne, zfl_ne]); first | assumption | rfl)) ?_ | refine z_iald d_Life_doStep_13 (by first | assumption | exact zS0_at (by assumption) (by omega) | exact zS0_at rfl (by omega)) (by first | assumption | exact zS0_at (by assumption) (by omega) | exact zS0_at rfl (by omega)) ?_
          first | refine z_istore_3 d_Life_doStep_14 rfl ?_ | (refine z_forget_2 ?_; refine z_istore_3 d_Life_doStep_14 rfl ?_)
          refine z_aload_2 d_Life_doStep_15 ?_
          refine z_getR d_Life_doStep_16 f_Life_87 (by first | assumption | exact zS0_at (by assumption) (by omega) | exact zS0_at rfl (by omega)) (by first | assumption | exact zS0_at (by assumption) (by omega) | exact zS0_at rfl (by omega)) ?_
          refine z_aload_0 d_Life_doStep_19 ?_
          refine z_getIv d_Life_doStep_20 f_Life_34 (by first | assumption | exact zS0_at (by assumption) (by omega) | exact zS0_at rfl (by omega)) (by first | assumption | ((try simp (disch := omega) only [zu_same, zu_ne, zcp_ne, zfl_ne]); first | assumption | rfl)) ?_
          first | refine z_ialdNv d_Life_doStep_23 (by first | assumption | exact zS0_at (by assumption) (by omega) | exact zS0_at rfl (by omega)) (by omega) (by first | decide | omega) (by first | assumption | ((try simp (disch := omega) only [zu_same, zu_ne, zcp_ne, zfl_ne]); first | assumption | rfl)) ?_ | refine z_iald d_Life_doStep_23 (by first | assumption | exact zS0_at (by assumption) (by omega) | exact zS0_at rfl (by omega)) (by first | assumption | exact zS0_at (by assumption) (by omega) | exact zS0_at rfl (by omega)) ?_
          first | refine z_istore_4 d_Life_doStep_24 rfl ?_ | (refine z_forget_3 ?_; refine z_istore_4 d_Life_doStep_24 rfl ?_)
          refine z_aload_2 d_Life_doStep_26 ?_
          refine z_getR d_Life_doStep_27 f_Life_57 (by first | assumption | exact zS0_at (by assumption) (by omega) | exact zS0_at rfl (by omega)) (by first | assumption | exact zS0_at (by assumption) (by omega) | exact zS0_at rfl (by omega)) ?_
          refine z_aload_0 d_Life_doStep_30 ?_
          refine z_getIv d_Life_doStep_31 f_Life_34 (by first | assumption | exact zS0_at (by assumption) (by omega) | exact zS0_at rfl (by omega)) (by first | assumption | ((try simp (disch := omega) only [zu_same, zu_ne, zcp_ne, zfl_ne]); first | assumption | rfl)) ?_
          first | refine z_ialdNv d_Life_doStep_34 (by first | assumption | exact zS0_at (by assumption) (by omega) | exact zS0_at rfl (by omega)) (by omega) (by first | decide | omega) (by first | assumption | ((try simp (disch := omega) only [zu_same, zu_ne, zcp_ne, zfl_ne]); first | assumption | rfl)) ?_ | refine z_iald d_Life_doStep_34 (by first | assumption | exact zS0_at (by assumption) (by omega) | exact zS0_at rfl (by omega)) (by first | assumption | exact zS0_at (by assumption) (by omega) | exact zS0_at rfl (by omega)) ?_
          refine z_tableOut (tgt := 168) d_Life_doStep_35 (by decide) (by decide) ?_
          exact q
        · refine z_aload_1 d_Life_doStep_0 ?_
          refine z_getR d_Life_doStep_1 f_Life_50 (by first | assumption | exact zS0_at (by assumption) (by omega) | exact zS0_at rfl (by omega)) (by first | assumption | exact zS0_at (by assumption) (by omega) | exact zS0_at rfl (by omega)) ?_
          first | refine z_astore_2 d_Life_doStep_4 rfl ?_ | (refine z_forget_1 ?_; refine z_astore_2 d_Life_doStep_4 rfl ?_)
          refine z_aload_2 d_Life_doStep_5 ?_
          refine z_getR d_Life_doStep_6 f_Life_84 (by first | assumption | exact zS0_at (by assumption) (by omega) | exact zS0_at rfl (by omega)) (by first | assumption | exact zS0_at (by assumption) (by omega) | exact zS0_at rfl (by omega)) ?_
          refine z_aload_0 d_Life_doStep_9 ?_
          refine z_getIv d_Life_doStep_10 f_Life_34 (by first | assumption | exact zS0_at (by assumption) (by omega) | exact zS0_at rfl (by omega)) (by first | assumption | ((try simp (disch := omega) only [zu_same, zu_ne, zcp_ne, zfl_ne]); first | assumption | rfl)) ?_
          first | refine z_ialdNv d_Life_doStep_13 (by first | assumption | exact zS0_at (by assumption) (by omega) | exact zS0_at rfl (by omega)) (by omega) (by first | decide | omega) (by first | assumption | ((try simp (disch := omega) only [zu_same, zu_ne, zcp_ne, zfl_ne]); first | assumption | rfl)) ?_ | refine z_iald d_Life_doStep_13 (by first | assumption | exact zS0_at (by assumption) (by omega) | exact zS0_at rfl (by omega)) (by first | assumption | exact zS0_at (by assumption) (by omega) | exact zS0_at rfl (by omega)) ?_
          first | refine z_istore_3 d_Life_doStep_14 rfl ?_ | (refine z_forget_2 ?_; refine z_istore_3 d_Life_doStep_14 rfl ?_)
          refine z_aload_2 d_Life_doStep_15 ?_
          refine z_getR d_Life_doStep_16 f_Life_87 (by first | assumption | exact zS0_at (by assumption) (by omega) | exact zS0_at rfl (by omega)) (by first | assumption | exact zS0_at (by assumption) (by omega) | exact zS0_at rfl (by omega)) ?_
          refine z_aload_0 d_Life_doStep_19 ?_
          refine z_getIv d_Life_doStep_20 f_Life_34 (by first | assumption | exact zS0_at (by assumption) (by omega) | exact zS0_at rfl (by omega)) (by first | assumption | ((try simp (disch := omega) only [zu_same, zu_ne, zcp_ne, zfl_ne]); first | assumption | rfl)) ?_
          first | refine z_ialdNv d_Life_doStep_23 (by first | assumption | exact zS0_at (by assumption) (by omega) | exact zS0_at rfl (by omega)) (by omega) (by first | decide | omega) (by first | assumption | ((try simp (disch := omega) only [zu_same, zu_ne, zcp_ne, zfl_ne]); first | assumption | rfl)) ?_ | refine z_iald d_Life_doStep_23 (by first | assumption | exact zS0_at (by assumption) (by omega) | exact zS0_at rfl (by omega)) (by first | assumption | exact zS0_at (by assumption) (by omega) | exact zS0_at rfl (by omega)) ?_
          first | refine z_istore_4 d_Life_doStep_24 rfl ?_ | (refine z_forget_3 ?_; refine z_istore_4 d_Life_doStep_24 rfl ?_)
          refine z_aload_2 d_Life_doStep_26 ?_
          refine z_getR d_Life_doStep_27 f_Life_57 (by first | assumption | exact zS0_at (by assumption) (by omega) | exact zS0_at rfl (by omega)) (by first | assumption | exact zS0_at (by assumption) (by omega) | exact zS0_at rfl (by omega)) ?_
          refine z_aload_0 d_Life_doStep_30 ?_
          refine z_getIv d_Life_doStep_31 f_Life_34 (by first | assumption | exact zS0_at (by assumption) (by omega) | exact zS0_at rfl (by omega)) (by first | assumption | ((try simp (disch := omega) only [zu_same, zu_ne, zcp_ne, zfl_ne]); first | assumption | rfl)) ?_
          first | refine z_ialdNv d_Life_doStep_34 (by first | assumption | exact zS0_at (by assumption) (by omega) | exact zS0_at rfl (by omega)) (by omega) (by first | decide | omega) (by first | assumption | ((try simp (disch := omega) only [zu_same, zu_ne, zcp_ne, zfl_ne]); first | assumption | rfl)) ?_ | refine z_iald d_Life_doStep_34 (by first | assumption | exact zS0_at (by assumption) (by omega) | exact zS0_at rfl (by omega)) (by first | assumption | exact zS0_at (by assumption) (by omega) | exact zS0_at rfl (by omega)) ?_
          refine z_tableOut (tgt := 168) d_Life_doStep_35 (by decide) (by decide) ?_
          exact q
        · refine z_aload_1 d_Life_doStep_0 ?_
          refine z_getR d_Life_doStep_1 f_Life_50 (by first | assumption | exact zS0_at (by assumption) (by omega) | exact zS0_at rfl (by omega)) (by first | assumption | exact zS0_at (by assumption) (by omega) | exact zS0_at rfl (by omega)) ?_
          first | refine z_astore_2 d_Life_doStep_4 rfl ?_ | (refine z_forget_1 ?_; refine z_astore_2 d_Life_doStep_4 rfl ?_)
          refine z_aload_2 d_Life_doStep_5 ?_
          refine z_getR d_Life_doStep_6 f_Life_84 (by first | assumption | exact zS0_at (by assumption) (by omega) | exact zS0_at rfl (by omega)) (by first | assumption | exact zS0_at (by assumption) (by omega) | exact zS0_at rfl (by omega)) ?_
          refine z_aload_0 d_Life_doStep_9 ?_
          refine z_getIv d_Life_doStep_10 f_Life_34 (by first | assumption | exact zS0_at (by assumption) (by omega) | exact zS0_at rfl (by omega)) (by first | assumption | ((try simp (disch := omega) only [zu_same, zu_ne, zcp_ne, zfl_ne]); first | assumption | rfl)) ?_
          first | refine z_ialdNv d_Life_doStep_13 (by first | assumption | exact zS0_at (by assumption) (by omega) | exact zS0_at rfl (by omega)) (by omega) (by first | decide | omega) (by first | assumption | ((try simp (disch := omega) only [zu_same, zu_ne, zcp_ne, zfl_ne]); first | assumption | rfl)) ?_ | refine z_iald d_Life_doStep_13 (by first | assumption | exact zS0_at (by assumption) (by omega) | exact zS0_at rfl (by omega)) (by first | assumption | exact zS0_at (by assumption) (by omega) | exact zS0_at rfl (by omega)) ?_
          first | refine z_istore_3 d_Life_doStep_14 rfl ?_ | (refine z_forget_2 ?_; refine z_istore_3 d_Life_doStep_14 rfl ?_)
          refine z_aload_2 d_Life_doStep_15 ?_
          refine z_getR d_Life_doStep_16 f_Life_87 (by first | assumption | exact zS0_at (by assumption) (by omega) | exact zS0_at rfl (by omega)) (by first | assumption | exact zS0_at (by assumption) (by omega) | exact zS0_at rfl (by omega)) ?_
          refine z_aload_0 d_Life_doStep_19 ?_
          refine z_getIv d_Life_doStep_20 f_Life_34 (by first | assumption | exact zS0_at (by assumption) (by omega) | exact zS0_at rfl (by omega)) (by first | assumption | ((try simp (disch := omega) only [zu_same, zu_ne, zcp_ne, zfl_ne]); first | assumption | rfl)) ?_
          first | refine z_ialdNv d_Life_doStep_23 (by first | assumption | exact zS0_at (by assumption) (by omega) | exact zS0_at rfl (by omega)) (by omega) (by first | decide | omega) (by first | assumption | ((try simp (disch := omega) only [zu_same, zu_ne, zcp_ne, zfl_ne]); first | assumption | rfl)) ?_ | refine z_iald d_Life_doStep_23 (by first | assumption | exact zS0_at (by assumption) (by omega) | exact zS0_at rfl (by omega)) (by first | assumption | exact zS0_at (by assumption) (by omega) | exact zS0_at rfl (by omega)) ?_
          first | refine z_istore_4 d_Life_doStep_24 rfl ?_ | (refine z_forget_3 ?_; refine z_istore_4 d_Life_doStep_24 rfl ?_)
          refine z_aload_2 d_Life_doStep_26 ?_
          refine z_getR d_Life_doStep_27 f_Life_57 (by first | assumption | exact zS0_at (by assumption) (by omega) | exact zS0_at rfl (by omega)) (by first | assumption | exact zS0_at (by assumption) (by omega) | exact zS0_at rfl (by omega)) ?_
          refine z_aload_0 d_Life_doStep_30 ?_
          refine z_getIv d_Life_doStep_31 f_Life_34 (by first | assumption | exact zS0_at (by assumption) (by omega) | exact zS0_at rfl (by omega)) (by first | assumption | ((try simp (disch := omega) only [zu_same, zu_ne, zcp_ne, zfl_ne]); first | assumption | rfl)) ?_
          first | refine z_ialdNv d_Life_doStep_34 (by first | assumption | exact zS0_at (by assumption) (by omega) | exact zS0_at rfl (by omega)) (by omega) (by first | decide | omega) (by first | assumption | ((try simp (disch := omega) only [zu_same, zu_ne, zcp_ne, zfl_ne]); first | assumption | rfl)) ?_ | refine z_iald d_Life_doStep_34 (by first | assumption | exact zS0_at (by assumption) (by omega) | exact zS0_at rfl (by omega)) (by first | assumption | exact zS0_at (by assumption) (by omega) | exact zS0_at rfl (by omega)) ?_
          refine z_tableOut (tgt := 168) d_Life_doStep_35 (by decide) (by decide) ?_
          exact q
  · exact absurd hv h19
end LF1
