/-! whose, sure, ask: both sides, together -/
section SO0
variable {G : zG} {I I' I1 I2 I3 : Nat → Nat → Int32} {J J' J2 : Nat → Nat → Int64} {P : Nat → Nat → Option Nat} {S : List (Nat × Nat)} {f d nt np nl nn n fed mk t k p q s g i u v l st y : Nat} {a b : Int32} {w : zW} {fb : Nat → Bool} {X X' : Nat → Int64} {A A' : Nat → Int32} {tl : Nat → Bool} {m m' : Nat → Nat} {o : Option Nat}
theorem nF_m (h : nF I I') : mqF I I' := ⟨fun a g1 _ => h.1 a g1, fun k hk => h.2 k (by omega)⟩
theorem lF_m (h : lF I I') : mqF I I' := ⟨fun a g1 g2 => h.1 a g1 (by omega), fun k hk => h.2 k (by omega) (by omega)⟩
theorem t_Mo_whose_x (M : modOk P S) (hst : 0 < nI st) (hS :  ∀ I1 : Nat → Nat → Int32, (∀ a, a ≠ 145 → I1 a = I a) → zEi  G y_Mo_whyNoWhose prog_14_method_128_code 4 (some .int) 3 [.ref 145, .int a, .int b] (I1, J, P, S) (fun r w => r = nI st ∧ ∃ I', w = (I', J, P, S) ∧ nF I1 I')) : zEi G y_Mo_whose prog_14_method_130_code 3 (some .int) 4 [.ref 145, .int a, .int b] (I, J, P, S) (fun r w => r = -1 ∧ mW I J P S st w) := by
  obtain ⟨M0, ⟨M4, M4s⟩, ⟨M5, M5s⟩, ⟨M6, M6s⟩, ⟨M7, M7s⟩, ⟨M20, M20s⟩, ⟨M21, M21s⟩, ⟨M22, M22s⟩, ⟨M26, M26s⟩, ⟨M27, M27s⟩, ⟨M28, M28s⟩, ⟨M30, M30s⟩, ⟨M34, M34s⟩, ⟨M36, M36s⟩, ⟨M37, M37s⟩⟩ := id M
  refine zEi_of (lv := [some (.ref 145), some (.int a), some (.int b)]) (by decide) rfl (Nat.le_of_ble_eq_true rfl) ?_
  refine z_aload_0 d_Mo_whose_0 ?_
  refine z_iconst (a := nI 0) d_Mo_whose_1 (by decide) ?_
  refine z_putI d_Mo_whose_2 f_Mo_70 (by first | assumption | exact zS0_at (by assumption) (by omega) | exact zS0_at rfl (by omega)) ?_
  refine z_aload_0 d_Mo_whose_5 ?_
  refine z_aload_0 d_Mo_whose_6 ?_
  refine z_iload_1 d_Mo_whose_7 ?_
  refine z_iload_2 d_Mo_whose_8 ?_
  refine z_Vi2 d_Mo_whose_9 k_Mo_438 (by first | assumption | exact zS0_at (by assumption) (by omega) | exact zS0_at rfl (by omega)) (hS _ (fun a h => zu_row _ _ _ _ h)) ⟨Nat.le_of_ble_eq_true rfl, Nat.le_of_ble_eq_true rfl, Nat.le_of_ble_eq_true rfl, Nat.le_of_ble_eq_true rfl⟩ (Nat.le_of_ble_eq_true rfl) ?_
  rintro r w ⟨rfl, I2, rfl, g1⟩
  refine z_putI d_Mo_whose_12 f_Mo_73 (by first | assumption | exact zS0_at (by assumption) (by omega) | exact zS0_at rfl (by omega)) ?_
  refine z_aload_0 d_Mo_whose_15 ?_
  refine z_getIv d_Mo_whose_16 f_Mo_73 (by assumption) (zu_same _ _ _ _) ?_
  refine z_if_le (tgt := 24) d_Mo_whose_19 (by decide) (fun h => absurd h (Int32.not_le.mpr hst)) (fun _ => ?_)
  refine z_iconst (a := -1) d_Mo_whose_22 (by decide) ?_
  refine z_reti d_Mo_whose_23 ?_
  exact ⟨rfl, _, _, rfl, mqF_z (mqF_t (mqF_z mqF_r (by decide)) (nF_m g1)) (by decide), mqJ_r, zu_same _ _ _ _⟩
theorem t_Mo_sure_x (M : modOk P S) (hst : 0 < nI st) (hS :  ∀ I1 : Nat → Nat → Int32, (∀ a, a ≠ 145 → I1 a = I a) → zEi  G y_Mo_whyNoWhose prog_14_method_128_code 4 (some .int) 3 [.ref 145, .int a, .int b] (I1, J, P, S) (fun r w => r = nI st ∧ ∃ I', w = (I', J, P, S) ∧ nF I1 I')) : zEi G y_Mo_sure prog_14_method_131_code 3 (some .int) 4 [.ref 145, .int a, .int b] (I, J, P, S) (fun r w => r = -1 ∧ mW I J P S st w) := by
  obtain ⟨M0, ⟨M4, M4s⟩, ⟨M5, M5s⟩, ⟨M6, M6s⟩, ⟨M7, M7s⟩, ⟨M20, M20s⟩, ⟨M21, M21s⟩, ⟨M22, M22s⟩, ⟨M26, M26s⟩, ⟨M27, M27s⟩, ⟨M28, M28s⟩, ⟨M30, M30s⟩, ⟨M34, M34s⟩, ⟨M36, M36s⟩, ⟨M37, M37s⟩⟩ := id M
  refine zEi_of (lv := [some (.ref 145), some (.int a), some (.int b)]) (by decide) rfl (Nat.le_of_ble_eq_true rfl) ?_
  refine z_aload_0 d_Mo_sure_0 ?_
  refine z_iconst (a := nI 0) d_Mo_sure_1 (by decide) ?_
  refine z_putI d_Mo_sure_2 f_Mo_70 (by first | assumption | exact zS0_at (by assumption) (by omega) | exact zS0_at rfl (by omega)) ?_
  refine z_aload_0 d_Mo_sure_5 ?_
  refine z_aload_0 d_Mo_sure_6 ?_
  refine z_iload_1 d_Mo_sure_7 ?_
  refine z_iload_2 d_Mo_sure_8 ?_
  refine z_Vi2 d_Mo_sure_9 k_Mo_438 (by first | assumption | exact zS0_at (by assumption) (by omega) | exact zS0_at rfl (by omega)) (hS _ (fun a h => zu_row _ _ _ _ h)) ⟨Nat.le_of_ble_eq_true rfl, Nat.le_of_ble_eq_true rfl, Nat.le_of_ble_eq_true rfl, Nat.le_of_ble_eq_true rfl⟩ (Nat.le_of_ble_eq_true rfl) ?_
  rintro r w ⟨rfl, I2, rfl, g1⟩
  refine z_putI d_Mo_sure_12 f_Mo_73 (by first | assumption | exact zS0_at (by assumption) (by omega) | exact zS0_at rfl (by omega)) ?_
  refine z_aload_0 d_Mo_sure_15 ?_
  refine z_getIv d_Mo_sure_16 f_Mo_73 (by assumption) (zu_same _ _ _ _) ?_
  refine z_if_le (tgt := 24) d_Mo_sure_19 (by decide) (fun h => absurd h (Int32.not_le.mpr hst)) (fun _ => ?_)
  refine z_iconst (a := -1) d_Mo_sure_22 (by decide) ?_
  refine z_reti d_Mo_sure_23 ?_
  exact ⟨rfl, _, _, rfl, mqF_z (mqF_t (mqF_z mqF_r (by decide)) (nF_m g1)) (by decide), mqJ_r, zu_same _ _ _ _⟩
theorem t_Mo_ask_x (M : modOk P S) (hst : 0 < nI st) (hS :  ∀ I1 : Nat → Nat → Int32, (∀ a, a ≠ 145 → I1 a = I a) → zEi  G y_Mo_whyNoWhose prog_14_method_128_code 4 (some .int) 3 [.ref 145, .int a, .int b] (I1, J, P, S) (fun r w => r = nI st ∧ ∃ I', w = (I', J, P, S) ∧ nF I1 I')) : zEi G y_Mo_ask prog_14_method_133_code 5 (some .int) 4 [.ref 145, .int a, .int b] (I, J, P, S) (fun r w => r = -1 ∧ mW I J P S st w) := by
  obtain ⟨M0, ⟨M4, M4s⟩, ⟨M5, M5s⟩, ⟨M6, M6s⟩, ⟨M7, M7s⟩, ⟨M20, M20s⟩, ⟨M21, M21s⟩, ⟨M22, M22s⟩, ⟨M26, M26s⟩, ⟨M27, M27s⟩, ⟨M28, M28s⟩, ⟨M30, M30s⟩, ⟨M34, M34s⟩, ⟨M36, M36s⟩, ⟨M37, M37s⟩⟩ := id M
  refine zEi_of (lv := [some (.ref 145), some (.int a), some (.int b), none, none]) (by decide) rfl (Nat.le_of_ble_eq_true rfl) ?_
  refine z_aload_0 d_Mo_ask_0 ?_
  refine z_iconst (a := nI 0) d_Mo_ask_1 (by decide) ?_
  refine z_putI d_Mo_ask_2 f_Mo_70 (by first | assumption | exact zS0_at (by assumption) (by omega) | exact zS0_at rfl (by omega)) ?_
  refine z_aload_0 d_Mo_ask_5 ?_
  refine z_aload_0 d_Mo_ask_6 ?_
  refine z_iload_1 d_Mo_ask_7 ?_
  refine z_iload_2 d_Mo_ask_8 ?_
  refine z_Vi2 d_Mo_ask_9 k_Mo_438 (by first | assumption | exact zS0_at (by assumption) (by omega) | exact zS0_at rfl (by omega)) (hS _ (fun a h => zu_row _ _ _ _ h)) ⟨Nat.le_of_ble_eq_true rfl, Nat.le_of_ble_eq_true rfl, Nat.le_of_ble_eq_true rfl, Nat.le_of_ble_eq_true rfl⟩ (Nat.le_of_ble_eq_true rfl) ?_
  rintro r w ⟨rfl, I2, rfl, g1⟩
  refine z_putI d_Mo_ask_12 f_Mo_73 (by first | assumption | exact zS0_at (by assumption) (by omega) | exact zS0_at rfl (by omega)) ?_
  refine z_aload_0 d_Mo_ask_15 ?_
  refine z_getIv d_Mo_ask_16 f_Mo_73 (by assumption) (zu_same _ _ _ _) ?_
  refine z_if_le (tgt := 24) d_Mo_ask_19 (by decide) (fun h => absurd h (Int32.not_le.mpr hst)) (fun _ => ?_)
  refine z_iconst (a := -1) d_Mo_ask_22 (by decide) ?_
  refine z_reti d_Mo_ask_23 ?_
  exact ⟨rfl, _, _, rfl, mqF_z (mqF_t (mqF_z mqF_r (by decide)) (nF_m g1)) (by decide), mqJ_r, zu_same _ _ _ _⟩
def wlv (G : zG) (I : Nat → Nat → Int32) (J : Nat → Nat → Int64) (P : Nat → Nat → Option Nat) (S : List (Nat × Nat)) (fb : Nat → Bool) (nt : Nat) (a b : Int32) : Prop := zEv G y_Mo_laysWhose prog_14_method_129_code 5 3 0 0 [.ref 145, .int a, .int b] (I, J, P, S) (fun w => laQ I J P S fb nt w)
/-- whyNoWhose and laysWhose, one behind the other -/
def wl (G : zG) (I : Nat → Nat → Int32) (J : Nat → Nat → Int64) (P : Nat → Nat → Option Nat) (S : List (Nat × Nat)) (fb : Nat → Bool) (nt u : Nat) (a b : Int32) : Prop := (∀ I1 : Nat → Nat → Int32, (∀ a, a ≠ 145 → I1 a = I a) → zEi  G y_Mo_whyNoWhose prog_14_method_128_code 4 (some .int) 3 [.ref 145, .int a, .int b] (I1, J, P, S) (fun r w => r = nI 0 ∧ ∃ I', w = (I', J, P, S) ∧ nF I1 I' ∧ I' 145 33 = nI u)) ∧ ∀ I1 : Nat → Nat → Int32, (∀ a, a ≠ 145 → I1 a = I a) → wlv G I1 J P S fb nt a b
theorem t_Mo_whose (M : modOk P S) (hS : wl G I J P S fb nt u a b) : zEi G y_Mo_whose prog_14_method_130_code 3 (some .int) 4 [.ref 145, .int a, .int b] (I, J, P, S) (fun r w => r = nI (s_cnt fb (2 ^ nt)) ∧ mW I J P S 0 w) := by
  obtain ⟨M0, ⟨M4, M4s⟩, ⟨M5, M5s⟩, ⟨M6, M6s⟩, ⟨M7, M7s⟩, ⟨M20, M20s⟩, ⟨M21, M21s⟩, ⟨M22, M22s⟩, ⟨M26, M26s⟩, ⟨M27, M27s⟩, ⟨M28, M28s⟩, ⟨M30, M30s⟩, ⟨M34, M34s⟩, ⟨M36, M36s⟩, ⟨M37, M37s⟩⟩ := id M
  refine zEi_of (lv := [some (.ref 145), some (.int a), some (.int b)]) (by decide) rfl (Nat.le_of_ble_eq_true rfl) ?_
  refine z_aload_0 d_Mo_whose_0 ?_
  refine z_iconst (a := nI 0) d_Mo_whose_1 (by decide) ?_
  refine z_putI d_Mo_whose_2 f_Mo_70 (by first | assumption | exact zS0_at (by assumption) (by omega) | exact zS0_at rfl (by omega)) ?_
  refine z_aload_0 d_Mo_whose_5 ?_
  refine z_aload_0 d_Mo_whose_6 ?_
  refine z_iload_1 d_Mo_whose_7 ?_
  refine z_iload_2 d_Mo_whose_8 ?_
  refine z_Vi2 d_Mo_whose_9 k_Mo_438 (by first | assumption | exact zS0_at (by assumption) (by omega) | exact zS0_at rfl (by omega)) (hS.1 _ (fun a h => zu_row _ _ _ _ h)) ⟨Nat.le_of_ble_eq_true rfl, Nat.le_of_ble_eq_true rfl, Nat.le_of_ble_eq_true rfl, Nat.le_of_ble_eq_true rfl⟩ (Nat.le_of_ble_eq_true rfl) ?_
  rintro r w ⟨rfl, I2, rfl, g1, g2⟩
  refine z_putI d_Mo_whose_12 f_Mo_73 (by first | assumption | exact zS0_at (by assumption) (by omega) | exact zS0_at rfl (by omega)) ?_
  refine z_aload_0 d_Mo_whose_15 ?_
  refine z_getIv d_Mo_whose_16 f_Mo_73 (by first | assumption | exact zS0_at (by assumption) (by omega) | exact zS0_at rfl (by omega)) (by first | assumption | ((try simp (disch := omega) only [zu_same, zu_ne, zcp_ne, zfl_ne]); first | assumption | rfl)) ?_
  refine z_if_le (tgt := 24) d_Mo_whose_19 (by decide) (fun _ => ?_) (fun h => absurd (by decide) h)
  refine z_aload_0 d_Mo_whose_24 ?_
  refine z_iload_1 d_Mo_whose_25 ?_
  refine z_iload_2 d_Mo_whose_26 ?_
  refine z_Vv2 d_Mo_whose_27 k_Mo_441 (by first | assumption | exact zS0_at (by assumption) (by omega) | exact zS0_at rfl (by omega)) (hS.2 _ (fun a h => (zu_row _ _ _ _ h).trans ((g1.1 a h).trans (zu_row _ _ _ _ h)))) ⟨Nat.le_of_ble_eq_true rfl, Nat.le_of_ble_eq_true rfl, Nat.le_of_ble_eq_true rfl, Nat.le_of_ble_eq_true rfl⟩ (Nat.le_of_ble_eq_true rfl) ?_
  rintro w ⟨I3, rfl, e1, e2, e3, e4⟩
  refine z_aload_0 d_Mo_whose_30 ?_
  refine z_getIv d_Mo_whose_31 f_Mo_432 (by first | assumption | exact zS0_at (by assumption) (by omega) | exact zS0_at rfl (by omega)) (by first | assumption | ((try simp (disch := omega) only [zu_same, zu_ne, zcp_ne, zfl_ne]); first | assumption | rfl)) ?_
  refine z_reti d_Mo_whose_34 ?_
  refine ⟨rfl, _, _, rfl, mqF_t (mqF_z (mqF_t (mqF_z mqF_r (by decide)) (nF_m g1)) (by decide)) (lF_m e1), mqJ_r, ?_⟩
  rw [e1.2 0 (by decide) (by decide), zu_same]
theorem t_Mo_sure_n (M : modOk P S) (h0 : s_cnt fb (2 ^ nt) = 0) (hS : wl G I J P S fb nt u a b) : zEi G y_Mo_sure prog_14_method_131_code 3 (some .int) 4 [.ref 145, .int a, .int b] (I, J, P, S) (fun r w => r = -1 ∧ mW I J P S 8 w) := by
  obtain ⟨M0, ⟨M4, M4s⟩, ⟨M5, M5s⟩, ⟨M6, M6s⟩, ⟨M7, M7s⟩, ⟨M20, M20s⟩, ⟨M21, M21s⟩, ⟨M22, M22s⟩, ⟨M26, M26s⟩, ⟨M27, M27s⟩, ⟨M28, M28s⟩, ⟨M30, M30s⟩, ⟨M34, M34s⟩, ⟨M36, M36s⟩, ⟨M37, M37s⟩⟩ := id M
  refine zEi_of (lv := [some (.ref 145), some (.int a), some (.int b)]) (by decide) rfl (Nat.le_of_ble_eq_true rfl) ?_
  refine z_aload_0 d_Mo_sure_0 ?_
  refine z_iconst (a := nI 0) d_Mo_sure_1 (by decide) ?_
  refine z_putI d_Mo_sure_2 f_Mo_70 (by first | assumption | exact zS0_at (by assumption) (by omega) | exact zS0_at rfl (by omega)) ?_
  refine z_aload_0 d_Mo_sure_5 ?_
  refine z_aload_0 d_Mo_sure_6 ?_
  refine z_iload_1 d_Mo_sure_7 ?_
  refine z_iload_2 d_Mo_sure_8 ?_
  refine z_Vi2 d_Mo_sure_9 k_Mo_438 (by first | assumption | exact zS0_at (by assumption) (by omega) | exact zS0_at rfl (by omega)) (hS.1 _ (fun a h => zu_row _ _ _ _ h)) ⟨Nat.le_of_ble_eq_true rfl, Nat.le_of_ble_eq_true rfl, Nat.le_of_ble_eq_true rfl, Nat.le_of_ble_eq_true rfl⟩ (Nat.le_of_ble_eq_true rfl) ?_
  rintro r w ⟨rfl, I2, rfl, g1, g2⟩
  refine z_putI d_Mo_sure_12 f_Mo_73 (by first | assumption | exact zS0_at (by assumption) (by omega) | exact zS0_at rfl (by omega)) ?_
  refine z_aload_0 d_Mo_sure_15 ?_
  refine z_getIv d_Mo_sure_16 f_Mo_73 (by first | assumption | exact zS0_at (by assumption) (by omega) | exact zS0_at rfl (by omega)) (by first | assumption | ((try simp (disch := omega) only [zu_same, zu_ne, zcp_ne, zfl_ne]); first | assumption | rfl)) ?_
  refine z_if_le (tgt := 24) d_Mo_sure_19 (by decide) (fun _ => ?_) (fun h => absurd (by decide) h)
  refine z_aload_0 d_Mo_sure_24 ?_
  refine z_iload_1 d_Mo_sure_25 ?_
  refine z_iload_2 d_Mo_sure_26 ?_
  refine z_Vv2 d_Mo_sure_27 k_Mo_441 (by first | assumption | exact zS0_at (by assumption) (by omega) | exact zS0_at rfl (by omega)) (hS.2 _ (fun a h => (zu_row _ _ _ _ h).trans ((g1.1 a h).trans (zu_row _ _ _ _ h)))) ⟨Nat.le_of_ble_eq_true rfl, Nat.le_of_ble_eq_true rfl, Nat.le_of_ble_eq_true rfl, Nat.le_of_ble_eq_true rfl⟩ (Nat.le_of_ble_eq_true rfl) ?_
  rintro w ⟨I3, rfl, e1, e2, e3, e4⟩
  rw [h0] at e2
  refine z_aload_0 d_Mo_sure_30 ?_
  refine z_getIv d_Mo_sure_31 f_Mo_432 (by first | assumption | exact zS0_at (by assumption) (by omega) | exact zS0_at rfl (by omega)) (by first | assumption | ((try simp (disch := omega) only [zu_same, zu_ne, zcp_ne, zfl_ne]); first | assumption | rfl)) ?_
  refine z_if_ne (tgt := 46) d_Mo_sure_34 (by decide) (fun h => absurd (by decide) h) (fun _ => ?_)
  refine z_aload_0 d_Mo_sure_37 ?_
  refine z_bipush (a := nI 8) d_Mo_sure_38 (by decide) ?_
  refine z_Vi1 d_Mo_sure_40 k_Mo_327 (by first | assumption | exact zS0_at (by assumption) (by omega) | exact zS0_at rfl (by omega)) (t_Mo_refuse M) ⟨Nat.le_of_ble_eq_true rfl, Nat.le_of_ble_eq_true rfl, Nat.le_of_ble_eq_true rfl, Nat.le_of_ble_eq_true rfl⟩ (Nat.le_of_ble_eq_true rfl) ?_
  intro r w hq
  obtain ⟨rfl, rfl⟩ := hq
  refine z_goto (tgt := 50) d_Mo_sure_43 (by decide) ?_
  refine z_reti d_Mo_sure_50 ?_
  exact ⟨rfl, _, _, rfl, mqF_z (mqF_t (mqF_z (mqF_t (mqF_z mqF_r (by decide)) (nF_m g1)) (by decide)) (lF_m e1)) (by decide), mqJ_r, zu_same _ _ _ _⟩
theorem t_Mo_sure (M : modOk P S) (h0 : 0 < s_cnt fb (2 ^ nt)) (hle : s_cnt fb (2 ^ nt) ≤ 64) (hS : wl G I J P S fb nt u a b) : zEi G y_Mo_sure prog_14_method_131_code 3 (some .int) 4 [.ref 145, .int a, .int b] (I, J, P, S) (fun r w => r = fA fb (2 ^ nt) ∧ mW I J P S 0 w) := by
  obtain ⟨M0, ⟨M4, M4s⟩, ⟨M5, M5s⟩, ⟨M6, M6s⟩, ⟨M7, M7s⟩, ⟨M20, M20s⟩, ⟨M21, M21s⟩, ⟨M22, M22s⟩, ⟨M26, M26s⟩, ⟨M27, M27s⟩, ⟨M28, M28s⟩, ⟨M30, M30s⟩, ⟨M34, M34s⟩, ⟨M36, M36s⟩, ⟨M37, M37s⟩⟩ := id M
  refine zEi_of (lv := [some (.ref 145), some (.int a), some (.int b)]) (by decide) rfl (Nat.le_of_ble_eq_true rfl) ?_
  refine z_aload_0 d_Mo_sure_0 ?_
  refine z_iconst (a := nI 0) d_Mo_sure_1 (by decide) ?_
  refine z_putI d_Mo_sure_2 f_Mo_70 (by first | assumption | exact zS0_at (by assumption) (by omega) | exact zS0_at rfl (by omega)) ?_
  refine z_aload_0 d_Mo_sure_5 ?_
  refine z_aload_0 d_Mo_sure_6 ?_
  refine z_iload_1 d_Mo_sure_7 ?_
  refine z_iload_2 d_Mo_sure_8 ?_
  refine z_Vi2 d_Mo_sure_9 k_Mo_438 (by first | assumption | exact zS0_at (by assumption) (by omega) | exact zS0_at rfl (by omega)) (hS.1 _ (fun a h => zu_row _ _ _ _ h)) ⟨Nat.le_of_ble_eq_true rfl, Nat.le_of_ble_eq_true rfl, Nat.le_of_ble_eq_true rfl, Nat.le_of_ble_eq_true rfl⟩ (Nat.le_of_ble_eq_true rfl) ?_
  rintro r w ⟨rfl, I2, rfl, g1, g2⟩
  refine z_putI d_Mo_sure_12 f_Mo_73 (by first | assumption | exact zS0_at (by assumption) (by omega) | exact zS0_at rfl (by omega)) ?_
  refine z_aload_0 d_Mo_sure_15 ?_
  refine z_getIv d_Mo_sure_16 f_Mo_73 (by first | assumption | exact zS0_at (by assumption) (by omega) | exact zS0_at rfl (by omega)) (by first | assumption | ((try simp (disch := omega) only [zu_same, zu_ne, zcp_ne, zfl_ne]); first | assumption | rfl)) ?_
  refine z_if_le (tgt := 24) d_Mo_sure_19 (by decide) (fun _ => ?_) (fun h => absurd (by decide) h)
  refine z_aload_0 d_Mo_sure_24 ?_
  refine z_iload_1 d_Mo_sure_25 ?_
  refine z_iload_2 d_Mo_sure_26 ?_
  refine z_Vv2 d_Mo_sure_27 k_Mo_441 (by first | assumption | exact zS0_at (by assumption) (by omega) | exact zS0_at rfl (by omega)) (hS.2 _ (fun a h => (zu_row _ _ _ _ h).trans ((g1.1 a h).trans (zu_row _ _ _ _ h)))) ⟨Nat.le_of_ble_eq_true rfl, Nat.le_of_ble_eq_true rfl, Nat.le_of_ble_eq_true rfl, Nat.le_of_ble_eq_true rfl⟩ (Nat.le_of_ble_eq_true rfl) ?_
  rintro w ⟨I3, rfl, e1, e2, e3, e4⟩
  refine z_aload_0 d_Mo_sure_30 ?_
  refine z_getIv d_Mo_sure_31 f_Mo_432 (by first | assumption | exact zS0_at (by assumption) (by omega) | exact zS0_at rfl (by omega)) (by first | assumption | ((try simp (disch := omega) only [zu_same, zu_ne, zcp_ne, zfl_ne]); first | assumption | rfl)) ?_
  refine z_if_ne (tgt := 46) d_Mo_sure_34 (by decide) (fun _ => ?_) (fun h => absurd h (nI_ne0 h0 (by omega)))
  refine z_aload_0 d_Mo_sure_46 ?_
  refine z_getIv d_Mo_sure_47 f_Mo_435 (by first | assumption | exact zS0_at (by assumption) (by omega) | exact zS0_at rfl (by omega)) (by first | assumption | ((try simp (disch := omega) only [zu_same, zu_ne, zcp_ne, zfl_ne]); first | assumption | rfl)) ?_
  refine z_reti d_Mo_sure_50 ?_
  refine ⟨rfl, _, _, rfl, mqF_t (mqF_z (mqF_t (mqF_z mqF_r (by decide)) (nF_m g1)) (by decide)) (lF_m e1), mqJ_r, ?_⟩
  rw [e1.2 0 (by decide) (by decide), zu_same]
theorem t_Mo_ask (M : modOk P S) (N : modIn I nt np nl nn) (hu : u < 128) (hle : s_cnt fb (2 ^ nt) ≤ 64) (hbk : o = bkN (fun p => u.testBit p) (fun p => mxA fb (I 150 (12 + p)) (2 ^ nt)) np) (hS : wl G I J P S fb nt u a b) : zEi G y_Mo_ask prog_14_method_133_code 5 (some .int) 4 [.ref 145, .int a, .int b] (I, J, P, S) (fun r w => ((s_cnt fb (2 ^ nt) < 2 ∨ o = none) ∧ r = -1 ∧ mW I J P S 8 w) ∨ (2 ≤ s_cnt fb (2 ^ nt) ∧ ∃ p, o = some p ∧ r = nI p ∧ mW I J P S 0 w)) := by
  obtain ⟨M0, ⟨M4, M4s⟩, ⟨M5, M5s⟩, ⟨M6, M6s⟩, ⟨M7, M7s⟩, ⟨M20, M20s⟩, ⟨M21, M21s⟩, ⟨M22, M22s⟩, ⟨M26, M26s⟩, ⟨M27, M27s⟩, ⟨M28, M28s⟩, ⟨M30, M30s⟩, ⟨M34, M34s⟩, ⟨M36, M36s⟩, ⟨M37, M37s⟩⟩ := id M
  obtain ⟨⟨m0, m0b⟩, ⟨m1, m1b⟩, ⟨m2, m2b⟩, ⟨m3, m3b⟩, mof, mon⟩ := id N
  obtain ⟨mm, hmm⟩ : ∃ mm : Nat → Nat, mm = fun p => mxA fb (I 150 (12 + p)) (2 ^ nt) := ⟨_, rfl⟩
  have h64 : 2 ^ nt ≤ 64 := Nat.pow_le_pow_right (n := 2) (i := nt) (j := 6) (by decide) (by omega)
  have mle : ∀ p, mm p ≤ 64 := fun p => by rw [hmm]; exact Nat.le_trans (mxA_le _) h64
  obtain ⟨tt, htt⟩ : ∃ tt : Nat → Bool, tt = fun p => u.testBit p := ⟨_, rfl⟩
  rw [← hmm, ← htt] at hbk
  refine zEi_of (lv := [some (.ref 145), some (.int a), some (.int b), none, none]) (by decide) rfl (Nat.le_of_ble_eq_true rfl) ?_
  refine z_aload_0 d_Mo_ask_0 ?_
  refine z_iconst (a := nI 0) d_Mo_ask_1 (by decide) ?_
  refine z_putI d_Mo_ask_2 f_Mo_70 (by first | assumption | exact zS0_at (by assumption) (by omega) | exact zS0_at rfl (by omega)) ?_
  refine z_aload_0 d_Mo_ask_5 ?_
  refine z_aload_0 d_Mo_ask_6 ?_
  refine z_iload_1 d_Mo_ask_7 ?_
  refine z_iload_2 d_Mo_ask_8 ?_
  refine z_Vi2 d_Mo_ask_9 k_Mo_438 (by first | assumption | exact zS0_at (by assumption) (by omega) | exact zS0_at rfl (by omega)) (hS.1 _ (fun a h => zu_row _ _ _ _ h)) ⟨Nat.le_of_ble_eq_true rfl, Nat.le_of_ble_eq_true rfl, Nat.le_of_ble_eq_true rfl, Nat.le_of_ble_eq_true rfl⟩ (Nat.le_of_ble_eq_true rfl) ?_
  rintro r w ⟨rfl, I2, rfl, g1, g2⟩
  refine z_putI d_Mo_ask_12 f_Mo_73 (by first | assumption | exact zS0_at (by assumption) (by omega) | exact zS0_at rfl (by omega)) ?_
  refine z_aload_0 d_Mo_ask_15 ?_
  refine z_getIv d_Mo_ask_16 f_Mo_73 (by first | assumption | exact zS0_at (by assumption) (by omega) | exact zS0_at rfl (by omega)) (by first | assumption | ((try simp (disch := omega) only [zu_same, zu_ne, zcp_ne, zfl_ne]); first | assumption | rfl)) ?_
  refine z_if_le (tgt := 24) d_Mo_ask_19 (by decide) (fun _ => ?_) (fun h => absurd (by decide) h)
  refine z_aload_0 d_Mo_ask_24 ?_
  refine z_iload_1 d_Mo_ask_25 ?_
  refine z_iload_2 d_Mo_ask_26 ?_
  refine z_Vv2 d_Mo_ask_27 k_Mo_441 (by first | assumption | exact zS0_at (by assumption) (by omega) | exact zS0_at rfl (by omega)) (hS.2 _ (fun a h => (zu_row _ _ _ _ h).trans ((g1.1 a h).trans (zu_row _ _ _ _ h)))) ⟨Nat.le_of_ble_eq_true rfl, Nat.le_of_ble_eq_true rfl, Nat.le_of_ble_eq_true rfl, Nat.le_of_ble_eq_true rfl⟩ (Nat.le_of_ble_eq_true rfl) ?_
  rintro w ⟨I3, rfl, e1, e2, e3, e4⟩
  have hq1 : mqF I I3 := mqF_t (mqF_z (mqF_t (mqF_z mqF_r (by decide)) (nF_m g1)) (by decide)) (lF_m e1)
  have e150 : I3 150 = I 150 := hq1.1 150 (by decide) (by decide)
  have e0 : I3 145 0 = nI 0 := by rw [e1.2 0 (by decide) (by decide), zu_same]
  have e33 : I3 145 33 = nI u := by rw [e1.2 33 (by decide) (by decide), zu_ne _ _ _ _ (by decide)]; exact g2
  have N3 : modIn I3 nt np nl nn := modIn_c N e150
  have m1' : I3 150 1 = nI np := by rw [e150]; exact m1
  have hma : ∀ p, p < 7 → zEi  G y_Mo_mostAlike prog_14_method_132_code 6 (some .int) 3 [.ref 145, .int (nI p)] (I3, J, P, S) (fun r w => r = nI (mm p) ∧ w = (I3, J, P, S)) := fun p hp => by
    have q := t_Mo_mostAlike (G := G) (J := J) (p := p) M N3 hp e4
    rw [e150] at q
    rw [hmm]
    exact q
  have lp : ∀ m j, np - j < m → j ≤ np → zA G y_Mo_ask prog_14_method_133_code 5 (some .int) (zRm 4 0 0) (zM G 0 0 (fun r w' => ∃ x, r = some (.int x) ∧ (fun r w => ((s_cnt fb (2 ^ nt) < 2 ∨ o = none) ∧ r = -1 ∧ mW I J P S 8 w) ∨ (2 ≤ s_cnt fb (2 ^ nt) ∧ ∃ p, o = some p ∧ r = nI p ∧ mW I J P S 0 w)) x w')) 35 [some (.ref 145), some (.int a), some (.int b), some (.int (zo (bkN tt mm j))), some (.int (nI j))] [] (I3, J, P, S) 0 0 := by
    intro m
    induction m with
    | zero => intro j h; exact absurd h (Nat.not_lt_zero _)
    | succ m ih =>
      intro j hm hj
      refine z_iload_4 d_Mo_ask_35 ?_
      refine z_aload_0 d_Mo_ask_37 ?_
      refine z_getR d_Mo_ask_38 f_Mo_35 (by first | assumption | exact zS0_at (by assumption) (by omega) | exact zS0_at rfl (by omega)) (by first | assumption | exact zS0_at (by assumption) (by omega) | exact zS0_at rfl (by omega)) ?_
      refine z_iconst (a := nI 1) d_Mo_ask_41 (by decide) ?_
      first | refine z_ialdNv d_Mo_ask_42 (by first | assumption | exact zS0_at (by assumption) (by omega) | exact zS0_at rfl (by omega)) (by omega) (by first | decide | omega) (by first | assumption | ((try simp (disch := omega) only [zu_same, zu_ne, zcp_ne, zfl_ne]); first | assumption | rfl)) ?_ | refine z_iald d_Mo_ask_42 (by first | assumption | exact zS0_at (by assumption) (by omega) | exact zS0_at rfl (by omega)) (by first | assumption | exact zS0_at (by assumption) (by omega) | exact zS0_at rfl (by omega)) ?_
      refine z_icmp_ge (tgt := 85) d_Mo_ask_43 (by decide) (fun hc => ?_) (fun hc => ?_)
      · have hc := (nI_leI (by omega) (by omega)).mp hc
        obtain rfl : j = np := by omega
        rw [← hbk]
        refine z_aload_0 d_Mo_ask_85 ?_
        refine z_getIv d_Mo_ask_86 f_Mo_432 (by first | assumption | exact zS0_at (by assumption) (by omega) | exact zS0_at rfl (by omega)) (by first | assumption | ((try simp (disch := omega) only [zu_same, zu_ne, zcp_ne, zfl_ne]); first | assumption | rfl)) ?_
        refine z_iconst (a := nI 2) d_Mo_ask_89 (by decide) ?_
        refine z_icmp_lt (tgt := 97) d_Mo_ask_90 (by decide) (fun hd => ?_) (fun hd => ?_)
        · have hd := (nI_ltI (by omega) (by omega)).mp hd
          refine z_aload_0 d_Mo_ask_97 ?_
          refine z_bipush (a := nI 8) d_Mo_ask_98 (by decide) ?_
          refine z_Vi1 d_Mo_ask_100 k_Mo_327 (by first | assumption | exact zS0_at (by assumption) (by omega) | exact zS0_at rfl (by omega)) (t_Mo_refuse M) ⟨Nat.le_of_ble_eq_true rfl, Nat.le_of_ble_eq_true rfl, Nat.le_of_ble_eq_true rfl, Nat.le_of_ble_eq_true rfl⟩ (Nat.le_of_ble_eq_true rfl) ?_
          intro r w hq
          obtain ⟨rfl, rfl⟩ := hq
          refine z_goto (tgt := 107) d_Mo_ask_103 (by decide) ?_
          refine z_reti d_Mo_ask_107 ?_
          exact Or.inl ⟨Or.inl hd, rfl, _, _, rfl, mqF_z hq1 (by decide), mqJ_r, zu_same _ _ _ _⟩
        · have hd : 2 ≤ s_cnt fb (2 ^ nt) := by
            rcases Nat.lt_or_ge (s_cnt fb (2 ^ nt)) 2 with h | h
            · exact absurd (nI_lt h (by omega)) hd
            · exact h
          cases o with
          | none =>
            refine z_iload_3 d_Mo_ask_93 ?_
            refine z_if_ge (tgt := 106) d_Mo_ask_94 (by decide) (fun h => absurd h (by decide)) (fun _ => ?_)
            refine z_aload_0 d_Mo_ask_97 ?_
            refine z_bipush (a := nI 8) d_Mo_ask_98 (by decide) ?_
            refine z_Vi1 d_Mo_ask_100 k_Mo_327 (by first | assumption | exact zS0_at (by assumption) (by omega) | exact zS0_at rfl (by omega)) (t_Mo_refuse M) ⟨Nat.le_of_ble_eq_true rfl, Nat.le_of_ble_eq_true rfl, Nat.le_of_ble_eq_true rfl, Nat.le_of_ble_eq_true rfl⟩ (Nat.le_of_ble_eq_true rfl) ?_
            intro r w hq
            obtain ⟨rfl, rfl⟩ := hq
            refine z_goto (tgt := 107) d_Mo_ask_103 (by decide) ?_
            refine z_reti d_Mo_ask_107 ?_
            exact Or.inl ⟨Or.inr rfl, rfl, _, _, rfl, mqF_z hq1 (by decide), mqJ_r, zu_same _ _ _ _⟩
          | some p =>
            have hp := bkN_lt _ _ hbk.symm
            refine z_iload_3 d_Mo_ask_93 ?_
            refine z_if_ge (tgt := 106) d_Mo_ask_94 (by decide) (fun _ => ?_) (fun h => absurd (Int32.not_lt.mp (nI_pos (show p < 2 ^ 31 by omega))) h)
            refine z_iload_3 d_Mo_ask_106 ?_
            refine z_reti d_Mo_ask_107 ?_
            exact Or.inr ⟨hd, p, rfl, rfl, _, _, rfl, hq1, mqJ_r, e0⟩
      · have hc : j < np := Nat.lt_of_not_le (fun q => hc (nI_le q (by omega)))
        have etj : tt j = u.testBit j := by rw [htt]
        have q0 := ih (j + 1) (by omega) (by omega)
        rw [show bkN tt mm (j + 1) = if tt j then bkN tt mm j else match bkN tt mm j with | none => some j | some b => if mm j < mm b then some j else some b from rfl] at q0
        refine z_aload_0 d_Mo_ask_46 ?_
        refine z_getIv d_Mo_ask_47 f_Mo_423 (by first | assumption | exact zS0_at (by assumption) (by omega) | exact zS0_at rfl (by omega)) (by first | assumption | ((try simp (disch := omega) only [zu_same, zu_ne, zcp_ne, zfl_ne]); first | assumption | rfl)) ?_
        refine z_iload_4 d_Mo_ask_50 ?_
        refine z_Si2 d_Mo_ask_52 k_Mo_109 (t_Mo_has) ⟨Nat.le_of_ble_eq_true rfl, Nat.le_of_ble_eq_true rfl, Nat.le_of_ble_eq_true rfl, Nat.le_of_ble_eq_true rfl⟩ (Nat.le_of_ble_eq_true rfl) ?_
        intro r w hq
        rcases hq with ⟨⟨hz, rfl⟩ | ⟨hz, rfl⟩, rfl⟩
        · rw [zbit, zB_nI (by omega), ← etj] at hz
          rw [if_pos hz] at q0
          refine z_if_ne (tgt := 79) d_Mo_ask_55 (by decide) (fun _ => ?_) (fun h => absurd h (by decide))
          first | refine z_iinc_4 d_Mo_ask_79 rfl (zi_inc _) ?_ | refine z_iinc_4 d_Mo_ask_79 rfl rfl ?_
          refine z_goto (tgt := 35) d_Mo_ask_82 (by decide) ?_
          exact q0
        · rw [zbit, zB_nI (by omega), ← etj] at hz
          rw [if_neg hz] at q0
          cases hbj : bkN tt mm j with
          | none =>
            rw [hbj] at q0
            refine z_if_ne (tgt := 79) d_Mo_ask_55 (by decide) (fun h => absurd (by decide) h) (fun _ => ?_)
            refine z_iload_3 d_Mo_ask_58 ?_
            refine z_if_lt (tgt := 76) d_Mo_ask_59 (by decide) (fun _ => ?_) (fun h => absurd (by decide) h)
            refine z_iload_4 d_Mo_ask_76 ?_
            first | refine z_istore_3 d_Mo_ask_78 rfl ?_ | (refine z_forget_2 ?_; refine z_istore_3 d_Mo_ask_78 rfl ?_)
            first | refine z_iinc_4 d_Mo_ask_79 rfl (zi_inc _) ?_ | refine z_iinc_4 d_Mo_ask_79 rfl rfl ?_
            refine z_goto (tgt := 35) d_Mo_ask_82 (by decide) ?_
            exact q0
          | some b' =>
            rw [hbj] at q0
            have hbl := bkN_lt j b' hbj
            have mb := mle b'
            have mj := mle j
            refine z_if_ne (tgt := 79) d_Mo_ask_55 (by decide) (fun h => absurd (by decide) h) (fun _ => ?_)
            refine z_iload_3 d_Mo_ask_58 ?_
            refine z_if_lt (tgt := 76) d_Mo_ask_59 (by decide) (fun h => absurd h (nI_pos (show b' < 2 ^ 31 by omega))) (fun _ => ?_)
            refine z_aload_0 d_Mo_ask_62 ?_
            refine z_iload_4 d_Mo_ask_63 ?_
            refine z_Vi1 d_Mo_ask_65 k_Mo_444 (by first | assumption | exact zS0_at (by assumption) (by omega) | exact zS0_at rfl (by omega)) (hma j (by omega)) ⟨Nat.le_of_ble_eq_true rfl, Nat.le_of_ble_eq_true rfl, Nat.le_of_ble_eq_true rfl, Nat.le_of_ble_eq_true rfl⟩ (Nat.le_of_ble_eq_true rfl) ?_
            intro r w hq
            obtain ⟨rfl, rfl⟩ := hq
            refine z_aload_0 d_Mo_ask_68 ?_
            refine z_iload_3 d_Mo_ask_69 ?_
            refine z_Vi1 d_Mo_ask_70 k_Mo_444 (by first | assumption | exact zS0_at (by assumption) (by omega) | exact zS0_at rfl (by omega)) (hma b' (by omega)) ⟨Nat.le_of_ble_eq_true rfl, Nat.le_of_ble_eq_true rfl, Nat.le_of_ble_eq_true rfl, Nat.le_of_ble_eq_true rfl⟩ (Nat.le_of_ble_eq_true rfl) ?_
            intro r w hq
            obtain ⟨rfl, rfl⟩ := hq
            refine z_icmp_ge (tgt := 79) d_Mo_ask_73 (by decide) (fun hd => ?_) (fun hd => ?_)
            · have hd := (nI_leI (show mm b' < 2 ^ 31 by omega) (by omega)).mp hd
              rw [show (match some b' with | none => some j | some b => if mm j < mm b then some j else some b) = some b' from if_neg (by omega)] at q0
              first | refine z_iinc_4 d_Mo_ask_79 rfl (zi_inc _) ?_ | refine z_iinc_4 d_Mo_ask_79 rfl rfl ?_
              refine z_goto (tgt := 35) d_Mo_ask_82 (by decide) ?_
              exact q0
            · have hd : mm j < mm b' := Nat.lt_of_not_le (fun q => hd (nI_le q (by omega)))
              rw [show (match some b' with | none => some j | some b => if mm j < mm b then some j else some b) = some j from if_pos hd] at q0
              refine z_iload_4 d_Mo_ask_76 ?_
              first | refine z_istore_3 d_Mo_ask_78 rfl ?_ | (refine z_forget_2 ?_; refine z_istore_3 d_Mo_ask_78 rfl ?_)
              first | refine z_iinc_4 d_Mo_ask_79 rfl (zi_inc _) ?_ | refine z_iinc_4 d_Mo_ask_79 rfl rfl ?_
              refine z_goto (tgt := 35) d_Mo_ask_82 (by decide) ?_
              exact q0
  refine z_iconst (a := -1) d_Mo_ask_30 (by decide) ?_
  first | refine z_istore_3 d_Mo_ask_31 rfl ?_ | (refine z_forget_2 ?_; refine z_istore_3 d_Mo_ask_31 rfl ?_)
  refine z_iconst (a := nI 0) d_Mo_ask_32 (by decide) ?_
  first | refine z_istore_4 d_Mo_ask_33 rfl ?_ | (refine z_forget_3 ?_; refine z_istore_4 d_Mo_ask_33 rfl ?_)
  exact lp (np + 1) 0 (by omega) (by omega)
end SO0
