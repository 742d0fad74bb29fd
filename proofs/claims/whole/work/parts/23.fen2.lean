/-! the class: Fen's deeds, Years, Tray, the library's fill -/
section C3
variable {G : zG} {I : Nat → Nat → Int32} {J : Nat → Nat → Int64} {P : Nat → Nat → Option Nat} {S : List (Nat × Nat)} {f g nt np nl nn : Nat} {a b : Int32} {x : Int64}
theorem t_Fen_canHand {t k p q : Nat} (F : fenOk P S f) (N : fenIn I f nt np nl nn) (ht : t < nn) (hk : I (f + 5) t = nI k) (hp : I (f + 6) t = nI p) (hp2 : p < np) (hq2 : q < np) : zEi G y_Fen_canHand prog_2_method_18_code 3 (some .boolean) 2 [.ref f, .int (nI t), .int (nI q)] (I, J, P, S) (fun r w => ((zbit (I (f + 3) p) q ∧ zbit (I (f + 2) q) k) ∧ r = nI 1 ∨ ¬ (zbit (I (f + 3) p) q ∧ zbit (I (f + 2) q) k) ∧ r = nI 0) ∧ w = (I, J, P, S)) := by
  obtain ⟨F0, ⟨F8, F8s⟩, ⟨F9, F9s⟩, ⟨F10, F10s⟩, ⟨F11, F11s⟩, ⟨F12, F12s⟩, ⟨F13, F13s⟩, ⟨F14, F14s⟩, ⟨F15, F15s⟩, ⟨F16, F16s⟩, ⟨F17, F17s⟩, ⟨F18, F18s⟩, ⟨F19, F19s⟩, ⟨Y3, Y3s⟩, ⟨Y4, Y4s⟩, ⟨Y5, Y5s⟩, ⟨Y6, Y6s⟩⟩ := id F
  obtain ⟨⟨n1, n1b⟩, ⟨n2, n2b⟩, ⟨n3, n3b⟩, ⟨n4, n4b⟩, nof, non⟩ := id N
  have hg : ¬ I (f + 6) t < 0 := by rw [hp]; exact nI_pos (by omega)
  refine zEi_of (lv := [some (.ref f), some (.int (nI t)), some (.int (nI q))]) (by decide) rfl (Nat.le_of_ble_eq_true rfl) ?_
  refine z_aload_0 d_Fen_canHand_0 ?_
  refine z_iload_1 d_Fen_canHand_1 ?_
  refine z_Vi1 d_Fen_canHand_2 k_Fen_102 (by assumption) (t_Fen_isGone (by assumption) (by omega)) ⟨Nat.le_of_ble_eq_true rfl, Nat.le_of_ble_eq_true rfl, Nat.le_of_ble_eq_true rfl, Nat.le_of_ble_eq_true rfl⟩ (Nat.le_of_ble_eq_true rfl) ?_
  intro r w hq
  rcases hq with ⟨⟨hz2, rfl⟩ | ⟨hz2, rfl⟩, rfl⟩
  · first
    | contradiction
    | ( skip
        refine z_if_ne (tgt := 44) d_Fen_canHand_5 (by decide) (fun _ => ?_) (fun h => absurd h (by decide))
        refine z_iconst (a := nI 0) d_Fen_canHand_44 (by decide) ?_
        refine z_retz d_Fen_canHand_45 (by first | exact zb0 | exact zb1 | assumption) ?_
        first | exact ⟨Or.inl ⟨⟨zbit_p0.mp (by assumption), by assumption⟩, rfl⟩, rfl⟩ | exact ⟨Or.inr ⟨fun q => absurd q.1 (zbit_n0.mp (by assumption)), rfl⟩, rfl⟩ | exact ⟨Or.inr ⟨fun q => absurd q.2 (by assumption), rfl⟩, rfl⟩ | exact ⟨Or.inl ⟨⟨zbit_p.mp (by assumption), by assumption⟩, rfl⟩, rfl⟩ | exact ⟨Or.inr ⟨fun q => absurd q.1 (zbit_n.mp (by assumption)), rfl⟩, rfl⟩)
  · first
    | contradiction
    | ( skip
        refine z_if_ne (tgt := 44) d_Fen_canHand_5 (by decide) (fun h => absurd h (by decide)) (fun _ => ?_)
        refine z_aload_0 d_Fen_canHand_8 ?_
        refine z_getR d_Fen_canHand_9 f_Fen_22 (by assumption) (by assumption) ?_
        refine z_aload_0 d_Fen_canHand_12 ?_
        refine z_getR d_Fen_canHand_13 f_Fen_31 (by assumption) (by assumption) ?_
        refine z_iload_1 d_Fen_canHand_16 ?_
        first | refine z_ialdNv d_Fen_canHand_17 (by assumption) (by omega) (by decide) (by first | assumption | ((try simp (disch := omega) only [zu_same, zu_ne, zcp_ne, zfl_ne]); first | assumption | rfl)) ?_ | refine z_iald d_Fen_canHand_17 (by assumption) (by assumption) ?_
        first | refine z_ialdNv d_Fen_canHand_18 (by assumption) (by omega) (by decide) (by first | assumption | ((try simp (disch := omega) only [zu_same, zu_ne, zcp_ne, zfl_ne]); first | assumption | rfl)) ?_ | refine z_iald d_Fen_canHand_18 (by assumption) (by assumption) ?_
        refine z_iload_2 d_Fen_canHand_19 ?_
        refine z_ishr d_Fen_canHand_20 ?_
        refine z_iconst (a := nI 1) d_Fen_canHand_21 (by decide) ?_
        refine z_iand d_Fen_canHand_22 ?_
        refine z_if_eq (tgt := 44) d_Fen_canHand_23 (by decide) (fun h23 => ?_) (fun h23 => ?_)
        · first
          | (simp (disch := omega) only [← nI_0, nI_leI, nI_ltI, nI_eq, not_true_eq_false, not_false_eq_true] at h23; done)
          | (simp (disch := omega) only [← nI_0, nI_leI, nI_ltI, nI_eq, not_true_eq_false, not_false_eq_true] at h23; omega)
          | contradiction
          | exact absurd h23 (Int32.not_lt.mpr (by assumption))
          | exact absurd h23 (Int32.not_le.mpr (by assumption))
          | ( try simp (disch := omega) only [← nI_0, nI_leI, nI_ltI, nI_eq, not_true_eq_false, not_false_eq_true] at h23
              (try have h23b := zbit_n0.mp h23); (try have h23b := zbit_p0.mp h23)
              refine z_iconst (a := nI 0) d_Fen_canHand_44 (by decide) ?_
              refine z_retz d_Fen_canHand_45 (by first | exact zb0 | exact zb1 | assumption) ?_
              first | exact ⟨Or.inl ⟨⟨zbit_p0.mp (by assumption), by assumption⟩, rfl⟩, rfl⟩ | exact ⟨Or.inr ⟨fun q => absurd q.1 (zbit_n0.mp (by assumption)), rfl⟩, rfl⟩ | exact ⟨Or.inr ⟨fun q => absurd q.2 (by assumption), rfl⟩, rfl⟩ | exact ⟨Or.inl ⟨⟨zbit_p.mp (by assumption), by assumption⟩, rfl⟩, rfl⟩ | exact ⟨Or.inr ⟨fun q => absurd q.1 (zbit_n.mp (by assumption)), rfl⟩, rfl⟩)
        · first
          | (simp (disch := omega) only [← nI_0, nI_leI, nI_ltI, nI_eq, not_true_eq_false, not_false_eq_true] at h23; done)
          | (simp (disch := omega) only [← nI_0, nI_leI, nI_ltI, nI_eq, not_true_eq_false, not_false_eq_true] at h23; omega)
          | contradiction
          | exact absurd h23 (Int32.not_lt.mpr (by assumption))
          | exact absurd h23 (Int32.not_le.mpr (by assumption))
          | ( try simp (disch := omega) only [← nI_0, nI_leI, nI_ltI, nI_eq, not_true_eq_false, not_false_eq_true] at h23
              (try have h23b := zbit_n0.mp h23); (try have h23b := zbit_p0.mp h23)
              refine z_aload_0 d_Fen_canHand_26 ?_
              refine z_iload_2 d_Fen_canHand_27 ?_
              refine z_aload_0 d_Fen_canHand_28 ?_
              refine z_getR d_Fen_canHand_29 f_Fen_28 (by assumption) (by assumption) ?_
              refine z_iload_1 d_Fen_canHand_32 ?_
              first | refine z_ialdNv d_Fen_canHand_33 (by assumption) (by omega) (by decide) (by first | assumption | ((try simp (disch := omega) only [zu_same, zu_ne, zcp_ne, zfl_ne]); first | assumption | rfl)) ?_ | refine z_iald d_Fen_canHand_33 (by assumption) (by assumption) ?_
              refine z_Vi2 d_Fen_canHand_34 k_Fen_98 (by assumption) (t_Fen_isTrue (by assumption) (by omega)) ⟨Nat.le_of_ble_eq_true rfl, Nat.le_of_ble_eq_true rfl, Nat.le_of_ble_eq_true rfl, Nat.le_of_ble_eq_true rfl⟩ (Nat.le_of_ble_eq_true rfl) ?_
              intro r w hq
              rcases hq with ⟨⟨hz34, rfl⟩ | ⟨hz34, rfl⟩, rfl⟩
              · first
                | contradiction
                | ( skip
                    refine z_if_eq (tgt := 44) d_Fen_canHand_37 (by decide) (fun h => absurd h (by decide)) (fun _ => ?_)
                    refine z_iconst (a := nI 1) d_Fen_canHand_40 (by decide) ?_
                    refine z_goto (tgt := 45) d_Fen_canHand_41 (by decide) ?_
                    refine z_retz d_Fen_canHand_45 (by first | exact zb0 | exact zb1 | assumption) ?_
                    first | exact ⟨Or.inl ⟨⟨zbit_p0.mp (by assumption), by assumption⟩, rfl⟩, rfl⟩ | exact ⟨Or.inr ⟨fun q => absurd q.1 (zbit_n0.mp (by assumption)), rfl⟩, rfl⟩ | exact ⟨Or.inr ⟨fun q => absurd q.2 (by assumption), rfl⟩, rfl⟩ | exact ⟨Or.inl ⟨⟨zbit_p.mp (by assumption), by assumption⟩, rfl⟩, rfl⟩ | exact ⟨Or.inr ⟨fun q => absurd q.1 (zbit_n.mp (by assumption)), rfl⟩, rfl⟩)
              · first
                | contradiction
                | ( skip
                    refine z_if_eq (tgt := 44) d_Fen_canHand_37 (by decide) (fun _ => ?_) (fun h => absurd h (by decide))
                    refine z_iconst (a := nI 0) d_Fen_canHand_44 (by decide) ?_
                    refine z_retz d_Fen_canHand_45 (by first | exact zb0 | exact zb1 | assumption) ?_
                    first | exact ⟨Or.inl ⟨⟨zbit_p0.mp (by assumption), by assumption⟩, rfl⟩, rfl⟩ | exact ⟨Or.inr ⟨fun q => absurd q.1 (zbit_n0.mp (by assumption)), rfl⟩, rfl⟩ | exact ⟨Or.inr ⟨fun q => absurd q.2 (by assumption), rfl⟩, rfl⟩ | exact ⟨Or.inl ⟨⟨zbit_p.mp (by assumption), by assumption⟩, rfl⟩, rfl⟩ | exact ⟨Or.inr ⟨fun q => absurd q.1 (zbit_n.mp (by assumption)), rfl⟩, rfl⟩)))
theorem t_Fen_canHand0 {t q : Nat} (F : fenOk P S f) (N : fenIn I f nt np nl nn) (ht : t < nn) (hp : I (f + 6) t = -1) : zEi G y_Fen_canHand prog_2_method_18_code 3 (some .boolean) 2 [.ref f, .int (nI t), .int (nI q)] (I, J, P, S) (fun r w => r = nI 0 ∧ w = (I, J, P, S)) := by
  obtain ⟨F0, ⟨F8, F8s⟩, ⟨F9, F9s⟩, ⟨F10, F10s⟩, ⟨F11, F11s⟩, ⟨F12, F12s⟩, ⟨F13, F13s⟩, ⟨F14, F14s⟩, ⟨F15, F15s⟩, ⟨F16, F16s⟩, ⟨F17, F17s⟩, ⟨F18, F18s⟩, ⟨F19, F19s⟩, ⟨Y3, Y3s⟩, ⟨Y4, Y4s⟩, ⟨Y5, Y5s⟩, ⟨Y6, Y6s⟩⟩ := id F
  obtain ⟨⟨n1, n1b⟩, ⟨n2, n2b⟩, ⟨n3, n3b⟩, ⟨n4, n4b⟩, nof, non⟩ := id N
  have hg : I (f + 6) t < 0 := by rw [hp]; decide
  refine zEi_of (lv := [some (.ref f), some (.int (nI t)), some (.int (nI q))]) (by decide) rfl (Nat.le_of_ble_eq_true rfl) ?_
  refine z_aload_0 d_Fen_canHand_0 ?_
  refine z_iload_1 d_Fen_canHand_1 ?_
  refine z_Vi1 d_Fen_canHand_2 k_Fen_102 (by assumption) (t_Fen_isGone (by assumption) (by omega)) ⟨Nat.le_of_ble_eq_true rfl, Nat.le_of_ble_eq_true rfl, Nat.le_of_ble_eq_true rfl, Nat.le_of_ble_eq_true rfl⟩ (Nat.le_of_ble_eq_true rfl) ?_
  intro r w hq
  rcases hq with ⟨⟨hz2, rfl⟩ | ⟨hz2, rfl⟩, rfl⟩
  · first
    | contradiction
    | ( skip
        refine z_if_ne (tgt := 44) d_Fen_canHand_5 (by decide) (fun _ => ?_) (fun h => absurd h (by decide))
        refine z_iconst (a := nI 0) d_Fen_canHand_44 (by decide) ?_
        refine z_retz d_Fen_canHand_45 (by first | exact zb0 | exact zb1 | assumption) ?_
        exact ⟨rfl, rfl⟩)
  · first
    | contradiction
    | ( skip
        refine z_if_ne (tgt := 44) d_Fen_canHand_5 (by decide) (fun h => absurd h (by decide)) (fun _ => ?_)
        contradiction)
/-- a PASS: what the giver got, passes, how often passed, where it is, who held it -/
def s_hand (I : Nat → Nat → Int32) (f t k p q : Nat) : Nat → Nat → Int32 :=
  zu (zu (zu (zu (zu I (f + 4) p (I (f + 4) p + I (f + 1) k)) f 5 (I f 5 + 1)) (f + 8) t (I (f + 8) t + 1)) (f + 6) t (nI q)) (f + 7) t (I (f + 7) t ||| (nI 1 <<< (nI q &&& 31)))
theorem t_Fen_hand {t k p q : Nat} (F : fenOk P S f) (N : fenIn I f nt np nl nn) (ht : t < nn) (hk : I (f + 5) t = nI k) (hk2 : k < nt) (hp : I (f + 6) t = nI p) (hp2 : p < np) : zEv G y_Fen_hand prog_2_method_19_code 3 2 0 0 [.ref f, .int (nI t), .int (nI q)] (I, J, P, S) (fun w => w = (s_hand I f t k p q, J, P, S)) := by
  obtain ⟨F0, ⟨F8, F8s⟩, ⟨F9, F9s⟩, ⟨F10, F10s⟩, ⟨F11, F11s⟩, ⟨F12, F12s⟩, ⟨F13, F13s⟩, ⟨F14, F14s⟩, ⟨F15, F15s⟩, ⟨F16, F16s⟩, ⟨F17, F17s⟩, ⟨F18, F18s⟩, ⟨F19, F19s⟩, ⟨Y3, Y3s⟩, ⟨Y4, Y4s⟩, ⟨Y5, Y5s⟩, ⟨Y6, Y6s⟩⟩ := id F
  obtain ⟨⟨n1, n1b⟩, ⟨n2, n2b⟩, ⟨n3, n3b⟩, ⟨n4, n4b⟩, nof, non⟩ := id N
  refine zEv_of (lv := [some (.ref f), some (.int (nI t)), some (.int (nI q))]) (by decide) rfl (Nat.le_of_ble_eq_true rfl) ?_
  refine z_aload_0 d_Fen_hand_0 ?_
  refine z_getR d_Fen_hand_1 f_Fen_25 (by assumption) (by assumption) ?_
  refine z_aload_0 d_Fen_hand_4 ?_
  refine z_getR d_Fen_hand_5 f_Fen_31 (by assumption) (by assumption) ?_
  refine z_iload_1 d_Fen_hand_8 ?_
  first | refine z_ialdNv d_Fen_hand_9 (by assumption) (by omega) (by decide) (by first | assumption | ((try simp (disch := omega) only [zu_same, zu_ne, zcp_ne, zfl_ne]); first | assumption | rfl)) ?_ | refine z_iald d_Fen_hand_9 (by assumption) (by assumption) ?_
  first | refine z_dup2 rfl rfl d_Fen_hand_10 ?_ | refine z_dup2l rfl d_Fen_hand_10 ?_
  first | refine z_ialdNv d_Fen_hand_11 (by assumption) (by omega) (by decide) (by first | assumption | ((try simp (disch := omega) only [zu_same, zu_ne, zcp_ne, zfl_ne]); first | assumption | rfl)) ?_ | refine z_iald d_Fen_hand_11 (by assumption) (by assumption) ?_
  refine z_aload_0 d_Fen_hand_12 ?_
  refine z_getR d_Fen_hand_13 f_Fen_15 (by assumption) (by assumption) ?_
  refine z_aload_0 d_Fen_hand_16 ?_
  refine z_getR d_Fen_hand_17 f_Fen_28 (by assumption) (by assumption) ?_
  refine z_iload_1 d_Fen_hand_20 ?_
  first | refine z_ialdNv d_Fen_hand_21 (by assumption) (by omega) (by decide) (by first | assumption | ((try simp (disch := omega) only [zu_same, zu_ne, zcp_ne, zfl_ne]); first | assumption | rfl)) ?_ | refine z_iald d_Fen_hand_21 (by assumption) (by assumption) ?_
  first | refine z_ialdNv d_Fen_hand_22 (by assumption) (by omega) (by decide) (by first | assumption | ((try simp (disch := omega) only [zu_same, zu_ne, zcp_ne, zfl_ne]); first | assumption | rfl)) ?_ | refine z_iald d_Fen_hand_22 (by assumption) (by assumption) ?_
  first | refine z_iaddN d_Fen_hand_23 ?_ | refine z_iadd d_Fen_hand_23 ?_
  first | refine z_iastN d_Fen_hand_24 (by assumption) (by omega) (by decide) ?_ | refine z_iast d_Fen_hand_24 (by assumption) (by assumption) ?_
  refine z_aload_0 d_Fen_hand_25 ?_
  refine z_dup rfl d_Fen_hand_26 ?_
  refine z_getIv d_Fen_hand_27 f_Fen_69 (by assumption) (by first | assumption | ((try simp (disch := omega) only [zu_same, zu_ne, zcp_ne, zfl_ne]); first | assumption | rfl)) ?_
  refine z_iconst (a := nI 1) d_Fen_hand_30 (by decide) ?_
  first | refine z_iaddN d_Fen_hand_31 ?_ | refine z_iadd d_Fen_hand_31 ?_
  refine z_putI d_Fen_hand_32 f_Fen_69 (by assumption) ?_
  refine z_aload_0 d_Fen_hand_35 ?_
  refine z_getR d_Fen_hand_36 f_Fen_37 (by assumption) (by assumption) ?_
  refine z_iload_1 d_Fen_hand_39 ?_
  first | refine z_dup2 rfl rfl d_Fen_hand_40 ?_ | refine z_dup2l rfl d_Fen_hand_40 ?_
  first | refine z_ialdNv d_Fen_hand_41 (by assumption) (by omega) (by decide) (by first | assumption | ((try simp (disch := omega) only [zu_same, zu_ne, zcp_ne, zfl_ne]); first | assumption | rfl)) ?_ | refine z_iald d_Fen_hand_41 (by assumption) (by assumption) ?_
  refine z_iconst (a := nI 1) d_Fen_hand_42 (by decide) ?_
  first | refine z_iaddN d_Fen_hand_43 ?_ | refine z_iadd d_Fen_hand_43 ?_
  first | refine z_iastN d_Fen_hand_44 (by assumption) (by omega) (by decide) ?_ | refine z_iast d_Fen_hand_44 (by assumption) (by assumption) ?_
  refine z_aload_0 d_Fen_hand_45 ?_
  refine z_iload_1 d_Fen_hand_46 ?_
  refine z_iload_2 d_Fen_hand_47 ?_
  refine z_Vv2 d_Fen_hand_48 k_Fen_109 (by assumption) (t_Fen_putOn (by assumption) (by omega)) ⟨Nat.le_of_ble_eq_true rfl, Nat.le_of_ble_eq_true rfl, Nat.le_of_ble_eq_true rfl, Nat.le_of_ble_eq_true rfl⟩ (Nat.le_of_ble_eq_true rfl) ?_
  intro w hq
  obtain rfl := hq
  refine z_retv d_Fen_hand_51 ?_
  (simp (disch := omega) only [s_hand, zu_ne]; rfl)
theorem t_Years_clear (h : S[g]? = some (9, 7)) : zEv G y_Years_clear prog_11_method_2_code 1 1 0 0 [.ref g] (I, J, P, S) (fun w => w = (zu (zu (zu I g 0 (nI 0)) g 1 (nI 0)) g 2 (nI 0), J, P, S)) := by
  refine zEv_of (lv := [some (.ref g)]) (by decide) rfl (Nat.le_of_ble_eq_true rfl) ?_
  refine z_aload_0 d_Years_clear_0 ?_
  refine z_iconst (a := nI 0) d_Years_clear_1 (by decide) ?_
  refine z_putZ d_Years_clear_2 f_Years_22 (by assumption) (by first | exact zb0 | exact zb1 | assumption) ?_
  refine z_aload_0 d_Years_clear_5 ?_
  refine z_iconst (a := nI 0) d_Years_clear_6 (by decide) ?_
  refine z_putI d_Years_clear_7 f_Years_26 (by assumption) ?_
  refine z_aload_0 d_Years_clear_10 ?_
  refine z_iconst (a := nI 0) d_Years_clear_11 (by decide) ?_
  refine z_putI d_Years_clear_12 f_Years_30 (by assumption) ?_
  refine z_retv d_Years_clear_15 ?_
  exact rfl
theorem t_JArr_fillI {q n : Nat} (h : S[q]? = some (100, n)) (hn : n < 2 ^ 31) : zEv G y_JArr_fill_0 prog_22_method_103_code 4 1 0 0 [.ref q, .int a] (I, J, P, S) (fun w => w = (zfl I q n a, J, P, S)) := by
  refine zEv_of (lv := [some (.ref q), some (.int a), none, none]) (by decide) rfl (Nat.le_of_ble_eq_true rfl) ?_
  have loop : ∀ m j, n - j < m → j ≤ n → zA G y_JArr_fill_0 prog_22_method_103_code 4 none (zRm 1 0 0) (zM G 0 0 (fun r w' => r = none ∧ (fun w => w = (zfl I q n a, J, P, S)) w')) 5 [some (.ref q), some (.int a), some (.int (nI j)), some (.int (nI n))] [] (zfl I q j a, J, P, S) 0 0 := by
    intro m
    induction m with
    | zero => intro j h; omega
    | succ m ih =>
      intro j hm hj
      refine z_iload_2 d_JArr_fill_0_5 ?_
      refine z_iload_3 d_JArr_fill_0_6 ?_
      refine z_icmp_ge (tgt := 20) d_JArr_fill_0_7 (by decide) (fun hb => ?_) (fun hb => ?_)
      · have hb := (nI_leI (by omega) (by omega)).mp hb
        obtain rfl : j = n := by omega
        refine z_retv d_JArr_fill_0_20 ?_
        exact rfl
      · have hb : j < n := Nat.lt_of_not_le (fun q => hb (nI_le q (by omega)))
        refine z_aload_0 d_JArr_fill_0_10 ?_
        refine z_iload_2 d_JArr_fill_0_11 ?_
        refine z_iload_1 d_JArr_fill_0_12 ?_
        refine z_iastN d_JArr_fill_0_13 (by assumption) (by omega) (by omega) ?_
        rw [zfl_s]
        first | refine z_iinc_2 d_JArr_fill_0_14 rfl (zi_inc _) ?_ | refine z_iinc_2 d_JArr_fill_0_14 rfl rfl ?_
        refine z_goto (tgt := 5) d_JArr_fill_0_17 (by decide) ?_
        exact ih (j + 1) (by omega) (by omega)
  refine z_iconst (a := nI 0) d_JArr_fill_0_0 (by decide) ?_
  first | refine z_istore_2 d_JArr_fill_0_1 rfl ?_ | (refine z_forget_1 ?_; refine z_istore_2 d_JArr_fill_0_1 rfl ?_)
  refine z_aload_0 d_JArr_fill_0_2 ?_
  first | refine z_alen100 d_JArr_fill_0_3 (by assumption) ?_ | refine z_alen101 d_JArr_fill_0_3 (by assumption) ?_ | refine z_alen102 d_JArr_fill_0_3 (by assumption) ?_
  first | refine z_istore_3 d_JArr_fill_0_4 rfl ?_ | (refine z_forget_2 ?_; refine z_istore_3 d_JArr_fill_0_4 rfl ?_)
  have q := loop (n + 1) 0 (by omega) (by omega)
  rw [zfl_0] at q
  exact q
theorem t_JArr_fillJ {q n : Nat} (h : S[q]? = some (101, n)) (hn : n < 2 ^ 31) : zEv G y_JArr_fill_1 prog_22_method_101_code 5 1 0 0 [.ref q, .long x] (I, J, P, S) (fun w => w = (I, zfl J q n x, P, S)) := by
  refine zEv_of (lv := [some (.ref q), some (.long x), none, none, none]) (by decide) rfl (Nat.le_of_ble_eq_true rfl) ?_
  have loop : ∀ m j, n - j < m → j ≤ n → zA G y_JArr_fill_1 prog_22_method_101_code 5 none (zRm 1 0 0) (zM G 0 0 (fun r w' => r = none ∧ (fun w => w = (I, zfl J q n x, P, S)) w')) 6 [some (.ref q), some (.long x), none, some (.int (nI j)), some (.int (nI n))] [] (I, zfl J q j x, P, S) 0 0 := by
    intro m
    induction m with
    | zero => intro j h; omega
    | succ m ih =>
      intro j hm hj
      refine z_iload_3 d_JArr_fill_1_6 ?_
      refine z_iload_4 d_JArr_fill_1_7 ?_
      refine z_icmp_ge (tgt := 22) d_JArr_fill_1_9 (by decide) (fun hb => ?_) (fun hb => ?_)
      · have hb := (nI_leI (by omega) (by omega)).mp hb
        obtain rfl : j = n := by omega
        refine z_retv d_JArr_fill_1_22 ?_
        exact rfl
      · have hb : j < n := Nat.lt_of_not_le (fun q => hb (nI_le q (by omega)))
        refine z_aload_0 d_JArr_fill_1_12 ?_
        refine z_iload_3 d_JArr_fill_1_13 ?_
        refine z_lload_1 d_JArr_fill_1_14 ?_
        refine z_lastN d_JArr_fill_1_15 (by assumption) (by omega) (by omega) ?_
        rw [zfl_s]
        first | refine z_iinc_3 d_JArr_fill_1_16 rfl (zi_inc _) ?_ | refine z_iinc_3 d_JArr_fill_1_16 rfl rfl ?_
        refine z_goto (tgt := 6) d_JArr_fill_1_19 (by decide) ?_
        exact ih (j + 1) (by omega) (by omega)
  refine z_iconst (a := nI 0) d_JArr_fill_1_0 (by decide) ?_
  first | refine z_istore_3 d_JArr_fill_1_1 rfl ?_ | (refine z_forget_2 ?_; refine z_istore_3 d_JArr_fill_1_1 rfl ?_)
  refine z_aload_0 d_JArr_fill_1_2 ?_
  first | refine z_alen100 d_JArr_fill_1_3 (by assumption) ?_ | refine z_alen101 d_JArr_fill_1_3 (by assumption) ?_ | refine z_alen102 d_JArr_fill_1_3 (by assumption) ?_
  first | refine z_istore_4 d_JArr_fill_1_4 rfl ?_ | (refine z_forget_3 ?_; refine z_istore_4 d_JArr_fill_1_4 rfl ?_)
  have q := loop (n + 1) 0 (by omega) (by omega)
  rw [zfl_0] at q
  exact q
/-- a Tray at an address, its cells behind it -/
def trOk (P : Nat → Nat → Option Nat) (S : List (Nat × Nat)) (g : Nat) : Prop := S[g]? = some (8, 4) ∧ P g 3 = some (g + 1) ∧ S[g + 1]? = some (101, 60)
theorem t_Tray_lay (T : trOk P S g) : zEv G y_Tray_lay prog_10_method_2_code 3 2 0 0 [.ref g, .int a, .int b] (I, J, P, S) (fun w => w = (zu (zu (zu I g 0 (nI 1)) g 1 a) g 2 b, zfl J (g + 1) 60 (lN 0), P, S)) := by
  obtain ⟨T0, T1, T2⟩ := T
  refine zEv_of (lv := [some (.ref g), some (.int a), some (.int b)]) (by decide) rfl (Nat.le_of_ble_eq_true rfl) ?_
  refine z_aload_0 d_Tray_lay_0 ?_
  refine z_iconst (a := nI 1) d_Tray_lay_1 (by decide) ?_
  refine z_putZ d_Tray_lay_2 f_Tray_15 (by assumption) (by first | exact zb0 | exact zb1 | assumption) ?_
  refine z_aload_0 d_Tray_lay_5 ?_
  refine z_iload_1 d_Tray_lay_6 ?_
  refine z_putI d_Tray_lay_7 f_Tray_19 (by assumption) ?_
  refine z_aload_0 d_Tray_lay_10 ?_
  refine z_iload_2 d_Tray_lay_11 ?_
  refine z_putI d_Tray_lay_12 f_Tray_23 (by assumption) ?_
  refine z_aload_0 d_Tray_lay_15 ?_
  refine z_getR d_Tray_lay_16 f_Tray_9 (by assumption) (by assumption) ?_
  refine z_lconst (f := lN 0) d_Tray_lay_19 rfl ?_
  refine z_Sv2 d_Tray_lay_20 k_Tray_26 (t_JArr_fillJ (by assumption) (by decide)) ⟨Nat.le_of_ble_eq_true rfl, Nat.le_of_ble_eq_true rfl, Nat.le_of_ble_eq_true rfl, Nat.le_of_ble_eq_true rfl⟩ (Nat.le_of_ble_eq_true rfl) ?_
  intro w hq
  obtain rfl := hq
  refine z_retv d_Tray_lay_23 ?_
  exact rfl
theorem t_Tray_hasRun {p m l : Nat} (T : trOk P S g) (hl : I g 2 = nI l) (hb : l ≤ 60) (hp : p ≤ 60) (hm : m ≤ 60) : zEi G y_Tray_hasRun prog_10_method_3_code 3 (some .boolean) 1 [.ref g, .int (nI p), .int (nI m)] (I, J, P, S) (fun r w => (p + m ≤ l ∧ r = nI 1 ∨ ¬ p + m ≤ l ∧ r = nI 0) ∧ w = (I, J, P, S)) := by
  obtain ⟨T0, T1, T2⟩ := T
  refine zEi_of (lv := [some (.ref g), some (.int (nI p)), some (.int (nI m))]) (by decide) rfl (Nat.le_of_ble_eq_true rfl) ?_
  have e1 : (nI p).toInt64 = lN p := nI_l (by omega)
  have e2 : (nI m).toInt64 = lN m := nI_l (by omega)
  have e3 : (nI l).toInt64 = lN l := nI_l (by omega)
  have e4 : ∀ h : lg_cmp (lN p + lN m) (lN l) ≤ 0, p + m ≤ l := fun h => by
    have := (lg_cmp_le _ _).mp h
    rw [lN_add] at this
    exact (lN_le (by omega) (by omega)).mp this
  have e5 : ∀ h : 0 < lg_cmp (lN p + lN m) (lN l), ¬ p + m ≤ l := fun h => by
    have := (lg_cmp_gt _ _).mp h
    rw [lN_add] at this
    have := (lN_lt (by omega) (by omega)).mp this
    omega
  refine z_iload_1 d_Tray_hasRun_0 ?_
  refine z_if_lt (tgt := 22) d_Tray_hasRun_1 (by decide) (fun h1 => ?_) (fun h1 => ?_)
  · first
    | (simp (disch := omega) only [← nI_0, nI_leI, nI_ltI, nI_eq, not_true_eq_false, not_false_eq_true] at h1; done)
    | (simp (disch := omega) only [← nI_0, nI_leI, nI_ltI, nI_eq, not_true_eq_false, not_false_eq_true] at h1; omega)
    | contradiction
    | exact absurd h1 (Int32.not_lt.mpr (by assumption))
    | exact absurd h1 (Int32.not_le.mpr (by assumption))
    | ( try simp (disch := omega) only [← nI_0, nI_leI, nI_ltI, nI_eq, not_true_eq_false, not_false_eq_true] at h1
        (try have h1b := zbit_n0.mp h1); (try have h1b := zbit_p0.mp h1)
        refine z_iconst (a := nI 0) d_Tray_hasRun_22 (by decide) ?_
        refine z_retz d_Tray_hasRun_23 (by first | exact zb0 | exact zb1 | assumption) ?_
        (rw [e1, e2, e3] at *; first | exact ⟨Or.inl ⟨e4 (Int32.not_lt.mp (by assumption)), rfl⟩, rfl⟩ | exact ⟨Or.inl ⟨e4 (by rw [← nI_0]; exact Int32.not_lt.mp (by assumption)), rfl⟩, rfl⟩ | exact ⟨Or.inr ⟨e5 (by assumption), rfl⟩, rfl⟩ | exact ⟨Or.inr ⟨e5 (by rw [← nI_0]; assumption), rfl⟩, rfl⟩))
  · first
    | (simp (disch := omega) only [← nI_0, nI_leI, nI_ltI, nI_eq, not_true_eq_false, not_false_eq_true] at h1; done)
    | (simp (disch := omega) only [← nI_0, nI_leI, nI_ltI, nI_eq, not_true_eq_false, not_false_eq_true] at h1; omega)
    | contradiction
    | exact absurd h1 (Int32.not_lt.mpr (by assumption))
    | exact absurd h1 (Int32.not_le.mpr (by assumption))
    | ( try simp (disch := omega) only [← nI_0, nI_leI, nI_ltI, nI_eq, not_true_eq_false, not_false_eq_true] at h1
        (try have h1b := zbit_n0.mp h1); (try have h1b := zbit_p0.mp h1)
        refine z_iload_1 d_Tray_hasRun_4 ?_
        refine z_i2l d_Tray_hasRun_5 ?_
        refine z_iload_2 d_Tray_hasRun_6 ?_
        refine z_i2l d_Tray_hasRun_7 ?_
        refine z_ladd d_Tray_hasRun_8 ?_
        refine z_aload_0 d_Tray_hasRun_9 ?_
        refine z_getIv d_Tray_hasRun_10 f_Tray_23 (by assumption) (by first | assumption | ((try simp (disch := omega) only [zu_same, zu_ne, zcp_ne, zfl_ne]); first | assumption | rfl)) ?_
        refine z_i2l d_Tray_hasRun_13 ?_
        refine z_lcmp d_Tray_hasRun_14 ?_
        refine z_if_gt (tgt := 22) d_Tray_hasRun_15 (by decide) (fun h15 => ?_) (fun h15 => ?_)
        · first
          | (simp (disch := omega) only [← nI_0, nI_leI, nI_ltI, nI_eq, not_true_eq_false, not_false_eq_true] at h15; done)
          | (simp (disch := omega) only [← nI_0, nI_leI, nI_ltI, nI_eq, not_true_eq_false, not_false_eq_true] at h15; omega)
          | contradiction
          | exact absurd h15 (Int32.not_lt.mpr (by assumption))
          | exact absurd h15 (Int32.not_le.mpr (by assumption))
          | ( try simp (disch := omega) only [← nI_0, nI_leI, nI_ltI, nI_eq, not_true_eq_false, not_false_eq_true] at h15
              (try have h15b := zbit_n0.mp h15); (try have h15b := zbit_p0.mp h15)
              refine z_iconst (a := nI 0) d_Tray_hasRun_22 (by decide) ?_
              refine z_retz d_Tray_hasRun_23 (by first | exact zb0 | exact zb1 | assumption) ?_
              (rw [e1, e2, e3] at *; first | exact ⟨Or.inl ⟨e4 (Int32.not_lt.mp (by assumption)), rfl⟩, rfl⟩ | exact ⟨Or.inl ⟨e4 (by rw [← nI_0]; exact Int32.not_lt.mp (by assumption)), rfl⟩, rfl⟩ | exact ⟨Or.inr ⟨e5 (by assumption), rfl⟩, rfl⟩ | exact ⟨Or.inr ⟨e5 (by rw [← nI_0]; assumption), rfl⟩, rfl⟩))
        · first
          | (simp (disch := omega) only [← nI_0, nI_leI, nI_ltI, nI_eq, not_true_eq_false, not_false_eq_true] at h15; done)
          | (simp (disch := omega) only [← nI_0, nI_leI, nI_ltI, nI_eq, not_true_eq_false, not_false_eq_true] at h15; omega)
          | contradiction
          | exact absurd h15 (Int32.not_lt.mpr (by assumption))
          | exact absurd h15 (Int32.not_le.mpr (by assumption))
          | ( try simp (disch := omega) only [← nI_0, nI_leI, nI_ltI, nI_eq, not_true_eq_false, not_false_eq_true] at h15
              (try have h15b := zbit_n0.mp h15); (try have h15b := zbit_p0.mp h15)
              refine z_iconst (a := nI 1) d_Tray_hasRun_18 (by decide) ?_
              refine z_goto (tgt := 23) d_Tray_hasRun_19 (by decide) ?_
              refine z_retz d_Tray_hasRun_23 (by first | exact zb0 | exact zb1 | assumption) ?_
              (rw [e1, e2, e3] at *; first | exact ⟨Or.inl ⟨e4 (Int32.not_lt.mp (by assumption)), rfl⟩, rfl⟩ | exact ⟨Or.inl ⟨e4 (by rw [← nI_0]; exact Int32.not_lt.mp (by assumption)), rfl⟩, rfl⟩ | exact ⟨Or.inr ⟨e5 (by assumption), rfl⟩, rfl⟩ | exact ⟨Or.inr ⟨e5 (by rw [← nI_0]; assumption), rfl⟩, rfl⟩)))
/-- what a TRAY of a sort keeps of a number -/
def s_cut (k : Nat) (x : Int64) : Int64 := if k = 0 then x.toInt32.toInt8.toInt32.toInt64 else if k = 1 then x.toInt32.toInt16.toInt32.toInt64 else if k = 2 then x.toInt32.toInt64 else x
theorem t_Tray_put {p k : Nat} (T : trOk P S g) (hk : I g 1 = nI k) (hb : k ≤ 3) (hp : p < 60) : zEv G y_Tray_put prog_10_method_4_code 4 1 0 0 [.ref g, .int (nI p), .long x] (I, J, P, S) (fun w => w = (I, zu J (g + 1) p (s_cut k x), P, S)) := by
  obtain ⟨T0, T1, T2⟩ := T
  refine zEv_of (lv := [some (.ref g), some (.int (nI p)), some (.long x), none]) (by decide) rfl (Nat.le_of_ble_eq_true rfl) ?_
  rcases (show k = 0 ∨ k = 1 ∨ k = 2 ∨ k = 3 by omega) with rfl | rfl | rfl | rfl
  · refine z_aload_0 d_Tray_put_0 ?_
    refine z_getIv d_Tray_put_1 f_Tray_19 (by assumption) (by first | assumption | ((try simp (disch := omega) only [zu_same, zu_ne, zcp_ne, zfl_ne]); first | assumption | rfl)) ?_
    refine z_tableIn (off := 28) (tgt := 32) d_Tray_put_4 (by decide) (by decide) (by decide) (by decide) ?_
    refine z_aload_0 d_Tray_put_32 ?_
    refine z_getR d_Tray_put_33 f_Tray_9 (by assumption) (by assumption) ?_
    refine z_iload_1 d_Tray_put_36 ?_
    refine z_lload_2 d_Tray_put_37 ?_
    refine z_l2i d_Tray_put_38 ?_
    refine z_i2b d_Tray_put_39 ?_
    refine z_i2l d_Tray_put_40 ?_
    first | refine z_lastN d_Tray_put_41 (by assumption) (by omega) (by decide) ?_ | refine z_last d_Tray_put_41 (by assumption) (by assumption) ?_
    refine z_goto (tgt := 77) d_Tray_put_42 (by decide) ?_
    refine z_retv d_Tray_put_77 ?_
    exact rfl
  · refine z_aload_0 d_Tray_put_0 ?_
    refine z_getIv d_Tray_put_1 f_Tray_19 (by assumption) (by first | assumption | ((try simp (disch := omega) only [zu_same, zu_ne, zcp_ne, zfl_ne]); first | assumption | rfl)) ?_
    refine z_tableIn (off := 41) (tgt := 45) d_Tray_put_4 (by decide) (by decide) (by decide) (by decide) ?_
    refine z_aload_0 d_Tray_put_45 ?_
    refine z_getR d_Tray_put_46 f_Tray_9 (by assumption) (by assumption) ?_
    refine z_iload_1 d_Tray_put_49 ?_
    refine z_lload_2 d_Tray_put_50 ?_
    refine z_l2i d_Tray_put_51 ?_
    refine z_i2s d_Tray_put_52 ?_
    refine z_i2l d_Tray_put_53 ?_
    first | refine z_lastN d_Tray_put_54 (by assumption) (by omega) (by decide) ?_ | refine z_last d_Tray_put_54 (by assumption) (by assumption) ?_
    refine z_goto (tgt := 77) d_Tray_put_55 (by decide) ?_
    refine z_retv d_Tray_put_77 ?_
    exact rfl
  · refine z_aload_0 d_Tray_put_0 ?_
    refine z_getIv d_Tray_put_1 f_Tray_19 (by assumption) (by first | assumption | ((try simp (disch := omega) only [zu_same, zu_ne, zcp_ne, zfl_ne]); first | assumption | rfl)) ?_
    refine z_tableIn (off := 54) (tgt := 58) d_Tray_put_4 (by decide) (by decide) (by decide) (by decide) ?_
    refine z_aload_0 d_Tray_put_58 ?_
    refine z_getR d_Tray_put_59 f_Tray_9 (by assumption) (by assumption) ?_
    refine z_iload_1 d_Tray_put_62 ?_
    refine z_lload_2 d_Tray_put_63 ?_
    refine z_l2i d_Tray_put_64 ?_
    refine z_i2l d_Tray_put_65 ?_
    first | refine z_lastN d_Tray_put_66 (by assumption) (by omega) (by decide) ?_ | refine z_last d_Tray_put_66 (by assumption) (by assumption) ?_
    refine z_goto (tgt := 77) d_Tray_put_67 (by decide) ?_
    refine z_retv d_Tray_put_77 ?_
    exact rfl
  · refine z_aload_0 d_Tray_put_0 ?_
    refine z_getIv d_Tray_put_1 f_Tray_19 (by assumption) (by first | assumption | ((try simp (disch := omega) only [zu_same, zu_ne, zcp_ne, zfl_ne]); first | assumption | rfl)) ?_
    refine z_tableOut (tgt := 70) d_Tray_put_4 (by decide) (by decide) ?_
    refine z_aload_0 d_Tray_put_70 ?_
    refine z_getR d_Tray_put_71 f_Tray_9 (by assumption) (by assumption) ?_
    refine z_iload_1 d_Tray_put_74 ?_
    refine z_lload_2 d_Tray_put_75 ?_
    first | refine z_lastN d_Tray_put_76 (by assumption) (by omega) (by decide) ?_ | refine z_last d_Tray_put_76 (by assumption) (by assumption) ?_
    refine z_retv d_Tray_put_77 ?_
    exact rfl
end C3
