/-! trays and the tape, both sides -/
section TY0
variable {G : zG} {I I' : Nat → Nat → Int32} {J J' : Nat → Nat → Int64} {P : Nat → Nat → Option Nat} {S : List (Nat × Nat)} {f d nt np nl nn n fed fed' mk st t l k : Nat} {a b c : Int32} {x : Int64} {w : zW}
/-- what trays and tape leave as it is -/
def kM (f : Nat) (I I' : Nat → Nat → Int32) : Prop := (∀ a, ((f ≤ a ∧ a ≤ f + 16) ∨ (70 ≤ a ∧ a ≤ 121) ∨ a = 150 ∨ a = 159) → I' a = I a) ∧ I' 0 13 = I 0 13 ∧ I' 145 23 = I 145 23 ∧ I' 145 38 = I 145 38
def jM (f : Nat) (J J' : Nat → Nat → Int64) : Prop := ∀ a, ((f + 9 ≤ a ∧ a ≤ f + 11) ∨ (70 ≤ a ∧ a ≤ 120) ∨ a = 152) → J' a = J a
theorem jM_r : jM f J J := fun _ _ => rfl
theorem stR_tr (X : stR n f nt np nl nn fed mk I J) (hf : f = 18 ∨ f = 35) (hK : kM f I I') (hJ : jM f J J') (hs : I' 145 0 = I' 0 0 ∧ J' 145 2 = J' 0 1 ∧ J' 145 3 = J' 0 2) (ht : ∀ t, t < 4 → trR t I' J') (hT : (I' 0 4 = nI fed' ∧ I' 145 8 = nI fed' ∧ fed' ≤ 900) ∧ (∀ k, k < 900 → I' 149 k = I' 1 k) ∧ bytOk (I' 1)) (hF : I' 145 10 = I' 11 10 ∧ I' 145 11 = I' 11 11) (hkw : ∀ i, i < 21 → J' 13 i = zKw i) : stR (n + 1) f nt np nl nn fed' mk I' J' := by
  obtain ⟨-, -, -, -, -, z11, ⟨⟨z16, z17, z18⟩, z19⟩, z20⟩ := X
  obtain ⟨k1, k2, k3, k4⟩ := hK
  refine ⟨hs, ht, hT, hF, hkw, ?_, ⟨⟨k2.trans z16, k3.trans z17, z18⟩, fun m hm => ?_⟩, ?_⟩
  · exact fnR_g (fnR_c z11 (fun a g1 g2 => k1 a (by omega)) (fun k hk => by rw [k1 150 (by omega)]) (fun a g1 g2 => hJ a (by omega)) (fun k hk => by rw [hJ 152 (by omega)])) (by omega)
  · obtain ⟨nt', np', nl', nn', q⟩ := z19 m hm
    exact ⟨nt', np', nl', nn', fnR_g (fnR_c q (fun a g1 g2 => k1 a (by omega)) (fun k hk => by rw [k1 150 (by omega)]) (fun a g1 g2 => hJ a (by omega)) (fun k hk => by rw [hJ 152 (by omega)])) (by omega)⟩
  · unfold lvR at z20 ⊢
    rw [k1 121 (by omega), k1 159 (by omega), k4]
    exact z20
theorem trR_c (h : trR t I J) (h1 : I' (3 + 2 * t) = I (3 + 2 * t)) (h2 : I' 147 t = I 147 t) (h3 : I' 146 t = I 146 t) (h4 : J' (4 + 2 * t) = J (4 + 2 * t)) (h5 : ∀ p, p < 60 → J' 148 (60 * t + p) = J 148 (60 * t + p)) : trR t I' J' := by
  rcases h with ⟨a1, a2⟩ | ⟨k, l, b1, b2, b3, ⟨b4, b5⟩, ⟨b6, b7⟩, b8⟩
  · left; rw [h1, h2]; exact ⟨a1, a2⟩
  · right
    refine ⟨k, l, b1, b2, ?_, ⟨?_, h3.trans b5⟩, ⟨?_, h2.trans b7⟩, fun p hp => ?_⟩
    · rw [h1]; exact b3
    · rw [h1]; exact b4
    · rw [h1]; exact b6
    · rw [h4, h5 p (by omega)]; exact b8 p hp
def hrun (a b : Int32) (l : Nat) : Prop := ¬ a < 0 ∧ a.toInt64 + b.toInt64 ≤ lN l
theorem t_Tray_hasRunG {g : Nat} (T : trOk P S g) (hl : I g 2 = nI l) (hb : l ≤ 60) : zEi G y_Tray_hasRun prog_10_method_3_code 3 (some .boolean) 1 [.ref g, .int a, .int b] (I, J, P, S) (fun r w => (hrun a b l ∧ r = nI 1 ∨ ¬ hrun a b l ∧ r = nI 0) ∧ w = (I, J, P, S)) := by
  obtain ⟨T0, T1, T2⟩ := T
  have e3 : (nI l).toInt64 = lN l := nI_l (by omega)
  refine zEi_of (lv := [some (.ref g), some (.int a), some (.int b)]) (by decide) rfl (Nat.le_of_ble_eq_true rfl) ?_
  refine z_iload_1 d_Tray_hasRun_0 ?_
  refine z_if_lt (tgt := 22) d_Tray_hasRun_1 (by decide) (fun h1 => ?_) (fun h1 => ?_)
  · refine z_iconst (a := nI 0) d_Tray_hasRun_22 (by decide) ?_
    refine z_retz d_Tray_hasRun_23 (by first | exact zb0 | exact zb1 | assumption) ?_
    exact ⟨Or.inr ⟨fun q => q.1 h1, rfl⟩, rfl⟩
  · refine z_iload_1 d_Tray_hasRun_4 ?_
    refine z_i2l d_Tray_hasRun_5 ?_
    refine z_iload_2 d_Tray_hasRun_6 ?_
    refine z_i2l d_Tray_hasRun_7 ?_
    refine z_ladd d_Tray_hasRun_8 ?_
    refine z_aload_0 d_Tray_hasRun_9 ?_
    refine z_getIv d_Tray_hasRun_10 f_Tray_23 (by first | assumption | exact zS0_at (by assumption) (by omega) | exact zS0_at rfl (by omega)) (by first | assumption | ((try simp (disch := omega) only [zu_same, zu_ne, zcp_ne, zfl_ne]); first | assumption | rfl)) ?_
    refine z_i2l d_Tray_hasRun_13 ?_
    rw [e3]
    refine z_lcmp d_Tray_hasRun_14 ?_
    refine z_if_gt (tgt := 22) d_Tray_hasRun_15 (by decide) (fun h2 => ?_) (fun h2 => ?_)
    · refine z_iconst (a := nI 0) d_Tray_hasRun_22 (by decide) ?_
      refine z_retz d_Tray_hasRun_23 (by first | exact zb0 | exact zb1 | assumption) ?_
      exact ⟨Or.inr ⟨fun q => absurd ((lg_cmp_gt _ _).mp h2) (Int64.not_lt.mpr q.2), rfl⟩, rfl⟩
    · refine z_iconst (a := nI 1) d_Tray_hasRun_18 (by decide) ?_
      refine z_goto (tgt := 23) d_Tray_hasRun_19 (by decide) ?_
      refine z_retz d_Tray_hasRun_23 (by first | exact zb0 | exact zb1 | assumption) ?_
      refine ⟨Or.inl ⟨⟨h1, ?_⟩, rfl⟩, rfl⟩
      exact (lg_cmp_le _ _).mp (by rw [← nI_0]; exact Int32.not_lt.mp h2)
theorem add_int (a b : Int32) : (a.toInt64 + b.toInt64).toInt = a.toInt + b.toInt := by
  have h1 := Int32.toInt_lt a
  have h2 := Int32.le_toInt a
  have h3 := Int32.toInt_lt b
  have h4 := Int32.le_toInt b
  have e1 : a.toInt64.toInt = a.toInt := Int32.toInt_toInt64 a
  have e2 : b.toInt64.toInt = b.toInt := Int32.toInt_toInt64 b
  rw [Int64.toInt_add, e1, e2]
  exact Int.bmod_eq_of_le (by omega) (by omega)
theorem nI_int {m : Nat} (h : m < 2 ^ 30) : (nI m).toInt = (m : Int) := by
  have := pk_sub_toInt (a := m) (b := 0) h (by decide)
  rw [pk_sub (Nat.zero_le _), Nat.sub_zero] at this
  rw [this]; omega
theorem hrun_int (hl : l ≤ 60) : hrun a b l ↔ 0 ≤ a.toInt ∧ a.toInt + b.toInt ≤ (l : Int) := by
  unfold hrun
  rw [Int64.le_iff_toInt_le, add_int, lN_int (by omega), Int32.lt_iff_toInt_lt]
  have : (0 : Int32).toInt = 0 := by decide
  rw [this]
  omega
theorem hrun_1 (hl : l ≤ 60) : hrun a (nI 1) l ↔ zin a l := by
  rw [hrun_int hl, zin_int (by omega)]
  have : (nI 1).toInt = 1 := by decide
  rw [this]
  omega
theorem hrun_N (hl : l ≤ 60) (hb : ¬ b < 0) (h : hrun a b l) : ∃ p m, p + m ≤ l ∧ a = nI p ∧ b = nI m := by
  have h0 := (hrun_int hl).mp h
  rw [Int32.lt_iff_toInt_lt] at hb
  have e0 : (0 : Int32).toInt = 0 := by decide
  rw [e0] at hb
  obtain ⟨p, hp, rfl⟩ := (zin_int (a := a) (n := 61) (by decide)).mpr ⟨by omega, by omega⟩
  obtain ⟨m, hm, rfl⟩ := (zin_int (a := b) (n := 61) (by decide)).mpr ⟨by omega, by omega⟩
  rw [nI_int (by omega), nI_int (by omega)] at h0
  exact ⟨p, m, by omega, rfl, rfl⟩
theorem t_Tf_trayStatus_o (Z : clOk f d P S) (h : ¬ zin a 4) : zEi G y_Tf_trayStatus prog_1_method_61_code 2 (some .int) 2 [.ref 0, .int a] (I, J, P, S) (fun r w => r = nI 1 ∧ w = (I, J, P, S)) := by
  obtain ⟨⟨c0, c3, c1s⟩, ⟨c5, c2s, ctr⟩, ⟨c6, c11s, c11, c13s⟩, ⟨c7, c15s, c15⟩, ⟨c8, c16s, c16a, c16b, c17s⟩, ⟨c9, c10, cfd, F, Fd⟩, ⟨c11b, Ft⟩, ⟨c12, c69s, cmk⟩, ⟨c14, c121s, c121, c122s⟩, ⟨c15b, c123s, c123, c124s⟩, ⟨c16, c125s, c125, c126s⟩, ⟨c17, c127s, c127, c128s, ctb⟩, ⟨c18, c139s, c139, c140s⟩, ⟨c19, c141s, ⟨c141a, c142s⟩, ⟨c141b, c143s⟩, ⟨c141c, c144s⟩⟩, M⟩ := id Z
  refine zEi_of (lv := [some (.ref 0), some (.int a)]) (by decide) rfl (Nat.le_of_ble_eq_true rfl) ?_
  refine z_iload_1 d_Tf_trayStatus_0 ?_
  refine z_Si1 d_Tf_trayStatus_1 k_Tf_115 (t_Tf_noTray) ⟨Nat.le_of_ble_eq_true rfl, Nat.le_of_ble_eq_true rfl, Nat.le_of_ble_eq_true rfl, Nat.le_of_ble_eq_true rfl⟩ (Nat.le_of_ble_eq_true rfl) ?_
  intro r w hq
  rcases hq with ⟨⟨hz1, rfl⟩ | ⟨hz1, rfl⟩, rfl⟩
  · first
    | contradiction
    | ( skip
        refine z_if_eq (tgt := 9) d_Tf_trayStatus_4 (by decide) (fun h => absurd h (by decide)) (fun _ => ?_)
        refine z_iconst (a := nI 1) d_Tf_trayStatus_7 (by decide) ?_
        refine z_reti d_Tf_trayStatus_8 ?_
        exact ⟨rfl, rfl⟩)
  · first
    | contradiction
    | ( skip
        refine z_if_eq (tgt := 9) d_Tf_trayStatus_4 (by decide) (fun _ => ?_) (fun h => absurd h (by decide))
        contradiction)
theorem t_Tf_trayStatus_m (Z : clOk f d P S) (ht : t < 4) (h0 : I (3 + 2 * t) 0 = nI 0) : zEi G y_Tf_trayStatus prog_1_method_61_code 2 (some .int) 2 [.ref 0, .int (nI t)] (I, J, P, S) (fun r w => r = nI 3 ∧ w = (I, J, P, S)) := by
  obtain ⟨⟨c0, c3, c1s⟩, ⟨c5, c2s, ctr⟩, ⟨c6, c11s, c11, c13s⟩, ⟨c7, c15s, c15⟩, ⟨c8, c16s, c16a, c16b, c17s⟩, ⟨c9, c10, cfd, F, Fd⟩, ⟨c11b, Ft⟩, ⟨c12, c69s, cmk⟩, ⟨c14, c121s, c121, c122s⟩, ⟨c15b, c123s, c123, c124s⟩, ⟨c16, c125s, c125, c126s⟩, ⟨c17, c127s, c127, c128s, ctb⟩, ⟨c18, c139s, c139, c140s⟩, ⟨c19, c141s, ⟨c141a, c142s⟩, ⟨c141b, c143s⟩, ⟨c141c, c144s⟩⟩, M⟩ := id Z
  obtain ⟨c2, T0, T1, T2⟩ := ctr t ht
  have hz : zin (nI t) 4 := ⟨t, ht, rfl⟩
  refine zEi_of (lv := [some (.ref 0), some (.int (nI t))]) (by decide) rfl (Nat.le_of_ble_eq_true rfl) ?_
  refine z_iload_1 d_Tf_trayStatus_0 ?_
  refine z_Si1 d_Tf_trayStatus_1 k_Tf_115 (t_Tf_noTray) ⟨Nat.le_of_ble_eq_true rfl, Nat.le_of_ble_eq_true rfl, Nat.le_of_ble_eq_true rfl, Nat.le_of_ble_eq_true rfl⟩ (Nat.le_of_ble_eq_true rfl) ?_
  intro r w hq
  rcases hq with ⟨⟨hz1, rfl⟩ | ⟨hz1, rfl⟩, rfl⟩
  · first
    | contradiction
    | ( skip
        refine z_if_eq (tgt := 9) d_Tf_trayStatus_4 (by decide) (fun h => absurd h (by decide)) (fun _ => ?_)
        refine z_iconst (a := nI 1) d_Tf_trayStatus_7 (by decide) ?_
        refine z_reti d_Tf_trayStatus_8 ?_
        exact ⟨rfl, rfl⟩)
  · first
    | contradiction
    | ( skip
        refine z_if_eq (tgt := 9) d_Tf_trayStatus_4 (by decide) (fun _ => ?_) (fun h => absurd h (by decide))
        refine z_aload_0 d_Tf_trayStatus_9 ?_
        refine z_getR d_Tf_trayStatus_10 f_Tf_29 (by first | assumption | exact zS0_at (by assumption) (by omega) | exact zS0_at rfl (by omega)) (by first | assumption | exact zS0_at (by assumption) (by omega) | exact zS0_at rfl (by omega)) ?_
        refine z_iload_1 d_Tf_trayStatus_13 ?_
        first | refine z_ald4N d_Tf_trayStatus_14 (by first | assumption | exact zS0_at (by assumption) (by omega) | exact zS0_at rfl (by omega)) (by omega) (by first | decide | omega) (by first | assumption | exact zS0_at (by assumption) (by omega) | exact zS0_at rfl (by omega)) ?_ | refine z_ald5N d_Tf_trayStatus_14 (by first | assumption | exact zS0_at (by assumption) (by omega) | exact zS0_at rfl (by omega)) (by omega) (by first | decide | omega) (by first | assumption | exact zS0_at (by assumption) (by omega) | exact zS0_at rfl (by omega)) ?_ | refine z_ald6N d_Tf_trayStatus_14 (by first | assumption | exact zS0_at (by assumption) (by omega) | exact zS0_at rfl (by omega)) (by omega) (by first | decide | omega) (by first | assumption | exact zS0_at (by assumption) (by omega) | exact zS0_at rfl (by omega)) ?_
        refine z_getIv d_Tf_trayStatus_15 f_Tf_146 (by first | assumption | exact zS0_at (by assumption) (by omega) | exact zS0_at rfl (by omega)) (by first | assumption | ((try simp (disch := omega) only [zu_same, zu_ne, zcp_ne, zfl_ne]); first | assumption | rfl)) ?_
        refine z_if_eq (tgt := 25) d_Tf_trayStatus_18 (by decide) (fun h18 => ?_) (fun h18 => ?_)
        · first
          | (simp (disch := omega) only [← nI_0, nI_leI, nI_ltI, nI_eq, not_true_eq_false, not_false_eq_true] at h18; done)
          | (simp (disch := omega) only [← nI_0, nI_leI, nI_ltI, nI_eq, not_true_eq_false, not_false_eq_true] at h18; omega)
          | contradiction
          | exact absurd h18 (Int32.not_lt.mpr (by assumption))
          | exact absurd h18 (Int32.not_le.mpr (by assumption))
          | exact absurd h18 (by decide)
          | exact absurd (by decide) h18
          | ( try simp (disch := omega) only [← nI_0, nI_leI, nI_ltI, nI_eq, not_true_eq_false, not_false_eq_true] at h18
              (try have h18b := zbit_n0.mp h18); (try have h18b := zbit_p0.mp h18)
              refine z_iconst (a := nI 3) d_Tf_trayStatus_25 (by decide) ?_
              refine z_reti d_Tf_trayStatus_26 ?_
              exact ⟨rfl, rfl⟩)
        · first
          | (simp (disch := omega) only [← nI_0, nI_leI, nI_ltI, nI_eq, not_true_eq_false, not_false_eq_true] at h18; done)
          | (simp (disch := omega) only [← nI_0, nI_leI, nI_ltI, nI_eq, not_true_eq_false, not_false_eq_true] at h18; omega)
          | contradiction
          | exact absurd h18 (Int32.not_lt.mpr (by assumption))
          | exact absurd h18 (Int32.not_le.mpr (by assumption))
          | exact absurd h18 (by decide)
          | exact absurd (by decide) h18
          | ( try simp (disch := omega) only [← nI_0, nI_leI, nI_ltI, nI_eq, not_true_eq_false, not_false_eq_true] at h18
              (try have h18b := zbit_n0.mp h18); (try have h18b := zbit_p0.mp h18)
              refine z_iconst (a := nI 0) d_Tf_trayStatus_21 (by decide) ?_
              refine z_goto (tgt := 26) d_Tf_trayStatus_22 (by decide) ?_
              refine z_reti d_Tf_trayStatus_26 ?_
              exact ⟨rfl, rfl⟩))
theorem t_Tf_trayStatus_p (Z : clOk f d P S) (ht : t < 4) (h0 : I (3 + 2 * t) 0 = nI 1) : zEi G y_Tf_trayStatus prog_1_method_61_code 2 (some .int) 2 [.ref 0, .int (nI t)] (I, J, P, S) (fun r w => r = nI 0 ∧ w = (I, J, P, S)) := by
  obtain ⟨⟨c0, c3, c1s⟩, ⟨c5, c2s, ctr⟩, ⟨c6, c11s, c11, c13s⟩, ⟨c7, c15s, c15⟩, ⟨c8, c16s, c16a, c16b, c17s⟩, ⟨c9, c10, cfd, F, Fd⟩, ⟨c11b, Ft⟩, ⟨c12, c69s, cmk⟩, ⟨c14, c121s, c121, c122s⟩, ⟨c15b, c123s, c123, c124s⟩, ⟨c16, c125s, c125, c126s⟩, ⟨c17, c127s, c127, c128s, ctb⟩, ⟨c18, c139s, c139, c140s⟩, ⟨c19, c141s, ⟨c141a, c142s⟩, ⟨c141b, c143s⟩, ⟨c141c, c144s⟩⟩, M⟩ := id Z
  obtain ⟨c2, T0, T1, T2⟩ := ctr t ht
  have hz : zin (nI t) 4 := ⟨t, ht, rfl⟩
  refine zEi_of (lv := [some (.ref 0), some (.int (nI t))]) (by decide) rfl (Nat.le_of_ble_eq_true rfl) ?_
  refine z_iload_1 d_Tf_trayStatus_0 ?_
  refine z_Si1 d_Tf_trayStatus_1 k_Tf_115 (t_Tf_noTray) ⟨Nat.le_of_ble_eq_true rfl, Nat.le_of_ble_eq_true rfl, Nat.le_of_ble_eq_true rfl, Nat.le_of_ble_eq_true rfl⟩ (Nat.le_of_ble_eq_true rfl) ?_
  intro r w hq
  rcases hq with ⟨⟨hz1, rfl⟩ | ⟨hz1, rfl⟩, rfl⟩
  · first
    | contradiction
    | ( skip
        refine z_if_eq (tgt := 9) d_Tf_trayStatus_4 (by decide) (fun h => absurd h (by decide)) (fun _ => ?_)
        refine z_iconst (a := nI 1) d_Tf_trayStatus_7 (by decide) ?_
        refine z_reti d_Tf_trayStatus_8 ?_
        exact ⟨rfl, rfl⟩)
  · first
    | contradiction
    | ( skip
        refine z_if_eq (tgt := 9) d_Tf_trayStatus_4 (by decide) (fun _ => ?_) (fun h => absurd h (by decide))
        refine z_aload_0 d_Tf_trayStatus_9 ?_
        refine z_getR d_Tf_trayStatus_10 f_Tf_29 (by first | assumption | exact zS0_at (by assumption) (by omega) | exact zS0_at rfl (by omega)) (by first | assumption | exact zS0_at (by assumption) (by omega) | exact zS0_at rfl (by omega)) ?_
        refine z_iload_1 d_Tf_trayStatus_13 ?_
        first | refine z_ald4N d_Tf_trayStatus_14 (by first | assumption | exact zS0_at (by assumption) (by omega) | exact zS0_at rfl (by omega)) (by omega) (by first | decide | omega) (by first | assumption | exact zS0_at (by assumption) (by omega) | exact zS0_at rfl (by omega)) ?_ | refine z_ald5N d_Tf_trayStatus_14 (by first | assumption | exact zS0_at (by assumption) (by omega) | exact zS0_at rfl (by omega)) (by omega) (by first | decide | omega) (by first | assumption | exact zS0_at (by assumption) (by omega) | exact zS0_at rfl (by omega)) ?_ | refine z_ald6N d_Tf_trayStatus_14 (by first | assumption | exact zS0_at (by assumption) (by omega) | exact zS0_at rfl (by omega)) (by omega) (by first | decide | omega) (by first | assumption | exact zS0_at (by assumption) (by omega) | exact zS0_at rfl (by omega)) ?_
        refine z_getIv d_Tf_trayStatus_15 f_Tf_146 (by first | assumption | exact zS0_at (by assumption) (by omega) | exact zS0_at rfl (by omega)) (by first | assumption | ((try simp (disch := omega) only [zu_same, zu_ne, zcp_ne, zfl_ne]); first | assumption | rfl)) ?_
        refine z_if_eq (tgt := 25) d_Tf_trayStatus_18 (by decide) (fun h18 => ?_) (fun h18 => ?_)
        · first
          | (simp (disch := omega) only [← nI_0, nI_leI, nI_ltI, nI_eq, not_true_eq_false, not_false_eq_true] at h18; done)
          | (simp (disch := omega) only [← nI_0, nI_leI, nI_ltI, nI_eq, not_true_eq_false, not_false_eq_true] at h18; omega)
          | contradiction
          | exact absurd h18 (Int32.not_lt.mpr (by assumption))
          | exact absurd h18 (Int32.not_le.mpr (by assumption))
          | exact absurd h18 (by decide)
          | exact absurd (by decide) h18
          | ( try simp (disch := omega) only [← nI_0, nI_leI, nI_ltI, nI_eq, not_true_eq_false, not_false_eq_true] at h18
              (try have h18b := zbit_n0.mp h18); (try have h18b := zbit_p0.mp h18)
              refine z_iconst (a := nI 3) d_Tf_trayStatus_25 (by decide) ?_
              refine z_reti d_Tf_trayStatus_26 ?_
              exact ⟨rfl, rfl⟩)
        · first
          | (simp (disch := omega) only [← nI_0, nI_leI, nI_ltI, nI_eq, not_true_eq_false, not_false_eq_true] at h18; done)
          | (simp (disch := omega) only [← nI_0, nI_leI, nI_ltI, nI_eq, not_true_eq_false, not_false_eq_true] at h18; omega)
          | contradiction
          | exact absurd h18 (Int32.not_lt.mpr (by assumption))
          | exact absurd h18 (Int32.not_le.mpr (by assumption))
          | exact absurd h18 (by decide)
          | exact absurd (by decide) h18
          | ( try simp (disch := omega) only [← nI_0, nI_leI, nI_ltI, nI_eq, not_true_eq_false, not_false_eq_true] at h18
              (try have h18b := zbit_n0.mp h18); (try have h18b := zbit_p0.mp h18)
              refine z_iconst (a := nI 0) d_Tf_trayStatus_21 (by decide) ?_
              refine z_goto (tgt := 26) d_Tf_trayStatus_22 (by decide) ?_
              refine z_reti d_Tf_trayStatus_26 ?_
              exact ⟨rfl, rfl⟩))
theorem t_Tf_placeStatus_o (Z : clOk f d P S) (h : ¬ zin a 4) : zEi G y_Tf_placeStatus prog_1_method_62_code 4 (some .int) 3 [.ref 0, .int a, .int b] (I, J, P, S) (fun r w => r = nI 1 ∧ w = (I, J, P, S)) := by
  obtain ⟨⟨c0, c3, c1s⟩, ⟨c5, c2s, ctr⟩, ⟨c6, c11s, c11, c13s⟩, ⟨c7, c15s, c15⟩, ⟨c8, c16s, c16a, c16b, c17s⟩, ⟨c9, c10, cfd, F, Fd⟩, ⟨c11b, Ft⟩, ⟨c12, c69s, cmk⟩, ⟨c14, c121s, c121, c122s⟩, ⟨c15b, c123s, c123, c124s⟩, ⟨c16, c125s, c125, c126s⟩, ⟨c17, c127s, c127, c128s, ctb⟩, ⟨c18, c139s, c139, c140s⟩, ⟨c19, c141s, ⟨c141a, c142s⟩, ⟨c141b, c143s⟩, ⟨c141c, c144s⟩⟩, M⟩ := id Z
  refine zEi_of (lv := [some (.ref 0), some (.int a), some (.int b), none]) (by decide) rfl (Nat.le_of_ble_eq_true rfl) ?_
  refine z_aload_0 d_Tf_placeStatus_0 ?_
  refine z_iload_1 d_Tf_placeStatus_1 ?_
  refine z_Vi1 d_Tf_placeStatus_2 k_Tf_267 (by first | assumption | exact zS0_at (by assumption) (by omega) | exact zS0_at rfl (by omega)) (t_Tf_trayStatus_o Z h) ⟨Nat.le_of_ble_eq_true rfl, Nat.le_of_ble_eq_true rfl, Nat.le_of_ble_eq_true rfl, Nat.le_of_ble_eq_true rfl⟩ (Nat.le_of_ble_eq_true rfl) ?_
  intro r w hq
  obtain ⟨rfl, rfl⟩ := hq
  first | refine z_istore_3 d_Tf_placeStatus_5 rfl ?_ | (refine z_forget_2 ?_; refine z_istore_3 d_Tf_placeStatus_5 rfl ?_)
  refine z_iload_3 d_Tf_placeStatus_6 ?_
  refine z_if_eq (tgt := 12) d_Tf_placeStatus_7 (by decide) (fun h7 => ?_) (fun h7 => ?_)
  · first
    | (simp (disch := omega) only [← nI_0, nI_leI, nI_ltI, nI_eq, not_true_eq_false, not_false_eq_true] at h7; done)
    | (simp (disch := omega) only [← nI_0, nI_leI, nI_ltI, nI_eq, not_true_eq_false, not_false_eq_true] at h7; omega)
    | contradiction
    | exact absurd h7 (Int32.not_lt.mpr (by assumption))
    | exact absurd h7 (Int32.not_le.mpr (by assumption))
    | exact absurd h7 (by decide)
    | exact absurd (by decide) h7
    | ( try simp (disch := omega) only [← nI_0, nI_leI, nI_ltI, nI_eq, not_true_eq_false, not_false_eq_true] at h7
        (try have h7b := zbit_n0.mp h7); (try have h7b := zbit_p0.mp h7)
        skip)
  · first
    | (simp (disch := omega) only [← nI_0, nI_leI, nI_ltI, nI_eq, not_true_eq_false, not_false_eq_true] at h7; done)
    | (simp (disch := omega) only [← nI_0, nI_leI, nI_ltI, nI_eq, not_true_eq_false, not_false_eq_true] at h7; omega)
    | contradiction
    | exact absurd h7 (Int32.not_lt.mpr (by assumption))
    | exact absurd h7 (Int32.not_le.mpr (by assumption))
    | exact absurd h7 (by decide)
    | exact absurd (by decide) h7
    | ( try simp (disch := omega) only [← nI_0, nI_leI, nI_ltI, nI_eq, not_true_eq_false, not_false_eq_true] at h7
        (try have h7b := zbit_n0.mp h7); (try have h7b := zbit_p0.mp h7)
        refine z_iload_3 d_Tf_placeStatus_10 ?_
        refine z_reti d_Tf_placeStatus_11 ?_
        exact ⟨rfl, rfl⟩)
theorem t_Tf_placeStatus_m (Z : clOk f d P S) (ht : t < 4) (h0 : I (3 + 2 * t) 0 = nI 0) : zEi G y_Tf_placeStatus prog_1_method_62_code 4 (some .int) 3 [.ref 0, .int (nI t), .int b] (I, J, P, S) (fun r w => r = nI 3 ∧ w = (I, J, P, S)) := by
  obtain ⟨⟨c0, c3, c1s⟩, ⟨c5, c2s, ctr⟩, ⟨c6, c11s, c11, c13s⟩, ⟨c7, c15s, c15⟩, ⟨c8, c16s, c16a, c16b, c17s⟩, ⟨c9, c10, cfd, F, Fd⟩, ⟨c11b, Ft⟩, ⟨c12, c69s, cmk⟩, ⟨c14, c121s, c121, c122s⟩, ⟨c15b, c123s, c123, c124s⟩, ⟨c16, c125s, c125, c126s⟩, ⟨c17, c127s, c127, c128s, ctb⟩, ⟨c18, c139s, c139, c140s⟩, ⟨c19, c141s, ⟨c141a, c142s⟩, ⟨c141b, c143s⟩, ⟨c141c, c144s⟩⟩, M⟩ := id Z
  refine zEi_of (lv := [some (.ref 0), some (.int (nI t)), some (.int b), none]) (by decide) rfl (Nat.le_of_ble_eq_true rfl) ?_
  refine z_aload_0 d_Tf_placeStatus_0 ?_
  refine z_iload_1 d_Tf_placeStatus_1 ?_
  refine z_Vi1 d_Tf_placeStatus_2 k_Tf_267 (by first | assumption | exact zS0_at (by assumption) (by omega) | exact zS0_at rfl (by omega)) (t_Tf_trayStatus_m Z ht h0) ⟨Nat.le_of_ble_eq_true rfl, Nat.le_of_ble_eq_true rfl, Nat.le_of_ble_eq_true rfl, Nat.le_of_ble_eq_true rfl⟩ (Nat.le_of_ble_eq_true rfl) ?_
  intro r w hq
  obtain ⟨rfl, rfl⟩ := hq
  first | refine z_istore_3 d_Tf_placeStatus_5 rfl ?_ | (refine z_forget_2 ?_; refine z_istore_3 d_Tf_placeStatus_5 rfl ?_)
  refine z_iload_3 d_Tf_placeStatus_6 ?_
  refine z_if_eq (tgt := 12) d_Tf_placeStatus_7 (by decide) (fun h7 => ?_) (fun h7 => ?_)
  · first
    | (simp (disch := omega) only [← nI_0, nI_leI, nI_ltI, nI_eq, not_true_eq_false, not_false_eq_true] at h7; done)
    | (simp (disch := omega) only [← nI_0, nI_leI, nI_ltI, nI_eq, not_true_eq_false, not_false_eq_true] at h7; omega)
    | contradiction
    | exact absurd h7 (Int32.not_lt.mpr (by assumption))
    | exact absurd h7 (Int32.not_le.mpr (by assumption))
    | exact absurd h7 (by decide)
    | exact absurd (by decide) h7
    | ( try simp (disch := omega) only [← nI_0, nI_leI, nI_ltI, nI_eq, not_true_eq_false, not_false_eq_true] at h7
        (try have h7b := zbit_n0.mp h7); (try have h7b := zbit_p0.mp h7)
        skip)
  · first
    | (simp (disch := omega) only [← nI_0, nI_leI, nI_ltI, nI_eq, not_true_eq_false, not_false_eq_true] at h7; done)
    | (simp (disch := omega) only [← nI_0, nI_leI, nI_ltI, nI_eq, not_true_eq_false, not_false_eq_true] at h7; omega)
    | contradiction
    | exact absurd h7 (Int32.not_lt.mpr (by assumption))
    | exact absurd h7 (Int32.not_le.mpr (by assumption))
    | exact absurd h7 (by decide)
    | exact absurd (by decide) h7
    | ( try simp (disch := omega) only [← nI_0, nI_leI, nI_ltI, nI_eq, not_true_eq_false, not_false_eq_true] at h7
        (try have h7b := zbit_n0.mp h7); (try have h7b := zbit_p0.mp h7)
        refine z_iload_3 d_Tf_placeStatus_10 ?_
        refine z_reti d_Tf_placeStatus_11 ?_
        exact ⟨rfl, rfl⟩)
theorem t_Tf_placeStatus_x (Z : clOk f d P S) (ht : t < 4) (h0 : I (3 + 2 * t) 0 = nI 1) (hl : I (3 + 2 * t) 2 = nI l) (hl6 : l ≤ 60) (hb : ¬ zin b l) : zEi G y_Tf_placeStatus prog_1_method_62_code 4 (some .int) 3 [.ref 0, .int (nI t), .int b] (I, J, P, S) (fun r w => r = nI 4 ∧ w = (I, J, P, S)) := by
  obtain ⟨⟨c0, c3, c1s⟩, ⟨c5, c2s, ctr⟩, ⟨c6, c11s, c11, c13s⟩, ⟨c7, c15s, c15⟩, ⟨c8, c16s, c16a, c16b, c17s⟩, ⟨c9, c10, cfd, F, Fd⟩, ⟨c11b, Ft⟩, ⟨c12, c69s, cmk⟩, ⟨c14, c121s, c121, c122s⟩, ⟨c15b, c123s, c123, c124s⟩, ⟨c16, c125s, c125, c126s⟩, ⟨c17, c127s, c127, c128s, ctb⟩, ⟨c18, c139s, c139, c140s⟩, ⟨c19, c141s, ⟨c141a, c142s⟩, ⟨c141b, c143s⟩, ⟨c141c, c144s⟩⟩, M⟩ := id Z
  obtain ⟨c2, T⟩ := ctr t ht
  obtain ⟨T0, T1, T2⟩ := id T
  have hb2 : ¬ hrun b (nI 1) l := fun q => hb ((hrun_1 hl6).mp q)
  refine zEi_of (lv := [some (.ref 0), some (.int (nI t)), some (.int b), none]) (by decide) rfl (Nat.le_of_ble_eq_true rfl) ?_
  refine z_aload_0 d_Tf_placeStatus_0 ?_
  refine z_iload_1 d_Tf_placeStatus_1 ?_
  refine z_Vi1 d_Tf_placeStatus_2 k_Tf_267 (by first | assumption | exact zS0_at (by assumption) (by omega) | exact zS0_at rfl (by omega)) (t_Tf_trayStatus_p Z ht h0) ⟨Nat.le_of_ble_eq_true rfl, Nat.le_of_ble_eq_true rfl, Nat.le_of_ble_eq_true rfl, Nat.le_of_ble_eq_true rfl⟩ (Nat.le_of_ble_eq_true rfl) ?_
  intro r w hq
  obtain ⟨rfl, rfl⟩ := hq
  first | refine z_istore_3 d_Tf_placeStatus_5 rfl ?_ | (refine z_forget_2 ?_; refine z_istore_3 d_Tf_placeStatus_5 rfl ?_)
  refine z_iload_3 d_Tf_placeStatus_6 ?_
  refine z_if_eq (tgt := 12) d_Tf_placeStatus_7 (by decide) (fun h7 => ?_) (fun h7 => ?_)
  · first
    | (simp (disch := omega) only [← nI_0, nI_leI, nI_ltI, nI_eq, not_true_eq_false, not_false_eq_true] at h7; done)
    | (simp (disch := omega) only [← nI_0, nI_leI, nI_ltI, nI_eq, not_true_eq_false, not_false_eq_true] at h7; omega)
    | contradiction
    | exact absurd h7 (Int32.not_lt.mpr (by assumption))
    | exact absurd h7 (Int32.not_le.mpr (by assumption))
    | exact absurd h7 (by decide)
    | exact absurd (by decide) h7
    | ( try simp (disch := omega) only [← nI_0, nI_leI, nI_ltI, nI_eq, not_true_eq_false, not_false_eq_true] at h7
        (try have h7b := zbit_n0.mp h7); (try have h7b := zbit_p0.mp h7)
        refine z_aload_0 d_Tf_placeStatus_12 ?_
        refine z_getR d_Tf_placeStatus_13 f_Tf_29 (by first | assumption | exact zS0_at (by assumption) (by omega) | exact zS0_at rfl (by omega)) (by first | assumption | exact zS0_at (by assumption) (by omega) | exact zS0_at rfl (by omega)) ?_
        refine z_iload_1 d_Tf_placeStatus_16 ?_
        first | refine z_ald4N d_Tf_placeStatus_17 (by first | assumption | exact zS0_at (by assumption) (by omega) | exact zS0_at rfl (by omega)) (by omega) (by first | decide | omega) (by first | assumption | exact zS0_at (by assumption) (by omega) | exact zS0_at rfl (by omega)) ?_ | refine z_ald5N d_Tf_placeStatus_17 (by first | assumption | exact zS0_at (by assumption) (by omega) | exact zS0_at rfl (by omega)) (by omega) (by first | decide | omega) (by first | assumption | exact zS0_at (by assumption) (by omega) | exact zS0_at rfl (by omega)) ?_ | refine z_ald6N d_Tf_placeStatus_17 (by first | assumption | exact zS0_at (by assumption) (by omega) | exact zS0_at rfl (by omega)) (by omega) (by first | decide | omega) (by first | assumption | exact zS0_at (by assumption) (by omega) | exact zS0_at rfl (by omega)) ?_
        refine z_iload_2 d_Tf_placeStatus_18 ?_
        refine z_iconst (a := nI 1) d_Tf_placeStatus_19 (by decide) ?_
        refine z_Vi2 d_Tf_placeStatus_20 k_Tf_153 (by first | assumption | exact zS0_at (by assumption) (by omega) | exact zS0_at rfl (by omega)) (t_Tray_hasRunG T hl hl6) ⟨Nat.le_of_ble_eq_true rfl, Nat.le_of_ble_eq_true rfl, Nat.le_of_ble_eq_true rfl, Nat.le_of_ble_eq_true rfl⟩ (Nat.le_of_ble_eq_true rfl) ?_
        intro r w hq
        rcases hq with ⟨⟨hz20, rfl⟩ | ⟨hz20, rfl⟩, rfl⟩
        · first
          | contradiction
          | ( skip
              refine z_if_eq (tgt := 30) d_Tf_placeStatus_23 (by decide) (fun h => absurd h (by decide)) (fun _ => ?_)
              refine z_iconst (a := nI 0) d_Tf_placeStatus_26 (by decide) ?_
              refine z_goto (tgt := 31) d_Tf_placeStatus_27 (by decide) ?_
              refine z_reti d_Tf_placeStatus_31 ?_
              exact ⟨rfl, rfl⟩)
        · first
          | contradiction
          | ( skip
              refine z_if_eq (tgt := 30) d_Tf_placeStatus_23 (by decide) (fun _ => ?_) (fun h => absurd h (by decide))
              refine z_iconst (a := nI 4) d_Tf_placeStatus_30 (by decide) ?_
              refine z_reti d_Tf_placeStatus_31 ?_
              exact ⟨rfl, rfl⟩))
  · first
    | (simp (disch := omega) only [← nI_0, nI_leI, nI_ltI, nI_eq, not_true_eq_false, not_false_eq_true] at h7; done)
    | (simp (disch := omega) only [← nI_0, nI_leI, nI_ltI, nI_eq, not_true_eq_false, not_false_eq_true] at h7; omega)
    | contradiction
    | exact absurd h7 (Int32.not_lt.mpr (by assumption))
    | exact absurd h7 (Int32.not_le.mpr (by assumption))
    | exact absurd h7 (by decide)
    | exact absurd (by decide) h7
    | ( try simp (disch := omega) only [← nI_0, nI_leI, nI_ltI, nI_eq, not_true_eq_false, not_false_eq_true] at h7
        (try have h7b := zbit_n0.mp h7); (try have h7b := zbit_p0.mp h7)
        refine z_iload_3 d_Tf_placeStatus_10 ?_
        refine z_reti d_Tf_placeStatus_11 ?_
        exact ⟨rfl, rfl⟩)
theorem t_Tf_placeStatus_p {p : Nat} (Z : clOk f d P S) (ht : t < 4) (h0 : I (3 + 2 * t) 0 = nI 1) (hl : I (3 + 2 * t) 2 = nI l) (hl6 : l ≤ 60) (hp : p < l) : zEi G y_Tf_placeStatus prog_1_method_62_code 4 (some .int) 3 [.ref 0, .int (nI t), .int (nI p)] (I, J, P, S) (fun r w => r = nI 0 ∧ w = (I, J, P, S)) := by
  obtain ⟨⟨c0, c3, c1s⟩, ⟨c5, c2s, ctr⟩, ⟨c6, c11s, c11, c13s⟩, ⟨c7, c15s, c15⟩, ⟨c8, c16s, c16a, c16b, c17s⟩, ⟨c9, c10, cfd, F, Fd⟩, ⟨c11b, Ft⟩, ⟨c12, c69s, cmk⟩, ⟨c14, c121s, c121, c122s⟩, ⟨c15b, c123s, c123, c124s⟩, ⟨c16, c125s, c125, c126s⟩, ⟨c17, c127s, c127, c128s, ctb⟩, ⟨c18, c139s, c139, c140s⟩, ⟨c19, c141s, ⟨c141a, c142s⟩, ⟨c141b, c143s⟩, ⟨c141c, c144s⟩⟩, M⟩ := id Z
  obtain ⟨c2, T⟩ := ctr t ht
  obtain ⟨T0, T1, T2⟩ := id T
  have hb2 : hrun (nI p) (nI 1) l := (hrun_1 hl6).mpr ⟨p, hp, rfl⟩
  refine zEi_of (lv := [some (.ref 0), some (.int (nI t)), some (.int (nI p)), none]) (by decide) rfl (Nat.le_of_ble_eq_true rfl) ?_
  refine z_aload_0 d_Tf_placeStatus_0 ?_
  refine z_iload_1 d_Tf_placeStatus_1 ?_
  refine z_Vi1 d_Tf_placeStatus_2 k_Tf_267 (by first | assumption | exact zS0_at (by assumption) (by omega) | exact zS0_at rfl (by omega)) (t_Tf_trayStatus_p Z ht h0) ⟨Nat.le_of_ble_eq_true rfl, Nat.le_of_ble_eq_true rfl, Nat.le_of_ble_eq_true rfl, Nat.le_of_ble_eq_true rfl⟩ (Nat.le_of_ble_eq_true rfl) ?_
  intro r w hq
  obtain ⟨rfl, rfl⟩ := hq
  first | refine z_istore_3 d_Tf_placeStatus_5 rfl ?_ | (refine z_forget_2 ?_; refine z_istore_3 d_Tf_placeStatus_5 rfl ?_)
  refine z_iload_3 d_Tf_placeStatus_6 ?_
  refine z_if_eq (tgt := 12) d_Tf_placeStatus_7 (by decide) (fun h7 => ?_) (fun h7 => ?_)
  · first
    | (simp (disch := omega) only [← nI_0, nI_leI, nI_ltI, nI_eq, not_true_eq_false, not_false_eq_true] at h7; done)
    | (simp (disch := omega) only [← nI_0, nI_leI, nI_ltI, nI_eq, not_true_eq_false, not_false_eq_true] at h7; omega)
    | contradiction
    | exact absurd h7 (Int32.not_lt.mpr (by assumption))
    | exact absurd h7 (Int32.not_le.mpr (by assumption))
    | exact absurd h7 (by decide)
    | exact absurd (by decide) h7
    | ( try simp (disch := omega) only [← nI_0, nI_leI, nI_ltI, nI_eq, not_true_eq_false, not_false_eq_true] at h7
        (try have h7b := zbit_n0.mp h7); (try have h7b := zbit_p0.mp h7)
        refine z_aload_0 d_Tf_placeStatus_12 ?_
        refine z_getR d_Tf_placeStatus_13 f_Tf_29 (by first | assumption | exact zS0_at (by assumption) (by omega) | exact zS0_at rfl (by omega)) (by first | assumption | exact zS0_at (by assumption) (by omega) | exact zS0_at rfl (by omega)) ?_
        refine z_iload_1 d_Tf_placeStatus_16 ?_
        first | refine z_ald4N d_Tf_placeStatus_17 (by first | assumption | exact zS0_at (by assumption) (by omega) | exact zS0_at rfl (by omega)) (by omega) (by first | decide | omega) (by first | assumption | exact zS0_at (by assumption) (by omega) | exact zS0_at rfl (by omega)) ?_ | refine z_ald5N d_Tf_placeStatus_17 (by first | assumption | exact zS0_at (by assumption) (by omega) | exact zS0_at rfl (by omega)) (by omega) (by first | decide | omega) (by first | assumption | exact zS0_at (by assumption) (by omega) | exact zS0_at rfl (by omega)) ?_ | refine z_ald6N d_Tf_placeStatus_17 (by first | assumption | exact zS0_at (by assumption) (by omega) | exact zS0_at rfl (by omega)) (by omega) (by first | decide | omega) (by first | assumption | exact zS0_at (by assumption) (by omega) | exact zS0_at rfl (by omega)) ?_
        refine z_iload_2 d_Tf_placeStatus_18 ?_
        refine z_iconst (a := nI 1) d_Tf_placeStatus_19 (by decide) ?_
        refine z_Vi2 d_Tf_placeStatus_20 k_Tf_153 (by first | assumption | exact zS0_at (by assumption) (by omega) | exact zS0_at rfl (by omega)) (t_Tray_hasRunG T hl hl6) ⟨Nat.le_of_ble_eq_true rfl, Nat.le_of_ble_eq_true rfl, Nat.le_of_ble_eq_true rfl, Nat.le_of_ble_eq_true rfl⟩ (Nat.le_of_ble_eq_true rfl) ?_
        intro r w hq
        rcases hq with ⟨⟨hz20, rfl⟩ | ⟨hz20, rfl⟩, rfl⟩
        · first
          | contradiction
          | ( skip
              refine z_if_eq (tgt := 30) d_Tf_placeStatus_23 (by decide) (fun h => absurd h (by decide)) (fun _ => ?_)
              refine z_iconst (a := nI 0) d_Tf_placeStatus_26 (by decide) ?_
              refine z_goto (tgt := 31) d_Tf_placeStatus_27 (by decide) ?_
              refine z_reti d_Tf_placeStatus_31 ?_
              exact ⟨rfl, rfl⟩)
        · first
          | contradiction
          | ( skip
              refine z_if_eq (tgt := 30) d_Tf_placeStatus_23 (by decide) (fun _ => ?_) (fun h => absurd h (by decide))
              refine z_iconst (a := nI 4) d_Tf_placeStatus_30 (by decide) ?_
              refine z_reti d_Tf_placeStatus_31 ?_
              exact ⟨rfl, rfl⟩))
  · first
    | (simp (disch := omega) only [← nI_0, nI_leI, nI_ltI, nI_eq, not_true_eq_false, not_false_eq_true] at h7; done)
    | (simp (disch := omega) only [← nI_0, nI_leI, nI_ltI, nI_eq, not_true_eq_false, not_false_eq_true] at h7; omega)
    | contradiction
    | exact absurd h7 (Int32.not_lt.mpr (by assumption))
    | exact absurd h7 (Int32.not_le.mpr (by assumption))
    | exact absurd h7 (by decide)
    | exact absurd (by decide) h7
    | ( try simp (disch := omega) only [← nI_0, nI_leI, nI_ltI, nI_eq, not_true_eq_false, not_false_eq_true] at h7
        (try have h7b := zbit_n0.mp h7); (try have h7b := zbit_p0.mp h7)
        refine z_iload_3 d_Tf_placeStatus_10 ?_
        refine z_reti d_Tf_placeStatus_11 ?_
        exact ⟨rfl, rfl⟩)
theorem t_Mo_trayed_o (M : modOk P S) (h : ¬ zin a 4) : zEi G y_Mo_trayed prog_14_method_12_code 2 (some .int) 1 [.ref 145, .int a] (I, J, P, S) (fun r w => r = nI 1 ∧ w = (I, J, P, S)) := by
  obtain ⟨M0, ⟨M4, M4s⟩, ⟨M5, M5s⟩, ⟨M6, M6s⟩, ⟨M7, M7s⟩, ⟨M20, M20s⟩, ⟨M21, M21s⟩, ⟨M22, M22s⟩, ⟨M26, M26s⟩, ⟨M27, M27s⟩, ⟨M28, M28s⟩, ⟨M30, M30s⟩, ⟨M34, M34s⟩, ⟨M36, M36s⟩, ⟨M37, M37s⟩⟩ := id M
  have h := zin_not (m := 3) (by decide) h
  refine zEi_of (lv := [some (.ref 145), some (.int a)]) (by decide) rfl (Nat.le_of_ble_eq_true rfl) ?_
  rcases h with h | h
  · refine z_iload_1 d_Mo_trayed_0 ?_
    refine z_if_lt (tgt := 9) d_Mo_trayed_1 (by decide) (fun h1 => ?_) (fun h1 => ?_)
    · first
      | (simp (disch := omega) only [← nI_0, nI_leI, nI_ltI, nI_eq, not_true_eq_false, not_false_eq_true] at h1; done)
      | (simp (disch := omega) only [← nI_0, nI_leI, nI_ltI, nI_eq, not_true_eq_false, not_false_eq_true] at h1; omega)
      | contradiction
      | exact absurd h1 (Int32.not_lt.mpr (by assumption))
      | exact absurd h1 (Int32.not_le.mpr (by assumption))
      | exact absurd h1 (by decide)
      | exact absurd (by decide) h1
      | ( try simp (disch := omega) only [← nI_0, nI_leI, nI_ltI, nI_eq, not_true_eq_false, not_false_eq_true] at h1
          (try have h1b := zbit_n0.mp h1); (try have h1b := zbit_p0.mp h1)
          refine z_iconst (a := nI 1) d_Mo_trayed_9 (by decide) ?_
          refine z_goto (tgt := 27) d_Mo_trayed_10 (by decide) ?_
          refine z_reti d_Mo_trayed_27 ?_
          exact ⟨rfl, rfl⟩)
    · first
      | (simp (disch := omega) only [← nI_0, nI_leI, nI_ltI, nI_eq, not_true_eq_false, not_false_eq_true] at h1; done)
      | (simp (disch := omega) only [← nI_0, nI_leI, nI_ltI, nI_eq, not_true_eq_false, not_false_eq_true] at h1; omega)
      | contradiction
      | exact absurd h1 (Int32.not_lt.mpr (by assumption))
      | exact absurd h1 (Int32.not_le.mpr (by assumption))
      | exact absurd h1 (by decide)
      | exact absurd (by decide) h1
      | ( try simp (disch := omega) only [← nI_0, nI_leI, nI_ltI, nI_eq, not_true_eq_false, not_false_eq_true] at h1
          (try have h1b := zbit_n0.mp h1); (try have h1b := zbit_p0.mp h1)
          refine z_iload_1 d_Mo_trayed_4 ?_
          refine z_iconst (a := nI 4) d_Mo_trayed_5 (by decide) ?_
          refine z_icmp_lt (tgt := 13) d_Mo_trayed_6 (by decide) (fun h6 => ?_) (fun h6 => ?_)
          · first
            | (simp (disch := omega) only [← nI_0, nI_leI, nI_ltI, nI_eq, not_true_eq_false, not_false_eq_true] at h6; done)
            | (simp (disch := omega) only [← nI_0, nI_leI, nI_ltI, nI_eq, not_true_eq_false, not_false_eq_true] at h6; omega)
            | contradiction
            | exact absurd h6 (Int32.not_lt.mpr (by assumption))
            | exact absurd h6 (Int32.not_le.mpr (by assumption))
            | exact absurd h6 (by decide)
            | exact absurd (by decide) h6
            | ( try simp (disch := omega) only [← nI_0, nI_leI, nI_ltI, nI_eq, not_true_eq_false, not_false_eq_true] at h6
                (try have h6b := zbit_n0.mp h6); (try have h6b := zbit_p0.mp h6)
                contradiction)
          · first
            | (simp (disch := omega) only [← nI_0, nI_leI, nI_ltI, nI_eq, not_true_eq_false, not_false_eq_true] at h6; done)
            | (simp (disch := omega) only [← nI_0, nI_leI, nI_ltI, nI_eq, not_true_eq_false, not_false_eq_true] at h6; omega)
            | contradiction
            | exact absurd h6 (Int32.not_lt.mpr (by assumption))
            | exact absurd h6 (Int32.not_le.mpr (by assumption))
            | exact absurd h6 (by decide)
            | exact absurd (by decide) h6
            | ( try simp (disch := omega) only [← nI_0, nI_leI, nI_ltI, nI_eq, not_true_eq_false, not_false_eq_true] at h6
                (try have h6b := zbit_n0.mp h6); (try have h6b := zbit_p0.mp h6)
                refine z_iconst (a := nI 1) d_Mo_trayed_9 (by decide) ?_
                refine z_goto (tgt := 27) d_Mo_trayed_10 (by decide) ?_
                refine z_reti d_Mo_trayed_27 ?_
                exact ⟨rfl, rfl⟩))
  · have h0 := h
    refine z_iload_1 d_Mo_trayed_0 ?_
    refine z_if_lt (tgt := 9) d_Mo_trayed_1 (by decide) (fun h1 => ?_) (fun h1 => ?_)
    · refine z_iconst (a := nI 1) d_Mo_trayed_9 (by decide) ?_
      refine z_goto (tgt := 27) d_Mo_trayed_10 (by decide) ?_
      refine z_reti d_Mo_trayed_27 ?_
      exact ⟨rfl, rfl⟩
    · refine z_iload_1 d_Mo_trayed_4 ?_
      refine z_iconst (a := nI 4) d_Mo_trayed_5 (by decide) ?_
      refine z_icmp_lt (tgt := 13) d_Mo_trayed_6 (by decide) (fun h2 => ?_) (fun h2 => ?_)
      · refine absurd h (Int32.not_lt.mpr ?_)
        rcases pk_ix a (n := 4) (by decide) with q | q | ⟨j, hj, rfl⟩
        · exact absurd q h1
        · exact absurd h2 (Int32.not_lt.mpr q)
        · exact nI_le (by omega) (by omega)
      · refine z_iconst (a := nI 1) d_Mo_trayed_9 (by decide) ?_
        refine z_goto (tgt := 27) d_Mo_trayed_10 (by decide) ?_
        refine z_reti d_Mo_trayed_27 ?_
        exact ⟨rfl, rfl⟩
theorem t_Mo_trayed_m (M : modOk P S) (ht : t < 4) (h0 : I 147 t = -1) : zEi G y_Mo_trayed prog_14_method_12_code 2 (some .int) 1 [.ref 145, .int (nI t)] (I, J, P, S) (fun r w => r = nI 3 ∧ w = (I, J, P, S)) := by
  obtain ⟨M0, ⟨M4, M4s⟩, ⟨M5, M5s⟩, ⟨M6, M6s⟩, ⟨M7, M7s⟩, ⟨M20, M20s⟩, ⟨M21, M21s⟩, ⟨M22, M22s⟩, ⟨M26, M26s⟩, ⟨M27, M27s⟩, ⟨M28, M28s⟩, ⟨M30, M30s⟩, ⟨M34, M34s⟩, ⟨M36, M36s⟩, ⟨M37, M37s⟩⟩ := id M
  refine zEi_of (lv := [some (.ref 145), some (.int (nI t))]) (by decide) rfl (Nat.le_of_ble_eq_true rfl) ?_
  refine z_iload_1 d_Mo_trayed_0 ?_
  refine z_if_lt (tgt := 9) d_Mo_trayed_1 (by decide) (fun h1 => ?_) (fun h1 => ?_)
  · first
    | (simp (disch := omega) only [← nI_0, nI_leI, nI_ltI, nI_eq, not_true_eq_false, not_false_eq_true] at h1; done)
    | (simp (disch := omega) only [← nI_0, nI_leI, nI_ltI, nI_eq, not_true_eq_false, not_false_eq_true] at h1; omega)
    | contradiction
    | exact absurd h1 (Int32.not_lt.mpr (by assumption))
    | exact absurd h1 (Int32.not_le.mpr (by assumption))
    | exact absurd h1 (by decide)
    | exact absurd (by decide) h1
    | ( try simp (disch := omega) only [← nI_0, nI_leI, nI_ltI, nI_eq, not_true_eq_false, not_false_eq_true] at h1
        (try have h1b := zbit_n0.mp h1); (try have h1b := zbit_p0.mp h1)
        refine z_iconst (a := nI 1) d_Mo_trayed_9 (by decide) ?_
        refine z_goto (tgt := 27) d_Mo_trayed_10 (by decide) ?_
        refine z_reti d_Mo_trayed_27 ?_
        exact ⟨rfl, rfl⟩)
  · first
    | (simp (disch := omega) only [← nI_0, nI_leI, nI_ltI, nI_eq, not_true_eq_false, not_false_eq_true] at h1; done)
    | (simp (disch := omega) only [← nI_0, nI_leI, nI_ltI, nI_eq, not_true_eq_false, not_false_eq_true] at h1; omega)
    | contradiction
    | exact absurd h1 (Int32.not_lt.mpr (by assumption))
    | exact absurd h1 (Int32.not_le.mpr (by assumption))
    | exact absurd h1 (by decide)
    | exact absurd (by decide) h1
    | ( try simp (disch := omega) only [← nI_0, nI_leI, nI_ltI, nI_eq, not_true_eq_false, not_false_eq_true] at h1
        (try have h1b := zbit_n0.mp h1); (try have h1b := zbit_p0.mp h1)
        refine z_iload_1 d_Mo_trayed_4 ?_
        refine z_iconst (a := nI 4) d_Mo_trayed_5 (by decide) ?_
        refine z_icmp_lt (tgt := 13) d_Mo_trayed_6 (by decide) (fun h6 => ?_) (fun h6 => ?_)
        · first
          | (simp (disch := omega) only [← nI_0, nI_leI, nI_ltI, nI_eq, not_true_eq_false, not_false_eq_true] at h6; done)
          | (simp (disch := omega) only [← nI_0, nI_leI, nI_ltI, nI_eq, not_true_eq_false, not_false_eq_true] at h6; omega)
          | contradiction
          | exact absurd h6 (Int32.not_lt.mpr (by assumption))
          | exact absurd h6 (Int32.not_le.mpr (by assumption))
          | exact absurd h6 (by decide)
          | exact absurd (by decide) h6
          | ( try simp (disch := omega) only [← nI_0, nI_leI, nI_ltI, nI_eq, not_true_eq_false, not_false_eq_true] at h6
              (try have h6b := zbit_n0.mp h6); (try have h6b := zbit_p0.mp h6)
              refine z_aload_0 d_Mo_trayed_13 ?_
              refine z_getR d_Mo_trayed_14 f_Mo_17 (by first | assumption | exact zS0_at (by assumption) (by omega) | exact zS0_at rfl (by omega)) (by first | assumption | exact zS0_at (by assumption) (by omega) | exact zS0_at rfl (by omega)) ?_
              refine z_iload_1 d_Mo_trayed_17 ?_
              first | refine z_ialdNv d_Mo_trayed_18 (by first | assumption | exact zS0_at (by assumption) (by omega) | exact zS0_at rfl (by omega)) (by omega) (by first | decide | omega) (by first | assumption | ((try simp (disch := omega) only [zu_same, zu_ne, zcp_ne, zfl_ne]); first | assumption | rfl)) ?_ | refine z_iald d_Mo_trayed_18 (by first | assumption | exact zS0_at (by assumption) (by omega) | exact zS0_at rfl (by omega)) (by first | assumption | exact zS0_at (by assumption) (by omega) | exact zS0_at rfl (by omega)) ?_
              refine z_if_ge (tgt := 26) d_Mo_trayed_19 (by decide) (fun h19 => ?_) (fun h19 => ?_)
              · first
                | (simp (disch := omega) only [← nI_0, nI_leI, nI_ltI, nI_eq, not_true_eq_false, not_false_eq_true] at h19; done)
                | (simp (disch := omega) only [← nI_0, nI_leI, nI_ltI, nI_eq, not_true_eq_false, not_false_eq_true] at h19; omega)
                | contradiction
                | exact absurd h19 (Int32.not_lt.mpr (by assumption))
                | exact absurd h19 (Int32.not_le.mpr (by assumption))
                | exact absurd h19 (by decide)
                | exact absurd (by decide) h19
                | ( try simp (disch := omega) only [← nI_0, nI_leI, nI_ltI, nI_eq, not_true_eq_false, not_false_eq_true] at h19
                    (try have h19b := zbit_n0.mp h19); (try have h19b := zbit_p0.mp h19)
                    refine z_iconst (a := nI 0) d_Mo_trayed_26 (by decide) ?_
                    refine z_reti d_Mo_trayed_27 ?_
                    exact ⟨rfl, rfl⟩)
              · first
                | (simp (disch := omega) only [← nI_0, nI_leI, nI_ltI, nI_eq, not_true_eq_false, not_false_eq_true] at h19; done)
                | (simp (disch := omega) only [← nI_0, nI_leI, nI_ltI, nI_eq, not_true_eq_false, not_false_eq_true] at h19; omega)
                | contradiction
                | exact absurd h19 (Int32.not_lt.mpr (by assumption))
                | exact absurd h19 (Int32.not_le.mpr (by assumption))
                | exact absurd h19 (by decide)
                | exact absurd (by decide) h19
                | ( try simp (disch := omega) only [← nI_0, nI_leI, nI_ltI, nI_eq, not_true_eq_false, not_false_eq_true] at h19
                    (try have h19b := zbit_n0.mp h19); (try have h19b := zbit_p0.mp h19)
                    refine z_iconst (a := nI 3) d_Mo_trayed_22 (by decide) ?_
                    refine z_goto (tgt := 27) d_Mo_trayed_23 (by decide) ?_
                    refine z_reti d_Mo_trayed_27 ?_
                    exact ⟨rfl, rfl⟩))
        · first
          | (simp (disch := omega) only [← nI_0, nI_leI, nI_ltI, nI_eq, not_true_eq_false, not_false_eq_true] at h6; done)
          | (simp (disch := omega) only [← nI_0, nI_leI, nI_ltI, nI_eq, not_true_eq_false, not_false_eq_true] at h6; omega)
          | contradiction
          | exact absurd h6 (Int32.not_lt.mpr (by assumption))
          | exact absurd h6 (Int32.not_le.mpr (by assumption))
          | exact absurd h6 (by decide)
          | exact absurd (by decide) h6
          | ( try simp (disch := omega) only [← nI_0, nI_leI, nI_ltI, nI_eq, not_true_eq_false, not_false_eq_true] at h6
              (try have h6b := zbit_n0.mp h6); (try have h6b := zbit_p0.mp h6)
              refine z_iconst (a := nI 1) d_Mo_trayed_9 (by decide) ?_
              refine z_goto (tgt := 27) d_Mo_trayed_10 (by decide) ?_
              refine z_reti d_Mo_trayed_27 ?_
              exact ⟨rfl, rfl⟩))
theorem t_Mo_trayed_p (M : modOk P S) (ht : t < 4) (hl : I 147 t = nI l) (hl6 : l ≤ 60) : zEi G y_Mo_trayed prog_14_method_12_code 2 (some .int) 1 [.ref 145, .int (nI t)] (I, J, P, S) (fun r w => r = nI 0 ∧ w = (I, J, P, S)) := by
  obtain ⟨M0, ⟨M4, M4s⟩, ⟨M5, M5s⟩, ⟨M6, M6s⟩, ⟨M7, M7s⟩, ⟨M20, M20s⟩, ⟨M21, M21s⟩, ⟨M22, M22s⟩, ⟨M26, M26s⟩, ⟨M27, M27s⟩, ⟨M28, M28s⟩, ⟨M30, M30s⟩, ⟨M34, M34s⟩, ⟨M36, M36s⟩, ⟨M37, M37s⟩⟩ := id M
  refine zEi_of (lv := [some (.ref 145), some (.int (nI t))]) (by decide) rfl (Nat.le_of_ble_eq_true rfl) ?_
  refine z_iload_1 d_Mo_trayed_0 ?_
  refine z_if_lt (tgt := 9) d_Mo_trayed_1 (by decide) (fun h1 => ?_) (fun h1 => ?_)
  · first
    | (simp (disch := omega) only [← nI_0, nI_leI, nI_ltI, nI_eq, not_true_eq_false, not_false_eq_true] at h1; done)
    | (simp (disch := omega) only [← nI_0, nI_leI, nI_ltI, nI_eq, not_true_eq_false, not_false_eq_true] at h1; omega)
    | contradiction
    | exact absurd h1 (Int32.not_lt.mpr (by assumption))
    | exact absurd h1 (Int32.not_le.mpr (by assumption))
    | exact absurd h1 (by decide)
    | exact absurd (by decide) h1
    | ( try simp (disch := omega) only [← nI_0, nI_leI, nI_ltI, nI_eq, not_true_eq_false, not_false_eq_true] at h1
        (try have h1b := zbit_n0.mp h1); (try have h1b := zbit_p0.mp h1)
        refine z_iconst (a := nI 1) d_Mo_trayed_9 (by decide) ?_
        refine z_goto (tgt := 27) d_Mo_trayed_10 (by decide) ?_
        refine z_reti d_Mo_trayed_27 ?_
        exact ⟨rfl, rfl⟩)
  · first
    | (simp (disch := omega) only [← nI_0, nI_leI, nI_ltI, nI_eq, not_true_eq_false, not_false_eq_true] at h1; done)
    | (simp (disch := omega) only [← nI_0, nI_leI, nI_ltI, nI_eq, not_true_eq_false, not_false_eq_true] at h1; omega)
    | contradiction
    | exact absurd h1 (Int32.not_lt.mpr (by assumption))
    | exact absurd h1 (Int32.not_le.mpr (by assumption))
    | exact absurd h1 (by decide)
    | exact absurd (by decide) h1
    | ( try simp (disch := omega) only [← nI_0, nI_leI, nI_ltI, nI_eq, not_true_eq_false, not_false_eq_true] at h1
        (try have h1b := zbit_n0.mp h1); (try have h1b := zbit_p0.mp h1)
        refine z_iload_1 d_Mo_trayed_4 ?_
        refine z_iconst (a := nI 4) d_Mo_trayed_5 (by decide) ?_
        refine z_icmp_lt (tgt := 13) d_Mo_trayed_6 (by decide) (fun h6 => ?_) (fun h6 => ?_)
        · first
          | (simp (disch := omega) only [← nI_0, nI_leI, nI_ltI, nI_eq, not_true_eq_false, not_false_eq_true] at h6; done)
          | (simp (disch := omega) only [← nI_0, nI_leI, nI_ltI, nI_eq, not_true_eq_false, not_false_eq_true] at h6; omega)
          | contradiction
          | exact absurd h6 (Int32.not_lt.mpr (by assumption))
          | exact absurd h6 (Int32.not_le.mpr (by assumption))
          | exact absurd h6 (by decide)
          | exact absurd (by decide) h6
          | ( try simp (disch := omega) only [← nI_0, nI_leI, nI_ltI, nI_eq, not_true_eq_false, not_false_eq_true] at h6
              (try have h6b := zbit_n0.mp h6); (try have h6b := zbit_p0.mp h6)
              refine z_aload_0 d_Mo_trayed_13 ?_
              refine z_getR d_Mo_trayed_14 f_Mo_17 (by first | assumption | exact zS0_at (by assumption) (by omega) | exact zS0_at rfl (by omega)) (by first | assumption | exact zS0_at (by assumption) (by omega) | exact zS0_at rfl (by omega)) ?_
              refine z_iload_1 d_Mo_trayed_17 ?_
              first | refine z_ialdNv d_Mo_trayed_18 (by first | assumption | exact zS0_at (by assumption) (by omega) | exact zS0_at rfl (by omega)) (by omega) (by first | decide | omega) (by first | assumption | ((try simp (disch := omega) only [zu_same, zu_ne, zcp_ne, zfl_ne]); first | assumption | rfl)) ?_ | refine z_iald d_Mo_trayed_18 (by first | assumption | exact zS0_at (by assumption) (by omega) | exact zS0_at rfl (by omega)) (by first | assumption | exact zS0_at (by assumption) (by omega) | exact zS0_at rfl (by omega)) ?_
              refine z_if_ge (tgt := 26) d_Mo_trayed_19 (by decide) (fun h19 => ?_) (fun h19 => ?_)
              · first
                | (simp (disch := omega) only [← nI_0, nI_leI, nI_ltI, nI_eq, not_true_eq_false, not_false_eq_true] at h19; done)
                | (simp (disch := omega) only [← nI_0, nI_leI, nI_ltI, nI_eq, not_true_eq_false, not_false_eq_true] at h19; omega)
                | contradiction
                | exact absurd h19 (Int32.not_lt.mpr (by assumption))
                | exact absurd h19 (Int32.not_le.mpr (by assumption))
                | exact absurd h19 (by decide)
                | exact absurd (by decide) h19
                | ( try simp (disch := omega) only [← nI_0, nI_leI, nI_ltI, nI_eq, not_true_eq_false, not_false_eq_true] at h19
                    (try have h19b := zbit_n0.mp h19); (try have h19b := zbit_p0.mp h19)
                    refine z_iconst (a := nI 0) d_Mo_trayed_26 (by decide) ?_
                    refine z_reti d_Mo_trayed_27 ?_
                    exact ⟨rfl, rfl⟩)
              · first
                | (simp (disch := omega) only [← nI_0, nI_leI, nI_ltI, nI_eq, not_true_eq_false, not_false_eq_true] at h19; done)
                | (simp (disch := omega) only [← nI_0, nI_leI, nI_ltI, nI_eq, not_true_eq_false, not_false_eq_true] at h19; omega)
                | contradiction
                | exact absurd h19 (Int32.not_lt.mpr (by assumption))
                | exact absurd h19 (Int32.not_le.mpr (by assumption))
                | exact absurd h19 (by decide)
                | exact absurd (by decide) h19
                | ( try simp (disch := omega) only [← nI_0, nI_leI, nI_ltI, nI_eq, not_true_eq_false, not_false_eq_true] at h19
                    (try have h19b := zbit_n0.mp h19); (try have h19b := zbit_p0.mp h19)
                    refine z_iconst (a := nI 3) d_Mo_trayed_22 (by decide) ?_
                    refine z_goto (tgt := 27) d_Mo_trayed_23 (by decide) ?_
                    refine z_reti d_Mo_trayed_27 ?_
                    exact ⟨rfl, rfl⟩))
        · first
          | (simp (disch := omega) only [← nI_0, nI_leI, nI_ltI, nI_eq, not_true_eq_false, not_false_eq_true] at h6; done)
          | (simp (disch := omega) only [← nI_0, nI_leI, nI_ltI, nI_eq, not_true_eq_false, not_false_eq_true] at h6; omega)
          | contradiction
          | exact absurd h6 (Int32.not_lt.mpr (by assumption))
          | exact absurd h6 (Int32.not_le.mpr (by assumption))
          | exact absurd h6 (by decide)
          | exact absurd (by decide) h6
          | ( try simp (disch := omega) only [← nI_0, nI_leI, nI_ltI, nI_eq, not_true_eq_false, not_false_eq_true] at h6
              (try have h6b := zbit_n0.mp h6); (try have h6b := zbit_p0.mp h6)
              refine z_iconst (a := nI 1) d_Mo_trayed_9 (by decide) ?_
              refine z_goto (tgt := 27) d_Mo_trayed_10 (by decide) ?_
              refine z_reti d_Mo_trayed_27 ?_
              exact ⟨rfl, rfl⟩))
theorem t_Mo_placed_o (M : modOk P S) (h : ¬ zin a 4) : zEi G y_Mo_placed prog_14_method_13_code 4 (some .int) 2 [.ref 145, .int a, .int b] (I, J, P, S) (fun r w => r = nI 1 ∧ w = (I, J, P, S)) := by
  obtain ⟨M0, ⟨M4, M4s⟩, ⟨M5, M5s⟩, ⟨M6, M6s⟩, ⟨M7, M7s⟩, ⟨M20, M20s⟩, ⟨M21, M21s⟩, ⟨M22, M22s⟩, ⟨M26, M26s⟩, ⟨M27, M27s⟩, ⟨M28, M28s⟩, ⟨M30, M30s⟩, ⟨M34, M34s⟩, ⟨M36, M36s⟩, ⟨M37, M37s⟩⟩ := id M
  refine zEi_of (lv := [some (.ref 145), some (.int a), some (.int b), none]) (by decide) rfl (Nat.le_of_ble_eq_true rfl) ?_
  refine z_aload_0 d_Mo_placed_0 ?_
  refine z_iload_1 d_Mo_placed_1 ?_
  refine z_Vi1 d_Mo_placed_2 k_Mo_89 (by first | assumption | exact zS0_at (by assumption) (by omega) | exact zS0_at rfl (by omega)) (t_Mo_trayed_o M h) ⟨Nat.le_of_ble_eq_true rfl, Nat.le_of_ble_eq_true rfl, Nat.le_of_ble_eq_true rfl, Nat.le_of_ble_eq_true rfl⟩ (Nat.le_of_ble_eq_true rfl) ?_
  intro r w hq
  obtain ⟨rfl, rfl⟩ := hq
  first | refine z_istore_3 d_Mo_placed_5 rfl ?_ | (refine z_forget_2 ?_; refine z_istore_3 d_Mo_placed_5 rfl ?_)
  refine z_iload_3 d_Mo_placed_6 ?_
  refine z_if_le (tgt := 14) d_Mo_placed_7 (by decide) (fun h7 => ?_) (fun h7 => ?_)
  · first
    | (simp (disch := omega) only [← nI_0, nI_leI, nI_ltI, nI_eq, not_true_eq_false, not_false_eq_true] at h7; done)
    | (simp (disch := omega) only [← nI_0, nI_leI, nI_ltI, nI_eq, not_true_eq_false, not_false_eq_true] at h7; omega)
    | contradiction
    | exact absurd h7 (Int32.not_lt.mpr (by assumption))
    | exact absurd h7 (Int32.not_le.mpr (by assumption))
    | exact absurd h7 (by decide)
    | exact absurd (by decide) h7
    | ( try simp (disch := omega) only [← nI_0, nI_leI, nI_ltI, nI_eq, not_true_eq_false, not_false_eq_true] at h7
        (try have h7b := zbit_n0.mp h7); (try have h7b := zbit_p0.mp h7)
        skip)
  · first
    | (simp (disch := omega) only [← nI_0, nI_leI, nI_ltI, nI_eq, not_true_eq_false, not_false_eq_true] at h7; done)
    | (simp (disch := omega) only [← nI_0, nI_leI, nI_ltI, nI_eq, not_true_eq_false, not_false_eq_true] at h7; omega)
    | contradiction
    | exact absurd h7 (Int32.not_lt.mpr (by assumption))
    | exact absurd h7 (Int32.not_le.mpr (by assumption))
    | exact absurd h7 (by decide)
    | exact absurd (by decide) h7
    | ( try simp (disch := omega) only [← nI_0, nI_leI, nI_ltI, nI_eq, not_true_eq_false, not_false_eq_true] at h7
        (try have h7b := zbit_n0.mp h7); (try have h7b := zbit_p0.mp h7)
        refine z_iload_3 d_Mo_placed_10 ?_
        refine z_goto (tgt := 33) d_Mo_placed_11 (by decide) ?_
        refine z_reti d_Mo_placed_33 ?_
        exact ⟨rfl, rfl⟩)
theorem t_Mo_placed_m (M : modOk P S) (ht : t < 4) (h0 : I 147 t = -1) : zEi G y_Mo_placed prog_14_method_13_code 4 (some .int) 2 [.ref 145, .int (nI t), .int b] (I, J, P, S) (fun r w => r = nI 3 ∧ w = (I, J, P, S)) := by
  obtain ⟨M0, ⟨M4, M4s⟩, ⟨M5, M5s⟩, ⟨M6, M6s⟩, ⟨M7, M7s⟩, ⟨M20, M20s⟩, ⟨M21, M21s⟩, ⟨M22, M22s⟩, ⟨M26, M26s⟩, ⟨M27, M27s⟩, ⟨M28, M28s⟩, ⟨M30, M30s⟩, ⟨M34, M34s⟩, ⟨M36, M36s⟩, ⟨M37, M37s⟩⟩ := id M
  refine zEi_of (lv := [some (.ref 145), some (.int (nI t)), some (.int b), none]) (by decide) rfl (Nat.le_of_ble_eq_true rfl) ?_
  refine z_aload_0 d_Mo_placed_0 ?_
  refine z_iload_1 d_Mo_placed_1 ?_
  refine z_Vi1 d_Mo_placed_2 k_Mo_89 (by first | assumption | exact zS0_at (by assumption) (by omega) | exact zS0_at rfl (by omega)) (t_Mo_trayed_m M ht h0) ⟨Nat.le_of_ble_eq_true rfl, Nat.le_of_ble_eq_true rfl, Nat.le_of_ble_eq_true rfl, Nat.le_of_ble_eq_true rfl⟩ (Nat.le_of_ble_eq_true rfl) ?_
  intro r w hq
  obtain ⟨rfl, rfl⟩ := hq
  first | refine z_istore_3 d_Mo_placed_5 rfl ?_ | (refine z_forget_2 ?_; refine z_istore_3 d_Mo_placed_5 rfl ?_)
  refine z_iload_3 d_Mo_placed_6 ?_
  refine z_if_le (tgt := 14) d_Mo_placed_7 (by decide) (fun h7 => ?_) (fun h7 => ?_)
  · first
    | (simp (disch := omega) only [← nI_0, nI_leI, nI_ltI, nI_eq, not_true_eq_false, not_false_eq_true] at h7; done)
    | (simp (disch := omega) only [← nI_0, nI_leI, nI_ltI, nI_eq, not_true_eq_false, not_false_eq_true] at h7; omega)
    | contradiction
    | exact absurd h7 (Int32.not_lt.mpr (by assumption))
    | exact absurd h7 (Int32.not_le.mpr (by assumption))
    | exact absurd h7 (by decide)
    | exact absurd (by decide) h7
    | ( try simp (disch := omega) only [← nI_0, nI_leI, nI_ltI, nI_eq, not_true_eq_false, not_false_eq_true] at h7
        (try have h7b := zbit_n0.mp h7); (try have h7b := zbit_p0.mp h7)
        skip)
  · first
    | (simp (disch := omega) only [← nI_0, nI_leI, nI_ltI, nI_eq, not_true_eq_false, not_false_eq_true] at h7; done)
    | (simp (disch := omega) only [← nI_0, nI_leI, nI_ltI, nI_eq, not_true_eq_false, not_false_eq_true] at h7; omega)
    | contradiction
    | exact absurd h7 (Int32.not_lt.mpr (by assumption))
    | exact absurd h7 (Int32.not_le.mpr (by assumption))
    | exact absurd h7 (by decide)
    | exact absurd (by decide) h7
    | ( try simp (disch := omega) only [← nI_0, nI_leI, nI_ltI, nI_eq, not_true_eq_false, not_false_eq_true] at h7
        (try have h7b := zbit_n0.mp h7); (try have h7b := zbit_p0.mp h7)
        refine z_iload_3 d_Mo_placed_10 ?_
        refine z_goto (tgt := 33) d_Mo_placed_11 (by decide) ?_
        refine z_reti d_Mo_placed_33 ?_
        exact ⟨rfl, rfl⟩)
theorem t_Mo_placed_x (M : modOk P S) (ht : t < 4) (hl : I 147 t = nI l) (hl6 : l ≤ 60) (hb : ¬ zin b l) : zEi G y_Mo_placed prog_14_method_13_code 4 (some .int) 2 [.ref 145, .int (nI t), .int b] (I, J, P, S) (fun r w => r = nI 4 ∧ w = (I, J, P, S)) := by
  obtain ⟨M0, ⟨M4, M4s⟩, ⟨M5, M5s⟩, ⟨M6, M6s⟩, ⟨M7, M7s⟩, ⟨M20, M20s⟩, ⟨M21, M21s⟩, ⟨M22, M22s⟩, ⟨M26, M26s⟩, ⟨M27, M27s⟩, ⟨M28, M28s⟩, ⟨M30, M30s⟩, ⟨M34, M34s⟩, ⟨M36, M36s⟩, ⟨M37, M37s⟩⟩ := id M
  rcases pk_ix b (n := l) (by omega) with q | q | q
  · refine zEi_of (lv := [some (.ref 145), some (.int (nI t)), some (.int b), none]) (by decide) rfl (Nat.le_of_ble_eq_true rfl) ?_
    refine z_aload_0 d_Mo_placed_0 ?_
    refine z_iload_1 d_Mo_placed_1 ?_
    refine z_Vi1 d_Mo_placed_2 k_Mo_89 (by first | assumption | exact zS0_at (by assumption) (by omega) | exact zS0_at rfl (by omega)) (t_Mo_trayed_p M ht hl hl6) ⟨Nat.le_of_ble_eq_true rfl, Nat.le_of_ble_eq_true rfl, Nat.le_of_ble_eq_true rfl, Nat.le_of_ble_eq_true rfl⟩ (Nat.le_of_ble_eq_true rfl) ?_
    intro r w hq
    obtain ⟨rfl, rfl⟩ := hq
    first | refine z_istore_3 d_Mo_placed_5 rfl ?_ | (refine z_forget_2 ?_; refine z_istore_3 d_Mo_placed_5 rfl ?_)
    refine z_iload_3 d_Mo_placed_6 ?_
    refine z_if_le (tgt := 14) d_Mo_placed_7 (by decide) (fun h7 => ?_) (fun h7 => ?_)
    · first
      | (simp (disch := omega) only [← nI_0, nI_leI, nI_ltI, nI_eq, not_true_eq_false, not_false_eq_true] at h7; done)
      | (simp (disch := omega) only [← nI_0, nI_leI, nI_ltI, nI_eq, not_true_eq_false, not_false_eq_true] at h7; omega)
      | contradiction
      | exact absurd h7 (Int32.not_lt.mpr (by assumption))
      | exact absurd h7 (Int32.not_le.mpr (by assumption))
      | exact absurd h7 (by decide)
      | exact absurd (by decide) h7
      | ( try simp (disch := omega) only [← nI_0, nI_leI, nI_ltI, nI_eq, not_true_eq_false, not_false_eq_true] at h7
          (try have h7b := zbit_n0.mp h7); (try have h7b := zbit_p0.mp h7)
          refine z_iload_2 d_Mo_placed_14 ?_
          refine z_if_lt (tgt := 28) d_Mo_placed_15 (by decide) (fun h15 => ?_) (fun h15 => ?_)
          · first
            | (simp (disch := omega) only [← nI_0, nI_leI, nI_ltI, nI_eq, not_true_eq_false, not_false_eq_true] at h15; done)
            | (simp (disch := omega) only [← nI_0, nI_leI, nI_ltI, nI_eq, not_true_eq_false, not_false_eq_true] at h15; omega)
            | contradiction
            | exact absurd h15 (Int32.not_lt.mpr (by assumption))
            | exact absurd h15 (Int32.not_le.mpr (by assumption))
            | exact absurd h15 (by decide)
            | exact absurd (by decide) h15
            | ( try simp (disch := omega) only [← nI_0, nI_leI, nI_ltI, nI_eq, not_true_eq_false, not_false_eq_true] at h15
                (try have h15b := zbit_n0.mp h15); (try have h15b := zbit_p0.mp h15)
                refine z_iconst (a := nI 4) d_Mo_placed_28 (by decide) ?_
                refine z_goto (tgt := 33) d_Mo_placed_29 (by decide) ?_
                refine z_reti d_Mo_placed_33 ?_
                exact ⟨rfl, rfl⟩)
          · first
            | (simp (disch := omega) only [← nI_0, nI_leI, nI_ltI, nI_eq, not_true_eq_false, not_false_eq_true] at h15; done)
            | (simp (disch := omega) only [← nI_0, nI_leI, nI_ltI, nI_eq, not_true_eq_false, not_false_eq_true] at h15; omega)
            | contradiction
            | exact absurd h15 (Int32.not_lt.mpr (by assumption))
            | exact absurd h15 (Int32.not_le.mpr (by assumption))
            | exact absurd h15 (by decide)
            | exact absurd (by decide) h15
            | ( try simp (disch := omega) only [← nI_0, nI_leI, nI_ltI, nI_eq, not_true_eq_false, not_false_eq_true] at h15
                (try have h15b := zbit_n0.mp h15); (try have h15b := zbit_p0.mp h15)
                refine z_iload_2 d_Mo_placed_18 ?_
                refine z_aload_0 d_Mo_placed_19 ?_
                refine z_getR d_Mo_placed_20 f_Mo_17 (by first | assumption | exact zS0_at (by assumption) (by omega) | exact zS0_at rfl (by omega)) (by first | assumption | exact zS0_at (by assumption) (by omega) | exact zS0_at rfl (by omega)) ?_
                refine z_iload_1 d_Mo_placed_23 ?_
                first | refine z_ialdNv d_Mo_placed_24 (by first | assumption | exact zS0_at (by assumption) (by omega) | exact zS0_at rfl (by omega)) (by omega) (by first | decide | omega) (by first | assumption | ((try simp (disch := omega) only [zu_same, zu_ne, zcp_ne, zfl_ne]); first | assumption | rfl)) ?_ | refine z_iald d_Mo_placed_24 (by first | assumption | exact zS0_at (by assumption) (by omega) | exact zS0_at rfl (by omega)) (by first | assumption | exact zS0_at (by assumption) (by omega) | exact zS0_at rfl (by omega)) ?_
                refine z_icmp_lt (tgt := 32) d_Mo_placed_25 (by decide) (fun h25 => ?_) (fun h25 => ?_)
                · first
                  | (simp (disch := omega) only [← nI_0, nI_leI, nI_ltI, nI_eq, not_true_eq_false, not_false_eq_true] at h25; done)
                  | (simp (disch := omega) only [← nI_0, nI_leI, nI_ltI, nI_eq, not_true_eq_false, not_false_eq_true] at h25; omega)
                  | contradiction
                  | exact absurd h25 (Int32.not_lt.mpr (by assumption))
                  | exact absurd h25 (Int32.not_le.mpr (by assumption))
                  | exact absurd h25 (by decide)
                  | exact absurd (by decide) h25
                  | ( try simp (disch := omega) only [← nI_0, nI_leI, nI_ltI, nI_eq, not_true_eq_false, not_false_eq_true] at h25
                      (try have h25b := zbit_n0.mp h25); (try have h25b := zbit_p0.mp h25)
                      refine z_iconst (a := nI 0) d_Mo_placed_32 (by decide) ?_
                      refine z_reti d_Mo_placed_33 ?_
                      exact ⟨rfl, rfl⟩)
                · first
                  | (simp (disch := omega) only [← nI_0, nI_leI, nI_ltI, nI_eq, not_true_eq_false, not_false_eq_true] at h25; done)
                  | (simp (disch := omega) only [← nI_0, nI_leI, nI_ltI, nI_eq, not_true_eq_false, not_false_eq_true] at h25; omega)
                  | contradiction
                  | exact absurd h25 (Int32.not_lt.mpr (by assumption))
                  | exact absurd h25 (Int32.not_le.mpr (by assumption))
                  | exact absurd h25 (by decide)
                  | exact absurd (by decide) h25
                  | ( try simp (disch := omega) only [← nI_0, nI_leI, nI_ltI, nI_eq, not_true_eq_false, not_false_eq_true] at h25
                      (try have h25b := zbit_n0.mp h25); (try have h25b := zbit_p0.mp h25)
                      refine z_iconst (a := nI 4) d_Mo_placed_28 (by decide) ?_
                      refine z_goto (tgt := 33) d_Mo_placed_29 (by decide) ?_
                      refine z_reti d_Mo_placed_33 ?_
                      exact ⟨rfl, rfl⟩)))
    · first
      | (simp (disch := omega) only [← nI_0, nI_leI, nI_ltI, nI_eq, not_true_eq_false, not_false_eq_true] at h7; done)
      | (simp (disch := omega) only [← nI_0, nI_leI, nI_ltI, nI_eq, not_true_eq_false, not_false_eq_true] at h7; omega)
      | contradiction
      | exact absurd h7 (Int32.not_lt.mpr (by assumption))
      | exact absurd h7 (Int32.not_le.mpr (by assumption))
      | exact absurd h7 (by decide)
      | exact absurd (by decide) h7
      | ( try simp (disch := omega) only [← nI_0, nI_leI, nI_ltI, nI_eq, not_true_eq_false, not_false_eq_true] at h7
          (try have h7b := zbit_n0.mp h7); (try have h7b := zbit_p0.mp h7)
          refine z_iload_3 d_Mo_placed_10 ?_
          refine z_goto (tgt := 33) d_Mo_placed_11 (by decide) ?_
          refine z_reti d_Mo_placed_33 ?_
          exact ⟨rfl, rfl⟩)
  · refine zEi_of (lv := [some (.ref 145), some (.int (nI t)), some (.int b), none]) (by decide) rfl (Nat.le_of_ble_eq_true rfl) ?_
    refine z_aload_0 d_Mo_placed_0 ?_
    refine z_iload_1 d_Mo_placed_1 ?_
    refine z_Vi1 d_Mo_placed_2 k_Mo_89 (by first | assumption | exact zS0_at (by assumption) (by omega) | exact zS0_at rfl (by omega)) (t_Mo_trayed_p M ht hl hl6) ⟨Nat.le_of_ble_eq_true rfl, Nat.le_of_ble_eq_true rfl, Nat.le_of_ble_eq_true rfl, Nat.le_of_ble_eq_true rfl⟩ (Nat.le_of_ble_eq_true rfl) ?_
    intro r w hq
    obtain ⟨rfl, rfl⟩ := hq
    first | refine z_istore_3 d_Mo_placed_5 rfl ?_ | (refine z_forget_2 ?_; refine z_istore_3 d_Mo_placed_5 rfl ?_)
    refine z_iload_3 d_Mo_placed_6 ?_
    refine z_if_le (tgt := 14) d_Mo_placed_7 (by decide) (fun h7 => ?_) (fun h7 => ?_)
    · first
      | (simp (disch := omega) only [← nI_0, nI_leI, nI_ltI, nI_eq, not_true_eq_false, not_false_eq_true] at h7; done)
      | (simp (disch := omega) only [← nI_0, nI_leI, nI_ltI, nI_eq, not_true_eq_false, not_false_eq_true] at h7; omega)
      | contradiction
      | exact absurd h7 (Int32.not_lt.mpr (by assumption))
      | exact absurd h7 (Int32.not_le.mpr (by assumption))
      | exact absurd h7 (by decide)
      | exact absurd (by decide) h7
      | ( try simp (disch := omega) only [← nI_0, nI_leI, nI_ltI, nI_eq, not_true_eq_false, not_false_eq_true] at h7
          (try have h7b := zbit_n0.mp h7); (try have h7b := zbit_p0.mp h7)
          refine z_iload_2 d_Mo_placed_14 ?_
          refine z_if_lt (tgt := 28) d_Mo_placed_15 (by decide) (fun h15 => ?_) (fun h15 => ?_)
          · first
            | (simp (disch := omega) only [← nI_0, nI_leI, nI_ltI, nI_eq, not_true_eq_false, not_false_eq_true] at h15; done)
            | (simp (disch := omega) only [← nI_0, nI_leI, nI_ltI, nI_eq, not_true_eq_false, not_false_eq_true] at h15; omega)
            | contradiction
            | exact absurd h15 (Int32.not_lt.mpr (by assumption))
            | exact absurd h15 (Int32.not_le.mpr (by assumption))
            | exact absurd h15 (by decide)
            | exact absurd (by decide) h15
            | ( try simp (disch := omega) only [← nI_0, nI_leI, nI_ltI, nI_eq, not_true_eq_false, not_false_eq_true] at h15
                (try have h15b := zbit_n0.mp h15); (try have h15b := zbit_p0.mp h15)
                refine z_iconst (a := nI 4) d_Mo_placed_28 (by decide) ?_
                refine z_goto (tgt := 33) d_Mo_placed_29 (by decide) ?_
                refine z_reti d_Mo_placed_33 ?_
                exact ⟨rfl, rfl⟩)
          · first
            | (simp (disch := omega) only [← nI_0, nI_leI, nI_ltI, nI_eq, not_true_eq_false, not_false_eq_true] at h15; done)
            | (simp (disch := omega) only [← nI_0, nI_leI, nI_ltI, nI_eq, not_true_eq_false, not_false_eq_true] at h15; omega)
            | contradiction
            | exact absurd h15 (Int32.not_lt.mpr (by assumption))
            | exact absurd h15 (Int32.not_le.mpr (by assumption))
            | exact absurd h15 (by decide)
            | exact absurd (by decide) h15
            | ( try simp (disch := omega) only [← nI_0, nI_leI, nI_ltI, nI_eq, not_true_eq_false, not_false_eq_true] at h15
                (try have h15b := zbit_n0.mp h15); (try have h15b := zbit_p0.mp h15)
                refine z_iload_2 d_Mo_placed_18 ?_
                refine z_aload_0 d_Mo_placed_19 ?_
                refine z_getR d_Mo_placed_20 f_Mo_17 (by first | assumption | exact zS0_at (by assumption) (by omega) | exact zS0_at rfl (by omega)) (by first | assumption | exact zS0_at (by assumption) (by omega) | exact zS0_at rfl (by omega)) ?_
                refine z_iload_1 d_Mo_placed_23 ?_
                first | refine z_ialdNv d_Mo_placed_24 (by first | assumption | exact zS0_at (by assumption) (by omega) | exact zS0_at rfl (by omega)) (by omega) (by first | decide | omega) (by first | assumption | ((try simp (disch := omega) only [zu_same, zu_ne, zcp_ne, zfl_ne]); first | assumption | rfl)) ?_ | refine z_iald d_Mo_placed_24 (by first | assumption | exact zS0_at (by assumption) (by omega) | exact zS0_at rfl (by omega)) (by first | assumption | exact zS0_at (by assumption) (by omega) | exact zS0_at rfl (by omega)) ?_
                refine z_icmp_lt (tgt := 32) d_Mo_placed_25 (by decide) (fun h25 => ?_) (fun h25 => ?_)
                · first
                  | (simp (disch := omega) only [← nI_0, nI_leI, nI_ltI, nI_eq, not_true_eq_false, not_false_eq_true] at h25; done)
                  | (simp (disch := omega) only [← nI_0, nI_leI, nI_ltI, nI_eq, not_true_eq_false, not_false_eq_true] at h25; omega)
                  | contradiction
                  | exact absurd h25 (Int32.not_lt.mpr (by assumption))
                  | exact absurd h25 (Int32.not_le.mpr (by assumption))
                  | exact absurd h25 (by decide)
                  | exact absurd (by decide) h25
                  | ( try simp (disch := omega) only [← nI_0, nI_leI, nI_ltI, nI_eq, not_true_eq_false, not_false_eq_true] at h25
                      (try have h25b := zbit_n0.mp h25); (try have h25b := zbit_p0.mp h25)
                      refine z_iconst (a := nI 0) d_Mo_placed_32 (by decide) ?_
                      refine z_reti d_Mo_placed_33 ?_
                      exact ⟨rfl, rfl⟩)
                · first
                  | (simp (disch := omega) only [← nI_0, nI_leI, nI_ltI, nI_eq, not_true_eq_false, not_false_eq_true] at h25; done)
                  | (simp (disch := omega) only [← nI_0, nI_leI, nI_ltI, nI_eq, not_true_eq_false, not_false_eq_true] at h25; omega)
                  | contradiction
                  | exact absurd h25 (Int32.not_lt.mpr (by assumption))
                  | exact absurd h25 (Int32.not_le.mpr (by assumption))
                  | exact absurd h25 (by decide)
                  | exact absurd (by decide) h25
                  | ( try simp (disch := omega) only [← nI_0, nI_leI, nI_ltI, nI_eq, not_true_eq_false, not_false_eq_true] at h25
                      (try have h25b := zbit_n0.mp h25); (try have h25b := zbit_p0.mp h25)
                      refine z_iconst (a := nI 4) d_Mo_placed_28 (by decide) ?_
                      refine z_goto (tgt := 33) d_Mo_placed_29 (by decide) ?_
                      refine z_reti d_Mo_placed_33 ?_
                      exact ⟨rfl, rfl⟩)))
    · first
      | (simp (disch := omega) only [← nI_0, nI_leI, nI_ltI, nI_eq, not_true_eq_false, not_false_eq_true] at h7; done)
      | (simp (disch := omega) only [← nI_0, nI_leI, nI_ltI, nI_eq, not_true_eq_false, not_false_eq_true] at h7; omega)
      | contradiction
      | exact absurd h7 (Int32.not_lt.mpr (by assumption))
      | exact absurd h7 (Int32.not_le.mpr (by assumption))
      | exact absurd h7 (by decide)
      | exact absurd (by decide) h7
      | ( try simp (disch := omega) only [← nI_0, nI_leI, nI_ltI, nI_eq, not_true_eq_false, not_false_eq_true] at h7
          (try have h7b := zbit_n0.mp h7); (try have h7b := zbit_p0.mp h7)
          refine z_iload_3 d_Mo_placed_10 ?_
          refine z_goto (tgt := 33) d_Mo_placed_11 (by decide) ?_
          refine z_reti d_Mo_placed_33 ?_
          exact ⟨rfl, rfl⟩)
  · exact absurd q hb
theorem t_Mo_placed_p {p : Nat} (M : modOk P S) (ht : t < 4) (hl : I 147 t = nI l) (hl6 : l ≤ 60) (hp : p < l) : zEi G y_Mo_placed prog_14_method_13_code 4 (some .int) 2 [.ref 145, .int (nI t), .int (nI p)] (I, J, P, S) (fun r w => r = nI 0 ∧ w = (I, J, P, S)) := by
  obtain ⟨M0, ⟨M4, M4s⟩, ⟨M5, M5s⟩, ⟨M6, M6s⟩, ⟨M7, M7s⟩, ⟨M20, M20s⟩, ⟨M21, M21s⟩, ⟨M22, M22s⟩, ⟨M26, M26s⟩, ⟨M27, M27s⟩, ⟨M28, M28s⟩, ⟨M30, M30s⟩, ⟨M34, M34s⟩, ⟨M36, M36s⟩, ⟨M37, M37s⟩⟩ := id M
  refine zEi_of (lv := [some (.ref 145), some (.int (nI t)), some (.int (nI p)), none]) (by decide) rfl (Nat.le_of_ble_eq_true rfl) ?_
  refine z_aload_0 d_Mo_placed_0 ?_
  refine z_iload_1 d_Mo_placed_1 ?_
  refine z_Vi1 d_Mo_placed_2 k_Mo_89 (by first | assumption | exact zS0_at (by assumption) (by omega) | exact zS0_at rfl (by omega)) (t_Mo_trayed_p M ht hl hl6) ⟨Nat.le_of_ble_eq_true rfl, Nat.le_of_ble_eq_true rfl, Nat.le_of_ble_eq_true rfl, Nat.le_of_ble_eq_true rfl⟩ (Nat.le_of_ble_eq_true rfl) ?_
  intro r w hq
  obtain ⟨rfl, rfl⟩ := hq
  first | refine z_istore_3 d_Mo_placed_5 rfl ?_ | (refine z_forget_2 ?_; refine z_istore_3 d_Mo_placed_5 rfl ?_)
  refine z_iload_3 d_Mo_placed_6 ?_
  refine z_if_le (tgt := 14) d_Mo_placed_7 (by decide) (fun h7 => ?_) (fun h7 => ?_)
  · first
    | (simp (disch := omega) only [← nI_0, nI_leI, nI_ltI, nI_eq, not_true_eq_false, not_false_eq_true] at h7; done)
    | (simp (disch := omega) only [← nI_0, nI_leI, nI_ltI, nI_eq, not_true_eq_false, not_false_eq_true] at h7; omega)
    | contradiction
    | exact absurd h7 (Int32.not_lt.mpr (by assumption))
    | exact absurd h7 (Int32.not_le.mpr (by assumption))
    | exact absurd h7 (by decide)
    | exact absurd (by decide) h7
    | ( try simp (disch := omega) only [← nI_0, nI_leI, nI_ltI, nI_eq, not_true_eq_false, not_false_eq_true] at h7
        (try have h7b := zbit_n0.mp h7); (try have h7b := zbit_p0.mp h7)
        refine z_iload_2 d_Mo_placed_14 ?_
        refine z_if_lt (tgt := 28) d_Mo_placed_15 (by decide) (fun h15 => ?_) (fun h15 => ?_)
        · first
          | (simp (disch := omega) only [← nI_0, nI_leI, nI_ltI, nI_eq, not_true_eq_false, not_false_eq_true] at h15; done)
          | (simp (disch := omega) only [← nI_0, nI_leI, nI_ltI, nI_eq, not_true_eq_false, not_false_eq_true] at h15; omega)
          | contradiction
          | exact absurd h15 (Int32.not_lt.mpr (by assumption))
          | exact absurd h15 (Int32.not_le.mpr (by assumption))
          | exact absurd h15 (by decide)
          | exact absurd (by decide) h15
          | ( try simp (disch := omega) only [← nI_0, nI_leI, nI_ltI, nI_eq, not_true_eq_false, not_false_eq_true] at h15
              (try have h15b := zbit_n0.mp h15); (try have h15b := zbit_p0.mp h15)
              refine z_iconst (a := nI 4) d_Mo_placed_28 (by decide) ?_
              refine z_goto (tgt := 33) d_Mo_placed_29 (by decide) ?_
              refine z_reti d_Mo_placed_33 ?_
              exact ⟨rfl, rfl⟩)
        · first
          | (simp (disch := omega) only [← nI_0, nI_leI, nI_ltI, nI_eq, not_true_eq_false, not_false_eq_true] at h15; done)
          | (simp (disch := omega) only [← nI_0, nI_leI, nI_ltI, nI_eq, not_true_eq_false, not_false_eq_true] at h15; omega)
          | contradiction
          | exact absurd h15 (Int32.not_lt.mpr (by assumption))
          | exact absurd h15 (Int32.not_le.mpr (by assumption))
          | exact absurd h15 (by decide)
          | exact absurd (by decide) h15
          | ( try simp (disch := omega) only [← nI_0, nI_leI, nI_ltI, nI_eq, not_true_eq_false, not_false_eq_true] at h15
              (try have h15b := zbit_n0.mp h15); (try have h15b := zbit_p0.mp h15)
              refine z_iload_2 d_Mo_placed_18 ?_
              refine z_aload_0 d_Mo_placed_19 ?_
              refine z_getR d_Mo_placed_20 f_Mo_17 (by first | assumption | exact zS0_at (by assumption) (by omega) | exact zS0_at rfl (by omega)) (by first | assumption | exact zS0_at (by assumption) (by omega) | exact zS0_at rfl (by omega)) ?_
              refine z_iload_1 d_Mo_placed_23 ?_
              first | refine z_ialdNv d_Mo_placed_24 (by first | assumption | exact zS0_at (by assumption) (by omega) | exact zS0_at rfl (by omega)) (by omega) (by first | decide | omega) (by first | assumption | ((try simp (disch := omega) only [zu_same, zu_ne, zcp_ne, zfl_ne]); first | assumption | rfl)) ?_ | refine z_iald d_Mo_placed_24 (by first | assumption | exact zS0_at (by assumption) (by omega) | exact zS0_at rfl (by omega)) (by first | assumption | exact zS0_at (by assumption) (by omega) | exact zS0_at rfl (by omega)) ?_
              refine z_icmp_lt (tgt := 32) d_Mo_placed_25 (by decide) (fun h25 => ?_) (fun h25 => ?_)
              · first
                | (simp (disch := omega) only [← nI_0, nI_leI, nI_ltI, nI_eq, not_true_eq_false, not_false_eq_true] at h25; done)
                | (simp (disch := omega) only [← nI_0, nI_leI, nI_ltI, nI_eq, not_true_eq_false, not_false_eq_true] at h25; omega)
                | contradiction
                | exact absurd h25 (Int32.not_lt.mpr (by assumption))
                | exact absurd h25 (Int32.not_le.mpr (by assumption))
                | exact absurd h25 (by decide)
                | exact absurd (by decide) h25
                | ( try simp (disch := omega) only [← nI_0, nI_leI, nI_ltI, nI_eq, not_true_eq_false, not_false_eq_true] at h25
                    (try have h25b := zbit_n0.mp h25); (try have h25b := zbit_p0.mp h25)
                    refine z_iconst (a := nI 0) d_Mo_placed_32 (by decide) ?_
                    refine z_reti d_Mo_placed_33 ?_
                    exact ⟨rfl, rfl⟩)
              · first
                | (simp (disch := omega) only [← nI_0, nI_leI, nI_ltI, nI_eq, not_true_eq_false, not_false_eq_true] at h25; done)
                | (simp (disch := omega) only [← nI_0, nI_leI, nI_ltI, nI_eq, not_true_eq_false, not_false_eq_true] at h25; omega)
                | contradiction
                | exact absurd h25 (Int32.not_lt.mpr (by assumption))
                | exact absurd h25 (Int32.not_le.mpr (by assumption))
                | exact absurd h25 (by decide)
                | exact absurd (by decide) h25
                | ( try simp (disch := omega) only [← nI_0, nI_leI, nI_ltI, nI_eq, not_true_eq_false, not_false_eq_true] at h25
                    (try have h25b := zbit_n0.mp h25); (try have h25b := zbit_p0.mp h25)
                    refine z_iconst (a := nI 4) d_Mo_placed_28 (by decide) ?_
                    refine z_goto (tgt := 33) d_Mo_placed_29 (by decide) ?_
                    refine z_reti d_Mo_placed_33 ?_
                    exact ⟨rfl, rfl⟩)))
  · first
    | (simp (disch := omega) only [← nI_0, nI_leI, nI_ltI, nI_eq, not_true_eq_false, not_false_eq_true] at h7; done)
    | (simp (disch := omega) only [← nI_0, nI_leI, nI_ltI, nI_eq, not_true_eq_false, not_false_eq_true] at h7; omega)
    | contradiction
    | exact absurd h7 (Int32.not_lt.mpr (by assumption))
    | exact absurd h7 (Int32.not_le.mpr (by assumption))
    | exact absurd h7 (by decide)
    | exact absurd (by decide) h7
    | ( try simp (disch := omega) only [← nI_0, nI_leI, nI_ltI, nI_eq, not_true_eq_false, not_false_eq_true] at h7
        (try have h7b := zbit_n0.mp h7); (try have h7b := zbit_p0.mp h7)
        refine z_iload_3 d_Mo_placed_10 ?_
        refine z_goto (tgt := 33) d_Mo_placed_11 (by decide) ?_
        refine z_reti d_Mo_placed_33 ?_
        exact ⟨rfl, rfl⟩)
end TY0
