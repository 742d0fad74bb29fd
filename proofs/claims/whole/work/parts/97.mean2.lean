/-! mean: the reference; share -/
section ME1
variable {G : zG} {I I' I1 I2 : Nat → Nat → Int32} {J J' J2 : Nat → Nat → Int64} {P : Nat → Nat → Option Nat} {S : List (Nat × Nat)} {f d nt np nl nn n fed mk g sz s m ns mm : Nat} {a b : Int32} {w : zW}
theorem one20 : (lN 1 ≤ b.toInt64 ∧ b.toInt64 ≤ 20) ↔ ∃ m, 1 ≤ m ∧ m ≤ 20 ∧ b = nI m := by
  rw [Int64.le_iff_toInt_le, Int64.le_iff_toInt_le, Int32.toInt_toInt64]
  have e1 : (lN 1).toInt = 1 := by decide
  have e2 : (20 : Int64).toInt = 20 := by decide
  rw [e1, e2]
  constructor
  · rintro ⟨h1, h2⟩
    obtain ⟨j, hj, rfl⟩ := (zin_int (a := b) (n := 21) (by decide)).mpr ⟨by omega, by omega⟩
    rw [nI_int (by omega)] at h1
    exact ⟨j, by omega, by omega, rfl⟩
  · rintro ⟨m, h1, h2, rfl⟩
    rw [nI_int (by omega)]
    omega
theorem t_Mo_mean_b (M : modOk P S) (N : modIn I nt np nl nn) (h : ¬ ∃ m s, 1 ≤ m ∧ m ≤ 20 ∧ s + m ≤ 10000 ∧ a = nI s ∧ b = nI m) : zEi G y_Mo_mean prog_14_method_151_code 7 (some .boolean) 142 [.ref 145, .int a, .int b] (I, J, P, S) (fun r w => r = nI 0 ∧ mW I J P S 5 w) := by
  obtain ⟨M0, ⟨M4, M4s⟩, ⟨M5, M5s⟩, ⟨M6, M6s⟩, ⟨M7, M7s⟩, ⟨M20, M20s⟩, ⟨M21, M21s⟩, ⟨M22, M22s⟩, ⟨M26, M26s⟩, ⟨M27, M27s⟩, ⟨M28, M28s⟩, ⟨M30, M30s⟩, ⟨M34, M34s⟩, ⟨M36, M36s⟩, ⟨M37, M37s⟩⟩ := id M
  obtain ⟨I1, hI1, N1, h1, h0, e150, er, ek⟩ := mo_beg N
  refine zEi_of (lv := [some (.ref 145), some (.int a), some (.int b), none, none, none, none]) (by decide) rfl (Nat.le_of_ble_eq_true rfl) ?_
  refine z_aload_0 d_Mo_mean_0 ?_
  refine z_iconst (a := nI 0) d_Mo_mean_1 (by decide) ?_
  refine z_putI d_Mo_mean_2 f_Mo_70 (by first | assumption | exact zS0_at (by assumption) (by omega) | exact zS0_at rfl (by omega)) ?_
  refine z_aload_0 d_Mo_mean_5 ?_
  refine z_iconst (a := nI 0) d_Mo_mean_6 (by decide) ?_
  refine z_putI d_Mo_mean_7 f_Mo_73 (by first | assumption | exact zS0_at (by assumption) (by omega) | exact zS0_at rfl (by omega)) ?_
  rw [← hI1]
  refine z_iload_2 d_Mo_mean_10 ?_
  refine z_i2l d_Mo_mean_11 ?_
  refine z_lconst (f := lN 1) d_Mo_mean_12 rfl ?_
  refine z_ldc2 d_Mo_mean_13 c_Mo_517 ?_
  refine z_Si3 d_Mo_mean_16 k_Mo_105 (t_Mo_isIn) ⟨Nat.le_of_ble_eq_true rfl, Nat.le_of_ble_eq_true rfl, Nat.le_of_ble_eq_true rfl, Nat.le_of_ble_eq_true rfl⟩ (Nat.le_of_ble_eq_true rfl) ?_
  intro r w hq
  rcases hq with ⟨⟨hz, rfl⟩ | ⟨hz, rfl⟩, rfl⟩
  rotate_left
  · refine z_if_eq (tgt := 37) d_Mo_mean_19 (by decide) (fun _ => ?_) (fun h => absurd (by decide) h)
    refine z_aload_0 d_Mo_mean_37 ?_
    refine z_iconst (a := nI 5) d_Mo_mean_38 (by decide) ?_
    refine z_Vi1 d_Mo_mean_39 k_Mo_85 (by first | assumption | exact zS0_at (by assumption) (by omega) | exact zS0_at rfl (by omega)) (t_Mo_no (by assumption)) ⟨Nat.le_of_ble_eq_true rfl, Nat.le_of_ble_eq_true rfl, Nat.le_of_ble_eq_true rfl, Nat.le_of_ble_eq_true rfl⟩ (Nat.le_of_ble_eq_true rfl) ?_
    intro r w hq
    obtain ⟨rfl, rfl⟩ := hq
    refine z_retz d_Mo_mean_42 (by first | exact zb0 | exact zb1 | assumption) ?_
    exact ⟨rfl, _, _, rfl, mqF_z h1 (by decide), mqJ_r, zu_same _ _ _ _⟩
  obtain ⟨m, m1, m2, rfl⟩ := one20.mp hz
  refine z_if_eq (tgt := 37) d_Mo_mean_19 (by decide) (fun h => absurd h (by decide)) (fun _ => ?_)
  refine z_iload_1 d_Mo_mean_22 ?_
  refine z_i2l d_Mo_mean_23 ?_
  refine z_lconst (f := lN 0) d_Mo_mean_24 rfl ?_
  refine z_sipush (a := nI 10000) d_Mo_mean_25 (by decide) ?_
  refine z_iload_2 d_Mo_mean_28 ?_
  first | refine z_isubN d_Mo_mean_29 (by omega) ?_ | refine z_isub d_Mo_mean_29 ?_
  refine z_i2l d_Mo_mean_30 ?_
  refine z_Si3 d_Mo_mean_31 k_Mo_105 (t_Mo_isInZ (m := 10001 - m) (by omega) (by rw [Int32.toInt_toInt64, nI_int (by omega)]; omega)) ⟨Nat.le_of_ble_eq_true rfl, Nat.le_of_ble_eq_true rfl, Nat.le_of_ble_eq_true rfl, Nat.le_of_ble_eq_true rfl⟩ (Nat.le_of_ble_eq_true rfl) ?_
  intro r w hq
  rcases hq with ⟨⟨⟨j, hj, hja⟩, rfl⟩ | ⟨hz2, rfl⟩, rfl⟩
  · exact absurd ⟨m, j, m1, m2, by omega, hja, rfl⟩ h
  · refine z_if_ne (tgt := 43) d_Mo_mean_34 (by decide) (fun h => absurd (by decide) h) (fun _ => ?_)
    refine z_aload_0 d_Mo_mean_37 ?_
    refine z_iconst (a := nI 5) d_Mo_mean_38 (by decide) ?_
    refine z_Vi1 d_Mo_mean_39 k_Mo_85 (by first | assumption | exact zS0_at (by assumption) (by omega) | exact zS0_at rfl (by omega)) (t_Mo_no (by assumption)) ⟨Nat.le_of_ble_eq_true rfl, Nat.le_of_ble_eq_true rfl, Nat.le_of_ble_eq_true rfl, Nat.le_of_ble_eq_true rfl⟩ (Nat.le_of_ble_eq_true rfl) ?_
    intro r w hq
    obtain ⟨rfl, rfl⟩ := hq
    refine z_retz d_Mo_mean_42 (by first | exact zb0 | exact zb1 | assumption) ?_
    exact ⟨rfl, _, _, rfl, mqF_z h1 (by decide), mqJ_r, zu_same _ _ _ _⟩
theorem t_Mo_mean_n (M : modOk P S) (N : modIn I nt np nl nn) (g1 : 1 ≤ mm) (g2 : mm ≤ 20) (g3 : s + mm ≤ 10000) (h87 : I 150 87 = nI 0) : zEi G y_Mo_mean prog_14_method_151_code 7 (some .boolean) 142 [.ref 145, .int (nI s), .int (nI mm)] (I, J, P, S) (fun r w => r = nI 0 ∧ mW I J P S 8 w) := by
  obtain ⟨M0, ⟨M4, M4s⟩, ⟨M5, M5s⟩, ⟨M6, M6s⟩, ⟨M7, M7s⟩, ⟨M20, M20s⟩, ⟨M21, M21s⟩, ⟨M22, M22s⟩, ⟨M26, M26s⟩, ⟨M27, M27s⟩, ⟨M28, M28s⟩, ⟨M30, M30s⟩, ⟨M34, M34s⟩, ⟨M36, M36s⟩, ⟨M37, M37s⟩⟩ := id M
  obtain ⟨I1, hI1, N1, h1, h0, e150, er, ek⟩ := mo_beg N
  have h87 : I1 150 87 = nI 0 := by rw [e150]; exact h87
  refine zEi_of (lv := [some (.ref 145), some (.int (nI s)), some (.int (nI mm)), none, none, none, none]) (by decide) rfl (Nat.le_of_ble_eq_true rfl) ?_
  refine z_aload_0 d_Mo_mean_0 ?_
  refine z_iconst (a := nI 0) d_Mo_mean_1 (by decide) ?_
  refine z_putI d_Mo_mean_2 f_Mo_70 (by first | assumption | exact zS0_at (by assumption) (by omega) | exact zS0_at rfl (by omega)) ?_
  refine z_aload_0 d_Mo_mean_5 ?_
  refine z_iconst (a := nI 0) d_Mo_mean_6 (by decide) ?_
  refine z_putI d_Mo_mean_7 f_Mo_73 (by first | assumption | exact zS0_at (by assumption) (by omega) | exact zS0_at rfl (by omega)) ?_
  rw [← hI1]
  refine z_iload_2 d_Mo_mean_10 ?_
  refine z_i2l d_Mo_mean_11 ?_
  refine z_lconst (f := lN 1) d_Mo_mean_12 rfl ?_
  refine z_ldc2 d_Mo_mean_13 c_Mo_517 ?_
  refine z_Si3 d_Mo_mean_16 k_Mo_105 (t_Mo_isIn) ⟨Nat.le_of_ble_eq_true rfl, Nat.le_of_ble_eq_true rfl, Nat.le_of_ble_eq_true rfl, Nat.le_of_ble_eq_true rfl⟩ (Nat.le_of_ble_eq_true rfl) ?_
  intro r w hq
  rcases hq with ⟨⟨hz, rfl⟩ | ⟨hz, rfl⟩, rfl⟩
  rotate_left
  · exact absurd (one20.mpr ⟨mm, g1, g2, rfl⟩) hz
  refine z_if_eq (tgt := 37) d_Mo_mean_19 (by decide) (fun h => absurd h (by decide)) (fun _ => ?_)
  refine z_iload_1 d_Mo_mean_22 ?_
  refine z_i2l d_Mo_mean_23 ?_
  refine z_lconst (f := lN 0) d_Mo_mean_24 rfl ?_
  refine z_sipush (a := nI 10000) d_Mo_mean_25 (by decide) ?_
  refine z_iload_2 d_Mo_mean_28 ?_
  first | refine z_isubN d_Mo_mean_29 (by omega) ?_ | refine z_isub d_Mo_mean_29 ?_
  refine z_i2l d_Mo_mean_30 ?_
  refine z_Si3 d_Mo_mean_31 k_Mo_105 (t_Mo_isInZ (m := 10001 - mm) (by omega) (by rw [Int32.toInt_toInt64, nI_int (by omega)]; omega)) ⟨Nat.le_of_ble_eq_true rfl, Nat.le_of_ble_eq_true rfl, Nat.le_of_ble_eq_true rfl, Nat.le_of_ble_eq_true rfl⟩ (Nat.le_of_ble_eq_true rfl) ?_
  intro r w hq
  rcases hq with ⟨⟨-, rfl⟩ | ⟨hz2, rfl⟩, rfl⟩
  rotate_left
  · exact absurd ⟨s, by omega, rfl⟩ hz2
  refine z_if_ne (tgt := 43) d_Mo_mean_34 (by decide) (fun _ => ?_) (fun h => absurd h (by decide))
  refine z_aload_0 d_Mo_mean_43 ?_
  refine z_getR d_Mo_mean_44 f_Mo_35 (by first | assumption | exact zS0_at (by assumption) (by omega) | exact zS0_at rfl (by omega)) (by first | assumption | exact zS0_at (by assumption) (by omega) | exact zS0_at rfl (by omega)) ?_
  refine z_bipush (a := nI 87) d_Mo_mean_47 (by decide) ?_
  first | refine z_ialdNv d_Mo_mean_49 (by first | assumption | exact zS0_at (by assumption) (by omega) | exact zS0_at rfl (by omega)) (by omega) (by first | decide | omega) (by first | assumption | ((try simp (disch := omega) only [zu_same, zu_ne, zcp_ne, zfl_ne]); first | assumption | rfl)) ?_ | refine z_iald d_Mo_mean_49 (by first | assumption | exact zS0_at (by assumption) (by omega) | exact zS0_at rfl (by omega)) (by first | assumption | exact zS0_at (by assumption) (by omega) | exact zS0_at rfl (by omega)) ?_
  refine z_if_ne (tgt := 60) d_Mo_mean_50 (by decide) (fun h => absurd (by decide) h) (fun _ => ?_)
  refine z_aload_0 d_Mo_mean_53 ?_
  refine z_bipush (a := nI 8) d_Mo_mean_54 (by decide) ?_
  refine z_Vi1 d_Mo_mean_56 k_Mo_85 (by first | assumption | exact zS0_at (by assumption) (by omega) | exact zS0_at rfl (by omega)) (t_Mo_no (by assumption)) ⟨Nat.le_of_ble_eq_true rfl, Nat.le_of_ble_eq_true rfl, Nat.le_of_ble_eq_true rfl, Nat.le_of_ble_eq_true rfl⟩ (Nat.le_of_ble_eq_true rfl) ?_
  intro r w hq
  obtain ⟨rfl, rfl⟩ := hq
  refine z_retz d_Mo_mean_59 (by first | exact zb0 | exact zb1 | assumption) ?_
  exact ⟨rfl, _, _, rfl, mqF_z h1 (by decide), mqJ_r, zu_same _ _ _ _⟩
/-- in the midst of the reference's mean -/
def mnF (I I' : Nat → Nat → Int32) : Prop := I' 150 = I 150 ∧ (∀ k, k < 87 → I' 151 k = I 150 k) ∧ (∀ a, a ≠ 145 → a ≠ 150 → a ≠ 151 → I' a = I a) ∧ ∀ k, (k < 39 ∨ 47 ≤ k) → I' 145 k = I 145 k
theorem t_Mo_mean {C : Nat → Nat → Int32} {tb : Nat → Nat → Nat → Int32} {vs : Nat → Nat} (M : modOk P S) (N : modIn I nt np nl nn) (g1 : 1 ≤ mm) (g2 : mm ≤ 20) (g3 : s + mm ≤ 10000) (h87 : I 150 87 = nI 1) (hns : I 150 88 = nI ns) (hns3 : ns ≤ 30) (hz : sz ≤ 60) (hg : g ≤ 20000000) (hG : ∀ i, i < mm → mG nt np nl nn g sz m ns I (s + i) (vs i) (tb i)) : zEi G y_Mo_mean prog_14_method_151_code 7 (some .boolean) 142 [.ref 145, .int (nI s), .int (nI mm)] (I, J, P, S) (fun r w => r = nI 1 ∧ ∃ I1 I', mD I I1 ∧ mnF I1 I' ∧ w = (I', zu (zu J 145 2 (lN (vsum vs mm / Nat.gcd (vsum vs mm) mm))) 145 3 (lN (mm / Nat.gcd (vsum vs mm) mm)), P, S)) := by
  obtain ⟨M0, ⟨M4, M4s⟩, ⟨M5, M5s⟩, ⟨M6, M6s⟩, ⟨M7, M7s⟩, ⟨M20, M20s⟩, ⟨M21, M21s⟩, ⟨M22, M22s⟩, ⟨M26, M26s⟩, ⟨M27, M27s⟩, ⟨M28, M28s⟩, ⟨M30, M30s⟩, ⟨M34, M34s⟩, ⟨M36, M36s⟩, ⟨M37, M37s⟩⟩ := id M
  obtain ⟨I1, hI1, N1, h1, h0, e150, er, ek⟩ := mo_beg N
  have hD : mD I I1 := ⟨h1, h0, e150, er⟩
  have h87 : I1 150 87 = nI 1 := by rw [e150]; exact h87
  have nb : np ≤ 7 := N.2.1.2
  refine zEi_of (lv := [some (.ref 145), some (.int (nI s)), some (.int (nI mm)), none, none, none, none]) (by decide) rfl (Nat.le_of_ble_eq_true rfl) ?_
  have loop : ∀ z j, mm - j < z → j ≤ mm → ∀ Ik, mnF I1 Ik → zA G y_Mo_mean prog_14_method_151_code 7 (some .boolean) (zRm 142 0 0) (zM G 0 0 (fun r w' => ∃ x, r = some (.int x) ∧ (fun r w => r = nI 1 ∧ ∃ I1 I', mD I I1 ∧ mnF I1 I' ∧ w = (I', zu (zu J 145 2 (lN (vsum vs mm / Nat.gcd (vsum vs mm) mm))) 145 3 (lN (mm / Nat.gcd (vsum vs mm) mm)), P, S)) x w')) 91 [some (.ref 145), some (.int (nI s)), some (.int (nI mm)), some (.long (lN (vsum vs j))), none, some (.int (nI j)), none] [] (Ik, J, P, S) 0 0 := by
    intro z
    induction z with
    | zero => intro j h; exact absurd h (Nat.not_lt_zero _)
    | succ z ih =>
      intro j hm hj Ik hF
      obtain ⟨f1, f2, f3, f4⟩ := id hF
      have hle := vsum_le (vs := vs) (B := 7 * (g + 29700)) j (fun i hi => (hG i (by omega)).2.2.2.1)
      have hle2 : j * (7 * (g + 29700)) ≤ 20 * (7 * (g + 29700)) := Nat.mul_le_mul_right _ (by omega)
      have k150 : Ik 150 = I 150 := f1.trans e150
      refine z_iload_5 d_Mo_mean_91 ?_
      refine z_iload_2 d_Mo_mean_93 ?_
      refine z_icmp_ge (tgt := 149) d_Mo_mean_94 (by decide) (fun hb => ?_) (fun hb => ?_)
      · have hb := (nI_leI (by omega) (by omega)).mp hb
        obtain rfl : j = mm := by omega
        refine z_aload_0 d_Mo_mean_149 ?_
        refine z_lload_3 d_Mo_mean_150 ?_
        refine z_iload_2 d_Mo_mean_151 ?_
        refine z_i2l d_Mo_mean_152 ?_
        rw [nI_l (by omega)]
        refine z_Vi2 d_Mo_mean_153 k_Mo_456 (by first | assumption | exact zS0_at (by assumption) (by omega) | exact zS0_at rfl (by omega)) (t_Mo_fraction M (by omega) (by omega) (by omega)) ⟨Nat.le_of_ble_eq_true rfl, Nat.le_of_ble_eq_true rfl, Nat.le_of_ble_eq_true rfl, Nat.le_of_ble_eq_true rfl⟩ (Nat.le_of_ble_eq_true rfl) ?_
        intro r w hq
        obtain ⟨rfl, rfl⟩ := hq
        refine z_retz d_Mo_mean_156 (by first | exact zb0 | exact zb1 | assumption) ?_
        exact ⟨rfl, I1, Ik, hD, hF, rfl⟩
      · have hb : j < mm := Nat.lt_of_not_le (fun q => hb (nI_le q (by omega)))
        obtain ⟨y1, y2, y3, y4, y5⟩ := hG j hb
        refine z_aload_0 d_Mo_mean_97 ?_
        refine z_iload_1 d_Mo_mean_98 ?_
        refine z_iload_5 d_Mo_mean_99 ?_
        first | refine z_iaddN d_Mo_mean_101 ?_ | refine z_iadd d_Mo_mean_101 ?_
        refine z_Vv1 d_Mo_mean_102 k_Mo_511 (by first | assumption | exact zS0_at (by assumption) (by omega) | exact zS0_at rfl (by omega)) (m_runs (f := 52) (l := 123) (g := g) (C0 := tb j) (ns := ns) (m := m) M (by omega) (by rw [k150]; exact y1) (by rw [k150]; exact y2) (by rw [k150]; exact hns) hns3 y3 hz (by omega)) ⟨Nat.le_of_ble_eq_true rfl, Nat.le_of_ble_eq_true rfl, Nat.le_of_ble_eq_true rfl, Nat.le_of_ble_eq_true rfl⟩ (Nat.le_of_ble_eq_true rfl) ?_
        intro w hq
        obtain ⟨I', rfl, C', s', hC', -, hF', -, hR, -⟩ := hq
        have hsum : s_sum (fun _ => true) (fun p => I' 150 (26 + p)) np = nI (vs j) := by
          rw [← y5, ← hC']
          exact s_sum_congr np (fun p hp => ⟨rfl, fun _ => by obtain ⟨-, -, v, -, v1, v2⟩ := hF'.2.2.2.1 p hp; exact v2.trans v1.symm⟩)
        refine z_lload_3 d_Mo_mean_105 ?_
        refine z_aload_0 d_Mo_mean_106 ?_
        refine z_Vi0 d_Mo_mean_107 k_Mo_503 (by first | assumption | exact zS0_at (by assumption) (by omega) | exact zS0_at rfl (by omega)) (t_Mo_allGot M (fmR_mod hF')) ⟨Nat.le_of_ble_eq_true rfl, Nat.le_of_ble_eq_true rfl, Nat.le_of_ble_eq_true rfl, Nat.le_of_ble_eq_true rfl⟩ (Nat.le_of_ble_eq_true rfl) ?_
        intro r w hq
        obtain ⟨rfl, rfl⟩ := hq
        rw [hsum]
        refine z_i2l d_Mo_mean_110 ?_
        rw [nI_l (by omega)]
        refine z_ladd d_Mo_mean_111 ?_
        rw [lN_add]
        have res : ∀ z' i, 87 - i < z' → i ≤ 87 → zA G y_Mo_mean prog_14_method_151_code 7 (some .boolean) (zRm 142 0 0) (zM G 0 0 (fun r w' => ∃ x, r = some (.int x) ∧ (fun r w => r = nI 1 ∧ ∃ I1 I', mD I I1 ∧ mnF I1 I' ∧ w = (I', zu (zu J 145 2 (lN (vsum vs mm / Nat.gcd (vsum vs mm) mm))) 145 3 (lN (mm / Nat.gcd (vsum vs mm) mm)), P, S)) x w')) 116 [some (.ref 145), some (.int (nI s)), some (.int (nI mm)), some (.long (lN (vsum vs j + vs j))), none, some (.int (nI j)), some (.int (nI i))] [] (zcp I' 151 150 0 0 i, J, P, S) 0 0 := by
          intro z'
          induction z' with
          | zero => intro i h; exact absurd h (Nat.not_lt_zero _)
          | succ z' ih' =>
            intro i hi hi7
            refine z_iload_6 d_Mo_mean_116 ?_
            refine z_bipush (a := nI 87) d_Mo_mean_118 (by decide) ?_
            refine z_icmp_ge (tgt := 143) d_Mo_mean_120 (by decide) (fun hb' => ?_) (fun hb' => ?_)
            · have hb' := (nI_leI (by omega) (by omega)).mp hb'
              obtain rfl : i = 87 := by omega
              have q := ih (j + 1) (by omega) (by omega) (zcp I' 151 150 0 0 87) ⟨?_, fun k hk => ?_, fun a g1 g2 g3 => ?_, fun k hk => ?_⟩
              · rw [vsum] at q
                first | refine z_iinc_5 d_Mo_mean_143 rfl (zi_inc _) ?_ | refine z_iinc_5 d_Mo_mean_143 rfl rfl ?_
                refine z_goto (tgt := 91) d_Mo_mean_146 (by decide) ?_
                refine z_forget_6 ?_
                exact q
              · funext k
                by_cases hk : k < 87
                · rw [zcp_in (Nat.zero_le _) (by omega), Nat.sub_zero, Nat.zero_add, hR.1 151 (by omega) (by omega), f2 k hk]
                · rw [zcp_out (by omega), hR.2.1 k (by omega), f1]
              · rw [zcp_ne (by omega), hR.1 151 (by omega) (by omega)]; exact f2 k hk
              · rw [zcp_ne g2, hR.1 a g1 g2]; exact f3 a g1 g2 g3
              · rw [zcp_ne (by omega), hR.2.2 k hk]; exact f4 k hk
            · have hb' : i < 87 := Nat.lt_of_not_le (fun q => hb' (nI_le q (by omega)))
              have hv : zcp I' 151 150 0 0 i 151 i = I' 151 i := by rw [zcp_ne (by omega)]
              have e1 := zcp_s2 (f := I') (q0 := 151) (q1 := 150) (s := 0) (d := 0) (n := i)
              rw [Nat.zero_add] at e1
              refine z_aload_0 d_Mo_mean_123 ?_
              refine z_getR d_Mo_mean_124 f_Mo_35 (by first | assumption | exact zS0_at (by assumption) (by omega) | exact zS0_at rfl (by omega)) (by first | assumption | exact zS0_at (by assumption) (by omega) | exact zS0_at rfl (by omega)) ?_
              refine z_iload_6 d_Mo_mean_127 ?_
              refine z_aload_0 d_Mo_mean_129 ?_
              refine z_getR d_Mo_mean_130 f_Mo_38 (by first | assumption | exact zS0_at (by assumption) (by omega) | exact zS0_at rfl (by omega)) (by first | assumption | exact zS0_at (by assumption) (by omega) | exact zS0_at rfl (by omega)) ?_
              refine z_iload_6 d_Mo_mean_133 ?_
              first | refine z_ialdNv d_Mo_mean_135 (by first | assumption | exact zS0_at (by assumption) (by omega) | exact zS0_at rfl (by omega)) (by omega) (by first | decide | omega) (by first | assumption | ((try simp (disch := omega) only [zu_same, zu_ne, zcp_ne, zfl_ne]); first | assumption | rfl)) ?_ | refine z_iald d_Mo_mean_135 (by first | assumption | exact zS0_at (by assumption) (by omega) | exact zS0_at rfl (by omega)) (by first | assumption | exact zS0_at (by assumption) (by omega) | exact zS0_at rfl (by omega)) ?_
              refine z_iastN d_Mo_mean_136 (by assumption) (by omega) (by decide) ?_
              rw [e1]
              first | refine z_iinc_6 d_Mo_mean_137 rfl (zi_inc _) ?_ | refine z_iinc_6 d_Mo_mean_137 rfl rfl ?_
              refine z_goto (tgt := 116) d_Mo_mean_140 (by decide) ?_
              exact ih' (i + 1) (by omega) (by omega)
        first | refine z_lstore_3 d_Mo_mean_112 rfl ?_ | (refine z_forget_2 ?_; refine z_lstore_3 d_Mo_mean_112 rfl ?_)
        refine z_iconst (a := nI 0) d_Mo_mean_113 (by decide) ?_
        first | refine z_istore_6 d_Mo_mean_114 rfl ?_ | (refine z_forget_5 ?_; refine z_istore_6 d_Mo_mean_114 rfl ?_)
        have q := res 88 0 (by omega) (by omega)
        rw [zcp_0] at q
        exact q
  have cp : ∀ z i, 87 - i < z → i ≤ 87 → zA G y_Mo_mean prog_14_method_151_code 7 (some .boolean) (zRm 142 0 0) (zM G 0 0 (fun r w' => ∃ x, r = some (.int x) ∧ (fun r w => r = nI 1 ∧ ∃ I1 I', mD I I1 ∧ mnF I1 I' ∧ w = (I', zu (zu J 145 2 (lN (vsum vs mm / Nat.gcd (vsum vs mm) mm))) 145 3 (lN (mm / Nat.gcd (vsum vs mm) mm)), P, S)) x w')) 62 [some (.ref 145), some (.int (nI s)), some (.int (nI mm)), some (.int (nI i)), none, none, none] [] (zcp I1 150 151 0 0 i, J, P, S) 0 0 := by
    intro z
    induction z with
    | zero => intro i h; exact absurd h (Nat.not_lt_zero _)
    | succ z ih =>
      intro i hi hi7
      refine z_iload_3 d_Mo_mean_62 ?_
      refine z_bipush (a := nI 87) d_Mo_mean_63 (by decide) ?_
      refine z_icmp_ge (tgt := 86) d_Mo_mean_65 (by decide) (fun hb => ?_) (fun hb => ?_)
      · have hb := (nI_leI (by omega) (by omega)).mp hb
        obtain rfl : i = 87 := by omega
        have q := loop (mm + 1) 0 (by omega) (by omega) (zcp I1 150 151 0 0 87) ⟨zcp_ne (by decide), fun k hk => by rw [zcp_in (Nat.zero_le _) (by omega), Nat.sub_zero, Nat.zero_add], fun a q1 q2 q3 => zcp_ne q3, fun k _ => by rw [zcp_ne (by decide)]⟩
        refine z_lconst (f := lN 0) d_Mo_mean_86 rfl ?_
        refine z_lstore_3 d_Mo_mean_87 rfl ?_
        refine z_iconst (a := nI 0) d_Mo_mean_88 (by decide) ?_
        first | refine z_istore_5 d_Mo_mean_89 rfl ?_ | (refine z_forget_4 ?_; refine z_istore_5 d_Mo_mean_89 rfl ?_)
        exact q
      · have hb : i < 87 := Nat.lt_of_not_le (fun q => hb (nI_le q (by omega)))
        have hv : zcp I1 150 151 0 0 i 150 i = I1 150 i := by rw [zcp_ne (by omega)]
        have e1 := zcp_s2 (f := I1) (q0 := 150) (q1 := 151) (s := 0) (d := 0) (n := i)
        rw [Nat.zero_add] at e1
        refine z_aload_0 d_Mo_mean_68 ?_
        refine z_getR d_Mo_mean_69 f_Mo_38 (by first | assumption | exact zS0_at (by assumption) (by omega) | exact zS0_at rfl (by omega)) (by first | assumption | exact zS0_at (by assumption) (by omega) | exact zS0_at rfl (by omega)) ?_
        refine z_iload_3 d_Mo_mean_72 ?_
        refine z_aload_0 d_Mo_mean_73 ?_
        refine z_getR d_Mo_mean_74 f_Mo_35 (by first | assumption | exact zS0_at (by assumption) (by omega) | exact zS0_at rfl (by omega)) (by first | assumption | exact zS0_at (by assumption) (by omega) | exact zS0_at rfl (by omega)) ?_
        refine z_iload_3 d_Mo_mean_77 ?_
        first | refine z_ialdNv d_Mo_mean_78 (by first | assumption | exact zS0_at (by assumption) (by omega) | exact zS0_at rfl (by omega)) (by omega) (by first | decide | omega) (by first | assumption | ((try simp (disch := omega) only [zu_same, zu_ne, zcp_ne, zfl_ne]); first | assumption | rfl)) ?_ | refine z_iald d_Mo_mean_78 (by first | assumption | exact zS0_at (by assumption) (by omega) | exact zS0_at rfl (by omega)) (by first | assumption | exact zS0_at (by assumption) (by omega) | exact zS0_at rfl (by omega)) ?_
        refine z_iastN d_Mo_mean_79 (by assumption) (by omega) (by decide) ?_
        rw [e1]
        first | refine z_iinc_3 d_Mo_mean_80 rfl (zi_inc _) ?_ | refine z_iinc_3 d_Mo_mean_80 rfl rfl ?_
        refine z_goto (tgt := 62) d_Mo_mean_83 (by decide) ?_
        exact ih (i + 1) (by omega) (by omega)
  refine z_aload_0 d_Mo_mean_0 ?_
  refine z_iconst (a := nI 0) d_Mo_mean_1 (by decide) ?_
  refine z_putI d_Mo_mean_2 f_Mo_70 (by first | assumption | exact zS0_at (by assumption) (by omega) | exact zS0_at rfl (by omega)) ?_
  refine z_aload_0 d_Mo_mean_5 ?_
  refine z_iconst (a := nI 0) d_Mo_mean_6 (by decide) ?_
  refine z_putI d_Mo_mean_7 f_Mo_73 (by first | assumption | exact zS0_at (by assumption) (by omega) | exact zS0_at rfl (by omega)) ?_
  rw [← hI1]
  refine z_iload_2 d_Mo_mean_10 ?_
  refine z_i2l d_Mo_mean_11 ?_
  refine z_lconst (f := lN 1) d_Mo_mean_12 rfl ?_
  refine z_ldc2 d_Mo_mean_13 c_Mo_517 ?_
  refine z_Si3 d_Mo_mean_16 k_Mo_105 (t_Mo_isIn) ⟨Nat.le_of_ble_eq_true rfl, Nat.le_of_ble_eq_true rfl, Nat.le_of_ble_eq_true rfl, Nat.le_of_ble_eq_true rfl⟩ (Nat.le_of_ble_eq_true rfl) ?_
  intro r w hq
  rcases hq with ⟨⟨hz', rfl⟩ | ⟨hz', rfl⟩, rfl⟩
  rotate_left
  · exact absurd (one20.mpr ⟨mm, g1, g2, rfl⟩) hz'
  refine z_if_eq (tgt := 37) d_Mo_mean_19 (by decide) (fun h => absurd h (by decide)) (fun _ => ?_)
  refine z_iload_1 d_Mo_mean_22 ?_
  refine z_i2l d_Mo_mean_23 ?_
  refine z_lconst (f := lN 0) d_Mo_mean_24 rfl ?_
  refine z_sipush (a := nI 10000) d_Mo_mean_25 (by decide) ?_
  refine z_iload_2 d_Mo_mean_28 ?_
  first | refine z_isubN d_Mo_mean_29 (by omega) ?_ | refine z_isub d_Mo_mean_29 ?_
  refine z_i2l d_Mo_mean_30 ?_
  refine z_Si3 d_Mo_mean_31 k_Mo_105 (t_Mo_isInZ (m := 10001 - mm) (by omega) (by rw [Int32.toInt_toInt64, nI_int (by omega)]; omega)) ⟨Nat.le_of_ble_eq_true rfl, Nat.le_of_ble_eq_true rfl, Nat.le_of_ble_eq_true rfl, Nat.le_of_ble_eq_true rfl⟩ (Nat.le_of_ble_eq_true rfl) ?_
  intro r w hq
  rcases hq with ⟨⟨-, rfl⟩ | ⟨hz2, rfl⟩, rfl⟩
  rotate_left
  · exact absurd ⟨s, by omega, rfl⟩ hz2
  refine z_if_ne (tgt := 43) d_Mo_mean_34 (by decide) (fun _ => ?_) (fun h => absurd h (by decide))
  refine z_aload_0 d_Mo_mean_43 ?_
  refine z_getR d_Mo_mean_44 f_Mo_35 (by first | assumption | exact zS0_at (by assumption) (by omega) | exact zS0_at rfl (by omega)) (by first | assumption | exact zS0_at (by assumption) (by omega) | exact zS0_at rfl (by omega)) ?_
  refine z_bipush (a := nI 87) d_Mo_mean_47 (by decide) ?_
  first | refine z_ialdNv d_Mo_mean_49 (by first | assumption | exact zS0_at (by assumption) (by omega) | exact zS0_at rfl (by omega)) (by omega) (by first | decide | omega) (by first | assumption | ((try simp (disch := omega) only [zu_same, zu_ne, zcp_ne, zfl_ne]); first | assumption | rfl)) ?_ | refine z_iald d_Mo_mean_49 (by first | assumption | exact zS0_at (by assumption) (by omega) | exact zS0_at rfl (by omega)) (by first | assumption | exact zS0_at (by assumption) (by omega) | exact zS0_at rfl (by omega)) ?_
  refine z_if_ne (tgt := 60) d_Mo_mean_50 (by decide) (fun _ => ?_) (fun h => absurd h (by decide))
  refine z_iconst (a := nI 0) d_Mo_mean_60 (by decide) ?_
  first | refine z_istore_3 d_Mo_mean_61 rfl ?_ | (refine z_forget_2 ?_; refine z_istore_3 d_Mo_mean_61 rfl ?_)
  have q := cp 88 0 (by omega) (by omega)
  rw [zcp_0] at q
  exact q
theorem L_mean (h : zInv n w) (hn : n ≤ 600) : zEi G y_Tf_mean prog_1_method_50_code 7 (some .boolean) 8 [.ref 0, .int a, .int b] w (fun r w1 => w1.2.2.2 = w.2.2.2 ∧ zEi G y_Mo_mean prog_14_method_151_code 7 (some .boolean) 142 [.ref 145, .int a, .int b] w1 (fun r' w2 => r' = r ∧ zInv (n + 1) w2)) := by
  obtain ⟨f, d, nt, np, nl, nn, fed, mk, I, J, P, S, rfl, Z, X⟩ := h
  have M := clOk_M Z
  have hf := clOk_f Z
  have N := stR_fen X
  have N0 := stR_mod X
  have fm := stR_fm X
  obtain ⟨⟨⟨a1, r1, b1⟩, ⟨a2, r2, b2⟩, ⟨a3, r3, b3⟩, ⟨a4, r4, b4⟩⟩, ⟨⟨o, ob, ao, ro⟩, r5⟩, fw, fp, ft, fz⟩ := id fm
  obtain ⟨⟨x1, x2, x3⟩, x4, ⟨⟨x5, x6, x7⟩, x8, x9⟩, ⟨x10, x11⟩, x12, x13, ⟨⟨x14, x15, x16⟩, x17⟩, x18⟩ := id X
  by_cases hbad : ∃ m s, 1 ≤ m ∧ m ≤ 20 ∧ s + m ≤ 10000 ∧ a = nI s ∧ b = nI m
  rotate_left
  · exact L_q Z X (t_Tf_mean_b Z hbad) (fun I' J' e _ => ⟨_, rfl, t_Mo_mean_b M (modIn_c N0 (e 150 (by decide))) hbad⟩)
  obtain ⟨mm, s, h1, h2, h3, rfl, rfl⟩ := hbad
  rcases x13.2.2 with ⟨q1, q2, q3⟩ | ⟨m, ns, sz, q1, q2, ⟨q3, q4, q5⟩, ⟨q6, q7⟩, q8⟩
  · exact L_q Z X (t_Tf_mean_n Z h1 h2 h3 q1) (fun I' J' e _ => ⟨_, rfl, t_Mo_mean_n M (modIn_c N0 (e 150 (by decide))) h1 h2 h3 (by rw [e 150 (by decide)]; exact q2)⟩)
  have hq8 : yb (n3 nt np nn) (sf (f + 12) I) (fun c k => I 150 (89 + 9 * c + k)) m 0 ns 0 sz := yb_c _ _ _ _ _ (fun _ _ _ _ _ _ => rfl) (fun c k _ _ _ => by show I 150 (89 + 9 * c + k) = I 150 (359 * 0 + 89 + 9 * c + k); rw [show 359 * 0 + 89 + 9 * c + k = 89 + 9 * c + k by omega]) q8
  refine zEi_mono (t_Tf_mean (g := 29700 * n) Z h1 h2 h3 q1 (by omega) fm hq8 q6 q7) ?_
  rintro r w ⟨rfl, tb, vs, I', J', rfl, hG, hI, hJ⟩
  have w150 : zu I' 0 0 (nI 0) 150 = I 150 := by rw [zu_row _ _ _ _ (by decide), hI 150 (by omega) (by omega) (by omega)]
  have hG' : ∀ i, i < mm → mG nt np nl nn (29700 * n) sz m ns (zu I' 0 0 (nI 0)) (s + i) (vs i) (tb i) := fun i hi => by
    unfold mG
    rw [w150]
    exact hG i hi
  refine ⟨rfl, zEi_mono (t_Mo_mean (C := I) (g := 29700 * n) M (modIn_c N0 w150) h1 h2 h3 (by rw [w150]; exact q2) (by rw [w150]; exact q4) q5 q7 (by omega) hG') ?_⟩
  rintro r w ⟨rfl, I1, I2, hD, ⟨f1, f2, f3, f4⟩, rfl⟩
  obtain ⟨d1, d2, d3, d4⟩ := hD
  have er : ∀ a, a ≠ 0 → ¬ (52 ≤ a ∧ a ≤ 68) → a ≠ 123 → a ≠ 124 → a ≠ 145 → a ≠ 151 → I2 a = I a := fun a g0 g1 g2 g3 g4 g5 => by
    by_cases h150 : a = 150
    · subst h150; rw [f1, d3, w150]
    · rw [f3 a g4 h150 g5, d4 a g4, zu_row _ _ _ _ g0, hI a g1 g2 g3]
  refine ⟨rfl, f, d, nt, np, nl, nn, fed, mk, I2, _, P, S, rfl, Z, stR_q X hf ⟨fun a ha => er a (by omega) (by omega) (by omega) (by omega) (by omega) (by omega), fun k hk => ?_, ?_, fun k _ => by rw [er 150 (by omega) (by omega) (by omega) (by omega) (by omega) (by omega)], fun k hk => ?_⟩ (fun a q1 q2 => er a (by omega) (by omega) (by omega) (by omega) (by omega) (by omega)) (fun k _ => by rw [er 150 (by omega) (by omega) (by omega) (by omega) (by omega) (by omega)]) ⟨fun a ha => ?_, fun k _ => ?_, fun k _ => ?_⟩ ⟨?_, ?_, ?_⟩⟩
  · rw [f3 0 (by omega) (by omega) (by omega), d4 0 (by omega), zu_ne _ _ _ _ (by omega), hI 0 (by omega) (by omega) (by omega)]
  · rw [er 11 (by omega) (by omega) (by omega) (by omega) (by omega) (by omega)]; exact ⟨rfl, rfl⟩
  · rw [f4 k (by omega), d1.2 k hk, zu_row _ _ _ _ (by omega), hI 145 (by omega) (by omega) (by omega)]
  · rw [zu_row _ _ _ _ (by omega), zu_row _ _ _ _ (by omega), zu_row _ _ _ _ (by omega), zu_row _ _ _ _ (by omega), hJ a (by omega)]
  · rw [zu_row _ _ _ _ (by omega), zu_row _ _ _ _ (by omega), zu_row _ _ _ _ (by omega), zu_row _ _ _ _ (by omega), hJ _ (by omega)]
  · rw [zu_row _ _ _ _ (by omega), zu_row _ _ _ _ (by omega), zu_row _ _ _ _ (by omega), zu_row _ _ _ _ (by omega), hJ _ (by omega)]
  · rw [f4 0 (by omega), d2, f3 0 (by omega) (by omega) (by omega), d4 0 (by omega), zu_same]
  · rw [zu_ne _ _ _ _ (by omega), zu_same, zu_row _ _ _ _ (by omega), zu_row _ _ _ _ (by omega), zu_ne _ _ _ _ (by omega), zu_same]
  · rw [zu_same, zu_row _ _ _ _ (by omega), zu_row _ _ _ _ (by omega), zu_same]
theorem s_sum_B {X : Nat → Int32} {bb : Nat → Bool} {B : Nat} : ∀ m, (∀ p, p < m → ∃ v, v ≤ B ∧ X p = nI v) → ∃ V, V ≤ m * B ∧ s_sum bb X m = nI V := by
  intro m
  induction m with
  | zero => intro _; exact ⟨0, by omega, rfl⟩
  | succ m ih =>
    intro h
    obtain ⟨V, h1, h2⟩ := ih (fun p hp => h p (by omega))
    obtain ⟨v, h3, h4⟩ := h m (by omega)
    rw [s_sum]
    split
    · exact ⟨V + v, by rw [Nat.succ_mul]; omega, by rw [h2, h4, nI_add]⟩
    · exact ⟨V, by rw [Nat.succ_mul]; omega, h2⟩
theorem t_Tf_share_o (Z : clOk f d P S) (N : fenIn I f nt np nl nn) (h : ¬ zin a np) : zEi G y_Tf_share prog_1_method_47_code 3 (some .boolean) 3 [.ref 0, .int a] (I, J, P, S) (fun r w => r = nI 0 ∧ cW I J P S 2 w) := by
  obtain ⟨⟨c0, c3, c1s⟩, ⟨c5, c2s, ctr⟩, ⟨c6, c11s, c11, c13s⟩, ⟨c7, c15s, c15⟩, ⟨c8, c16s, c16a, c16b, c17s⟩, ⟨c9, c10, cfd, F, Fd⟩, ⟨c11b, Ft⟩, ⟨c12, c69s, cmk⟩, ⟨c14, c121s, c121, c122s⟩, ⟨c15b, c123s, c123, c124s⟩, ⟨c16, c125s, c125, c126s⟩, ⟨c17, c127s, c127, c128s, ctb⟩, ⟨c18, c139s, c139, c140s⟩, ⟨c19, c141s, ⟨c141a, c142s⟩, ⟨c141b, c143s⟩, ⟨c141c, c144s⟩⟩, M⟩ := id Z
  refine zEi_of (lv := [some (.ref 0), some (.int a), none]) (by decide) rfl (Nat.le_of_ble_eq_true rfl) ?_
  refine z_aload_0 d_Tf_share_0 ?_
  refine z_iload_1 d_Tf_share_1 ?_
  refine z_Vi1 d_Tf_share_2 k_Tf_234 (by first | assumption | exact zS0_at (by assumption) (by omega) | exact zS0_at rfl (by omega)) (t_Tf_noPerson Z N) ⟨Nat.le_of_ble_eq_true rfl, Nat.le_of_ble_eq_true rfl, Nat.le_of_ble_eq_true rfl, Nat.le_of_ble_eq_true rfl⟩ (Nat.le_of_ble_eq_true rfl) ?_
  intro r w hq
  rcases hq with ⟨⟨hz2, rfl⟩ | ⟨hz2, rfl⟩, rfl⟩
  · first
    | contradiction
    | ( skip
        refine z_if_eq (tgt := 14) d_Tf_share_5 (by decide) (fun h => absurd h (by decide)) (fun _ => ?_)
        refine z_aload_0 d_Tf_share_8 ?_
        refine z_iconst (a := nI 2) d_Tf_share_9 (by decide) ?_
        refine z_Vi1 d_Tf_share_10 k_Tf_119 (by first | assumption | exact zS0_at (by assumption) (by omega) | exact zS0_at rfl (by omega)) (t_Tf_refuse (by assumption)) ⟨Nat.le_of_ble_eq_true rfl, Nat.le_of_ble_eq_true rfl, Nat.le_of_ble_eq_true rfl, Nat.le_of_ble_eq_true rfl⟩ (Nat.le_of_ble_eq_true rfl) ?_
        intro r w hq
        obtain ⟨rfl, rfl⟩ := hq
        refine z_retz d_Tf_share_13 (by first | exact zb0 | exact zb1 | assumption) ?_
        exact ⟨rfl, cW_0⟩)
  · first
    | contradiction
    | ( skip
        refine z_if_eq (tgt := 14) d_Tf_share_5 (by decide) (fun _ => ?_) (fun h => absurd h (by decide))
        contradiction)
theorem t_Tf_share_0 {p : Nat} (Z : clOk f d P S) (N : fenIn I f nt np nl nn) (hp : p < np) (h0 : s_sum (fun t => zB (s_set (fun t => decide (I (f + 6) t = -1)) nn ^^^ -1) t) (fun t => I (f + 1) (I (f + 5) t).toNatClampNeg) nn = nI 0) : zEi G y_Tf_share prog_1_method_47_code 3 (some .boolean) 3 [.ref 0, .int (nI p)] (I, J, P, S) (fun r w => r = nI 0 ∧ cW I J P S 8 w) := by
  obtain ⟨⟨c0, c3, c1s⟩, ⟨c5, c2s, ctr⟩, ⟨c6, c11s, c11, c13s⟩, ⟨c7, c15s, c15⟩, ⟨c8, c16s, c16a, c16b, c17s⟩, ⟨c9, c10, cfd, F, Fd⟩, ⟨c11b, Ft⟩, ⟨c12, c69s, cmk⟩, ⟨c14, c121s, c121, c122s⟩, ⟨c15b, c123s, c123, c124s⟩, ⟨c16, c125s, c125, c126s⟩, ⟨c17, c127s, c127, c128s, ctb⟩, ⟨c18, c139s, c139, c140s⟩, ⟨c19, c141s, ⟨c141a, c142s⟩, ⟨c141b, c143s⟩, ⟨c141c, c144s⟩⟩, M⟩ := id Z
  obtain ⟨F0, ⟨F8, F8s⟩, ⟨F9, F9s⟩, ⟨F10, F10s⟩, ⟨F11, F11s⟩, ⟨F12, F12s⟩, ⟨F13, F13s⟩, ⟨F14, F14s⟩, ⟨F15, F15s⟩, ⟨F16, F16s⟩, ⟨F17, F17s⟩, ⟨F18, F18s⟩, ⟨F19, F19s⟩, ⟨Y3, Y3s⟩, ⟨Y4, Y4s⟩, ⟨Y5, Y5s⟩, ⟨Y6, Y6s⟩⟩ := id F
  have hz : zin (nI p) np := ⟨p, hp, rfl⟩
  refine zEi_of (lv := [some (.ref 0), some (.int (nI p)), none]) (by decide) rfl (Nat.le_of_ble_eq_true rfl) ?_
  refine z_aload_0 d_Tf_share_0 ?_
  refine z_iload_1 d_Tf_share_1 ?_
  refine z_Vi1 d_Tf_share_2 k_Tf_234 (by first | assumption | exact zS0_at (by assumption) (by omega) | exact zS0_at rfl (by omega)) (t_Tf_noPerson Z N) ⟨Nat.le_of_ble_eq_true rfl, Nat.le_of_ble_eq_true rfl, Nat.le_of_ble_eq_true rfl, Nat.le_of_ble_eq_true rfl⟩ (Nat.le_of_ble_eq_true rfl) ?_
  intro r w hq
  rcases hq with ⟨⟨hz2, rfl⟩ | ⟨hz2, rfl⟩, rfl⟩
  · first
    | contradiction
    | ( skip
        refine z_if_eq (tgt := 14) d_Tf_share_5 (by decide) (fun h => absurd h (by decide)) (fun _ => ?_)
        refine z_aload_0 d_Tf_share_8 ?_
        refine z_iconst (a := nI 2) d_Tf_share_9 (by decide) ?_
        refine z_Vi1 d_Tf_share_10 k_Tf_119 (by first | assumption | exact zS0_at (by assumption) (by omega) | exact zS0_at rfl (by omega)) (t_Tf_refuse (by assumption)) ⟨Nat.le_of_ble_eq_true rfl, Nat.le_of_ble_eq_true rfl, Nat.le_of_ble_eq_true rfl, Nat.le_of_ble_eq_true rfl⟩ (Nat.le_of_ble_eq_true rfl) ?_
        intro r w hq
        obtain ⟨rfl, rfl⟩ := hq
        refine z_retz d_Tf_share_13 (by first | exact zb0 | exact zb1 | assumption) ?_
        exact ⟨rfl, cW_0⟩)
  · first
    | contradiction
    | ( skip
        refine z_if_eq (tgt := 14) d_Tf_share_5 (by decide) (fun _ => ?_) (fun h => absurd h (by decide))
        refine z_aload_0 d_Tf_share_14 ?_
        refine z_getR d_Tf_share_15 f_Tf_60 (by first | assumption | exact zS0_at (by assumption) (by omega) | exact zS0_at rfl (by omega)) (by first | assumption | exact zS0_at (by assumption) (by omega) | exact zS0_at rfl (by omega)) ?_
        refine z_Vi0 d_Tf_share_18 k_Tf_223 (by first | assumption | exact zS0_at (by assumption) (by omega) | exact zS0_at rfl (by omega)) (t_Fen_worthOfAll F N) ⟨Nat.le_of_ble_eq_true rfl, Nat.le_of_ble_eq_true rfl, Nat.le_of_ble_eq_true rfl, Nat.le_of_ble_eq_true rfl⟩ (Nat.le_of_ble_eq_true rfl) ?_
        intro r w hq
        obtain ⟨rfl, rfl⟩ := hq
        rw [h0]
        first | refine z_istore_2 d_Tf_share_21 rfl ?_ | (refine z_forget_1 ?_; refine z_istore_2 d_Tf_share_21 rfl ?_)
        refine z_iload_2 d_Tf_share_22 ?_
        refine z_if_ne (tgt := 33) d_Tf_share_23 (by decide) (fun h23 => ?_) (fun h23 => ?_)
        · first
          | (simp (disch := omega) only [← nI_0, nI_leI, nI_ltI, nI_eq, not_true_eq_false, not_false_eq_true] at h23; done)
          | (simp (disch := omega) only [← nI_0, nI_leI, nI_ltI, nI_eq, not_true_eq_false, not_false_eq_true] at h23; omega)
          | contradiction
          | exact absurd h23 (Int32.not_lt.mpr (by assumption))
          | exact absurd h23 (Int32.not_le.mpr (by assumption))
          | exact absurd h23 (by decide)
          | exact absurd (by decide) h23
          | ( try simp (disch := omega) only [← nI_0, nI_leI, nI_ltI, nI_eq, not_true_eq_false, not_false_eq_true] at h23
              (try have h23b := zbit_n0.mp h23); (try have h23b := zbit_p0.mp h23)
              fail)
        · first
          | (simp (disch := omega) only [← nI_0, nI_leI, nI_ltI, nI_eq, not_true_eq_false, not_false_eq_true] at h23; done)
          | (simp (disch := omega) only [← nI_0, nI_leI, nI_ltI, nI_eq, not_true_eq_false, not_false_eq_true] at h23; omega)
          | contradiction
          | exact absurd h23 (Int32.not_lt.mpr (by assumption))
          | exact absurd h23 (Int32.not_le.mpr (by assumption))
          | exact absurd h23 (by decide)
          | exact absurd (by decide) h23
          | ( try simp (disch := omega) only [← nI_0, nI_leI, nI_ltI, nI_eq, not_true_eq_false, not_false_eq_true] at h23
              (try have h23b := zbit_n0.mp h23); (try have h23b := zbit_p0.mp h23)
              refine z_aload_0 d_Tf_share_26 ?_
              refine z_bipush (a := nI 8) d_Tf_share_27 (by decide) ?_
              refine z_Vi1 d_Tf_share_29 k_Tf_119 (by first | assumption | exact zS0_at (by assumption) (by omega) | exact zS0_at rfl (by omega)) (t_Tf_refuse (by assumption)) ⟨Nat.le_of_ble_eq_true rfl, Nat.le_of_ble_eq_true rfl, Nat.le_of_ble_eq_true rfl, Nat.le_of_ble_eq_true rfl⟩ (Nat.le_of_ble_eq_true rfl) ?_
              intro r w hq
              obtain ⟨rfl, rfl⟩ := hq
              refine z_retz d_Tf_share_32 (by first | exact zb0 | exact zb1 | assumption) ?_
              exact ⟨rfl, cW_0⟩))
theorem t_Tf_share {p u v : Nat} (Z : clOk f d P S) (N : fenIn I f nt np nl nn) (hp : p < np) (h0 : s_sum (fun t => zB (s_set (fun t => decide (I (f + 6) t = -1)) nn ^^^ -1) t) (fun t => I (f + 1) (I (f + 5) t).toNatClampNeg) nn = nI u) (h1 : s_sum (fun t => zB (s_set (fun t => decide (I (f + 6) t = nI p)) nn) t) (fun t => I (f + 1) (I (f + 5) t).toNatClampNeg) nn = nI v) (hu : 0 < u) (hu2 : u ≤ 10000) (hv : v ≤ 10000) : zEi G y_Tf_share prog_1_method_47_code 3 (some .boolean) 3 [.ref 0, .int (nI p)] (I, J, P, S) (fun r w => r = nI 1 ∧ w = (zu I 0 0 (nI 0), zu (zu J 0 1 (lN (v / Nat.gcd v u))) 0 2 (lN (u / Nat.gcd v u)), P, S)) := by
  obtain ⟨⟨c0, c3, c1s⟩, ⟨c5, c2s, ctr⟩, ⟨c6, c11s, c11, c13s⟩, ⟨c7, c15s, c15⟩, ⟨c8, c16s, c16a, c16b, c17s⟩, ⟨c9, c10, cfd, F, Fd⟩, ⟨c11b, Ft⟩, ⟨c12, c69s, cmk⟩, ⟨c14, c121s, c121, c122s⟩, ⟨c15b, c123s, c123, c124s⟩, ⟨c16, c125s, c125, c126s⟩, ⟨c17, c127s, c127, c128s, ctb⟩, ⟨c18, c139s, c139, c140s⟩, ⟨c19, c141s, ⟨c141a, c142s⟩, ⟨c141b, c143s⟩, ⟨c141c, c144s⟩⟩, M⟩ := id Z
  obtain ⟨F0, ⟨F8, F8s⟩, ⟨F9, F9s⟩, ⟨F10, F10s⟩, ⟨F11, F11s⟩, ⟨F12, F12s⟩, ⟨F13, F13s⟩, ⟨F14, F14s⟩, ⟨F15, F15s⟩, ⟨F16, F16s⟩, ⟨F17, F17s⟩, ⟨F18, F18s⟩, ⟨F19, F19s⟩, ⟨Y3, Y3s⟩, ⟨Y4, Y4s⟩, ⟨Y5, Y5s⟩, ⟨Y6, Y6s⟩⟩ := id F
  have hz : zin (nI p) np := ⟨p, hp, rfl⟩
  have hn : ¬ nI u = 0 := nI_ne0 hu (by omega)
  have e1 : (nI v).toInt64 = lN v := nI_l (by omega)
  have e2 : (nI u).toInt64 = lN u := nI_l (by omega)
  refine zEi_of (lv := [some (.ref 0), some (.int (nI p)), none]) (by decide) rfl (Nat.le_of_ble_eq_true rfl) ?_
  refine z_aload_0 d_Tf_share_0 ?_
  refine z_iload_1 d_Tf_share_1 ?_
  refine z_Vi1 d_Tf_share_2 k_Tf_234 (by first | assumption | exact zS0_at (by assumption) (by omega) | exact zS0_at rfl (by omega)) (t_Tf_noPerson Z N) ⟨Nat.le_of_ble_eq_true rfl, Nat.le_of_ble_eq_true rfl, Nat.le_of_ble_eq_true rfl, Nat.le_of_ble_eq_true rfl⟩ (Nat.le_of_ble_eq_true rfl) ?_
  intro r w hq
  rcases hq with ⟨⟨hz1, rfl⟩ | ⟨hz1, rfl⟩, rfl⟩
  · exact absurd hz hz1
  refine z_if_eq (tgt := 14) d_Tf_share_5 (by decide) (fun _ => ?_) (fun h => absurd (by decide) h)
  refine z_aload_0 d_Tf_share_14 ?_
  refine z_getR d_Tf_share_15 f_Tf_60 (by first | assumption | exact zS0_at (by assumption) (by omega) | exact zS0_at rfl (by omega)) (by first | assumption | exact zS0_at (by assumption) (by omega) | exact zS0_at rfl (by omega)) ?_
  refine z_Vi0 d_Tf_share_18 k_Tf_223 (by first | assumption | exact zS0_at (by assumption) (by omega) | exact zS0_at rfl (by omega)) (t_Fen_worthOfAll F N) ⟨Nat.le_of_ble_eq_true rfl, Nat.le_of_ble_eq_true rfl, Nat.le_of_ble_eq_true rfl, Nat.le_of_ble_eq_true rfl⟩ (Nat.le_of_ble_eq_true rfl) ?_
  intro r w hq
  obtain ⟨rfl, rfl⟩ := hq
  rw [h0]
  first | refine z_istore_2 d_Tf_share_21 rfl ?_ | (refine z_forget_1 ?_; refine z_istore_2 d_Tf_share_21 rfl ?_)
  refine z_iload_2 d_Tf_share_22 ?_
  refine z_if_ne (tgt := 33) d_Tf_share_23 (by decide) (fun _ => ?_) (fun h => absurd h hn)
  refine z_aload_0 d_Tf_share_33 ?_
  refine z_aload_0 d_Tf_share_34 ?_
  refine z_getR d_Tf_share_35 f_Tf_60 (by first | assumption | exact zS0_at (by assumption) (by omega) | exact zS0_at rfl (by omega)) (by first | assumption | exact zS0_at (by assumption) (by omega) | exact zS0_at rfl (by omega)) ?_
  refine z_aload_0 d_Tf_share_38 ?_
  refine z_getR d_Tf_share_39 f_Tf_60 (by first | assumption | exact zS0_at (by assumption) (by omega) | exact zS0_at rfl (by omega)) (by first | assumption | exact zS0_at (by assumption) (by omega) | exact zS0_at rfl (by omega)) ?_
  refine z_iload_1 d_Tf_share_42 ?_
  refine z_Vi1 d_Tf_share_43 k_Tf_214 (by first | assumption | exact zS0_at (by assumption) (by omega) | exact zS0_at rfl (by omega)) (t_Fen_wornBy F N) ⟨Nat.le_of_ble_eq_true rfl, Nat.le_of_ble_eq_true rfl, Nat.le_of_ble_eq_true rfl, Nat.le_of_ble_eq_true rfl⟩ (Nat.le_of_ble_eq_true rfl) ?_
  intro r w hq
  obtain ⟨rfl, rfl⟩ := hq
  refine z_Vi1 d_Tf_share_46 k_Tf_246 (by first | assumption | exact zS0_at (by assumption) (by omega) | exact zS0_at rfl (by omega)) (t_Fen_worthOf F N) ⟨Nat.le_of_ble_eq_true rfl, Nat.le_of_ble_eq_true rfl, Nat.le_of_ble_eq_true rfl, Nat.le_of_ble_eq_true rfl⟩ (Nat.le_of_ble_eq_true rfl) ?_
  intro r w hq
  obtain ⟨rfl, rfl⟩ := hq
  rw [h1]
  refine z_i2l d_Tf_share_49 ?_
  refine z_iload_2 d_Tf_share_50 ?_
  refine z_i2l d_Tf_share_51 ?_
  rw [e1, e2]
  refine z_Vi2 d_Tf_share_52 k_Tf_384 (by first | assumption | exact zS0_at (by assumption) (by omega) | exact zS0_at rfl (by omega)) (t_Tf_tell c0 (by omega) (by omega) hu) ⟨Nat.le_of_ble_eq_true rfl, Nat.le_of_ble_eq_true rfl, Nat.le_of_ble_eq_true rfl, Nat.le_of_ble_eq_true rfl⟩ (Nat.le_of_ble_eq_true rfl) ?_
  intro r w hq
  obtain ⟨rfl, rfl⟩ := hq
  refine z_retz d_Tf_share_55 (by first | exact zb0 | exact zb1 | assumption) ?_
  exact ⟨rfl, rfl⟩
theorem t_Mo_share_o (M : modOk P S) (N : modIn I nt np nl nn) (h : ¬ zin a np) : zEi G y_Mo_share prog_14_method_139_code 3 (some .boolean) 4 [.ref 145, .int a] (I, J, P, S) (fun r w => r = nI 0 ∧ mW I J P S 2 w) := by
  obtain ⟨M0, ⟨M4, M4s⟩, ⟨M5, M5s⟩, ⟨M6, M6s⟩, ⟨M7, M7s⟩, ⟨M20, M20s⟩, ⟨M21, M21s⟩, ⟨M22, M22s⟩, ⟨M26, M26s⟩, ⟨M27, M27s⟩, ⟨M28, M28s⟩, ⟨M30, M30s⟩, ⟨M34, M34s⟩, ⟨M36, M36s⟩, ⟨M37, M37s⟩⟩ := id M
  obtain ⟨I1, hI1, N1, h1, h0, e150, er, ek⟩ := mo_beg N
  refine zEi_of (lv := [some (.ref 145), some (.int a), none]) (by decide) rfl (Nat.le_of_ble_eq_true rfl) ?_
  refine z_aload_0 d_Mo_share_0 ?_
  refine z_iconst (a := nI 0) d_Mo_share_1 (by decide) ?_
  refine z_putI d_Mo_share_2 f_Mo_70 (by first | assumption | exact zS0_at (by assumption) (by omega) | exact zS0_at rfl (by omega)) ?_
  refine z_aload_0 d_Mo_share_5 ?_
  refine z_iconst (a := nI 0) d_Mo_share_6 (by decide) ?_
  refine z_putI d_Mo_share_7 f_Mo_73 (by first | assumption | exact zS0_at (by assumption) (by omega) | exact zS0_at rfl (by omega)) ?_
  rw [← hI1]
  refine z_aload_0 d_Mo_share_10 ?_
  refine z_iload_1 d_Mo_share_11 ?_
  refine z_i2l d_Mo_share_12 ?_
  refine z_Vi1 d_Mo_share_13 k_Mo_336 (by first | assumption | exact zS0_at (by assumption) (by omega) | exact zS0_at rfl (by omega)) (t_Mo_isPersonAtI M N1) ⟨Nat.le_of_ble_eq_true rfl, Nat.le_of_ble_eq_true rfl, Nat.le_of_ble_eq_true rfl, Nat.le_of_ble_eq_true rfl⟩ (Nat.le_of_ble_eq_true rfl) ?_
  intro r w hq
  rcases hq with ⟨⟨hz13, rfl⟩ | ⟨hz13, rfl⟩, rfl⟩
  · first
    | contradiction
    | ( skip
        refine z_if_ne (tgt := 25) d_Mo_share_16 (by decide) (fun _ => ?_) (fun h => absurd h (by decide))
        contradiction)
  · first
    | contradiction
    | ( skip
        refine z_if_ne (tgt := 25) d_Mo_share_16 (by decide) (fun h => absurd h (by decide)) (fun _ => ?_)
        refine z_aload_0 d_Mo_share_19 ?_
        refine z_iconst (a := nI 2) d_Mo_share_20 (by decide) ?_
        refine z_Vi1 d_Mo_share_21 k_Mo_85 (by first | assumption | exact zS0_at (by assumption) (by omega) | exact zS0_at rfl (by omega)) (t_Mo_no (by assumption)) ⟨Nat.le_of_ble_eq_true rfl, Nat.le_of_ble_eq_true rfl, Nat.le_of_ble_eq_true rfl, Nat.le_of_ble_eq_true rfl⟩ (Nat.le_of_ble_eq_true rfl) ?_
        intro r w hq
        obtain ⟨rfl, rfl⟩ := hq
        refine z_retz d_Mo_share_24 (by first | exact zb0 | exact zb1 | assumption) ?_
        exact ⟨rfl, _, _, rfl, mqF_z h1 (by decide), mqJ_r, zu_same _ _ _ _⟩)
def mAll (I : Nat → Nat → Int32) (nn : Nat) : Int32 := s_sum (zB (nI (2 ^ nn - 1) &&& (s_set (fun t => decide (I 150 (42 + t) < 0)) nn ^^^ -1))) (fun t => I 150 (6 + (I 150 (33 + t)).toNatClampNeg)) nn
theorem t_Mo_share_0 {p : Nat} (M : modOk P S) (N : modIn I nt np nl nn) (hp : p < np) (h8 : mAll I nn = nI 0) : zEi G y_Mo_share prog_14_method_139_code 3 (some .boolean) 4 [.ref 145, .int (nI p)] (I, J, P, S) (fun r w => r = nI 0 ∧ mW I J P S 8 w) := by
  obtain ⟨M0, ⟨M4, M4s⟩, ⟨M5, M5s⟩, ⟨M6, M6s⟩, ⟨M7, M7s⟩, ⟨M20, M20s⟩, ⟨M21, M21s⟩, ⟨M22, M22s⟩, ⟨M26, M26s⟩, ⟨M27, M27s⟩, ⟨M28, M28s⟩, ⟨M30, M30s⟩, ⟨M34, M34s⟩, ⟨M36, M36s⟩, ⟨M37, M37s⟩⟩ := id M
  obtain ⟨I1, hI1, N1, h1, h0, e150, er, ek⟩ := mo_beg N
  have hz : zin (nI p) np := ⟨p, hp, rfl⟩
  have h8' : mAll I1 nn = nI 0 := by unfold mAll at h8 ⊢; rw [e150]; exact h8
  unfold mAll at h8'
  refine zEi_of (lv := [some (.ref 145), some (.int (nI p)), none]) (by decide) rfl (Nat.le_of_ble_eq_true rfl) ?_
  refine z_aload_0 d_Mo_share_0 ?_
  refine z_iconst (a := nI 0) d_Mo_share_1 (by decide) ?_
  refine z_putI d_Mo_share_2 f_Mo_70 (by first | assumption | exact zS0_at (by assumption) (by omega) | exact zS0_at rfl (by omega)) ?_
  refine z_aload_0 d_Mo_share_5 ?_
  refine z_iconst (a := nI 0) d_Mo_share_6 (by decide) ?_
  refine z_putI d_Mo_share_7 f_Mo_73 (by first | assumption | exact zS0_at (by assumption) (by omega) | exact zS0_at rfl (by omega)) ?_
  rw [← hI1]
  refine z_aload_0 d_Mo_share_10 ?_
  refine z_iload_1 d_Mo_share_11 ?_
  refine z_i2l d_Mo_share_12 ?_
  refine z_Vi1 d_Mo_share_13 k_Mo_336 (by first | assumption | exact zS0_at (by assumption) (by omega) | exact zS0_at rfl (by omega)) (t_Mo_isPersonAtI M N1) ⟨Nat.le_of_ble_eq_true rfl, Nat.le_of_ble_eq_true rfl, Nat.le_of_ble_eq_true rfl, Nat.le_of_ble_eq_true rfl⟩ (Nat.le_of_ble_eq_true rfl) ?_
  intro r w hq
  rcases hq with ⟨⟨hz13, rfl⟩ | ⟨hz13, rfl⟩, rfl⟩
  · first
    | contradiction
    | ( skip
        refine z_if_ne (tgt := 25) d_Mo_share_16 (by decide) (fun _ => ?_) (fun h => absurd h (by decide))
        refine z_aload_0 d_Mo_share_25 ?_
        refine z_Vi0 d_Mo_share_26 k_Mo_330 (by first | assumption | exact zS0_at (by assumption) (by omega) | exact zS0_at rfl (by omega)) (t_Mo_allThere M N1) ⟨Nat.le_of_ble_eq_true rfl, Nat.le_of_ble_eq_true rfl, Nat.le_of_ble_eq_true rfl, Nat.le_of_ble_eq_true rfl⟩ (Nat.le_of_ble_eq_true rfl) ?_
        intro r w hq
        obtain ⟨rfl, rfl⟩ := hq
        rw [h8']
        first | refine z_istore_2 d_Mo_share_29 rfl ?_ | (refine z_forget_1 ?_; refine z_istore_2 d_Mo_share_29 rfl ?_)
        refine z_iload_2 d_Mo_share_30 ?_
        refine z_if_ne (tgt := 43) d_Mo_share_31 (by decide) (fun h31 => ?_) (fun h31 => ?_)
        · first
          | (simp (disch := omega) only [← nI_0, nI_leI, nI_ltI, nI_eq, not_true_eq_false, not_false_eq_true] at h31; done)
          | (simp (disch := omega) only [← nI_0, nI_leI, nI_ltI, nI_eq, not_true_eq_false, not_false_eq_true] at h31; omega)
          | contradiction
          | exact absurd h31 (Int32.not_lt.mpr (by assumption))
          | exact absurd h31 (Int32.not_le.mpr (by assumption))
          | exact absurd h31 (by decide)
          | exact absurd (by decide) h31
          | ( try simp (disch := omega) only [← nI_0, nI_leI, nI_ltI, nI_eq, not_true_eq_false, not_false_eq_true] at h31
              (try have h31b := zbit_n0.mp h31); (try have h31b := zbit_p0.mp h31)
              fail)
        · first
          | (simp (disch := omega) only [← nI_0, nI_leI, nI_ltI, nI_eq, not_true_eq_false, not_false_eq_true] at h31; done)
          | (simp (disch := omega) only [← nI_0, nI_leI, nI_ltI, nI_eq, not_true_eq_false, not_false_eq_true] at h31; omega)
          | contradiction
          | exact absurd h31 (Int32.not_lt.mpr (by assumption))
          | exact absurd h31 (Int32.not_le.mpr (by assumption))
          | exact absurd h31 (by decide)
          | exact absurd (by decide) h31
          | ( try simp (disch := omega) only [← nI_0, nI_leI, nI_ltI, nI_eq, not_true_eq_false, not_false_eq_true] at h31
              (try have h31b := zbit_n0.mp h31); (try have h31b := zbit_p0.mp h31)
              refine z_aload_0 d_Mo_share_34 ?_
              refine z_bipush (a := nI 8) d_Mo_share_35 (by decide) ?_
              refine z_Vi1 d_Mo_share_37 k_Mo_85 (by first | assumption | exact zS0_at (by assumption) (by omega) | exact zS0_at rfl (by omega)) (t_Mo_no (by assumption)) ⟨Nat.le_of_ble_eq_true rfl, Nat.le_of_ble_eq_true rfl, Nat.le_of_ble_eq_true rfl, Nat.le_of_ble_eq_true rfl⟩ (Nat.le_of_ble_eq_true rfl) ?_
              intro r w hq
              obtain ⟨rfl, rfl⟩ := hq
              refine z_goto (tgt := 59) d_Mo_share_40 (by decide) ?_
              refine z_retz d_Mo_share_59 (by first | exact zb0 | exact zb1 | assumption) ?_
              exact ⟨rfl, _, _, rfl, mqF_z h1 (by decide), mqJ_r, zu_same _ _ _ _⟩))
  · first
    | contradiction
    | ( skip
        refine z_if_ne (tgt := 25) d_Mo_share_16 (by decide) (fun h => absurd h (by decide)) (fun _ => ?_)
        refine z_aload_0 d_Mo_share_19 ?_
        refine z_iconst (a := nI 2) d_Mo_share_20 (by decide) ?_
        refine z_Vi1 d_Mo_share_21 k_Mo_85 (by first | assumption | exact zS0_at (by assumption) (by omega) | exact zS0_at rfl (by omega)) (t_Mo_no (by assumption)) ⟨Nat.le_of_ble_eq_true rfl, Nat.le_of_ble_eq_true rfl, Nat.le_of_ble_eq_true rfl, Nat.le_of_ble_eq_true rfl⟩ (Nat.le_of_ble_eq_true rfl) ?_
        intro r w hq
        obtain ⟨rfl, rfl⟩ := hq
        refine z_retz d_Mo_share_24 (by first | exact zb0 | exact zb1 | assumption) ?_
        exact ⟨rfl, _, _, rfl, mqF_z h1 (by decide), mqJ_r, zu_same _ _ _ _⟩)
theorem t_Mo_share {p u v : Nat} (M : modOk P S) (N : modIn I nt np nl nn) (hp : p < np) (h8 : mAll I nn = nI u) (h9 : s_sum (zB (s_set (fun t => decide (I 150 (42 + t) = nI p)) nn)) (fun t => I 150 (6 + (I 150 (33 + t)).toNatClampNeg)) nn = nI v) (hu : 0 < u) (hu2 : u ≤ 10000) (hv : v ≤ 10000) : zEi G y_Mo_share prog_14_method_139_code 3 (some .boolean) 4 [.ref 145, .int (nI p)] (I, J, P, S) (fun r w => r = nI 1 ∧ ∃ I1, mD I I1 ∧ w = (I1, zu (zu J 145 2 (lN (v / Nat.gcd v u))) 145 3 (lN (u / Nat.gcd v u)), P, S)) := by
  obtain ⟨M0, ⟨M4, M4s⟩, ⟨M5, M5s⟩, ⟨M6, M6s⟩, ⟨M7, M7s⟩, ⟨M20, M20s⟩, ⟨M21, M21s⟩, ⟨M22, M22s⟩, ⟨M26, M26s⟩, ⟨M27, M27s⟩, ⟨M28, M28s⟩, ⟨M30, M30s⟩, ⟨M34, M34s⟩, ⟨M36, M36s⟩, ⟨M37, M37s⟩⟩ := id M
  obtain ⟨I1, hI1, N1, h1, h0, e150, er, ek⟩ := mo_beg N
  have hz : zin (nI p) np := ⟨p, hp, rfl⟩
  have h8' : mAll I1 nn = nI u := by unfold mAll at h8 ⊢; rw [e150]; exact h8
  unfold mAll at h8'
  have hn : ¬ nI u = 0 := nI_ne0 hu (by omega)
  have e1 : (nI v).toInt64 = lN v := nI_l (by omega)
  have e2 : (nI u).toInt64 = lN u := nI_l (by omega)
  refine zEi_of (lv := [some (.ref 145), some (.int (nI p)), none]) (by decide) rfl (Nat.le_of_ble_eq_true rfl) ?_
  refine z_aload_0 d_Mo_share_0 ?_
  refine z_iconst (a := nI 0) d_Mo_share_1 (by decide) ?_
  refine z_putI d_Mo_share_2 f_Mo_70 (by first | assumption | exact zS0_at (by assumption) (by omega) | exact zS0_at rfl (by omega)) ?_
  refine z_aload_0 d_Mo_share_5 ?_
  refine z_iconst (a := nI 0) d_Mo_share_6 (by decide) ?_
  refine z_putI d_Mo_share_7 f_Mo_73 (by first | assumption | exact zS0_at (by assumption) (by omega) | exact zS0_at rfl (by omega)) ?_
  rw [← hI1]
  refine z_aload_0 d_Mo_share_10 ?_
  refine z_iload_1 d_Mo_share_11 ?_
  refine z_i2l d_Mo_share_12 ?_
  refine z_Vi1 d_Mo_share_13 k_Mo_336 (by first | assumption | exact zS0_at (by assumption) (by omega) | exact zS0_at rfl (by omega)) (t_Mo_isPersonAtI M N1) ⟨Nat.le_of_ble_eq_true rfl, Nat.le_of_ble_eq_true rfl, Nat.le_of_ble_eq_true rfl, Nat.le_of_ble_eq_true rfl⟩ (Nat.le_of_ble_eq_true rfl) ?_
  intro r w hq
  rcases hq with ⟨⟨hz1, rfl⟩ | ⟨hz1, rfl⟩, rfl⟩
  rotate_left
  · exact absurd hz hz1
  refine z_if_ne (tgt := 25) d_Mo_share_16 (by decide) (fun _ => ?_) (fun h => absurd h (by decide))
  refine z_aload_0 d_Mo_share_25 ?_
  refine z_Vi0 d_Mo_share_26 k_Mo_330 (by first | assumption | exact zS0_at (by assumption) (by omega) | exact zS0_at rfl (by omega)) (t_Mo_allThere M N1) ⟨Nat.le_of_ble_eq_true rfl, Nat.le_of_ble_eq_true rfl, Nat.le_of_ble_eq_true rfl, Nat.le_of_ble_eq_true rfl⟩ (Nat.le_of_ble_eq_true rfl) ?_
  intro r w hq
  obtain ⟨rfl, rfl⟩ := hq
  rw [h8']
  first | refine z_istore_2 d_Mo_share_29 rfl ?_ | (refine z_forget_1 ?_; refine z_istore_2 d_Mo_share_29 rfl ?_)
  refine z_iload_2 d_Mo_share_30 ?_
  refine z_if_ne (tgt := 43) d_Mo_share_31 (by decide) (fun _ => ?_) (fun h => absurd h hn)
  refine z_aload_0 d_Mo_share_43 ?_
  refine z_aload_0 d_Mo_share_44 ?_
  refine z_aload_0 d_Mo_share_45 ?_
  refine z_iload_1 d_Mo_share_46 ?_
  refine z_Vi1 d_Mo_share_47 k_Mo_341 (by first | assumption | exact zS0_at (by assumption) (by omega) | exact zS0_at rfl (by omega)) (t_Mo_tinsOn M N1) ⟨Nat.le_of_ble_eq_true rfl, Nat.le_of_ble_eq_true rfl, Nat.le_of_ble_eq_true rfl, Nat.le_of_ble_eq_true rfl⟩ (Nat.le_of_ble_eq_true rfl) ?_
  intro r w hq
  obtain ⟨rfl, rfl⟩ := hq
  refine z_Vi1 d_Mo_share_50 k_Mo_322 (by first | assumption | exact zS0_at (by assumption) (by omega) | exact zS0_at rfl (by omega)) (t_Mo_worthAll M N1) ⟨Nat.le_of_ble_eq_true rfl, Nat.le_of_ble_eq_true rfl, Nat.le_of_ble_eq_true rfl, Nat.le_of_ble_eq_true rfl⟩ (Nat.le_of_ble_eq_true rfl) ?_
  intro r w hq
  obtain ⟨rfl, rfl⟩ := hq
  rw [e150, h9]
  refine z_i2l d_Mo_share_53 ?_
  refine z_iload_2 d_Mo_share_54 ?_
  refine z_i2l d_Mo_share_55 ?_
  rw [e1, e2]
  refine z_Vi2 d_Mo_share_56 k_Mo_456 (by first | assumption | exact zS0_at (by assumption) (by omega) | exact zS0_at rfl (by omega)) (t_Mo_fraction M (by omega) (by omega) hu) ⟨Nat.le_of_ble_eq_true rfl, Nat.le_of_ble_eq_true rfl, Nat.le_of_ble_eq_true rfl, Nat.le_of_ble_eq_true rfl⟩ (Nat.le_of_ble_eq_true rfl) ?_
  intro r w hq
  obtain ⟨rfl, rfl⟩ := hq
  refine z_retz d_Mo_share_59 (by first | exact zb0 | exact zb1 | assumption) ?_
  exact ⟨rfl, I1, ⟨h1, h0, e150, er⟩, rfl⟩
/-- behind a call that tells a FRACTION -/
theorem L_fr {x y : Int64} {I1 : Nat → Nat → Int32} (Z : clOk f d P S) (X : stR n f nt np nl nn fed mk I J) (hD : mD (zu I 0 0 (nI 0)) I1) (hI2 : ∀ a, ¬ (151 ≤ a ∧ a ≤ 158) → I2 a = I1 a) (hJ2 : ∀ a, a ≠ 158 → J2 a = zu (zu (zu (zu J 0 1 x) 0 2 y) 145 2 x) 145 3 y a) : zInv (n + 1) (I2, J2, P, S) := by
  obtain ⟨d1, d2, d3, d4⟩ := hD
  refine zInv_q Z X (fun a q1 q2 q3 q4 => ?_) (fun k hk => ?_) (fun k hk => ?_) (fun a q1 q2 q3 q4 => ?_) ⟨?_, ?_, ?_⟩
  · rw [hI2 a q4, d4 a q2, zu_row _ _ _ _ q1]
  · rw [hI2 0 (by omega), d4 0 (by omega), zu_ne _ _ _ _ (by omega)]
  · rw [hI2 145 (by omega), d1.2 k hk, zu_row _ _ _ _ (by omega)]
  · rw [hJ2 a q2, zu_row _ _ _ _ q4, zu_row _ _ _ _ q4, zu_row _ _ _ _ q3, zu_row _ _ _ _ q3]
  · rw [hI2 145 (by omega), d2, hI2 0 (by omega), d4 0 (by omega), zu_same]
  · rw [hJ2 145 (by omega), hJ2 0 (by omega), zu_ne _ _ _ _ (by omega), zu_same, zu_row _ _ _ _ (by omega), zu_row _ _ _ _ (by omega), zu_ne _ _ _ _ (by omega), zu_same]
  · rw [hJ2 145 (by omega), hJ2 0 (by omega), zu_same, zu_row _ _ _ _ (by omega), zu_row _ _ _ _ (by omega), zu_same]
theorem L_share (h : zInv n w) : zEi G y_Tf_share prog_1_method_47_code 3 (some .boolean) 3 [.ref 0, .int a] w (fun r w1 => w1.2.2.2 = w.2.2.2 ∧ zEi G y_Mo_share prog_14_method_139_code 3 (some .boolean) 4 [.ref 145, .int a] w1 (fun r' w2 => r' = r ∧ zInv (n + 1) w2)) := by
  obtain ⟨f, d, nt, np, nl, nn, fed, mk, I, J, P, S, rfl, Z, X⟩ := h
  have M := clOk_M Z
  have hf := clOk_f Z
  have N := stR_fen X
  have N0 := stR_mod X
  have fm := stR_fm X
  obtain ⟨⟨⟨a1, r1, b1⟩, ⟨a2, r2, b2⟩, ⟨a3, r3, b3⟩, ⟨a4, r4, b4⟩⟩, ⟨⟨o, ob, ao, ro⟩, r5⟩, fw, fp, ft, fz⟩ := id fm
  rcases zin_or a np (by omega) with ⟨-, h⟩ | ⟨p, hp, rfl⟩
  · exact L_q Z X (t_Tf_share_o Z N h) (fun I' J' e _ => ⟨_, rfl, t_Mo_share_o M (modIn_c N0 (e 150 (by decide))) h⟩)
  have hW : ∀ t, t < nn → ∃ v, v ≤ 99 ∧ (fun t => I (f + 1) (I (f + 5) t).toNatClampNeg) t = nI v := fun t ht => by
    obtain ⟨⟨k, hk, k1, k2⟩, -⟩ := ft t ht
    obtain ⟨v, v0, v1, v2⟩ := fw k hk
    have k1 : I (f + 5) t = nI k := k1
    refine ⟨v, v0, ?_⟩
    show I (f + 1) (I (f + 5) t).toNatClampNeg = nI v
    rw [k1, nI_clamp (by omega)]; exact v1
  obtain ⟨u, u1, u2⟩ := s_sum_B (bb := fun t => zB (s_set (fun t => decide (I (f + 6) t = -1)) nn ^^^ -1) t) nn hW
  obtain ⟨v, v1, v2⟩ := s_sum_B (bb := fun t => zB (s_set (fun t => decide (I (f + 6) t = nI p)) nn) t) nn hW
  have hB : nn * 99 ≤ 9 * 99 := Nat.mul_le_mul_right _ b4
  have eA : ∀ I' : Nat → Nat → Int32, I' 150 = I 150 → mAll I' nn = nI u := fun I' e => by
    unfold mAll
    rw [e, ← u2]
    exact worth_eq fw (fun t ht => (ft t ht).1) b1 (fun t ht => by rw [zB_and (by omega), zB_full ht b4, Bool.true_and, set_gone (fun t ht => (ft t ht).2.1) b2]; rfl)
  have eP : ∀ I' : Nat → Nat → Int32, I' 150 = I 150 → s_sum (zB (s_set (fun t => decide (I' 150 (42 + t) = nI p)) nn)) (fun t => I' 150 (6 + (I' 150 (33 + t)).toNatClampNeg)) nn = nI v := fun I' e => by
    rw [e, ← v2]
    exact worth_eq fw (fun t ht => (ft t ht).1) b1 (fun t ht => by rw [s_set_congr nn (fun t ht => by rw [(ft t ht).2.1.2])]; rfl)
  by_cases hu : u = 0
  · subst hu
    exact L_q Z X (t_Tf_share_0 Z N hp u2) (fun I' J' e _ => ⟨_, rfl, t_Mo_share_0 M (modIn_c N0 (e 150 (by decide))) hp (eA I' (e 150 (by decide)))⟩)
  refine zEi_mono (t_Tf_share Z N hp u2 v2 (by omega) (by omega) (by omega)) ?_
  rintro r w ⟨rfl, rfl⟩
  refine ⟨rfl, zEi_mono (t_Mo_share M (modIn_c N0 (zu_row _ _ _ _ (by decide))) hp (eA _ (zu_row _ _ _ _ (by decide))) (eP _ (zu_row _ _ _ _ (by decide))) (by omega) (by omega) (by omega)) ?_⟩
  rintro r w ⟨rfl, I1, hD, rfl⟩
  exact ⟨rfl, L_fr Z X hD (fun _ _ => rfl) (fun _ _ => rfl)⟩
end ME1
