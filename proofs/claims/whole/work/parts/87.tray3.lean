/-! trays, both sides: write, read, copyGot, pour -/
section TY2
variable {G : zG} {I I' I2 : Nat → Nat → Int32} {J J' J2 : Nat → Nat → Int64} {P : Nat → Nat → Option Nat} {S : List (Nat × Nat)} {f d nt np nl nn n fed fed' mk st t u l k p : Nat} {a b c a' b' : Int32} {x : Int64} {w : zW}
theorem mo_b1 (N : modIn I nt np nl nn) (st : Nat) : mqF I (zu (zu I 145 1 (nI 0)) 145 0 (nI st)) := mqF_z (mqF_z mqF_r (by decide)) (by decide)
/-- a call that changes nothing but STATUS and answers a long -/
theorem L_ql {y y' : MethodName} {cc cc' : ByteArray} {mL mL' dd dd' : Nat} {ret ret' : Option FieldType} {as as' : List Value} {x : Int64} (Z : clOk f d P S) (X : stR n f nt np nl nn fed mk I J) (hC : zEl G y cc mL ret dd as (I, J, P, S) (fun r w => r = x ∧ cW I J P S st w)) (hM : ∀ I' J', (∀ a, 145 ≤ a → I' a = I a) → (∀ a, 145 ≤ a → J' a = J a) → ∃ x', x' = x ∧ zEl G y' cc' mL' ret' dd' as' (I', J', P, S) (fun r w => r = x' ∧ mW I' J' P S st w)) : zEl G y cc mL ret dd as (I, J, P, S) (fun r w1 => w1.2.2.2 = S ∧ zEl G y' cc' mL' ret' dd' as' w1 (fun r' w2 => r' = r ∧ zInv (n + 1) w2)) := by
  refine zEl_mono hC ?_
  rintro r w ⟨rfl, I1, J1, rfl, h1, h2, h3⟩
  obtain ⟨x', hx, hM⟩ := hM I1 J1 (fun a ha => h1.1 a (by omega) (by omega)) (fun a ha => h2 a (by omega))
  refine ⟨rfl, zEl_mono hM ?_⟩
  rintro r' w ⟨rfl, I2, J2, rfl, g1, g2, g3⟩
  refine ⟨hx, zInv_q Z X (fun a q1 q2 q3 q4 => (g1.1 a q2 q4).trans (h1.1 a q1 q3)) (fun k hk => by rw [g1.1 0 (by omega) (by omega)]; exact h1.2 k hk) (fun k hk => by rw [g1.2 k hk, h1.1 145 (by omega) (by omega)]) (fun a q1 q2 _ _ => (g2 a q2).trans (h2 a q1)) ⟨?_, ?_, ?_⟩⟩
  · rw [g3, g1.1 0 (by omega) (by omega), h3]
  · rw [g2 145 (by omega), h2 145 (by omega), g2 0 (by omega), h2 0 (by omega)]; exact X.1.2.1
  · rw [g2 145 (by omega), h2 145 (by omega), g2 0 (by omega), h2 0 (by omega)]; exact X.1.2.2
theorem t_Tf_write_o (Z : clOk f d P S) (h : ¬ zin a 4) : zEi G y_Tf_write prog_1_method_6_code 6 (some .boolean) 4 [.ref 0, .int a, .int b, .long x] (I, J, P, S) (fun r w => r = nI 0 ∧ cW I J P S 1 w) := by
  obtain ⟨⟨c0, c3, c1s⟩, ⟨c5, c2s, ctr⟩, ⟨c6, c11s, c11, c13s⟩, ⟨c7, c15s, c15⟩, ⟨c8, c16s, c16a, c16b, c17s⟩, ⟨c9, c10, cfd, F, Fd⟩, ⟨c11b, Ft⟩, ⟨c12, c69s, cmk⟩, ⟨c14, c121s, c121, c122s⟩, ⟨c15b, c123s, c123, c124s⟩, ⟨c16, c125s, c125, c126s⟩, ⟨c17, c127s, c127, c128s, ctb⟩, ⟨c18, c139s, c139, c140s⟩, ⟨c19, c141s, ⟨c141a, c142s⟩, ⟨c141b, c143s⟩, ⟨c141c, c144s⟩⟩, M⟩ := id Z
  refine zEi_of (lv := [some (.ref 0), some (.int a), some (.int b), some (.long x), none, none]) (by decide) rfl (Nat.le_of_ble_eq_true rfl) ?_
  refine z_aload_0 d_Tf_write_0 ?_
  refine z_iload_1 d_Tf_write_1 ?_
  refine z_iload_2 d_Tf_write_2 ?_
  refine z_Vi2 d_Tf_write_3 k_Tf_130 (by first | assumption | exact zS0_at (by assumption) (by omega) | exact zS0_at rfl (by omega)) (t_Tf_placeStatus_o Z h) ⟨Nat.le_of_ble_eq_true rfl, Nat.le_of_ble_eq_true rfl, Nat.le_of_ble_eq_true rfl, Nat.le_of_ble_eq_true rfl⟩ (Nat.le_of_ble_eq_true rfl) ?_
  intro r w hq
  obtain ⟨rfl, rfl⟩ := hq
  first | refine z_istore_5 d_Tf_write_6 rfl ?_ | (refine z_forget_4 ?_; refine z_istore_5 d_Tf_write_6 rfl ?_)
  refine z_iload_5 d_Tf_write_8 ?_
  refine z_if_eq (tgt := 20) d_Tf_write_10 (by decide) (fun h10 => ?_) (fun h10 => ?_)
  · first
    | (simp (disch := omega) only [← nI_0, nI_leI, nI_ltI, nI_eq, not_true_eq_false, not_false_eq_true] at h10; done)
    | (simp (disch := omega) only [← nI_0, nI_leI, nI_ltI, nI_eq, not_true_eq_false, not_false_eq_true] at h10; omega)
    | contradiction
    | exact absurd h10 (Int32.not_lt.mpr (by assumption))
    | exact absurd h10 (Int32.not_le.mpr (by assumption))
    | exact absurd h10 (by decide)
    | exact absurd (by decide) h10
    | ( try simp (disch := omega) only [← nI_0, nI_leI, nI_ltI, nI_eq, not_true_eq_false, not_false_eq_true] at h10
        (try have h10b := zbit_n0.mp h10); (try have h10b := zbit_p0.mp h10)
        fail)
  · first
    | (simp (disch := omega) only [← nI_0, nI_leI, nI_ltI, nI_eq, not_true_eq_false, not_false_eq_true] at h10; done)
    | (simp (disch := omega) only [← nI_0, nI_leI, nI_ltI, nI_eq, not_true_eq_false, not_false_eq_true] at h10; omega)
    | contradiction
    | exact absurd h10 (Int32.not_lt.mpr (by assumption))
    | exact absurd h10 (Int32.not_le.mpr (by assumption))
    | exact absurd h10 (by decide)
    | exact absurd (by decide) h10
    | ( try simp (disch := omega) only [← nI_0, nI_leI, nI_ltI, nI_eq, not_true_eq_false, not_false_eq_true] at h10
        (try have h10b := zbit_n0.mp h10); (try have h10b := zbit_p0.mp h10)
        refine z_aload_0 d_Tf_write_13 ?_
        refine z_iload_5 d_Tf_write_14 ?_
        refine z_Vi1 d_Tf_write_16 k_Tf_119 (by first | assumption | exact zS0_at (by assumption) (by omega) | exact zS0_at rfl (by omega)) (t_Tf_refuse (by assumption)) ⟨Nat.le_of_ble_eq_true rfl, Nat.le_of_ble_eq_true rfl, Nat.le_of_ble_eq_true rfl, Nat.le_of_ble_eq_true rfl⟩ (Nat.le_of_ble_eq_true rfl) ?_
        intro r w hq
        obtain ⟨rfl, rfl⟩ := hq
        refine z_retz d_Tf_write_19 (by first | exact zb0 | exact zb1 | assumption) ?_
        exact ⟨rfl, cW_0⟩)
theorem t_Tf_write_m (Z : clOk f d P S) (ht : t < 4) (h0 : I (3 + 2 * t) 0 = nI 0) : zEi G y_Tf_write prog_1_method_6_code 6 (some .boolean) 4 [.ref 0, .int (nI t), .int b, .long x] (I, J, P, S) (fun r w => r = nI 0 ∧ cW I J P S 3 w) := by
  obtain ⟨⟨c0, c3, c1s⟩, ⟨c5, c2s, ctr⟩, ⟨c6, c11s, c11, c13s⟩, ⟨c7, c15s, c15⟩, ⟨c8, c16s, c16a, c16b, c17s⟩, ⟨c9, c10, cfd, F, Fd⟩, ⟨c11b, Ft⟩, ⟨c12, c69s, cmk⟩, ⟨c14, c121s, c121, c122s⟩, ⟨c15b, c123s, c123, c124s⟩, ⟨c16, c125s, c125, c126s⟩, ⟨c17, c127s, c127, c128s, ctb⟩, ⟨c18, c139s, c139, c140s⟩, ⟨c19, c141s, ⟨c141a, c142s⟩, ⟨c141b, c143s⟩, ⟨c141c, c144s⟩⟩, M⟩ := id Z
  refine zEi_of (lv := [some (.ref 0), some (.int (nI t)), some (.int b), some (.long x), none, none]) (by decide) rfl (Nat.le_of_ble_eq_true rfl) ?_
  refine z_aload_0 d_Tf_write_0 ?_
  refine z_iload_1 d_Tf_write_1 ?_
  refine z_iload_2 d_Tf_write_2 ?_
  refine z_Vi2 d_Tf_write_3 k_Tf_130 (by first | assumption | exact zS0_at (by assumption) (by omega) | exact zS0_at rfl (by omega)) (t_Tf_placeStatus_m Z ht h0) ⟨Nat.le_of_ble_eq_true rfl, Nat.le_of_ble_eq_true rfl, Nat.le_of_ble_eq_true rfl, Nat.le_of_ble_eq_true rfl⟩ (Nat.le_of_ble_eq_true rfl) ?_
  intro r w hq
  obtain ⟨rfl, rfl⟩ := hq
  first | refine z_istore_5 d_Tf_write_6 rfl ?_ | (refine z_forget_4 ?_; refine z_istore_5 d_Tf_write_6 rfl ?_)
  refine z_iload_5 d_Tf_write_8 ?_
  refine z_if_eq (tgt := 20) d_Tf_write_10 (by decide) (fun h10 => ?_) (fun h10 => ?_)
  · first
    | (simp (disch := omega) only [← nI_0, nI_leI, nI_ltI, nI_eq, not_true_eq_false, not_false_eq_true] at h10; done)
    | (simp (disch := omega) only [← nI_0, nI_leI, nI_ltI, nI_eq, not_true_eq_false, not_false_eq_true] at h10; omega)
    | contradiction
    | exact absurd h10 (Int32.not_lt.mpr (by assumption))
    | exact absurd h10 (Int32.not_le.mpr (by assumption))
    | exact absurd h10 (by decide)
    | exact absurd (by decide) h10
    | ( try simp (disch := omega) only [← nI_0, nI_leI, nI_ltI, nI_eq, not_true_eq_false, not_false_eq_true] at h10
        (try have h10b := zbit_n0.mp h10); (try have h10b := zbit_p0.mp h10)
        fail)
  · first
    | (simp (disch := omega) only [← nI_0, nI_leI, nI_ltI, nI_eq, not_true_eq_false, not_false_eq_true] at h10; done)
    | (simp (disch := omega) only [← nI_0, nI_leI, nI_ltI, nI_eq, not_true_eq_false, not_false_eq_true] at h10; omega)
    | contradiction
    | exact absurd h10 (Int32.not_lt.mpr (by assumption))
    | exact absurd h10 (Int32.not_le.mpr (by assumption))
    | exact absurd h10 (by decide)
    | exact absurd (by decide) h10
    | ( try simp (disch := omega) only [← nI_0, nI_leI, nI_ltI, nI_eq, not_true_eq_false, not_false_eq_true] at h10
        (try have h10b := zbit_n0.mp h10); (try have h10b := zbit_p0.mp h10)
        refine z_aload_0 d_Tf_write_13 ?_
        refine z_iload_5 d_Tf_write_14 ?_
        refine z_Vi1 d_Tf_write_16 k_Tf_119 (by first | assumption | exact zS0_at (by assumption) (by omega) | exact zS0_at rfl (by omega)) (t_Tf_refuse (by assumption)) ⟨Nat.le_of_ble_eq_true rfl, Nat.le_of_ble_eq_true rfl, Nat.le_of_ble_eq_true rfl, Nat.le_of_ble_eq_true rfl⟩ (Nat.le_of_ble_eq_true rfl) ?_
        intro r w hq
        obtain ⟨rfl, rfl⟩ := hq
        refine z_retz d_Tf_write_19 (by first | exact zb0 | exact zb1 | assumption) ?_
        exact ⟨rfl, cW_0⟩)
theorem t_Tf_write_x (Z : clOk f d P S) (ht : t < 4) (h0 : I (3 + 2 * t) 0 = nI 1) (hl : I (3 + 2 * t) 2 = nI l) (hl6 : l ≤ 60) (hb : ¬ zin b l) : zEi G y_Tf_write prog_1_method_6_code 6 (some .boolean) 4 [.ref 0, .int (nI t), .int b, .long x] (I, J, P, S) (fun r w => r = nI 0 ∧ cW I J P S 4 w) := by
  obtain ⟨⟨c0, c3, c1s⟩, ⟨c5, c2s, ctr⟩, ⟨c6, c11s, c11, c13s⟩, ⟨c7, c15s, c15⟩, ⟨c8, c16s, c16a, c16b, c17s⟩, ⟨c9, c10, cfd, F, Fd⟩, ⟨c11b, Ft⟩, ⟨c12, c69s, cmk⟩, ⟨c14, c121s, c121, c122s⟩, ⟨c15b, c123s, c123, c124s⟩, ⟨c16, c125s, c125, c126s⟩, ⟨c17, c127s, c127, c128s, ctb⟩, ⟨c18, c139s, c139, c140s⟩, ⟨c19, c141s, ⟨c141a, c142s⟩, ⟨c141b, c143s⟩, ⟨c141c, c144s⟩⟩, M⟩ := id Z
  refine zEi_of (lv := [some (.ref 0), some (.int (nI t)), some (.int b), some (.long x), none, none]) (by decide) rfl (Nat.le_of_ble_eq_true rfl) ?_
  refine z_aload_0 d_Tf_write_0 ?_
  refine z_iload_1 d_Tf_write_1 ?_
  refine z_iload_2 d_Tf_write_2 ?_
  refine z_Vi2 d_Tf_write_3 k_Tf_130 (by first | assumption | exact zS0_at (by assumption) (by omega) | exact zS0_at rfl (by omega)) (t_Tf_placeStatus_x Z ht h0 hl hl6 hb) ⟨Nat.le_of_ble_eq_true rfl, Nat.le_of_ble_eq_true rfl, Nat.le_of_ble_eq_true rfl, Nat.le_of_ble_eq_true rfl⟩ (Nat.le_of_ble_eq_true rfl) ?_
  intro r w hq
  obtain ⟨rfl, rfl⟩ := hq
  first | refine z_istore_5 d_Tf_write_6 rfl ?_ | (refine z_forget_4 ?_; refine z_istore_5 d_Tf_write_6 rfl ?_)
  refine z_iload_5 d_Tf_write_8 ?_
  refine z_if_eq (tgt := 20) d_Tf_write_10 (by decide) (fun h10 => ?_) (fun h10 => ?_)
  · first
    | (simp (disch := omega) only [← nI_0, nI_leI, nI_ltI, nI_eq, not_true_eq_false, not_false_eq_true] at h10; done)
    | (simp (disch := omega) only [← nI_0, nI_leI, nI_ltI, nI_eq, not_true_eq_false, not_false_eq_true] at h10; omega)
    | contradiction
    | exact absurd h10 (Int32.not_lt.mpr (by assumption))
    | exact absurd h10 (Int32.not_le.mpr (by assumption))
    | exact absurd h10 (by decide)
    | exact absurd (by decide) h10
    | ( try simp (disch := omega) only [← nI_0, nI_leI, nI_ltI, nI_eq, not_true_eq_false, not_false_eq_true] at h10
        (try have h10b := zbit_n0.mp h10); (try have h10b := zbit_p0.mp h10)
        fail)
  · first
    | (simp (disch := omega) only [← nI_0, nI_leI, nI_ltI, nI_eq, not_true_eq_false, not_false_eq_true] at h10; done)
    | (simp (disch := omega) only [← nI_0, nI_leI, nI_ltI, nI_eq, not_true_eq_false, not_false_eq_true] at h10; omega)
    | contradiction
    | exact absurd h10 (Int32.not_lt.mpr (by assumption))
    | exact absurd h10 (Int32.not_le.mpr (by assumption))
    | exact absurd h10 (by decide)
    | exact absurd (by decide) h10
    | ( try simp (disch := omega) only [← nI_0, nI_leI, nI_ltI, nI_eq, not_true_eq_false, not_false_eq_true] at h10
        (try have h10b := zbit_n0.mp h10); (try have h10b := zbit_p0.mp h10)
        refine z_aload_0 d_Tf_write_13 ?_
        refine z_iload_5 d_Tf_write_14 ?_
        refine z_Vi1 d_Tf_write_16 k_Tf_119 (by first | assumption | exact zS0_at (by assumption) (by omega) | exact zS0_at rfl (by omega)) (t_Tf_refuse (by assumption)) ⟨Nat.le_of_ble_eq_true rfl, Nat.le_of_ble_eq_true rfl, Nat.le_of_ble_eq_true rfl, Nat.le_of_ble_eq_true rfl⟩ (Nat.le_of_ble_eq_true rfl) ?_
        intro r w hq
        obtain ⟨rfl, rfl⟩ := hq
        refine z_retz d_Tf_write_19 (by first | exact zb0 | exact zb1 | assumption) ?_
        exact ⟨rfl, cW_0⟩)
theorem t_Tf_write (Z : clOk f d P S) (ht : t < 4) (h0 : I (3 + 2 * t) 0 = nI 1) (hl : I (3 + 2 * t) 2 = nI l) (hl6 : l ≤ 60) (hp : p < l) (hk : I (3 + 2 * t) 1 = nI k) (hk3 : k ≤ 3) : zEi G y_Tf_write prog_1_method_6_code 6 (some .boolean) 4 [.ref 0, .int (nI t), .int (nI p), .long x] (I, J, P, S) (fun r w => r = nI 1 ∧ w = (zu I 0 0 (nI 0), zu J (3 + 2 * t + 1) p (s_cut k x), P, S)) := by
  obtain ⟨⟨c0, c3, c1s⟩, ⟨c5, c2s, ctr⟩, ⟨c6, c11s, c11, c13s⟩, ⟨c7, c15s, c15⟩, ⟨c8, c16s, c16a, c16b, c17s⟩, ⟨c9, c10, cfd, F, Fd⟩, ⟨c11b, Ft⟩, ⟨c12, c69s, cmk⟩, ⟨c14, c121s, c121, c122s⟩, ⟨c15b, c123s, c123, c124s⟩, ⟨c16, c125s, c125, c126s⟩, ⟨c17, c127s, c127, c128s, ctb⟩, ⟨c18, c139s, c139, c140s⟩, ⟨c19, c141s, ⟨c141a, c142s⟩, ⟨c141b, c143s⟩, ⟨c141c, c144s⟩⟩, M⟩ := id Z
  obtain ⟨c2, T⟩ := ctr t ht
  obtain ⟨T0, T1, T2⟩ := id T
  refine zEi_of (lv := [some (.ref 0), some (.int (nI t)), some (.int (nI p)), some (.long x), none, none]) (by decide) rfl (Nat.le_of_ble_eq_true rfl) ?_
  refine z_aload_0 d_Tf_write_0 ?_
  refine z_iload_1 d_Tf_write_1 ?_
  refine z_iload_2 d_Tf_write_2 ?_
  refine z_Vi2 d_Tf_write_3 k_Tf_130 (by first | assumption | exact zS0_at (by assumption) (by omega) | exact zS0_at rfl (by omega)) (t_Tf_placeStatus_p Z ht h0 hl hl6 hp) ⟨Nat.le_of_ble_eq_true rfl, Nat.le_of_ble_eq_true rfl, Nat.le_of_ble_eq_true rfl, Nat.le_of_ble_eq_true rfl⟩ (Nat.le_of_ble_eq_true rfl) ?_
  intro r w hq
  obtain ⟨rfl, rfl⟩ := hq
  first | refine z_istore_5 d_Tf_write_6 rfl ?_ | (refine z_forget_4 ?_; refine z_istore_5 d_Tf_write_6 rfl ?_)
  refine z_iload_5 d_Tf_write_8 ?_
  refine z_if_eq (tgt := 20) d_Tf_write_10 (by decide) (fun h10 => ?_) (fun h10 => ?_)
  · first
    | (simp (disch := omega) only [← nI_0, nI_leI, nI_ltI, nI_eq, not_true_eq_false, not_false_eq_true] at h10; done)
    | (simp (disch := omega) only [← nI_0, nI_leI, nI_ltI, nI_eq, not_true_eq_false, not_false_eq_true] at h10; omega)
    | contradiction
    | exact absurd h10 (Int32.not_lt.mpr (by assumption))
    | exact absurd h10 (Int32.not_le.mpr (by assumption))
    | exact absurd h10 (by decide)
    | exact absurd (by decide) h10
    | ( try simp (disch := omega) only [← nI_0, nI_leI, nI_ltI, nI_eq, not_true_eq_false, not_false_eq_true] at h10
        (try have h10b := zbit_n0.mp h10); (try have h10b := zbit_p0.mp h10)
        refine z_aload_0 d_Tf_write_20 ?_
        refine z_getR d_Tf_write_21 f_Tf_29 (by first | assumption | exact zS0_at (by assumption) (by omega) | exact zS0_at rfl (by omega)) (by first | assumption | exact zS0_at (by assumption) (by omega) | exact zS0_at rfl (by omega)) ?_
        refine z_iload_1 d_Tf_write_24 ?_
        first | refine z_ald4N d_Tf_write_25 (by first | assumption | exact zS0_at (by assumption) (by omega) | exact zS0_at rfl (by omega)) (by omega) (by first | decide | omega) (by first | assumption | exact zS0_at (by assumption) (by omega) | exact zS0_at rfl (by omega)) ?_ | refine z_ald5N d_Tf_write_25 (by first | assumption | exact zS0_at (by assumption) (by omega) | exact zS0_at rfl (by omega)) (by omega) (by first | decide | omega) (by first | assumption | exact zS0_at (by assumption) (by omega) | exact zS0_at rfl (by omega)) ?_ | refine z_ald6N d_Tf_write_25 (by first | assumption | exact zS0_at (by assumption) (by omega) | exact zS0_at rfl (by omega)) (by omega) (by first | decide | omega) (by first | assumption | exact zS0_at (by assumption) (by omega) | exact zS0_at rfl (by omega)) ?_
        refine z_iload_2 d_Tf_write_26 ?_
        refine z_lload_3 d_Tf_write_27 ?_
        refine z_Vv2 d_Tf_write_28 k_Tf_134 (by first | assumption | exact zS0_at (by assumption) (by omega) | exact zS0_at rfl (by omega)) (t_Tray_put T hk hk3 (by omega)) ⟨Nat.le_of_ble_eq_true rfl, Nat.le_of_ble_eq_true rfl, Nat.le_of_ble_eq_true rfl, Nat.le_of_ble_eq_true rfl⟩ (Nat.le_of_ble_eq_true rfl) ?_
        intro w hq
        obtain rfl := hq
        refine z_aload_0 d_Tf_write_31 ?_
        refine z_Vi0 d_Tf_write_32 k_Tf_126 (by first | assumption | exact zS0_at (by assumption) (by omega) | exact zS0_at rfl (by omega)) (t_Tf_agree (by assumption)) ⟨Nat.le_of_ble_eq_true rfl, Nat.le_of_ble_eq_true rfl, Nat.le_of_ble_eq_true rfl, Nat.le_of_ble_eq_true rfl⟩ (Nat.le_of_ble_eq_true rfl) ?_
        intro r w hq
        obtain ⟨rfl, rfl⟩ := hq
        refine z_retz d_Tf_write_35 (by first | exact zb0 | exact zb1 | assumption) ?_
        exact ⟨rfl, rfl⟩)
  · first
    | (simp (disch := omega) only [← nI_0, nI_leI, nI_ltI, nI_eq, not_true_eq_false, not_false_eq_true] at h10; done)
    | (simp (disch := omega) only [← nI_0, nI_leI, nI_ltI, nI_eq, not_true_eq_false, not_false_eq_true] at h10; omega)
    | contradiction
    | exact absurd h10 (Int32.not_lt.mpr (by assumption))
    | exact absurd h10 (Int32.not_le.mpr (by assumption))
    | exact absurd h10 (by decide)
    | exact absurd (by decide) h10
    | ( try simp (disch := omega) only [← nI_0, nI_leI, nI_ltI, nI_eq, not_true_eq_false, not_false_eq_true] at h10
        (try have h10b := zbit_n0.mp h10); (try have h10b := zbit_p0.mp h10)
        refine z_aload_0 d_Tf_write_13 ?_
        refine z_iload_5 d_Tf_write_14 ?_
        refine z_Vi1 d_Tf_write_16 k_Tf_119 (by first | assumption | exact zS0_at (by assumption) (by omega) | exact zS0_at rfl (by omega)) (t_Tf_refuse (by assumption)) ⟨Nat.le_of_ble_eq_true rfl, Nat.le_of_ble_eq_true rfl, Nat.le_of_ble_eq_true rfl, Nat.le_of_ble_eq_true rfl⟩ (Nat.le_of_ble_eq_true rfl) ?_
        intro r w hq
        obtain ⟨rfl, rfl⟩ := hq
        refine z_retz d_Tf_write_19 (by first | exact zb0 | exact zb1 | assumption) ?_
        exact ⟨rfl, rfl⟩)
theorem t_Mo_write_o (M : modOk P S) (h : ¬ zin a 4) : zEi G y_Mo_write prog_14_method_14_code 5 (some .boolean) 3 [.ref 145, .int a, .int b, .long x] (I, J, P, S) (fun r w => r = nI 0 ∧ mW I J P S 1 w) := by
  obtain ⟨M0, ⟨M4, M4s⟩, ⟨M5, M5s⟩, ⟨M6, M6s⟩, ⟨M7, M7s⟩, ⟨M20, M20s⟩, ⟨M21, M21s⟩, ⟨M22, M22s⟩, ⟨M26, M26s⟩, ⟨M27, M27s⟩, ⟨M28, M28s⟩, ⟨M30, M30s⟩, ⟨M34, M34s⟩, ⟨M36, M36s⟩, ⟨M37, M37s⟩⟩ := id M
  refine zEi_of (lv := [some (.ref 145), some (.int a), some (.int b), some (.long x), none]) (by decide) rfl (Nat.le_of_ble_eq_true rfl) ?_
  refine z_aload_0 d_Mo_write_0 ?_
  refine z_iconst (a := nI 0) d_Mo_write_1 (by decide) ?_
  refine z_putI d_Mo_write_2 f_Mo_70 (by first | assumption | exact zS0_at (by assumption) (by omega) | exact zS0_at rfl (by omega)) ?_
  refine z_aload_0 d_Mo_write_5 ?_
  refine z_aload_0 d_Mo_write_6 ?_
  refine z_iload_1 d_Mo_write_7 ?_
  refine z_iload_2 d_Mo_write_8 ?_
  refine z_Vi2 d_Mo_write_9 k_Mo_93 (by first | assumption | exact zS0_at (by assumption) (by omega) | exact zS0_at rfl (by omega)) (t_Mo_placed_o M h) ⟨Nat.le_of_ble_eq_true rfl, Nat.le_of_ble_eq_true rfl, Nat.le_of_ble_eq_true rfl, Nat.le_of_ble_eq_true rfl⟩ (Nat.le_of_ble_eq_true rfl) ?_
  intro r w hq
  obtain ⟨rfl, rfl⟩ := hq
  refine z_putI d_Mo_write_12 f_Mo_73 (by first | assumption | exact zS0_at (by assumption) (by omega) | exact zS0_at rfl (by omega)) ?_
  refine z_aload_0 d_Mo_write_15 ?_
  refine z_getIv d_Mo_write_16 f_Mo_73 (by first | assumption | exact zS0_at (by assumption) (by omega) | exact zS0_at rfl (by omega)) (by first | assumption | ((try simp (disch := omega) only [zu_same, zu_ne, zcp_ne, zfl_ne]); first | assumption | rfl)) ?_
  refine z_if_le (tgt := 24) d_Mo_write_19 (by decide) (fun h19 => ?_) (fun h19 => ?_)
  · first
    | (simp (disch := omega) only [← nI_0, nI_leI, nI_ltI, nI_eq, not_true_eq_false, not_false_eq_true] at h19; done)
    | (simp (disch := omega) only [← nI_0, nI_leI, nI_ltI, nI_eq, not_true_eq_false, not_false_eq_true] at h19; omega)
    | contradiction
    | exact absurd h19 (Int32.not_lt.mpr (by assumption))
    | exact absurd h19 (Int32.not_le.mpr (by assumption))
    | exact absurd h19 (by decide)
    | exact absurd (by decide) h19
    | ( try simp (disch := omega) only [← nI_0, nI_leI, nI_ltI, nI_eq, not_true_eq_false, not_false_eq_true] at h19
        (try have h19b := zbit_n0.mp h19); (try have h19b := zbit_p0.mp h19)
        fail)
  · first
    | (simp (disch := omega) only [← nI_0, nI_leI, nI_ltI, nI_eq, not_true_eq_false, not_false_eq_true] at h19; done)
    | (simp (disch := omega) only [← nI_0, nI_leI, nI_ltI, nI_eq, not_true_eq_false, not_false_eq_true] at h19; omega)
    | contradiction
    | exact absurd h19 (Int32.not_lt.mpr (by assumption))
    | exact absurd h19 (Int32.not_le.mpr (by assumption))
    | exact absurd h19 (by decide)
    | exact absurd (by decide) h19
    | ( try simp (disch := omega) only [← nI_0, nI_leI, nI_ltI, nI_eq, not_true_eq_false, not_false_eq_true] at h19
        (try have h19b := zbit_n0.mp h19); (try have h19b := zbit_p0.mp h19)
        refine z_iconst (a := nI 0) d_Mo_write_22 (by decide) ?_
        refine z_retz d_Mo_write_23 (by first | exact zb0 | exact zb1 | assumption) ?_
        exact ⟨rfl, _, _, rfl, mqF_z (mqF_z mqF_r (by decide)) (by decide), mqJ_r, zu_same _ _ _ _⟩)
theorem t_Mo_write_m (M : modOk P S) (ht : t < 4) (h0 : I 147 t = -1) : zEi G y_Mo_write prog_14_method_14_code 5 (some .boolean) 3 [.ref 145, .int (nI t), .int b, .long x] (I, J, P, S) (fun r w => r = nI 0 ∧ mW I J P S 3 w) := by
  obtain ⟨M0, ⟨M4, M4s⟩, ⟨M5, M5s⟩, ⟨M6, M6s⟩, ⟨M7, M7s⟩, ⟨M20, M20s⟩, ⟨M21, M21s⟩, ⟨M22, M22s⟩, ⟨M26, M26s⟩, ⟨M27, M27s⟩, ⟨M28, M28s⟩, ⟨M30, M30s⟩, ⟨M34, M34s⟩, ⟨M36, M36s⟩, ⟨M37, M37s⟩⟩ := id M
  have h0' : zu I 145 1 (nI 0) 147 t = -1 := by rw [zu_row _ _ _ _ (by decide)]; exact h0
  refine zEi_of (lv := [some (.ref 145), some (.int (nI t)), some (.int b), some (.long x), none]) (by decide) rfl (Nat.le_of_ble_eq_true rfl) ?_
  refine z_aload_0 d_Mo_write_0 ?_
  refine z_iconst (a := nI 0) d_Mo_write_1 (by decide) ?_
  refine z_putI d_Mo_write_2 f_Mo_70 (by first | assumption | exact zS0_at (by assumption) (by omega) | exact zS0_at rfl (by omega)) ?_
  refine z_aload_0 d_Mo_write_5 ?_
  refine z_aload_0 d_Mo_write_6 ?_
  refine z_iload_1 d_Mo_write_7 ?_
  refine z_iload_2 d_Mo_write_8 ?_
  refine z_Vi2 d_Mo_write_9 k_Mo_93 (by first | assumption | exact zS0_at (by assumption) (by omega) | exact zS0_at rfl (by omega)) (t_Mo_placed_m M ht h0') ⟨Nat.le_of_ble_eq_true rfl, Nat.le_of_ble_eq_true rfl, Nat.le_of_ble_eq_true rfl, Nat.le_of_ble_eq_true rfl⟩ (Nat.le_of_ble_eq_true rfl) ?_
  intro r w hq
  obtain ⟨rfl, rfl⟩ := hq
  refine z_putI d_Mo_write_12 f_Mo_73 (by first | assumption | exact zS0_at (by assumption) (by omega) | exact zS0_at rfl (by omega)) ?_
  refine z_aload_0 d_Mo_write_15 ?_
  refine z_getIv d_Mo_write_16 f_Mo_73 (by first | assumption | exact zS0_at (by assumption) (by omega) | exact zS0_at rfl (by omega)) (by first | assumption | ((try simp (disch := omega) only [zu_same, zu_ne, zcp_ne, zfl_ne]); first | assumption | rfl)) ?_
  refine z_if_le (tgt := 24) d_Mo_write_19 (by decide) (fun h19 => ?_) (fun h19 => ?_)
  · first
    | (simp (disch := omega) only [← nI_0, nI_leI, nI_ltI, nI_eq, not_true_eq_false, not_false_eq_true] at h19; done)
    | (simp (disch := omega) only [← nI_0, nI_leI, nI_ltI, nI_eq, not_true_eq_false, not_false_eq_true] at h19; omega)
    | contradiction
    | exact absurd h19 (Int32.not_lt.mpr (by assumption))
    | exact absurd h19 (Int32.not_le.mpr (by assumption))
    | exact absurd h19 (by decide)
    | exact absurd (by decide) h19
    | ( try simp (disch := omega) only [← nI_0, nI_leI, nI_ltI, nI_eq, not_true_eq_false, not_false_eq_true] at h19
        (try have h19b := zbit_n0.mp h19); (try have h19b := zbit_p0.mp h19)
        fail)
  · first
    | (simp (disch := omega) only [← nI_0, nI_leI, nI_ltI, nI_eq, not_true_eq_false, not_false_eq_true] at h19; done)
    | (simp (disch := omega) only [← nI_0, nI_leI, nI_ltI, nI_eq, not_true_eq_false, not_false_eq_true] at h19; omega)
    | contradiction
    | exact absurd h19 (Int32.not_lt.mpr (by assumption))
    | exact absurd h19 (Int32.not_le.mpr (by assumption))
    | exact absurd h19 (by decide)
    | exact absurd (by decide) h19
    | ( try simp (disch := omega) only [← nI_0, nI_leI, nI_ltI, nI_eq, not_true_eq_false, not_false_eq_true] at h19
        (try have h19b := zbit_n0.mp h19); (try have h19b := zbit_p0.mp h19)
        refine z_iconst (a := nI 0) d_Mo_write_22 (by decide) ?_
        refine z_retz d_Mo_write_23 (by first | exact zb0 | exact zb1 | assumption) ?_
        exact ⟨rfl, _, _, rfl, mqF_z (mqF_z mqF_r (by decide)) (by decide), mqJ_r, zu_same _ _ _ _⟩)
theorem t_Mo_write_x (M : modOk P S) (ht : t < 4) (hl : I 147 t = nI l) (hl6 : l ≤ 60) (hb : ¬ zin b l) : zEi G y_Mo_write prog_14_method_14_code 5 (some .boolean) 3 [.ref 145, .int (nI t), .int b, .long x] (I, J, P, S) (fun r w => r = nI 0 ∧ mW I J P S 4 w) := by
  obtain ⟨M0, ⟨M4, M4s⟩, ⟨M5, M5s⟩, ⟨M6, M6s⟩, ⟨M7, M7s⟩, ⟨M20, M20s⟩, ⟨M21, M21s⟩, ⟨M22, M22s⟩, ⟨M26, M26s⟩, ⟨M27, M27s⟩, ⟨M28, M28s⟩, ⟨M30, M30s⟩, ⟨M34, M34s⟩, ⟨M36, M36s⟩, ⟨M37, M37s⟩⟩ := id M
  have h0' : zu I 145 1 (nI 0) 147 t = nI l := by rw [zu_row _ _ _ _ (by decide)]; exact hl
  refine zEi_of (lv := [some (.ref 145), some (.int (nI t)), some (.int b), some (.long x), none]) (by decide) rfl (Nat.le_of_ble_eq_true rfl) ?_
  refine z_aload_0 d_Mo_write_0 ?_
  refine z_iconst (a := nI 0) d_Mo_write_1 (by decide) ?_
  refine z_putI d_Mo_write_2 f_Mo_70 (by first | assumption | exact zS0_at (by assumption) (by omega) | exact zS0_at rfl (by omega)) ?_
  refine z_aload_0 d_Mo_write_5 ?_
  refine z_aload_0 d_Mo_write_6 ?_
  refine z_iload_1 d_Mo_write_7 ?_
  refine z_iload_2 d_Mo_write_8 ?_
  refine z_Vi2 d_Mo_write_9 k_Mo_93 (by first | assumption | exact zS0_at (by assumption) (by omega) | exact zS0_at rfl (by omega)) (t_Mo_placed_x M ht h0' hl6 hb) ⟨Nat.le_of_ble_eq_true rfl, Nat.le_of_ble_eq_true rfl, Nat.le_of_ble_eq_true rfl, Nat.le_of_ble_eq_true rfl⟩ (Nat.le_of_ble_eq_true rfl) ?_
  intro r w hq
  obtain ⟨rfl, rfl⟩ := hq
  refine z_putI d_Mo_write_12 f_Mo_73 (by first | assumption | exact zS0_at (by assumption) (by omega) | exact zS0_at rfl (by omega)) ?_
  refine z_aload_0 d_Mo_write_15 ?_
  refine z_getIv d_Mo_write_16 f_Mo_73 (by first | assumption | exact zS0_at (by assumption) (by omega) | exact zS0_at rfl (by omega)) (by first | assumption | ((try simp (disch := omega) only [zu_same, zu_ne, zcp_ne, zfl_ne]); first | assumption | rfl)) ?_
  refine z_if_le (tgt := 24) d_Mo_write_19 (by decide) (fun h19 => ?_) (fun h19 => ?_)
  · first
    | (simp (disch := omega) only [← nI_0, nI_leI, nI_ltI, nI_eq, not_true_eq_false, not_false_eq_true] at h19; done)
    | (simp (disch := omega) only [← nI_0, nI_leI, nI_ltI, nI_eq, not_true_eq_false, not_false_eq_true] at h19; omega)
    | contradiction
    | exact absurd h19 (Int32.not_lt.mpr (by assumption))
    | exact absurd h19 (Int32.not_le.mpr (by assumption))
    | exact absurd h19 (by decide)
    | exact absurd (by decide) h19
    | ( try simp (disch := omega) only [← nI_0, nI_leI, nI_ltI, nI_eq, not_true_eq_false, not_false_eq_true] at h19
        (try have h19b := zbit_n0.mp h19); (try have h19b := zbit_p0.mp h19)
        fail)
  · first
    | (simp (disch := omega) only [← nI_0, nI_leI, nI_ltI, nI_eq, not_true_eq_false, not_false_eq_true] at h19; done)
    | (simp (disch := omega) only [← nI_0, nI_leI, nI_ltI, nI_eq, not_true_eq_false, not_false_eq_true] at h19; omega)
    | contradiction
    | exact absurd h19 (Int32.not_lt.mpr (by assumption))
    | exact absurd h19 (Int32.not_le.mpr (by assumption))
    | exact absurd h19 (by decide)
    | exact absurd (by decide) h19
    | ( try simp (disch := omega) only [← nI_0, nI_leI, nI_ltI, nI_eq, not_true_eq_false, not_false_eq_true] at h19
        (try have h19b := zbit_n0.mp h19); (try have h19b := zbit_p0.mp h19)
        refine z_iconst (a := nI 0) d_Mo_write_22 (by decide) ?_
        refine z_retz d_Mo_write_23 (by first | exact zb0 | exact zb1 | assumption) ?_
        exact ⟨rfl, _, _, rfl, mqF_z (mqF_z mqF_r (by decide)) (by decide), mqJ_r, zu_same _ _ _ _⟩)
theorem t_Mo_write (M : modOk P S) (ht : t < 4) (hl : I 147 t = nI l) (hl6 : l ≤ 60) (hp : p < l) (hk : I 146 t = nI k) (hk3 : k ≤ 3) : zEi G y_Mo_write prog_14_method_14_code 5 (some .boolean) 3 [.ref 145, .int (nI t), .int (nI p), .long x] (I, J, P, S) (fun r w => r = nI 1 ∧ w = (zu (zu I 145 1 (nI 0)) 145 0 (nI 0), zu J 148 (60 * t + p) (s_cut k x), P, S)) := by
  obtain ⟨M0, ⟨M4, M4s⟩, ⟨M5, M5s⟩, ⟨M6, M6s⟩, ⟨M7, M7s⟩, ⟨M20, M20s⟩, ⟨M21, M21s⟩, ⟨M22, M22s⟩, ⟨M26, M26s⟩, ⟨M27, M27s⟩, ⟨M28, M28s⟩, ⟨M30, M30s⟩, ⟨M34, M34s⟩, ⟨M36, M36s⟩, ⟨M37, M37s⟩⟩ := id M
  have h0' : zu I 145 1 (nI 0) 147 t = nI l := by rw [zu_row _ _ _ _ (by decide)]; exact hl
  have hk' : zu (zu I 145 1 (nI 0)) 145 0 (nI 0) 146 t = nI k := by rw [zu_row _ _ _ _ (by decide), zu_row _ _ _ _ (by decide)]; exact hk
  refine zEi_of (lv := [some (.ref 145), some (.int (nI t)), some (.int (nI p)), some (.long x), none]) (by decide) rfl (Nat.le_of_ble_eq_true rfl) ?_
  refine z_aload_0 d_Mo_write_0 ?_
  refine z_iconst (a := nI 0) d_Mo_write_1 (by decide) ?_
  refine z_putI d_Mo_write_2 f_Mo_70 (by first | assumption | exact zS0_at (by assumption) (by omega) | exact zS0_at rfl (by omega)) ?_
  refine z_aload_0 d_Mo_write_5 ?_
  refine z_aload_0 d_Mo_write_6 ?_
  refine z_iload_1 d_Mo_write_7 ?_
  refine z_iload_2 d_Mo_write_8 ?_
  refine z_Vi2 d_Mo_write_9 k_Mo_93 (by first | assumption | exact zS0_at (by assumption) (by omega) | exact zS0_at rfl (by omega)) (t_Mo_placed_p M ht h0' hl6 hp) ⟨Nat.le_of_ble_eq_true rfl, Nat.le_of_ble_eq_true rfl, Nat.le_of_ble_eq_true rfl, Nat.le_of_ble_eq_true rfl⟩ (Nat.le_of_ble_eq_true rfl) ?_
  intro r w hq
  obtain ⟨rfl, rfl⟩ := hq
  refine z_putI d_Mo_write_12 f_Mo_73 (by first | assumption | exact zS0_at (by assumption) (by omega) | exact zS0_at rfl (by omega)) ?_
  refine z_aload_0 d_Mo_write_15 ?_
  refine z_getIv d_Mo_write_16 f_Mo_73 (by first | assumption | exact zS0_at (by assumption) (by omega) | exact zS0_at rfl (by omega)) (by first | assumption | ((try simp (disch := omega) only [zu_same, zu_ne, zcp_ne, zfl_ne]); first | assumption | rfl)) ?_
  refine z_if_le (tgt := 24) d_Mo_write_19 (by decide) (fun h19 => ?_) (fun h19 => ?_)
  · first
    | (simp (disch := omega) only [← nI_0, nI_leI, nI_ltI, nI_eq, not_true_eq_false, not_false_eq_true] at h19; done)
    | (simp (disch := omega) only [← nI_0, nI_leI, nI_ltI, nI_eq, not_true_eq_false, not_false_eq_true] at h19; omega)
    | contradiction
    | exact absurd h19 (Int32.not_lt.mpr (by assumption))
    | exact absurd h19 (Int32.not_le.mpr (by assumption))
    | exact absurd h19 (by decide)
    | exact absurd (by decide) h19
    | ( try simp (disch := omega) only [← nI_0, nI_leI, nI_ltI, nI_eq, not_true_eq_false, not_false_eq_true] at h19
        (try have h19b := zbit_n0.mp h19); (try have h19b := zbit_p0.mp h19)
        refine z_aload_0 d_Mo_write_24 ?_
        refine z_getR d_Mo_write_25 f_Mo_20 (by first | assumption | exact zS0_at (by assumption) (by omega) | exact zS0_at rfl (by omega)) (by first | assumption | exact zS0_at (by assumption) (by omega) | exact zS0_at rfl (by omega)) ?_
        refine z_bipush (a := nI 60) d_Mo_write_28 (by decide) ?_
        refine z_iload_1 d_Mo_write_30 ?_
        first | refine z_imulN d_Mo_write_31 ?_ | refine z_imul d_Mo_write_31 ?_
        refine z_iload_2 d_Mo_write_32 ?_
        first | refine z_iaddN d_Mo_write_33 ?_ | refine z_iadd d_Mo_write_33 ?_
        refine z_aload_0 d_Mo_write_34 ?_
        refine z_getR d_Mo_write_35 f_Mo_13 (by first | assumption | exact zS0_at (by assumption) (by omega) | exact zS0_at rfl (by omega)) (by first | assumption | exact zS0_at (by assumption) (by omega) | exact zS0_at rfl (by omega)) ?_
        refine z_iload_1 d_Mo_write_38 ?_
        first | refine z_ialdNv d_Mo_write_39 (by first | assumption | exact zS0_at (by assumption) (by omega) | exact zS0_at rfl (by omega)) (by omega) (by first | decide | omega) (by first | assumption | ((try simp (disch := omega) only [zu_same, zu_ne, zcp_ne, zfl_ne]); first | assumption | rfl)) ?_ | refine z_iald d_Mo_write_39 (by first | assumption | exact zS0_at (by assumption) (by omega) | exact zS0_at rfl (by omega)) (by first | assumption | exact zS0_at (by assumption) (by omega) | exact zS0_at rfl (by omega)) ?_
        refine z_lload_3 d_Mo_write_40 ?_
        refine z_Sl2 d_Mo_write_41 k_Mo_97 (t_Mo_cut hk3) ⟨Nat.le_of_ble_eq_true rfl, Nat.le_of_ble_eq_true rfl, Nat.le_of_ble_eq_true rfl, Nat.le_of_ble_eq_true rfl⟩ (Nat.le_of_ble_eq_true rfl) ?_
        intro r w hq
        obtain ⟨rfl, rfl⟩ := hq
        first | refine z_lastN d_Mo_write_44 (by first | assumption | exact zS0_at (by assumption) (by omega) | exact zS0_at rfl (by omega)) (by omega) (by first | decide | omega) ?_ | refine z_last d_Mo_write_44 (by first | assumption | exact zS0_at (by assumption) (by omega) | exact zS0_at rfl (by omega)) (by first | assumption | exact zS0_at (by assumption) (by omega) | exact zS0_at rfl (by omega)) ?_
        refine z_iconst (a := nI 1) d_Mo_write_45 (by decide) ?_
        refine z_retz d_Mo_write_46 (by first | exact zb0 | exact zb1 | assumption) ?_
        exact ⟨rfl, rfl⟩)
  · first
    | (simp (disch := omega) only [← nI_0, nI_leI, nI_ltI, nI_eq, not_true_eq_false, not_false_eq_true] at h19; done)
    | (simp (disch := omega) only [← nI_0, nI_leI, nI_ltI, nI_eq, not_true_eq_false, not_false_eq_true] at h19; omega)
    | contradiction
    | exact absurd h19 (Int32.not_lt.mpr (by assumption))
    | exact absurd h19 (Int32.not_le.mpr (by assumption))
    | exact absurd h19 (by decide)
    | exact absurd (by decide) h19
    | ( try simp (disch := omega) only [← nI_0, nI_leI, nI_ltI, nI_eq, not_true_eq_false, not_false_eq_true] at h19
        (try have h19b := zbit_n0.mp h19); (try have h19b := zbit_p0.mp h19)
        refine z_iconst (a := nI 0) d_Mo_write_22 (by decide) ?_
        refine z_retz d_Mo_write_23 (by first | exact zb0 | exact zb1 | assumption) ?_
        exact ⟨rfl, rfl⟩)
theorem mD_0 (I : Nat → Nat → Int32) : mD I (zu (zu I 145 1 (nI 0)) 145 0 (nI 0)) := ⟨mqF_z (mqF_z mqF_r (by decide)) (by decide), zu_same _ _ _ _, by rw [zu_row _ _ _ _ (by decide), zu_row _ _ _ _ (by decide)], fun a h => by rw [zu_row _ _ _ _ h, zu_row _ _ _ _ h]⟩
theorem L_write (h : zInv n w) : zEi G y_Tf_write prog_1_method_6_code 6 (some .boolean) 4 [.ref 0, .int a, .int b, .long x] w (fun r w1 => w1.2.2.2 = w.2.2.2 ∧ zEi G y_Mo_write prog_14_method_14_code 5 (some .boolean) 3 [.ref 145, .int a, .int b, .long x] w1 (fun r' w2 => r' = r ∧ zInv (n + 1) w2)) := by
  obtain ⟨f, d, nt, np, nl, nn, fed, mk, I, J, P, S, rfl, Z, X⟩ := h
  have M := clOk_M Z
  have hf := clOk_f Z
  have N := stR_fen X
  have N0 := stR_mod X
  have fm := stR_fm X
  obtain ⟨⟨⟨a1, r1, b1⟩, ⟨a2, r2, b2⟩, ⟨a3, r3, b3⟩, ⟨a4, r4, b4⟩⟩, ⟨⟨o, ob, ao, ro⟩, r5⟩, fw, fp, ft, fz⟩ := id fm
  by_cases ha : zin a 4
  rotate_left
  · exact L_q Z X (t_Tf_write_o Z ha) (fun I' J' e _ => ⟨_, rfl, t_Mo_write_o M ha⟩)
  obtain ⟨t, ht, rfl⟩ := ha
  rcases X.2.1 t ht with ⟨h1, h2⟩ | ⟨k, l, hk3, hl6, q1, ⟨q2, q3⟩, ⟨q4, q5⟩, q6⟩
  · exact L_q Z X (t_Tf_write_m Z ht h1) (fun I' J' e _ => ⟨_, rfl, t_Mo_write_m M ht (by rw [e 147 (by decide)]; exact h2)⟩)
  by_cases hb : zin b l
  rotate_left
  · exact L_q Z X (t_Tf_write_x Z ht q1 q4 hl6 hb) (fun I' J' e _ => ⟨_, rfl, t_Mo_write_x M ht (by rw [e 147 (by decide)]; exact q5) hl6 hb⟩)
  obtain ⟨p, hp, rfl⟩ := hb
  refine zEi_mono (t_Tf_write Z ht q1 q4 hl6 hp q2 hk3) ?_
  rintro r w ⟨rfl, rfl⟩
  refine ⟨rfl, zEi_mono (t_Mo_write M ht (by rw [zu_row _ _ _ _ (by decide)]; exact q5) hl6 hp (by rw [zu_row _ _ _ _ (by decide)]; exact q3) hk3) ?_⟩
  rintro r w ⟨rfl, rfl⟩
  refine ⟨rfl, L_tr (t := t) (Ic := I) Z X ht (fun _ _ => rfl) (mD_0 _) (fun _ _ _ => rfl) (fun v hv => ?_) (fun a g1 g2 => by rw [zu_row _ _ _ _ g2, zu_row _ _ _ _ (by omega)]) (fun v p' hv h4 hp' => by rw [zu_ne _ _ _ _ (by omega), zu_row _ _ _ _ (by omega)]) (Or.inr ⟨k, l, hk3, hl6, ?_, ⟨?_, ?_⟩, ⟨?_, ?_⟩, fun p' hp' => ?_⟩)⟩
  · constructor <;> rw [zu_row _ _ _ _ (by decide), zu_row _ _ _ _ (by decide), zu_row _ _ _ _ (by decide)]
  · rw [zu_row _ _ _ _ (by omega), zu_row _ _ _ _ (by omega), zu_row _ _ _ _ (by omega)]; exact q1
  · rw [zu_row _ _ _ _ (by omega), zu_row _ _ _ _ (by omega), zu_row _ _ _ _ (by omega)]; exact q2
  · rw [zu_row _ _ _ _ (by omega), zu_row _ _ _ _ (by omega), zu_row _ _ _ _ (by omega)]; exact q3
  · rw [zu_row _ _ _ _ (by omega), zu_row _ _ _ _ (by omega), zu_row _ _ _ _ (by omega)]; exact q4
  · rw [zu_row _ _ _ _ (by omega), zu_row _ _ _ _ (by omega), zu_row _ _ _ _ (by omega)]; exact q5
  · by_cases e : p' = p
    · subst e
      rw [zu_same, zu_row _ _ _ _ (by omega), show 4 + 2 * t = 3 + 2 * t + 1 by omega, zu_same]
    · rw [zu_ne _ _ _ _ (by omega), zu_row _ _ _ _ (by omega), zu_row _ _ _ _ (by omega), zu_ne _ _ _ _ (by omega)]; exact q6 p' hp'
theorem t_Tf_read_o (Z : clOk f d P S) (h : ¬ zin a 4) : zEl G y_Tf_read prog_1_method_7_code 4 (some .long) 4 [.ref 0, .int a, .int b] (I, J, P, S) (fun r w => r = -1 ∧ cW I J P S 1 w) := by
  obtain ⟨⟨c0, c3, c1s⟩, ⟨c5, c2s, ctr⟩, ⟨c6, c11s, c11, c13s⟩, ⟨c7, c15s, c15⟩, ⟨c8, c16s, c16a, c16b, c17s⟩, ⟨c9, c10, cfd, F, Fd⟩, ⟨c11b, Ft⟩, ⟨c12, c69s, cmk⟩, ⟨c14, c121s, c121, c122s⟩, ⟨c15b, c123s, c123, c124s⟩, ⟨c16, c125s, c125, c126s⟩, ⟨c17, c127s, c127, c128s, ctb⟩, ⟨c18, c139s, c139, c140s⟩, ⟨c19, c141s, ⟨c141a, c142s⟩, ⟨c141b, c143s⟩, ⟨c141c, c144s⟩⟩, M⟩ := id Z
  refine zEl_of (lv := [some (.ref 0), some (.int a), some (.int b), none]) (by decide) rfl (Nat.le_of_ble_eq_true rfl) ?_
  refine z_aload_0 d_Tf_read_0 ?_
  refine z_iload_1 d_Tf_read_1 ?_
  refine z_iload_2 d_Tf_read_2 ?_
  refine z_Vi2 d_Tf_read_3 k_Tf_130 (by first | assumption | exact zS0_at (by assumption) (by omega) | exact zS0_at rfl (by omega)) (t_Tf_placeStatus_o Z h) ⟨Nat.le_of_ble_eq_true rfl, Nat.le_of_ble_eq_true rfl, Nat.le_of_ble_eq_true rfl, Nat.le_of_ble_eq_true rfl⟩ (Nat.le_of_ble_eq_true rfl) ?_
  intro r w hq
  obtain ⟨rfl, rfl⟩ := hq
  first | refine z_istore_3 d_Tf_read_6 rfl ?_ | (refine z_forget_2 ?_; refine z_istore_3 d_Tf_read_6 rfl ?_)
  refine z_iload_3 d_Tf_read_7 ?_
  refine z_if_eq (tgt := 18) d_Tf_read_8 (by decide) (fun h8 => ?_) (fun h8 => ?_)
  · first
    | (simp (disch := omega) only [← nI_0, nI_leI, nI_ltI, nI_eq, not_true_eq_false, not_false_eq_true] at h8; done)
    | (simp (disch := omega) only [← nI_0, nI_leI, nI_ltI, nI_eq, not_true_eq_false, not_false_eq_true] at h8; omega)
    | contradiction
    | exact absurd h8 (Int32.not_lt.mpr (by assumption))
    | exact absurd h8 (Int32.not_le.mpr (by assumption))
    | exact absurd h8 (by decide)
    | exact absurd (by decide) h8
    | ( try simp (disch := omega) only [← nI_0, nI_leI, nI_ltI, nI_eq, not_true_eq_false, not_false_eq_true] at h8
        (try have h8b := zbit_n0.mp h8); (try have h8b := zbit_p0.mp h8)
        fail)
  · first
    | (simp (disch := omega) only [← nI_0, nI_leI, nI_ltI, nI_eq, not_true_eq_false, not_false_eq_true] at h8; done)
    | (simp (disch := omega) only [← nI_0, nI_leI, nI_ltI, nI_eq, not_true_eq_false, not_false_eq_true] at h8; omega)
    | contradiction
    | exact absurd h8 (Int32.not_lt.mpr (by assumption))
    | exact absurd h8 (Int32.not_le.mpr (by assumption))
    | exact absurd h8 (by decide)
    | exact absurd (by decide) h8
    | ( try simp (disch := omega) only [← nI_0, nI_leI, nI_ltI, nI_eq, not_true_eq_false, not_false_eq_true] at h8
        (try have h8b := zbit_n0.mp h8); (try have h8b := zbit_p0.mp h8)
        refine z_aload_0 d_Tf_read_11 ?_
        refine z_iload_3 d_Tf_read_12 ?_
        refine z_Vi1 d_Tf_read_13 k_Tf_138 (by first | assumption | exact zS0_at (by assumption) (by omega) | exact zS0_at rfl (by omega)) (t_Tf_fail (by assumption)) ⟨Nat.le_of_ble_eq_true rfl, Nat.le_of_ble_eq_true rfl, Nat.le_of_ble_eq_true rfl, Nat.le_of_ble_eq_true rfl⟩ (Nat.le_of_ble_eq_true rfl) ?_
        intro r w hq
        obtain ⟨rfl, rfl⟩ := hq
        refine z_i2l d_Tf_read_16 ?_
        refine z_retl d_Tf_read_17 ?_
        exact ⟨by decide, cW_0⟩)
theorem t_Tf_read_m (Z : clOk f d P S) (ht : t < 4) (h0 : I (3 + 2 * t) 0 = nI 0) : zEl G y_Tf_read prog_1_method_7_code 4 (some .long) 4 [.ref 0, .int (nI t), .int b] (I, J, P, S) (fun r w => r = -1 ∧ cW I J P S 3 w) := by
  obtain ⟨⟨c0, c3, c1s⟩, ⟨c5, c2s, ctr⟩, ⟨c6, c11s, c11, c13s⟩, ⟨c7, c15s, c15⟩, ⟨c8, c16s, c16a, c16b, c17s⟩, ⟨c9, c10, cfd, F, Fd⟩, ⟨c11b, Ft⟩, ⟨c12, c69s, cmk⟩, ⟨c14, c121s, c121, c122s⟩, ⟨c15b, c123s, c123, c124s⟩, ⟨c16, c125s, c125, c126s⟩, ⟨c17, c127s, c127, c128s, ctb⟩, ⟨c18, c139s, c139, c140s⟩, ⟨c19, c141s, ⟨c141a, c142s⟩, ⟨c141b, c143s⟩, ⟨c141c, c144s⟩⟩, M⟩ := id Z
  refine zEl_of (lv := [some (.ref 0), some (.int (nI t)), some (.int b), none]) (by decide) rfl (Nat.le_of_ble_eq_true rfl) ?_
  refine z_aload_0 d_Tf_read_0 ?_
  refine z_iload_1 d_Tf_read_1 ?_
  refine z_iload_2 d_Tf_read_2 ?_
  refine z_Vi2 d_Tf_read_3 k_Tf_130 (by first | assumption | exact zS0_at (by assumption) (by omega) | exact zS0_at rfl (by omega)) (t_Tf_placeStatus_m Z ht h0) ⟨Nat.le_of_ble_eq_true rfl, Nat.le_of_ble_eq_true rfl, Nat.le_of_ble_eq_true rfl, Nat.le_of_ble_eq_true rfl⟩ (Nat.le_of_ble_eq_true rfl) ?_
  intro r w hq
  obtain ⟨rfl, rfl⟩ := hq
  first | refine z_istore_3 d_Tf_read_6 rfl ?_ | (refine z_forget_2 ?_; refine z_istore_3 d_Tf_read_6 rfl ?_)
  refine z_iload_3 d_Tf_read_7 ?_
  refine z_if_eq (tgt := 18) d_Tf_read_8 (by decide) (fun h8 => ?_) (fun h8 => ?_)
  · first
    | (simp (disch := omega) only [← nI_0, nI_leI, nI_ltI, nI_eq, not_true_eq_false, not_false_eq_true] at h8; done)
    | (simp (disch := omega) only [← nI_0, nI_leI, nI_ltI, nI_eq, not_true_eq_false, not_false_eq_true] at h8; omega)
    | contradiction
    | exact absurd h8 (Int32.not_lt.mpr (by assumption))
    | exact absurd h8 (Int32.not_le.mpr (by assumption))
    | exact absurd h8 (by decide)
    | exact absurd (by decide) h8
    | ( try simp (disch := omega) only [← nI_0, nI_leI, nI_ltI, nI_eq, not_true_eq_false, not_false_eq_true] at h8
        (try have h8b := zbit_n0.mp h8); (try have h8b := zbit_p0.mp h8)
        fail)
  · first
    | (simp (disch := omega) only [← nI_0, nI_leI, nI_ltI, nI_eq, not_true_eq_false, not_false_eq_true] at h8; done)
    | (simp (disch := omega) only [← nI_0, nI_leI, nI_ltI, nI_eq, not_true_eq_false, not_false_eq_true] at h8; omega)
    | contradiction
    | exact absurd h8 (Int32.not_lt.mpr (by assumption))
    | exact absurd h8 (Int32.not_le.mpr (by assumption))
    | exact absurd h8 (by decide)
    | exact absurd (by decide) h8
    | ( try simp (disch := omega) only [← nI_0, nI_leI, nI_ltI, nI_eq, not_true_eq_false, not_false_eq_true] at h8
        (try have h8b := zbit_n0.mp h8); (try have h8b := zbit_p0.mp h8)
        refine z_aload_0 d_Tf_read_11 ?_
        refine z_iload_3 d_Tf_read_12 ?_
        refine z_Vi1 d_Tf_read_13 k_Tf_138 (by first | assumption | exact zS0_at (by assumption) (by omega) | exact zS0_at rfl (by omega)) (t_Tf_fail (by assumption)) ⟨Nat.le_of_ble_eq_true rfl, Nat.le_of_ble_eq_true rfl, Nat.le_of_ble_eq_true rfl, Nat.le_of_ble_eq_true rfl⟩ (Nat.le_of_ble_eq_true rfl) ?_
        intro r w hq
        obtain ⟨rfl, rfl⟩ := hq
        refine z_i2l d_Tf_read_16 ?_
        refine z_retl d_Tf_read_17 ?_
        exact ⟨by decide, cW_0⟩)
theorem t_Tf_read_x (Z : clOk f d P S) (ht : t < 4) (h0 : I (3 + 2 * t) 0 = nI 1) (hl : I (3 + 2 * t) 2 = nI l) (hl6 : l ≤ 60) (hb : ¬ zin b l) : zEl G y_Tf_read prog_1_method_7_code 4 (some .long) 4 [.ref 0, .int (nI t), .int b] (I, J, P, S) (fun r w => r = -1 ∧ cW I J P S 4 w) := by
  obtain ⟨⟨c0, c3, c1s⟩, ⟨c5, c2s, ctr⟩, ⟨c6, c11s, c11, c13s⟩, ⟨c7, c15s, c15⟩, ⟨c8, c16s, c16a, c16b, c17s⟩, ⟨c9, c10, cfd, F, Fd⟩, ⟨c11b, Ft⟩, ⟨c12, c69s, cmk⟩, ⟨c14, c121s, c121, c122s⟩, ⟨c15b, c123s, c123, c124s⟩, ⟨c16, c125s, c125, c126s⟩, ⟨c17, c127s, c127, c128s, ctb⟩, ⟨c18, c139s, c139, c140s⟩, ⟨c19, c141s, ⟨c141a, c142s⟩, ⟨c141b, c143s⟩, ⟨c141c, c144s⟩⟩, M⟩ := id Z
  refine zEl_of (lv := [some (.ref 0), some (.int (nI t)), some (.int b), none]) (by decide) rfl (Nat.le_of_ble_eq_true rfl) ?_
  refine z_aload_0 d_Tf_read_0 ?_
  refine z_iload_1 d_Tf_read_1 ?_
  refine z_iload_2 d_Tf_read_2 ?_
  refine z_Vi2 d_Tf_read_3 k_Tf_130 (by first | assumption | exact zS0_at (by assumption) (by omega) | exact zS0_at rfl (by omega)) (t_Tf_placeStatus_x Z ht h0 hl hl6 hb) ⟨Nat.le_of_ble_eq_true rfl, Nat.le_of_ble_eq_true rfl, Nat.le_of_ble_eq_true rfl, Nat.le_of_ble_eq_true rfl⟩ (Nat.le_of_ble_eq_true rfl) ?_
  intro r w hq
  obtain ⟨rfl, rfl⟩ := hq
  first | refine z_istore_3 d_Tf_read_6 rfl ?_ | (refine z_forget_2 ?_; refine z_istore_3 d_Tf_read_6 rfl ?_)
  refine z_iload_3 d_Tf_read_7 ?_
  refine z_if_eq (tgt := 18) d_Tf_read_8 (by decide) (fun h8 => ?_) (fun h8 => ?_)
  · first
    | (simp (disch := omega) only [← nI_0, nI_leI, nI_ltI, nI_eq, not_true_eq_false, not_false_eq_true] at h8; done)
    | (simp (disch := omega) only [← nI_0, nI_leI, nI_ltI, nI_eq, not_true_eq_false, not_false_eq_true] at h8; omega)
    | contradiction
    | exact absurd h8 (Int32.not_lt.mpr (by assumption))
    | exact absurd h8 (Int32.not_le.mpr (by assumption))
    | exact absurd h8 (by decide)
    | exact absurd (by decide) h8
    | ( try simp (disch := omega) only [← nI_0, nI_leI, nI_ltI, nI_eq, not_true_eq_false, not_false_eq_true] at h8
        (try have h8b := zbit_n0.mp h8); (try have h8b := zbit_p0.mp h8)
        fail)
  · first
    | (simp (disch := omega) only [← nI_0, nI_leI, nI_ltI, nI_eq, not_true_eq_false, not_false_eq_true] at h8; done)
    | (simp (disch := omega) only [← nI_0, nI_leI, nI_ltI, nI_eq, not_true_eq_false, not_false_eq_true] at h8; omega)
    | contradiction
    | exact absurd h8 (Int32.not_lt.mpr (by assumption))
    | exact absurd h8 (Int32.not_le.mpr (by assumption))
    | exact absurd h8 (by decide)
    | exact absurd (by decide) h8
    | ( try simp (disch := omega) only [← nI_0, nI_leI, nI_ltI, nI_eq, not_true_eq_false, not_false_eq_true] at h8
        (try have h8b := zbit_n0.mp h8); (try have h8b := zbit_p0.mp h8)
        refine z_aload_0 d_Tf_read_11 ?_
        refine z_iload_3 d_Tf_read_12 ?_
        refine z_Vi1 d_Tf_read_13 k_Tf_138 (by first | assumption | exact zS0_at (by assumption) (by omega) | exact zS0_at rfl (by omega)) (t_Tf_fail (by assumption)) ⟨Nat.le_of_ble_eq_true rfl, Nat.le_of_ble_eq_true rfl, Nat.le_of_ble_eq_true rfl, Nat.le_of_ble_eq_true rfl⟩ (Nat.le_of_ble_eq_true rfl) ?_
        intro r w hq
        obtain ⟨rfl, rfl⟩ := hq
        refine z_i2l d_Tf_read_16 ?_
        refine z_retl d_Tf_read_17 ?_
        exact ⟨by decide, cW_0⟩)
theorem t_Tf_read (Z : clOk f d P S) (ht : t < 4) (h0 : I (3 + 2 * t) 0 = nI 1) (hl : I (3 + 2 * t) 2 = nI l) (hl6 : l ≤ 60) (hp : p < l) : zEl G y_Tf_read prog_1_method_7_code 4 (some .long) 4 [.ref 0, .int (nI t), .int (nI p)] (I, J, P, S) (fun r w => r = J (3 + 2 * t + 1) p ∧ cW I J P S 0 w) := by
  obtain ⟨⟨c0, c3, c1s⟩, ⟨c5, c2s, ctr⟩, ⟨c6, c11s, c11, c13s⟩, ⟨c7, c15s, c15⟩, ⟨c8, c16s, c16a, c16b, c17s⟩, ⟨c9, c10, cfd, F, Fd⟩, ⟨c11b, Ft⟩, ⟨c12, c69s, cmk⟩, ⟨c14, c121s, c121, c122s⟩, ⟨c15b, c123s, c123, c124s⟩, ⟨c16, c125s, c125, c126s⟩, ⟨c17, c127s, c127, c128s, ctb⟩, ⟨c18, c139s, c139, c140s⟩, ⟨c19, c141s, ⟨c141a, c142s⟩, ⟨c141b, c143s⟩, ⟨c141c, c144s⟩⟩, M⟩ := id Z
  obtain ⟨c2, T⟩ := ctr t ht
  obtain ⟨T0, T1, T2⟩ := id T
  refine zEl_of (lv := [some (.ref 0), some (.int (nI t)), some (.int (nI p)), none]) (by decide) rfl (Nat.le_of_ble_eq_true rfl) ?_
  refine z_aload_0 d_Tf_read_0 ?_
  refine z_iload_1 d_Tf_read_1 ?_
  refine z_iload_2 d_Tf_read_2 ?_
  refine z_Vi2 d_Tf_read_3 k_Tf_130 (by first | assumption | exact zS0_at (by assumption) (by omega) | exact zS0_at rfl (by omega)) (t_Tf_placeStatus_p Z ht h0 hl hl6 hp) ⟨Nat.le_of_ble_eq_true rfl, Nat.le_of_ble_eq_true rfl, Nat.le_of_ble_eq_true rfl, Nat.le_of_ble_eq_true rfl⟩ (Nat.le_of_ble_eq_true rfl) ?_
  intro r w hq
  obtain ⟨rfl, rfl⟩ := hq
  first | refine z_istore_3 d_Tf_read_6 rfl ?_ | (refine z_forget_2 ?_; refine z_istore_3 d_Tf_read_6 rfl ?_)
  refine z_iload_3 d_Tf_read_7 ?_
  refine z_if_eq (tgt := 18) d_Tf_read_8 (by decide) (fun h8 => ?_) (fun h8 => ?_)
  · first
    | (simp (disch := omega) only [← nI_0, nI_leI, nI_ltI, nI_eq, not_true_eq_false, not_false_eq_true] at h8; done)
    | (simp (disch := omega) only [← nI_0, nI_leI, nI_ltI, nI_eq, not_true_eq_false, not_false_eq_true] at h8; omega)
    | contradiction
    | exact absurd h8 (Int32.not_lt.mpr (by assumption))
    | exact absurd h8 (Int32.not_le.mpr (by assumption))
    | exact absurd h8 (by decide)
    | exact absurd (by decide) h8
    | ( try simp (disch := omega) only [← nI_0, nI_leI, nI_ltI, nI_eq, not_true_eq_false, not_false_eq_true] at h8
        (try have h8b := zbit_n0.mp h8); (try have h8b := zbit_p0.mp h8)
        refine z_aload_0 d_Tf_read_18 ?_
        refine z_iconst (a := nI 0) d_Tf_read_19 (by decide) ?_
        refine z_putI d_Tf_read_20 f_Tf_7 (by first | assumption | exact zS0_at (by assumption) (by omega) | exact zS0_at rfl (by omega)) ?_
        refine z_aload_0 d_Tf_read_23 ?_
        refine z_getR d_Tf_read_24 f_Tf_29 (by first | assumption | exact zS0_at (by assumption) (by omega) | exact zS0_at rfl (by omega)) (by first | assumption | exact zS0_at (by assumption) (by omega) | exact zS0_at rfl (by omega)) ?_
        refine z_iload_1 d_Tf_read_27 ?_
        first | refine z_ald4N d_Tf_read_28 (by first | assumption | exact zS0_at (by assumption) (by omega) | exact zS0_at rfl (by omega)) (by omega) (by first | decide | omega) (by first | assumption | exact zS0_at (by assumption) (by omega) | exact zS0_at rfl (by omega)) ?_ | refine z_ald5N d_Tf_read_28 (by first | assumption | exact zS0_at (by assumption) (by omega) | exact zS0_at rfl (by omega)) (by omega) (by first | decide | omega) (by first | assumption | exact zS0_at (by assumption) (by omega) | exact zS0_at rfl (by omega)) ?_ | refine z_ald6N d_Tf_read_28 (by first | assumption | exact zS0_at (by assumption) (by omega) | exact zS0_at rfl (by omega)) (by omega) (by first | decide | omega) (by first | assumption | exact zS0_at (by assumption) (by omega) | exact zS0_at rfl (by omega)) ?_
        refine z_getR d_Tf_read_29 f_Tf_142 (by first | assumption | exact zS0_at (by assumption) (by omega) | exact zS0_at rfl (by omega)) (by first | assumption | exact zS0_at (by assumption) (by omega) | exact zS0_at rfl (by omega)) ?_
        refine z_iload_2 d_Tf_read_32 ?_
        first | refine z_laldNv d_Tf_read_33 (by first | assumption | exact zS0_at (by assumption) (by omega) | exact zS0_at rfl (by omega)) (by omega) (by first | decide | omega) (by first | assumption | ((try simp (disch := omega) only [zu_same, zu_ne, zcp_ne, zfl_ne]); first | assumption | rfl)) ?_ | refine z_lald d_Tf_read_33 (by first | assumption | exact zS0_at (by assumption) (by omega) | exact zS0_at rfl (by omega)) (by first | assumption | exact zS0_at (by assumption) (by omega) | exact zS0_at rfl (by omega)) ?_
        refine z_retl d_Tf_read_34 ?_
        exact ⟨rfl, cW_0⟩)
  · first
    | (simp (disch := omega) only [← nI_0, nI_leI, nI_ltI, nI_eq, not_true_eq_false, not_false_eq_true] at h8; done)
    | (simp (disch := omega) only [← nI_0, nI_leI, nI_ltI, nI_eq, not_true_eq_false, not_false_eq_true] at h8; omega)
    | contradiction
    | exact absurd h8 (Int32.not_lt.mpr (by assumption))
    | exact absurd h8 (Int32.not_le.mpr (by assumption))
    | exact absurd h8 (by decide)
    | exact absurd (by decide) h8
    | ( try simp (disch := omega) only [← nI_0, nI_leI, nI_ltI, nI_eq, not_true_eq_false, not_false_eq_true] at h8
        (try have h8b := zbit_n0.mp h8); (try have h8b := zbit_p0.mp h8)
        refine z_aload_0 d_Tf_read_11 ?_
        refine z_iload_3 d_Tf_read_12 ?_
        refine z_Vi1 d_Tf_read_13 k_Tf_138 (by first | assumption | exact zS0_at (by assumption) (by omega) | exact zS0_at rfl (by omega)) (t_Tf_fail (by assumption)) ⟨Nat.le_of_ble_eq_true rfl, Nat.le_of_ble_eq_true rfl, Nat.le_of_ble_eq_true rfl, Nat.le_of_ble_eq_true rfl⟩ (Nat.le_of_ble_eq_true rfl) ?_
        intro r w hq
        obtain ⟨rfl, rfl⟩ := hq
        refine z_i2l d_Tf_read_16 ?_
        refine z_retl d_Tf_read_17 ?_
        exact ⟨rfl, cW_0⟩)
theorem t_Mo_read_o (M : modOk P S) (h : ¬ zin a 4) : zEl G y_Mo_read prog_14_method_15_code 3 (some .long) 3 [.ref 145, .int a, .int b] (I, J, P, S) (fun r w => r = -1 ∧ mW I J P S 1 w) := by
  obtain ⟨M0, ⟨M4, M4s⟩, ⟨M5, M5s⟩, ⟨M6, M6s⟩, ⟨M7, M7s⟩, ⟨M20, M20s⟩, ⟨M21, M21s⟩, ⟨M22, M22s⟩, ⟨M26, M26s⟩, ⟨M27, M27s⟩, ⟨M28, M28s⟩, ⟨M30, M30s⟩, ⟨M34, M34s⟩, ⟨M36, M36s⟩, ⟨M37, M37s⟩⟩ := id M
  refine zEl_of (lv := [some (.ref 145), some (.int a), some (.int b)]) (by decide) rfl (Nat.le_of_ble_eq_true rfl) ?_
  refine z_aload_0 d_Mo_read_0 ?_
  refine z_iconst (a := nI 0) d_Mo_read_1 (by decide) ?_
  refine z_putI d_Mo_read_2 f_Mo_70 (by first | assumption | exact zS0_at (by assumption) (by omega) | exact zS0_at rfl (by omega)) ?_
  refine z_aload_0 d_Mo_read_5 ?_
  refine z_aload_0 d_Mo_read_6 ?_
  refine z_iload_1 d_Mo_read_7 ?_
  refine z_iload_2 d_Mo_read_8 ?_
  refine z_Vi2 d_Mo_read_9 k_Mo_93 (by first | assumption | exact zS0_at (by assumption) (by omega) | exact zS0_at rfl (by omega)) (t_Mo_placed_o M h) ⟨Nat.le_of_ble_eq_true rfl, Nat.le_of_ble_eq_true rfl, Nat.le_of_ble_eq_true rfl, Nat.le_of_ble_eq_true rfl⟩ (Nat.le_of_ble_eq_true rfl) ?_
  intro r w hq
  obtain ⟨rfl, rfl⟩ := hq
  refine z_putI d_Mo_read_12 f_Mo_73 (by first | assumption | exact zS0_at (by assumption) (by omega) | exact zS0_at rfl (by omega)) ?_
  refine z_aload_0 d_Mo_read_15 ?_
  refine z_getIv d_Mo_read_16 f_Mo_73 (by first | assumption | exact zS0_at (by assumption) (by omega) | exact zS0_at rfl (by omega)) (by first | assumption | ((try simp (disch := omega) only [zu_same, zu_ne, zcp_ne, zfl_ne]); first | assumption | rfl)) ?_
  refine z_if_le (tgt := 28) d_Mo_read_19 (by decide) (fun h19 => ?_) (fun h19 => ?_)
  · first
    | (simp (disch := omega) only [← nI_0, nI_leI, nI_ltI, nI_eq, not_true_eq_false, not_false_eq_true] at h19; done)
    | (simp (disch := omega) only [← nI_0, nI_leI, nI_ltI, nI_eq, not_true_eq_false, not_false_eq_true] at h19; omega)
    | contradiction
    | exact absurd h19 (Int32.not_lt.mpr (by assumption))
    | exact absurd h19 (Int32.not_le.mpr (by assumption))
    | exact absurd h19 (by decide)
    | exact absurd (by decide) h19
    | ( try simp (disch := omega) only [← nI_0, nI_leI, nI_ltI, nI_eq, not_true_eq_false, not_false_eq_true] at h19
        (try have h19b := zbit_n0.mp h19); (try have h19b := zbit_p0.mp h19)
        fail)
  · first
    | (simp (disch := omega) only [← nI_0, nI_leI, nI_ltI, nI_eq, not_true_eq_false, not_false_eq_true] at h19; done)
    | (simp (disch := omega) only [← nI_0, nI_leI, nI_ltI, nI_eq, not_true_eq_false, not_false_eq_true] at h19; omega)
    | contradiction
    | exact absurd h19 (Int32.not_lt.mpr (by assumption))
    | exact absurd h19 (Int32.not_le.mpr (by assumption))
    | exact absurd h19 (by decide)
    | exact absurd (by decide) h19
    | ( try simp (disch := omega) only [← nI_0, nI_leI, nI_ltI, nI_eq, not_true_eq_false, not_false_eq_true] at h19
        (try have h19b := zbit_n0.mp h19); (try have h19b := zbit_p0.mp h19)
        refine z_ldc2 d_Mo_read_22 c_Mo_101 ?_
        refine z_goto (tgt := 39) d_Mo_read_25 (by decide) ?_
        refine z_retl d_Mo_read_39 ?_
        exact ⟨rfl, _, _, rfl, mqF_z (mqF_z mqF_r (by decide)) (by decide), mqJ_r, zu_same _ _ _ _⟩)
theorem t_Mo_read_m (M : modOk P S) (ht : t < 4) (h0 : I 147 t = -1) : zEl G y_Mo_read prog_14_method_15_code 3 (some .long) 3 [.ref 145, .int (nI t), .int b] (I, J, P, S) (fun r w => r = -1 ∧ mW I J P S 3 w) := by
  obtain ⟨M0, ⟨M4, M4s⟩, ⟨M5, M5s⟩, ⟨M6, M6s⟩, ⟨M7, M7s⟩, ⟨M20, M20s⟩, ⟨M21, M21s⟩, ⟨M22, M22s⟩, ⟨M26, M26s⟩, ⟨M27, M27s⟩, ⟨M28, M28s⟩, ⟨M30, M30s⟩, ⟨M34, M34s⟩, ⟨M36, M36s⟩, ⟨M37, M37s⟩⟩ := id M
  have h0' : zu I 145 1 (nI 0) 147 t = -1 := by rw [zu_row _ _ _ _ (by decide)]; exact h0
  refine zEl_of (lv := [some (.ref 145), some (.int (nI t)), some (.int b)]) (by decide) rfl (Nat.le_of_ble_eq_true rfl) ?_
  refine z_aload_0 d_Mo_read_0 ?_
  refine z_iconst (a := nI 0) d_Mo_read_1 (by decide) ?_
  refine z_putI d_Mo_read_2 f_Mo_70 (by first | assumption | exact zS0_at (by assumption) (by omega) | exact zS0_at rfl (by omega)) ?_
  refine z_aload_0 d_Mo_read_5 ?_
  refine z_aload_0 d_Mo_read_6 ?_
  refine z_iload_1 d_Mo_read_7 ?_
  refine z_iload_2 d_Mo_read_8 ?_
  refine z_Vi2 d_Mo_read_9 k_Mo_93 (by first | assumption | exact zS0_at (by assumption) (by omega) | exact zS0_at rfl (by omega)) (t_Mo_placed_m M ht h0') ⟨Nat.le_of_ble_eq_true rfl, Nat.le_of_ble_eq_true rfl, Nat.le_of_ble_eq_true rfl, Nat.le_of_ble_eq_true rfl⟩ (Nat.le_of_ble_eq_true rfl) ?_
  intro r w hq
  obtain ⟨rfl, rfl⟩ := hq
  refine z_putI d_Mo_read_12 f_Mo_73 (by first | assumption | exact zS0_at (by assumption) (by omega) | exact zS0_at rfl (by omega)) ?_
  refine z_aload_0 d_Mo_read_15 ?_
  refine z_getIv d_Mo_read_16 f_Mo_73 (by first | assumption | exact zS0_at (by assumption) (by omega) | exact zS0_at rfl (by omega)) (by first | assumption | ((try simp (disch := omega) only [zu_same, zu_ne, zcp_ne, zfl_ne]); first | assumption | rfl)) ?_
  refine z_if_le (tgt := 28) d_Mo_read_19 (by decide) (fun h19 => ?_) (fun h19 => ?_)
  · first
    | (simp (disch := omega) only [← nI_0, nI_leI, nI_ltI, nI_eq, not_true_eq_false, not_false_eq_true] at h19; done)
    | (simp (disch := omega) only [← nI_0, nI_leI, nI_ltI, nI_eq, not_true_eq_false, not_false_eq_true] at h19; omega)
    | contradiction
    | exact absurd h19 (Int32.not_lt.mpr (by assumption))
    | exact absurd h19 (Int32.not_le.mpr (by assumption))
    | exact absurd h19 (by decide)
    | exact absurd (by decide) h19
    | ( try simp (disch := omega) only [← nI_0, nI_leI, nI_ltI, nI_eq, not_true_eq_false, not_false_eq_true] at h19
        (try have h19b := zbit_n0.mp h19); (try have h19b := zbit_p0.mp h19)
        fail)
  · first
    | (simp (disch := omega) only [← nI_0, nI_leI, nI_ltI, nI_eq, not_true_eq_false, not_false_eq_true] at h19; done)
    | (simp (disch := omega) only [← nI_0, nI_leI, nI_ltI, nI_eq, not_true_eq_false, not_false_eq_true] at h19; omega)
    | contradiction
    | exact absurd h19 (Int32.not_lt.mpr (by assumption))
    | exact absurd h19 (Int32.not_le.mpr (by assumption))
    | exact absurd h19 (by decide)
    | exact absurd (by decide) h19
    | ( try simp (disch := omega) only [← nI_0, nI_leI, nI_ltI, nI_eq, not_true_eq_false, not_false_eq_true] at h19
        (try have h19b := zbit_n0.mp h19); (try have h19b := zbit_p0.mp h19)
        refine z_ldc2 d_Mo_read_22 c_Mo_101 ?_
        refine z_goto (tgt := 39) d_Mo_read_25 (by decide) ?_
        refine z_retl d_Mo_read_39 ?_
        exact ⟨rfl, _, _, rfl, mqF_z (mqF_z mqF_r (by decide)) (by decide), mqJ_r, zu_same _ _ _ _⟩)
theorem t_Mo_read_x (M : modOk P S) (ht : t < 4) (hl : I 147 t = nI l) (hl6 : l ≤ 60) (hb : ¬ zin b l) : zEl G y_Mo_read prog_14_method_15_code 3 (some .long) 3 [.ref 145, .int (nI t), .int b] (I, J, P, S) (fun r w => r = -1 ∧ mW I J P S 4 w) := by
  obtain ⟨M0, ⟨M4, M4s⟩, ⟨M5, M5s⟩, ⟨M6, M6s⟩, ⟨M7, M7s⟩, ⟨M20, M20s⟩, ⟨M21, M21s⟩, ⟨M22, M22s⟩, ⟨M26, M26s⟩, ⟨M27, M27s⟩, ⟨M28, M28s⟩, ⟨M30, M30s⟩, ⟨M34, M34s⟩, ⟨M36, M36s⟩, ⟨M37, M37s⟩⟩ := id M
  have h0' : zu I 145 1 (nI 0) 147 t = nI l := by rw [zu_row _ _ _ _ (by decide)]; exact hl
  refine zEl_of (lv := [some (.ref 145), some (.int (nI t)), some (.int b)]) (by decide) rfl (Nat.le_of_ble_eq_true rfl) ?_
  refine z_aload_0 d_Mo_read_0 ?_
  refine z_iconst (a := nI 0) d_Mo_read_1 (by decide) ?_
  refine z_putI d_Mo_read_2 f_Mo_70 (by first | assumption | exact zS0_at (by assumption) (by omega) | exact zS0_at rfl (by omega)) ?_
  refine z_aload_0 d_Mo_read_5 ?_
  refine z_aload_0 d_Mo_read_6 ?_
  refine z_iload_1 d_Mo_read_7 ?_
  refine z_iload_2 d_Mo_read_8 ?_
  refine z_Vi2 d_Mo_read_9 k_Mo_93 (by first | assumption | exact zS0_at (by assumption) (by omega) | exact zS0_at rfl (by omega)) (t_Mo_placed_x M ht h0' hl6 hb) ⟨Nat.le_of_ble_eq_true rfl, Nat.le_of_ble_eq_true rfl, Nat.le_of_ble_eq_true rfl, Nat.le_of_ble_eq_true rfl⟩ (Nat.le_of_ble_eq_true rfl) ?_
  intro r w hq
  obtain ⟨rfl, rfl⟩ := hq
  refine z_putI d_Mo_read_12 f_Mo_73 (by first | assumption | exact zS0_at (by assumption) (by omega) | exact zS0_at rfl (by omega)) ?_
  refine z_aload_0 d_Mo_read_15 ?_
  refine z_getIv d_Mo_read_16 f_Mo_73 (by first | assumption | exact zS0_at (by assumption) (by omega) | exact zS0_at rfl (by omega)) (by first | assumption | ((try simp (disch := omega) only [zu_same, zu_ne, zcp_ne, zfl_ne]); first | assumption | rfl)) ?_
  refine z_if_le (tgt := 28) d_Mo_read_19 (by decide) (fun h19 => ?_) (fun h19 => ?_)
  · first
    | (simp (disch := omega) only [← nI_0, nI_leI, nI_ltI, nI_eq, not_true_eq_false, not_false_eq_true] at h19; done)
    | (simp (disch := omega) only [← nI_0, nI_leI, nI_ltI, nI_eq, not_true_eq_false, not_false_eq_true] at h19; omega)
    | contradiction
    | exact absurd h19 (Int32.not_lt.mpr (by assumption))
    | exact absurd h19 (Int32.not_le.mpr (by assumption))
    | exact absurd h19 (by decide)
    | exact absurd (by decide) h19
    | ( try simp (disch := omega) only [← nI_0, nI_leI, nI_ltI, nI_eq, not_true_eq_false, not_false_eq_true] at h19
        (try have h19b := zbit_n0.mp h19); (try have h19b := zbit_p0.mp h19)
        fail)
  · first
    | (simp (disch := omega) only [← nI_0, nI_leI, nI_ltI, nI_eq, not_true_eq_false, not_false_eq_true] at h19; done)
    | (simp (disch := omega) only [← nI_0, nI_leI, nI_ltI, nI_eq, not_true_eq_false, not_false_eq_true] at h19; omega)
    | contradiction
    | exact absurd h19 (Int32.not_lt.mpr (by assumption))
    | exact absurd h19 (Int32.not_le.mpr (by assumption))
    | exact absurd h19 (by decide)
    | exact absurd (by decide) h19
    | ( try simp (disch := omega) only [← nI_0, nI_leI, nI_ltI, nI_eq, not_true_eq_false, not_false_eq_true] at h19
        (try have h19b := zbit_n0.mp h19); (try have h19b := zbit_p0.mp h19)
        refine z_ldc2 d_Mo_read_22 c_Mo_101 ?_
        refine z_goto (tgt := 39) d_Mo_read_25 (by decide) ?_
        refine z_retl d_Mo_read_39 ?_
        exact ⟨rfl, _, _, rfl, mqF_z (mqF_z mqF_r (by decide)) (by decide), mqJ_r, zu_same _ _ _ _⟩)
theorem t_Mo_read (M : modOk P S) (ht : t < 4) (hl : I 147 t = nI l) (hl6 : l ≤ 60) (hp : p < l) : zEl G y_Mo_read prog_14_method_15_code 3 (some .long) 3 [.ref 145, .int (nI t), .int (nI p)] (I, J, P, S) (fun r w => r = J 148 (60 * t + p) ∧ mW I J P S 0 w) := by
  obtain ⟨M0, ⟨M4, M4s⟩, ⟨M5, M5s⟩, ⟨M6, M6s⟩, ⟨M7, M7s⟩, ⟨M20, M20s⟩, ⟨M21, M21s⟩, ⟨M22, M22s⟩, ⟨M26, M26s⟩, ⟨M27, M27s⟩, ⟨M28, M28s⟩, ⟨M30, M30s⟩, ⟨M34, M34s⟩, ⟨M36, M36s⟩, ⟨M37, M37s⟩⟩ := id M
  have h0' : zu I 145 1 (nI 0) 147 t = nI l := by rw [zu_row _ _ _ _ (by decide)]; exact hl
  refine zEl_of (lv := [some (.ref 145), some (.int (nI t)), some (.int (nI p))]) (by decide) rfl (Nat.le_of_ble_eq_true rfl) ?_
  refine z_aload_0 d_Mo_read_0 ?_
  refine z_iconst (a := nI 0) d_Mo_read_1 (by decide) ?_
  refine z_putI d_Mo_read_2 f_Mo_70 (by first | assumption | exact zS0_at (by assumption) (by omega) | exact zS0_at rfl (by omega)) ?_
  refine z_aload_0 d_Mo_read_5 ?_
  refine z_aload_0 d_Mo_read_6 ?_
  refine z_iload_1 d_Mo_read_7 ?_
  refine z_iload_2 d_Mo_read_8 ?_
  refine z_Vi2 d_Mo_read_9 k_Mo_93 (by first | assumption | exact zS0_at (by assumption) (by omega) | exact zS0_at rfl (by omega)) (t_Mo_placed_p M ht h0' hl6 hp) ⟨Nat.le_of_ble_eq_true rfl, Nat.le_of_ble_eq_true rfl, Nat.le_of_ble_eq_true rfl, Nat.le_of_ble_eq_true rfl⟩ (Nat.le_of_ble_eq_true rfl) ?_
  intro r w hq
  obtain ⟨rfl, rfl⟩ := hq
  refine z_putI d_Mo_read_12 f_Mo_73 (by first | assumption | exact zS0_at (by assumption) (by omega) | exact zS0_at rfl (by omega)) ?_
  refine z_aload_0 d_Mo_read_15 ?_
  refine z_getIv d_Mo_read_16 f_Mo_73 (by first | assumption | exact zS0_at (by assumption) (by omega) | exact zS0_at rfl (by omega)) (by first | assumption | ((try simp (disch := omega) only [zu_same, zu_ne, zcp_ne, zfl_ne]); first | assumption | rfl)) ?_
  refine z_if_le (tgt := 28) d_Mo_read_19 (by decide) (fun h19 => ?_) (fun h19 => ?_)
  · first
    | (simp (disch := omega) only [← nI_0, nI_leI, nI_ltI, nI_eq, not_true_eq_false, not_false_eq_true] at h19; done)
    | (simp (disch := omega) only [← nI_0, nI_leI, nI_ltI, nI_eq, not_true_eq_false, not_false_eq_true] at h19; omega)
    | contradiction
    | exact absurd h19 (Int32.not_lt.mpr (by assumption))
    | exact absurd h19 (Int32.not_le.mpr (by assumption))
    | exact absurd h19 (by decide)
    | exact absurd (by decide) h19
    | ( try simp (disch := omega) only [← nI_0, nI_leI, nI_ltI, nI_eq, not_true_eq_false, not_false_eq_true] at h19
        (try have h19b := zbit_n0.mp h19); (try have h19b := zbit_p0.mp h19)
        refine z_aload_0 d_Mo_read_28 ?_
        refine z_getR d_Mo_read_29 f_Mo_20 (by first | assumption | exact zS0_at (by assumption) (by omega) | exact zS0_at rfl (by omega)) (by first | assumption | exact zS0_at (by assumption) (by omega) | exact zS0_at rfl (by omega)) ?_
        refine z_bipush (a := nI 60) d_Mo_read_32 (by decide) ?_
        refine z_iload_1 d_Mo_read_34 ?_
        first | refine z_imulN d_Mo_read_35 ?_ | refine z_imul d_Mo_read_35 ?_
        refine z_iload_2 d_Mo_read_36 ?_
        first | refine z_iaddN d_Mo_read_37 ?_ | refine z_iadd d_Mo_read_37 ?_
        first | refine z_laldNv d_Mo_read_38 (by first | assumption | exact zS0_at (by assumption) (by omega) | exact zS0_at rfl (by omega)) (by omega) (by first | decide | omega) (by first | assumption | ((try simp (disch := omega) only [zu_same, zu_ne, zcp_ne, zfl_ne]); first | assumption | rfl)) ?_ | refine z_lald d_Mo_read_38 (by first | assumption | exact zS0_at (by assumption) (by omega) | exact zS0_at rfl (by omega)) (by first | assumption | exact zS0_at (by assumption) (by omega) | exact zS0_at rfl (by omega)) ?_
        refine z_retl d_Mo_read_39 ?_
        exact ⟨rfl, _, _, rfl, mqF_z (mqF_z mqF_r (by decide)) (by decide), mqJ_r, zu_same _ _ _ _⟩)
  · first
    | (simp (disch := omega) only [← nI_0, nI_leI, nI_ltI, nI_eq, not_true_eq_false, not_false_eq_true] at h19; done)
    | (simp (disch := omega) only [← nI_0, nI_leI, nI_ltI, nI_eq, not_true_eq_false, not_false_eq_true] at h19; omega)
    | contradiction
    | exact absurd h19 (Int32.not_lt.mpr (by assumption))
    | exact absurd h19 (Int32.not_le.mpr (by assumption))
    | exact absurd h19 (by decide)
    | exact absurd (by decide) h19
    | ( try simp (disch := omega) only [← nI_0, nI_leI, nI_ltI, nI_eq, not_true_eq_false, not_false_eq_true] at h19
        (try have h19b := zbit_n0.mp h19); (try have h19b := zbit_p0.mp h19)
        refine z_ldc2 d_Mo_read_22 c_Mo_101 ?_
        refine z_goto (tgt := 39) d_Mo_read_25 (by decide) ?_
        refine z_retl d_Mo_read_39 ?_
        exact ⟨rfl, _, _, rfl, mqF_z (mqF_z mqF_r (by decide)) (by decide), mqJ_r, zu_same _ _ _ _⟩)
theorem L_read (h : zInv n w) : zEl G y_Tf_read prog_1_method_7_code 4 (some .long) 4 [.ref 0, .int a, .int b] w (fun r w1 => w1.2.2.2 = w.2.2.2 ∧ zEl G y_Mo_read prog_14_method_15_code 3 (some .long) 3 [.ref 145, .int a, .int b] w1 (fun r' w2 => r' = r ∧ zInv (n + 1) w2)) := by
  obtain ⟨f, d, nt, np, nl, nn, fed, mk, I, J, P, S, rfl, Z, X⟩ := h
  have M := clOk_M Z
  have hf := clOk_f Z
  have N := stR_fen X
  have N0 := stR_mod X
  have fm := stR_fm X
  obtain ⟨⟨⟨a1, r1, b1⟩, ⟨a2, r2, b2⟩, ⟨a3, r3, b3⟩, ⟨a4, r4, b4⟩⟩, ⟨⟨o, ob, ao, ro⟩, r5⟩, fw, fp, ft, fz⟩ := id fm
  by_cases ha : zin a 4
  rotate_left
  · exact L_ql Z X (t_Tf_read_o Z ha) (fun I' J' e _ => ⟨_, rfl, t_Mo_read_o M ha⟩)
  obtain ⟨t, ht, rfl⟩ := ha
  rcases X.2.1 t ht with ⟨h1, h2⟩ | ⟨k, l, hk3, hl6, q1, ⟨q2, q3⟩, ⟨q4, q5⟩, q6⟩
  · exact L_ql Z X (t_Tf_read_m Z ht h1) (fun I' J' e _ => ⟨_, rfl, t_Mo_read_m M ht (by rw [e 147 (by decide)]; exact h2)⟩)
  by_cases hb : zin b l
  rotate_left
  · exact L_ql Z X (t_Tf_read_x Z ht q1 q4 hl6 hb) (fun I' J' e _ => ⟨_, rfl, t_Mo_read_x M ht (by rw [e 147 (by decide)]; exact q5) hl6 hb⟩)
  obtain ⟨p, hp, rfl⟩ := hb
  exact L_ql Z X (t_Tf_read Z ht q1 q4 hl6 hp) (fun I' J' e ej => ⟨_, by rw [ej 148 (by decide)]; exact (q6 p hp).trans (by rw [show 4 + 2 * t = 3 + 2 * t + 1 by omega]), t_Mo_read M ht (by rw [e 147 (by decide)]; exact q5) hl6 hp⟩)
end TY2
