/-! look, howMany: the class -/
section SG0
variable {G : zG} {I I' I1 I2 I3 : Nat → Nat → Int32} {J J' J2 : Nat → Nat → Int64} {P : Nat → Nat → Option Nat} {S : List (Nat × Nat)} {f d nt np nl nn n fed mk t k p q s g i u v : Nat} {a c : Int32} {x y : Int64} {w : zW} {X : Nat → Int64} {A : Nat → Int32} {fb : Nat → Bool}
theorem U_or : U64 (x ||| y) = U64 x ||| U64 y := by
  unfold U64
  rw [Int64.toBitVec_or, BitVec.toNat_or]
theorem U_one : ∀ s, s < 64 → U64 (lN 1 <<< ((nI s).toInt64 &&& 63)) = 2 ^ s := by decide +kernel
def fbL (x : Int64) (m : Nat) (fb : Nat → Bool) : Prop := ∀ i, i < 64 → (U64 x).testBit i = (decide (i < m) && fb i)
theorem t_Seen_look_n (Z : clOk f d P S) (N : fenIn I f nt np nl nn) (T : trOk P S g) (hg : g < 18) (hX : X = J (g + 1)) (h : a < 0 ∨ nI 7 < a ∨ ∃ n, n ≤ 7 ∧ a = nI n ∧ ¬ ∃ u, tw X np n u) : zEi G y_Seen_look prog_8_method_2_code 5 (some .boolean) 3 [.ref 139, .ref f, .ref g, .int a] (I, J, P, S) (fun r w => r = nI 0 ∧ ∃ I', w = (I', J, P, S) ∧ xF 139 I I') := by
  have hf := clOk_f Z
  obtain ⟨⟨c0, c3, c1s⟩, ⟨c5, c2s, ctr⟩, ⟨c6, c11s, c11, c13s⟩, ⟨c7, c15s, c15⟩, ⟨c8, c16s, c16a, c16b, c17s⟩, ⟨c9, c10, cfd, F, Fd⟩, ⟨c11b, Ft⟩, ⟨c12, c69s, cmk⟩, ⟨c14, c121s, c121, c122s⟩, ⟨c15b, c123s, c123, c124s⟩, ⟨c16, c125s, c125, c126s⟩, ⟨c17, c127s, c127, c128s, ctb⟩, ⟨c18, c139s, c139, c140s⟩, ⟨c19, c141s, ⟨c141a, c142s⟩, ⟨c141b, c143s⟩, ⟨c141c, c144s⟩⟩, M⟩ := id Z
  rcases h with hh | hh | ⟨n, hn, rfl, h⟩
  · refine zEi_of (lv := [some (.ref 139), some (.ref f), some (.ref g), some (.int a), none]) (by decide) rfl (Nat.le_of_ble_eq_true rfl) ?_
    refine z_iload_3 d_Seen_look_0 ?_
    refine z_if_lt (tgt := 20) d_Seen_look_1 (by decide) (fun _ => ?_) (fun h => absurd hh h)
    refine z_iconst (a := nI 0) d_Seen_look_20 (by decide) ?_
    refine z_retz d_Seen_look_21 (by first | exact zb0 | exact zb1 | assumption) ?_
    exact ⟨rfl, I, rfl, xF_r⟩
  · refine zEi_of (lv := [some (.ref 139), some (.ref f), some (.ref g), some (.int a), none]) (by decide) rfl (Nat.le_of_ble_eq_true rfl) ?_
    refine z_iload_3 d_Seen_look_0 ?_
    refine z_if_lt (tgt := 20) d_Seen_look_1 (by decide) (fun h1 => ?_) (fun h1 => ?_)
    · refine z_iconst (a := nI 0) d_Seen_look_20 (by decide) ?_
      refine z_retz d_Seen_look_21 (by first | exact zb0 | exact zb1 | assumption) ?_
      exact ⟨rfl, I, rfl, xF_r⟩
    · refine z_iload_3 d_Seen_look_4 ?_
      refine z_bipush (a := nI 7) d_Seen_look_5 (by decide) ?_
      refine z_icmp_gt (tgt := 20) d_Seen_look_7 (by decide) (fun _ => ?_) (fun h => absurd hh h)
      refine z_iconst (a := nI 0) d_Seen_look_20 (by decide) ?_
      refine z_retz d_Seen_look_21 (by first | exact zb0 | exact zb1 | assumption) ?_
      exact ⟨rfl, I, rfl, xF_r⟩
  · refine zEi_of (lv := [some (.ref 139), some (.ref f), some (.ref g), some (.int (nI n)), none]) (by decide) rfl (Nat.le_of_ble_eq_true rfl) ?_
    refine z_iload_3 d_Seen_look_0 ?_
    refine z_if_lt (tgt := 20) d_Seen_look_1 (by decide) (fun h => absurd h (nI_pos (by omega))) (fun _ => ?_)
    refine z_iload_3 d_Seen_look_4 ?_
    refine z_bipush (a := nI 7) d_Seen_look_5 (by decide) ?_
    refine z_icmp_gt (tgt := 20) d_Seen_look_7 (by decide) (fun h => absurd h (fun q => by have := (nI_ltI (by omega) (by omega)).mp q; omega)) (fun _ => ?_)
    refine z_aload_0 d_Seen_look_10 ?_
    refine z_aload_1 d_Seen_look_11 ?_
    refine z_aload_2 d_Seen_look_12 ?_
    refine z_iload_3 d_Seen_look_13 ?_
    refine z_Vi3 d_Seen_look_14 k_Seen_15 (by first | assumption | exact zS0_at (by assumption) (by omega) | exact zS0_at rfl (by omega)) (t_Seen_twos Z N T hg hn) ⟨Nat.le_of_ble_eq_true rfl, Nat.le_of_ble_eq_true rfl, Nat.le_of_ble_eq_true rfl, Nat.le_of_ble_eq_true rfl⟩ (Nat.le_of_ble_eq_true rfl) ?_
    rintro r w ⟨I2, rfl, g1, g2, ⟨u, g3, -⟩ | ⟨g3, rfl⟩⟩
    · exact absurd ⟨u, by rw [hX]; exact g3⟩ h
    · refine z_if_ne (tgt := 22) d_Seen_look_17 (by decide) (fun h => absurd (by decide) h) (fun _ => ?_)
      refine z_iconst (a := nI 0) d_Seen_look_20 (by decide) ?_
      refine z_retz d_Seen_look_21 (by first | exact zb0 | exact zb1 | assumption) ?_
      exact ⟨rfl, I2, rfl, g1⟩
theorem t_Seen_look (Z : clOk f d P S) (N : fenIn I f nt np nl nn) (T : trOk P S g) (hg : g < 18) (hX : X = J (g + 1)) (hn : n ≤ 7) (hw : tw X np n u) (hfb : ∀ s, s < 64 → (fb s = true ↔ fitS (I (f + 2)) X n s)) : zEi G y_Seen_look prog_8_method_2_code 5 (some .boolean) 3 [.ref 139, .ref f, .ref g, .int (nI n)] (I, J, P, S) (fun r w => r = nI 1 ∧ ∃ I' J', w = (I', J', P, S) ∧ xF 139 I I' ∧ (∀ q, q ≠ 139 → J' q = J q) ∧ I' 139 1 = nI (2 ^ nt) ∧ I' 139 2 = nI u ∧ fbL (J' 139 0) (2 ^ nt) fb) := by
  have hf := clOk_f Z
  obtain ⟨⟨c0, c3, c1s⟩, ⟨c5, c2s, ctr⟩, ⟨c6, c11s, c11, c13s⟩, ⟨c7, c15s, c15⟩, ⟨c8, c16s, c16a, c16b, c17s⟩, ⟨c9, c10, cfd, F, Fd⟩, ⟨c11b, Ft⟩, ⟨c12, c69s, cmk⟩, ⟨c14, c121s, c121, c122s⟩, ⟨c15b, c123s, c123, c124s⟩, ⟨c16, c125s, c125, c126s⟩, ⟨c17, c127s, c127, c128s, ctb⟩, ⟨c18, c139s, c139, c140s⟩, ⟨c19, c141s, ⟨c141a, c142s⟩, ⟨c141b, c143s⟩, ⟨c141c, c144s⟩⟩, M⟩ := id Z
  obtain ⟨F0, ⟨F8, F8s⟩, ⟨F9, F9s⟩, ⟨F10, F10s⟩, ⟨F11, F11s⟩, ⟨F12, F12s⟩, ⟨F13, F13s⟩, ⟨F14, F14s⟩, ⟨F15, F15s⟩, ⟨F16, F16s⟩, ⟨F17, F17s⟩, ⟨F18, F18s⟩, ⟨F19, F19s⟩, ⟨Y3, Y3s⟩, ⟨Y4, Y4s⟩, ⟨Y5, Y5s⟩, ⟨Y6, Y6s⟩⟩ := id F
  obtain ⟨⟨n1, n1b⟩, ⟨n2, n2b⟩, ⟨n3, n3b⟩, ⟨n4, n4b⟩, nof, non⟩ := id N
  have h0p : 0 < 2 ^ nt := Nat.pow_pos (by decide)
  have h64 : 2 ^ nt ≤ 64 := Nat.pow_le_pow_right (n := 2) (i := nt) (j := 6) (by decide) (by omega)
  refine zEi_of (lv := [some (.ref 139), some (.ref f), some (.ref g), some (.int (nI n)), none]) (by decide) rfl (Nat.le_of_ble_eq_true rfl) ?_
  refine z_iload_3 d_Seen_look_0 ?_
  refine z_if_lt (tgt := 20) d_Seen_look_1 (by decide) (fun h => absurd h (nI_pos (by omega))) (fun _ => ?_)
  refine z_iload_3 d_Seen_look_4 ?_
  refine z_bipush (a := nI 7) d_Seen_look_5 (by decide) ?_
  refine z_icmp_gt (tgt := 20) d_Seen_look_7 (by decide) (fun h => absurd h (fun q => by have := (nI_ltI (by omega) (by omega)).mp q; omega)) (fun _ => ?_)
  refine z_aload_0 d_Seen_look_10 ?_
  refine z_aload_1 d_Seen_look_11 ?_
  refine z_aload_2 d_Seen_look_12 ?_
  refine z_iload_3 d_Seen_look_13 ?_
  refine z_Vi3 d_Seen_look_14 k_Seen_15 (by first | assumption | exact zS0_at (by assumption) (by omega) | exact zS0_at rfl (by omega)) (t_Seen_twos Z N T hg hn) ⟨Nat.le_of_ble_eq_true rfl, Nat.le_of_ble_eq_true rfl, Nat.le_of_ble_eq_true rfl, Nat.le_of_ble_eq_true rfl⟩ (Nat.le_of_ble_eq_true rfl) ?_
  rintro r w ⟨I2, rfl, g1, g2, ⟨u', g3, rfl, g4⟩ | ⟨g3, rfl⟩⟩
  case inr => exact absurd ⟨u, by rw [← hX]; exact hw⟩ g3
  rw [← hX] at g3
  obtain rfl := tw_u n2b _ _ _ hw g3
  have n1' : I2 f 1 = nI nt := by rw [g1 f (by omega)]; exact n1
  obtain ⟨I3, hI3⟩ : ∃ I3, I3 = zu I2 139 1 (nI (2 ^ nt)) := ⟨_, rfl⟩
  have k1 : I3 139 1 = nI (2 ^ nt) := by rw [hI3]; exact zu_same _ _ _ _
  have k2 : I3 139 2 = nI u := by rw [hI3, zu_ne _ _ _ _ (by decide)]; exact g4
  have k3 : xF 139 I I3 := by rw [hI3]; exact xF_u g1
  have N3 : fenIn I3 f nt np nl nn := by
    unfold fenIn
    rw [k3 f (by omega), k3 (f + 5) (by omega), k3 (f + 6) (by omega)]
    exact N
  refine z_if_ne (tgt := 22) d_Seen_look_17 (by decide) (fun _ => ?_) (fun h => absurd h (by decide))
  refine z_aload_0 d_Seen_look_22 ?_
  refine z_iconst (a := nI 1) d_Seen_look_23 (by decide) ?_
  refine z_aload_1 d_Seen_look_24 ?_
  refine z_getIv d_Seen_look_25 f_Seen_19 (by first | assumption | exact zS0_at (by assumption) (by omega) | exact zS0_at rfl (by omega)) (by first | assumption | ((try simp (disch := omega) only [zu_same, zu_ne, zcp_ne, zfl_ne]); first | assumption | rfl)) ?_
  refine z_ishl d_Seen_look_28 ?_
  rw [nx_sh nt (by omega)]
  refine z_putI d_Seen_look_29 f_Seen_25 (by first | assumption | exact zS0_at (by assumption) (by omega) | exact zS0_at rfl (by omega)) ?_
  rw [← hI3]
  have lp : ∀ m j J2, 2 ^ nt - j < m → j ≤ 2 ^ nt → (∀ q, q ≠ 139 → J2 q = J q) → fbL (J2 139 0) j fb → zA G y_Seen_look prog_8_method_2_code 5 (some .boolean) (zRm 3 0 0) (zM G 0 0 (fun r w' => ∃ x, r = some (.int x) ∧ (fun r w => r = nI 1 ∧ ∃ I' J', w = (I', J', P, S) ∧ xF 139 I I' ∧ (∀ q, q ≠ 139 → J' q = J q) ∧ I' 139 1 = nI (2 ^ nt) ∧ I' 139 2 = nI u ∧ fbL (J' 139 0) (2 ^ nt) fb) x w')) 40 [some (.ref 139), some (.ref f), some (.ref g), some (.int (nI n)), some (.int (nI j))] [] (I3, J2, P, S) 0 0 := by
    intro m
    induction m with
    | zero => intro j J2 h; exact absurd h (Nat.not_lt_zero _)
    | succ m ih =>
      intro j J2 hm hj e1 e2
      refine z_iload_4 d_Seen_look_40 ?_
      refine z_aload_0 d_Seen_look_42 ?_
      refine z_getIv d_Seen_look_43 f_Seen_25 (by first | assumption | exact zS0_at (by assumption) (by omega) | exact zS0_at rfl (by omega)) (by first | assumption | ((try simp (disch := omega) only [zu_same, zu_ne, zcp_ne, zfl_ne]); first | assumption | rfl)) ?_
      refine z_icmp_ge (tgt := 79) d_Seen_look_46 (by decide) (fun hb => ?_) (fun hb => ?_)
      · have hb := (nI_leI (by omega) (by omega)).mp hb
        obtain rfl : j = 2 ^ nt := by omega
        refine z_iconst (a := nI 1) d_Seen_look_79 (by decide) ?_
        refine z_retz d_Seen_look_80 (by first | exact zb0 | exact zb1 | assumption) ?_
        exact ⟨rfl, I3, J2, rfl, k3, e1, k1, k2, e2⟩
      · have hb : j < 2 ^ nt := Nat.lt_of_not_le (fun q => hb (nI_le q (by omega)))
        refine z_aload_1 d_Seen_look_49 ?_
        refine z_aload_2 d_Seen_look_50 ?_
        refine z_iload_3 d_Seen_look_51 ?_
        refine z_iload_4 d_Seen_look_52 ?_
        refine z_Si4 d_Seen_look_54 k_Seen_32 (t_Seen_isSo Z N3 T (show X = J2 (g + 1) by rw [e1 (g + 1) (by omega)]; exact hX) hn hw (by omega)) ⟨Nat.le_of_ble_eq_true rfl, Nat.le_of_ble_eq_true rfl, Nat.le_of_ble_eq_true rfl, Nat.le_of_ble_eq_true rfl⟩ (Nat.le_of_ble_eq_true rfl) ?_
        intro r w hq
        rw [k3 (f + 2) (by omega), ← hfb j (by omega)] at hq
        rcases hq with ⟨⟨hz, rfl⟩ | ⟨hz, rfl⟩, rfl⟩
        · refine z_if_eq (tgt := 73) d_Seen_look_57 (by decide) (fun h => absurd h (by decide)) (fun _ => ?_)
          refine z_aload_0 d_Seen_look_60 ?_
          refine z_dup rfl d_Seen_look_61 ?_
          refine z_getJv d_Seen_look_62 f_Seen_28 (by first | assumption | exact zS0_at (by assumption) (by omega) | exact zS0_at rfl (by omega)) (by first | assumption | ((try simp (disch := omega) only [zu_same, zu_ne, zcp_ne, zfl_ne]); first | assumption | rfl)) ?_
          refine z_lconst (f := lN 1) d_Seen_look_65 rfl ?_
          refine z_iload_4 d_Seen_look_66 ?_
          refine z_lshl d_Seen_look_68 ?_
          refine z_lor d_Seen_look_69 ?_
          refine z_putJ d_Seen_look_70 f_Seen_28 (by first | assumption | exact zS0_at (by assumption) (by omega) | exact zS0_at rfl (by omega)) ?_
          first | refine z_iinc_4 d_Seen_look_73 rfl (zi_inc _) ?_ | refine z_iinc_4 d_Seen_look_73 rfl rfl ?_
          refine z_goto (tgt := 40) d_Seen_look_76 (by decide) ?_
          refine ih (j + 1) _ (by omega) (by omega) (fun q hq => (zu_row _ _ _ _ hq).trans (e1 q hq)) ?_
          intro i hi
          rw [zu_same, U_or, U_one j (by omega), Nat.testBit_or, e2 i hi, Nat.testBit_two_pow]
          by_cases h : i = j
          · subst h
            rw [decide_eq_true (show i < i + 1 by omega), hz]
            simp
          · by_cases h2 : i < j
            · rw [decide_eq_true h2, decide_eq_true (show i < j + 1 by omega)]
              simp [Ne.symm h]
            · rw [decide_eq_false h2, decide_eq_false (show ¬ i < j + 1 by omega)]
              simp [Ne.symm h]
        · have hz : fb j = false := Bool.eq_false_iff.mpr hz
          refine z_if_eq (tgt := 73) d_Seen_look_57 (by decide) (fun _ => ?_) (fun h => absurd (by decide) h)
          first | refine z_iinc_4 d_Seen_look_73 rfl (zi_inc _) ?_ | refine z_iinc_4 d_Seen_look_73 rfl rfl ?_
          refine z_goto (tgt := 40) d_Seen_look_76 (by decide) ?_
          refine ih (j + 1) J2 (by omega) (by omega) e1 ?_
          intro i hi
          rw [e2 i hi]
          by_cases h : i = j
          · subst h
            rw [hz, Bool.and_false, Bool.and_false]
          · by_cases h2 : i < j
            · rw [decide_eq_true h2, decide_eq_true (show i < j + 1 by omega)]
            · rw [decide_eq_false h2, decide_eq_false (show ¬ i < j + 1 by omega)]
  refine z_aload_0 d_Seen_look_32 ?_
  refine z_lconst (f := lN 0) d_Seen_look_33 rfl ?_
  refine z_putJ d_Seen_look_34 f_Seen_28 (by first | assumption | exact zS0_at (by assumption) (by omega) | exact zS0_at rfl (by omega)) ?_
  refine z_iconst (a := nI 0) d_Seen_look_37 (by decide) ?_
  first | refine z_istore_4 d_Seen_look_38 rfl ?_ | (refine z_forget_3 ?_; refine z_istore_4 d_Seen_look_38 rfl ?_)
  refine lp (2 ^ nt + 1) 0 _ (by omega) (by omega) (fun q hq => zu_row _ _ _ _ hq) ?_
  intro i hi
  rw [zu_same, show U64 (lN 0) = 0 by decide, Nat.zero_testBit]
  rfl
def fbC (k : Nat) (fb : Nat → Bool) : Nat := sl 64 (fun i => if decide (i < k) && fb i then 1 else 0)
theorem fbC_eq (hb : fbL x k fb) : pcL (U64 x) = fbC k fb := by
  unfold pcL fbC
  exact sl_c (fun i hi => by rw [hb i hi])
theorem t_Seen_howMany (Z : clOk f d P S) (hb : fbL (J 139 0) k fb) : zEi G y_Seen_howMany prog_8_method_5_code 1 (some .int) 2 [.ref 139] (I, J, P, S) (fun r w => r = nI (fbC k fb) ∧ w = (I, J, P, S)) := by
  obtain ⟨⟨c0, c3, c1s⟩, ⟨c5, c2s, ctr⟩, ⟨c6, c11s, c11, c13s⟩, ⟨c7, c15s, c15⟩, ⟨c8, c16s, c16a, c16b, c17s⟩, ⟨c9, c10, cfd, F, Fd⟩, ⟨c11b, Ft⟩, ⟨c12, c69s, cmk⟩, ⟨c14, c121s, c121, c122s⟩, ⟨c15b, c123s, c123, c124s⟩, ⟨c16, c125s, c125, c126s⟩, ⟨c17, c127s, c127, c128s, ctb⟩, ⟨c18, c139s, c139, c140s⟩, ⟨c19, c141s, ⟨c141a, c142s⟩, ⟨c141b, c143s⟩, ⟨c141c, c144s⟩⟩, M⟩ := id Z
  refine zEi_of (lv := [some (.ref 139)]) (by decide) rfl (Nat.le_of_ble_eq_true rfl) ?_
  refine z_aload_0 d_Seen_howMany_0 ?_
  refine z_getJv d_Seen_howMany_1 f_Seen_28 (by first | assumption | exact zS0_at (by assumption) (by omega) | exact zS0_at rfl (by omega)) (by first | assumption | ((try simp (disch := omega) only [zu_same, zu_ne, zcp_ne, zfl_ne]); first | assumption | rfl)) ?_
  refine z_Si1 d_Seen_howMany_4 k_Seen_59 (t_JLong_bitCount) ⟨Nat.le_of_ble_eq_true rfl, Nat.le_of_ble_eq_true rfl, Nat.le_of_ble_eq_true rfl, Nat.le_of_ble_eq_true rfl⟩ (Nat.le_of_ble_eq_true rfl) ?_
  intro r w hq
  obtain ⟨rfl, rfl⟩ := hq
  rw [fbC_eq hb]
  refine z_reti d_Seen_howMany_7 ?_
  exact ⟨rfl, rfl⟩
end SG0
