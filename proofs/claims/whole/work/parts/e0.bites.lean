/-! bites: both sides, together -/
section BI0
variable {G : zG} {I I' I1 I2 I3 : Nat → Nat → Int32} {J J' J2 J3 : Nat → Nat → Int64} {P : Nat → Nat → Option Nat} {S : List (Nat × Nat)} {f d dd nt np nl nn n fed mk t k p q s i o L m tm bs : Nat} {a b c : Int32} {w : zW} {v : Nat → Nat}
def bn : Nat → Nat → Nat
  | _, 0 => 1
  | 0, _ + 1 => 0
  | n + 1, k + 1 => bn n k + bn n (k + 1)
/-- how many of 16 to the power of d draws find i -/
def ch (o : Nat) : Nat → Nat → Nat
  | 0, 0 => 1
  | 0, _ + 1 => 0
  | d + 1, 0 => ch o d 0 * (16 - o)
  | d + 1, i + 1 => ch o d (i + 1) * (16 - o) + ch o d i * o
theorem bn_s : ∀ L, L < 10 → ∀ j, j < 10 → j ≤ L → bn L j * (L - j) / (j + 1) = bn L (j + 1) := by decide +kernel
theorem bn_le : ∀ L, L < 10 → ∀ j, j < 10 → bn L j * (L - j) < 10000 := by decide +kernel
theorem ch_bn : ∀ o, o < 17 → ∀ L, L < 10 → ∀ j, j < 10 → bn L j * o ^ j * (16 - o) ^ (L - j) = ch o L j := by decide +kernel
theorem ch_le : ∀ o, o < 17 → ∀ L, L < 10 → ∀ j, j < 10 → ch o L j ≤ 68719476736 := by decide +kernel
theorem ch_z : ∀ o, o < 17 → ∀ L, L < 10 → ∀ j, j < 10 → L < j → ch o L j = 0 := by decide +kernel
def sK (v : Nat → Nat) (k : Nat) : Nat → Nat
  | 0 => 0
  | n + 1 => if k ≤ n then sK v k n + v n else sK v k n
theorem sK_t (h : k ≤ n) : sK v k (n + 1) = sK v k n + v n := if_pos h
theorem sK_f (h : ¬ k ≤ n) : sK v k (n + 1) = sK v k n := if_neg h
theorem sK_0 : ∀ n, n ≤ k → sK v k n = 0 := by
  intro n
  induction n with
  | zero => intro _; rfl
  | succ n ih => intro h; rw [sK_f (by omega), ih (by omega)]
theorem sK_z : ∀ m, (∀ i, n ≤ i → i < n + m → v i = 0) → sK v k (n + m) = sK v k n := by
  intro m
  induction m with
  | zero => intro _; rfl
  | succ m ih =>
    intro h
    rw [← Nat.add_assoc]
    have e := ih (fun i h1 h2 => h i h1 (by omega))
    by_cases hk : k ≤ n + m
    · rw [sK_t hk, e, h (n + m) (by omega) (by omega), Nat.add_zero]
    · rw [sK_f hk, e]
theorem sK_le {B : Nat} : ∀ n, (∀ i, i < n → v i ≤ B) → sK v k n ≤ n * B := by
  intro n
  induction n with
  | zero => intro _; exact Nat.zero_le _
  | succ n ih =>
    intro h
    have e := ih (fun i h1 => h i (by omega))
    have e2 := h n (by omega)
    rw [Nat.succ_mul]
    by_cases hk : k ≤ n
    · rw [sK_t hk]; omega
    · rw [sK_f hk]; omega
theorem sh16 : ∀ L, L < 10 → lN 1 <<< ((nI (4 * L)).toInt64 &&& 63) = lN (16 ^ L) := by decide +kernel
theorem p16 (h : L ≤ 9) : 16 ^ L < 2 ^ 40 ∧ 0 < 16 ^ L := by
  have h1 : 16 ^ L ≤ 16 ^ 9 := Nat.pow_le_pow_right (by decide) h
  have h2 : 0 < 16 ^ L := Nat.pow_pos (by decide)
  have h3 : 16 ^ 9 < 2 ^ 40 := by decide
  omega
theorem t_Tf_power (hb : bs ≤ 16) (hm : tm ≤ 9) : zEl G y_Tf_power prog_1_method_70_code 5 (some .long) 1 [.int (nI bs), .int (nI tm)] (I, J, P, S) (fun r w => r = lN (bs ^ tm) ∧ w = (I, J, P, S)) := by
  refine zEl_of (lv := [some (.int (nI bs)), some (.int (nI tm)), none, none, none]) (by decide) rfl (Nat.le_of_ble_eq_true rfl) ?_
  have loop : ∀ m j, tm - j < m → j ≤ tm → zA G y_Tf_power prog_1_method_70_code 5 (some .long) (zRm 1 0 0) (zM G 0 0 (fun r w' => ∃ x, r = some (.long x) ∧ (fun r w => r = lN (bs ^ tm) ∧ w = (I, J, P, S)) x w')) 5 [some (.int (nI bs)), some (.int (nI tm)), some (.long (lN (bs ^ j))), none, some (.int (nI j))] [] (I, J, P, S) 0 0 := by
    intro m
    induction m with
    | zero => intro j h; omega
    | succ m ih =>
      intro j hm hj
      refine z_iload_4 d_Tf_power_5 ?_
      refine z_iload_1 d_Tf_power_7 ?_
      refine z_icmp_ge (tgt := 22) d_Tf_power_8 (by decide) (fun hc => ?_) (fun hc => ?_)
      · have hc := (nI_leI (by omega) (by omega)).mp hc
        obtain rfl : j = tm := by omega
        refine z_lload_2 d_Tf_power_22 ?_
        refine z_retl d_Tf_power_23 ?_
        exact ⟨rfl, rfl⟩
      · have hc : j < tm := Nat.lt_of_not_le (fun q => hc (nI_le q (by omega)))
        have q := ih (j + 1) (by omega) (by omega)
        refine z_lload_2 d_Tf_power_11 ?_
        refine z_iload_0 d_Tf_power_12 ?_
        refine z_i2l d_Tf_power_13 ?_
        rw [nI_l (by omega)]
        refine z_lmul d_Tf_power_14 ?_
        rw [lN_mul, ← Nat.pow_succ]
        first | refine z_lstore_2 d_Tf_power_15 rfl ?_ | (refine z_forget_1 ?_; refine z_lstore_2 d_Tf_power_15 rfl ?_)
        first | refine z_iinc_4 d_Tf_power_16 rfl (zi_inc _) ?_ | refine z_iinc_4 d_Tf_power_16 rfl rfl ?_
        refine z_goto (tgt := 5) d_Tf_power_19 (by decide) ?_
        exact q
  refine z_lconst (f := lN 1) d_Tf_power_0 rfl ?_
  first | refine z_lstore_2 d_Tf_power_1 rfl ?_ | (refine z_forget_1 ?_; refine z_lstore_2 d_Tf_power_1 rfl ?_)
  refine z_iconst (a := nI 0) d_Tf_power_2 (by decide) ?_
  first | refine z_istore_4 d_Tf_power_3 rfl ?_ | (refine z_forget_3 ?_; refine z_istore_4 d_Tf_power_3 rfl ?_)
  exact loop (tm + 1) 0 (by omega) (by omega)
theorem t_Tf_bitesTop (Z : clOk f dd P S) (ho : I f 0 = nI o) (ho6 : o ≤ 16) (hL : L ≤ 9) (hk : k ≤ 9) : zEl G y_Tf_bitesTop prog_1_method_69_code 8 (some .long) 2 [.ref 0, .int (nI L), .int (nI k)] (I, J, P, S) (fun r w => r = lN (sK (ch o L) k (L + 1)) ∧ w = (I, J, P, S)) := by
  have hf := clOk_f Z
  obtain ⟨⟨c0, c3, c1s⟩, ⟨c5, c2s, ctr⟩, ⟨c6, c11s, c11, c13s⟩, ⟨c7, c15s, c15⟩, ⟨c8, c16s, c16a, c16b, c17s⟩, ⟨c9, c10, cfd, F, Fd⟩, ⟨c11b, Ft⟩, ⟨c12, c69s, cmk⟩, ⟨c14, c121s, c121, c122s⟩, ⟨c15b, c123s, c123, c124s⟩, ⟨c16, c125s, c125, c126s⟩, ⟨c17, c127s, c127, c128s, ctb⟩, ⟨c18, c139s, c139, c140s⟩, ⟨c19, c141s, ⟨c141a, c142s⟩, ⟨c141b, c143s⟩, ⟨c141c, c144s⟩⟩, M⟩ := id Z
  obtain ⟨F0, ⟨F8, F8s⟩, ⟨F9, F9s⟩, ⟨F10, F10s⟩, ⟨F11, F11s⟩, ⟨F12, F12s⟩, ⟨F13, F13s⟩, ⟨F14, F14s⟩, ⟨F15, F15s⟩, ⟨F16, F16s⟩, ⟨F17, F17s⟩, ⟨F18, F18s⟩, ⟨F19, F19s⟩, ⟨Y3, Y3s⟩, ⟨Y4, Y4s⟩, ⟨Y5, Y5s⟩, ⟨Y6, Y6s⟩⟩ := id F
  refine zEl_of (lv := [some (.ref 0), some (.int (nI L)), some (.int (nI k)), none, none, none, none, none]) (by decide) rfl (Nat.le_of_ble_eq_true rfl) ?_
  have lp : ∀ z j, L + 1 - j < z → j ≤ L + 1 → zA G y_Tf_bitesTop prog_1_method_69_code 8 (some .long) (zRm 2 0 0) (zM G 0 0 (fun r w' => ∃ x, r = some (.long x) ∧ (fun r w => r = lN (sK (ch o L) k (L + 1)) ∧ w = (I, J, P, S)) x w')) 8 [some (.ref 0), some (.int (nI L)), some (.int (nI k)), some (.long (lN (sK (ch o L) k j))), none, some (.long (lN (bn L j))), none, some (.int (nI j))] [] (I, J, P, S) 0 0 := by
    intro z
    induction z with
    | zero => intro j h; exact absurd h (Nat.not_lt_zero _)
    | succ z ih =>
      intro j hz hj
      refine z_iload_7 d_Tf_bitesTop_8 ?_
      refine z_iload_1 d_Tf_bitesTop_10 ?_
      refine z_icmp_gt (tgt := 78) d_Tf_bitesTop_11 (by decide) (fun hb => ?_) (fun hb => ?_)
      · have hb := (nI_ltI (by omega) (by omega)).mp hb
        obtain rfl : j = L + 1 := by omega
        refine z_lload_3 d_Tf_bitesTop_78 ?_
        refine z_retl d_Tf_bitesTop_79 ?_
        exact ⟨rfl, rfl⟩
      · have hb : j ≤ L := by
          rcases Nat.lt_or_ge L j with h | h
          · exact absurd (nI_lt h (by omega)) hb
          · exact h
        have hbs := bn_s L (by omega) j (by omega) hb
        have hbl := bn_le L (by omega) j (by omega)
        have q := ih (j + 1) (by omega) (by omega)
        have cm : ∀ s', s' = sK (ch o L) k (j + 1) → zA G y_Tf_bitesTop prog_1_method_69_code 8 (some .long) (zRm 2 0 0) (zM G 0 0 (fun r w' => ∃ x, r = some (.long x) ∧ (fun r w => r = lN (sK (ch o L) k (L + 1)) ∧ w = (I, J, P, S)) x w')) 56 [some (.ref 0), some (.int (nI L)), some (.int (nI k)), some (.long (lN s')), none, some (.long (lN (bn L j))), none, some (.int (nI j))] [] (I, J, P, S) 0 0 := by
          intro s' hs'
          rw [← hs'] at q
          refine z_lload_5 d_Tf_bitesTop_56 ?_
          refine z_iload_1 d_Tf_bitesTop_58 ?_
          refine z_iload_7 d_Tf_bitesTop_59 ?_
          first | refine z_isubN d_Tf_bitesTop_61 (by omega) ?_ | refine z_isub d_Tf_bitesTop_61 ?_
          refine z_i2l d_Tf_bitesTop_62 ?_
          rw [nI_l (by omega)]
          refine z_lmul d_Tf_bitesTop_63 ?_
          rw [lN_mul]
          refine z_iload_7 d_Tf_bitesTop_64 ?_
          refine z_iconst (a := nI 1) d_Tf_bitesTop_66 (by decide) ?_
          first | refine z_iaddN d_Tf_bitesTop_67 ?_ | refine z_iadd d_Tf_bitesTop_67 ?_
          refine z_i2l d_Tf_bitesTop_68 ?_
          rw [nI_l (by omega)]
          refine z_ldiv (lN_ne0 (by omega) (by omega)) d_Tf_bitesTop_69 ?_
          rw [pk_lDiv (by omega) (by omega) (by omega), hbs]
          first | refine z_lstore_5 d_Tf_bitesTop_70 rfl ?_ | (refine z_forget_4 ?_; refine z_lstore_5 d_Tf_bitesTop_70 rfl ?_)
          first | refine z_iinc_7 d_Tf_bitesTop_72 rfl (zi_inc _) ?_ | refine z_iinc_7 d_Tf_bitesTop_72 rfl rfl ?_
          refine z_goto (tgt := 8) d_Tf_bitesTop_75 (by decide) ?_
          exact q
        refine z_iload_7 d_Tf_bitesTop_14 ?_
        refine z_iload_2 d_Tf_bitesTop_16 ?_
        refine z_icmp_lt (tgt := 56) d_Tf_bitesTop_17 (by decide) (fun hc => ?_) (fun hc => ?_)
        · have hc := (nI_ltI (by omega) (by omega)).mp hc
          exact cm _ (by rw [sK_f (by omega)])
        · have hc : k ≤ j := by
            rcases Nat.lt_or_ge j k with h | h
            · exact absurd (nI_lt h (by omega)) hc
            · exact h
          refine z_lload_3 d_Tf_bitesTop_20 ?_
          refine z_lload_5 d_Tf_bitesTop_21 ?_
          refine z_aload_0 d_Tf_bitesTop_23 ?_
          refine z_getR d_Tf_bitesTop_24 f_Tf_60 (by first | assumption | exact zS0_at (by assumption) (by omega) | exact zS0_at rfl (by omega)) (by first | assumption | exact zS0_at (by assumption) (by omega) | exact zS0_at rfl (by omega)) ?_
          refine z_getIv d_Tf_bitesTop_27 f_Tf_208 (by first | assumption | exact zS0_at (by assumption) (by omega) | exact zS0_at rfl (by omega)) (by first | assumption | ((try simp (disch := omega) only [zu_same, zu_ne, zcp_ne, zfl_ne]); first | assumption | rfl)) ?_
          refine z_iload_7 d_Tf_bitesTop_30 ?_
          refine z_Sl2 d_Tf_bitesTop_32 k_Tf_421 (t_Tf_power ho6 (by omega)) ⟨Nat.le_of_ble_eq_true rfl, Nat.le_of_ble_eq_true rfl, Nat.le_of_ble_eq_true rfl, Nat.le_of_ble_eq_true rfl⟩ (Nat.le_of_ble_eq_true rfl) ?_
          intro r w hq
          obtain ⟨rfl, rfl⟩ := hq
          refine z_lmul d_Tf_bitesTop_35 ?_
          rw [lN_mul]
          refine z_bipush (a := nI 16) d_Tf_bitesTop_36 (by decide) ?_
          refine z_aload_0 d_Tf_bitesTop_38 ?_
          refine z_getR d_Tf_bitesTop_39 f_Tf_60 (by first | assumption | exact zS0_at (by assumption) (by omega) | exact zS0_at rfl (by omega)) (by first | assumption | exact zS0_at (by assumption) (by omega) | exact zS0_at rfl (by omega)) ?_
          refine z_getIv d_Tf_bitesTop_42 f_Tf_208 (by first | assumption | exact zS0_at (by assumption) (by omega) | exact zS0_at rfl (by omega)) (by first | assumption | ((try simp (disch := omega) only [zu_same, zu_ne, zcp_ne, zfl_ne]); first | assumption | rfl)) ?_
          first | refine z_isubN d_Tf_bitesTop_45 (by omega) ?_ | refine z_isub d_Tf_bitesTop_45 ?_
          refine z_iload_1 d_Tf_bitesTop_46 ?_
          refine z_iload_7 d_Tf_bitesTop_47 ?_
          first | refine z_isubN d_Tf_bitesTop_49 (by omega) ?_ | refine z_isub d_Tf_bitesTop_49 ?_
          refine z_Sl2 d_Tf_bitesTop_50 k_Tf_421 (t_Tf_power (by omega) (by omega)) ⟨Nat.le_of_ble_eq_true rfl, Nat.le_of_ble_eq_true rfl, Nat.le_of_ble_eq_true rfl, Nat.le_of_ble_eq_true rfl⟩ (Nat.le_of_ble_eq_true rfl) ?_
          intro r w hq
          obtain ⟨rfl, rfl⟩ := hq
          refine z_lmul d_Tf_bitesTop_53 ?_
          rw [lN_mul]
          refine z_ladd d_Tf_bitesTop_54 ?_
          rw [lN_add, ch_bn o (by omega) L (by omega) j (by omega)]
          first | refine z_lstore_3 d_Tf_bitesTop_55 rfl ?_ | (refine z_forget_2 ?_; refine z_lstore_3 d_Tf_bitesTop_55 rfl ?_)
          exact cm _ (by rw [sK_t hc])
  have q := lp (L + 2) 0 (by omega) (by omega)
  rw [show bn L 0 = 1 by cases L <;> rfl] at q
  refine z_lconst (f := lN 0) d_Tf_bitesTop_0 rfl ?_
  first | refine z_lstore_3 d_Tf_bitesTop_1 rfl ?_ | (refine z_forget_2 ?_; refine z_lstore_3 d_Tf_bitesTop_1 rfl ?_)
  refine z_lconst (f := lN 1) d_Tf_bitesTop_2 rfl ?_
  first | refine z_lstore_5 d_Tf_bitesTop_3 rfl ?_ | (refine z_forget_4 ?_; refine z_lstore_5 d_Tf_bitesTop_3 rfl ?_)
  refine z_iconst (a := nI 0) d_Tf_bitesTop_5 (by decide) ?_
  first | refine z_istore_7 d_Tf_bitesTop_6 rfl ?_ | (refine z_forget_6 ?_; refine z_istore_7 d_Tf_bitesTop_6 rfl ?_)
  exact q
theorem t_Tf_bites_o (Z : clOk f dd P S) (N : fenIn I f nt np nl nn) (h : ¬ zin a np) : zEi G y_Tf_bites prog_1_method_46_code 4 (some .boolean) 3 [.ref 0, .int a, .int b] (I, J, P, S) (fun r w => r = nI 0 ∧ cW I J P S 2 w) := by
  obtain ⟨⟨c0, c3, c1s⟩, ⟨c5, c2s, ctr⟩, ⟨c6, c11s, c11, c13s⟩, ⟨c7, c15s, c15⟩, ⟨c8, c16s, c16a, c16b, c17s⟩, ⟨c9, c10, cfd, F, Fd⟩, ⟨c11b, Ft⟩, ⟨c12, c69s, cmk⟩, ⟨c14, c121s, c121, c122s⟩, ⟨c15b, c123s, c123, c124s⟩, ⟨c16, c125s, c125, c126s⟩, ⟨c17, c127s, c127, c128s, ctb⟩, ⟨c18, c139s, c139, c140s⟩, ⟨c19, c141s, ⟨c141a, c142s⟩, ⟨c141b, c143s⟩, ⟨c141c, c144s⟩⟩, M⟩ := id Z
  refine zEi_of (lv := [some (.ref 0), some (.int a), some (.int b), none]) (by decide) rfl (Nat.le_of_ble_eq_true rfl) ?_
  refine z_aload_0 d_Tf_bites_0 ?_
  refine z_iload_1 d_Tf_bites_1 ?_
  refine z_Vi1 d_Tf_bites_2 k_Tf_234 (by first | assumption | exact zS0_at (by assumption) (by omega) | exact zS0_at rfl (by omega)) (t_Tf_noPerson Z N) ⟨Nat.le_of_ble_eq_true rfl, Nat.le_of_ble_eq_true rfl, Nat.le_of_ble_eq_true rfl, Nat.le_of_ble_eq_true rfl⟩ (Nat.le_of_ble_eq_true rfl) ?_
  intro r w hq
  rcases hq with ⟨⟨hz, rfl⟩ | ⟨hz, rfl⟩, rfl⟩
  · refine z_if_eq (tgt := 14) d_Tf_bites_5 (by decide) (fun h => absurd h (by decide)) (fun _ => ?_)
    refine z_aload_0 d_Tf_bites_8 ?_
    refine z_iconst (a := nI 2) d_Tf_bites_9 (by decide) ?_
    refine z_Vi1 d_Tf_bites_10 k_Tf_119 (by first | assumption | exact zS0_at (by assumption) (by omega) | exact zS0_at rfl (by omega)) (t_Tf_refuse c0) ⟨Nat.le_of_ble_eq_true rfl, Nat.le_of_ble_eq_true rfl, Nat.le_of_ble_eq_true rfl, Nat.le_of_ble_eq_true rfl⟩ (Nat.le_of_ble_eq_true rfl) ?_
    intro r w hq
    obtain ⟨rfl, rfl⟩ := hq
    refine z_retz d_Tf_bites_13 (by first | exact zb0 | exact zb1 | assumption) ?_
    exact ⟨rfl, cW_0⟩
  · exact absurd hz h
theorem t_Tf_bites_b (Z : clOk f dd P S) (N : fenIn I f nt np nl nn) (ha : zin a np) (h : b < 0 ∨ nI 9 < b) : zEi G y_Tf_bites prog_1_method_46_code 4 (some .boolean) 3 [.ref 0, .int a, .int b] (I, J, P, S) (fun r w => r = nI 0 ∧ cW I J P S 5 w) := by
  obtain ⟨⟨c0, c3, c1s⟩, ⟨c5, c2s, ctr⟩, ⟨c6, c11s, c11, c13s⟩, ⟨c7, c15s, c15⟩, ⟨c8, c16s, c16a, c16b, c17s⟩, ⟨c9, c10, cfd, F, Fd⟩, ⟨c11b, Ft⟩, ⟨c12, c69s, cmk⟩, ⟨c14, c121s, c121, c122s⟩, ⟨c15b, c123s, c123, c124s⟩, ⟨c16, c125s, c125, c126s⟩, ⟨c17, c127s, c127, c128s, ctb⟩, ⟨c18, c139s, c139, c140s⟩, ⟨c19, c141s, ⟨c141a, c142s⟩, ⟨c141b, c143s⟩, ⟨c141c, c144s⟩⟩, M⟩ := id Z
  refine zEi_of (lv := [some (.ref 0), some (.int a), some (.int b), none]) (by decide) rfl (Nat.le_of_ble_eq_true rfl) ?_
  refine z_aload_0 d_Tf_bites_0 ?_
  refine z_iload_1 d_Tf_bites_1 ?_
  refine z_Vi1 d_Tf_bites_2 k_Tf_234 (by first | assumption | exact zS0_at (by assumption) (by omega) | exact zS0_at rfl (by omega)) (t_Tf_noPerson Z N) ⟨Nat.le_of_ble_eq_true rfl, Nat.le_of_ble_eq_true rfl, Nat.le_of_ble_eq_true rfl, Nat.le_of_ble_eq_true rfl⟩ (Nat.le_of_ble_eq_true rfl) ?_
  intro r w hq
  rcases hq with ⟨⟨hz, rfl⟩ | ⟨hz, rfl⟩, rfl⟩
  · exact absurd ha hz
  · have bad : zA G y_Tf_bites prog_1_method_46_code 4 (some .boolean) (zRm 3 0 0) (zM G 0 0 (fun r w' => ∃ x, r = some (.int x) ∧ (fun r w => r = nI 0 ∧ cW I J P S 5 w) x w')) 24 [some (.ref 0), some (.int a), some (.int b), none] [] (I, J, P, S) 0 0 := by
      refine z_aload_0 d_Tf_bites_24 ?_
      refine z_iconst (a := nI 5) d_Tf_bites_25 (by decide) ?_
      refine z_Vi1 d_Tf_bites_26 k_Tf_119 (by first | assumption | exact zS0_at (by assumption) (by omega) | exact zS0_at rfl (by omega)) (t_Tf_refuse c0) ⟨Nat.le_of_ble_eq_true rfl, Nat.le_of_ble_eq_true rfl, Nat.le_of_ble_eq_true rfl, Nat.le_of_ble_eq_true rfl⟩ (Nat.le_of_ble_eq_true rfl) ?_
      intro r w hq
      obtain ⟨rfl, rfl⟩ := hq
      refine z_retz d_Tf_bites_29 (by first | exact zb0 | exact zb1 | assumption) ?_
      exact ⟨rfl, cW_0⟩
    refine z_if_eq (tgt := 14) d_Tf_bites_5 (by decide) (fun _ => ?_) (fun h => absurd (by decide) h)
    refine z_iload_2 d_Tf_bites_14 ?_
    refine z_if_lt (tgt := 24) d_Tf_bites_15 (by decide) (fun h1 => ?_) (fun h1 => ?_)
    · exact bad
    · refine z_iload_2 d_Tf_bites_18 ?_
      refine z_bipush (a := nI 9) d_Tf_bites_19 (by decide) ?_
      refine z_icmp_le (tgt := 30) d_Tf_bites_21 (by decide) (fun h2 => ?_) (fun h2 => ?_)
      · rcases h with h | h
        · exact absurd h h1
        · exact absurd h (Int32.not_lt.mpr h2)
      · exact bad
theorem t_Tf_bites (Z : clOk f dd P S) (N : fenIn I f nt np nl nn) (ho : I f 0 = nI o) (ho6 : o ≤ 16) (hp : p < np) (hk : k ≤ 9) (hx : s_set (fun t => decide (I (f + 6) t = nI p)) nn &&& I f 6 = nI m) (hm : m < 512) (hL : pcN m = L) (hL9 : L ≤ 9) : zEi G y_Tf_bites prog_1_method_46_code 4 (some .boolean) 3 [.ref 0, .int (nI p), .int (nI k)] (I, J, P, S) (fun r w => r = nI 1 ∧ w = (zu I 0 0 (nI 0), zu (zu J 0 1 (lN (sK (ch o L) k (L + 1) / Nat.gcd (sK (ch o L) k (L + 1)) (16 ^ L)))) 0 2 (lN (16 ^ L / Nat.gcd (sK (ch o L) k (L + 1)) (16 ^ L))), P, S)) := by
  have hf := clOk_f Z
  obtain ⟨⟨c0, c3, c1s⟩, ⟨c5, c2s, ctr⟩, ⟨c6, c11s, c11, c13s⟩, ⟨c7, c15s, c15⟩, ⟨c8, c16s, c16a, c16b, c17s⟩, ⟨c9, c10, cfd, F, Fd⟩, ⟨c11b, Ft⟩, ⟨c12, c69s, cmk⟩, ⟨c14, c121s, c121, c122s⟩, ⟨c15b, c123s, c123, c124s⟩, ⟨c16, c125s, c125, c126s⟩, ⟨c17, c127s, c127, c128s, ctb⟩, ⟨c18, c139s, c139, c140s⟩, ⟨c19, c141s, ⟨c141a, c142s⟩, ⟨c141b, c143s⟩, ⟨c141c, c144s⟩⟩, M⟩ := id Z
  obtain ⟨F0, ⟨F8, F8s⟩, ⟨F9, F9s⟩, ⟨F10, F10s⟩, ⟨F11, F11s⟩, ⟨F12, F12s⟩, ⟨F13, F13s⟩, ⟨F14, F14s⟩, ⟨F15, F15s⟩, ⟨F16, F16s⟩, ⟨F17, F17s⟩, ⟨F18, F18s⟩, ⟨F19, F19s⟩, ⟨Y3, Y3s⟩, ⟨Y4, Y4s⟩, ⟨Y5, Y5s⟩, ⟨Y6, Y6s⟩⟩ := id F
  have hs : sK (ch o L) k (L + 1) < 2 ^ 40 := by
    have h1 := sK_le (v := ch o L) (k := k) (B := 68719476736) (L + 1) (fun i hi => ch_le o (by omega) L (by omega) i (by omega))
    have h2 : (L + 1) * 68719476736 ≤ 10 * 68719476736 := Nat.mul_le_mul_right _ (by omega)
    omega
  have hu := p16 hL9
  obtain ⟨U, hU⟩ : ∃ U, U = 16 ^ L := ⟨_, rfl⟩
  obtain ⟨V, hV⟩ : ∃ V, V = sK (ch o L) k (L + 1) := ⟨_, rfl⟩
  rw [← hU, ← hV]
  rw [← hU] at hu
  rw [← hV] at hs
  refine zEi_of (lv := [some (.ref 0), some (.int (nI p)), some (.int (nI k)), none]) (by decide) rfl (Nat.le_of_ble_eq_true rfl) ?_
  refine z_aload_0 d_Tf_bites_0 ?_
  refine z_iload_1 d_Tf_bites_1 ?_
  refine z_Vi1 d_Tf_bites_2 k_Tf_234 (by first | assumption | exact zS0_at (by assumption) (by omega) | exact zS0_at rfl (by omega)) (t_Tf_noPerson Z N) ⟨Nat.le_of_ble_eq_true rfl, Nat.le_of_ble_eq_true rfl, Nat.le_of_ble_eq_true rfl, Nat.le_of_ble_eq_true rfl⟩ (Nat.le_of_ble_eq_true rfl) ?_
  intro r w hq
  rcases hq with ⟨⟨hz, rfl⟩ | ⟨hz, rfl⟩, rfl⟩
  · exact absurd ⟨p, hp, rfl⟩ hz
  · refine z_if_eq (tgt := 14) d_Tf_bites_5 (by decide) (fun _ => ?_) (fun h => absurd (by decide) h)
    refine z_iload_2 d_Tf_bites_14 ?_
    refine z_if_lt (tgt := 24) d_Tf_bites_15 (by decide) (fun h => absurd h (nI_pos (by omega))) (fun _ => ?_)
    refine z_iload_2 d_Tf_bites_18 ?_
    refine z_bipush (a := nI 9) d_Tf_bites_19 (by decide) ?_
    refine z_icmp_le (tgt := 30) d_Tf_bites_21 (by decide) (fun _ => ?_) (fun h => absurd (nI_le hk (by omega)) h)
    refine z_aload_0 d_Tf_bites_30 ?_
    refine z_getR d_Tf_bites_31 f_Tf_60 (by first | assumption | exact zS0_at (by assumption) (by omega) | exact zS0_at rfl (by omega)) (by first | assumption | exact zS0_at (by assumption) (by omega) | exact zS0_at rfl (by omega)) ?_
    refine z_iload_1 d_Tf_bites_34 ?_
    refine z_Vi1 d_Tf_bites_35 k_Tf_214 (by first | assumption | exact zS0_at (by assumption) (by omega) | exact zS0_at rfl (by omega)) (t_Fen_wornBy F N) ⟨Nat.le_of_ble_eq_true rfl, Nat.le_of_ble_eq_true rfl, Nat.le_of_ble_eq_true rfl, Nat.le_of_ble_eq_true rfl⟩ (Nat.le_of_ble_eq_true rfl) ?_
    intro r w hq
    obtain ⟨rfl, rfl⟩ := hq
    refine z_aload_0 d_Tf_bites_38 ?_
    refine z_getR d_Tf_bites_39 f_Tf_60 (by first | assumption | exact zS0_at (by assumption) (by omega) | exact zS0_at rfl (by omega)) (by first | assumption | exact zS0_at (by assumption) (by omega) | exact zS0_at rfl (by omega)) ?_
    refine z_getIv d_Tf_bites_42 f_Tf_220 (by first | assumption | exact zS0_at (by assumption) (by omega) | exact zS0_at rfl (by omega)) (by first | assumption | ((try simp (disch := omega) only [zu_same, zu_ne, zcp_ne, zfl_ne]); first | assumption | rfl)) ?_
    refine z_iand d_Tf_bites_45 ?_
    rw [hx]
    refine z_Si1 d_Tf_bites_46 k_Tf_344 (t_JInt_bitCount hm) ⟨Nat.le_of_ble_eq_true rfl, Nat.le_of_ble_eq_true rfl, Nat.le_of_ble_eq_true rfl, Nat.le_of_ble_eq_true rfl⟩ (Nat.le_of_ble_eq_true rfl) ?_
    intro r w hq
    obtain ⟨rfl, rfl⟩ := hq
    rw [hL]
    first | refine z_istore_3 d_Tf_bites_49 rfl ?_ | (refine z_forget_2 ?_; refine z_istore_3 d_Tf_bites_49 rfl ?_)
    refine z_aload_0 d_Tf_bites_50 ?_
    refine z_aload_0 d_Tf_bites_51 ?_
    refine z_iload_3 d_Tf_bites_52 ?_
    refine z_iload_2 d_Tf_bites_53 ?_
    refine z_Vl2 d_Tf_bites_54 k_Tf_380 (by first | assumption | exact zS0_at (by assumption) (by omega) | exact zS0_at rfl (by omega)) (t_Tf_bitesTop Z ho ho6 hL9 hk) ⟨Nat.le_of_ble_eq_true rfl, Nat.le_of_ble_eq_true rfl, Nat.le_of_ble_eq_true rfl, Nat.le_of_ble_eq_true rfl⟩ (Nat.le_of_ble_eq_true rfl) ?_
    intro r w hq
    obtain ⟨rfl, rfl⟩ := hq
    refine z_lconst (f := lN 1) d_Tf_bites_57 rfl ?_
    refine z_iconst (a := nI 4) d_Tf_bites_58 (by decide) ?_
    refine z_iload_3 d_Tf_bites_59 ?_
    first | refine z_imulN d_Tf_bites_60 ?_ | refine z_imul d_Tf_bites_60 ?_
    refine z_lshl d_Tf_bites_61 ?_
    rw [sh16 L (by omega), ← hU, ← hV]
    refine z_Vi2 d_Tf_bites_62 k_Tf_384 (by first | assumption | exact zS0_at (by assumption) (by omega) | exact zS0_at rfl (by omega)) (t_Tf_tell c0 hs hu.1 hu.2) ⟨Nat.le_of_ble_eq_true rfl, Nat.le_of_ble_eq_true rfl, Nat.le_of_ble_eq_true rfl, Nat.le_of_ble_eq_true rfl⟩ (Nat.le_of_ble_eq_true rfl) ?_
    intro r w hq
    obtain ⟨rfl, rfl⟩ := hq
    refine z_retz d_Tf_bites_65 (by first | exact zb0 | exact zb1 | assumption) ?_
    exact ⟨rfl, rfl⟩
theorem t_Mo_bites_o (M : modOk P S) (N : modIn I nt np nl nn) (h : ¬ zin a np) : zEi G y_Mo_bites prog_14_method_138_code 9 (some .boolean) 4 [.ref 145, .int a, .int b] (I, J, P, S) (fun r w => r = nI 0 ∧ mW I J P S 2 w) := by
  obtain ⟨M0, ⟨M4, M4s⟩, ⟨M5, M5s⟩, ⟨M6, M6s⟩, ⟨M7, M7s⟩, ⟨M20, M20s⟩, ⟨M21, M21s⟩, ⟨M22, M22s⟩, ⟨M26, M26s⟩, ⟨M27, M27s⟩, ⟨M28, M28s⟩, ⟨M30, M30s⟩, ⟨M34, M34s⟩, ⟨M36, M36s⟩, ⟨M37, M37s⟩⟩ := id M
  obtain ⟨I1, hI1, N1, h1, h0, e150, er, ek⟩ := mo_beg N
  refine zEi_of (lv := [some (.ref 145), some (.int a), some (.int b), none, none, none, none, none, none]) (by decide) rfl (Nat.le_of_ble_eq_true rfl) ?_
  refine z_aload_0 d_Mo_bites_0 ?_
  refine z_iconst (a := nI 0) d_Mo_bites_1 (by decide) ?_
  refine z_putI d_Mo_bites_2 f_Mo_70 (by first | assumption | exact zS0_at (by assumption) (by omega) | exact zS0_at rfl (by omega)) ?_
  refine z_aload_0 d_Mo_bites_5 ?_
  refine z_iconst (a := nI 0) d_Mo_bites_6 (by decide) ?_
  refine z_putI d_Mo_bites_7 f_Mo_73 (by first | assumption | exact zS0_at (by assumption) (by omega) | exact zS0_at rfl (by omega)) ?_
  rw [← hI1]
  refine z_aload_0 d_Mo_bites_10 ?_
  refine z_iload_1 d_Mo_bites_11 ?_
  refine z_i2l d_Mo_bites_12 ?_
  refine z_Vi1 d_Mo_bites_13 k_Mo_336 (by first | assumption | exact zS0_at (by assumption) (by omega) | exact zS0_at rfl (by omega)) (t_Mo_isPersonAtI M N1) ⟨Nat.le_of_ble_eq_true rfl, Nat.le_of_ble_eq_true rfl, Nat.le_of_ble_eq_true rfl, Nat.le_of_ble_eq_true rfl⟩ (Nat.le_of_ble_eq_true rfl) ?_
  intro r w hq
  rcases hq with ⟨⟨hz, rfl⟩ | ⟨hz, rfl⟩, rfl⟩
  · exact absurd hz h
  · refine z_if_ne (tgt := 25) d_Mo_bites_16 (by decide) (fun h => absurd (by decide) h) (fun _ => ?_)
    refine z_aload_0 d_Mo_bites_19 ?_
    refine z_iconst (a := nI 2) d_Mo_bites_20 (by decide) ?_
    refine z_Vi1 d_Mo_bites_21 k_Mo_85 (by first | assumption | exact zS0_at (by assumption) (by omega) | exact zS0_at rfl (by omega)) (t_Mo_no M) ⟨Nat.le_of_ble_eq_true rfl, Nat.le_of_ble_eq_true rfl, Nat.le_of_ble_eq_true rfl, Nat.le_of_ble_eq_true rfl⟩ (Nat.le_of_ble_eq_true rfl) ?_
    intro r w hq
    obtain ⟨rfl, rfl⟩ := hq
    refine z_retz d_Mo_bites_24 (by first | exact zb0 | exact zb1 | assumption) ?_
    exact ⟨rfl, _, _, rfl, mqF_z h1 (by decide), mqJ_r, zu_same _ _ _ _⟩
theorem t_Mo_bites_b (M : modOk P S) (N : modIn I nt np nl nn) (ha : zin a np) (h : ¬ zin b 10) : zEi G y_Mo_bites prog_14_method_138_code 9 (some .boolean) 4 [.ref 145, .int a, .int b] (I, J, P, S) (fun r w => r = nI 0 ∧ mW I J P S 5 w) := by
  obtain ⟨M0, ⟨M4, M4s⟩, ⟨M5, M5s⟩, ⟨M6, M6s⟩, ⟨M7, M7s⟩, ⟨M20, M20s⟩, ⟨M21, M21s⟩, ⟨M22, M22s⟩, ⟨M26, M26s⟩, ⟨M27, M27s⟩, ⟨M28, M28s⟩, ⟨M30, M30s⟩, ⟨M34, M34s⟩, ⟨M36, M36s⟩, ⟨M37, M37s⟩⟩ := id M
  obtain ⟨I1, hI1, N1, h1, h0, e150, er, ek⟩ := mo_beg N
  refine zEi_of (lv := [some (.ref 145), some (.int a), some (.int b), none, none, none, none, none, none]) (by decide) rfl (Nat.le_of_ble_eq_true rfl) ?_
  refine z_aload_0 d_Mo_bites_0 ?_
  refine z_iconst (a := nI 0) d_Mo_bites_1 (by decide) ?_
  refine z_putI d_Mo_bites_2 f_Mo_70 (by first | assumption | exact zS0_at (by assumption) (by omega) | exact zS0_at rfl (by omega)) ?_
  refine z_aload_0 d_Mo_bites_5 ?_
  refine z_iconst (a := nI 0) d_Mo_bites_6 (by decide) ?_
  refine z_putI d_Mo_bites_7 f_Mo_73 (by first | assumption | exact zS0_at (by assumption) (by omega) | exact zS0_at rfl (by omega)) ?_
  rw [← hI1]
  refine z_aload_0 d_Mo_bites_10 ?_
  refine z_iload_1 d_Mo_bites_11 ?_
  refine z_i2l d_Mo_bites_12 ?_
  refine z_Vi1 d_Mo_bites_13 k_Mo_336 (by first | assumption | exact zS0_at (by assumption) (by omega) | exact zS0_at rfl (by omega)) (t_Mo_isPersonAtI M N1) ⟨Nat.le_of_ble_eq_true rfl, Nat.le_of_ble_eq_true rfl, Nat.le_of_ble_eq_true rfl, Nat.le_of_ble_eq_true rfl⟩ (Nat.le_of_ble_eq_true rfl) ?_
  intro r w hq
  rcases hq with ⟨⟨hz, rfl⟩ | ⟨hz, rfl⟩, rfl⟩
  case inr => exact absurd ha hz
  refine z_if_ne (tgt := 25) d_Mo_bites_16 (by decide) (fun _ => ?_) (fun h => absurd h (by decide))
  refine z_iload_2 d_Mo_bites_25 ?_
  refine z_i2l d_Mo_bites_26 ?_
  refine z_lconst (f := lN 0) d_Mo_bites_27 rfl ?_
  refine z_ldc2 d_Mo_bites_28 c_Mo_325 ?_
  refine z_Si3 d_Mo_bites_31 k_Mo_105 (t_Mo_isInZ (m := 10) (by decide) (by decide)) ⟨Nat.le_of_ble_eq_true rfl, Nat.le_of_ble_eq_true rfl, Nat.le_of_ble_eq_true rfl, Nat.le_of_ble_eq_true rfl⟩ (Nat.le_of_ble_eq_true rfl) ?_
  intro r w hq
  rcases hq with ⟨⟨hz2, rfl⟩ | ⟨hz2, rfl⟩, rfl⟩
  · exact absurd hz2 h
  · refine z_if_ne (tgt := 43) d_Mo_bites_34 (by decide) (fun h => absurd (by decide) h) (fun _ => ?_)
    refine z_aload_0 d_Mo_bites_37 ?_
    refine z_iconst (a := nI 5) d_Mo_bites_38 (by decide) ?_
    refine z_Vi1 d_Mo_bites_39 k_Mo_85 (by first | assumption | exact zS0_at (by assumption) (by omega) | exact zS0_at rfl (by omega)) (t_Mo_no M) ⟨Nat.le_of_ble_eq_true rfl, Nat.le_of_ble_eq_true rfl, Nat.le_of_ble_eq_true rfl, Nat.le_of_ble_eq_true rfl⟩ (Nat.le_of_ble_eq_true rfl) ?_
    intro r w hq
    obtain ⟨rfl, rfl⟩ := hq
    refine z_retz d_Mo_bites_42 (by first | exact zb0 | exact zb1 | assumption) ?_
    exact ⟨rfl, _, _, rfl, mqF_z h1 (by decide), mqJ_r, zu_same _ _ _ _⟩
theorem t_Mo_bites (M : modOk P S) (N : modIn I nt np nl nn) (ho : I 150 4 = nI o) (ho6 : o ≤ 16) (hp : p < np) (hk : k ≤ 9) (hL : s_cnt (zB (s_set (fun t => decide (I 150 (42 + t) = nI p)) nn &&& s_set (fun t => decide (I 150 (51 + t) = nI 1)) nn)) 9 = L) (hL9 : L ≤ 9) : zEi G y_Mo_bites prog_14_method_138_code 9 (some .boolean) 4 [.ref 145, .int (nI p), .int (nI k)] (I, J, P, S) (fun r w => r = nI 1 ∧ ∃ I1 J2, mD I I1 ∧ (∀ a, a ≠ 158 → J2 a = J a) ∧ w = (I1, zu (zu J2 145 2 (lN (sK (ch o L) k 10 / Nat.gcd (sK (ch o L) k 10) (16 ^ L)))) 145 3 (lN (16 ^ L / Nat.gcd (sK (ch o L) k 10) (16 ^ L))), P, S)) := by
  obtain ⟨M0, ⟨M4, M4s⟩, ⟨M5, M5s⟩, ⟨M6, M6s⟩, ⟨M7, M7s⟩, ⟨M20, M20s⟩, ⟨M21, M21s⟩, ⟨M22, M22s⟩, ⟨M26, M26s⟩, ⟨M27, M27s⟩, ⟨M28, M28s⟩, ⟨M30, M30s⟩, ⟨M34, M34s⟩, ⟨M36, M36s⟩, ⟨M37, M37s⟩⟩ := id M
  obtain ⟨I1, hI1, N1, h1, h0, e150, er, ek⟩ := mo_beg N
  have hD : mD I I1 := ⟨h1, h0, e150, er⟩
  have ho1 : I1 150 4 = nI o := by rw [e150]; exact ho
  have hs : sK (ch o L) k 10 < 2 ^ 40 := by
    have h1 := sK_le (v := ch o L) (k := k) (B := 68719476736) 10 (fun i hi => ch_le o (by omega) L (by omega) i (by omega))
    omega
  have hu := p16 hL9
  obtain ⟨U, hU⟩ : ∃ U, U = 16 ^ L := ⟨_, rfl⟩
  obtain ⟨V, hV⟩ : ∃ V, V = sK (ch o L) k 10 := ⟨_, rfl⟩
  rw [← hU, ← hV]
  rw [← hU] at hu
  rw [← hV] at hs
  refine zEi_of (lv := [some (.ref 145), some (.int (nI p)), some (.int (nI k)), none, none, none, none, none, none]) (by decide) rfl (Nat.le_of_ble_eq_true rfl) ?_
  have l3 : ∀ z i J2, 10 - i < z → k ≤ i → i ≤ 10 → (∀ a, a ≠ 158 → J2 a = J a) → (∀ i, i < 10 → J2 158 i = lN (ch o L i)) → zA G y_Mo_bites prog_14_method_138_code 9 (some .boolean) (zRm 4 0 0) (zM G 0 0 (fun r w' => ∃ x, r = some (.int x) ∧ (fun r w => r = nI 1 ∧ ∃ I1 J2, mD I I1 ∧ (∀ a, a ≠ 158 → J2 a = J a) ∧ w = (I1, zu (zu J2 145 2 (lN (V / Nat.gcd (V) U))) 145 3 (lN (U / Nat.gcd (V) U)), P, S)) x w')) 200 [some (.ref 145), some (.int (nI p)), some (.int (nI k)), some (.int (nI L)), some (.long (lN U)), none, some (.long (lN (sK (ch o L) k i))), none, some (.int (nI i))] [] (I1, J2, P, S) 0 0 := by
    intro z
    induction z with
    | zero => intro i J2 h; exact absurd h (Nat.not_lt_zero _)
    | succ z ih =>
      intro i J2 hz hki hi g1 g2
      refine z_iload_8 d_Mo_bites_200 ?_
      refine z_bipush (a := nI 9) d_Mo_bites_202 (by decide) ?_
      refine z_icmp_gt (tgt := 225) d_Mo_bites_204 (by decide) (fun hb => ?_) (fun hb => ?_)
      · have hb := (nI_ltI (by omega) (by omega)).mp hb
        obtain rfl : i = 10 := by omega
        rw [← hV]
        refine z_aload_0 d_Mo_bites_225 ?_
        refine z_lload_6 d_Mo_bites_226 ?_
        refine z_lload_4 d_Mo_bites_228 ?_
        refine z_Vi2 d_Mo_bites_230 k_Mo_456 (by first | assumption | exact zS0_at (by assumption) (by omega) | exact zS0_at rfl (by omega)) (t_Mo_fraction M hs hu.1 hu.2) ⟨Nat.le_of_ble_eq_true rfl, Nat.le_of_ble_eq_true rfl, Nat.le_of_ble_eq_true rfl, Nat.le_of_ble_eq_true rfl⟩ (Nat.le_of_ble_eq_true rfl) ?_
        intro r w hq
        obtain ⟨rfl, rfl⟩ := hq
        refine z_retz d_Mo_bites_233 (by first | exact zb0 | exact zb1 | assumption) ?_
        exact ⟨rfl, I1, J2, hD, g1, rfl⟩
      · have hb : i ≤ 9 := by
          rcases Nat.lt_or_ge 9 i with h | h
          · exact absurd (nI_lt h (by omega)) hb
          · exact h
        have hv := g2 i (by omega)
        have q := ih (i + 1) J2 (by omega) (by omega) (by omega) g1 g2
        rw [sK_t hki] at q
        refine z_lload_6 d_Mo_bites_207 ?_
        refine z_aload_0 d_Mo_bites_209 ?_
        refine z_getR d_Mo_bites_210 f_Mo_60 (by first | assumption | exact zS0_at (by assumption) (by omega) | exact zS0_at rfl (by omega)) (by first | assumption | exact zS0_at (by assumption) (by omega) | exact zS0_at rfl (by omega)) ?_
        refine z_iload_8 d_Mo_bites_213 ?_
        first | refine z_laldNv d_Mo_bites_215 (by first | assumption | exact zS0_at (by assumption) (by omega) | exact zS0_at rfl (by omega)) (by omega) (by first | decide | omega) (by first | assumption | ((try simp (disch := omega) only [zu_same, zu_ne, zcp_ne, zfl_ne]); first | assumption | rfl)) ?_ | refine z_lald d_Mo_bites_215 (by first | assumption | exact zS0_at (by assumption) (by omega) | exact zS0_at rfl (by omega)) (by first | assumption | exact zS0_at (by assumption) (by omega) | exact zS0_at rfl (by omega)) ?_
        refine z_ladd d_Mo_bites_216 ?_
        rw [lN_add]
        first | refine z_lstore_6 d_Mo_bites_217 rfl ?_ | (refine z_forget_5 ?_; refine z_lstore_6 d_Mo_bites_217 rfl ?_)
        first | refine z_iinc_8 d_Mo_bites_219 rfl (zi_inc _) ?_ | refine z_iinc_8 d_Mo_bites_219 rfl rfl ?_
        refine z_goto (tgt := 200) d_Mo_bites_222 (by decide) ?_
        exact q
  have l2 : ∀ z e J2, L - e < z → e ≤ L → (∀ a, a ≠ 158 → J2 a = J a) → (∀ i, i < 10 → J2 158 i = lN (ch o e i)) → zA G y_Mo_bites prog_14_method_138_code 9 (some .boolean) (zRm 4 0 0) (zM G 0 0 (fun r w' => ∃ x, r = some (.int x) ∧ (fun r w => r = nI 1 ∧ ∃ I1 J2, mD I I1 ∧ (∀ a, a ≠ 158 → J2 a = J a) ∧ w = (I1, zu (zu J2 145 2 (lN (V / Nat.gcd (V) U))) 145 3 (lN (U / Nat.gcd (V) U)), P, S)) x w')) 97 [some (.ref 145), some (.int (nI p)), some (.int (nI k)), some (.int (nI L)), some (.long (lN (16 ^ e))), none, some (.int (nI e)), none, none] [] (I1, J2, P, S) 0 0 := by
    intro z
    induction z with
    | zero => intro e J2 h; exact absurd h (Nat.not_lt_zero _)
    | succ z ih =>
      intro e J2 hz he g1 g2
      refine z_iload_6 d_Mo_bites_97 ?_
      refine z_iload_3 d_Mo_bites_99 ?_
      refine z_icmp_ge (tgt := 194) d_Mo_bites_100 (by decide) (fun hb => ?_) (fun hb => ?_)
      · have hb := (nI_leI (by omega) (by omega)).mp hb
        obtain rfl : e = L := by omega
        rw [← hU]
        have q := l3 (10 - k + 1) k J2 (by omega) (Nat.le_refl _) (by omega) g1 g2
        rw [sK_0 k (Nat.le_refl _)] at q
        refine z_lconst (f := lN 0) d_Mo_bites_194 rfl ?_
        first | refine z_lstore_6 d_Mo_bites_195 rfl ?_ | (refine z_forget_5 ?_; refine z_lstore_6 d_Mo_bites_195 rfl ?_)
        refine z_iload_2 d_Mo_bites_197 ?_
        first | refine z_istore_8 d_Mo_bites_198 rfl ?_ | (refine z_forget_7 ?_; refine z_istore_8 d_Mo_bites_198 rfl ?_)
        exact q
      · have hb : e < L := Nat.lt_of_not_le (fun q => hb (nI_le q (by omega)))
        have q := fun J3 => ih (e + 1) J3 (by omega) (by omega)
        have inn : ∀ i J3, i ≤ 9 → (∀ a, a ≠ 158 → J3 a = J a) → (∀ x, x < 10 → i < x → J3 158 x = lN (ch o (e + 1) x)) → (∀ x, x ≤ i → J3 158 x = lN (ch o e x)) → zA G y_Mo_bites prog_14_method_138_code 9 (some .boolean) (zRm 4 0 0) (zM G 0 0 (fun r w' => ∃ x, r = some (.int x) ∧ (fun r w => r = nI 1 ∧ ∃ I1 J2, mD I I1 ∧ (∀ a, a ≠ 158 → J2 a = J a) ∧ w = (I1, zu (zu J2 145 2 (lN (V / Nat.gcd (V) U))) 145 3 (lN (U / Nat.gcd (V) U)), P, S)) x w')) 107 [some (.ref 145), some (.int (nI p)), some (.int (nI k)), some (.int (nI L)), some (.long (lN (16 ^ e))), none, some (.int (nI e)), some (.int (nI i)), none] [] (I1, J3, P, S) 0 0 := by
          intro i
          induction i with
          | zero =>
            intro J3 hi f1 f2 f3
            have hv := f3 0 (Nat.le_refl _)
            refine z_iload_7 d_Mo_bites_107 ?_
            refine z_if_le (tgt := 161) d_Mo_bites_109 (by decide) (fun _ => ?_) (fun h => absurd (by decide) h)
            refine z_aload_0 d_Mo_bites_161 ?_
            refine z_getR d_Mo_bites_162 f_Mo_60 (by first | assumption | exact zS0_at (by assumption) (by omega) | exact zS0_at rfl (by omega)) (by first | assumption | exact zS0_at (by assumption) (by omega) | exact zS0_at rfl (by omega)) ?_
            refine z_iconst (a := nI 0) d_Mo_bites_165 (by decide) ?_
            first | refine z_dup2 rfl rfl d_Mo_bites_166 ?_ | refine z_dup2l rfl d_Mo_bites_166 ?_
            first | refine z_laldNv d_Mo_bites_167 (by first | assumption | exact zS0_at (by assumption) (by omega) | exact zS0_at rfl (by omega)) (by omega) (by first | decide | omega) (by first | assumption | ((try simp (disch := omega) only [zu_same, zu_ne, zcp_ne, zfl_ne]); first | assumption | rfl)) ?_ | refine z_lald d_Mo_bites_167 (by first | assumption | exact zS0_at (by assumption) (by omega) | exact zS0_at rfl (by omega)) (by first | assumption | exact zS0_at (by assumption) (by omega) | exact zS0_at rfl (by omega)) ?_
            refine z_bipush (a := nI 16) d_Mo_bites_168 (by decide) ?_
            refine z_aload_0 d_Mo_bites_170 ?_
            refine z_getR d_Mo_bites_171 f_Mo_35 (by first | assumption | exact zS0_at (by assumption) (by omega) | exact zS0_at rfl (by omega)) (by first | assumption | exact zS0_at (by assumption) (by omega) | exact zS0_at rfl (by omega)) ?_
            refine z_iconst (a := nI 4) d_Mo_bites_174 (by decide) ?_
            first | refine z_ialdNv d_Mo_bites_175 (by first | assumption | exact zS0_at (by assumption) (by omega) | exact zS0_at rfl (by omega)) (by omega) (by first | decide | omega) (by first | assumption | ((try simp (disch := omega) only [zu_same, zu_ne, zcp_ne, zfl_ne]); first | assumption | rfl)) ?_ | refine z_iald d_Mo_bites_175 (by first | assumption | exact zS0_at (by assumption) (by omega) | exact zS0_at rfl (by omega)) (by first | assumption | exact zS0_at (by assumption) (by omega) | exact zS0_at rfl (by omega)) ?_
            first | refine z_isubN d_Mo_bites_176 (by omega) ?_ | refine z_isub d_Mo_bites_176 ?_
            refine z_i2l d_Mo_bites_177 ?_
            rw [nI_l (by omega)]
            refine z_lmul d_Mo_bites_178 ?_
            rw [lN_mul]
            first | refine z_lastN d_Mo_bites_179 (by first | assumption | exact zS0_at (by assumption) (by omega) | exact zS0_at rfl (by omega)) (by omega) (by first | decide | omega) ?_ | refine z_last d_Mo_bites_179 (by first | assumption | exact zS0_at (by assumption) (by omega) | exact zS0_at rfl (by omega)) (by first | assumption | exact zS0_at (by assumption) (by omega) | exact zS0_at rfl (by omega)) ?_
            refine z_lload_4 d_Mo_bites_180 ?_
            refine z_ldc2 d_Mo_bites_182 c_Mo_372 ?_
            refine z_lmul d_Mo_bites_185 ?_
            rw [show (16 : Int64) = lN 16 by decide, lN_mul, ← Nat.pow_succ]
            first | refine z_lstore_4 d_Mo_bites_186 rfl ?_ | (refine z_forget_3 ?_; refine z_lstore_4 d_Mo_bites_186 rfl ?_)
            first | refine z_iinc_6 d_Mo_bites_188 rfl (zi_inc _) ?_ | refine z_iinc_6 d_Mo_bites_188 rfl rfl ?_
            refine z_goto (tgt := 97) d_Mo_bites_191 (by decide) ?_
            refine z_forget_7 ?_
            refine q _ (fun a ha => (zu_row _ _ _ _ ha).trans (f1 a ha)) (fun x hx => ?_)
            by_cases h : x = 0
            · subst h; rw [zu_same]; rfl
            · rw [zu_ne _ _ _ _ (by omega)]; exact f2 x hx (by omega)
          | succ i ihi =>
            intro J3 hi f1 f2 f3
            have hv := f3 (i + 1) (Nat.le_refl _)
            have hv2 := f3 i (by omega)
            refine z_iload_7 d_Mo_bites_107 ?_
            refine z_if_le (tgt := 161) d_Mo_bites_109 (by decide) (fun h => absurd h (fun q => absurd q (Int32.not_le.mpr (nI_lt (show 0 < i + 1 by omega) (by omega))))) (fun _ => ?_)
            refine z_aload_0 d_Mo_bites_112 ?_
            refine z_getR d_Mo_bites_113 f_Mo_60 (by first | assumption | exact zS0_at (by assumption) (by omega) | exact zS0_at rfl (by omega)) (by first | assumption | exact zS0_at (by assumption) (by omega) | exact zS0_at rfl (by omega)) ?_
            refine z_iload_7 d_Mo_bites_116 ?_
            refine z_aload_0 d_Mo_bites_118 ?_
            refine z_getR d_Mo_bites_119 f_Mo_60 (by first | assumption | exact zS0_at (by assumption) (by omega) | exact zS0_at rfl (by omega)) (by first | assumption | exact zS0_at (by assumption) (by omega) | exact zS0_at rfl (by omega)) ?_
            refine z_iload_7 d_Mo_bites_122 ?_
            first | refine z_laldNv d_Mo_bites_124 (by first | assumption | exact zS0_at (by assumption) (by omega) | exact zS0_at rfl (by omega)) (by omega) (by first | decide | omega) (by first | assumption | ((try simp (disch := omega) only [zu_same, zu_ne, zcp_ne, zfl_ne]); first | assumption | rfl)) ?_ | refine z_lald d_Mo_bites_124 (by first | assumption | exact zS0_at (by assumption) (by omega) | exact zS0_at rfl (by omega)) (by first | assumption | exact zS0_at (by assumption) (by omega) | exact zS0_at rfl (by omega)) ?_
            refine z_bipush (a := nI 16) d_Mo_bites_125 (by decide) ?_
            refine z_aload_0 d_Mo_bites_127 ?_
            refine z_getR d_Mo_bites_128 f_Mo_35 (by first | assumption | exact zS0_at (by assumption) (by omega) | exact zS0_at rfl (by omega)) (by first | assumption | exact zS0_at (by assumption) (by omega) | exact zS0_at rfl (by omega)) ?_
            refine z_iconst (a := nI 4) d_Mo_bites_131 (by decide) ?_
            first | refine z_ialdNv d_Mo_bites_132 (by first | assumption | exact zS0_at (by assumption) (by omega) | exact zS0_at rfl (by omega)) (by omega) (by first | decide | omega) (by first | assumption | ((try simp (disch := omega) only [zu_same, zu_ne, zcp_ne, zfl_ne]); first | assumption | rfl)) ?_ | refine z_iald d_Mo_bites_132 (by first | assumption | exact zS0_at (by assumption) (by omega) | exact zS0_at rfl (by omega)) (by first | assumption | exact zS0_at (by assumption) (by omega) | exact zS0_at rfl (by omega)) ?_
            first | refine z_isubN d_Mo_bites_133 (by omega) ?_ | refine z_isub d_Mo_bites_133 ?_
            refine z_i2l d_Mo_bites_134 ?_
            rw [nI_l (by omega)]
            refine z_lmul d_Mo_bites_135 ?_
            rw [lN_mul]
            refine z_aload_0 d_Mo_bites_136 ?_
            refine z_getR d_Mo_bites_137 f_Mo_60 (by first | assumption | exact zS0_at (by assumption) (by omega) | exact zS0_at rfl (by omega)) (by first | assumption | exact zS0_at (by assumption) (by omega) | exact zS0_at rfl (by omega)) ?_
            refine z_iload_7 d_Mo_bites_140 ?_
            refine z_iconst (a := nI 1) d_Mo_bites_142 (by decide) ?_
            first | refine z_isubN d_Mo_bites_143 (by omega) ?_ | refine z_isub d_Mo_bites_143 ?_
            rw [Nat.add_sub_cancel]
            first | refine z_laldNv d_Mo_bites_144 (by first | assumption | exact zS0_at (by assumption) (by omega) | exact zS0_at rfl (by omega)) (by omega) (by first | decide | omega) (by first | assumption | ((try simp (disch := omega) only [zu_same, zu_ne, zcp_ne, zfl_ne]); first | assumption | rfl)) ?_ | refine z_lald d_Mo_bites_144 (by first | assumption | exact zS0_at (by assumption) (by omega) | exact zS0_at rfl (by omega)) (by first | assumption | exact zS0_at (by assumption) (by omega) | exact zS0_at rfl (by omega)) ?_
            refine z_aload_0 d_Mo_bites_145 ?_
            refine z_getR d_Mo_bites_146 f_Mo_35 (by first | assumption | exact zS0_at (by assumption) (by omega) | exact zS0_at rfl (by omega)) (by first | assumption | exact zS0_at (by assumption) (by omega) | exact zS0_at rfl (by omega)) ?_
            refine z_iconst (a := nI 4) d_Mo_bites_149 (by decide) ?_
            first | refine z_ialdNv d_Mo_bites_150 (by first | assumption | exact zS0_at (by assumption) (by omega) | exact zS0_at rfl (by omega)) (by omega) (by first | decide | omega) (by first | assumption | ((try simp (disch := omega) only [zu_same, zu_ne, zcp_ne, zfl_ne]); first | assumption | rfl)) ?_ | refine z_iald d_Mo_bites_150 (by first | assumption | exact zS0_at (by assumption) (by omega) | exact zS0_at rfl (by omega)) (by first | assumption | exact zS0_at (by assumption) (by omega) | exact zS0_at rfl (by omega)) ?_
            refine z_i2l d_Mo_bites_151 ?_
            rw [nI_l (by omega)]
            refine z_lmul d_Mo_bites_152 ?_
            rw [lN_mul]
            refine z_ladd d_Mo_bites_153 ?_
            rw [lN_add]
            first | refine z_lastN d_Mo_bites_154 (by first | assumption | exact zS0_at (by assumption) (by omega) | exact zS0_at rfl (by omega)) (by omega) (by first | decide | omega) ?_ | refine z_last d_Mo_bites_154 (by first | assumption | exact zS0_at (by assumption) (by omega) | exact zS0_at rfl (by omega)) (by first | assumption | exact zS0_at (by assumption) (by omega) | exact zS0_at rfl (by omega)) ?_
            refine z_iinc_7 d_Mo_bites_155 rfl rfl ?_
            refine z_goto (tgt := 107) d_Mo_bites_158 (by decide) ?_
            rw [zi_dec, nI_dec]
            refine ihi _ (by omega) (fun a ha => (zu_row _ _ _ _ ha).trans (f1 a ha)) (fun x hx hx2 => ?_) (fun x hx => ?_)
            · by_cases h : x = i + 1
              · subst h; rw [zu_same]; rfl
              · rw [zu_ne _ _ _ _ (by omega)]; exact f2 x hx (by omega)
            · rw [zu_ne _ _ _ _ (by omega)]; exact f3 x (by omega)
        refine z_bipush (a := nI 9) d_Mo_bites_103 (by decide) ?_
        first | refine z_istore_7 d_Mo_bites_105 rfl ?_ | (refine z_forget_6 ?_; refine z_istore_7 d_Mo_bites_105 rfl ?_)
        exact inn 9 J2 (by omega) g1 (fun x h1 h2 => by omega) (fun x hx => g2 x (by omega))
  have l1 : ∀ z i J2, 10 - i < z → i ≤ 10 → (∀ a, a ≠ 158 → J2 a = J a) → (∀ x, x < i → J2 158 x = lN (ch o 0 x)) → zA G y_Mo_bites prog_14_method_138_code 9 (some .boolean) (zRm 4 0 0) (zM G 0 0 (fun r w' => ∃ x, r = some (.int x) ∧ (fun r w => r = nI 1 ∧ ∃ I1 J2, mD I I1 ∧ (∀ a, a ≠ 158 → J2 a = J a) ∧ w = (I1, zu (zu J2 145 2 (lN (V / Nat.gcd (V) U))) 145 3 (lN (U / Nat.gcd (V) U)), P, S)) x w')) 64 [some (.ref 145), some (.int (nI p)), some (.int (nI k)), some (.int (nI L)), some (.long (lN 1)), none, some (.int (nI i)), none, none] [] (I1, J2, P, S) 0 0 := by
    intro z
    induction z with
    | zero => intro i J2 h; exact absurd h (Nat.not_lt_zero _)
    | succ z ih =>
      intro i J2 hz hi g1 g2
      refine z_iload_6 d_Mo_bites_64 ?_
      refine z_bipush (a := nI 9) d_Mo_bites_66 (by decide) ?_
      refine z_icmp_gt (tgt := 94) d_Mo_bites_68 (by decide) (fun hb => ?_) (fun hb => ?_)
      · have hb := (nI_ltI (by omega) (by omega)).mp hb
        obtain rfl : i = 10 := by omega
        refine z_iconst (a := nI 0) d_Mo_bites_94 (by decide) ?_
        first | refine z_istore_6 d_Mo_bites_95 rfl ?_ | (refine z_forget_5 ?_; refine z_istore_6 d_Mo_bites_95 rfl ?_)
        exact l2 (L + 1) 0 J2 (by omega) (by omega) g1 g2
      · have hb : i ≤ 9 := by
          rcases Nat.lt_or_ge 9 i with h | h
          · exact absurd (nI_lt h (by omega)) hb
          · exact h
        have q := fun x => ih (i + 1) (zu J2 158 i x) (by omega) (by omega) (fun a ha => (zu_row _ _ _ _ ha).trans (g1 a ha))
        refine z_aload_0 d_Mo_bites_71 ?_
        refine z_getR d_Mo_bites_72 f_Mo_60 (by first | assumption | exact zS0_at (by assumption) (by omega) | exact zS0_at rfl (by omega)) (by first | assumption | exact zS0_at (by assumption) (by omega) | exact zS0_at rfl (by omega)) ?_
        refine z_iload_6 d_Mo_bites_75 ?_
        refine z_iload_6 d_Mo_bites_77 ?_
        refine z_if_ne (tgt := 86) d_Mo_bites_79 (by decide) (fun hc => ?_) (fun hc => ?_)
        · have hc : i ≠ 0 := fun h => hc (by rw [h]; rfl)
          refine z_lconst (f := lN 0) d_Mo_bites_86 rfl ?_
          first | refine z_lastN d_Mo_bites_87 (by first | assumption | exact zS0_at (by assumption) (by omega) | exact zS0_at rfl (by omega)) (by omega) (by first | decide | omega) ?_ | refine z_last d_Mo_bites_87 (by first | assumption | exact zS0_at (by assumption) (by omega) | exact zS0_at rfl (by omega)) (by first | assumption | exact zS0_at (by assumption) (by omega) | exact zS0_at rfl (by omega)) ?_
          first | refine z_iinc_6 d_Mo_bites_88 rfl (zi_inc _) ?_ | refine z_iinc_6 d_Mo_bites_88 rfl rfl ?_
          refine z_goto (tgt := 64) d_Mo_bites_91 (by decide) ?_
          refine q _ (fun x hx => ?_)
          by_cases h : x = i
          · subst h
            rw [zu_same]
            cases x with
            | zero => exact absurd rfl hc
            | succ x => rfl
          · rw [zu_ne _ _ _ _ (by omega)]; exact g2 x (by omega)
        · have hc : i = 0 := (nI_eq (by omega) (by decide)).mp hc
          refine z_lconst (f := lN 1) d_Mo_bites_82 rfl ?_
          refine z_goto (tgt := 87) d_Mo_bites_83 (by decide) ?_
          first | refine z_lastN d_Mo_bites_87 (by first | assumption | exact zS0_at (by assumption) (by omega) | exact zS0_at rfl (by omega)) (by omega) (by first | decide | omega) ?_ | refine z_last d_Mo_bites_87 (by first | assumption | exact zS0_at (by assumption) (by omega) | exact zS0_at rfl (by omega)) (by first | assumption | exact zS0_at (by assumption) (by omega) | exact zS0_at rfl (by omega)) ?_
          first | refine z_iinc_6 d_Mo_bites_88 rfl (zi_inc _) ?_ | refine z_iinc_6 d_Mo_bites_88 rfl rfl ?_
          refine z_goto (tgt := 64) d_Mo_bites_91 (by decide) ?_
          refine q _ (fun x hx => ?_)
          obtain rfl : x = i := by omega
          rw [zu_same, hc]
          rfl
  refine z_aload_0 d_Mo_bites_0 ?_
  refine z_iconst (a := nI 0) d_Mo_bites_1 (by decide) ?_
  refine z_putI d_Mo_bites_2 f_Mo_70 (by first | assumption | exact zS0_at (by assumption) (by omega) | exact zS0_at rfl (by omega)) ?_
  refine z_aload_0 d_Mo_bites_5 ?_
  refine z_iconst (a := nI 0) d_Mo_bites_6 (by decide) ?_
  refine z_putI d_Mo_bites_7 f_Mo_73 (by first | assumption | exact zS0_at (by assumption) (by omega) | exact zS0_at rfl (by omega)) ?_
  rw [← hI1]
  refine z_aload_0 d_Mo_bites_10 ?_
  refine z_iload_1 d_Mo_bites_11 ?_
  refine z_i2l d_Mo_bites_12 ?_
  refine z_Vi1 d_Mo_bites_13 k_Mo_336 (by first | assumption | exact zS0_at (by assumption) (by omega) | exact zS0_at rfl (by omega)) (t_Mo_isPersonAtI M N1) ⟨Nat.le_of_ble_eq_true rfl, Nat.le_of_ble_eq_true rfl, Nat.le_of_ble_eq_true rfl, Nat.le_of_ble_eq_true rfl⟩ (Nat.le_of_ble_eq_true rfl) ?_
  intro r w hq
  rcases hq with ⟨⟨hz, rfl⟩ | ⟨hz, rfl⟩, rfl⟩
  case inr => exact absurd ⟨p, hp, rfl⟩ hz
  refine z_if_ne (tgt := 25) d_Mo_bites_16 (by decide) (fun _ => ?_) (fun h => absurd h (by decide))
  refine z_iload_2 d_Mo_bites_25 ?_
  refine z_i2l d_Mo_bites_26 ?_
  refine z_lconst (f := lN 0) d_Mo_bites_27 rfl ?_
  refine z_ldc2 d_Mo_bites_28 c_Mo_325 ?_
  refine z_Si3 d_Mo_bites_31 k_Mo_105 (t_Mo_isInZ (m := 10) (by decide) (by decide)) ⟨Nat.le_of_ble_eq_true rfl, Nat.le_of_ble_eq_true rfl, Nat.le_of_ble_eq_true rfl, Nat.le_of_ble_eq_true rfl⟩ (Nat.le_of_ble_eq_true rfl) ?_
  intro r w hq
  rcases hq with ⟨⟨hz2, rfl⟩ | ⟨hz2, rfl⟩, rfl⟩
  case inr => exact absurd ⟨k, by omega, rfl⟩ hz2
  refine z_if_ne (tgt := 43) d_Mo_bites_34 (by decide) (fun _ => ?_) (fun h => absurd h (by decide))
  refine z_aload_0 d_Mo_bites_43 ?_
  refine z_iload_1 d_Mo_bites_44 ?_
  refine z_Vi1 d_Mo_bites_45 k_Mo_341 (by first | assumption | exact zS0_at (by assumption) (by omega) | exact zS0_at rfl (by omega)) (t_Mo_tinsOn M N1) ⟨Nat.le_of_ble_eq_true rfl, Nat.le_of_ble_eq_true rfl, Nat.le_of_ble_eq_true rfl, Nat.le_of_ble_eq_true rfl⟩ (Nat.le_of_ble_eq_true rfl) ?_
  intro r w hq
  obtain ⟨rfl, rfl⟩ := hq
  refine z_aload_0 d_Mo_bites_48 ?_
  refine z_iconst (a := nI 2) d_Mo_bites_49 (by decide) ?_
  refine z_Vi1 d_Mo_bites_50 k_Mo_319 (by first | assumption | exact zS0_at (by assumption) (by omega) | exact zS0_at rfl (by omega)) (t_Mo_tinsThat2 M N1) ⟨Nat.le_of_ble_eq_true rfl, Nat.le_of_ble_eq_true rfl, Nat.le_of_ble_eq_true rfl, Nat.le_of_ble_eq_true rfl⟩ (Nat.le_of_ble_eq_true rfl) ?_
  intro r w hq
  obtain ⟨rfl, rfl⟩ := hq
  refine z_iand d_Mo_bites_53 ?_
  refine z_Si1 d_Mo_bites_54 k_Mo_396 (t_Mo_sizeOf) ⟨Nat.le_of_ble_eq_true rfl, Nat.le_of_ble_eq_true rfl, Nat.le_of_ble_eq_true rfl, Nat.le_of_ble_eq_true rfl⟩ (Nat.le_of_ble_eq_true rfl) ?_
  intro r w hq
  obtain ⟨rfl, rfl⟩ := hq
  rw [e150, hL]
  first | refine z_istore_3 d_Mo_bites_57 rfl ?_ | (refine z_forget_2 ?_; refine z_istore_3 d_Mo_bites_57 rfl ?_)
  refine z_lconst (f := lN 1) d_Mo_bites_58 rfl ?_
  first | refine z_lstore_4 d_Mo_bites_59 rfl ?_ | (refine z_forget_3 ?_; refine z_lstore_4 d_Mo_bites_59 rfl ?_)
  refine z_iconst (a := nI 0) d_Mo_bites_61 (by decide) ?_
  first | refine z_istore_6 d_Mo_bites_62 rfl ?_ | (refine z_forget_5 ?_; refine z_istore_6 d_Mo_bites_62 rfl ?_)
  exact l1 11 0 J (by omega) (by omega) (fun _ _ => rfl) (fun x h => absurd h (Nat.not_lt_zero _))
theorem zu_rc {α : Type} {F H : Nat → Nat → α} {a q k : Nat} {x : α} (h : F a = H a) : zu F q k x a = zu H q k x a := by
  funext y
  unfold zu
  rw [h]
theorem L_bites (h : zInv n w) : zEi G y_Tf_bites prog_1_method_46_code 4 (some .boolean) 3 [.ref 0, .int a, .int b] w (fun r w1 => w1.2.2.2 = w.2.2.2 ∧ zEi G y_Mo_bites prog_14_method_138_code 9 (some .boolean) 4 [.ref 145, .int a, .int b] w1 (fun r' w2 => r' = r ∧ zInv (n + 1) w2)) := by
  obtain ⟨f, d, nt, np, nl, nn, fed, mk, I, J, P, S, rfl, Z, X⟩ := h
  have M := clOk_M Z
  have hf := clOk_f Z
  have N := stR_fen X
  have N0 := stR_mod X
  have fm := stR_fm X
  obtain ⟨⟨⟨a1, r1, b1⟩, ⟨a2, r2, b2⟩, ⟨a3, r3, b3⟩, ⟨a4, r4, b4⟩⟩, ⟨⟨o, ob, ao, ro⟩, r5⟩, fw, fp, ft, fz⟩ := id fm
  by_cases ha : zin a np
  case neg => exact L_q Z X (t_Tf_bites_o Z N ha) (fun I' J' e _ => ⟨_, rfl, t_Mo_bites_o M (modIn_c N0 (e 150 (by decide))) ha⟩)
  by_cases hb : zin b 10
  case neg => exact L_q Z X (t_Tf_bites_b Z N ha (zin_not (m := 9) (by decide) hb)) (fun I' J' e _ => ⟨_, rfl, t_Mo_bites_b M (modIn_c N0 (e 150 (by decide))) ha hb⟩)
  obtain ⟨p, hp, rfl⟩ := ha
  obtain ⟨k, hk, rfl⟩ := hb
  obtain ⟨x, hx⟩ : ∃ x, x = s_set (fun t => decide (I (f + 6) t = nI p)) nn &&& I f 6 := ⟨_, rfl⟩
  have bx : ∀ t, t < 32 → zB x t = (decide (t < nn) && decide (I (f + 6) t = nI p) && zB (I f 6) t) := fun t ht => by rw [hx, zB_and ht, s_set_bit _ ht (by omega)]
  have x9 := bits9 (x := x) (fun t h1 h2 => by rw [bx t h2, decide_eq_false (by omega)]; rfl)
  obtain ⟨L, hL⟩ : ∃ L, L = s_cnt (zB x) 9 := ⟨_, rfl⟩
  have hL9 : L ≤ 9 := by rw [hL]; exact s_cnt_le 9
  refine zEi_mono (t_Tf_bites (k := k) (L := L) Z N ao ob hp (by omega) (hx.symm.trans x9) (s_setN_lt _ 9) (by rw [pc_set, hL]) hL9) ?_
  rintro r w ⟨rfl, rfl⟩
  have e150 : (zu I 0 0 (nI 0)) 150 = I 150 := zu_row _ _ _ _ (by decide)
  refine ⟨rfl, zEi_mono (t_Mo_bites (k := k) (L := L) (o := o) M (modIn_c N0 e150) (by rw [e150]; exact ro) ob hp (by omega) ?_ hL9) ?_⟩
  · rw [e150, hL]
    refine s_cnt_g 9 (fun t ht => ?_)
    rw [bx t (by omega), zB_and (by omega), s_set_bit _ (by omega) (by omega), s_set_bit _ (by omega) (by omega)]
    by_cases h : t < nn
    · rw [decide_eq_true h, Bool.true_and, Bool.true_and, Bool.true_and, show I 150 (42 + t) = I (f + 6) t from (ft t h).2.1.2, show I 150 (51 + t) = zb (I f 6) t from (ft t h).2.2.1, zb_1]
    · rw [decide_eq_false h]; rfl
  rintro r w ⟨rfl, I1, J2, hD, hJ, rfl⟩
  have eS : sK (ch o L) k (L + 1) = sK (ch o L) k 10 := by
    have e := sK_z (v := ch o L) (k := k) (n := L + 1) (10 - (L + 1)) (fun i h1 h2 => ch_z o (by omega) L (by omega) i (by omega) (by omega))
    rw [show L + 1 + (10 - (L + 1)) = 10 by omega] at e
    exact e.symm
  rw [eS] at hJ
  exact ⟨rfl, L_fr Z X hD (fun _ _ => rfl) (fun a ha => zu_rc (zu_rc (hJ a ha)))⟩
end BI0
