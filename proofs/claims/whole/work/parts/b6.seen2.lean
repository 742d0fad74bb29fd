/-! which sets are so: the class -/
section SF0
variable {G : zG} {I I' I1 I2 I3 : Nat → Nat → Int32} {J J' J2 : Nat → Nat → Int64} {P : Nat → Nat → Option Nat} {S : List (Nat × Nat)} {f d nt np nl nn n fed mk t k p q s g i u v : Nat} {a c : Int32} {x y : Int64} {w : zW} {X : Nat → Int64} {A : Nat → Int32}
def andN (a : Int32) (s : Nat) : Nat := s_setN (fun i => zB a i && s.testBit i) 6
theorem andN_lt : andN a s < 64 := s_setN_lt _ 6
theorem andN_eq (hs : s < 64) : a &&& nI s = nI (andN a s) ∧ nI s &&& a = nI (andN a s) := by
  have e : ∀ i, i < 32 → (zB a i && s.testBit i) = zB (nI (andN a s)) i := by
    intro i hi
    rw [zB_nI hi]
    unfold andN
    rw [s_setN_bit]
    by_cases h : i < 6
    · simp [h]
    · rw [Nat.testBit_lt_two_pow (Nat.lt_of_lt_of_le hs (Nat.pow_le_pow_right (n := 2) (i := 6) (by decide) (by omega)))]
      simp [h]
  constructor
  · apply zB_ext
    intro i hi
    rw [zB_and hi, zB_nI hi, e i hi]
  · apply zB_ext
    intro i hi
    rw [zB_and hi, zB_nI hi, Bool.and_comm, e i hi]
theorem tw_at (hn : np ≤ 7) : ∀ n u, tw X np n u → ∀ i, i < n → ∃ p y, X (2 * i) = lN p ∧ p < np ∧ X (2 * i + 1) = lN y ∧ y < 7 := by
  intro n
  induction n with
  | zero => intro u _ i hi; exact absurd hi (Nat.not_lt_zero _)
  | succ n ih =>
    rintro u ⟨v, p, y, h1, h2, h3, h4, h5, -⟩ i hi
    by_cases e : i = n
    · subst e; exact ⟨p, y, h2, h3, h4, h5⟩
    · exact ih v h1 i (by omega)
def fitS (A : Nat → Int32) (X : Nat → Int64) (n s : Nat) : Prop := ∀ i, i < n → ∀ p y, X (2 * i) = lN p → p < 7 → X (2 * i + 1) = lN y → y < 7 → pcN (andN (A p) s) = y
theorem pcN_9 : ∀ s, s < 64 → pcN s ≤ 6 := by decide +kernel
theorem t_Seen_isSo (Z : clOk f d P S) (N : fenIn I f nt np nl nn) (T : trOk P S g) (hX : X = J (g + 1)) (hn : n ≤ 7) (hw : tw X np n u) (hs : s < 64) : zEi G y_Seen_isSo prog_8_method_4_code 6 (some .boolean) 2 [.ref f, .ref g, .int (nI n), .int (nI s)] (I, J, P, S) (fun r w => (fitS (I (f + 2)) X n s ∧ r = nI 1 ∨ ¬ fitS (I (f + 2)) X n s ∧ r = nI 0) ∧ w = (I, J, P, S)) := by
  obtain ⟨⟨c0, c3, c1s⟩, ⟨c5, c2s, ctr⟩, ⟨c6, c11s, c11, c13s⟩, ⟨c7, c15s, c15⟩, ⟨c8, c16s, c16a, c16b, c17s⟩, ⟨c9, c10, cfd, F, Fd⟩, ⟨c11b, Ft⟩, ⟨c12, c69s, cmk⟩, ⟨c14, c121s, c121, c122s⟩, ⟨c15b, c123s, c123, c124s⟩, ⟨c16, c125s, c125, c126s⟩, ⟨c17, c127s, c127, c128s, ctb⟩, ⟨c18, c139s, c139, c140s⟩, ⟨c19, c141s, ⟨c141a, c142s⟩, ⟨c141b, c143s⟩, ⟨c141c, c144s⟩⟩, M⟩ := id Z
  obtain ⟨F0, ⟨F8, F8s⟩, ⟨F9, F9s⟩, ⟨F10, F10s⟩, ⟨F11, F11s⟩, ⟨F12, F12s⟩, ⟨F13, F13s⟩, ⟨F14, F14s⟩, ⟨F15, F15s⟩, ⟨F16, F16s⟩, ⟨F17, F17s⟩, ⟨F18, F18s⟩, ⟨F19, F19s⟩, ⟨Y3, Y3s⟩, ⟨Y4, Y4s⟩, ⟨Y5, Y5s⟩, ⟨Y6, Y6s⟩⟩ := id F
  obtain ⟨⟨n1, n1b⟩, ⟨n2, n2b⟩, ⟨n3, n3b⟩, ⟨n4, n4b⟩, nof, non⟩ := id N
  obtain ⟨T0, T1, T2⟩ := id T
  refine zEi_of (lv := [some (.ref f), some (.ref g), some (.int (nI n)), some (.int (nI s)), none, none]) (by decide) rfl (Nat.le_of_ble_eq_true rfl) ?_
  have loop : ∀ m j, n - j < m → j ≤ n → (∀ i, i < j → ∀ p y, X (2 * i) = lN p → p < 7 → X (2 * i + 1) = lN y → y < 7 → pcN (andN (I (f + 2) p) s) = y) → zA G y_Seen_isSo prog_8_method_4_code 6 (some .boolean) (zRm 2 0 0) (zM G 0 0 (fun r w' => ∃ x, r = some (.int x) ∧ (fun r w => (fitS (I (f + 2)) X n s ∧ r = nI 1 ∨ ¬ fitS (I (f + 2)) X n s ∧ r = nI 0) ∧ w = (I, J, P, S)) x w')) 3 [some (.ref f), some (.ref g), some (.int (nI n)), some (.int (nI s)), some (.int (nI j)), none] [] (I, J, P, S) 0 0 := by
    intro m
    induction m with
    | zero => intro j h; omega
    | succ m ih =>
      intro j hm hj hno
      refine z_iload_4 d_Seen_isSo_3 ?_
      refine z_iload_2 d_Seen_isSo_5 ?_
      refine z_icmp_ge (tgt := 57) d_Seen_isSo_6 (by decide) (fun hb => ?_) (fun hb => ?_)
      · have hb := (nI_leI (by omega) (by omega)).mp hb
        obtain rfl : j = n := by omega
        refine z_iconst (a := nI 1) d_Seen_isSo_57 (by decide) ?_
        refine z_retz d_Seen_isSo_58 (by first | exact zb0 | exact zb1 | assumption) ?_
        exact ⟨Or.inl ⟨hno, rfl⟩, rfl⟩
      · have hb : j < n := Nat.lt_of_not_le (fun q => hb (nI_le q (by omega)))
        obtain ⟨p, y, ep, hp, ey, hy⟩ := tw_at n2b n u hw j hb
        have hx1 : J (g + 1) (2 * j) = X (2 * j) := by rw [hX]
        have hx2 : J (g + 1) (2 * j + 1) = lN y := by rw [← hX]; exact ey
        have e32 : (X (2 * j)).toInt32 = nI p := by rw [ep]; exact l2i_N p (by omega)
        have hm := pcN_9 _ (andN_lt (a := I (f + 2) p) (s := s))
        have h64 := andN_lt (a := I (f + 2) p) (s := s)
        refine z_aload_1 d_Seen_isSo_9 ?_
        refine z_getR d_Seen_isSo_10 f_Seen_39 (by first | assumption | exact zS0_at (by assumption) (by omega) | exact zS0_at rfl (by omega)) (by first | assumption | exact zS0_at (by assumption) (by omega) | exact zS0_at rfl (by omega)) ?_
        refine z_iconst (a := nI 2) d_Seen_isSo_13 (by decide) ?_
        refine z_iload_4 d_Seen_isSo_14 ?_
        first | refine z_imulN d_Seen_isSo_16 ?_ | refine z_imul d_Seen_isSo_16 ?_
        first | refine z_laldNv d_Seen_isSo_17 (by first | assumption | exact zS0_at (by assumption) (by omega) | exact zS0_at rfl (by omega)) (by omega) (by first | decide | omega) (by first | assumption | ((try simp (disch := omega) only [zu_same, zu_ne, zcp_ne, zfl_ne]); first | assumption | rfl)) ?_ | refine z_lald d_Seen_isSo_17 (by first | assumption | exact zS0_at (by assumption) (by omega) | exact zS0_at rfl (by omega)) (by first | assumption | exact zS0_at (by assumption) (by omega) | exact zS0_at rfl (by omega)) ?_
        refine z_l2i d_Seen_isSo_18 ?_
        rw [e32]
        first | refine z_istore_5 d_Seen_isSo_19 rfl ?_ | (refine z_forget_4 ?_; refine z_istore_5 d_Seen_isSo_19 rfl ?_)
        refine z_aload_0 d_Seen_isSo_21 ?_
        refine z_getR d_Seen_isSo_22 f_Seen_50 (by first | assumption | exact zS0_at (by assumption) (by omega) | exact zS0_at rfl (by omega)) (by first | assumption | exact zS0_at (by assumption) (by omega) | exact zS0_at rfl (by omega)) ?_
        refine z_iload_5 d_Seen_isSo_25 ?_
        first | refine z_ialdNv d_Seen_isSo_27 (by first | assumption | exact zS0_at (by assumption) (by omega) | exact zS0_at rfl (by omega)) (by omega) (by first | decide | omega) (by first | assumption | ((try simp (disch := omega) only [zu_same, zu_ne, zcp_ne, zfl_ne]); first | assumption | rfl)) ?_ | refine z_iald d_Seen_isSo_27 (by first | assumption | exact zS0_at (by assumption) (by omega) | exact zS0_at rfl (by omega)) (by first | assumption | exact zS0_at (by assumption) (by omega) | exact zS0_at rfl (by omega)) ?_
        refine z_iload_3 d_Seen_isSo_28 ?_
        refine z_iand d_Seen_isSo_29 ?_
        rw [(andN_eq hs).1]
        refine z_Si1 d_Seen_isSo_30 k_Seen_53 (t_JInt_bitCount (by omega)) ⟨Nat.le_of_ble_eq_true rfl, Nat.le_of_ble_eq_true rfl, Nat.le_of_ble_eq_true rfl, Nat.le_of_ble_eq_true rfl⟩ (Nat.le_of_ble_eq_true rfl) ?_
        intro r w hq
        obtain ⟨rfl, rfl⟩ := hq
        refine z_i2l d_Seen_isSo_33 ?_
        refine z_aload_1 d_Seen_isSo_34 ?_
        refine z_getR d_Seen_isSo_35 f_Seen_39 (by first | assumption | exact zS0_at (by assumption) (by omega) | exact zS0_at rfl (by omega)) (by first | assumption | exact zS0_at (by assumption) (by omega) | exact zS0_at rfl (by omega)) ?_
        refine z_iconst (a := nI 2) d_Seen_isSo_38 (by decide) ?_
        refine z_iload_4 d_Seen_isSo_39 ?_
        first | refine z_imulN d_Seen_isSo_41 ?_ | refine z_imul d_Seen_isSo_41 ?_
        refine z_iconst (a := nI 1) d_Seen_isSo_42 (by decide) ?_
        first | refine z_iaddN d_Seen_isSo_43 ?_ | refine z_iadd d_Seen_isSo_43 ?_
        first | refine z_laldNv d_Seen_isSo_44 (by first | assumption | exact zS0_at (by assumption) (by omega) | exact zS0_at rfl (by omega)) (by omega) (by first | decide | omega) (by first | assumption | ((try simp (disch := omega) only [zu_same, zu_ne, zcp_ne, zfl_ne]); first | assumption | rfl)) ?_ | refine z_lald d_Seen_isSo_44 (by first | assumption | exact zS0_at (by assumption) (by omega) | exact zS0_at rfl (by omega)) (by first | assumption | exact zS0_at (by assumption) (by omega) | exact zS0_at rfl (by omega)) ?_
        refine z_lcmp d_Seen_isSo_45 ?_
        have key : (nI (pcN (andN (I (f + 2) p) s))).toInt64 = lN y ↔ pcN (andN (I (f + 2) p) s) = y := by
          rw [← Int64.toInt_inj, Int32.toInt_toInt64, nI_int (by omega), lN_int (by omega)]
          omega
        refine z_if_eq (tgt := 51) d_Seen_isSo_46 (by decide) (fun hc => ?_) (fun hc => ?_)
        · rw [lg_cmp_eq, key] at hc
          first | refine z_iinc_4 d_Seen_isSo_51 rfl (zi_inc _) ?_ | refine z_iinc_4 d_Seen_isSo_51 rfl rfl ?_
          refine z_goto (tgt := 3) d_Seen_isSo_54 (by decide) ?_
          refine z_forget_5 ?_
          refine ih (j + 1) (by omega) (by omega) (fun i hi p' y' a1 a2 a3 a4 => ?_)
          by_cases e : i = j
          · subst e
            rw [lN_inj (by omega) (by omega) (a1.symm.trans ep), lN_inj (by omega) (by omega) (a3.symm.trans ey)]
            exact hc
          · exact hno i (by omega) p' y' a1 a2 a3 a4
        · rw [lg_cmp_eq, key] at hc
          refine z_iconst (a := nI 0) d_Seen_isSo_49 (by decide) ?_
          refine z_retz d_Seen_isSo_50 (by first | exact zb0 | exact zb1 | assumption) ?_
          exact ⟨Or.inr ⟨fun h => hc (h j hb p y ep (by omega) ey hy), rfl⟩, rfl⟩
  refine z_iconst (a := nI 0) d_Seen_isSo_0 (by decide) ?_
  first | refine z_istore_4 d_Seen_isSo_1 rfl ?_ | (refine z_forget_3 ?_; refine z_istore_4 d_Seen_isSo_1 rfl ?_)
  exact loop (n + 1) 0 (by omega) (by omega) (fun i h => absurd h (Nat.not_lt_zero _))
end SF0
