/-! mostWithOneNumber, bestToAsk: the class -/
section SI0
variable {G : zG} {I I' I1 I2 I3 : Nat → Nat → Int32} {J J' J2 : Nat → Nat → Int64} {P : Nat → Nat → Option Nat} {S : List (Nat × Nat)} {f d nt np nl nn n fed mk t k p q s g i u v : Nat} {a : Int32} {x y : Int64} {w : zW} {fb : Nat → Bool}
/-- how many of the first m sets that are so have c in common with a -/
def grN (fb : Nat → Bool) (a : Int32) (c : Nat) : Nat → Nat
  | 0 => 0
  | j + 1 => if fb j = true ∧ pcN (andN a j) = c then grN fb a c j + 1 else grN fb a c j
/-- the most of them with one number -/
def mxA (fb : Nat → Bool) (a : Int32) : Nat → Nat
  | 0 => 0
  | j + 1 => if fb j then max (mxA fb a j) (grN fb a (pcN (andN a j)) j + 1) else mxA fb a j
theorem grN_le : ∀ j c, grN fb a c j ≤ j := by
  intro j
  induction j with
  | zero => intro c; exact Nat.le_refl _
  | succ j ih =>
    intro c
    rw [grN]
    have := ih c
    split <;> omega
theorem mxA_le : ∀ j, mxA fb a j ≤ j := by
  intro j
  induction j with
  | zero => exact Nat.le_refl _
  | succ j ih =>
    rw [mxA]
    have := grN_le (fb := fb) (a := a) j (pcN (andN a j))
    split <;> omega
theorem mxA_is : ∀ j, (∀ c, grN fb a c j ≤ mxA fb a j) ∧ (mxA fb a j = 0 ∨ ∃ c, c ≤ 6 ∧ grN fb a c j = mxA fb a j) := by
  intro j
  induction j with
  | zero => exact ⟨fun c => Nat.le_refl _, Or.inl rfl⟩
  | succ j ih =>
    obtain ⟨h1, h2⟩ := ih
    rw [mxA]
    by_cases hb : fb j = true
    · rw [if_pos hb]
      constructor
      · intro c
        rw [grN]
        have := h1 c
        split
        · rename_i h; rw [h.2]; omega
        · omega
      · right
        by_cases hl : mxA fb a j ≤ grN fb a (pcN (andN a j)) j + 1
        · refine ⟨pcN (andN a j), pcN_9 _ andN_lt, ?_⟩
          rw [grN, if_pos ⟨hb, rfl⟩]; omega
        · rcases h2 with h2 | ⟨c, c1, c2⟩
          · omega
          · refine ⟨c, c1, ?_⟩
            have : ¬ (fb j = true ∧ pcN (andN a j) = c) := fun q => by
              rw [q.2] at hl; omega
            rw [grN, if_neg this]; omega
    · rw [if_neg hb]
      have e : ∀ c, grN fb a c (j + 1) = grN fb a c j := fun c => by rw [grN, if_neg (fun q => hb q.1)]
      exact ⟨fun c => by rw [e]; exact h1 c, by
        rcases h2 with h2 | ⟨c, c1, c2⟩
        · exact Or.inl h2
        · exact Or.inr ⟨c, c1, by rw [e]; exact c2⟩⟩
theorem t_Seen_most1 (Z : clOk f d P S) (hb : fbL (J 139 0) (2 ^ nt) fb) (h1 : I 139 1 = nI (2 ^ nt)) (hnt : nt ≤ 6) : zEi G y_Seen_mostWithOneNumber prog_8_method_8_code 5 (some .int) 2 [.ref 139, .int a] (I, J, P, S) (fun r w => r = nI (mxA fb a (2 ^ nt)) ∧ ∃ I', w = (I', J, P, S) ∧ xF 140 I I') := by
  obtain ⟨⟨c0, c3, c1s⟩, ⟨c5, c2s, ctr⟩, ⟨c6, c11s, c11, c13s⟩, ⟨c7, c15s, c15⟩, ⟨c8, c16s, c16a, c16b, c17s⟩, ⟨c9, c10, cfd, F, Fd⟩, ⟨c11b, Ft⟩, ⟨c12, c69s, cmk⟩, ⟨c14, c121s, c121, c122s⟩, ⟨c15b, c123s, c123, c124s⟩, ⟨c16, c125s, c125, c126s⟩, ⟨c17, c127s, c127, c128s, ctb⟩, ⟨c18, c139s, c139, c140s⟩, ⟨c19, c141s, ⟨c141a, c142s⟩, ⟨c141b, c143s⟩, ⟨c141c, c144s⟩⟩, M⟩ := id Z
  have h0p : 0 < 2 ^ nt := Nat.pow_pos (by decide)
  have h64 : 2 ^ nt ≤ 64 := Nat.pow_le_pow_right (n := 2) (i := nt) (j := 6) (by decide) hnt
  refine zEi_of (lv := [some (.ref 139), some (.int a), none, none, none]) (by decide) rfl (Nat.le_of_ble_eq_true rfl) ?_
  have lp : ∀ m j I2, 2 ^ nt - j < m → j ≤ 2 ^ nt → xF 140 I I2 → (∀ c, c < 7 → I2 140 c = nI (grN fb a c j)) → zA G y_Seen_mostWithOneNumber prog_8_method_8_code 5 (some .int) (zRm 2 0 0) (zM G 0 0 (fun r w' => ∃ x, r = some (.int x) ∧ (fun r w => r = nI (mxA fb a (2 ^ nt)) ∧ ∃ I', w = (I', J, P, S) ∧ xF 140 I I') x w')) 12 [some (.ref 139), some (.int a), some (.int (nI (mxA fb a j))), some (.int (nI j)), none] [] (I2, J, P, S) 0 0 := by
    intro m
    induction m with
    | zero => intro j I2 h; exact absurd h (Nat.not_lt_zero _)
    | succ m ih =>
      intro j I2 hm hj g1 g2
      have h1' : I2 139 1 = nI (2 ^ nt) := by rw [g1 139 (by decide)]; exact h1
      refine z_iload_3 d_Seen_mostWithOneNumber_12 ?_
      refine z_aload_0 d_Seen_mostWithOneNumber_13 ?_
      refine z_getIv d_Seen_mostWithOneNumber_14 f_Seen_25 (by first | assumption | exact zS0_at (by assumption) (by omega) | exact zS0_at rfl (by omega)) (by first | assumption | ((try simp (disch := omega) only [zu_same, zu_ne, zcp_ne, zfl_ne]); first | assumption | rfl)) ?_
      refine z_icmp_ge (tgt := 70) d_Seen_mostWithOneNumber_17 (by decide) (fun hc => ?_) (fun hc => ?_)
      · have hc := (nI_leI (by omega) (by omega)).mp hc
        obtain rfl : j = 2 ^ nt := by omega
        refine z_iload_2 d_Seen_mostWithOneNumber_70 ?_
        refine z_reti d_Seen_mostWithOneNumber_71 ?_
        exact ⟨rfl, I2, rfl, g1⟩
      · have hc : j < 2 ^ nt := Nat.lt_of_not_le (fun q => hc (nI_le q (by omega)))
        have hbj := hb j (by omega)
        rw [decide_eq_true hc, Bool.true_and] at hbj
        refine z_aload_0 d_Seen_mostWithOneNumber_20 ?_
        refine z_getJv d_Seen_mostWithOneNumber_21 f_Seen_28 (by first | assumption | exact zS0_at (by assumption) (by omega) | exact zS0_at rfl (by omega)) (by first | assumption | ((try simp (disch := omega) only [zu_same, zu_ne, zcp_ne, zfl_ne]); first | assumption | rfl)) ?_
        refine z_iload_3 d_Seen_mostWithOneNumber_24 ?_
        refine z_lshr d_Seen_mostWithOneNumber_25 ?_
        refine z_lconst (f := lN 1) d_Seen_mostWithOneNumber_26 rfl ?_
        refine z_land d_Seen_mostWithOneNumber_27 ?_
        refine z_lconst (f := lN 0) d_Seen_mostWithOneNumber_28 rfl ?_
        refine z_lcmp d_Seen_mostWithOneNumber_29 ?_
        refine z_if_eq (tgt := 64) d_Seen_mostWithOneNumber_30 (by decide) (fun hz => ?_) (fun hz => ?_)
        · rw [lg_cmp_eq, l_bit (by omega), hbj] at hz
          have q0 := ih (j + 1) I2 (by omega) (by omega) g1 (fun c hc => by
            rw [grN, if_neg (fun q => by rw [hz] at q; exact absurd q.1 (by decide))]; exact g2 c hc)
          rw [show mxA fb a (j + 1) = if fb j then max (mxA fb a j) (grN fb a (pcN (andN a j)) j + 1) else mxA fb a j from rfl, hz, if_neg (by decide)] at q0
          first | refine z_iinc_3 d_Seen_mostWithOneNumber_64 rfl (zi_inc _) ?_ | refine z_iinc_3 d_Seen_mostWithOneNumber_64 rfl rfl ?_
          refine z_goto (tgt := 12) d_Seen_mostWithOneNumber_67 (by decide) ?_
          exact q0
        · rw [lg_cmp_eq, l_bit (by omega), hbj] at hz
          have hz : fb j = true := by cases h : fb j with | true => rfl | false => exact absurd h hz
          have lt64 := andN_lt (a := a) (s := j)
          have lt6 := pcN_9 _ lt64
          have gle := grN_le (fb := fb) (a := a) j (pcN (andN a j))
          have mle := mxA_le (fb := fb) (a := a) j
          have hrd := g2 (pcN (andN a j)) (by omega)
          have q0 := ih (j + 1) (zu I2 140 (pcN (andN a j)) (nI (grN fb a (pcN (andN a j)) j + 1))) (by omega) (by omega) (xF_u g1) (fun c hc => by
            rw [grN]
            by_cases e : pcN (andN a j) = c
            · rw [if_pos ⟨hz, e⟩, ← e, zu_same]
            · rw [if_neg (fun q => e q.2), zu_ne _ _ _ _ (by omega)]; exact g2 c hc)
          rw [show mxA fb a (j + 1) = if fb j then max (mxA fb a j) (grN fb a (pcN (andN a j)) j + 1) else mxA fb a j from rfl, if_pos hz] at q0
          refine z_iload_1 d_Seen_mostWithOneNumber_33 ?_
          refine z_iload_3 d_Seen_mostWithOneNumber_34 ?_
          refine z_iand d_Seen_mostWithOneNumber_35 ?_
          rw [(andN_eq (by omega)).1]
          refine z_Si1 d_Seen_mostWithOneNumber_36 k_Seen_53 (t_JInt_bitCount (by omega)) ⟨Nat.le_of_ble_eq_true rfl, Nat.le_of_ble_eq_true rfl, Nat.le_of_ble_eq_true rfl, Nat.le_of_ble_eq_true rfl⟩ (Nat.le_of_ble_eq_true rfl) ?_
          intro r w hq
          obtain ⟨rfl, rfl⟩ := hq
          generalize hcc : pcN (andN a j) = cc at *
          first | refine z_istore_4 d_Seen_mostWithOneNumber_39 rfl ?_ | (refine z_forget_3 ?_; refine z_istore_4 d_Seen_mostWithOneNumber_39 rfl ?_)
          refine z_aload_0 d_Seen_mostWithOneNumber_41 ?_
          refine z_getR d_Seen_mostWithOneNumber_42 f_Seen_9 (by first | assumption | exact zS0_at (by assumption) (by omega) | exact zS0_at rfl (by omega)) (by first | assumption | exact zS0_at (by assumption) (by omega) | exact zS0_at rfl (by omega)) ?_
          refine z_iload_4 d_Seen_mostWithOneNumber_45 ?_
          first | refine z_dup2 rfl rfl d_Seen_mostWithOneNumber_47 ?_ | refine z_dup2l rfl d_Seen_mostWithOneNumber_47 ?_
          first | refine z_ialdNv d_Seen_mostWithOneNumber_48 (by first | assumption | exact zS0_at (by assumption) (by omega) | exact zS0_at rfl (by omega)) (by omega) (by first | decide | omega) (by first | assumption | ((try simp (disch := omega) only [zu_same, zu_ne, zcp_ne, zfl_ne]); first | assumption | rfl)) ?_ | refine z_iald d_Seen_mostWithOneNumber_48 (by first | assumption | exact zS0_at (by assumption) (by omega) | exact zS0_at rfl (by omega)) (by first | assumption | exact zS0_at (by assumption) (by omega) | exact zS0_at rfl (by omega)) ?_
          refine z_iconst (a := nI 1) d_Seen_mostWithOneNumber_49 (by decide) ?_
          first | refine z_iaddN d_Seen_mostWithOneNumber_50 ?_ | refine z_iadd d_Seen_mostWithOneNumber_50 ?_
          first | refine z_iastN d_Seen_mostWithOneNumber_51 (by first | assumption | exact zS0_at (by assumption) (by omega) | exact zS0_at rfl (by omega)) (by omega) (by first | decide | omega) ?_ | refine z_iast d_Seen_mostWithOneNumber_51 (by first | assumption | exact zS0_at (by assumption) (by omega) | exact zS0_at rfl (by omega)) (by first | assumption | exact zS0_at (by assumption) (by omega) | exact zS0_at rfl (by omega)) ?_
          refine z_iload_2 d_Seen_mostWithOneNumber_52 ?_
          refine z_aload_0 d_Seen_mostWithOneNumber_53 ?_
          refine z_getR d_Seen_mostWithOneNumber_54 f_Seen_9 (by first | assumption | exact zS0_at (by assumption) (by omega) | exact zS0_at rfl (by omega)) (by first | assumption | exact zS0_at (by assumption) (by omega) | exact zS0_at rfl (by omega)) ?_
          refine z_iload_4 d_Seen_mostWithOneNumber_57 ?_
          first | refine z_ialdNv d_Seen_mostWithOneNumber_59 (by first | assumption | exact zS0_at (by assumption) (by omega) | exact zS0_at rfl (by omega)) (by omega) (by first | decide | omega) (by first | assumption | ((try simp (disch := omega) only [zu_same, zu_ne, zcp_ne, zfl_ne]); first | assumption | rfl)) ?_ | refine z_iald d_Seen_mostWithOneNumber_59 (by first | assumption | exact zS0_at (by assumption) (by omega) | exact zS0_at rfl (by omega)) (by first | assumption | exact zS0_at (by assumption) (by omega) | exact zS0_at rfl (by omega)) ?_
          refine z_max d_Seen_mostWithOneNumber_60 k_Seen_73.2.1 ⟨Nat.le_of_ble_eq_true rfl, Nat.le_of_ble_eq_true rfl, Nat.le_of_ble_eq_true rfl, Nat.le_of_ble_eq_true rfl⟩ (Nat.le_of_ble_eq_true rfl) ?_
          rw [z_maxN (by omega) (by omega)]
          first | refine z_istore_2 d_Seen_mostWithOneNumber_63 rfl ?_ | (refine z_forget_1 ?_; refine z_istore_2 d_Seen_mostWithOneNumber_63 rfl ?_)
          first | refine z_iinc_3 d_Seen_mostWithOneNumber_64 rfl (zi_inc _) ?_ | refine z_iinc_3 d_Seen_mostWithOneNumber_64 rfl rfl ?_
          refine z_goto (tgt := 12) d_Seen_mostWithOneNumber_67 (by decide) ?_
          refine z_forget_4 ?_
          exact q0
  refine z_aload_0 d_Seen_mostWithOneNumber_0 ?_
  refine z_getR d_Seen_mostWithOneNumber_1 f_Seen_9 (by first | assumption | exact zS0_at (by assumption) (by omega) | exact zS0_at rfl (by omega)) (by first | assumption | exact zS0_at (by assumption) (by omega) | exact zS0_at rfl (by omega)) ?_
  refine z_iconst (a := nI 0) d_Seen_mostWithOneNumber_4 (by decide) ?_
  refine z_Sv2 d_Seen_mostWithOneNumber_5 k_Seen_67 (t_JArr_fillI c140s (by decide)) ⟨Nat.le_of_ble_eq_true rfl, Nat.le_of_ble_eq_true rfl, Nat.le_of_ble_eq_true rfl, Nat.le_of_ble_eq_true rfl⟩ (Nat.le_of_ble_eq_true rfl) ?_
  intro w hq
  obtain rfl := hq
  refine z_iconst (a := nI 0) d_Seen_mostWithOneNumber_8 (by decide) ?_
  first | refine z_istore_2 d_Seen_mostWithOneNumber_9 rfl ?_ | (refine z_forget_1 ?_; refine z_istore_2 d_Seen_mostWithOneNumber_9 rfl ?_)
  refine z_iconst (a := nI 0) d_Seen_mostWithOneNumber_10 (by decide) ?_
  first | refine z_istore_3 d_Seen_mostWithOneNumber_11 rfl ?_ | (refine z_forget_2 ?_; refine z_istore_3 d_Seen_mostWithOneNumber_11 rfl ?_)
  exact lp (2 ^ nt + 1) 0 _ (by omega) (by omega) (fun q hq => zfl_ne hq) (fun c hc => zfl_in hc)
end SI0
