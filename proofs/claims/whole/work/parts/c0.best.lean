/-! bestToAsk: the class -/
section SJ0
variable {G : zG} {I I' I1 I2 I3 : Nat → Nat → Int32} {J J' J2 : Nat → Nat → Int64} {P : Nat → Nat → Option Nat} {S : List (Nat × Nat)} {f d nt np nl nn n fed mk t k p q s g i u v : Nat} {a : Int32} {x y : Int64} {w : zW} {fb : Nat → Bool} {tl : Nat → Bool} {m : Nat → Nat}
/-- the first of the least among those of whom nothing was told -/
def bkN (tl : Nat → Bool) (m : Nat → Nat) : Nat → Option Nat
  | 0 => none
  | j + 1 => if tl j then bkN tl m j else match bkN tl m j with
    | none => some j
    | some b => if m j < m b then some j else some b
def bkV (m : Nat → Nat) : Option Nat → Nat
  | none => 0
  | some b => m b
theorem bkN_lt : ∀ j b, bkN tl m j = some b → b < j := by
  intro j
  induction j with
  | zero => intro b h; cases h
  | succ j ih =>
    intro b h
    rw [bkN] at h
    split at h
    · have := ih b h; omega
    · split at h
      · cases h; omega
      · rename_i b' hb'
        split at h
        · cases h; omega
        · cases h; have := ih b hb'; omega
theorem t_Seen_best (Z : clOk f d P S) (N : fenIn I f nt np nl nn) (hb : fbL (J 139 0) (2 ^ nt) fb) (h1 : I 139 1 = nI (2 ^ nt)) (h2 : I 139 2 = nI u) : zEi G y_Seen_bestToAsk prog_8_method_7_code 6 (some .int) 3 [.ref 139, .ref f] (I, J, P, S) (fun r w => r = zo (bkN (fun p => u.testBit p) (fun p => mxA fb (I (f + 2) p) (2 ^ nt)) np) ∧ ∃ I', w = (I', J, P, S) ∧ xF 140 I I') := by
  have hf := clOk_f Z
  obtain ⟨⟨c0, c3, c1s⟩, ⟨c5, c2s, ctr⟩, ⟨c6, c11s, c11, c13s⟩, ⟨c7, c15s, c15⟩, ⟨c8, c16s, c16a, c16b, c17s⟩, ⟨c9, c10, cfd, F, Fd⟩, ⟨c11b, Ft⟩, ⟨c12, c69s, cmk⟩, ⟨c14, c121s, c121, c122s⟩, ⟨c15b, c123s, c123, c124s⟩, ⟨c16, c125s, c125, c126s⟩, ⟨c17, c127s, c127, c128s, ctb⟩, ⟨c18, c139s, c139, c140s⟩, ⟨c19, c141s, ⟨c141a, c142s⟩, ⟨c141b, c143s⟩, ⟨c141c, c144s⟩⟩, M⟩ := id Z
  obtain ⟨F0, ⟨F8, F8s⟩, ⟨F9, F9s⟩, ⟨F10, F10s⟩, ⟨F11, F11s⟩, ⟨F12, F12s⟩, ⟨F13, F13s⟩, ⟨F14, F14s⟩, ⟨F15, F15s⟩, ⟨F16, F16s⟩, ⟨F17, F17s⟩, ⟨F18, F18s⟩, ⟨F19, F19s⟩, ⟨Y3, Y3s⟩, ⟨Y4, Y4s⟩, ⟨Y5, Y5s⟩, ⟨Y6, Y6s⟩⟩ := id F
  obtain ⟨⟨n1, n1b⟩, ⟨n2, n2b⟩, ⟨n3, n3b⟩, ⟨n4, n4b⟩, nof, non⟩ := id N
  have h64 : 2 ^ nt ≤ 64 := Nat.pow_le_pow_right (n := 2) (i := nt) (j := 6) (by decide) (by omega)
  obtain ⟨mm, hmm⟩ : ∃ mm : Nat → Nat, mm = fun p => mxA fb (I (f + 2) p) (2 ^ nt) := ⟨_, rfl⟩
  have mle : ∀ p, mm p ≤ 64 := fun p => by rw [hmm]; exact Nat.le_trans (mxA_le _) h64
  obtain ⟨tt, htt⟩ : ∃ tt : Nat → Bool, tt = fun p => u.testBit p := ⟨_, rfl⟩
  rw [← hmm, ← htt]
  refine zEi_of (lv := [some (.ref 139), some (.ref f), none, none, none, none]) (by decide) rfl (Nat.le_of_ble_eq_true rfl) ?_
  have lp : ∀ m j I2, np - j < m → j ≤ np → xF 140 I I2 → zA G y_Seen_bestToAsk prog_8_method_7_code 6 (some .int) (zRm 3 0 0) (zM G 0 0 (fun r w' => ∃ x, r = some (.int x) ∧ (fun r w => r = zo (bkN tt mm np) ∧ ∃ I', w = (I', J, P, S) ∧ xF 140 I I') x w')) 7 [some (.ref 139), some (.ref f), some (.int (zo (bkN tt mm j))), some (.int (nI (bkV mm (bkN tt mm j)))), some (.int (nI j)), none] [] (I2, J, P, S) 0 0 := by
    intro m
    induction m with
    | zero => intro j I2 h; exact absurd h (Nat.not_lt_zero _)
    | succ m ih =>
      intro j I2 hm hj g1
      have n2' : I2 f 2 = nI np := by rw [g1 f (by omega)]; exact n2
      have h2' : I2 139 2 = nI u := by rw [g1 139 (by decide)]; exact h2
      refine z_iload_4 d_Seen_bestToAsk_7 ?_
      refine z_aload_1 d_Seen_bestToAsk_9 ?_
      refine z_getIv d_Seen_bestToAsk_10 f_Seen_45 (by first | assumption | exact zS0_at (by assumption) (by omega) | exact zS0_at rfl (by omega)) (by first | assumption | ((try simp (disch := omega) only [zu_same, zu_ne, zcp_ne, zfl_ne]); first | assumption | rfl)) ?_
      refine z_icmp_ge (tgt := 63) d_Seen_bestToAsk_13 (by decide) (fun hc => ?_) (fun hc => ?_)
      · have hc := (nI_leI (by omega) (by omega)).mp hc
        obtain rfl : j = np := by omega
        refine z_iload_2 d_Seen_bestToAsk_63 ?_
        refine z_reti d_Seen_bestToAsk_64 ?_
        exact ⟨rfl, I2, rfl, g1⟩
      · have hc : j < np := Nat.lt_of_not_le (fun q => hc (nI_le q (by omega)))
        have etj : tt j = u.testBit j := by rw [htt]
        have q0 := fun I3 => ih (j + 1) I3 (by omega) (by omega)
        rw [show bkN tt mm (j + 1) = if tt j then bkN tt mm j else match bkN tt mm j with | none => some j | some b => if mm j < mm b then some j else some b from rfl] at q0
        refine z_aload_0 d_Seen_bestToAsk_16 ?_
        refine z_getIv d_Seen_bestToAsk_17 f_Seen_36 (by first | assumption | exact zS0_at (by assumption) (by omega) | exact zS0_at rfl (by omega)) (by first | assumption | ((try simp (disch := omega) only [zu_same, zu_ne, zcp_ne, zfl_ne]); first | assumption | rfl)) ?_
        refine z_iload_4 d_Seen_bestToAsk_20 ?_
        refine z_ishr d_Seen_bestToAsk_22 ?_
        refine z_iconst (a := nI 1) d_Seen_bestToAsk_23 (by decide) ?_
        refine z_iand d_Seen_bestToAsk_24 ?_
        refine z_if_ne (tgt := 57) d_Seen_bestToAsk_25 (by decide) (fun hz => ?_) (fun hz => ?_)
        · have hz : tt j = true := by
            have := zbit_p.mp hz
            rw [zbit, zB_nI (by omega)] at this
            rw [etj]; exact this
          rw [if_pos hz] at q0
          first | refine z_iinc_4 d_Seen_bestToAsk_57 rfl (zi_inc _) ?_ | refine z_iinc_4 d_Seen_bestToAsk_57 rfl rfl ?_
          refine z_goto (tgt := 7) d_Seen_bestToAsk_60 (by decide) ?_
          exact q0 I2 g1
        · have hz : ¬ tt j = true := by
            have := zbit_n.mp hz
            rw [zbit, zB_nI (by omega)] at this
            rw [etj]; exact this
          rw [if_neg hz] at q0
          have hv : I2 (f + 2) j = I (f + 2) j := by rw [g1 (f + 2) (by omega)]
          refine z_aload_0 d_Seen_bestToAsk_28 ?_
          refine z_aload_1 d_Seen_bestToAsk_29 ?_
          refine z_getR d_Seen_bestToAsk_30 f_Seen_50 (by first | assumption | exact zS0_at (by assumption) (by omega) | exact zS0_at rfl (by omega)) (by first | assumption | exact zS0_at (by assumption) (by omega) | exact zS0_at rfl (by omega)) ?_
          refine z_iload_4 d_Seen_bestToAsk_33 ?_
          first | refine z_ialdNv d_Seen_bestToAsk_35 (by first | assumption | exact zS0_at (by assumption) (by omega) | exact zS0_at rfl (by omega)) (by omega) (by first | decide | omega) (by first | assumption | ((try simp (disch := omega) only [zu_same, zu_ne, zcp_ne, zfl_ne]); first | assumption | rfl)) ?_ | refine z_iald d_Seen_bestToAsk_35 (by first | assumption | exact zS0_at (by assumption) (by omega) | exact zS0_at rfl (by omega)) (by first | assumption | exact zS0_at (by assumption) (by omega) | exact zS0_at rfl (by omega)) ?_
          refine z_Vi1 d_Seen_bestToAsk_36 k_Seen_64 (by first | assumption | exact zS0_at (by assumption) (by omega) | exact zS0_at rfl (by omega)) (t_Seen_most1 Z hb (by rw [g1 139 (by decide)]; exact h1) (by omega)) ⟨Nat.le_of_ble_eq_true rfl, Nat.le_of_ble_eq_true rfl, Nat.le_of_ble_eq_true rfl, Nat.le_of_ble_eq_true rfl⟩ (Nat.le_of_ble_eq_true rfl) ?_
          rintro r w ⟨rfl, I3, rfl, g3⟩
          have g4 : xF 140 I I3 := fun q hq => (g3 q hq).trans (g1 q hq)
          rw [show mxA fb (I (f + 2) j) (2 ^ nt) = mm j by rw [hmm]]
          have mj := mle j
          cases hbk : bkN tt mm j with
          | none =>
            rw [hbk] at q0
            have q := q0 I3 g4
            first | refine z_istore_5 d_Seen_bestToAsk_39 rfl ?_ | (refine z_forget_4 ?_; refine z_istore_5 d_Seen_bestToAsk_39 rfl ?_)
            refine z_iload_2 d_Seen_bestToAsk_41 ?_
            refine z_if_lt (tgt := 51) d_Seen_bestToAsk_42 (by decide) (fun _ => ?_) (fun h => absurd (by decide) h)
            refine z_iload_4 d_Seen_bestToAsk_51 ?_
            first | refine z_istore_2 d_Seen_bestToAsk_53 rfl ?_ | (refine z_forget_1 ?_; refine z_istore_2 d_Seen_bestToAsk_53 rfl ?_)
            refine z_iload_5 d_Seen_bestToAsk_54 ?_
            first | refine z_istore_3 d_Seen_bestToAsk_56 rfl ?_ | (refine z_forget_2 ?_; refine z_istore_3 d_Seen_bestToAsk_56 rfl ?_)
            first | refine z_iinc_4 d_Seen_bestToAsk_57 rfl (zi_inc _) ?_ | refine z_iinc_4 d_Seen_bestToAsk_57 rfl rfl ?_
            refine z_goto (tgt := 7) d_Seen_bestToAsk_60 (by decide) ?_
            refine z_forget_5 ?_
            exact q
          | some b =>
            rw [hbk] at q0
            have hbl := bkN_lt j b hbk
            have mb := mle b
            have q := q0 I3 g4
            first | refine z_istore_5 d_Seen_bestToAsk_39 rfl ?_ | (refine z_forget_4 ?_; refine z_istore_5 d_Seen_bestToAsk_39 rfl ?_)
            refine z_iload_2 d_Seen_bestToAsk_41 ?_
            refine z_if_lt (tgt := 51) d_Seen_bestToAsk_42 (by decide) (fun h => absurd h (nI_pos (by omega))) (fun _ => ?_)
            refine z_iload_5 d_Seen_bestToAsk_45 ?_
            refine z_iload_3 d_Seen_bestToAsk_47 ?_
            refine z_icmp_ge (tgt := 57) d_Seen_bestToAsk_48 (by decide) (fun hd => ?_) (fun hd => ?_)
            · have hd := (nI_leI (show mm b < 2 ^ 31 by omega) (by omega)).mp hd
              rw [show (match some b with | none => some j | some b => if mm j < mm b then some j else some b) = some b from if_neg (by omega)] at q
              first | refine z_iinc_4 d_Seen_bestToAsk_57 rfl (zi_inc _) ?_ | refine z_iinc_4 d_Seen_bestToAsk_57 rfl rfl ?_
              refine z_goto (tgt := 7) d_Seen_bestToAsk_60 (by decide) ?_
              refine z_forget_5 ?_
              exact q
            · have hd : mm j < mm b := Nat.lt_of_not_le (fun q => hd (nI_le q (by omega)))
              rw [show (match some b with | none => some j | some b => if mm j < mm b then some j else some b) = some j from if_pos hd] at q
              refine z_iload_4 d_Seen_bestToAsk_51 ?_
              first | refine z_istore_2 d_Seen_bestToAsk_53 rfl ?_ | (refine z_forget_1 ?_; refine z_istore_2 d_Seen_bestToAsk_53 rfl ?_)
              refine z_iload_5 d_Seen_bestToAsk_54 ?_
              first | refine z_istore_3 d_Seen_bestToAsk_56 rfl ?_ | (refine z_forget_2 ?_; refine z_istore_3 d_Seen_bestToAsk_56 rfl ?_)
              first | refine z_iinc_4 d_Seen_bestToAsk_57 rfl (zi_inc _) ?_ | refine z_iinc_4 d_Seen_bestToAsk_57 rfl rfl ?_
              refine z_goto (tgt := 7) d_Seen_bestToAsk_60 (by decide) ?_
              refine z_forget_5 ?_
              exact q
  refine z_iconst (a := -1) d_Seen_bestToAsk_0 (by decide) ?_
  first | refine z_istore_2 d_Seen_bestToAsk_1 rfl ?_ | (refine z_forget_1 ?_; refine z_istore_2 d_Seen_bestToAsk_1 rfl ?_)
  refine z_iconst (a := nI 0) d_Seen_bestToAsk_2 (by decide) ?_
  first | refine z_istore_3 d_Seen_bestToAsk_3 rfl ?_ | (refine z_forget_2 ?_; refine z_istore_3 d_Seen_bestToAsk_3 rfl ?_)
  refine z_iconst (a := nI 0) d_Seen_bestToAsk_4 (by decide) ?_
  first | refine z_istore_4 d_Seen_bestToAsk_5 rfl ?_ | (refine z_forget_3 ?_; refine z_istore_4 d_Seen_bestToAsk_5 rfl ?_)
  exact lp (np + 1) 0 I (by omega) (by omega) xF_r
end SJ0
