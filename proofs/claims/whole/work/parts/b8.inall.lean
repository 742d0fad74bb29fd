/-! inAll: the class -/
section SH0
variable {G : zG} {I I' I1 I2 I3 : Nat → Nat → Int32} {J J' J2 : Nat → Nat → Int64} {P : Nat → Nat → Option Nat} {S : List (Nat × Nat)} {f d nt np nl nn n fed mk t k p q s g i u v : Nat} {x y : Int64} {w : zW} {fb : Nat → Bool}
theorem s_l64 : ∀ n, n < 64 → (((nI n).toInt64 &&& 63).toBitVec.smod 64).toNat = n := by decide +kernel
theorem l_sshr (hs : s < 64) : (x >>> ((nI s).toInt64 &&& 63)).toBitVec.getLsbD 0 = x.toBitVec.getLsbD s := by
  rw [Int64.toBitVec_shiftRight]
  show (x.toBitVec.sshiftRight (((nI s).toInt64 &&& 63).toBitVec.smod 64).toNat).getLsbD 0 = _
  rw [s_l64 s hs, BitVec.getLsbD_sshiftRight]
  simp [hs]
theorem l_bit (hs : s < 64) : (x >>> ((nI s).toInt64 &&& 63)) &&& lN 1 = lN 0 ↔ (U64 x).testBit s = false := by
  have e : (U64 x).testBit s = x.toBitVec.getLsbD s := rfl
  rw [e, ← l_sshr hs]
  generalize x >>> ((nI s).toInt64 &&& 63) = z
  constructor
  · intro h
    have := congrArg (fun t => t.toBitVec.getLsbD 0) h
    rw [Int64.toBitVec_and, BitVec.getLsbD_and, show (lN 1).toBitVec.getLsbD 0 = true by decide, show (lN 0).toBitVec.getLsbD 0 = false by decide, Bool.and_true] at this
    exact this
  · intro h
    apply Int64.toBitVec_inj.mp
    apply BitVec.eq_of_getLsbD_eq
    intro i hi
    rw [Int64.toBitVec_and, BitVec.getLsbD_and]
    have k0 : ∀ i, i < 64 → (lN 0).toBitVec.getLsbD i = false := by decide +kernel
    have k1 : ∀ i, i < 64 → 0 < i → (lN 1).toBitVec.getLsbD i = false := by decide +kernel
    rw [k0 i hi]
    by_cases hz : i = 0
    · subst hz; rw [h]; rfl
    · rw [k1 i hi (by omega), Bool.and_false]
/-- what is in all of them -/
def inN (fb : Nat → Bool) (m0 : Nat) : Nat → Nat
  | 0 => m0
  | j + 1 => if fb j then inN fb m0 j &&& j else inN fb m0 j
theorem t_Seen_inAll (Z : clOk f d P S) (hb : fbL (J 139 0) (2 ^ nt) fb) (h1 : I 139 1 = nI (2 ^ nt)) (hnt : nt ≤ 6) : zEi G y_Seen_inAll prog_8_method_6_code 3 (some .int) 1 [.ref 139] (I, J, P, S) (fun r w => r = nI (inN fb (2 ^ nt - 1) (2 ^ nt)) ∧ w = (I, J, P, S)) := by
  obtain ⟨⟨c0, c3, c1s⟩, ⟨c5, c2s, ctr⟩, ⟨c6, c11s, c11, c13s⟩, ⟨c7, c15s, c15⟩, ⟨c8, c16s, c16a, c16b, c17s⟩, ⟨c9, c10, cfd, F, Fd⟩, ⟨c11b, Ft⟩, ⟨c12, c69s, cmk⟩, ⟨c14, c121s, c121, c122s⟩, ⟨c15b, c123s, c123, c124s⟩, ⟨c16, c125s, c125, c126s⟩, ⟨c17, c127s, c127, c128s, ctb⟩, ⟨c18, c139s, c139, c140s⟩, ⟨c19, c141s, ⟨c141a, c142s⟩, ⟨c141b, c143s⟩, ⟨c141c, c144s⟩⟩, M⟩ := id Z
  have h0p : 0 < 2 ^ nt := Nat.pow_pos (by decide)
  have h64 : 2 ^ nt ≤ 64 := Nat.pow_le_pow_right (n := 2) (i := nt) (j := 6) (by decide) hnt
  refine zEi_of (lv := [some (.ref 139), none, none]) (by decide) rfl (Nat.le_of_ble_eq_true rfl) ?_
  have loop : ∀ m j, (2^nt) - j < m → j ≤ (2^nt) → zA G y_Seen_inAll prog_8_method_6_code 3 (some .int) (zRm 1 0 0) (zM G 0 0 (fun r w' => ∃ x, r = some (.int x) ∧ (fun r w => r = nI (inN fb (2 ^ nt - 1) (2 ^ nt)) ∧ w = (I, J, P, S)) x w')) 9 [some (.ref 139), some (.int (nI (inN fb (2 ^ nt - 1) j))), some (.int (nI j))] [] (I, J, P, S) 0 0 := by
    intro m
    induction m with
    | zero => intro j h; omega
    | succ m ih =>
      intro j hm hj
      refine z_iload_2 d_Seen_inAll_9 ?_
      refine z_aload_0 d_Seen_inAll_10 ?_
      refine z_getIv d_Seen_inAll_11 f_Seen_25 (by first | assumption | exact zS0_at (by assumption) (by omega) | exact zS0_at rfl (by omega)) (by first | assumption | ((try simp (disch := omega) only [zu_same, zu_ne, zcp_ne, zfl_ne]); first | assumption | rfl)) ?_
      refine z_icmp_ge (tgt := 40) d_Seen_inAll_14 (by decide) (fun hc => ?_) (fun hc => ?_)
      · have hc := (nI_leI (by omega) (by omega)).mp hc
        obtain rfl : j = 2 ^ nt := by omega
        refine z_iload_1 d_Seen_inAll_40 ?_
        refine z_reti d_Seen_inAll_41 ?_
        exact ⟨rfl, rfl⟩
      · have hc : j < 2 ^ nt := Nat.lt_of_not_le (fun q => hc (nI_le q (by omega)))
        have q0 := ih (j + 1) (by omega) (by omega)
        rw [show inN fb (2 ^ nt - 1) (j + 1) = if fb j then inN fb (2 ^ nt - 1) j &&& j else inN fb (2 ^ nt - 1) j from rfl] at q0
        have hbj := hb j (by omega)
        rw [decide_eq_true hc, Bool.true_and] at hbj
        refine z_aload_0 d_Seen_inAll_17 ?_
        refine z_getJv d_Seen_inAll_18 f_Seen_28 (by first | assumption | exact zS0_at (by assumption) (by omega) | exact zS0_at rfl (by omega)) (by first | assumption | ((try simp (disch := omega) only [zu_same, zu_ne, zcp_ne, zfl_ne]); first | assumption | rfl)) ?_
        refine z_iload_2 d_Seen_inAll_21 ?_
        refine z_lshr d_Seen_inAll_22 ?_
        refine z_lconst (f := lN 1) d_Seen_inAll_23 rfl ?_
        refine z_land d_Seen_inAll_24 ?_
        refine z_lconst (f := lN 0) d_Seen_inAll_25 rfl ?_
        refine z_lcmp d_Seen_inAll_26 ?_
        refine z_if_eq (tgt := 34) d_Seen_inAll_27 (by decide) (fun hz => ?_) (fun hz => ?_)
        · rw [lg_cmp_eq, l_bit (by omega), hbj] at hz
          rw [hz, if_neg (by decide)] at q0
          first | refine z_iinc_2 d_Seen_inAll_34 rfl (zi_inc _) ?_ | refine z_iinc_2 d_Seen_inAll_34 rfl rfl ?_
          refine z_goto (tgt := 9) d_Seen_inAll_37 (by decide) ?_
          exact q0
        · rw [lg_cmp_eq, l_bit (by omega), hbj] at hz
          rw [if_pos (by cases h : fb j with | true => rfl | false => exact absurd h hz)] at q0
          refine z_iload_1 d_Seen_inAll_30 ?_
          refine z_iload_2 d_Seen_inAll_31 ?_
          refine z_iand d_Seen_inAll_32 ?_
          rw [nx_and]
          first | refine z_istore_1 d_Seen_inAll_33 rfl ?_ | (refine z_forget_0 ?_; refine z_istore_1 d_Seen_inAll_33 rfl ?_)
          first | refine z_iinc_2 d_Seen_inAll_34 rfl (zi_inc _) ?_ | refine z_iinc_2 d_Seen_inAll_34 rfl rfl ?_
          refine z_goto (tgt := 9) d_Seen_inAll_37 (by decide) ?_
          exact q0
  refine z_aload_0 d_Seen_inAll_0 ?_
  refine z_getIv d_Seen_inAll_1 f_Seen_25 (by first | assumption | exact zS0_at (by assumption) (by omega) | exact zS0_at rfl (by omega)) (by first | assumption | ((try simp (disch := omega) only [zu_same, zu_ne, zcp_ne, zfl_ne]); first | assumption | rfl)) ?_
  refine z_iconst (a := nI 1) d_Seen_inAll_4 (by decide) ?_
  first | refine z_isubN d_Seen_inAll_5 (by omega) ?_ | refine z_isub d_Seen_inAll_5 ?_
  first | refine z_istore_1 d_Seen_inAll_6 rfl ?_ | (refine z_forget_0 ?_; refine z_istore_1 d_Seen_inAll_6 rfl ?_)
  refine z_iconst (a := nI 0) d_Seen_inAll_7 (by decide) ?_
  first | refine z_istore_2 d_Seen_inAll_8 rfl ?_ | (refine z_forget_1 ?_; refine z_istore_2 d_Seen_inAll_8 rfl ?_)
  exact loop (2 ^ nt + 1) 0 (by omega) (by omega)
end SH0
