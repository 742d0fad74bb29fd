/-! given: both sides -/
section GN0
variable {G : zG} {I I' I1 I2 I3 : Nat → Nat → Int32} {J J' J2 : Nat → Nat → Int64} {P : Nat → Nat → Option Nat} {S : List (Nat × Nat)} {f d nt np nl nn n fed mk t k p q s al r fr us m i u st : Nat} {a c x : Int32} {w : zW} {kk : Nat → Nat} {tr : Nat → Nat → Bool} {inS : Nat → Bool}
def gC (tr : Nat → Nat → Bool) (inS : Nat → Bool) (nn i u p : Nat) : Bool := tr i p && !u.testBit p && decide (0 < gW tr inS nn (nn - (i + 1)) (u ||| 2 ^ p))
def gNx (tr : Nat → Nat → Bool) (inS : Nat → Bool) (nn np i u : Nat) : Nat := (s_first (gC tr inS nn i u) np 0).toNatClampNeg
def gU (tr : Nat → Nat → Bool) (inS : Nat → Bool) (nn np : Nat) : Nat → Nat
  | 0 => 0
  | i + 1 => if inS i then gU tr inS nn np i ||| 2 ^ gNx tr inS nn np i (gU tr inS nn np i) else gU tr inS nn np i
def gL (tr : Nat → Nat → Bool) (inS : Nat → Bool) (nn np : Nat) : Nat → Int32
  | 0 => -1
  | i + 1 => if inS i then nI (gNx tr inS nn np i (gU tr inS nn np i)) else gL tr inS nn np i
theorem gNx_ok (hn : np ≤ 7) (htr : ∀ t p, p < 7 → tr t p = true → p < np) (hi : i < nn) (hin : inS i = true) (hg : 0 < gW tr inS nn (nn - i) u) : gNx tr inS nn np i u < np ∧ s_first (gC tr inS nn i u) np 0 = nI (gNx tr inS nn np i u) ∧ gC tr inS nn i u (gNx tr inS nn np i u) = true ∧ ∀ p, p < gNx tr inS nn np i u → gC tr inS nn i u p = false := by
  rw [show nn - i = nn - (i + 1) + 1 by omega, gW, show nn - (nn - (i + 1) + 1) = i by omega, if_pos hin] at hg
  obtain ⟨p, p1, p2⟩ := sl_pos.mp hg
  split at p2
  · rename_i hb
    have hb1 := hb
    rw [Bool.and_eq_true] at hb1
    have hp := htr i p p1 hb1.1
    obtain ⟨q, -, q2, q3, q4, q5⟩ := s_first_x (b := gC tr inS nn i u) np 0 p (Nat.zero_le _) (by omega) (by rw [gC, hb, decide_eq_true p2]; rfl)
    have e : gNx tr inS nn np i u = q := by
      unfold gNx
      rw [q5, nI_clamp (by omega)]
    rw [e]
    exact ⟨by omega, q5, q3, fun p hp => q4 p (Nat.zero_le _) hp⟩
  · exact absurd p2 (Nat.lt_irrefl _)
theorem gU_ok (hn : np ≤ 7) (htr : ∀ t p, p < 7 → tr t p = true → p < np) (h0 : 0 < gW tr inS nn nn 0) : ∀ i, i ≤ nn → gU tr inS nn np i < 2 ^ np ∧ 0 < gW tr inS nn (nn - i) (gU tr inS nn np i) := by
  intro i
  induction i with
  | zero => intro _; exact ⟨Nat.pow_pos (by decide), h0⟩
  | succ i ih =>
    intro hi
    obtain ⟨h1, h2⟩ := ih (by omega)
    rw [gU]
    by_cases hin : inS i = true
    · rw [if_pos hin]
      obtain ⟨g1, g2, g3, g4⟩ := gNx_ok hn htr (by omega) hin h2
      rw [gC, Bool.and_eq_true, decide_eq_true_eq] at g3
      exact ⟨Nat.or_lt_two_pow h1 (Nat.pow_lt_pow_right (by decide) g1), g3.2⟩
    · rw [if_neg hin]
      rw [show nn - i = nn - (i + 1) + 1 by omega, gW, show nn - (nn - (i + 1) + 1) = i by omega, if_neg hin] at h2
      exact ⟨h1, h2⟩
def tbT (I : Nat → Nat → Int32) (tr : Nat → Nat → Bool) (a : Int32) (nn np : Nat) : Prop := ∀ t, t ≤ nn → ∀ s, s < 2 ^ np → I (129 + t) s = nI (gW tr (zB a) nn (nn - t) s)
theorem t_Giv_firstServed (Z : clOk f d P S) (N : fenIn I f nt np nl nn) (hi : i < nn) (hk : I (f + 5) i = nI (kk i)) (hu : u < 2 ^ np) (hT : tbT I (gTr (I (f + 2)) kk np) a nn np) : zEi G y_Giv_firstServed prog_5_method_5_code 6 (some .int) 3 [.ref 127, .ref f, .int (nI i), .int (nI u)] (I, J, P, S) (fun r w => r = s_first (gC (gTr (I (f + 2)) kk np) (zB a) nn i u) np 0 ∧ w = (I, J, P, S)) := by
  obtain ⟨⟨c0, c3, c1s⟩, ⟨c5, c2s, ctr⟩, ⟨c6, c11s, c11, c13s⟩, ⟨c7, c15s, c15⟩, ⟨c8, c16s, c16a, c16b, c17s⟩, ⟨c9, c10, cfd, F, Fd⟩, ⟨c11b, Ft⟩, ⟨c12, c69s, cmk⟩, ⟨c14, c121s, c121, c122s⟩, ⟨c15b, c123s, c123, c124s⟩, ⟨c16, c125s, c125, c126s⟩, ⟨c17, c127s, c127, c128s, ctb⟩, ⟨c18, c139s, c139, c140s⟩, ⟨c19, c141s, ⟨c141a, c142s⟩, ⟨c141b, c143s⟩, ⟨c141c, c144s⟩⟩, M⟩ := id Z
  obtain ⟨F0, ⟨F8, F8s⟩, ⟨F9, F9s⟩, ⟨F10, F10s⟩, ⟨F11, F11s⟩, ⟨F12, F12s⟩, ⟨F13, F13s⟩, ⟨F14, F14s⟩, ⟨F15, F15s⟩, ⟨F16, F16s⟩, ⟨F17, F17s⟩, ⟨F18, F18s⟩, ⟨F19, F19s⟩, ⟨Y3, Y3s⟩, ⟨Y4, Y4s⟩, ⟨Y5, Y5s⟩, ⟨Y6, Y6s⟩⟩ := id F
  obtain ⟨⟨n1, n1b⟩, ⟨n2, n2b⟩, ⟨n3, n3b⟩, ⟨n4, n4b⟩, nof, non⟩ := id N
  have h128 : 2 ^ np ≤ 128 := Nat.pow_le_pow_right (n := 2) (by decide) n2b
  have pj1 := (ctb (i + 1) (by omega)).1
  have sj1 := (ctb (i + 1) (by omega)).2
  obtain ⟨C, hC⟩ : ∃ C, C = gC (gTr (I (f + 2)) kk np) (zB a) nn i u := ⟨_, rfl⟩
  rw [← hC]
  have hbit : ∀ j, j < 7 → zB (s_set (fun p => zB (I (f + 2) p) (kk i)) np &&& (nI u ^^^ -1)) j = (gTr (I (f + 2)) kk np i j && !u.testBit j) := fun j hj => by
    rw [zB_and (by omega), zB_not (by omega), zB_nI (by omega)]
    rfl
  refine zEi_of (lv := [some (.ref 127), some (.ref f), some (.int (nI i)), some (.int (nI u)), none, none]) (by decide) rfl (Nat.le_of_ble_eq_true rfl) ?_
  have loop : ∀ m j, np - j < m → j ≤ np → (s_first C (np - j) j = s_first C np 0) → zA G y_Giv_firstServed prog_5_method_5_code 6 (some .int) (zRm 3 0 0) (zM G 0 0 (fun r w' => ∃ x, r = some (.int x) ∧ (fun r w => r = s_first (C) np 0 ∧ w = (I, J, P, S)) x w')) 14 [some (.ref 127), some (.ref f), some (.int (nI i)), some (.int (nI u)), some (.int (s_set (fun p => zB (I (f + 2) p) (kk i)) np &&& (nI u ^^^ -1))), some (.int (nI j))] [] (I, J, P, S) 0 0 := by
    intro m
    induction m with
    | zero => intro j h; omega
    | succ m ih =>
      intro j hm hj hI
      refine z_iload_5 d_Giv_firstServed_14 ?_
      refine z_aload_1 d_Giv_firstServed_16 ?_
      refine z_getIv d_Giv_firstServed_17 f_Giv_30 (by first | assumption | exact zS0_at (by assumption) (by omega) | exact zS0_at rfl (by omega)) (by first | assumption | ((try simp (disch := omega) only [zu_same, zu_ne, zcp_ne, zfl_ne]); first | assumption | rfl)) ?_
      refine z_icmp_ge (tgt := 60) d_Giv_firstServed_20 (by decide) (fun hb => ?_) (fun hb => ?_)
      · have hb := (nI_leI (by omega) (by omega)).mp hb
        obtain rfl : j = np := by omega
        rw [Nat.sub_self, s_first] at hI
        refine z_iconst (a := -1) d_Giv_firstServed_60 (by decide) ?_
        refine z_reti d_Giv_firstServed_61 ?_
        exact ⟨hI, rfl⟩
      · have hb : j < np := Nat.lt_of_not_le (fun q => hb (nI_le q (by omega)))
        rw [show np - j = (np - (j + 1)) + 1 by omega, s_first] at hI
        have eC : C j = (gTr (I (f + 2)) kk np i j && !u.testBit j && decide (0 < gW (gTr (I (f + 2)) kk np) (zB a) nn (nn - (i + 1)) (u ||| 2 ^ j))) := by rw [hC]; rfl
        have no : C j = false → zA G y_Giv_firstServed prog_5_method_5_code 6 (some .int) (zRm 3 0 0) (zM G 0 0 (fun r w' => ∃ x, r = some (.int x) ∧ (fun r w => r = s_first (C) np 0 ∧ w = (I, J, P, S)) x w')) 54 [some (.ref 127), some (.ref f), some (.int (nI i)), some (.int (nI u)), some (.int (s_set (fun p => zB (I (f + 2) p) (kk i)) np &&& (nI u ^^^ -1))), some (.int (nI j))] [] (I, J, P, S) 0 0 := by
          intro h
          rw [h, if_neg (by decide)] at hI
          first | refine z_iinc_5 d_Giv_firstServed_54 rfl (zi_inc _) ?_ | refine z_iinc_5 d_Giv_firstServed_54 rfl rfl ?_
          refine z_goto (tgt := 14) d_Giv_firstServed_57 (by decide) ?_
          exact ih (j + 1) (by omega) (by omega) hI
        refine z_iload_4 d_Giv_firstServed_23 ?_
        refine z_iload_5 d_Giv_firstServed_25 ?_
        refine z_ishr d_Giv_firstServed_27 ?_
        refine z_iconst (a := nI 1) d_Giv_firstServed_28 (by decide) ?_
        refine z_iand d_Giv_firstServed_29 ?_
        refine z_if_eq (tgt := 54) d_Giv_firstServed_30 (by decide) (fun hz => ?_) (fun hz => ?_)
        · refine no ?_
          rw [eC, ← hbit j (by omega), Bool.eq_false_iff.mpr (zbit_n.mp hz)]
          rfl
        · have hz : zB (s_set (fun p => zB (I (f + 2) p) (kk i)) np &&& (nI u ^^^ -1)) j = true := zbit_p.mp hz
          have hor : u ||| 2 ^ j < 2 ^ np := Nat.or_lt_two_pow hu (Nat.pow_lt_pow_right (by decide) hb)
          have hv := hT (i + 1) (by omega) (u ||| 2 ^ j) hor
          have hlt := gW_lt (tr := gTr (I (f + 2)) kk np) (inS := zB a) (nn := nn) (s := u ||| 2 ^ j) (show nn - (i + 1) ≤ 9 by omega)
          rw [← hbit j (by omega), hz, Bool.true_and] at eC
          refine z_aload_0 d_Giv_firstServed_33 ?_
          refine z_getR d_Giv_firstServed_34 f_Giv_13 (by first | assumption | exact zS0_at (by assumption) (by omega) | exact zS0_at rfl (by omega)) (by first | assumption | exact zS0_at (by assumption) (by omega) | exact zS0_at rfl (by omega)) ?_
          refine z_iload_2 d_Giv_firstServed_37 ?_
          refine z_iconst (a := nI 1) d_Giv_firstServed_38 (by decide) ?_
          first | refine z_iaddN d_Giv_firstServed_39 ?_ | refine z_iadd d_Giv_firstServed_39 ?_
          first | refine z_ald4N d_Giv_firstServed_40 (by first | assumption | exact zS0_at (by assumption) (by omega) | exact zS0_at rfl (by omega)) (by omega) (by first | decide | omega) (by first | assumption | exact zS0_at (by assumption) (by omega) | exact zS0_at rfl (by omega)) ?_ | refine z_ald5N d_Giv_firstServed_40 (by first | assumption | exact zS0_at (by assumption) (by omega) | exact zS0_at rfl (by omega)) (by omega) (by first | decide | omega) (by first | assumption | exact zS0_at (by assumption) (by omega) | exact zS0_at rfl (by omega)) ?_ | refine z_ald6N d_Giv_firstServed_40 (by first | assumption | exact zS0_at (by assumption) (by omega) | exact zS0_at rfl (by omega)) (by omega) (by first | decide | omega) (by first | assumption | exact zS0_at (by assumption) (by omega) | exact zS0_at rfl (by omega)) ?_
          refine z_iload_3 d_Giv_firstServed_41 ?_
          refine z_iconst (a := nI 1) d_Giv_firstServed_42 (by decide) ?_
          refine z_iload_5 d_Giv_firstServed_43 ?_
          refine z_ishl d_Giv_firstServed_45 ?_
          refine z_ior d_Giv_firstServed_46 ?_
          rw [or_lt7' (by omega) (by omega)]
          first | refine z_ialdNv d_Giv_firstServed_47 (by first | assumption | exact zS0_at (by assumption) (by omega) | exact zS0_at rfl (by omega)) (by omega) (by first | decide | omega) (by first | assumption | ((try simp (disch := omega) only [zu_same, zu_ne, zcp_ne, zfl_ne]); first | assumption | rfl)) ?_ | refine z_iald d_Giv_firstServed_47 (by first | assumption | exact zS0_at (by assumption) (by omega) | exact zS0_at rfl (by omega)) (by first | assumption | exact zS0_at (by assumption) (by omega) | exact zS0_at rfl (by omega)) ?_
          refine z_if_le (tgt := 54) d_Giv_firstServed_48 (by decide) (fun hc => ?_) (fun hc => ?_)
          · refine no ?_
            rw [← nI_0] at hc
            have hc := (nI_leI (by omega) (by omega)).mp hc
            rw [eC, decide_eq_false (by omega)]
          · have hc : 0 < gW (gTr (I (f + 2)) kk np) (zB a) nn (nn - (i + 1)) (u ||| 2 ^ j) := by
              rcases Nat.eq_zero_or_pos (gW (gTr (I (f + 2)) kk np) (zB a) nn (nn - (i + 1)) (u ||| 2 ^ j)) with h | h
              · rw [h] at hc; exact absurd (by decide) hc
              · exact h
            rw [eC, decide_eq_true hc, if_pos rfl] at hI
            refine z_iload_5 d_Giv_firstServed_51 ?_
            refine z_reti d_Giv_firstServed_53 ?_
            exact ⟨hI, rfl⟩
  refine z_aload_1 d_Giv_firstServed_0 ?_
  refine z_iload_2 d_Giv_firstServed_1 ?_
  refine z_Vi1 d_Giv_firstServed_2 k_Giv_24 (by first | assumption | exact zS0_at (by assumption) (by omega) | exact zS0_at rfl (by omega)) (t_Fen_believersIn (k := kk i) F N hi hk) ⟨Nat.le_of_ble_eq_true rfl, Nat.le_of_ble_eq_true rfl, Nat.le_of_ble_eq_true rfl, Nat.le_of_ble_eq_true rfl⟩ (Nat.le_of_ble_eq_true rfl) ?_
  intro r w hq
  obtain ⟨rfl, rfl⟩ := hq
  refine z_iload_3 d_Giv_firstServed_5 ?_
  refine z_iconst (a := -1) d_Giv_firstServed_6 (by decide) ?_
  refine z_ixor d_Giv_firstServed_7 ?_
  refine z_iand d_Giv_firstServed_8 ?_
  first | refine z_istore_4 d_Giv_firstServed_9 rfl ?_ | (refine z_forget_3 ?_; refine z_istore_4 d_Giv_firstServed_9 rfl ?_)
  refine z_iconst (a := nI 0) d_Giv_firstServed_11 (by decide) ?_
  first | refine z_istore_5 d_Giv_firstServed_12 rfl ?_ | (refine z_forget_4 ?_; refine z_istore_5 d_Giv_firstServed_12 rfl ?_)
  exact loop (np + 1) 0 (by omega) (by omega) rfl
theorem t_Giv_firstGiving0 (Z : clOk f d P S) (N : fenIn I f nt np nl nn) (hK : ∀ t, t < nn → I (f + 5) t = nI (kk t)) (h0 : gW (gTr (I (f + 2)) kk np) (zB a) nn nn 0 = 0) : zEi G y_Giv_firstGiving prog_5_method_4_code 7 (some .int) 4 [.ref 127, .ref f, .int a, .int c] (I, J, P, S) (fun r w => r = -1 ∧ ∃ I', w = (I', J, P, S) ∧ tbF I I') := by
  obtain ⟨⟨c0, c3, c1s⟩, ⟨c5, c2s, ctr⟩, ⟨c6, c11s, c11, c13s⟩, ⟨c7, c15s, c15⟩, ⟨c8, c16s, c16a, c16b, c17s⟩, ⟨c9, c10, cfd, F, Fd⟩, ⟨c11b, Ft⟩, ⟨c12, c69s, cmk⟩, ⟨c14, c121s, c121, c122s⟩, ⟨c15b, c123s, c123, c124s⟩, ⟨c16, c125s, c125, c126s⟩, ⟨c17, c127s, c127, c128s, ctb⟩, ⟨c18, c139s, c139, c140s⟩, ⟨c19, c141s, ⟨c141a, c142s⟩, ⟨c141b, c143s⟩, ⟨c141c, c144s⟩⟩, M⟩ := id Z
  have p0 := (ctb 0 (by omega)).1
  have s0 := (ctb 0 (by omega)).2
  refine zEi_of (lv := [some (.ref 127), some (.ref f), some (.int a), some (.int c), none, none, none]) (by decide) rfl (Nat.le_of_ble_eq_true rfl) ?_
  refine z_aload_0 d_Giv_firstGiving_0 ?_
  refine z_aload_1 d_Giv_firstGiving_1 ?_
  refine z_iload_2 d_Giv_firstGiving_2 ?_
  refine z_iconst (a := nI 1) d_Giv_firstGiving_3 (by decide) ?_
  refine z_Vv3 d_Giv_firstGiving_4 k_Giv_16 (by first | assumption | exact zS0_at (by assumption) (by omega) | exact zS0_at rfl (by omega)) (t_Giv_fill Z N hK (Or.inl rfl)) ⟨Nat.le_of_ble_eq_true rfl, Nat.le_of_ble_eq_true rfl, Nat.le_of_ble_eq_true rfl, Nat.le_of_ble_eq_true rfl⟩ (Nat.le_of_ble_eq_true rfl) ?_
  rintro w ⟨I2, rfl, g1, g2⟩
  have hv : I2 129 0 = nI 0 := (g2 0 (Nat.zero_le _) 0 np_0).trans (by show nI (gW (gTr (I (f + 2)) kk np) (zB a) nn nn 0) = _; rw [h0])
  refine z_aload_0 d_Giv_firstGiving_7 ?_
  refine z_getR d_Giv_firstGiving_8 f_Giv_13 (by first | assumption | exact zS0_at (by assumption) (by omega) | exact zS0_at rfl (by omega)) (by first | assumption | exact zS0_at (by assumption) (by omega) | exact zS0_at rfl (by omega)) ?_
  refine z_iconst (a := nI 0) d_Giv_firstGiving_11 (by decide) ?_
  first | refine z_ald4N d_Giv_firstGiving_12 (by first | assumption | exact zS0_at (by assumption) (by omega) | exact zS0_at rfl (by omega)) (by omega) (by first | decide | omega) (by first | assumption | exact zS0_at (by assumption) (by omega) | exact zS0_at rfl (by omega)) ?_ | refine z_ald5N d_Giv_firstGiving_12 (by first | assumption | exact zS0_at (by assumption) (by omega) | exact zS0_at rfl (by omega)) (by omega) (by first | decide | omega) (by first | assumption | exact zS0_at (by assumption) (by omega) | exact zS0_at rfl (by omega)) ?_ | refine z_ald6N d_Giv_firstGiving_12 (by first | assumption | exact zS0_at (by assumption) (by omega) | exact zS0_at rfl (by omega)) (by omega) (by first | decide | omega) (by first | assumption | exact zS0_at (by assumption) (by omega) | exact zS0_at rfl (by omega)) ?_
  refine z_iconst (a := nI 0) d_Giv_firstGiving_13 (by decide) ?_
  first | refine z_ialdNv d_Giv_firstGiving_14 (by first | assumption | exact zS0_at (by assumption) (by omega) | exact zS0_at rfl (by omega)) (by omega) (by first | decide | omega) (by first | assumption | ((try simp (disch := omega) only [zu_same, zu_ne, zcp_ne, zfl_ne]); first | assumption | rfl)) ?_ | refine z_iald d_Giv_firstGiving_14 (by first | assumption | exact zS0_at (by assumption) (by omega) | exact zS0_at rfl (by omega)) (by first | assumption | exact zS0_at (by assumption) (by omega) | exact zS0_at rfl (by omega)) ?_
  refine z_if_ne (tgt := 20) d_Giv_firstGiving_15 (by decide) (fun h => absurd (by decide) h) (fun _ => ?_)
  refine z_iconst (a := -1) d_Giv_firstGiving_18 (by decide) ?_
  refine z_reti d_Giv_firstGiving_19 ?_
  exact ⟨rfl, I2, rfl, g1⟩
theorem t_Giv_firstGiving (Z : clOk f d P S) (N : fenIn I f nt np nl nn) (hK : ∀ t, t < nn → I (f + 5) t = nI (kk t)) (h0 : 0 < gW (gTr (I (f + 2)) kk np) (zB a) nn nn 0) (ht : t < nn) : zEi G y_Giv_firstGiving prog_5_method_4_code 7 (some .int) 4 [.ref 127, .ref f, .int a, .int (nI t)] (I, J, P, S) (fun r w => r = gL (gTr (I (f + 2)) kk np) (zB a) nn np (t + 1) ∧ ∃ I', w = (I', J, P, S) ∧ tbF I I') := by
  have hf := clOk_f Z
  obtain ⟨⟨c0, c3, c1s⟩, ⟨c5, c2s, ctr⟩, ⟨c6, c11s, c11, c13s⟩, ⟨c7, c15s, c15⟩, ⟨c8, c16s, c16a, c16b, c17s⟩, ⟨c9, c10, cfd, F, Fd⟩, ⟨c11b, Ft⟩, ⟨c12, c69s, cmk⟩, ⟨c14, c121s, c121, c122s⟩, ⟨c15b, c123s, c123, c124s⟩, ⟨c16, c125s, c125, c126s⟩, ⟨c17, c127s, c127, c128s, ctb⟩, ⟨c18, c139s, c139, c140s⟩, ⟨c19, c141s, ⟨c141a, c142s⟩, ⟨c141b, c143s⟩, ⟨c141c, c144s⟩⟩, M⟩ := id Z
  obtain ⟨⟨n1, n1b⟩, ⟨n2, n2b⟩, ⟨n3, n3b⟩, ⟨n4, n4b⟩, nof, non⟩ := id N
  have p0 := (ctb 0 (by omega)).1
  have s0 := (ctb 0 (by omega)).2
  have hlt := gW_lt (tr := gTr (I (f + 2)) kk np) (inS := zB a) (nn := nn) (s := 0) (show nn ≤ 9 by omega)
  have htr : ∀ t p, p < 7 → gTr (I (f + 2)) kk np t p = true → p < np := fun t p hp h => gTr_lt n2b (by omega) h
  have hU := gU_ok n2b htr h0
  refine zEi_of (lv := [some (.ref 127), some (.ref f), some (.int a), some (.int (nI t)), none, none, none]) (by decide) rfl (Nat.le_of_ble_eq_true rfl) ?_
  refine z_aload_0 d_Giv_firstGiving_0 ?_
  refine z_aload_1 d_Giv_firstGiving_1 ?_
  refine z_iload_2 d_Giv_firstGiving_2 ?_
  refine z_iconst (a := nI 1) d_Giv_firstGiving_3 (by decide) ?_
  refine z_Vv3 d_Giv_firstGiving_4 k_Giv_16 (by first | assumption | exact zS0_at (by assumption) (by omega) | exact zS0_at rfl (by omega)) (t_Giv_fill Z N hK (Or.inl rfl)) ⟨Nat.le_of_ble_eq_true rfl, Nat.le_of_ble_eq_true rfl, Nat.le_of_ble_eq_true rfl, Nat.le_of_ble_eq_true rfl⟩ (Nat.le_of_ble_eq_true rfl) ?_
  rintro w ⟨I2, rfl, g1, g2⟩
  have hT : tbT I2 (gTr (I (f + 2)) kk np) a nn np := g2
  have hv : I2 129 0 = nI (gW (gTr (I (f + 2)) kk np) (zB a) nn nn 0) := g2 0 (Nat.zero_le _) 0 np_0
  have N2 : fenIn I2 f nt np nl nn := by
    unfold fenIn
    rw [g1 f (by omega), g1 (f + 5) (by omega), g1 (f + 6) (by omega)]
    exact N
  obtain ⟨T, hTr⟩ : ∃ T, T = gTr (I (f + 2)) kk np := ⟨_, rfl⟩
  rw [← hTr] at hT hv htr hU h0 hlt ⊢
  have loop : ∀ m j, (t+1) - j < m → j ≤ (t+1) → zA G y_Giv_firstGiving prog_5_method_4_code 7 (some .int) (zRm 4 0 0) (zM G 0 0 (fun r w' => ∃ x, r = some (.int x) ∧ (fun r w => r = gL (T) (zB a) nn np (t + 1) ∧ ∃ I', w = (I', J, P, S) ∧ tbF I I') x w')) 29 [some (.ref 127), some (.ref f), some (.int a), some (.int (nI t)), some (.int (nI (gU T (zB a) nn np j))), some (.int (gL T (zB a) nn np j)), some (.int (nI j))] [] (I2, J, P, S) 0 0 := by
    intro m
    induction m with
    | zero => intro j h; omega
    | succ m ih =>
      intro j hm hj
      refine z_iload_6 d_Giv_firstGiving_29 ?_
      refine z_iload_3 d_Giv_firstGiving_31 ?_
      refine z_icmp_gt (tgt := 79) d_Giv_firstGiving_32 (by decide) (fun hb => ?_) (fun hb => ?_)
      · have hb := (nI_ltI (by omega) (by omega)).mp hb
        obtain rfl : j = t + 1 := by omega
        refine z_iload_5 d_Giv_firstGiving_79 ?_
        refine z_reti d_Giv_firstGiving_81 ?_
        exact ⟨rfl, I2, rfl, g1⟩
      · have hb : j ≤ t := Nat.le_of_not_lt (fun q => hb (nI_lt q (by omega)))
        have q0 := ih (j + 1) (by omega) (by omega)
        rw [show gU T (zB a) nn np (j + 1) = if zB a j then gU T (zB a) nn np j ||| 2 ^ gNx T (zB a) nn np j (gU T (zB a) nn np j) else gU T (zB a) nn np j from rfl, show gL T (zB a) nn np (j + 1) = if zB a j then nI (gNx T (zB a) nn np j (gU T (zB a) nn np j)) else gL T (zB a) nn np j from rfl] at q0
        obtain ⟨u1, u2⟩ := hU j (by omega)
        refine z_iload_2 d_Giv_firstGiving_35 ?_
        refine z_iload_6 d_Giv_firstGiving_36 ?_
        refine z_ishr d_Giv_firstGiving_38 ?_
        refine z_iconst (a := nI 1) d_Giv_firstGiving_39 (by decide) ?_
        refine z_iand d_Giv_firstGiving_40 ?_
        refine z_if_eq (tgt := 73) d_Giv_firstGiving_41 (by decide) (fun hz => ?_) (fun hz => ?_)
        · have hz := zbit_n.mp hz
          rw [if_neg hz, if_neg hz] at q0
          first | refine z_iinc_6 d_Giv_firstGiving_73 rfl (zi_inc _) ?_ | refine z_iinc_6 d_Giv_firstGiving_73 rfl rfl ?_
          refine z_goto (tgt := 29) d_Giv_firstGiving_76 (by decide) ?_
          exact q0
        · have hz : zB a j = true := zbit_p.mp hz
          rw [if_pos hz, if_pos hz] at q0
          obtain ⟨x1, x2, -, -⟩ := gNx_ok n2b htr (by omega) hz u2
          refine z_aload_0 d_Giv_firstGiving_44 ?_
          refine z_aload_1 d_Giv_firstGiving_45 ?_
          refine z_iload_6 d_Giv_firstGiving_46 ?_
          refine z_iload_4 d_Giv_firstGiving_48 ?_
          refine z_Vi3 d_Giv_firstGiving_50 k_Giv_20 (by first | assumption | exact zS0_at (by assumption) (by omega) | exact zS0_at rfl (by omega)) (t_Giv_firstServed (kk := kk) (a := a) Z N2 (by omega) (by rw [g1 (f + 5) (by omega)]; exact hK j (by omega)) u1 (by rw [g1 (f + 2) (by omega), ← hTr]; exact hT)) ⟨Nat.le_of_ble_eq_true rfl, Nat.le_of_ble_eq_true rfl, Nat.le_of_ble_eq_true rfl, Nat.le_of_ble_eq_true rfl⟩ (Nat.le_of_ble_eq_true rfl) ?_
          intro r w hq
          obtain ⟨rfl, rfl⟩ := hq
          rw [g1 (f + 2) (by omega), ← hTr, x2]
          generalize gNx T (zB a) nn np j (gU T (zB a) nn np j) = z at x1 q0 ⊢
          first | refine z_istore_5 d_Giv_firstGiving_53 rfl ?_ | (refine z_forget_4 ?_; refine z_istore_5 d_Giv_firstGiving_53 rfl ?_)
          refine z_iload_4 d_Giv_firstGiving_55 ?_
          refine z_iload_5 d_Giv_firstGiving_57 ?_
          refine z_if_ge (tgt := 66) d_Giv_firstGiving_59 (by decide) (fun _ => ?_) (fun h => absurd (nI_pos' (by omega)) h)
          refine z_iconst (a := nI 1) d_Giv_firstGiving_66 (by decide) ?_
          refine z_iload_5 d_Giv_firstGiving_67 ?_
          refine z_ishl d_Giv_firstGiving_69 ?_
          refine z_ior d_Giv_firstGiving_70 ?_
          rw [nx_sh z (by omega), nx_or]
          first | refine z_istore_4 d_Giv_firstGiving_71 rfl ?_ | (refine z_forget_3 ?_; refine z_istore_4 d_Giv_firstGiving_71 rfl ?_)
          first | refine z_iinc_6 d_Giv_firstGiving_73 rfl (zi_inc _) ?_ | refine z_iinc_6 d_Giv_firstGiving_73 rfl rfl ?_
          refine z_goto (tgt := 29) d_Giv_firstGiving_76 (by decide) ?_
          exact q0
  refine z_aload_0 d_Giv_firstGiving_7 ?_
  refine z_getR d_Giv_firstGiving_8 f_Giv_13 (by first | assumption | exact zS0_at (by assumption) (by omega) | exact zS0_at rfl (by omega)) (by first | assumption | exact zS0_at (by assumption) (by omega) | exact zS0_at rfl (by omega)) ?_
  refine z_iconst (a := nI 0) d_Giv_firstGiving_11 (by decide) ?_
  first | refine z_ald4N d_Giv_firstGiving_12 (by first | assumption | exact zS0_at (by assumption) (by omega) | exact zS0_at rfl (by omega)) (by omega) (by first | decide | omega) (by first | assumption | exact zS0_at (by assumption) (by omega) | exact zS0_at rfl (by omega)) ?_ | refine z_ald5N d_Giv_firstGiving_12 (by first | assumption | exact zS0_at (by assumption) (by omega) | exact zS0_at rfl (by omega)) (by omega) (by first | decide | omega) (by first | assumption | exact zS0_at (by assumption) (by omega) | exact zS0_at rfl (by omega)) ?_ | refine z_ald6N d_Giv_firstGiving_12 (by first | assumption | exact zS0_at (by assumption) (by omega) | exact zS0_at rfl (by omega)) (by omega) (by first | decide | omega) (by first | assumption | exact zS0_at (by assumption) (by omega) | exact zS0_at rfl (by omega)) ?_
  refine z_iconst (a := nI 0) d_Giv_firstGiving_13 (by decide) ?_
  first | refine z_ialdNv d_Giv_firstGiving_14 (by first | assumption | exact zS0_at (by assumption) (by omega) | exact zS0_at rfl (by omega)) (by omega) (by first | decide | omega) (by first | assumption | ((try simp (disch := omega) only [zu_same, zu_ne, zcp_ne, zfl_ne]); first | assumption | rfl)) ?_ | refine z_iald d_Giv_firstGiving_14 (by first | assumption | exact zS0_at (by assumption) (by omega) | exact zS0_at rfl (by omega)) (by first | assumption | exact zS0_at (by assumption) (by omega) | exact zS0_at rfl (by omega)) ?_
  refine z_if_ne (tgt := 20) d_Giv_firstGiving_15 (by decide) (fun _ => ?_) (fun h => absurd h (fun q => by rw [← nI_0] at q; have := (nI_eq (by omega) (by omega)).mp q; omega))
  refine z_iconst (a := nI 0) d_Giv_firstGiving_20 (by decide) ?_
  first | refine z_istore_4 d_Giv_firstGiving_21 rfl ?_ | (refine z_forget_3 ?_; refine z_istore_4 d_Giv_firstGiving_21 rfl ?_)
  refine z_iconst (a := -1) d_Giv_firstGiving_23 (by decide) ?_
  first | refine z_istore_5 d_Giv_firstGiving_24 rfl ?_ | (refine z_forget_4 ?_; refine z_istore_5 d_Giv_firstGiving_24 rfl ?_)
  refine z_iconst (a := nI 0) d_Giv_firstGiving_26 (by decide) ?_
  first | refine z_istore_6 d_Giv_firstGiving_27 rfl ?_ | (refine z_forget_5 ?_; refine z_istore_6 d_Giv_firstGiving_27 rfl ?_)
  exact loop (t + 2) 0 (by omega) (by omega)
end GN0
