/-! the class's reader of a FEN's text: people, lanes, tins, all -/
section PF2
variable {G : zG} {I I1 I2 : Nat → Nat → Int32} {J J1 J2 : Nat → Nat → Int64} {P : Nat → Nat → Option Nat} {S : List (Nat × Nat)} {L f : Nat} {T : Nat → Int32} {K : Nat → Int64} {t t' : tk} {s : pS} {e : Nat × Nat} {w : zW} {nt np nl nn od : Nat} {A : Nat → Nat → Int32} {B : Nat → Nat → Int64}
theorem frN_c {nl' : Nat} {x : tk} (C : frC T K L f I J P S s x) : frN T K L f I J P S (s, x) (I, J, P, S) := ⟨I, J, rfl, frF_r, frF_r, C⟩
theorem p_truths_c {a : tk → tk} {N : Nat → Int64} (hn : nt ≤ 6) : ∀ n (z : Nat) (t : tk) (v : Int32 × tk), z < 64 → p_truths a N nt n (nI z) t = .inr v → ∃ k, k < 64 ∧ v.1 = nI k := by
  intro n
  induction n with
  | zero =>
    intro z t v hz h
    cases h
    exact ⟨z, hz, rfl⟩
  | succ n ih =>
    intro z t v hz h
    rw [p_truths] at h
    split at h
    · rcases hx : p_known N nt t with e | k <;> rw [hx] at h <;> dsimp only [pb] at h
      · cases h
      · obtain ⟨k, hk, rfl, -⟩ := p_known_c hx
        split at h
        · cases h
        · rw [nx_sh k (by omega), nx_or] at h
          refine ih (z ||| 2 ^ k) (a t) v ?_ h
          exact Nat.or_lt_two_pow (n := 6) hz (Nat.pow_lt_pow_right (by decide) (by omega))
    · cases h
      exact ⟨z, hz, rfl⟩
theorem t_FenR_takeTruths (C : frC T K L f I J P S ((nt, np, nl, nn, od), A, B) t) : zEi G y_FenR_takeTruths prog_3_method_7_code 5 (some .int) 4 [.ref 15, .ref f] (I, J, P, S) (fun r w => pQ (p_truths (tA T L K) (B 9) nt 7 (nI 0) t) (fun e => r = -1 ∧ frE f I J P S e w) (fun v => r = v.1 ∧ frN T K L f I J P S (((nt, np, nl, nn, od), A, B), v.2) w)) := by
  have F := C.2.1
  obtain ⟨R0, R1, hf⟩ := C.2.2.1
  have X0 := C.1.1.1
  obtain ⟨F0, ⟨F8, F8s⟩, ⟨F9, F9s⟩, ⟨F10, F10s⟩, ⟨F11, F11s⟩, ⟨F12, F12s⟩, ⟨F13, F13s⟩, ⟨F14, F14s⟩, ⟨F15, F15s⟩, ⟨F16, F16s⟩, ⟨F17, F17s⟩, ⟨F18, F18s⟩, ⟨F19, F19s⟩, ⟨Y3, Y3s⟩, ⟨Y4, Y4s⟩, ⟨Y5, Y5s⟩, ⟨Y6, Y6s⟩⟩ := id F
  refine zEi_of (lv := [some (.ref 15), some (.ref f), none, none, none]) (by decide) rfl (Nat.le_of_ble_eq_true rfl) ?_
  have loop : ∀ m j, 7 - j < m → j ≤ 7 → ∀ z : Nat, ∀ t1 : tk, ∀ I1 : Nat → Nat → Int32, ∀ J1 : Nat → Nat → Int64, (z < 64) → (frF f I I1) → (frF f J J1) → (frC T K L f I1 J1 P S ((nt, np, nl, nn, od), A, B) t1) → (p_truths (tA T L K) (B 9) nt (7 - j) (nI z) t1 = p_truths (tA T L K) (B 9) nt 7 (nI 0) t) → zA G y_FenR_takeTruths prog_3_method_7_code 5 (some .int) (zRm 4 0 0) (zM G 0 0 (fun r w' => ∃ x, r = some (.int x) ∧ (fun r w => pQ (p_truths (tA T L K) (B 9) nt 7 (nI 0) t) (fun e => r = -1 ∧ frE f I J P S e w) (fun v => r = v.1 ∧ frN T K L f I J P S (((nt, np, nl, nn, od), A, B), v.2) w)) x w')) 4 [some (.ref 15), some (.ref f), some (.int (nI z)), some (.int (nI j)), none] [] (I1, J1, P, S) 0 0 := by
    intro m
    induction m with
    | zero => intro j h; omega
    | succ m ih =>
      intro j hm hj z t1 I1 J1 hz fr1 gr1 C1 hI
      obtain ⟨⟨d1, d1b⟩, -, -, -, -, -, -, -, -, dA, dB⟩ := frC_n C1
      have hB9 : B 9 = J1 (f + 9) := by rw [← dB]; rfl
      refine z_iload_3 d_FenR_takeTruths_4 ?_
      refine z_bipush (a := nI 6) d_FenR_takeTruths_5 (by decide) ?_
      refine z_icmp_gt (tgt := 84) d_FenR_takeTruths_7 (by decide) (fun hb => ?_) (fun hb => ?_)
      · have hb : 6 < j := (nI_ltI (by omega) (by omega)).mp hb
        obtain rfl : j = 7 := by omega
        rw [← hI]
        refine z_iload_2 d_FenR_takeTruths_84 ?_
        refine z_reti d_FenR_takeTruths_85 ?_
        exact ⟨rfl, I1, J1, rfl, fr1, gr1, C1⟩
      · have hb : ¬ 6 < j := fun h => hb (nI_lt h (by omega))
        rw [← hI, show 7 - j = (7 - (j + 1)) + 1 by omega, p_truths]
        refine z_aload_0 d_FenR_takeTruths_10 ?_
        refine z_getR d_FenR_takeTruths_11 f_FenR_9 (by first | assumption | exact zS0_at (by assumption) (by omega) | exact zS0_at rfl (by omega)) (by first | assumption | exact zS0_at (by assumption) (by omega) | exact zS0_at rfl (by omega)) ?_
        refine z_Vi0 d_FenR_takeTruths_14 k_FenR_101 (by first | assumption | exact zS0_at (by assumption) (by omega) | exact zS0_at rfl (by omega)) (t_Tok_isName C1.1) ⟨Nat.le_of_ble_eq_true rfl, Nat.le_of_ble_eq_true rfl, Nat.le_of_ble_eq_true rfl, Nat.le_of_ble_eq_true rfl⟩ (Nat.le_of_ble_eq_true rfl) ?_
        intro r w hq
        rcases hq with ⟨⟨hN, rfl⟩ | ⟨hN, rfl⟩, rfl⟩
        · rw [if_pos hN]
          refine z_if_eq (tgt := 84) d_FenR_takeTruths_17 (by decide) (fun h => absurd h (by decide)) (fun _ => ?_)
          refine z_aload_0 d_FenR_takeTruths_20 ?_
          refine z_getR d_FenR_takeTruths_21 f_FenR_9 (by first | assumption | exact zS0_at (by assumption) (by omega) | exact zS0_at rfl (by omega)) (by first | assumption | exact zS0_at (by assumption) (by omega) | exact zS0_at rfl (by omega)) ?_
          refine z_aload_1 d_FenR_takeTruths_24 ?_
          refine z_getR d_FenR_takeTruths_25 f_FenR_104 (by first | assumption | exact zS0_at (by assumption) (by omega) | exact zS0_at rfl (by omega)) (by first | assumption | exact zS0_at (by assumption) (by omega) | exact zS0_at rfl (by omega)) ?_
          refine z_aload_1 d_FenR_takeTruths_28 ?_
          refine z_getIv d_FenR_takeTruths_29 f_FenR_77 (by first | assumption | exact zS0_at (by assumption) (by omega) | exact zS0_at rfl (by omega)) (by first | assumption | ((try simp (disch := omega) only [zu_same, zu_ne, zcp_ne, zfl_ne]); first | assumption | rfl)) ?_
          refine z_Vi2 d_FenR_takeTruths_32 k_FenR_108 (by first | assumption | exact zS0_at (by assumption) (by omega) | exact zS0_at rfl (by omega)) (t_Tok_known C1.1 F16s (by omega) (by decide)) ⟨Nat.le_of_ble_eq_true rfl, Nat.le_of_ble_eq_true rfl, Nat.le_of_ble_eq_true rfl, Nat.le_of_ble_eq_true rfl⟩ (Nat.le_of_ble_eq_true rfl) ?_
          rw [← hB9]
          intro r w hq
          rcases hx : p_known (B 9) nt t1 with e | k <;> rw [hx] at hq <;> dsimp only [pb]
          · obtain ⟨rfl, hq⟩ := hq
            obtain ⟨I9, J9, rfl, hq2⟩ := frE_t fr1 gr1 (frE_tk hq)
            first | refine z_istore_4 d_FenR_takeTruths_35 rfl ?_ | (refine z_forget_3 ?_; refine z_istore_4 d_FenR_takeTruths_35 rfl ?_)
            refine z_iload_4 d_FenR_takeTruths_37 ?_
            refine z_if_ge (tgt := 44) d_FenR_takeTruths_39 (by decide) (fun h => absurd h (by decide)) (fun _ => ?_)
            refine z_iconst (a := -1) d_FenR_takeTruths_42 (by decide) ?_
            refine z_reti d_FenR_takeTruths_43 ?_
            exact ⟨rfl, I9, J9, rfl, hq2⟩
          obtain ⟨rfl, rfl⟩ := hq
          obtain ⟨k, hk, rfl, -⟩ := p_known_c hx
          rw [nI_clamp (by omega)]
          first | refine z_istore_4 d_FenR_takeTruths_35 rfl ?_ | (refine z_forget_3 ?_; refine z_istore_4 d_FenR_takeTruths_35 rfl ?_)
          refine z_iload_4 d_FenR_takeTruths_37 ?_
          refine z_if_ge (tgt := 44) d_FenR_takeTruths_39 (by decide) (fun _ => ?_) (fun h => absurd (Int32.not_lt.mp (nI_pos (by omega))) h)
          refine z_iload_2 d_FenR_takeTruths_44 ?_
          refine z_iload_4 d_FenR_takeTruths_45 ?_
          refine z_ishr d_FenR_takeTruths_47 ?_
          refine z_iconst (a := nI 1) d_FenR_takeTruths_48 (by decide) ?_
          refine z_iand d_FenR_takeTruths_49 ?_
          refine z_if_eq (tgt := 64) d_FenR_takeTruths_50 (by decide) (fun hc => ?_) (fun hc => ?_)
          · have hc := zbit_n.mp hc
            rw [if_neg hc, nx_sh k (by omega), nx_or]
            refine z_iload_2 d_FenR_takeTruths_64 ?_
            refine z_iconst (a := nI 1) d_FenR_takeTruths_65 (by decide) ?_
            refine z_iload_4 d_FenR_takeTruths_66 ?_
            refine z_ishl d_FenR_takeTruths_68 ?_
            refine z_ior d_FenR_takeTruths_69 ?_
            rw [nx_sh k (by omega), nx_or]
            first | refine z_istore_2 d_FenR_takeTruths_70 rfl ?_ | (refine z_forget_1 ?_; refine z_istore_2 d_FenR_takeTruths_70 rfl ?_)
            refine z_aload_0 d_FenR_takeTruths_71 ?_
            refine z_getR d_FenR_takeTruths_72 f_FenR_9 (by first | assumption | exact zS0_at (by assumption) (by omega) | exact zS0_at rfl (by omega)) (by first | assumption | exact zS0_at (by assumption) (by omega) | exact zS0_at rfl (by omega)) ?_
            refine z_Vv0 d_FenR_takeTruths_75 k_FenR_64 (by first | assumption | exact zS0_at (by assumption) (by omega) | exact zS0_at rfl (by omega)) (t_adv C1.1) ⟨Nat.le_of_ble_eq_true rfl, Nat.le_of_ble_eq_true rfl, Nat.le_of_ble_eq_true rfl, Nat.le_of_ble_eq_true rfl⟩ (Nat.le_of_ble_eq_true rfl) ?_
            intro w hq
            obtain ⟨I2, J2, rfl, fr2, gr2, C2⟩ := frN_tk C1 hq
            first | refine z_iinc_3 d_FenR_takeTruths_78 rfl (zi_inc _) ?_ | refine z_iinc_3 d_FenR_takeTruths_78 rfl rfl ?_
            refine z_goto (tgt := 4) d_FenR_takeTruths_81 (by decide) ?_
            refine z_forget_4 ?_
            have h6 : z ||| 2 ^ k < 64 := Nat.or_lt_two_pow (n := 6) hz (Nat.pow_lt_pow_right (by decide) (by omega))
            have q0 := ih (j + 1) (by omega) (by omega) (z ||| 2 ^ k) (tA T L K t1) I2 J2 h6 (frF_t fr1 fr2) (frF_t gr1 gr2) C2
            rw [← hI] at q0
            rw [show 7 - j = (7 - (j + 1)) + 1 by omega, p_truths, if_pos hN, hx] at q0
            dsimp only [pb] at q0
            rw [nI_clamp (by omega), if_neg hc, nx_sh k (by omega), nx_or] at q0
            exact q0 rfl
          · have hc := zbit_p.mp hc
            rw [if_pos hc]
            refine z_aload_0 d_FenR_takeTruths_53 ?_
            refine z_getR d_FenR_takeTruths_54 f_FenR_9 (by first | assumption | exact zS0_at (by assumption) (by omega) | exact zS0_at rfl (by omega)) (by first | assumption | exact zS0_at (by assumption) (by omega) | exact zS0_at rfl (by omega)) ?_
            refine z_iconst (a := nI 5) d_FenR_takeTruths_57 (by decide) ?_
            refine z_Vi1 d_FenR_takeTruths_58 k_FenR_60 (by first | assumption | exact zS0_at (by assumption) (by omega) | exact zS0_at rfl (by omega)) (t_Tok_faulty C1.1) ⟨Nat.le_of_ble_eq_true rfl, Nat.le_of_ble_eq_true rfl, Nat.le_of_ble_eq_true rfl, Nat.le_of_ble_eq_true rfl⟩ (Nat.le_of_ble_eq_true rfl) ?_
            intro r w hq
            obtain ⟨rfl, hq⟩ := hq
            obtain ⟨I9, J9, rfl, hq2⟩ := frE_t fr1 gr1 (frE_tk hq)
            refine z_pop rfl d_FenR_takeTruths_61 ?_
            refine z_iconst (a := -1) d_FenR_takeTruths_62 (by decide) ?_
            refine z_reti d_FenR_takeTruths_63 ?_
            exact ⟨rfl, I9, J9, rfl, hq2⟩
        · rw [if_neg hN]
          refine z_if_eq (tgt := 84) d_FenR_takeTruths_17 (by decide) (fun _ => ?_) (fun h => absurd (by decide) h)
          refine z_iload_2 d_FenR_takeTruths_84 ?_
          refine z_reti d_FenR_takeTruths_85 ?_
          exact ⟨rfl, I1, J1, rfl, fr1, gr1, C1⟩
  refine z_iconst (a := nI 0) d_FenR_takeTruths_0 (by decide) ?_
  first | refine z_istore_2 d_FenR_takeTruths_1 rfl ?_ | (refine z_forget_1 ?_; refine z_istore_2 d_FenR_takeTruths_1 rfl ?_)
  refine z_iconst (a := nI 0) d_FenR_takeTruths_2 (by decide) ?_
  first | refine z_istore_3 d_FenR_takeTruths_3 rfl ?_ | (refine z_forget_2 ?_; refine z_istore_3 d_FenR_takeTruths_3 rfl ?_)
  exact loop 8 0 (by omega) (by omega) 0 t I J (by omega) frF_r frF_r C rfl
theorem t_FenR_readPerson (C : frC T K L f I J P S ((nt, np, nl, nn, od), A, B) t) : zEi G y_FenR_readPerson prog_3_method_6_code 5 (some .boolean) 5 [.ref 15, .ref f] (I, J, P, S) (fun r w => pQ (p_person (tA T L K) ((nt, np, nl, nn, od), A, B) t) (fun e => r = nI 0 ∧ frE f I J P S e w) (fun x => r = nI 1 ∧ frN T K L f I J P S x w)) := by
  obtain ⟨⟨k1, k1b⟩, ⟨k2, k2b⟩, ⟨k3, k3b⟩, ⟨k4, k4b⟩, k5, k6, k7, k8, k9, kA, kB⟩ := frC_n C
  have F := C.2.1
  obtain ⟨R0, R1, hf⟩ := C.2.2.1
  have X0 := C.1.1.1
  obtain ⟨F0, ⟨F8, F8s⟩, ⟨F9, F9s⟩, ⟨F10, F10s⟩, ⟨F11, F11s⟩, ⟨F12, F12s⟩, ⟨F13, F13s⟩, ⟨F14, F14s⟩, ⟨F15, F15s⟩, ⟨F16, F16s⟩, ⟨F17, F17s⟩, ⟨F18, F18s⟩, ⟨F19, F19s⟩, ⟨Y3, Y3s⟩, ⟨Y4, Y4s⟩, ⟨Y5, Y5s⟩, ⟨Y6, Y6s⟩⟩ := id F
  refine zEi_of (lv := [some (.ref 15), some (.ref f), none, none, none]) (by decide) rfl (Nat.le_of_ble_eq_true rfl) ?_
  unfold p_person
  dsimp only
  refine z_aload_1 d_FenR_readPerson_0 ?_
  refine z_getIv d_FenR_readPerson_1 f_FenR_91 (by first | assumption | exact zS0_at (by assumption) (by omega) | exact zS0_at rfl (by omega)) (by first | assumption | ((try simp (disch := omega) only [zu_same, zu_ne, zcp_ne, zfl_ne]); first | assumption | rfl)) ?_
  refine z_bipush (a := nI 7) d_FenR_readPerson_4 (by decide) ?_
  refine z_icmp_lt (tgt := 19) d_FenR_readPerson_6 (by decide) (fun hb => ?_) (fun hb => ?_)
  · have hb := (nI_ltI (by omega) (by omega)).mp hb
    rw [if_pos hb]
    refine z_aload_0 d_FenR_readPerson_19 ?_
    refine z_getR d_FenR_readPerson_20 f_FenR_9 (by first | assumption | exact zS0_at (by assumption) (by omega) | exact zS0_at rfl (by omega)) (by first | assumption | exact zS0_at (by assumption) (by omega) | exact zS0_at rfl (by omega)) ?_
    refine z_Vv0 d_FenR_readPerson_23 k_FenR_64 (by first | assumption | exact zS0_at (by assumption) (by omega) | exact zS0_at rfl (by omega)) (t_adv C.1) ⟨Nat.le_of_ble_eq_true rfl, Nat.le_of_ble_eq_true rfl, Nat.le_of_ble_eq_true rfl, Nat.le_of_ble_eq_true rfl⟩ (Nat.le_of_ble_eq_true rfl) ?_
    intro w hq
    obtain ⟨I1, J1, rfl, fr1, gr1, C1⟩ := frN_tk C hq
    refine z_aload_0 d_FenR_readPerson_26 ?_
    refine z_aload_1 d_FenR_readPerson_27 ?_
    refine z_Vl1 d_FenR_readPerson_28 k_FenR_80 (by first | assumption | exact zS0_at (by assumption) (by omega) | exact zS0_at rfl (by omega)) (t_FenR_takeNewName C1) ⟨Nat.le_of_ble_eq_true rfl, Nat.le_of_ble_eq_true rfl, Nat.le_of_ble_eq_true rfl, Nat.le_of_ble_eq_true rfl⟩ (Nat.le_of_ble_eq_true rfl) ?_
    intro r w hq
    rcases hx : p_newn (tA T L K) ((nt, np, nl, nn, od), A, B) (tA T L K t) with e | v <;> rw [hx] at hq <;> dsimp only [pb]
    · obtain ⟨rfl, hq⟩ := hq
      obtain ⟨I9, J9, rfl, hq2⟩ := frE_t fr1 gr1 (frE_tk hq)
      first | refine z_lstore_2 d_FenR_readPerson_31 rfl ?_ | (refine z_forget_1 ?_; refine z_lstore_2 d_FenR_readPerson_31 rfl ?_)
      refine z_lload_2 d_FenR_readPerson_32 ?_
      refine z_lconst (f := lN 0) d_FenR_readPerson_33 rfl ?_
      refine z_lcmp d_FenR_readPerson_34 ?_
      refine z_if_ne (tgt := 40) d_FenR_readPerson_35 (by decide) (fun h => absurd (by decide) h) (fun _ => ?_)
      refine z_iconst (a := nI 0) d_FenR_readPerson_38 (by decide) ?_
      refine z_retz d_FenR_readPerson_39 (by first | exact zb0 | exact zb1 | assumption) ?_
      exact ⟨rfl, I9, J9, rfl, hq2⟩
    obtain ⟨rfl, hne, hq⟩ := hq
    obtain ⟨I2, J2, rfl, fr2, gr2, C2⟩ := frN_t fr1 gr1 (frN_tk C1 hq)
    have hne2 : ¬ lg_cmp v.1 (lN 0) = 0 := hne
    obtain ⟨x, t0⟩ := v
    obtain ⟨-, -, -, -, -, e6, -⟩ := frC_n C2
    dsimp only at hne2 ⊢
    first | refine z_lstore_2 d_FenR_readPerson_31 rfl ?_ | (refine z_forget_1 ?_; refine z_lstore_2 d_FenR_readPerson_31 rfl ?_)
    refine z_lload_2 d_FenR_readPerson_32 ?_
    refine z_lconst (f := lN 0) d_FenR_readPerson_33 rfl ?_
    refine z_lcmp d_FenR_readPerson_34 ?_
    refine z_if_ne (tgt := 40) d_FenR_readPerson_35 (by decide) (fun _ => ?_) (fun h => absurd h hne2)
    have fin : ∀ (y : Nat) (t1 : tk) (I3 : Nat → Nat → Int32) (J3 : Nat → Nat → Int64), y < 64 → frF f I I3 → frF f J J3 → frC T K L f I3 J3 P S ((nt, np, nl, nn, od), A, B) t1 → p_person (tA T L K) ((nt, np, nl, nn, od), A, B) t = pb (p_semi (tA T L K) t1) (fun t' => .inr (((nt, np + 1, nl, nn, od), zu (zu (zu (zu A 2 np (nI y)) 3 np (nI 0)) 4 np (nI 0)) 0 2 (nI (np + 1)), zu B 10 np x), t')) → zA G y_FenR_readPerson prog_3_method_6_code 5 (some .boolean) (zRm 5 0 0) (zM G 0 0 (fun r w' => ∃ x, r = some (.int x) ∧ (fun r w => pQ (p_person (tA T L K) ((nt, np, nl, nn, od), A, B) t) (fun e => r = nI 0 ∧ frE f I J P S e w) (fun x => r = nI 1 ∧ frN T K L f I J P S x w)) x w')) 68 [some (.ref 15), some (.ref f), some (.long x), none, some (.int (nI y))] [] (I3, J3, P, S) 0 0 := by
      intro y t1 I3 J3 hy fr3 gr3 C3 he
      rw [he]
      refine z_iload_4 d_FenR_readPerson_68 ?_
      refine z_if_lt (tgt := 83) d_FenR_readPerson_70 (by decide) (fun h => absurd h (nI_pos (by omega))) (fun _ => ?_)
      refine z_aload_0 d_FenR_readPerson_73 ?_
      refine z_getR d_FenR_readPerson_74 f_FenR_9 (by first | assumption | exact zS0_at (by assumption) (by omega) | exact zS0_at rfl (by omega)) (by first | assumption | exact zS0_at (by assumption) (by omega) | exact zS0_at rfl (by omega)) ?_
      refine z_Vi0 d_FenR_readPerson_77 k_FenR_74 (by first | assumption | exact zS0_at (by assumption) (by omega) | exact zS0_at rfl (by omega)) (t_Tok_takeSemicolon C3.1) ⟨Nat.le_of_ble_eq_true rfl, Nat.le_of_ble_eq_true rfl, Nat.le_of_ble_eq_true rfl, Nat.le_of_ble_eq_true rfl⟩ (Nat.le_of_ble_eq_true rfl) ?_
      intro r w hq
      rcases hx4 : p_semi (tA T L K) t1 with e | t' <;> rw [hx4] at hq <;> dsimp only [pb]
      · obtain ⟨rfl, hq⟩ := hq
        obtain ⟨I9, J9, rfl, hq2⟩ := frE_t fr3 gr3 (frE_tk hq)
        refine z_if_ne (tgt := 85) d_FenR_readPerson_80 (by decide) (fun h => absurd (by decide) h) (fun _ => ?_)
        refine z_iconst (a := nI 0) d_FenR_readPerson_83 (by decide) ?_
        refine z_retz d_FenR_readPerson_84 (by first | exact zb0 | exact zb1 | assumption) ?_
        exact ⟨rfl, I9, J9, rfl, hq2⟩
      obtain ⟨rfl, hq⟩ := hq
      obtain ⟨I5, J5, rfl, fr5, gr5, C5⟩ := frN_t fr3 gr3 (frN_tk C3 hq)
      obtain ⟨-, ⟨d1, -⟩, -, -, -, -, -, -, -, dA, dB⟩ := frC_n C5
      obtain ⟨a1, a2, a3, a4⟩ := frC_A C5
      refine z_if_ne (tgt := 85) d_FenR_readPerson_80 (by decide) (fun _ => ?_) (fun h => absurd h (by decide))
      refine z_aload_1 d_FenR_readPerson_85 ?_
      refine z_lload_2 d_FenR_readPerson_86 ?_
      refine z_iload_4 d_FenR_readPerson_87 ?_
      refine z_Vv2 d_FenR_readPerson_89 k_FenR_98 (by first | assumption | exact zS0_at (by assumption) (by omega) | exact zS0_at rfl (by omega)) (t_Fen_addPerson F d1 hb) ⟨Nat.le_of_ble_eq_true rfl, Nat.le_of_ble_eq_true rfl, Nat.le_of_ble_eq_true rfl, Nat.le_of_ble_eq_true rfl⟩ (Nat.le_of_ble_eq_true rfl) ?_
      intro w hq
      obtain rfl := hq
      refine z_iconst (a := nI 1) d_FenR_readPerson_92 (by decide) ?_
      refine z_retz d_FenR_readPerson_93 (by first | exact zb0 | exact zb1 | assumption) ?_
      exact ⟨rfl, _, _, rfl, frF_u (frF_u (frF_u (frF_u fr5 (by omega)) (by omega)) (by omega)) (by omega), frF_u gr5 (by omega), frC_up C5 (fun a ha => by rw [zu_row _ _ _ _ (by omega), zu_row _ _ _ _ (by omega), zu_row _ _ _ _ (by omega), zu_row _ _ _ _ (by omega)]) (fun a ha => by rw [zu_row _ _ _ _ (by omega)]) (by rw [sf_zu0, sf_zu, sf_zu, sf_zu, dA]) (by rw [sf_zu, dB]) (by simp only [zu]; exact a1) ⟨zu_same _ _ _ _, by omega⟩ (by simp only [zu]; exact a3) (by simp only [zu]; exact a4)⟩
    have hpp : p_person (tA T L K) ((nt, np, nl, nn, od), A, B) t = pb (if tkw t0 = nI 4 then p_truths (tA T L K) (B 9) nt 7 (nI 0) (tA T L K t0) else .inr (nI 0, t0)) (fun v => pb (p_semi (tA T L K) v.2) (fun t' => .inr (((nt, np + 1, nl, nn, od), zu (zu (zu (zu A 2 np v.1) 3 np (nI 0)) 4 np (nI 0)) 0 2 (nI (np + 1)), zu B 10 np x), t'))) := by
      unfold p_person
      dsimp only
      rw [if_pos hb, hx]
      rfl
    have hgo : zA G y_FenR_readPerson prog_3_method_6_code 5 (some .boolean) (zRm 5 0 0) (zM G 0 0 (fun r w' => ∃ x, r = some (.int x) ∧ (fun r w => pQ (p_person (tA T L K) ((nt, np, nl, nn, od), A, B) t) (fun e => r = nI 0 ∧ frE f I J P S e w) (fun x => r = nI 1 ∧ frN T K L f I J P S x w)) x w')) 40 [some (.ref 15), some (.ref f), some (.long x), none, none] [] (I2, J2, P, S) 0 0 := by
      refine z_iconst (a := nI 0) d_FenR_readPerson_40 (by decide) ?_
      first | refine z_istore_4 d_FenR_readPerson_41 rfl ?_ | (refine z_forget_3 ?_; refine z_istore_4 d_FenR_readPerson_41 rfl ?_)
      refine z_aload_0 d_FenR_readPerson_43 ?_
      refine z_getR d_FenR_readPerson_44 f_FenR_9 (by first | assumption | exact zS0_at (by assumption) (by omega) | exact zS0_at rfl (by omega)) (by first | assumption | exact zS0_at (by assumption) (by omega) | exact zS0_at rfl (by omega)) ?_
      refine z_getIv d_FenR_readPerson_47 f_FenR_38 (by first | assumption | exact zS0_at (by assumption) (by omega) | exact zS0_at rfl (by omega)) (by first | assumption | ((try simp (disch := omega) only [zu_same, zu_ne, zcp_ne, zfl_ne]); first | assumption | rfl)) ?_
      refine z_iconst (a := nI 4) d_FenR_readPerson_50 (by decide) ?_
      refine z_icmp_ne (tgt := 68) d_FenR_readPerson_51 (by decide) (fun hc => ?_) (fun hc => ?_)
      · rw [if_neg hc] at hpp
        exact fin 0 t0 I2 J2 (by omega) fr2 gr2 C2 hpp
      · rw [if_pos hc] at hpp
        refine z_aload_0 d_FenR_readPerson_54 ?_
        refine z_getR d_FenR_readPerson_55 f_FenR_9 (by first | assumption | exact zS0_at (by assumption) (by omega) | exact zS0_at rfl (by omega)) (by first | assumption | exact zS0_at (by assumption) (by omega) | exact zS0_at rfl (by omega)) ?_
        refine z_Vv0 d_FenR_readPerson_58 k_FenR_64 (by first | assumption | exact zS0_at (by assumption) (by omega) | exact zS0_at rfl (by omega)) (t_adv C2.1) ⟨Nat.le_of_ble_eq_true rfl, Nat.le_of_ble_eq_true rfl, Nat.le_of_ble_eq_true rfl, Nat.le_of_ble_eq_true rfl⟩ (Nat.le_of_ble_eq_true rfl) ?_
        intro w hq
        obtain ⟨I3, J3, rfl, fr3, gr3, C3⟩ := frN_t fr2 gr2 (frN_tk C2 hq)
        refine z_aload_0 d_FenR_readPerson_61 ?_
        refine z_aload_1 d_FenR_readPerson_62 ?_
        refine z_Vi1 d_FenR_readPerson_63 k_FenR_94 (by first | assumption | exact zS0_at (by assumption) (by omega) | exact zS0_at rfl (by omega)) (t_FenR_takeTruths C3) ⟨Nat.le_of_ble_eq_true rfl, Nat.le_of_ble_eq_true rfl, Nat.le_of_ble_eq_true rfl, Nat.le_of_ble_eq_true rfl⟩ (Nat.le_of_ble_eq_true rfl) ?_
        intro r w hq
        rcases hy : p_truths (tA T L K) (B 9) nt 7 (nI 0) (tA T L K t0) with e | v <;> rw [hy] at hq hpp <;> dsimp only [pb] at hpp
        · obtain ⟨rfl, hq⟩ := hq
          obtain ⟨I9, J9, rfl, hq2⟩ := frE_t fr3 gr3 hq
          rw [hpp]
          first | refine z_istore_4 d_FenR_readPerson_66 rfl ?_ | (refine z_forget_3 ?_; refine z_istore_4 d_FenR_readPerson_66 rfl ?_)
          refine z_iload_4 d_FenR_readPerson_68 ?_
          refine z_if_lt (tgt := 83) d_FenR_readPerson_70 (by decide) (fun _ => ?_) (fun h => absurd (by decide) h)
          refine z_iconst (a := nI 0) d_FenR_readPerson_83 (by decide) ?_
          refine z_retz d_FenR_readPerson_84 (by first | exact zb0 | exact zb1 | assumption) ?_
          exact ⟨rfl, I9, J9, rfl, hq2⟩
        · obtain ⟨k, hk, hk2⟩ := p_truths_c k1b 7 0 _ v (by omega) hy
          obtain ⟨v1, v2⟩ := v
          dsimp only at hk2
          subst hk2
          obtain ⟨rfl, hq⟩ := hq
          obtain ⟨I4, J4, rfl, fr4, gr4, C4⟩ := frN_t fr3 gr3 hq
          first | refine z_istore_4 d_FenR_readPerson_66 rfl ?_ | (refine z_forget_3 ?_; refine z_istore_4 d_FenR_readPerson_66 rfl ?_)
          exact fin k v2 I4 J4 hk fr4 gr4 C4 hpp
    unfold p_person at hgo
    dsimp only at hgo
    rw [if_pos hb, hx] at hgo
    exact hgo
  · have hb : ¬ np < 7 := fun h => hb (nI_lt h (by omega))
    rw [if_neg hb]
    refine z_aload_0 d_FenR_readPerson_9 ?_
    refine z_getR d_FenR_readPerson_10 f_FenR_9 (by first | assumption | exact zS0_at (by assumption) (by omega) | exact zS0_at rfl (by omega)) (by first | assumption | exact zS0_at (by assumption) (by omega) | exact zS0_at rfl (by omega)) ?_
    refine z_bipush (a := nI 6) d_FenR_readPerson_13 (by decide) ?_
    refine z_Vi1 d_FenR_readPerson_15 k_FenR_60 (by first | assumption | exact zS0_at (by assumption) (by omega) | exact zS0_at rfl (by omega)) (t_Tok_faulty C.1) ⟨Nat.le_of_ble_eq_true rfl, Nat.le_of_ble_eq_true rfl, Nat.le_of_ble_eq_true rfl, Nat.le_of_ble_eq_true rfl⟩ (Nat.le_of_ble_eq_true rfl) ?_
    intro r w hq
    obtain ⟨rfl, hq⟩ := hq
    refine z_retz d_FenR_readPerson_18 (by first | exact zb0 | exact zb1 | assumption) ?_
    exact ⟨rfl, frE_tk hq⟩
theorem t_FenR_readLane (C : frC T K L f I J P S ((nt, np, nl, nn, od), A, B) t) : zEi G y_FenR_readLane prog_3_method_8_code 4 (some .boolean) 5 [.ref 15, .ref f] (I, J, P, S) (fun r w => pQ (p_lane (tA T L K) ((nt, np, nl, nn, od), A, B) t) (fun e => r = nI 0 ∧ frE f I J P S e w) (fun x => r = nI 1 ∧ frN T K L f I J P S x w)) := by
  obtain ⟨⟨k1, k1b⟩, ⟨k2, k2b⟩, ⟨k3, k3b⟩, ⟨k4, k4b⟩, k5, k6, k7, k8, k9, kA, kB⟩ := frC_n C
  have F := C.2.1
  obtain ⟨R0, R1, hf⟩ := C.2.2.1
  have X0 := C.1.1.1
  obtain ⟨F0, ⟨F8, F8s⟩, ⟨F9, F9s⟩, ⟨F10, F10s⟩, ⟨F11, F11s⟩, ⟨F12, F12s⟩, ⟨F13, F13s⟩, ⟨F14, F14s⟩, ⟨F15, F15s⟩, ⟨F16, F16s⟩, ⟨F17, F17s⟩, ⟨F18, F18s⟩, ⟨F19, F19s⟩, ⟨Y3, Y3s⟩, ⟨Y4, Y4s⟩, ⟨Y5, Y5s⟩, ⟨Y6, Y6s⟩⟩ := id F
  refine zEi_of (lv := [some (.ref 15), some (.ref f), none, none]) (by decide) rfl (Nat.le_of_ble_eq_true rfl) ?_
  unfold p_lane
  dsimp only
  refine z_aload_1 d_FenR_readLane_0 ?_
  refine z_getIv d_FenR_readLane_1 f_FenR_112 (by first | assumption | exact zS0_at (by assumption) (by omega) | exact zS0_at rfl (by omega)) (by first | assumption | ((try simp (disch := omega) only [zu_same, zu_ne, zcp_ne, zfl_ne]); first | assumption | rfl)) ?_
  refine z_bipush (a := nI 12) d_FenR_readLane_4 (by decide) ?_
  refine z_icmp_lt (tgt := 19) d_FenR_readLane_6 (by decide) (fun hb => ?_) (fun hb => ?_)
  · have hb := (nI_ltI (by omega) (by omega)).mp hb
    rw [if_pos hb]
    refine z_aload_0 d_FenR_readLane_19 ?_
    refine z_getR d_FenR_readLane_20 f_FenR_9 (by first | assumption | exact zS0_at (by assumption) (by omega) | exact zS0_at rfl (by omega)) (by first | assumption | exact zS0_at (by assumption) (by omega) | exact zS0_at rfl (by omega)) ?_
    refine z_Vv0 d_FenR_readLane_23 k_FenR_64 (by first | assumption | exact zS0_at (by assumption) (by omega) | exact zS0_at rfl (by omega)) (t_adv C.1) ⟨Nat.le_of_ble_eq_true rfl, Nat.le_of_ble_eq_true rfl, Nat.le_of_ble_eq_true rfl, Nat.le_of_ble_eq_true rfl⟩ (Nat.le_of_ble_eq_true rfl) ?_
    intro w hq
    obtain ⟨I1, J1, rfl, fr1, gr1, C1⟩ := frN_tk C hq
    obtain ⟨-, ⟨d2, -⟩, -, -, -, -, -, -, -, dA, dB⟩ := frC_n C1
    have hB1 : B 10 = J1 (f + 10) := by rw [← dB]; rfl
    refine z_aload_0 d_FenR_readLane_26 ?_
    refine z_getR d_FenR_readLane_27 f_FenR_9 (by first | assumption | exact zS0_at (by assumption) (by omega) | exact zS0_at rfl (by omega)) (by first | assumption | exact zS0_at (by assumption) (by omega) | exact zS0_at rfl (by omega)) ?_
    refine z_aload_1 d_FenR_readLane_30 ?_
    refine z_getR d_FenR_readLane_31 f_FenR_115 (by first | assumption | exact zS0_at (by assumption) (by omega) | exact zS0_at rfl (by omega)) (by first | assumption | exact zS0_at (by assumption) (by omega) | exact zS0_at rfl (by omega)) ?_
    refine z_aload_1 d_FenR_readLane_34 ?_
    refine z_getIv d_FenR_readLane_35 f_FenR_91 (by first | assumption | exact zS0_at (by assumption) (by omega) | exact zS0_at rfl (by omega)) (by first | assumption | ((try simp (disch := omega) only [zu_same, zu_ne, zcp_ne, zfl_ne]); first | assumption | rfl)) ?_
    refine z_Vi2 d_FenR_readLane_38 k_FenR_118 (by first | assumption | exact zS0_at (by assumption) (by omega) | exact zS0_at rfl (by omega)) (t_Tok_takeKnown C1.1 F17s (by omega) (by decide)) ⟨Nat.le_of_ble_eq_true rfl, Nat.le_of_ble_eq_true rfl, Nat.le_of_ble_eq_true rfl, Nat.le_of_ble_eq_true rfl⟩ (Nat.le_of_ble_eq_true rfl) ?_
    rw [← hB1]
    intro r w hq
    rcases hx : p_known (B 10) np (tA T L K t) with e | k <;> rw [hx] at hq <;> dsimp only [pb]
    · obtain ⟨rfl, hq⟩ := hq
      obtain ⟨I9, J9, rfl, hq2⟩ := frE_t fr1 gr1 (frE_tk hq)
      first | refine z_istore_2 d_FenR_readLane_41 rfl ?_ | (refine z_forget_1 ?_; refine z_istore_2 d_FenR_readLane_41 rfl ?_)
      refine z_iload_2 d_FenR_readLane_42 ?_
      refine z_if_ge (tgt := 48) d_FenR_readLane_43 (by decide) (fun h => absurd h (by decide)) (fun _ => ?_)
      refine z_iconst (a := nI 0) d_FenR_readLane_46 (by decide) ?_
      refine z_retz d_FenR_readLane_47 (by first | exact zb0 | exact zb1 | assumption) ?_
      exact ⟨rfl, I9, J9, rfl, hq2⟩
    obtain ⟨k, hk, rfl, -⟩ := p_known_c hx
    obtain ⟨rfl, hq⟩ := hq
    obtain ⟨I2, J2, rfl, fr2, gr2, C2⟩ := frN_t fr1 gr1 (frN_tk C1 hq)
    obtain ⟨-, ⟨e2, -⟩, -, -, -, -, -, -, -, eA, eB⟩ := frC_n C2
    have hB2 : B 10 = J2 (f + 10) := by rw [← eB]; rfl
    first | refine z_istore_2 d_FenR_readLane_41 rfl ?_ | (refine z_forget_1 ?_; refine z_istore_2 d_FenR_readLane_41 rfl ?_)
    refine z_iload_2 d_FenR_readLane_42 ?_
    refine z_if_ge (tgt := 48) d_FenR_readLane_43 (by decide) (fun _ => ?_) (fun h => absurd (Int32.not_lt.mp (nI_pos (by omega))) h)
    refine z_aload_0 d_FenR_readLane_48 ?_
    refine z_getR d_FenR_readLane_49 f_FenR_9 (by first | assumption | exact zS0_at (by assumption) (by omega) | exact zS0_at rfl (by omega)) (by first | assumption | exact zS0_at (by assumption) (by omega) | exact zS0_at rfl (by omega)) ?_
    refine z_aload_1 d_FenR_readLane_52 ?_
    refine z_getR d_FenR_readLane_53 f_FenR_115 (by first | assumption | exact zS0_at (by assumption) (by omega) | exact zS0_at rfl (by omega)) (by first | assumption | exact zS0_at (by assumption) (by omega) | exact zS0_at rfl (by omega)) ?_
    refine z_aload_1 d_FenR_readLane_56 ?_
    refine z_getIv d_FenR_readLane_57 f_FenR_91 (by first | assumption | exact zS0_at (by assumption) (by omega) | exact zS0_at rfl (by omega)) (by first | assumption | ((try simp (disch := omega) only [zu_same, zu_ne, zcp_ne, zfl_ne]); first | assumption | rfl)) ?_
    refine z_Vi2 d_FenR_readLane_60 k_FenR_108 (by first | assumption | exact zS0_at (by assumption) (by omega) | exact zS0_at rfl (by omega)) (t_Tok_known C2.1 F17s (by omega) (by decide)) ⟨Nat.le_of_ble_eq_true rfl, Nat.le_of_ble_eq_true rfl, Nat.le_of_ble_eq_true rfl, Nat.le_of_ble_eq_true rfl⟩ (Nat.le_of_ble_eq_true rfl) ?_
    rw [← hB2]
    intro r w hq
    rcases hx2 : p_known (B 10) np (tA T L K (tA T L K t)) with e | m <;> rw [hx2] at hq <;> dsimp only [pb]
    · obtain ⟨rfl, hq⟩ := hq
      obtain ⟨I9, J9, rfl, hq2⟩ := frE_t fr2 gr2 (frE_tk hq)
      first | refine z_istore_3 d_FenR_readLane_63 rfl ?_ | (refine z_forget_2 ?_; refine z_istore_3 d_FenR_readLane_63 rfl ?_)
      refine z_iload_3 d_FenR_readLane_64 ?_
      refine z_if_ge (tgt := 70) d_FenR_readLane_65 (by decide) (fun h => absurd h (by decide)) (fun _ => ?_)
      refine z_iconst (a := nI 0) d_FenR_readLane_68 (by decide) ?_
      refine z_retz d_FenR_readLane_69 (by first | exact zb0 | exact zb1 | assumption) ?_
      exact ⟨rfl, I9, J9, rfl, hq2⟩
    obtain ⟨m, hm, rfl, -⟩ := p_known_c hx2
    obtain ⟨rfl, rfl⟩ := hq
    first | refine z_istore_3 d_FenR_readLane_63 rfl ?_ | (refine z_forget_2 ?_; refine z_istore_3 d_FenR_readLane_63 rfl ?_)
    refine z_iload_3 d_FenR_readLane_64 ?_
    refine z_if_ge (tgt := 70) d_FenR_readLane_65 (by decide) (fun _ => ?_) (fun h => absurd (Int32.not_lt.mp (nI_pos (by omega))) h)
    refine z_iload_3 d_FenR_readLane_70 ?_
    refine z_iload_2 d_FenR_readLane_71 ?_
    refine z_icmp_ne (tgt := 84) d_FenR_readLane_72 (by decide) (fun hc => ?_) (fun hc => ?_)
    · rw [if_neg hc, nI_clamp (by omega), nI_clamp (by omega)]
      have hc2 : k ≠ m := fun h => hc (by rw [h])
      refine z_aload_0 d_FenR_readLane_84 ?_
      refine z_getR d_FenR_readLane_85 f_FenR_9 (by first | assumption | exact zS0_at (by assumption) (by omega) | exact zS0_at rfl (by omega)) (by first | assumption | exact zS0_at (by assumption) (by omega) | exact zS0_at rfl (by omega)) ?_
      refine z_Vv0 d_FenR_readLane_88 k_FenR_64 (by first | assumption | exact zS0_at (by assumption) (by omega) | exact zS0_at rfl (by omega)) (t_adv C2.1) ⟨Nat.le_of_ble_eq_true rfl, Nat.le_of_ble_eq_true rfl, Nat.le_of_ble_eq_true rfl, Nat.le_of_ble_eq_true rfl⟩ (Nat.le_of_ble_eq_true rfl) ?_
      intro w hq
      obtain ⟨I3, J3, rfl, fr3, gr3, C3⟩ := frN_t fr2 gr2 (frN_tk C2 hq)
      refine z_aload_0 d_FenR_readLane_91 ?_
      refine z_getR d_FenR_readLane_92 f_FenR_9 (by first | assumption | exact zS0_at (by assumption) (by omega) | exact zS0_at rfl (by omega)) (by first | assumption | exact zS0_at (by assumption) (by omega) | exact zS0_at rfl (by omega)) ?_
      refine z_Vi0 d_FenR_readLane_95 k_FenR_74 (by first | assumption | exact zS0_at (by assumption) (by omega) | exact zS0_at rfl (by omega)) (t_Tok_takeSemicolon C3.1) ⟨Nat.le_of_ble_eq_true rfl, Nat.le_of_ble_eq_true rfl, Nat.le_of_ble_eq_true rfl, Nat.le_of_ble_eq_true rfl⟩ (Nat.le_of_ble_eq_true rfl) ?_
      intro r w hq
      rcases hx4 : p_semi (tA T L K) (tA T L K (tA T L K (tA T L K t))) with e | t' <;> rw [hx4] at hq <;> dsimp only [pb]
      · obtain ⟨rfl, hq⟩ := hq
        obtain ⟨I9, J9, rfl, hq2⟩ := frE_t fr3 gr3 (frE_tk hq)
        refine z_if_ne (tgt := 103) d_FenR_readLane_98 (by decide) (fun h => absurd (by decide) h) (fun _ => ?_)
        refine z_iconst (a := nI 0) d_FenR_readLane_101 (by decide) ?_
        refine z_retz d_FenR_readLane_102 (by first | exact zb0 | exact zb1 | assumption) ?_
        exact ⟨rfl, I9, J9, rfl, hq2⟩
      obtain ⟨rfl, hq⟩ := hq
      obtain ⟨I5, J5, rfl, fr5, gr5, C5⟩ := frN_t fr3 gr3 (frN_tk C3 hq)
      obtain ⟨-, -, ⟨g3, -⟩, -, -, -, -, -, -, gA, gB⟩ := frC_n C5
      obtain ⟨a1, a2, a3, a4⟩ := frC_A C5
      refine z_if_ne (tgt := 103) d_FenR_readLane_98 (by decide) (fun _ => ?_) (fun h => absurd h (by decide))
      refine z_aload_1 d_FenR_readLane_103 ?_
      refine z_iload_2 d_FenR_readLane_104 ?_
      refine z_iload_3 d_FenR_readLane_105 ?_
      refine z_Vv2 d_FenR_readLane_106 k_FenR_121 (by first | assumption | exact zS0_at (by assumption) (by omega) | exact zS0_at rfl (by omega)) (t_Fen_addLane F g3 (show k < 7 by omega) (show m < 7 by omega) hc2) ⟨Nat.le_of_ble_eq_true rfl, Nat.le_of_ble_eq_true rfl, Nat.le_of_ble_eq_true rfl, Nat.le_of_ble_eq_true rfl⟩ (Nat.le_of_ble_eq_true rfl) ?_
      intro w hq
      obtain rfl := hq
      refine z_iconst (a := nI 1) d_FenR_readLane_109 (by decide) ?_
      refine z_retz d_FenR_readLane_110 (by first | exact zb0 | exact zb1 | assumption) ?_
      exact ⟨rfl, _, _, rfl, frF_u (frF_u (frF_u fr5 (by omega)) (by omega)) (by omega), gr5, frC_up C5 (fun a ha => by rw [zu_row _ _ _ _ (by omega), zu_row _ _ _ _ (by omega), zu_row _ _ _ _ (by omega)]) (fun a ha => rfl) (by rw [sf_zu0, sf_zu, sf_zu, gA]; rw [← gA]; rfl) gB (by simp only [zu]; exact a1) (by simp only [zu]; exact a2) ⟨zu_same _ _ _ _, by omega⟩ (by simp only [zu]; exact a4)⟩
    · rw [if_pos hc]
      refine z_aload_0 d_FenR_readLane_75 ?_
      refine z_getR d_FenR_readLane_76 f_FenR_9 (by first | assumption | exact zS0_at (by assumption) (by omega) | exact zS0_at rfl (by omega)) (by first | assumption | exact zS0_at (by assumption) (by omega) | exact zS0_at rfl (by omega)) ?_
      refine z_iconst (a := nI 5) d_FenR_readLane_79 (by decide) ?_
      refine z_Vi1 d_FenR_readLane_80 k_FenR_60 (by first | assumption | exact zS0_at (by assumption) (by omega) | exact zS0_at rfl (by omega)) (t_Tok_faulty C2.1) ⟨Nat.le_of_ble_eq_true rfl, Nat.le_of_ble_eq_true rfl, Nat.le_of_ble_eq_true rfl, Nat.le_of_ble_eq_true rfl⟩ (Nat.le_of_ble_eq_true rfl) ?_
      intro r w hq
      obtain ⟨rfl, hq⟩ := hq
      obtain ⟨I9, J9, rfl, hq2⟩ := frE_t fr2 gr2 (frE_tk hq)
      refine z_retz d_FenR_readLane_83 (by first | exact zb0 | exact zb1 | assumption) ?_
      exact ⟨rfl, I9, J9, rfl, hq2⟩
  · have hb : ¬ nl < 12 := fun h => hb (nI_lt h (by omega))
    rw [if_neg hb]
    refine z_aload_0 d_FenR_readLane_9 ?_
    refine z_getR d_FenR_readLane_10 f_FenR_9 (by first | assumption | exact zS0_at (by assumption) (by omega) | exact zS0_at rfl (by omega)) (by first | assumption | exact zS0_at (by assumption) (by omega) | exact zS0_at rfl (by omega)) ?_
    refine z_bipush (a := nI 6) d_FenR_readLane_13 (by decide) ?_
    refine z_Vi1 d_FenR_readLane_15 k_FenR_60 (by first | assumption | exact zS0_at (by assumption) (by omega) | exact zS0_at rfl (by omega)) (t_Tok_faulty C.1) ⟨Nat.le_of_ble_eq_true rfl, Nat.le_of_ble_eq_true rfl, Nat.le_of_ble_eq_true rfl, Nat.le_of_ble_eq_true rfl⟩ (Nat.le_of_ble_eq_true rfl) ?_
    intro r w hq
    obtain ⟨rfl, hq⟩ := hq
    refine z_retz d_FenR_readLane_18 (by first | exact zb0 | exact zb1 | assumption) ?_
    exact ⟨rfl, frE_tk hq⟩
theorem sf_addTin {k p : Int32} : sf f (s_addTin I f nn k p) = s_addTin (sf f I) 0 nn k p := by
  unfold s_addTin
  rw [sf_zu, sf_zu, sf_zu, sf_zu]
theorem addTin_row {k p : Int32} {a : Nat} (h : a < f) : s_addTin I f nn k p a = I a := by
  unfold s_addTin
  rw [zu_row _ _ _ _ (by omega), zu_row _ _ _ _ (by omega), zu_row _ _ _ _ (by omega), zu_row _ _ _ _ (by omega)]
theorem addTin_fr {k p : Int32} (h : frF f I I1) : frF f I (s_addTin I1 f nn k p) := by
  unfold s_addTin
  exact frF_u (frF_u (frF_u (frF_u h (by omega)) (by omega)) (by omega)) (by omega)
theorem addTin_0 {k p : Int32} {i : Nat} : s_addTin A 0 nn k p 0 i = A 0 i := by
  unfold s_addTin
  rw [zu_ne _ _ _ _ (by omega), zu_ne _ _ _ _ (by omega), zu_ne _ _ _ _ (by omega), zu_ne _ _ _ _ (by omega)]
theorem t_FenR_readTin (C : frC T K L f I J P S ((nt, np, nl, nn, od), A, B) t) : zEi G y_FenR_readTin prog_3_method_9_code 7 (some .boolean) 5 [.ref 15, .ref f] (I, J, P, S) (fun r w => pQ (p_tin (tA T L K) ((nt, np, nl, nn, od), A, B) t) (fun e => r = nI 0 ∧ frE f I J P S e w) (fun x => r = nI 1 ∧ frN T K L f I J P S x w)) := by
  obtain ⟨⟨k1, k1b⟩, ⟨k2, k2b⟩, ⟨k3, k3b⟩, ⟨k4, k4b⟩, k5, k6, k7, k8, k9, kA, kB⟩ := frC_n C
  have F := C.2.1
  obtain ⟨R0, R1, hf⟩ := C.2.2.1
  have X0 := C.1.1.1
  obtain ⟨F0, ⟨F8, F8s⟩, ⟨F9, F9s⟩, ⟨F10, F10s⟩, ⟨F11, F11s⟩, ⟨F12, F12s⟩, ⟨F13, F13s⟩, ⟨F14, F14s⟩, ⟨F15, F15s⟩, ⟨F16, F16s⟩, ⟨F17, F17s⟩, ⟨F18, F18s⟩, ⟨F19, F19s⟩, ⟨Y3, Y3s⟩, ⟨Y4, Y4s⟩, ⟨Y5, Y5s⟩, ⟨Y6, Y6s⟩⟩ := id F
  refine zEi_of (lv := [some (.ref 15), some (.ref f), none, none, none, none, none]) (by decide) rfl (Nat.le_of_ble_eq_true rfl) ?_
  refine z_aload_1 d_FenR_readTin_0 ?_
  refine z_getIv d_FenR_readTin_1 f_FenR_125 (by first | assumption | exact zS0_at (by assumption) (by omega) | exact zS0_at rfl (by omega)) (by first | assumption | ((try simp (disch := omega) only [zu_same, zu_ne, zcp_ne, zfl_ne]); first | assumption | rfl)) ?_
  refine z_bipush (a := nI 9) d_FenR_readTin_4 (by decide) ?_
  refine z_icmp_lt (tgt := 19) d_FenR_readTin_6 (by decide) (fun hb => ?_) (fun hb => ?_)
  · have hb := (nI_ltI (by omega) (by omega)).mp hb
    have hpp : ∃ z, p_tin (tA T L K) ((nt, np, nl, nn, od), A, B) t = z := ⟨_, rfl⟩
    obtain ⟨z, hpp⟩ := hpp
    rw [hpp]
    unfold p_tin at hpp
    dsimp only at hpp
    rw [if_pos hb] at hpp
    refine z_aload_0 d_FenR_readTin_19 ?_
    refine z_getR d_FenR_readTin_20 f_FenR_9 (by first | assumption | exact zS0_at (by assumption) (by omega) | exact zS0_at rfl (by omega)) (by first | assumption | exact zS0_at (by assumption) (by omega) | exact zS0_at rfl (by omega)) ?_
    refine z_Vv0 d_FenR_readTin_23 k_FenR_64 (by first | assumption | exact zS0_at (by assumption) (by omega) | exact zS0_at rfl (by omega)) (t_adv C.1) ⟨Nat.le_of_ble_eq_true rfl, Nat.le_of_ble_eq_true rfl, Nat.le_of_ble_eq_true rfl, Nat.le_of_ble_eq_true rfl⟩ (Nat.le_of_ble_eq_true rfl) ?_
    intro w hq
    obtain ⟨I1, J1, rfl, fr1, gr1, C1⟩ := frN_tk C hq
    refine z_aload_0 d_FenR_readTin_26 ?_
    refine z_aload_1 d_FenR_readTin_27 ?_
    refine z_Vl1 d_FenR_readTin_28 k_FenR_80 (by first | assumption | exact zS0_at (by assumption) (by omega) | exact zS0_at rfl (by omega)) (t_FenR_takeNewName C1) ⟨Nat.le_of_ble_eq_true rfl, Nat.le_of_ble_eq_true rfl, Nat.le_of_ble_eq_true rfl, Nat.le_of_ble_eq_true rfl⟩ (Nat.le_of_ble_eq_true rfl) ?_
    intro r w hq
    rcases hx : p_newn (tA T L K) ((nt, np, nl, nn, od), A, B) (tA T L K t) with e | v <;> rw [hx] at hq hpp <;> dsimp only [pb] at hpp
    · obtain ⟨rfl, hq⟩ := hq
      obtain ⟨I9, J9, rfl, hq2⟩ := frE_t fr1 gr1 (frE_tk hq)
      first | refine z_lstore_2 d_FenR_readTin_31 rfl ?_ | (refine z_forget_1 ?_; refine z_lstore_2 d_FenR_readTin_31 rfl ?_)
      refine z_lload_2 d_FenR_readTin_32 ?_
      refine z_lconst (f := lN 0) d_FenR_readTin_33 rfl ?_
      refine z_lcmp d_FenR_readTin_34 ?_
      refine z_if_eq (tgt := 50) d_FenR_readTin_35 (by decide) (fun _ => ?_) (fun h => absurd (by decide) h)
      refine z_iconst (a := nI 0) d_FenR_readTin_50 (by decide) ?_
      refine z_retz d_FenR_readTin_51 (by first | exact zb0 | exact zb1 | assumption) ?_
      exact (by rw [← hpp]; exact ⟨rfl, I9, J9, rfl, hq2⟩)
    obtain ⟨rfl, hne, hq⟩ := hq
    obtain ⟨I2, J2, rfl, fr2, gr2, C2⟩ := frN_t fr1 gr1 (frN_tk C1 hq)
    have hne2 : ¬ lg_cmp v.1 (lN 0) = 0 := hne
    obtain ⟨x, t0⟩ := v
    dsimp only at hne2 hpp ⊢
    first | refine z_lstore_2 d_FenR_readTin_31 rfl ?_ | (refine z_forget_1 ?_; refine z_lstore_2 d_FenR_readTin_31 rfl ?_)
    refine z_lload_2 d_FenR_readTin_32 ?_
    refine z_lconst (f := lN 0) d_FenR_readTin_33 rfl ?_
    refine z_lcmp d_FenR_readTin_34 ?_
    refine z_if_eq (tgt := 50) d_FenR_readTin_35 (by decide) (fun h => absurd h hne2) (fun _ => ?_)
    refine z_aload_0 d_FenR_readTin_38 ?_
    refine z_getR d_FenR_readTin_39 f_FenR_9 (by first | assumption | exact zS0_at (by assumption) (by omega) | exact zS0_at rfl (by omega)) (by first | assumption | exact zS0_at (by assumption) (by omega) | exact zS0_at rfl (by omega)) ?_
    refine z_bipush (a := nI 7) d_FenR_readTin_42 (by decide) ?_
    refine z_Vi1 d_FenR_readTin_44 k_FenR_84 (by first | assumption | exact zS0_at (by assumption) (by omega) | exact zS0_at rfl (by omega)) (t_Tok_takeWord C2.1) ⟨Nat.le_of_ble_eq_true rfl, Nat.le_of_ble_eq_true rfl, Nat.le_of_ble_eq_true rfl, Nat.le_of_ble_eq_true rfl⟩ (Nat.le_of_ble_eq_true rfl) ?_
    intro r w hq
    rcases hx2 : p_word (tA T L K) (nI 7) t0 with e | t1 <;> rw [hx2] at hq hpp <;> dsimp only [pb] at hpp
    · obtain ⟨rfl, hq⟩ := hq
      obtain ⟨I9, J9, rfl, hq2⟩ := frE_t fr2 gr2 (frE_tk hq)
      refine z_if_ne (tgt := 52) d_FenR_readTin_47 (by decide) (fun h => absurd (by decide) h) (fun _ => ?_)
      refine z_iconst (a := nI 0) d_FenR_readTin_50 (by decide) ?_
      refine z_retz d_FenR_readTin_51 (by first | exact zb0 | exact zb1 | assumption) ?_
      exact (by rw [← hpp]; exact ⟨rfl, I9, J9, rfl, hq2⟩)
    obtain ⟨rfl, hq⟩ := hq
    obtain ⟨I3, J3, rfl, fr3, gr3, C3⟩ := frN_t fr2 gr2 (frN_tk C2 hq)
    obtain ⟨⟨d1, -⟩, -, -, -, -, -, -, -, -, dA, dB⟩ := frC_n C3
    have hB3 : B 9 = J3 (f + 9) := by rw [← dB]; rfl
    refine z_if_ne (tgt := 52) d_FenR_readTin_47 (by decide) (fun _ => ?_) (fun h => absurd h (by decide))
    refine z_aload_0 d_FenR_readTin_52 ?_
    refine z_getR d_FenR_readTin_53 f_FenR_9 (by first | assumption | exact zS0_at (by assumption) (by omega) | exact zS0_at rfl (by omega)) (by first | assumption | exact zS0_at (by assumption) (by omega) | exact zS0_at rfl (by omega)) ?_
    refine z_aload_1 d_FenR_readTin_56 ?_
    refine z_getR d_FenR_readTin_57 f_FenR_104 (by first | assumption | exact zS0_at (by assumption) (by omega) | exact zS0_at rfl (by omega)) (by first | assumption | exact zS0_at (by assumption) (by omega) | exact zS0_at rfl (by omega)) ?_
    refine z_aload_1 d_FenR_readTin_60 ?_
    refine z_getIv d_FenR_readTin_61 f_FenR_77 (by first | assumption | exact zS0_at (by assumption) (by omega) | exact zS0_at rfl (by omega)) (by first | assumption | ((try simp (disch := omega) only [zu_same, zu_ne, zcp_ne, zfl_ne]); first | assumption | rfl)) ?_
    refine z_Vi2 d_FenR_readTin_64 k_FenR_118 (by first | assumption | exact zS0_at (by assumption) (by omega) | exact zS0_at rfl (by omega)) (t_Tok_takeKnown C3.1 F16s (by omega) (by decide)) ⟨Nat.le_of_ble_eq_true rfl, Nat.le_of_ble_eq_true rfl, Nat.le_of_ble_eq_true rfl, Nat.le_of_ble_eq_true rfl⟩ (Nat.le_of_ble_eq_true rfl) ?_
    rw [← hB3]
    intro r w hq
    rcases hx3 : p_known (B 9) nt t1 with e | k <;> rw [hx3] at hq hpp <;> dsimp only [pb] at hpp
    · obtain ⟨rfl, hq⟩ := hq
      obtain ⟨I9, J9, rfl, hq2⟩ := frE_t fr3 gr3 (frE_tk hq)
      first | refine z_istore_4 d_FenR_readTin_67 rfl ?_ | (refine z_forget_3 ?_; refine z_istore_4 d_FenR_readTin_67 rfl ?_)
      refine z_iload_4 d_FenR_readTin_69 ?_
      refine z_if_lt (tgt := 86) d_FenR_readTin_71 (by decide) (fun _ => ?_) (fun h => absurd (by decide) h)
      refine z_iconst (a := nI 0) d_FenR_readTin_86 (by decide) ?_
      refine z_retz d_FenR_readTin_87 (by first | exact zb0 | exact zb1 | assumption) ?_
      exact (by rw [← hpp]; exact ⟨rfl, I9, J9, rfl, hq2⟩)
    obtain ⟨k, hk, rfl, -⟩ := p_known_c hx3
    obtain ⟨rfl, hq⟩ := hq
    obtain ⟨I4, J4, rfl, fr4, gr4, C4⟩ := frN_t fr3 gr3 (frN_tk C3 hq)
    first | refine z_istore_4 d_FenR_readTin_67 rfl ?_ | (refine z_forget_3 ?_; refine z_istore_4 d_FenR_readTin_67 rfl ?_)
    refine z_iload_4 d_FenR_readTin_69 ?_
    refine z_if_lt (tgt := 86) d_FenR_readTin_71 (by decide) (fun h => absurd h (nI_pos (by omega))) (fun _ => ?_)
    refine z_aload_0 d_FenR_readTin_74 ?_
    refine z_getR d_FenR_readTin_75 f_FenR_9 (by first | assumption | exact zS0_at (by assumption) (by omega) | exact zS0_at rfl (by omega)) (by first | assumption | exact zS0_at (by assumption) (by omega) | exact zS0_at rfl (by omega)) ?_
    refine z_bipush (a := nI 8) d_FenR_readTin_78 (by decide) ?_
    refine z_Vi1 d_FenR_readTin_80 k_FenR_84 (by first | assumption | exact zS0_at (by assumption) (by omega) | exact zS0_at rfl (by omega)) (t_Tok_takeWord C4.1) ⟨Nat.le_of_ble_eq_true rfl, Nat.le_of_ble_eq_true rfl, Nat.le_of_ble_eq_true rfl, Nat.le_of_ble_eq_true rfl⟩ (Nat.le_of_ble_eq_true rfl) ?_
    intro r w hq
    rcases hx5 : p_word (tA T L K) (nI 8) (tA T L K t1) with e | t2 <;> rw [hx5] at hq hpp <;> dsimp only [pb] at hpp
    · obtain ⟨rfl, hq⟩ := hq
      obtain ⟨I9, J9, rfl, hq2⟩ := frE_t fr4 gr4 (frE_tk hq)
      refine z_if_ne (tgt := 88) d_FenR_readTin_83 (by decide) (fun h => absurd (by decide) h) (fun _ => ?_)
      refine z_iconst (a := nI 0) d_FenR_readTin_86 (by decide) ?_
      refine z_retz d_FenR_readTin_87 (by first | exact zb0 | exact zb1 | assumption) ?_
      exact (by rw [← hpp]; exact ⟨rfl, I9, J9, rfl, hq2⟩)
    obtain ⟨rfl, hq⟩ := hq
    obtain ⟨I5, J5, rfl, fr5, gr5, C5⟩ := frN_t fr4 gr4 (frN_tk C4 hq)
    obtain ⟨-, ⟨d2, -⟩, -, -, -, -, -, -, -, eA, eB⟩ := frC_n C5
    have hB5 : B 10 = J5 (f + 10) := by rw [← eB]; rfl
    refine z_if_ne (tgt := 88) d_FenR_readTin_83 (by decide) (fun _ => ?_) (fun h => absurd h (by decide))
    refine z_aload_0 d_FenR_readTin_88 ?_
    refine z_getR d_FenR_readTin_89 f_FenR_9 (by first | assumption | exact zS0_at (by assumption) (by omega) | exact zS0_at rfl (by omega)) (by first | assumption | exact zS0_at (by assumption) (by omega) | exact zS0_at rfl (by omega)) ?_
    refine z_aload_1 d_FenR_readTin_92 ?_
    refine z_getR d_FenR_readTin_93 f_FenR_115 (by first | assumption | exact zS0_at (by assumption) (by omega) | exact zS0_at rfl (by omega)) (by first | assumption | exact zS0_at (by assumption) (by omega) | exact zS0_at rfl (by omega)) ?_
    refine z_aload_1 d_FenR_readTin_96 ?_
    refine z_getIv d_FenR_readTin_97 f_FenR_91 (by first | assumption | exact zS0_at (by assumption) (by omega) | exact zS0_at rfl (by omega)) (by first | assumption | ((try simp (disch := omega) only [zu_same, zu_ne, zcp_ne, zfl_ne]); first | assumption | rfl)) ?_
    refine z_Vi2 d_FenR_readTin_100 k_FenR_118 (by first | assumption | exact zS0_at (by assumption) (by omega) | exact zS0_at rfl (by omega)) (t_Tok_takeKnown C5.1 F17s (by omega) (by decide)) ⟨Nat.le_of_ble_eq_true rfl, Nat.le_of_ble_eq_true rfl, Nat.le_of_ble_eq_true rfl, Nat.le_of_ble_eq_true rfl⟩ (Nat.le_of_ble_eq_true rfl) ?_
    rw [← hB5]
    intro r w hq
    rcases hx6 : p_known (B 10) np t2 with e | p <;> rw [hx6] at hq hpp <;> dsimp only [pb] at hpp
    · obtain ⟨rfl, hq⟩ := hq
      obtain ⟨I9, J9, rfl, hq2⟩ := frE_t fr5 gr5 (frE_tk hq)
      first | refine z_istore_5 d_FenR_readTin_103 rfl ?_ | (refine z_forget_4 ?_; refine z_istore_5 d_FenR_readTin_103 rfl ?_)
      refine z_iload_5 d_FenR_readTin_105 ?_
      refine z_if_ge (tgt := 112) d_FenR_readTin_107 (by decide) (fun h => absurd h (by decide)) (fun _ => ?_)
      refine z_iconst (a := nI 0) d_FenR_readTin_110 (by decide) ?_
      refine z_retz d_FenR_readTin_111 (by first | exact zb0 | exact zb1 | assumption) ?_
      exact (by rw [← hpp]; exact ⟨rfl, I9, J9, rfl, hq2⟩)
    obtain ⟨p, hp, rfl, -⟩ := p_known_c hx6
    obtain ⟨rfl, hq⟩ := hq
    obtain ⟨I6, J6, rfl, fr6, gr6, C6⟩ := frN_t fr5 gr5 (frN_tk C5 hq)
    obtain ⟨-, -, -, -, -, d6, -⟩ := frC_n C6
    first | refine z_istore_5 d_FenR_readTin_103 rfl ?_ | (refine z_forget_4 ?_; refine z_istore_5 d_FenR_readTin_103 rfl ?_)
    refine z_iload_5 d_FenR_readTin_105 ?_
    refine z_if_ge (tgt := 112) d_FenR_readTin_107 (by decide) (fun _ => ?_) (fun h => absurd (Int32.not_lt.mp (nI_pos (by omega))) h)
    refine z_aload_0 d_FenR_readTin_112 ?_
    refine z_getR d_FenR_readTin_113 f_FenR_9 (by first | assumption | exact zS0_at (by assumption) (by omega) | exact zS0_at rfl (by omega)) (by first | assumption | exact zS0_at (by assumption) (by omega) | exact zS0_at rfl (by omega)) ?_
    refine z_getIv d_FenR_readTin_116 f_FenR_38 (by first | assumption | exact zS0_at (by assumption) (by omega) | exact zS0_at rfl (by omega)) (by first | assumption | ((try simp (disch := omega) only [zu_same, zu_ne, zcp_ne, zfl_ne]); first | assumption | rfl)) ?_
    refine z_bipush (a := nI 9) d_FenR_readTin_119 (by decide) ?_
    refine z_icmp_ne (tgt := 128) d_FenR_readTin_121 (by decide) (fun hl => ?_) (fun hl => ?_)
    · rw [if_neg hl, decide_eq_false hl] at hpp
      refine z_iconst (a := nI 0) d_FenR_readTin_128 (by decide) ?_
      first | refine z_istore_6 d_FenR_readTin_129 rfl ?_ | (refine z_forget_5 ?_; refine z_istore_6 d_FenR_readTin_129 rfl ?_)
      refine z_iload_6 d_FenR_readTin_131 ?_
      refine z_if_eq (tgt := 143) d_FenR_readTin_133 (by decide) (fun _ => ?_) (fun h => absurd (by decide) h)
      refine z_aload_0 d_FenR_readTin_143 ?_
      refine z_getR d_FenR_readTin_144 f_FenR_9 (by first | assumption | exact zS0_at (by assumption) (by omega) | exact zS0_at rfl (by omega)) (by first | assumption | exact zS0_at (by assumption) (by omega) | exact zS0_at rfl (by omega)) ?_
      refine z_Vi0 d_FenR_readTin_147 k_FenR_74 (by first | assumption | exact zS0_at (by assumption) (by omega) | exact zS0_at rfl (by omega)) (t_Tok_takeSemicolon C6.1) ⟨Nat.le_of_ble_eq_true rfl, Nat.le_of_ble_eq_true rfl, Nat.le_of_ble_eq_true rfl, Nat.le_of_ble_eq_true rfl⟩ (Nat.le_of_ble_eq_true rfl) ?_
      intro r w hq
      rcases hx4 : p_semi (tA T L K) (tA T L K t2) with e | t' <;> rw [hx4] at hq hpp <;> dsimp only [pb] at hpp
      · obtain ⟨rfl, hq⟩ := hq
        obtain ⟨I9, J9, rfl, hq2⟩ := frE_t fr6 gr6 (frE_tk hq)
        refine z_if_ne (tgt := 155) d_FenR_readTin_150 (by decide) (fun h => absurd (by decide) h) (fun _ => ?_)
        refine z_iconst (a := nI 0) d_FenR_readTin_153 (by decide) ?_
        refine z_retz d_FenR_readTin_154 (by first | exact zb0 | exact zb1 | assumption) ?_
        exact (by rw [← hpp]; exact ⟨rfl, I9, J9, rfl, hq2⟩)
      obtain ⟨rfl, hq⟩ := hq
      obtain ⟨I7, J7, rfl, fr7, gr7, C7⟩ := frN_t fr6 gr6 (frN_tk C6 hq)
      obtain ⟨-, -, -, ⟨g4, -⟩, -, -, -, -, -, gA, gB⟩ := frC_n C7
      obtain ⟨a1, a2, a3, a4⟩ := frC_A C7
      refine z_if_ne (tgt := 155) d_FenR_readTin_150 (by decide) (fun _ => ?_) (fun h => absurd h (by decide))
      refine z_aload_1 d_FenR_readTin_155 ?_
      refine z_lload_2 d_FenR_readTin_156 ?_
      refine z_iload_4 d_FenR_readTin_157 ?_
      refine z_iload_5 d_FenR_readTin_159 ?_
      refine z_iload_6 d_FenR_readTin_161 ?_
      refine z_Vv4 d_FenR_readTin_163 k_FenR_128 (by first | assumption | exact zS0_at (by assumption) (by omega) | exact zS0_at rfl (by omega)) (t_Fen_addTin0 F g4 hb) ⟨Nat.le_of_ble_eq_true rfl, Nat.le_of_ble_eq_true rfl, Nat.le_of_ble_eq_true rfl, Nat.le_of_ble_eq_true rfl⟩ (Nat.le_of_ble_eq_true rfl) ?_
      intro w hq
      obtain rfl := hq
      refine z_iconst (a := nI 1) d_FenR_readTin_166 (by decide) ?_
      refine z_retz d_FenR_readTin_167 (by first | exact zb0 | exact zb1 | assumption) ?_
      exact (by rw [← hpp]; exact ⟨rfl, _, _, rfl, frF_u (addTin_fr fr7) (by omega), frF_u gr7 (by omega), frC_up (A' := zu (s_addTin A 0 nn (nI k) (nI p)) 0 4 (nI (nn + 1))) C7 (fun a ha => by rw [zu_row _ _ _ _ (by omega), addTin_row ha]) (fun a ha => by rw [zu_row _ _ _ _ (by omega)]) (by rw [sf_zu0, sf_addTin, gA]) (by rw [sf_zu, gB]) (by rw [zu_ne _ _ _ _ (by omega), addTin_0]; exact a1) (by rw [zu_ne _ _ _ _ (by omega), addTin_0]; exact a2) (by rw [zu_ne _ _ _ _ (by omega), addTin_0]; exact a3) ⟨zu_same _ _ _ _, show nn + 1 ≤ 9 by omega⟩⟩)
    · rw [if_pos hl, decide_eq_true hl] at hpp
      refine z_iconst (a := nI 1) d_FenR_readTin_124 (by decide) ?_
      refine z_goto (tgt := 129) d_FenR_readTin_125 (by decide) ?_
      first | refine z_istore_6 d_FenR_readTin_129 rfl ?_ | (refine z_forget_5 ?_; refine z_istore_6 d_FenR_readTin_129 rfl ?_)
      refine z_iload_6 d_FenR_readTin_131 ?_
      refine z_if_eq (tgt := 143) d_FenR_readTin_133 (by decide) (fun h => absurd h (by decide)) (fun _ => ?_)
      refine z_aload_0 d_FenR_readTin_136 ?_
      refine z_getR d_FenR_readTin_137 f_FenR_9 (by first | assumption | exact zS0_at (by assumption) (by omega) | exact zS0_at rfl (by omega)) (by first | assumption | exact zS0_at (by assumption) (by omega) | exact zS0_at rfl (by omega)) ?_
      refine z_Vv0 d_FenR_readTin_140 k_FenR_64 (by first | assumption | exact zS0_at (by assumption) (by omega) | exact zS0_at rfl (by omega)) (t_adv C6.1) ⟨Nat.le_of_ble_eq_true rfl, Nat.le_of_ble_eq_true rfl, Nat.le_of_ble_eq_true rfl, Nat.le_of_ble_eq_true rfl⟩ (Nat.le_of_ble_eq_true rfl) ?_
      intro w hq
      obtain ⟨I8, J8, rfl, fr8, gr8, C8⟩ := frN_t fr6 gr6 (frN_tk C6 hq)
      refine z_aload_0 d_FenR_readTin_143 ?_
      refine z_getR d_FenR_readTin_144 f_FenR_9 (by first | assumption | exact zS0_at (by assumption) (by omega) | exact zS0_at rfl (by omega)) (by first | assumption | exact zS0_at (by assumption) (by omega) | exact zS0_at rfl (by omega)) ?_
      refine z_Vi0 d_FenR_readTin_147 k_FenR_74 (by first | assumption | exact zS0_at (by assumption) (by omega) | exact zS0_at rfl (by omega)) (t_Tok_takeSemicolon C8.1) ⟨Nat.le_of_ble_eq_true rfl, Nat.le_of_ble_eq_true rfl, Nat.le_of_ble_eq_true rfl, Nat.le_of_ble_eq_true rfl⟩ (Nat.le_of_ble_eq_true rfl) ?_
      intro r w hq
      rcases hx4 : p_semi (tA T L K) (tA T L K (tA T L K t2)) with e | t' <;> rw [hx4] at hq hpp <;> dsimp only [pb] at hpp
      · obtain ⟨rfl, hq⟩ := hq
        obtain ⟨I9, J9, rfl, hq2⟩ := frE_t fr8 gr8 (frE_tk hq)
        refine z_if_ne (tgt := 155) d_FenR_readTin_150 (by decide) (fun h => absurd (by decide) h) (fun _ => ?_)
        refine z_iconst (a := nI 0) d_FenR_readTin_153 (by decide) ?_
        refine z_retz d_FenR_readTin_154 (by first | exact zb0 | exact zb1 | assumption) ?_
        exact (by rw [← hpp]; exact ⟨rfl, I9, J9, rfl, hq2⟩)
      obtain ⟨rfl, hq⟩ := hq
      obtain ⟨I7, J7, rfl, fr7, gr7, C7⟩ := frN_t fr8 gr8 (frN_tk C8 hq)
      obtain ⟨-, -, -, ⟨g4, -⟩, -, -, -, -, -, gA, gB⟩ := frC_n C7
      obtain ⟨a1, a2, a3, a4⟩ := frC_A C7
      refine z_if_ne (tgt := 155) d_FenR_readTin_150 (by decide) (fun _ => ?_) (fun h => absurd h (by decide))
      refine z_aload_1 d_FenR_readTin_155 ?_
      refine z_lload_2 d_FenR_readTin_156 ?_
      refine z_iload_4 d_FenR_readTin_157 ?_
      refine z_iload_5 d_FenR_readTin_159 ?_
      refine z_iload_6 d_FenR_readTin_161 ?_
      refine z_Vv4 d_FenR_readTin_163 k_FenR_128 (by first | assumption | exact zS0_at (by assumption) (by omega) | exact zS0_at rfl (by omega)) (t_Fen_addTin1 F g4 hb) ⟨Nat.le_of_ble_eq_true rfl, Nat.le_of_ble_eq_true rfl, Nat.le_of_ble_eq_true rfl, Nat.le_of_ble_eq_true rfl⟩ (Nat.le_of_ble_eq_true rfl) ?_
      intro w hq
      obtain rfl := hq
      refine z_iconst (a := nI 1) d_FenR_readTin_166 (by decide) ?_
      refine z_retz d_FenR_readTin_167 (by first | exact zb0 | exact zb1 | assumption) ?_
      exact (by rw [← hpp]; exact ⟨rfl, _, _, rfl, frF_u (frF_u (addTin_fr fr7) (by omega)) (by omega), frF_u gr7 (by omega), frC_up (A' := zu (zu (s_addTin A 0 nn (nI k) (nI p)) 0 6 (A 0 6 ||| (nI 1 <<< (nI nn &&& 31)))) 0 4 (nI (nn + 1))) C7 (fun a ha => by rw [zu_row _ _ _ _ (by omega), zu_row _ _ _ _ (by omega), addTin_row ha]) (fun a ha => by rw [zu_row _ _ _ _ (by omega)]) (by rw [sf_zu0, sf_zu0, sf_addTin, gA, ← gA]; rfl) (by rw [sf_zu, gB]) (by rw [zu_ne _ _ _ _ (by omega), zu_ne _ _ _ _ (by omega), addTin_0]; exact a1) (by rw [zu_ne _ _ _ _ (by omega), zu_ne _ _ _ _ (by omega), addTin_0]; exact a2) (by rw [zu_ne _ _ _ _ (by omega), zu_ne _ _ _ _ (by omega), addTin_0]; exact a3) ⟨zu_same _ _ _ _, show nn + 1 ≤ 9 by omega⟩⟩)
  · have hb : ¬ nn < 9 := fun h => hb (nI_lt h (by omega))
    unfold p_tin
    dsimp only
    rw [if_neg hb]
    refine z_aload_0 d_FenR_readTin_9 ?_
    refine z_getR d_FenR_readTin_10 f_FenR_9 (by first | assumption | exact zS0_at (by assumption) (by omega) | exact zS0_at rfl (by omega)) (by first | assumption | exact zS0_at (by assumption) (by omega) | exact zS0_at rfl (by omega)) ?_
    refine z_bipush (a := nI 6) d_FenR_readTin_13 (by decide) ?_
    refine z_Vi1 d_FenR_readTin_15 k_FenR_60 (by first | assumption | exact zS0_at (by assumption) (by omega) | exact zS0_at rfl (by omega)) (t_Tok_faulty C.1) ⟨Nat.le_of_ble_eq_true rfl, Nat.le_of_ble_eq_true rfl, Nat.le_of_ble_eq_true rfl, Nat.le_of_ble_eq_true rfl⟩ (Nat.le_of_ble_eq_true rfl) ?_
    intro r w hq
    obtain ⟨rfl, hq⟩ := hq
    refine z_retz d_FenR_readTin_18 (by first | exact zb0 | exact zb1 | assumption) ?_
    exact ⟨rfl, frE_tk hq⟩
theorem t_FenR_readPart (C : frC T K L f I J P S ((nt, np, nl, nn, od), A, B) t) : zEi G y_FenR_readPart prog_3_method_3_code 2 (some .boolean) 6 [.ref 15, .ref f] (I, J, P, S) (fun r w => pQ (p_part (tA T L K) ((nt, np, nl, nn, od), A, B) t) (fun e => r = nI 0 ∧ frE f I J P S e w) (fun x => r = nI 1 ∧ frN T K L f I J P S x w)) := by
  obtain ⟨⟨k1, k1b⟩, ⟨k2, k2b⟩, ⟨k3, k3b⟩, ⟨k4, k4b⟩, k5, k6, k7, k8, k9, kA, kB⟩ := frC_n C
  have F := C.2.1
  obtain ⟨R0, R1, hf⟩ := C.2.2.1
  have X0 := C.1.1.1
  refine zEi_of (lv := [some (.ref 15), some (.ref f)]) (by decide) rfl (Nat.le_of_ble_eq_true rfl) ?_
  unfold p_part
  refine z_aload_0 d_FenR_readPart_0 ?_
  refine z_getR d_FenR_readPart_1 f_FenR_9 (by first | assumption | exact zS0_at (by assumption) (by omega) | exact zS0_at rfl (by omega)) (by first | assumption | exact zS0_at (by assumption) (by omega) | exact zS0_at rfl (by omega)) ?_
  refine z_getIv d_FenR_readPart_4 f_FenR_38 (by first | assumption | exact zS0_at (by assumption) (by omega) | exact zS0_at rfl (by omega)) (by first | assumption | ((try simp (disch := omega) only [zu_same, zu_ne, zcp_ne, zfl_ne]); first | assumption | rfl)) ?_
  have mis : ¬ tkw t = nI 0 → ¬ tkw t = nI 1 → ¬ tkw t = nI 3 → ¬ tkw t = nI 5 → ¬ tkw t = nI 6 → zA G y_FenR_readPart prog_3_method_3_code 2 (some .boolean) (zRm 6 0 0) (zM G 0 0 (fun r w' => ∃ x, r = some (.int x) ∧ (fun r w => pQ (p_part (tA T L K) ((nt, np, nl, nn, od), A, B) t) (fun e => r = nI 0 ∧ frE f I J P S e w) (fun x => r = nI 1 ∧ frN T K L f I J P S x w)) x w')) 78 [some (.ref 15), some (.ref f)] [] (I, J, P, S) 0 0 := by
    intro h0 h1 h3 h5 h6
    unfold p_part
    rw [if_neg h0, if_neg h1, if_neg h3, if_neg h5, if_neg h6]
    refine z_aload_0 d_FenR_readPart_78 ?_
    refine z_getR d_FenR_readPart_79 f_FenR_9 (by first | assumption | exact zS0_at (by assumption) (by omega) | exact zS0_at rfl (by omega)) (by first | assumption | exact zS0_at (by assumption) (by omega) | exact zS0_at rfl (by omega)) ?_
    refine z_Vi0 d_FenR_readPart_82 k_FenR_56 (by first | assumption | exact zS0_at (by assumption) (by omega) | exact zS0_at rfl (by omega)) (t_Tok_misplaced C.1) ⟨Nat.le_of_ble_eq_true rfl, Nat.le_of_ble_eq_true rfl, Nat.le_of_ble_eq_true rfl, Nat.le_of_ble_eq_true rfl⟩ (Nat.le_of_ble_eq_true rfl) ?_
    intro r w hq
    obtain ⟨rfl, hq⟩ := hq
    refine z_retz d_FenR_readPart_85 (by first | exact zb0 | exact zb1 | assumption) ?_
    exact ⟨rfl, frE_tk hq⟩
  have hw : tkw t = nI 0 ∨ tkw t = nI 1 ∨ tkw t = nI 3 ∨ tkw t = nI 5 ∨ tkw t = nI 6 ∨ ((tkw t = nI 2 ∨ tkw t = nI 4) ∧ ¬ tkw t = nI 0 ∧ ¬ tkw t = nI 1 ∧ ¬ tkw t = nI 3 ∧ ¬ tkw t = nI 5 ∧ ¬ tkw t = nI 6) ∨ ((tkw t < 0 ∨ nI 6 < tkw t) ∧ ¬ tkw t = nI 0 ∧ ¬ tkw t = nI 1 ∧ ¬ tkw t = nI 3 ∧ ¬ tkw t = nI 5 ∧ ¬ tkw t = nI 6) := by
    rcases tkC_kw C.1 with h | ⟨k, hk, h⟩
    · rw [h]; decide
    · rw [h]
      exact (by decide +kernel : ∀ k, k < 21 → (nI k = nI 0 ∨ nI k = nI 1 ∨ nI k = nI 3 ∨ nI k = nI 5 ∨ nI k = nI 6 ∨ ((nI k = nI 2 ∨ nI k = nI 4) ∧ ¬ nI k = nI 0 ∧ ¬ nI k = nI 1 ∧ ¬ nI k = nI 3 ∧ ¬ nI k = nI 5 ∧ ¬ nI k = nI 6) ∨ ((nI k < 0 ∨ nI 6 < nI k) ∧ ¬ nI k = nI 0 ∧ ¬ nI k = nI 1 ∧ ¬ nI k = nI 3 ∧ ¬ nI k = nI 5 ∧ ¬ nI k = nI 6))) k hk
  rcases hw with h | h | h | h | h | ⟨h, g0, g1, g3, g5, g6⟩ | ⟨h, g0, g1, g3, g5, g6⟩
  · rw [if_pos h, h]
    refine z_tableIn (off := 41) (tgt := 48) d_FenR_readPart_7 (by decide) (by decide) (by decide) (by decide) ?_
    refine z_aload_0 d_FenR_readPart_48 ?_
    refine z_aload_1 d_FenR_readPart_49 ?_
    refine z_Vi1 d_FenR_readPart_50 k_FenR_41 (by first | assumption | exact zS0_at (by assumption) (by omega) | exact zS0_at rfl (by omega)) (t_FenR_readOdds C) ⟨Nat.le_of_ble_eq_true rfl, Nat.le_of_ble_eq_true rfl, Nat.le_of_ble_eq_true rfl, Nat.le_of_ble_eq_true rfl⟩ (Nat.le_of_ble_eq_true rfl) ?_
    intro r w hq
    skip
    rcases hx : p_odds (tA T L K) ((nt, np, nl, nn, od), A, B) t with e | v <;> rw [hx] at hq <;> obtain ⟨rfl, I', J', rfl, hq⟩ := hq
    · refine z_retz d_FenR_readPart_53 (by first | exact zb0 | exact zb1 | assumption) ?_
      exact ⟨rfl, I', J', rfl, hq⟩
    · refine z_retz d_FenR_readPart_53 (by first | exact zb0 | exact zb1 | assumption) ?_
      exact ⟨rfl, I', J', rfl, hq⟩
  · rw [if_neg (by rw [h]; decide), if_pos h, h]
    refine z_tableIn (off := 47) (tgt := 54) d_FenR_readPart_7 (by decide) (by decide) (by decide) (by decide) ?_
    refine z_aload_0 d_FenR_readPart_54 ?_
    refine z_aload_1 d_FenR_readPart_55 ?_
    refine z_Vi1 d_FenR_readPart_56 k_FenR_44 (by first | assumption | exact zS0_at (by assumption) (by omega) | exact zS0_at rfl (by omega)) (t_FenR_readTrait C) ⟨Nat.le_of_ble_eq_true rfl, Nat.le_of_ble_eq_true rfl, Nat.le_of_ble_eq_true rfl, Nat.le_of_ble_eq_true rfl⟩ (Nat.le_of_ble_eq_true rfl) ?_
    intro r w hq
    skip
    rcases hx : p_trait (tA T L K) ((nt, np, nl, nn, od), A, B) t with e | v <;> rw [hx] at hq <;> obtain ⟨rfl, I', J', rfl, hq⟩ := hq
    · refine z_retz d_FenR_readPart_59 (by first | exact zb0 | exact zb1 | assumption) ?_
      exact ⟨rfl, I', J', rfl, hq⟩
    · refine z_retz d_FenR_readPart_59 (by first | exact zb0 | exact zb1 | assumption) ?_
      exact ⟨rfl, I', J', rfl, hq⟩
  · rw [if_neg (by rw [h]; decide), if_neg (by rw [h]; decide), if_pos h, h]
    refine z_tableIn (off := 53) (tgt := 60) d_FenR_readPart_7 (by decide) (by decide) (by decide) (by decide) ?_
    refine z_aload_0 d_FenR_readPart_60 ?_
    refine z_aload_1 d_FenR_readPart_61 ?_
    refine z_Vi1 d_FenR_readPart_62 k_FenR_47 (by first | assumption | exact zS0_at (by assumption) (by omega) | exact zS0_at rfl (by omega)) (t_FenR_readPerson C) ⟨Nat.le_of_ble_eq_true rfl, Nat.le_of_ble_eq_true rfl, Nat.le_of_ble_eq_true rfl, Nat.le_of_ble_eq_true rfl⟩ (Nat.le_of_ble_eq_true rfl) ?_
    intro r w hq
    skip
    rcases hx : p_person (tA T L K) ((nt, np, nl, nn, od), A, B) t with e | v <;> rw [hx] at hq <;> obtain ⟨rfl, I', J', rfl, hq⟩ := hq
    · refine z_retz d_FenR_readPart_65 (by first | exact zb0 | exact zb1 | assumption) ?_
      exact ⟨rfl, I', J', rfl, hq⟩
    · refine z_retz d_FenR_readPart_65 (by first | exact zb0 | exact zb1 | assumption) ?_
      exact ⟨rfl, I', J', rfl, hq⟩
  · rw [if_neg (by rw [h]; decide), if_neg (by rw [h]; decide), if_neg (by rw [h]; decide), if_pos h, h]
    refine z_tableIn (off := 59) (tgt := 66) d_FenR_readPart_7 (by decide) (by decide) (by decide) (by decide) ?_
    refine z_aload_0 d_FenR_readPart_66 ?_
    refine z_aload_1 d_FenR_readPart_67 ?_
    refine z_Vi1 d_FenR_readPart_68 k_FenR_50 (by first | assumption | exact zS0_at (by assumption) (by omega) | exact zS0_at rfl (by omega)) (t_FenR_readLane C) ⟨Nat.le_of_ble_eq_true rfl, Nat.le_of_ble_eq_true rfl, Nat.le_of_ble_eq_true rfl, Nat.le_of_ble_eq_true rfl⟩ (Nat.le_of_ble_eq_true rfl) ?_
    intro r w hq
    skip
    rcases hx : p_lane (tA T L K) ((nt, np, nl, nn, od), A, B) t with e | v <;> rw [hx] at hq <;> obtain ⟨rfl, I', J', rfl, hq⟩ := hq
    · refine z_retz d_FenR_readPart_71 (by first | exact zb0 | exact zb1 | assumption) ?_
      exact ⟨rfl, I', J', rfl, hq⟩
    · refine z_retz d_FenR_readPart_71 (by first | exact zb0 | exact zb1 | assumption) ?_
      exact ⟨rfl, I', J', rfl, hq⟩
  · rw [if_neg (by rw [h]; decide), if_neg (by rw [h]; decide), if_neg (by rw [h]; decide), if_neg (by rw [h]; decide), if_pos h, h]
    refine z_tableIn (off := 65) (tgt := 72) d_FenR_readPart_7 (by decide) (by decide) (by decide) (by decide) ?_
    refine z_aload_0 d_FenR_readPart_72 ?_
    refine z_aload_1 d_FenR_readPart_73 ?_
    refine z_Vi1 d_FenR_readPart_74 k_FenR_53 (by first | assumption | exact zS0_at (by assumption) (by omega) | exact zS0_at rfl (by omega)) (t_FenR_readTin C) ⟨Nat.le_of_ble_eq_true rfl, Nat.le_of_ble_eq_true rfl, Nat.le_of_ble_eq_true rfl, Nat.le_of_ble_eq_true rfl⟩ (Nat.le_of_ble_eq_true rfl) ?_
    intro r w hq
    skip
    rcases hx : p_tin (tA T L K) ((nt, np, nl, nn, od), A, B) t with e | v <;> rw [hx] at hq <;> obtain ⟨rfl, I', J', rfl, hq⟩ := hq
    · refine z_retz d_FenR_readPart_77 (by first | exact zb0 | exact zb1 | assumption) ?_
      exact ⟨rfl, I', J', rfl, hq⟩
    · refine z_retz d_FenR_readPart_77 (by first | exact zb0 | exact zb1 | assumption) ?_
      exact ⟨rfl, I', J', rfl, hq⟩
  · have q0 := mis g0 g1 g3 g5 g6
    unfold p_part at q0
    rcases h with h | h
    · rw [h] at q0 ⊢
      refine z_tableIn (off := 71) (tgt := 78) d_FenR_readPart_7 (by decide) (by decide) (by decide) (by decide) ?_
      exact q0
    · rw [h] at q0 ⊢
      refine z_tableIn (off := 71) (tgt := 78) d_FenR_readPart_7 (by decide) (by decide) (by decide) (by decide) ?_
      exact q0
  · have q0 := mis g0 g1 g3 g5 g6
    unfold p_part at q0
    refine z_tableOut (tgt := 78) d_FenR_readPart_7 (by rcases h with h | h; exact Or.inl (Int32.lt_iff_toInt_lt.mp h); exact Or.inr (by have := Int32.lt_iff_toInt_lt.mp h; rw [nI_toInt (by decide)] at this; exact this)) (by decide) ?_
    exact q0
theorem clear_fr (h : frF f I I1) : frF f I (s_clear I1 f) := by
  unfold s_clear
  exact frF_u (frF_u (frF_u (frF_u (frF_u (frF_u (frF_u (frF_u (frF_u (frF_u (frF_u h (by omega)) (by omega)) (by omega)) (by omega)) (by omega)) (by omega)) (by omega)) (by omega)) (by omega)) (by omega)) (by omega)
theorem clear_row {a : Nat} (h : a < f) : s_clear I f a = I a := by
  unfold s_clear
  rw [zu_row _ _ _ _ (by omega), zu_row _ _ _ _ (by omega), zu_row _ _ _ _ (by omega), zu_row _ _ _ _ (by omega), zu_row _ _ _ _ (by omega), zu_row _ _ _ _ (by omega), zu_row _ _ _ _ (by omega), zu_row _ _ _ _ (by omega), zu_row _ _ _ _ (by omega), zu_row _ _ _ _ (by omega), zu_row _ _ _ _ (by omega)]
theorem sf_clear : sf f (s_clear I f) = s_clear (sf f I) 0 := by
  unfold s_clear
  rw [sf_zu, sf_zu, sf_zu, sf_zu0, sf_zu0, sf_zu0, sf_zu0, sf_zu0, sf_zu0, sf_zu0, sf_zu0]
def p_fen (T : Nat → Int32) (L : Nat) (K : Nat → Int64) (A : Nat → Nat → Int32) (B : Nat → Nat → Int64) : pR pS := p_parts (tA T L K) 900 ((0, 0, 0, 0, 0), s_clear A 0, B) (s_tok T L K 0)
/-- what the class's reading of a FEN ends with: a fault, or the rows -/
def frZ (L f : Nat) (I : Nat → Nat → Int32) (J : Nat → Nat → Int64) (P : Nat → Nat → Option Nat) (S : List (Nat × Nat)) (s : pS) (w : zW) : Prop := ∃ I' J', w = (I', J', P, S) ∧ frF f I I' ∧ frF f J J' ∧ I' 11 10 = nI 0 ∧ I' 11 11 = -1 ∧ sf f I' = s.2.1 ∧ sf f J' = s.2.2 ∧ (I' f 1 = nI s.1.1 ∧ s.1.1 ≤ 6) ∧ (I' f 2 = nI s.1.2.1 ∧ s.1.2.1 ≤ 7) ∧ (I' f 3 = nI s.1.2.2.1 ∧ s.1.2.2.1 ≤ 12) ∧ (I' f 4 = nI s.1.2.2.2.1 ∧ s.1.2.2.2.1 ≤ 9)
theorem fenOk_P {P' : Nat → Nat → Option Nat} (F : fenOk P S f) (hP : ∀ a, f ≤ a → P' a = P a) : fenOk P' S f := by
  have e1 : P' f = P f := hP f (Nat.le_refl _)
  have e2 : P' (f + 12) = P (f + 12) := hP _ (by omega)
  unfold fenOk
  rw [e1, e2]
  exact F
theorem t_FenR_readInto {n : Nat} (F : fenOk P S f) (hR : S[15]? = some (1, 2) ∧ P 15 0 = some 11 ∧ 17 < f) (X0 : S[11]? = some (7, 12)) (X3 : P 11 3 = some 13) (X4 : S[13]? = some (101, 21)) (X1 : S[1]? = some (102, 900)) (hn : n ≤ 900) : zEi G y_FenR_readInto prog_3_method_2_code 5 (some .boolean) 7 [.ref 15, .ref f, .ref 1, .int (nI n)] (I, J, P, S) (fun r w => pQ (p_fen (I 1) n (J 13) (sf f I) (sf f J)) (fun e => r = nI 0 ∧ frE f I J (zu P 11 0 (some 1)) S e w) (fun s => r = nI 1 ∧ frZ n f I J (zu P 11 0 (some 1)) S s w)) := by
  obtain ⟨R0, R1, hf⟩ := id hR
  have F0 := F.1
  refine zEi_of (lv := [some (.ref 15), some (.ref f), some (.ref 1), some (.int (nI n)), none]) (by decide) rfl (Nat.le_of_ble_eq_true rfl) ?_
  refine z_aload_1 d_FenR_readInto_0 ?_
  refine z_Vv0 d_FenR_readInto_1 k_FenR_15 (by first | assumption | exact zS0_at (by assumption) (by omega) | exact zS0_at rfl (by omega)) (t_Fen_clear F) ⟨Nat.le_of_ble_eq_true rfl, Nat.le_of_ble_eq_true rfl, Nat.le_of_ble_eq_true rfl, Nat.le_of_ble_eq_true rfl⟩ (Nat.le_of_ble_eq_true rfl) ?_
  intro w hq
  obtain rfl := hq
  refine z_aload_0 d_FenR_readInto_4 ?_
  refine z_iconst (a := nI 0) d_FenR_readInto_5 (by decide) ?_
  refine z_putZ d_FenR_readInto_6 f_FenR_20 (by first | assumption | exact zS0_at (by assumption) (by omega) | exact zS0_at rfl (by omega)) (by first | exact zb0 | exact zb1 | assumption) ?_
  refine z_aload_0 d_FenR_readInto_9 ?_
  refine z_getR d_FenR_readInto_10 f_FenR_9 (by first | assumption | exact zS0_at (by assumption) (by omega) | exact zS0_at rfl (by omega)) (by first | assumption | exact zS0_at (by assumption) (by omega) | exact zS0_at rfl (by omega)) ?_
  refine z_aload_2 d_FenR_readInto_13 ?_
  refine z_iload_3 d_FenR_readInto_14 ?_
  refine z_Vv2 d_FenR_readInto_15 k_FenR_24 (by first | assumption | exact zS0_at (by assumption) (by omega) | exact zS0_at rfl (by omega)) (t_Tok_open (q := 1) (l := 900) X0 X3 X4 X1 (by decide) hn (by decide)) ⟨Nat.le_of_ble_eq_true rfl, Nat.le_of_ble_eq_true rfl, Nat.le_of_ble_eq_true rfl, Nat.le_of_ble_eq_true rfl⟩ (Nat.le_of_ble_eq_true rfl) ?_
  intro w hq
  obtain ⟨I1, J1, rfl, h1, h2, h3, h4, h5⟩ := hq
  have F' : fenOk (zu P 11 0 (some 1)) S f := fenOk_P F (fun a ha => zu_row _ _ _ _ (by omega))
  have R1' : zu P 11 0 (some 1) 15 0 = some 11 := by rw [zu_ne _ _ _ _ (by omega)]; exact R1
  have e1 : zu (s_clear I f) 15 1 (nI 0) 1 = I 1 := by rw [zu_row _ _ _ _ (by decide), clear_row (by omega)]
  rw [e1] at h5
  have fr1 : frF f I I1 := by
    intro a g1 g2 g3
    rw [h1 a g1, zu_row _ _ _ _ g2]
    exact clear_fr frF_r a g1 g2 g3
  have sA : sf f I1 = s_clear (sf f I) 0 := by
    rw [← sf_clear]
    funext i
    show I1 (f + i) = s_clear I f (f + i)
    rw [h1 _ (by omega), zu_row _ _ _ _ (by omega)]
  have cf : ∀ k, I1 f k = s_clear (sf f I) 0 0 k := fun k => congrFun (congrFun sA 0) k
  have C1 : frC (I 1) (J 13) n f I1 J1 (zu P 11 0 (some 1)) S ((0, 0, 0, 0, 0), s_clear (sf f I) 0, sf f J) (s_tok (I 1) n (J 13) 0) := by
    refine ⟨h5, F', ⟨R0, R1', hf⟩, ⟨sA, ?_⟩, ⟨(cf 1).trans ?_, Nat.zero_le _⟩, ⟨(cf 2).trans ?_, Nat.zero_le _⟩, ⟨(cf 3).trans ?_, Nat.zero_le _⟩, ⟨(cf 4).trans ?_, Nat.zero_le _⟩, ⟨?_, Nat.zero_le _⟩, h2, h3⟩
    · funext i; exact h4 _ (by omega)
    · simp [s_clear, zu]
    · simp [s_clear, zu]
    · simp [s_clear, zu]
    · simp [s_clear, zu]
    · rw [h1 15 (by decide)]; exact zu_same _ _ _ _
  have loop : ∀ m j, 900 - j < m → j ≤ 900 → ∀ s : pS, ∀ t : tk, ∀ I2 : Nat → Nat → Int32, ∀ J2 : Nat → Nat → Int64, (frF f I I2) → (frF f J J2) → (frC (I 1) (J 13) n f I2 J2 (zu P 11 0 (some 1)) S s t) → (p_parts (tA (I 1) n (J 13)) (900 - j) s t = p_fen (I 1) n (J 13) (sf f I) (sf f J)) → zA G y_FenR_readInto prog_3_method_2_code 5 (some .boolean) (zRm 7 0 0) (zM G 0 0 (fun r w' => ∃ x, r = some (.int x) ∧ (fun r w => pQ (p_fen (I 1) n (J 13) (sf f I) (sf f J)) (fun e => r = nI 0 ∧ frE f I J (zu P 11 0 (some 1)) S e w) (fun s => r = nI 1 ∧ frZ n f I J (zu P 11 0 (some 1)) S s w)) x w')) 21 [some (.ref 15), some (.ref f), some (.ref 1), some (.int (nI n)), some (.int (nI j))] [] (I2, J2, zu P 11 0 (some 1), S) 0 0 := by
    intro m
    induction m with
    | zero => intro j h; omega
    | succ m ih =>
      intro j hm hj s t I2 J2 fr2 gr2 C2 hI
      obtain ⟨⟨nt, np, nl, nn, od⟩, A, B⟩ := s
      obtain ⟨d1, d2, d3, d4, d5, d6, d7, d8, d9, dA, dB⟩ := frC_n C2
      have hz : p_parts (tA (I 1) n (J 13)) 0 ((nt, np, nl, nn, od), A, B) t = p_fen (I 1) n (J 13) (sf f I) (sf f J) → zA G y_FenR_readInto prog_3_method_2_code 5 (some .boolean) (zRm 7 0 0) (zM G 0 0 (fun r w' => ∃ x, r = some (.int x) ∧ (fun r w => pQ (p_fen (I 1) n (J 13) (sf f I) (sf f J)) (fun e => r = nI 0 ∧ frE f I J (zu P 11 0 (some 1)) S e w) (fun s => r = nI 1 ∧ frZ n f I J (zu P 11 0 (some 1)) S s w)) x w')) 55 [some (.ref 15), some (.ref f), some (.ref 1), some (.int (nI n)), some (.int (nI j))] [] (I2, J2, zu P 11 0 (some 1), S) 0 0 := by
        intro hz
        rw [← hz]
        refine z_iconst (a := nI 1) d_FenR_readInto_55 (by decide) ?_
        refine z_retz d_FenR_readInto_56 (by first | exact zb0 | exact zb1 | assumption) ?_
        exact ⟨rfl, I2, J2, rfl, fr2, gr2, C2.2.2.2.2.2.2.2.2.2.1, C2.2.2.2.2.2.2.2.2.2.2, dA, dB, d1, d2, d3, d4⟩
      refine z_iload_4 d_FenR_readInto_21 ?_
      refine z_sipush (a := nI 900) d_FenR_readInto_23 (by decide) ?_
      refine z_icmp_ge (tgt := 55) d_FenR_readInto_26 (by decide) (fun hb => ?_) (fun hb => ?_)
      · have hb := (nI_leI (by omega) (by omega)).mp hb
        obtain rfl : j = 900 := by omega
        exact hz hI
      · have hb : j < 900 := Nat.lt_of_not_le (fun q => hb (nI_le q (by omega)))
        refine z_aload_0 d_FenR_readInto_29 ?_
        refine z_getR d_FenR_readInto_30 f_FenR_9 (by first | assumption | exact zS0_at (by assumption) (by omega) | exact zS0_at rfl (by omega)) (by first | assumption | exact zS0_at (by assumption) (by omega) | exact zS0_at rfl (by omega)) ?_
        refine z_getIv d_FenR_readInto_33 f_FenR_30 (by first | assumption | exact zS0_at (by assumption) (by omega) | exact zS0_at rfl (by omega)) (by first | assumption | ((try simp (disch := omega) only [zu_same, zu_ne, zcp_ne, zfl_ne]); first | assumption | rfl)) ?_
        rw [show 900 - j = (900 - (j + 1)) + 1 by omega, p_parts] at hI
        refine z_if_eq (tgt := 55) d_FenR_readInto_36 (by decide) (fun hc => ?_) (fun hc => ?_)
        · have hc : tkd t = 0 := (nI_eq (by omega) (by omega)).mp (by rw [nI_0]; exact hc)
          rw [if_pos hc] at hI
          exact hz hI
        · have hc : ¬ tkd t = 0 := fun h => hc (by rw [h, nI_0])
          rw [if_neg hc] at hI
          refine z_aload_0 d_FenR_readInto_39 ?_
          refine z_aload_1 d_FenR_readInto_40 ?_
          refine z_Vi1 d_FenR_readInto_41 k_FenR_34 (by first | assumption | exact zS0_at (by assumption) (by omega) | exact zS0_at rfl (by omega)) (t_FenR_readPart C2) ⟨Nat.le_of_ble_eq_true rfl, Nat.le_of_ble_eq_true rfl, Nat.le_of_ble_eq_true rfl, Nat.le_of_ble_eq_true rfl⟩ (Nat.le_of_ble_eq_true rfl) ?_
          intro r w hq
          rcases hx : p_part (tA (I 1) n (J 13)) ((nt, np, nl, nn, od), A, B) t with e | v <;> rw [hx] at hq hI <;> dsimp only [pb] at hI
          · obtain ⟨rfl, hq⟩ := hq
            obtain ⟨I9, J9, rfl, hq2⟩ := frE_t fr2 gr2 hq
            rw [← hI]
            refine z_if_ne (tgt := 49) d_FenR_readInto_44 (by decide) (fun h => absurd (by decide) h) (fun _ => ?_)
            refine z_iconst (a := nI 0) d_FenR_readInto_47 (by decide) ?_
            refine z_retz d_FenR_readInto_48 (by first | exact zb0 | exact zb1 | assumption) ?_
            exact ⟨rfl, I9, J9, rfl, hq2⟩
          · obtain ⟨rfl, hq⟩ := hq
            obtain ⟨I3, J3, rfl, fr3, gr3, C3⟩ := frN_t fr2 gr2 hq
            refine z_if_ne (tgt := 49) d_FenR_readInto_44 (by decide) (fun _ => ?_) (fun h => absurd h (by decide))
            first | refine z_iinc_4 d_FenR_readInto_49 rfl (zi_inc _) ?_ | refine z_iinc_4 d_FenR_readInto_49 rfl rfl ?_
            refine z_goto (tgt := 21) d_FenR_readInto_52 (by decide) ?_
            exact ih (j + 1) (by omega) (by omega) v.1 v.2 I3 J3 fr3 gr3 C3 hI
  refine z_iconst (a := nI 0) d_FenR_readInto_18 (by decide) ?_
  first | refine z_istore_4 d_FenR_readInto_19 rfl ?_ | (refine z_forget_3 ?_; refine z_istore_4 d_FenR_readInto_19 rfl ?_)
  exact loop 901 0 (by omega) (by omega) _ _ I1 J1 fr1 (fun a g1 _ _ => h4 a g1) C1 rfl
end PF2
