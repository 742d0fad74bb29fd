/-! wheels: both sides, together -/
section WI0
variable {G : zG} {I I' I1 I2 I3 : Nat → Nat → Int32} {J J' J2 : Nat → Nat → Int64} {P : Nat → Nat → Option Nat} {S : List (Nat × Nat)} {f d nt np nl nn n fed mk t k p q s al r fr us m i u st : Nat} {a c x : Int32} {w : zW} {kk : Nat → Nat} {gv : Nat → Int32} {gg : Nat → Nat → Bool} {A A' B B' C C' : Nat → Int32}
theorem or_cc {b b' : Nat → Bool} {v v' : Nat → Int32} (h : ∀ i, i < n → b' i = b i) (hv : ∀ i, i < n → b i = true → v' i = v i) : s_or b' v' n = s_or b v n := by
  have : ∀ m, m ≤ n → s_or b' v' m = s_or b v m := by
    intro m
    induction m with
    | zero => intro _; rfl
    | succ m ih =>
      intro hm
      rw [s_or, s_or, ih (by omega), h m (by omega)]
      by_cases hb : b m = true
      · rw [if_pos hb, if_pos hb, hv m (by omega) hb]
      · rw [if_neg hb, if_neg hb]
  exact this n (Nat.le_refl _)
theorem nI_ne1 (hp : p < 7) : ¬ (-1 : Int32) = nI p := fun h => absurd (show nI p < 0 by rw [← h]; decide) (nI_pos (by omega))
theorem gGv_c (hA : ∀ p, p < np → A' p = A p) (hB : ∀ p, p < np → B' p = B p) (hC : ∀ t, t < nn → (C t = -1 ∨ ∃ p, p < np ∧ C t = nI p) ∧ C' t = C t) (hn : np ≤ 7) (hp : p < 7) : gGv A' B' C' kk np nn p = gGv A B C kk np nn p := by
  refine or_cc (fun t ht => ?_) (fun t ht h => ?_)
  · rw [(hC t ht).2]
  · have h := of_decide_eq_true h
    have hp2 : p < np := by
      rcases (hC t ht).1 with h1 | ⟨p', h3, h4⟩
      · exact absurd (h1.symm.trans h) (nI_ne1 hp)
      · have := (nI_eq (by omega) (by omega)).mp (h.symm.trans h4)
        omega
    show B' p &&& s_set (fun q => zB (A' q) (kk t)) np = B p &&& s_set (fun q => zB (A q) (kk t)) np
    rw [hB p hp2, s_set_congr np (fun q hq => by rw [hA q hq])]
theorem gGv_lt (hn : np ≤ 7) (hq : q < 32) (h : zB (gGv A B C kk np nn p) q = true) : q < np := by
  obtain ⟨t, -, -, h3⟩ := (s_or_bit hq nn).mp h
  exact set_lt hn q hq ((zbit_and hq).mp h3).2
theorem t_Rows_countWheels (Z : clOk f d P S) (N : fenIn I f nt np nl nn) (hK : ∀ t, t < nn → I (f + 5) t = nI (kk t)) (h1 : 1 ≤ n) (h7 : n ≤ 7) (hgv : gv = gGv (I (f + 2)) (I (f + 3)) (I (f + 6)) kk np nn) : zEi G y_Rows_countWheels prog_7_method_11_code 5 (some .int) 9 [.ref 125, .ref f, .int (nI n)] (I, J, P, S) (fun r w => r = s_sum (fun _ => true) (fun i => s_wh gv i (n - 1) i (nI (2 ^ (i + 1) - 1))) np ∧ ∃ I', w = (I', J, P, S) ∧ xF 126 I I') := by
  have hf := clOk_f Z
  obtain ⟨⟨c0, c3, c1s⟩, ⟨c5, c2s, ctr⟩, ⟨c6, c11s, c11, c13s⟩, ⟨c7, c15s, c15⟩, ⟨c8, c16s, c16a, c16b, c17s⟩, ⟨c9, c10, cfd, F, Fd⟩, ⟨c11b, Ft⟩, ⟨c12, c69s, cmk⟩, ⟨c14, c121s, c121, c122s⟩, ⟨c15b, c123s, c123, c124s⟩, ⟨c16, c125s, c125, c126s⟩, ⟨c17, c127s, c127, c128s, ctb⟩, ⟨c18, c139s, c139, c140s⟩, ⟨c19, c141s, ⟨c141a, c142s⟩, ⟨c141b, c143s⟩, ⟨c141c, c144s⟩⟩, M⟩ := id Z
  obtain ⟨F0, ⟨F8, F8s⟩, ⟨F9, F9s⟩, ⟨F10, F10s⟩, ⟨F11, F11s⟩, ⟨F12, F12s⟩, ⟨F13, F13s⟩, ⟨F14, F14s⟩, ⟨F15, F15s⟩, ⟨F16, F16s⟩, ⟨F17, F17s⟩, ⟨F18, F18s⟩, ⟨F19, F19s⟩, ⟨Y3, Y3s⟩, ⟨Y4, Y4s⟩, ⟨Y5, Y5s⟩, ⟨Y6, Y6s⟩⟩ := id F
  obtain ⟨⟨n1, n1b⟩, ⟨n2, n2b⟩, ⟨n3, n3b⟩, ⟨n4, n4b⟩, nof, non⟩ := id N
  refine zEi_of (lv := [some (.ref 125), some (.ref f), some (.int (nI n)), none, none]) (by decide) rfl (Nat.le_of_ble_eq_true rfl) ?_
  have l2 : ∀ I2, xF 126 I I2 → (∀ p, p < 7 → I2 126 p = gv p) → zA G y_Rows_countWheels prog_7_method_11_code 5 (some .int) (zRm 9 0 0) (zM G 0 0 (fun r w' => ∃ x, r = some (.int x) ∧ (fun r w => r = s_sum (fun _ => true) (fun i => s_wh gv i (n - 1) i (nI (2 ^ (i + 1) - 1))) np ∧ ∃ I', w = (I', J, P, S) ∧ xF 126 I I') x w')) 51 [some (.ref 125), some (.ref f), some (.int (nI n)), some (.int (nI nn)), none] [] (I2, J, P, S) 0 0 := by
    intro I2 g1 g2
    have n2' : I2 f 2 = nI np := by rw [g1 f (by omega)]; exact n2
    have ewh : ∀ m k last c, last < 7 → s_wh (I2 126) k m last c = s_wh gv k m last c := by
      intro m k
      induction m with
      | zero => intro last c hl; rw [s_wh, s_wh, g2 last hl]
      | succ m ih =>
        intro last c hl
        rw [s_wh, s_wh, g2 last hl]
        exact sum_c (fun i _ => rfl) (fun i hi _ => ih i _ hi)
    have loop : ∀ m j, np - j < m → j ≤ np → zA G y_Rows_countWheels prog_7_method_11_code 5 (some .int) (zRm 9 0 0) (zM G 0 0 (fun r w' => ∃ x, r = some (.int x) ∧ (fun r w => r = s_sum (fun _ => true) (fun i => s_wh gv i (n - 1) i (nI (2 ^ (i + 1) - 1))) np ∧ ∃ I', w = (I', J, P, S) ∧ xF 126 I I') x w')) 56 [some (.ref 125), some (.ref f), some (.int (nI n)), some (.int (s_sum (fun _ => true) (fun i => s_wh gv i (n - 1) i (nI (2 ^ (i + 1) - 1))) j)), some (.int (nI j))] [] (I2, J, P, S) 0 0 := by
      intro m
      induction m with
      | zero => intro j h; omega
      | succ m ih =>
        intro j hm hj
        refine z_iload_4 d_Rows_countWheels_56 ?_
        refine z_aload_1 d_Rows_countWheels_58 ?_
        refine z_getIv d_Rows_countWheels_59 f_Rows_28 (by first | assumption | exact zS0_at (by assumption) (by omega) | exact zS0_at rfl (by omega)) (by first | assumption | ((try simp (disch := omega) only [zu_same, zu_ne, zcp_ne, zfl_ne]); first | assumption | rfl)) ?_
        refine z_icmp_ge (tgt := 94) d_Rows_countWheels_62 (by decide) (fun hb => ?_) (fun hb => ?_)
        · have hb := (nI_leI (by omega) (by omega)).mp hb
          obtain rfl : j = np := by omega
          refine z_iload_3 d_Rows_countWheels_94 ?_
          refine z_reti d_Rows_countWheels_95 ?_
          exact ⟨rfl, I2, rfl, g1⟩
        · have hb : j < np := Nat.lt_of_not_le (fun q => hb (nI_le q (by omega)))
          have q0 := ih (j + 1) (by omega) (by omega)
          rw [s_sum_t (n := j) rfl] at q0
          refine z_iload_3 d_Rows_countWheels_65 ?_
          refine z_aload_0 d_Rows_countWheels_66 ?_
          refine z_getR d_Rows_countWheels_67 f_Rows_9 (by first | assumption | exact zS0_at (by assumption) (by omega) | exact zS0_at rfl (by omega)) (by first | assumption | exact zS0_at (by assumption) (by omega) | exact zS0_at rfl (by omega)) ?_
          refine z_iload_4 d_Rows_countWheels_70 ?_
          refine z_iload_4 d_Rows_countWheels_72 ?_
          refine z_iconst (a := nI 2) d_Rows_countWheels_74 (by decide) ?_
          refine z_iload_4 d_Rows_countWheels_75 ?_
          refine z_ishl d_Rows_countWheels_77 ?_
          refine z_iconst (a := nI 1) d_Rows_countWheels_78 (by decide) ?_
          refine z_isub d_Rows_countWheels_79 ?_
          rw [sh2 j (by omega)]
          refine z_iload_2 d_Rows_countWheels_80 ?_
          refine z_iconst (a := nI 1) d_Rows_countWheels_81 (by decide) ?_
          first | refine z_isubN d_Rows_countWheels_82 (by omega) ?_ | refine z_isub d_Rows_countWheels_82 ?_
          refine z_Si5 d_Rows_countWheels_83 k_Rows_76 (t_Rows_wheelsOn c126s (n - 1) j _ (by omega) (by omega)) (by refine ⟨?_, ?_, ?_, ?_⟩ <;> simp only [zRm] <;> omega) (Nat.le_of_ble_eq_true rfl) ?_
          intro r w hq
          obtain ⟨rfl, rfl⟩ := hq
          rw [ewh _ _ _ _ (by omega)]
          first | refine z_iaddN d_Rows_countWheels_86 ?_ | refine z_iadd d_Rows_countWheels_86 ?_
          first | refine z_istore_3 d_Rows_countWheels_87 rfl ?_ | (refine z_forget_2 ?_; refine z_istore_3 d_Rows_countWheels_87 rfl ?_)
          first | refine z_iinc_4 d_Rows_countWheels_88 rfl (zi_inc _) ?_ | refine z_iinc_4 d_Rows_countWheels_88 rfl rfl ?_
          refine z_goto (tgt := 56) d_Rows_countWheels_91 (by decide) ?_
          exact q0
    refine z_iconst (a := nI 0) d_Rows_countWheels_51 (by decide) ?_
    first | refine z_istore_3 d_Rows_countWheels_52 rfl ?_ | (refine z_forget_2 ?_; refine z_istore_3 d_Rows_countWheels_52 rfl ?_)
    refine z_iconst (a := nI 0) d_Rows_countWheels_53 (by decide) ?_
    first | refine z_istore_4 d_Rows_countWheels_54 rfl ?_ | (refine z_forget_3 ?_; refine z_istore_4 d_Rows_countWheels_54 rfl ?_)
    exact loop (np + 1) 0 (by omega) (by omega)
  have l1 : ∀ m j I2, nn - j < m → j ≤ nn → xF 126 I I2 → (∀ p, p < 7 → I2 126 p = gGv (I (f + 2)) (I (f + 3)) (I (f + 6)) kk np j p) → zA G y_Rows_countWheels prog_7_method_11_code 5 (some .int) (zRm 9 0 0) (zM G 0 0 (fun r w' => ∃ x, r = some (.int x) ∧ (fun r w => r = s_sum (fun _ => true) (fun i => s_wh gv i (n - 1) i (nI (2 ^ (i + 1) - 1))) np ∧ ∃ I', w = (I', J, P, S) ∧ xF 126 I I') x w')) 10 [some (.ref 125), some (.ref f), some (.int (nI n)), some (.int (nI j)), none] [] (I2, J, P, S) 0 0 := by
    intro m
    induction m with
    | zero => intro j I2 h; exact absurd h (Nat.not_lt_zero _)
    | succ m ih =>
      intro j I2 hm hj g1 g2
      have n4' : I2 f 4 = nI nn := by rw [g1 f (by omega)]; exact n4
      have N2 : fenIn I2 f nt np nl nn := by
        unfold fenIn
        rw [g1 f (by omega), g1 (f + 5) (by omega), g1 (f + 6) (by omega)]
        exact N
      refine z_iload_3 d_Rows_countWheels_10 ?_
      refine z_aload_1 d_Rows_countWheels_11 ?_
      refine z_getIv d_Rows_countWheels_12 f_Rows_66 (by first | assumption | exact zS0_at (by assumption) (by omega) | exact zS0_at rfl (by omega)) (by first | assumption | ((try simp (disch := omega) only [zu_same, zu_ne, zcp_ne, zfl_ne]); first | assumption | rfl)) ?_
      refine z_icmp_ge (tgt := 51) d_Rows_countWheels_15 (by decide) (fun hb => ?_) (fun hb => ?_)
      · have hb := (nI_leI (by omega) (by omega)).mp hb
        obtain rfl : j = nn := by omega
        exact l2 I2 g1 (by rw [hgv]; exact g2)
      · have hb : j < nn := Nat.lt_of_not_le (fun q => hb (nI_le q (by omega)))
        have eg : ∀ p, gGv (I (f + 2)) (I (f + 3)) (I (f + 6)) kk np (j + 1) p = if I (f + 6) j = nI p then gGv (I (f + 2)) (I (f + 3)) (I (f + 6)) kk np j p ||| (I (f + 3) p &&& s_set (fun q => zB (I (f + 2) q) (kk j)) np) else gGv (I (f + 2)) (I (f + 3)) (I (f + 6)) kk np j p := fun p => by
          unfold gGv
          rw [s_or]
          by_cases h : I (f + 6) j = nI p
          · rw [if_pos (decide_eq_true h), if_pos h]
          · rw [if_neg (by rw [decide_eq_false h]; decide), if_neg h]
        have e6 : I2 (f + 6) = I (f + 6) := g1 (f + 6) (by omega)
        refine z_aload_1 d_Rows_countWheels_18 ?_
        refine z_iload_3 d_Rows_countWheels_19 ?_
        refine z_Vi1 d_Rows_countWheels_20 k_Rows_69 (by first | assumption | exact zS0_at (by assumption) (by omega) | exact zS0_at rfl (by omega)) (t_Fen_isGone F (by omega)) (by refine ⟨?_, ?_, ?_, ?_⟩ <;> simp only [zRm] <;> omega) (Nat.le_of_ble_eq_true rfl) ?_
        intro r w hq
        rw [e6] at hq
        rcases non j hb with hh | ⟨p, hp, hh⟩
        · have hlt : I (f + 6) j < 0 := by rw [hh]; decide
          rcases hq with ⟨⟨hz, rfl⟩ | ⟨hz, rfl⟩, rfl⟩
          · refine z_if_ne (tgt := 45) d_Rows_countWheels_23 (by decide) (fun _ => ?_) (fun h => absurd h (by decide))
            first | refine z_iinc_3 d_Rows_countWheels_45 rfl (zi_inc _) ?_ | refine z_iinc_3 d_Rows_countWheels_45 rfl rfl ?_
            refine z_goto (tgt := 10) d_Rows_countWheels_48 (by decide) ?_
            refine ih (j + 1) I2 (by omega) (by omega) g1 (fun p hp => ?_)
            rw [eg, if_neg (fun q => by
              have : nI p < 0 := by rw [← q]; exact hlt
              exact absurd this (nI_pos (by omega)))]
            exact g2 p hp
          · exact absurd hlt hz
        · have hlt : ¬ I (f + 6) j < 0 := by rw [hh]; exact nI_pos (by omega)
          rcases hq with ⟨⟨hz, rfl⟩ | ⟨hz, rfl⟩, rfl⟩
          · exact absurd hz hlt
          · have hh2 : I2 (f + 6) j = nI p := by rw [e6]; exact hh
            have gp := g2 p (by omega)
            refine z_if_ne (tgt := 45) d_Rows_countWheels_23 (by decide) (fun h => absurd (by decide) h) (fun _ => ?_)
            refine z_aload_0 d_Rows_countWheels_26 ?_
            refine z_getR d_Rows_countWheels_27 f_Rows_9 (by first | assumption | exact zS0_at (by assumption) (by omega) | exact zS0_at rfl (by omega)) (by first | assumption | exact zS0_at (by assumption) (by omega) | exact zS0_at rfl (by omega)) ?_
            refine z_aload_1 d_Rows_countWheels_30 ?_
            refine z_getR d_Rows_countWheels_31 f_Rows_25 (by first | assumption | exact zS0_at (by assumption) (by omega) | exact zS0_at rfl (by omega)) (by first | assumption | exact zS0_at (by assumption) (by omega) | exact zS0_at rfl (by omega)) ?_
            refine z_iload_3 d_Rows_countWheels_34 ?_
            first | refine z_ialdNv d_Rows_countWheels_35 (by first | assumption | exact zS0_at (by assumption) (by omega) | exact zS0_at rfl (by omega)) (by omega) (by first | decide | omega) (by first | assumption | ((try simp (disch := omega) only [zu_same, zu_ne, zcp_ne, zfl_ne]); first | assumption | rfl)) ?_ | refine z_iald d_Rows_countWheels_35 (by first | assumption | exact zS0_at (by assumption) (by omega) | exact zS0_at rfl (by omega)) (by first | assumption | exact zS0_at (by assumption) (by omega) | exact zS0_at rfl (by omega)) ?_
            first | refine z_dup2 rfl rfl d_Rows_countWheels_36 ?_ | refine z_dup2l rfl d_Rows_countWheels_36 ?_
            first | refine z_ialdNv d_Rows_countWheels_37 (by first | assumption | exact zS0_at (by assumption) (by omega) | exact zS0_at rfl (by omega)) (by omega) (by first | decide | omega) (by first | assumption | ((try simp (disch := omega) only [zu_same, zu_ne, zcp_ne, zfl_ne]); first | assumption | rfl)) ?_ | refine z_iald d_Rows_countWheels_37 (by first | assumption | exact zS0_at (by assumption) (by omega) | exact zS0_at rfl (by omega)) (by first | assumption | exact zS0_at (by assumption) (by omega) | exact zS0_at rfl (by omega)) ?_
            refine z_aload_1 d_Rows_countWheels_38 ?_
            refine z_iload_3 d_Rows_countWheels_39 ?_
            refine z_Vi1 d_Rows_countWheels_40 k_Rows_73 (by first | assumption | exact zS0_at (by assumption) (by omega) | exact zS0_at rfl (by omega)) (t_Fen_takers (k := kk j) F N2 hb (by rw [g1 (f + 5) (by omega)]; exact hK j hb) hh2 hp) (by refine ⟨?_, ?_, ?_, ?_⟩ <;> simp only [zRm] <;> omega) (Nat.le_of_ble_eq_true rfl) ?_
            intro r w hq
            obtain ⟨rfl, rfl⟩ := hq
            rw [g1 (f + 3) (by omega), g1 (f + 2) (by omega)]
            refine z_ior d_Rows_countWheels_43 ?_
            first | refine z_iastN d_Rows_countWheels_44 (by first | assumption | exact zS0_at (by assumption) (by omega) | exact zS0_at rfl (by omega)) (by omega) (by first | decide | omega) ?_ | refine z_iast d_Rows_countWheels_44 (by first | assumption | exact zS0_at (by assumption) (by omega) | exact zS0_at rfl (by omega)) (by first | assumption | exact zS0_at (by assumption) (by omega) | exact zS0_at rfl (by omega)) ?_
            first | refine z_iinc_3 d_Rows_countWheels_45 rfl (zi_inc _) ?_ | refine z_iinc_3 d_Rows_countWheels_45 rfl rfl ?_
            refine z_goto (tgt := 10) d_Rows_countWheels_48 (by decide) ?_
            refine ih (j + 1) _ (by omega) (by omega) (xF_u g1) (fun p' hp' => ?_)
            rw [eg, hh]
            by_cases e : p' = p
            · subst e
              rw [zu_same, if_pos rfl]
            · rw [zu_ne _ _ _ _ (by omega), if_neg (fun q => e ((nI_eq (by omega) (by omega)).mp q).symm)]
              exact g2 p' hp'
  refine z_aload_0 d_Rows_countWheels_0 ?_
  refine z_getR d_Rows_countWheels_1 f_Rows_9 (by first | assumption | exact zS0_at (by assumption) (by omega) | exact zS0_at rfl (by omega)) (by first | assumption | exact zS0_at (by assumption) (by omega) | exact zS0_at rfl (by omega)) ?_
  refine z_iconst (a := nI 0) d_Rows_countWheels_4 (by decide) ?_
  refine z_Sv2 d_Rows_countWheels_5 k_Rows_60 (t_JArr_fillI c126s (by decide)) (by refine ⟨?_, ?_, ?_, ?_⟩ <;> simp only [zRm] <;> omega) (Nat.le_of_ble_eq_true rfl) ?_
  intro w hq
  obtain rfl := hq
  refine z_iconst (a := nI 0) d_Rows_countWheels_8 (by decide) ?_
  first | refine z_istore_3 d_Rows_countWheels_9 rfl ?_ | (refine z_forget_2 ?_; refine z_istore_3 d_Rows_countWheels_9 rfl ?_)
  exact l1 (nn + 1) 0 _ (by omega) (by omega) (fun q hq => zfl_ne hq) (fun p hp => zfl_in hp)
theorem t_Mo_canGive (M : modOk P S) (N : modIn I nt np nl nn) (hK : ∀ t, t < nn → I 150 (33 + t) = nI (kk t)) (hgv : gv = gGv (fun p => I 150 (12 + p)) (fun p => I 150 (19 + p)) (fun t => I 150 (42 + t)) kk np nn) (hp : p < 7) (hq : q < 7) : zEi G y_Mo_canGive prog_14_method_125_code 4 (some .boolean) 4 [.ref 145, .int (nI p), .int (nI q)] (I, J, P, S) (fun r w => (zB (gv p) q = true ∧ r = nI 1 ∨ ¬ zB (gv p) q = true ∧ r = nI 0) ∧ w = (I, J, P, S)) := by
  obtain ⟨M0, ⟨M4, M4s⟩, ⟨M5, M5s⟩, ⟨M6, M6s⟩, ⟨M7, M7s⟩, ⟨M20, M20s⟩, ⟨M21, M21s⟩, ⟨M22, M22s⟩, ⟨M26, M26s⟩, ⟨M27, M27s⟩, ⟨M28, M28s⟩, ⟨M30, M30s⟩, ⟨M34, M34s⟩, ⟨M36, M36s⟩, ⟨M37, M37s⟩⟩ := id M
  obtain ⟨⟨m0, m0b⟩, ⟨m1, m1b⟩, ⟨m2, m2b⟩, ⟨m3, m3b⟩, mof, mon⟩ := id N
  have key : zB (gv p) q = true ↔ ∃ t, t < nn ∧ I 150 (42 + t) = nI p ∧ zbit (mMt I p &&& mTk I np (kk t)) q := by
    rw [hgv]
    constructor
    · intro h
      obtain ⟨t, t1, t2, t3⟩ := (s_or_bit (by omega) nn).mp h
      exact ⟨t, t1, of_decide_eq_true t2, t3⟩
    · rintro ⟨t, t1, t2, t3⟩
      exact (s_or_bit (by omega) nn).mpr ⟨t, t1, decide_eq_true t2, t3⟩
  refine zEi_of (lv := [some (.ref 145), some (.int (nI p)), some (.int (nI q)), none]) (by decide) rfl (Nat.le_of_ble_eq_true rfl) ?_
  have loop : ∀ m j, nn - j < m → j ≤ nn → (∀ t, t < j → ¬ (I 150 (42 + t) = nI p ∧ zbit (mMt I p &&& mTk I np (kk t)) q)) → zA G y_Mo_canGive prog_14_method_125_code 4 (some .boolean) (zRm 4 0 0) (zM G 0 0 (fun r w' => ∃ x, r = some (.int x) ∧ (fun r w => (zB (gv p) q = true ∧ r = nI 1 ∨ ¬ zB (gv p) q = true ∧ r = nI 0) ∧ w = (I, J, P, S)) x w')) 2 [some (.ref 145), some (.int (nI p)), some (.int (nI q)), some (.int (nI j))] [] (I, J, P, S) 0 0 := by
    intro m
    induction m with
    | zero => intro j h; omega
    | succ m ih =>
      intro j hm hj hno
      refine z_iload_3 d_Mo_canGive_2 ?_
      refine z_aload_0 d_Mo_canGive_3 ?_
      refine z_getR d_Mo_canGive_4 f_Mo_35 (by first | assumption | exact zS0_at (by assumption) (by omega) | exact zS0_at rfl (by omega)) (by first | assumption | exact zS0_at (by assumption) (by omega) | exact zS0_at rfl (by omega)) ?_
      refine z_iconst (a := nI 3) d_Mo_canGive_7 (by decide) ?_
      first | refine z_ialdNv d_Mo_canGive_8 (by first | assumption | exact zS0_at (by assumption) (by omega) | exact zS0_at rfl (by omega)) (by omega) (by first | decide | omega) (by first | assumption | ((try simp (disch := omega) only [zu_same, zu_ne, zcp_ne, zfl_ne]); first | assumption | rfl)) ?_ | refine z_iald d_Mo_canGive_8 (by first | assumption | exact zS0_at (by assumption) (by omega) | exact zS0_at rfl (by omega)) (by first | assumption | exact zS0_at (by assumption) (by omega) | exact zS0_at rfl (by omega)) ?_
      refine z_icmp_ge (tgt := 46) d_Mo_canGive_9 (by decide) (fun hb => ?_) (fun hb => ?_)
      · have hb := (nI_leI (by omega) (by omega)).mp hb
        obtain rfl : j = nn := by omega
        refine z_iconst (a := nI 0) d_Mo_canGive_46 (by decide) ?_
        refine z_retz d_Mo_canGive_47 (by first | exact zb0 | exact zb1 | assumption) ?_
        exact ⟨Or.inr ⟨fun h => by
          obtain ⟨t, t1, t2⟩ := key.mp h
          exact hno t t1 t2, rfl⟩, rfl⟩
      · have hb : j < nn := Nat.lt_of_not_le (fun q => hb (nI_le q (by omega)))
        have no : ¬ (I 150 (42 + j) = nI p ∧ zbit (mMt I p &&& mTk I np (kk j)) q) → zA G y_Mo_canGive prog_14_method_125_code 4 (some .boolean) (zRm 4 0 0) (zM G 0 0 (fun r w' => ∃ x, r = some (.int x) ∧ (fun r w => (zB (gv p) q = true ∧ r = nI 1 ∨ ¬ zB (gv p) q = true ∧ r = nI 0) ∧ w = (I, J, P, S)) x w')) 40 [some (.ref 145), some (.int (nI p)), some (.int (nI q)), some (.int (nI j))] [] (I, J, P, S) 0 0 := by
          intro h
          first | refine z_iinc_3 d_Mo_canGive_40 rfl (zi_inc _) ?_ | refine z_iinc_3 d_Mo_canGive_40 rfl rfl ?_
          refine z_goto (tgt := 2) d_Mo_canGive_43 (by decide) ?_
          refine ih (j + 1) (by omega) (by omega) (fun t t1 => ?_)
          by_cases e : t = j
          · subst e; exact h
          · exact hno t (by omega)
        refine z_aload_0 d_Mo_canGive_12 ?_
        refine z_getR d_Mo_canGive_13 f_Mo_35 (by first | assumption | exact zS0_at (by assumption) (by omega) | exact zS0_at rfl (by omega)) (by first | assumption | exact zS0_at (by assumption) (by omega) | exact zS0_at rfl (by omega)) ?_
        refine z_bipush (a := nI 42) d_Mo_canGive_16 (by decide) ?_
        refine z_iload_3 d_Mo_canGive_18 ?_
        first | refine z_iaddN d_Mo_canGive_19 ?_ | refine z_iadd d_Mo_canGive_19 ?_
        first | refine z_ialdNv d_Mo_canGive_20 (by first | assumption | exact zS0_at (by assumption) (by omega) | exact zS0_at rfl (by omega)) (by omega) (by first | decide | omega) (by first | assumption | ((try simp (disch := omega) only [zu_same, zu_ne, zcp_ne, zfl_ne]); first | assumption | rfl)) ?_ | refine z_iald d_Mo_canGive_20 (by first | assumption | exact zS0_at (by assumption) (by omega) | exact zS0_at rfl (by omega)) (by first | assumption | exact zS0_at (by assumption) (by omega) | exact zS0_at rfl (by omega)) ?_
        refine z_iload_1 d_Mo_canGive_21 ?_
        refine z_icmp_ne (tgt := 40) d_Mo_canGive_22 (by decide) (fun hc => ?_) (fun hc => ?_)
        · exact no (fun h => hc h.1)
        · refine z_aload_0 d_Mo_canGive_25 ?_
          refine z_iload_3 d_Mo_canGive_26 ?_
          refine z_iload_1 d_Mo_canGive_27 ?_
          refine z_Vi2 d_Mo_canGive_28 k_Mo_357 (by first | assumption | exact zS0_at (by assumption) (by omega) | exact zS0_at rfl (by omega)) (t_Mo_nextOf' M N (by omega) (hK j hb) hp) ⟨Nat.le_of_ble_eq_true rfl, Nat.le_of_ble_eq_true rfl, Nat.le_of_ble_eq_true rfl, Nat.le_of_ble_eq_true rfl⟩ (Nat.le_of_ble_eq_true rfl) ?_
          intro r w hq
          obtain ⟨rfl, rfl⟩ := hq
          refine z_iload_2 d_Mo_canGive_31 ?_
          refine z_Si2 d_Mo_canGive_32 k_Mo_109 (t_Mo_has) ⟨Nat.le_of_ble_eq_true rfl, Nat.le_of_ble_eq_true rfl, Nat.le_of_ble_eq_true rfl, Nat.le_of_ble_eq_true rfl⟩ (Nat.le_of_ble_eq_true rfl) ?_
          intro r w hq
          rcases hq with ⟨⟨hz, rfl⟩ | ⟨hz, rfl⟩, rfl⟩
          · refine z_if_eq (tgt := 40) d_Mo_canGive_35 (by decide) (fun h => absurd h (by decide)) (fun _ => ?_)
            refine z_iconst (a := nI 1) d_Mo_canGive_38 (by decide) ?_
            refine z_retz d_Mo_canGive_39 (by first | exact zb0 | exact zb1 | assumption) ?_
            exact ⟨Or.inl ⟨key.mpr ⟨j, hb, hc, hz⟩, rfl⟩, rfl⟩
          · refine z_if_eq (tgt := 40) d_Mo_canGive_35 (by decide) (fun _ => ?_) (fun h => absurd (by decide) h)
            exact no (fun h => hz h.2)
  refine z_iconst (a := nI 0) d_Mo_canGive_0 (by decide) ?_
  first | refine z_istore_3 d_Mo_canGive_1 rfl ?_ | (refine z_forget_2 ?_; refine z_istore_3 d_Mo_canGive_1 rfl ?_)
  exact loop (nn + 1) 0 (by omega) (by omega) (fun t h => absurd h (Nat.not_lt_zero _))
theorem t_Mo_rolls (M : modOk P S) (N : modIn I nt np nl nn) (hK : ∀ t, t < nn → I 150 (33 + t) = nI (kk t)) (hgv : gv = gGv (fun p => I 150 (12 + p)) (fun p => I 150 (19 + p)) (fun t => I 150 (42 + t)) kk np nn) (hfr : fr < np) (mo : Nat) : ∀ (last : Nat) (seen : Int32), last < 7 → mo ≤ 7 → zEi G y_Mo_rolls prog_14_method_126_code 7 (some .int) (mo+5) [.ref 145, .int (nI fr), .int (nI last), .int seen, .int (nI mo)] (I, J, P, S) (fun r w => r = s_ro (fun p q => zB (gv p) q) np fr mo last seen ∧ w = (I, J, P, S)) := by
  obtain ⟨M0, ⟨M4, M4s⟩, ⟨M5, M5s⟩, ⟨M6, M6s⟩, ⟨M7, M7s⟩, ⟨M20, M20s⟩, ⟨M21, M21s⟩, ⟨M22, M22s⟩, ⟨M26, M26s⟩, ⟨M27, M27s⟩, ⟨M28, M28s⟩, ⟨M30, M30s⟩, ⟨M34, M34s⟩, ⟨M36, M36s⟩, ⟨M37, M37s⟩⟩ := id M
  obtain ⟨⟨m0, m0b⟩, ⟨m1, m1b⟩, ⟨m2, m2b⟩, ⟨m3, m3b⟩, mof, mon⟩ := id N
  induction mo with
  | zero =>
    intro last seen hl hm
    refine zEi_of (lv := [some (.ref 145), some (.int (nI fr)), some (.int (nI last)), some (.int seen), some (.int (nI 0)), none, none]) (by decide) rfl (Nat.le_of_ble_eq_true rfl) ?_
    refine z_iload_4 d_Mo_rolls_0 ?_
    refine z_if_ne (tgt := 20) d_Mo_rolls_2 (by decide) (fun h => absurd (by decide) h) (fun _ => ?_)
    refine z_aload_0 d_Mo_rolls_5 ?_
    refine z_iload_2 d_Mo_rolls_6 ?_
    refine z_iload_1 d_Mo_rolls_7 ?_
    refine z_Vi2 d_Mo_rolls_8 k_Mo_412 (by first | assumption | exact zS0_at (by assumption) (by omega) | exact zS0_at rfl (by omega)) (t_Mo_canGive M N hK hgv hl (by omega)) (by refine ⟨?_, ?_, ?_, ?_⟩ <;> simp only [zRm] <;> omega) (Nat.le_of_ble_eq_true rfl) ?_
    intro r w hq
    rcases hq with ⟨⟨hz, rfl⟩ | ⟨hz, rfl⟩, rfl⟩
    · refine z_if_eq (tgt := 18) d_Mo_rolls_11 (by decide) (fun h => absurd h (by decide)) (fun _ => ?_)
      refine z_iconst (a := nI 1) d_Mo_rolls_14 (by decide) ?_
      refine z_goto (tgt := 19) d_Mo_rolls_15 (by decide) ?_
      refine z_reti d_Mo_rolls_19 ?_
      exact ⟨by rw [s_ro, if_pos hz], rfl⟩
    · refine z_if_eq (tgt := 18) d_Mo_rolls_11 (by decide) (fun _ => ?_) (fun h => absurd (by decide) h)
      refine z_iconst (a := nI 0) d_Mo_rolls_18 (by decide) ?_
      refine z_reti d_Mo_rolls_19 ?_
      exact ⟨by rw [s_ro, if_neg hz], rfl⟩
  | succ mo ihm =>
    intro last seen hl hm
    obtain ⟨b, hb0⟩ : ∃ b : Nat → Bool, b = fun q => decide (fr < q) && !zB seen q && zB (gv last) q := ⟨_, rfl⟩
    obtain ⟨v, hv0⟩ : ∃ v : Nat → Int32, v = fun q => s_ro (fun p q => zB (gv p) q) np fr mo q (seen ||| (nI 1 <<< (nI q &&& 31))) := ⟨_, rfl⟩
    refine zEi_of (lv := [some (.ref 145), some (.int (nI fr)), some (.int (nI last)), some (.int seen), some (.int (nI (mo + 1))), none, none]) (by decide) rfl (Nat.le_of_ble_eq_true rfl) ?_
    have loop : ∀ m j, np - j < m → j ≤ np → (fr < j) → zA G y_Mo_rolls prog_14_method_126_code 7 (some .int) (zRm ((mo + 1)+5) 0 0) (zM G 0 0 (fun r w' => ∃ x, r = some (.int x) ∧ (fun r w => r = s_ro (fun p q => zB (gv p) q) np fr (mo + 1) last seen ∧ w = (I, J, P, S)) x w')) 28 [some (.ref 145), some (.int (nI fr)), some (.int (nI last)), some (.int seen), some (.int (nI (mo + 1))), some (.int (s_sum b v j)), some (.int (nI j))] [] (I, J, P, S) 0 0 := by
      intro m
      induction m with
      | zero => intro j h; omega
      | succ m ih =>
        intro j hm hj hj2
        refine z_iload_6 d_Mo_rolls_28 ?_
        refine z_aload_0 d_Mo_rolls_30 ?_
        refine z_getR d_Mo_rolls_31 f_Mo_35 (by first | assumption | exact zS0_at (by assumption) (by omega) | exact zS0_at rfl (by omega)) (by first | assumption | exact zS0_at (by assumption) (by omega) | exact zS0_at rfl (by omega)) ?_
        refine z_iconst (a := nI 1) d_Mo_rolls_34 (by decide) ?_
        first | refine z_ialdNv d_Mo_rolls_35 (by first | assumption | exact zS0_at (by assumption) (by omega) | exact zS0_at rfl (by omega)) (by omega) (by first | decide | omega) (by first | assumption | ((try simp (disch := omega) only [zu_same, zu_ne, zcp_ne, zfl_ne]); first | assumption | rfl)) ?_ | refine z_iald d_Mo_rolls_35 (by first | assumption | exact zS0_at (by assumption) (by omega) | exact zS0_at rfl (by omega)) (by first | assumption | exact zS0_at (by assumption) (by omega) | exact zS0_at rfl (by omega)) ?_
        refine z_icmp_ge (tgt := 86) d_Mo_rolls_36 (by decide) (fun hb => ?_) (fun hb => ?_)
        · have hb := (nI_leI (by omega) (by omega)).mp hb
          obtain rfl : j = np := by omega
          refine z_iload_5 d_Mo_rolls_86 ?_
          refine z_reti d_Mo_rolls_88 ?_
          exact ⟨by rw [s_ro, ← hb0, ← hv0], rfl⟩
        · have hb : j < np := Nat.lt_of_not_le (fun q => hb (nI_le q (by omega)))
          have q0 := ih (j + 1) (by omega) (by omega) (by omega)
          have ebj : b j = (!zB seen j && zB (gv last) j) := by
            rw [hb0]
            show (decide (fr < j) && !zB seen j && zB (gv last) j) = _
            rw [decide_eq_true hj2, Bool.true_and]
          have no : ¬ b j = true → zA G y_Mo_rolls prog_14_method_126_code 7 (some .int) (zRm ((mo + 1)+5) 0 0) (zM G 0 0 (fun r w' => ∃ x, r = some (.int x) ∧ (fun r w => r = s_ro (fun p q => zB (gv p) q) np fr (mo + 1) last seen ∧ w = (I, J, P, S)) x w')) 80 [some (.ref 145), some (.int (nI fr)), some (.int (nI last)), some (.int seen), some (.int (nI (mo + 1))), some (.int (s_sum b v j)), some (.int (nI j))] [] (I, J, P, S) 0 0 := by
            intro h
            rw [s_sum_f h] at q0
            first | refine z_iinc_6 d_Mo_rolls_80 rfl (zi_inc _) ?_ | refine z_iinc_6 d_Mo_rolls_80 rfl rfl ?_
            refine z_goto (tgt := 28) d_Mo_rolls_83 (by decide) ?_
            exact q0
          refine z_iload_3 d_Mo_rolls_39 ?_
          refine z_iload_6 d_Mo_rolls_40 ?_
          refine z_Si2 d_Mo_rolls_42 k_Mo_109 (t_Mo_has) (by refine ⟨?_, ?_, ?_, ?_⟩ <;> simp only [zRm] <;> omega) (Nat.le_of_ble_eq_true rfl) ?_
          intro r w hq
          rcases hq with ⟨⟨hz, rfl⟩ | ⟨hz, rfl⟩, rfl⟩
          · refine z_if_ne (tgt := 80) d_Mo_rolls_45 (by decide) (fun _ => ?_) (fun h => absurd h (by decide))
            exact no (by rw [ebj, show zB seen j = true from hz]; simp)
          · refine z_if_ne (tgt := 80) d_Mo_rolls_45 (by decide) (fun h => absurd (by decide) h) (fun _ => ?_)
            refine z_aload_0 d_Mo_rolls_48 ?_
            refine z_iload_2 d_Mo_rolls_49 ?_
            refine z_iload_6 d_Mo_rolls_50 ?_
            refine z_Vi2 d_Mo_rolls_52 k_Mo_412 (by first | assumption | exact zS0_at (by assumption) (by omega) | exact zS0_at rfl (by omega)) (t_Mo_canGive M N hK hgv hl (by omega)) (by refine ⟨?_, ?_, ?_, ?_⟩ <;> simp only [zRm] <;> omega) (Nat.le_of_ble_eq_true rfl) ?_
            intro r w hq
            rcases hq with ⟨⟨hz2, rfl⟩ | ⟨hz2, rfl⟩, rfl⟩
            · have hbj : b j = true := by rw [ebj, hz2, Bool.eq_false_iff.mpr hz]; rfl
              rw [s_sum_t hbj] at q0
              refine z_if_eq (tgt := 80) d_Mo_rolls_55 (by decide) (fun h => absurd h (by decide)) (fun _ => ?_)
              refine z_iload_5 d_Mo_rolls_58 ?_
              refine z_aload_0 d_Mo_rolls_60 ?_
              refine z_iload_1 d_Mo_rolls_61 ?_
              refine z_iload_6 d_Mo_rolls_62 ?_
              refine z_iload_3 d_Mo_rolls_64 ?_
              refine z_iconst (a := nI 1) d_Mo_rolls_65 (by decide) ?_
              refine z_iload_6 d_Mo_rolls_66 ?_
              refine z_ishl d_Mo_rolls_68 ?_
              refine z_ior d_Mo_rolls_69 ?_
              refine z_iload_4 d_Mo_rolls_70 ?_
              refine z_iconst (a := nI 1) d_Mo_rolls_72 (by decide) ?_
              first | refine z_isubN d_Mo_rolls_73 (by omega) ?_ | refine z_isub d_Mo_rolls_73 ?_
              rw [Nat.add_sub_cancel]
              refine z_Vi4 d_Mo_rolls_74 k_Mo_415 (by first | assumption | exact zS0_at (by assumption) (by omega) | exact zS0_at rfl (by omega)) (ihm j _ (by omega) (by omega)) (by refine ⟨?_, ?_, ?_, ?_⟩ <;> simp only [zRm] <;> omega) (Nat.le_of_ble_eq_true rfl) ?_
              intro r w hq
              obtain ⟨rfl, rfl⟩ := hq
              rw [show s_ro (fun p q => zB (gv p) q) np fr mo j (seen ||| (nI 1 <<< (nI j &&& 31))) = v j by rw [hv0]]
              refine z_iadd d_Mo_rolls_77 ?_
              first | refine z_istore_5 d_Mo_rolls_78 rfl ?_ | (refine z_forget_4 ?_; refine z_istore_5 d_Mo_rolls_78 rfl ?_)
              first | refine z_iinc_6 d_Mo_rolls_80 rfl (zi_inc _) ?_ | refine z_iinc_6 d_Mo_rolls_80 rfl rfl ?_
              refine z_goto (tgt := 28) d_Mo_rolls_83 (by decide) ?_
              exact q0
            · refine z_if_eq (tgt := 80) d_Mo_rolls_55 (by decide) (fun _ => ?_) (fun h => absurd (by decide) h)
              exact no (by rw [ebj, Bool.eq_false_iff.mpr hz2]; simp)
    have e0 : s_sum b v (fr + 1) = nI 0 := by
      have := sum_up (n := 0) (m := fr + 1) (b := b) (v := v) (fun i _ h2 => by
        rw [hb0]
        show (decide (fr < i) && !zB seen i && zB (gv last) i) = false
        rw [decide_eq_false (by omega)]; rfl)
      rw [Nat.zero_add] at this
      rw [this]; rfl
    have q := loop (np + 1) (fr + 1) (by omega) (by omega) (by omega)
    rw [e0] at q
    refine z_iload_4 d_Mo_rolls_0 ?_
    refine z_if_ne (tgt := 20) d_Mo_rolls_2 (by decide) (fun _ => ?_) (fun h => absurd h (fun q => by rw [← nI_0] at q; have := (nI_eq (by omega) (by omega)).mp q; omega))
    refine z_iconst (a := nI 0) d_Mo_rolls_20 (by decide) ?_
    first | refine z_istore_5 d_Mo_rolls_21 rfl ?_ | (refine z_forget_4 ?_; refine z_istore_5 d_Mo_rolls_21 rfl ?_)
    refine z_iload_1 d_Mo_rolls_23 ?_
    refine z_iconst (a := nI 1) d_Mo_rolls_24 (by decide) ?_
    first | refine z_iaddN d_Mo_rolls_25 ?_ | refine z_iadd d_Mo_rolls_25 ?_
    first | refine z_istore_6 d_Mo_rolls_26 rfl ?_ | (refine z_forget_5 ?_; refine z_istore_6 d_Mo_rolls_26 rfl ?_)
    exact q
theorem t_Tf_wheels_o (Z : clOk f d P S) (h : a < nI 2 ∨ nI 7 < a) : zEi G y_Tf_wheels prog_1_method_40_code 2 (some .int) 10 [.ref 0, .int a] (I, J, P, S) (fun r w => r = -1 ∧ cW I J P S 5 w) := by
  obtain ⟨⟨c0, c3, c1s⟩, ⟨c5, c2s, ctr⟩, ⟨c6, c11s, c11, c13s⟩, ⟨c7, c15s, c15⟩, ⟨c8, c16s, c16a, c16b, c17s⟩, ⟨c9, c10, cfd, F, Fd⟩, ⟨c11b, Ft⟩, ⟨c12, c69s, cmk⟩, ⟨c14, c121s, c121, c122s⟩, ⟨c15b, c123s, c123, c124s⟩, ⟨c16, c125s, c125, c126s⟩, ⟨c17, c127s, c127, c128s, ctb⟩, ⟨c18, c139s, c139, c140s⟩, ⟨c19, c141s, ⟨c141a, c142s⟩, ⟨c141b, c143s⟩, ⟨c141c, c144s⟩⟩, M⟩ := id Z
  refine zEi_of (lv := [some (.ref 0), some (.int a)]) (by decide) rfl (Nat.le_of_ble_eq_true rfl) ?_
  rcases h with h | h
  · refine z_iload_1 d_Tf_wheels_0 ?_
    refine z_iconst (a := nI 2) d_Tf_wheels_1 (by decide) ?_
    refine z_icmp_lt (tgt := 11) d_Tf_wheels_2 (by decide) (fun h2 => ?_) (fun h2 => ?_)
    · first
      | (simp (disch := omega) only [← nI_0, nI_leI, nI_ltI, nI_eq, not_true_eq_false, not_false_eq_true] at h2; done)
      | (simp (disch := omega) only [← nI_0, nI_leI, nI_ltI, nI_eq, not_true_eq_false, not_false_eq_true] at h2; omega)
      | contradiction
      | exact absurd h2 (Int32.not_lt.mpr (by assumption))
      | exact absurd h2 (Int32.not_le.mpr (by assumption))
      | exact absurd h2 (by decide)
      | exact absurd (by decide) h2
      | ( try simp (disch := omega) only [← nI_0, nI_leI, nI_ltI, nI_eq, not_true_eq_false, not_false_eq_true] at h2
          (try have h2b := zbit_n0.mp h2); (try have h2b := zbit_p0.mp h2)
          refine z_aload_0 d_Tf_wheels_11 ?_
          refine z_iconst (a := nI 5) d_Tf_wheels_12 (by decide) ?_
          refine z_Vi1 d_Tf_wheels_13 k_Tf_138 (by first | assumption | exact zS0_at (by assumption) (by omega) | exact zS0_at rfl (by omega)) (t_Tf_fail (by assumption)) ⟨Nat.le_of_ble_eq_true rfl, Nat.le_of_ble_eq_true rfl, Nat.le_of_ble_eq_true rfl, Nat.le_of_ble_eq_true rfl⟩ (Nat.le_of_ble_eq_true rfl) ?_
          intro r w hq
          obtain ⟨rfl, rfl⟩ := hq
          refine z_reti d_Tf_wheels_16 ?_
          exact ⟨rfl, cW_0⟩)
    · first
      | (simp (disch := omega) only [← nI_0, nI_leI, nI_ltI, nI_eq, not_true_eq_false, not_false_eq_true] at h2; done)
      | (simp (disch := omega) only [← nI_0, nI_leI, nI_ltI, nI_eq, not_true_eq_false, not_false_eq_true] at h2; omega)
      | contradiction
      | exact absurd h2 (Int32.not_lt.mpr (by assumption))
      | exact absurd h2 (Int32.not_le.mpr (by assumption))
      | exact absurd h2 (by decide)
      | exact absurd (by decide) h2
      | ( try simp (disch := omega) only [← nI_0, nI_leI, nI_ltI, nI_eq, not_true_eq_false, not_false_eq_true] at h2
          (try have h2b := zbit_n0.mp h2); (try have h2b := zbit_p0.mp h2)
          refine z_iload_1 d_Tf_wheels_5 ?_
          refine z_bipush (a := nI 7) d_Tf_wheels_6 (by decide) ?_
          refine z_icmp_le (tgt := 17) d_Tf_wheels_8 (by decide) (fun h8 => ?_) (fun h8 => ?_)
          · first
            | (simp (disch := omega) only [← nI_0, nI_leI, nI_ltI, nI_eq, not_true_eq_false, not_false_eq_true] at h8; done)
            | (simp (disch := omega) only [← nI_0, nI_leI, nI_ltI, nI_eq, not_true_eq_false, not_false_eq_true] at h8; omega)
            | contradiction
            | exact absurd h8 (Int32.not_lt.mpr (by assumption))
            | exact absurd h8 (Int32.not_le.mpr (by assumption))
            | exact absurd h8 (by decide)
            | exact absurd (by decide) h8
            | ( try simp (disch := omega) only [← nI_0, nI_leI, nI_ltI, nI_eq, not_true_eq_false, not_false_eq_true] at h8
                (try have h8b := zbit_n0.mp h8); (try have h8b := zbit_p0.mp h8)
                fail)
          · first
            | (simp (disch := omega) only [← nI_0, nI_leI, nI_ltI, nI_eq, not_true_eq_false, not_false_eq_true] at h8; done)
            | (simp (disch := omega) only [← nI_0, nI_leI, nI_ltI, nI_eq, not_true_eq_false, not_false_eq_true] at h8; omega)
            | contradiction
            | exact absurd h8 (Int32.not_lt.mpr (by assumption))
            | exact absurd h8 (Int32.not_le.mpr (by assumption))
            | exact absurd h8 (by decide)
            | exact absurd (by decide) h8
            | ( try simp (disch := omega) only [← nI_0, nI_leI, nI_ltI, nI_eq, not_true_eq_false, not_false_eq_true] at h8
                (try have h8b := zbit_n0.mp h8); (try have h8b := zbit_p0.mp h8)
                refine z_aload_0 d_Tf_wheels_11 ?_
                refine z_iconst (a := nI 5) d_Tf_wheels_12 (by decide) ?_
                refine z_Vi1 d_Tf_wheels_13 k_Tf_138 (by first | assumption | exact zS0_at (by assumption) (by omega) | exact zS0_at rfl (by omega)) (t_Tf_fail (by assumption)) ⟨Nat.le_of_ble_eq_true rfl, Nat.le_of_ble_eq_true rfl, Nat.le_of_ble_eq_true rfl, Nat.le_of_ble_eq_true rfl⟩ (Nat.le_of_ble_eq_true rfl) ?_
                intro r w hq
                obtain ⟨rfl, rfl⟩ := hq
                refine z_reti d_Tf_wheels_16 ?_
                exact ⟨rfl, cW_0⟩))
  · refine z_iload_1 d_Tf_wheels_0 ?_
    refine z_iconst (a := nI 2) d_Tf_wheels_1 (by decide) ?_
    refine z_icmp_lt (tgt := 11) d_Tf_wheels_2 (by decide) (fun h2 => ?_) (fun h2 => ?_)
    · first
      | (simp (disch := omega) only [← nI_0, nI_leI, nI_ltI, nI_eq, not_true_eq_false, not_false_eq_true] at h2; done)
      | (simp (disch := omega) only [← nI_0, nI_leI, nI_ltI, nI_eq, not_true_eq_false, not_false_eq_true] at h2; omega)
      | contradiction
      | exact absurd h2 (Int32.not_lt.mpr (by assumption))
      | exact absurd h2 (Int32.not_le.mpr (by assumption))
      | exact absurd h2 (by decide)
      | exact absurd (by decide) h2
      | ( try simp (disch := omega) only [← nI_0, nI_leI, nI_ltI, nI_eq, not_true_eq_false, not_false_eq_true] at h2
          (try have h2b := zbit_n0.mp h2); (try have h2b := zbit_p0.mp h2)
          refine z_aload_0 d_Tf_wheels_11 ?_
          refine z_iconst (a := nI 5) d_Tf_wheels_12 (by decide) ?_
          refine z_Vi1 d_Tf_wheels_13 k_Tf_138 (by first | assumption | exact zS0_at (by assumption) (by omega) | exact zS0_at rfl (by omega)) (t_Tf_fail (by assumption)) ⟨Nat.le_of_ble_eq_true rfl, Nat.le_of_ble_eq_true rfl, Nat.le_of_ble_eq_true rfl, Nat.le_of_ble_eq_true rfl⟩ (Nat.le_of_ble_eq_true rfl) ?_
          intro r w hq
          obtain ⟨rfl, rfl⟩ := hq
          refine z_reti d_Tf_wheels_16 ?_
          exact ⟨rfl, cW_0⟩)
    · first
      | (simp (disch := omega) only [← nI_0, nI_leI, nI_ltI, nI_eq, not_true_eq_false, not_false_eq_true] at h2; done)
      | (simp (disch := omega) only [← nI_0, nI_leI, nI_ltI, nI_eq, not_true_eq_false, not_false_eq_true] at h2; omega)
      | contradiction
      | exact absurd h2 (Int32.not_lt.mpr (by assumption))
      | exact absurd h2 (Int32.not_le.mpr (by assumption))
      | exact absurd h2 (by decide)
      | exact absurd (by decide) h2
      | ( try simp (disch := omega) only [← nI_0, nI_leI, nI_ltI, nI_eq, not_true_eq_false, not_false_eq_true] at h2
          (try have h2b := zbit_n0.mp h2); (try have h2b := zbit_p0.mp h2)
          refine z_iload_1 d_Tf_wheels_5 ?_
          refine z_bipush (a := nI 7) d_Tf_wheels_6 (by decide) ?_
          refine z_icmp_le (tgt := 17) d_Tf_wheels_8 (by decide) (fun h8 => ?_) (fun h8 => ?_)
          · first
            | (simp (disch := omega) only [← nI_0, nI_leI, nI_ltI, nI_eq, not_true_eq_false, not_false_eq_true] at h8; done)
            | (simp (disch := omega) only [← nI_0, nI_leI, nI_ltI, nI_eq, not_true_eq_false, not_false_eq_true] at h8; omega)
            | contradiction
            | exact absurd h8 (Int32.not_lt.mpr (by assumption))
            | exact absurd h8 (Int32.not_le.mpr (by assumption))
            | exact absurd h8 (by decide)
            | exact absurd (by decide) h8
            | ( try simp (disch := omega) only [← nI_0, nI_leI, nI_ltI, nI_eq, not_true_eq_false, not_false_eq_true] at h8
                (try have h8b := zbit_n0.mp h8); (try have h8b := zbit_p0.mp h8)
                fail)
          · first
            | (simp (disch := omega) only [← nI_0, nI_leI, nI_ltI, nI_eq, not_true_eq_false, not_false_eq_true] at h8; done)
            | (simp (disch := omega) only [← nI_0, nI_leI, nI_ltI, nI_eq, not_true_eq_false, not_false_eq_true] at h8; omega)
            | contradiction
            | exact absurd h8 (Int32.not_lt.mpr (by assumption))
            | exact absurd h8 (Int32.not_le.mpr (by assumption))
            | exact absurd h8 (by decide)
            | exact absurd (by decide) h8
            | ( try simp (disch := omega) only [← nI_0, nI_leI, nI_ltI, nI_eq, not_true_eq_false, not_false_eq_true] at h8
                (try have h8b := zbit_n0.mp h8); (try have h8b := zbit_p0.mp h8)
                refine z_aload_0 d_Tf_wheels_11 ?_
                refine z_iconst (a := nI 5) d_Tf_wheels_12 (by decide) ?_
                refine z_Vi1 d_Tf_wheels_13 k_Tf_138 (by first | assumption | exact zS0_at (by assumption) (by omega) | exact zS0_at rfl (by omega)) (t_Tf_fail (by assumption)) ⟨Nat.le_of_ble_eq_true rfl, Nat.le_of_ble_eq_true rfl, Nat.le_of_ble_eq_true rfl, Nat.le_of_ble_eq_true rfl⟩ (Nat.le_of_ble_eq_true rfl) ?_
                intro r w hq
                obtain ⟨rfl, rfl⟩ := hq
                refine z_reti d_Tf_wheels_16 ?_
                exact ⟨rfl, cW_0⟩))
theorem t_Tf_wheels (Z : clOk f d P S) (N : fenIn I f nt np nl nn) (hK : ∀ t, t < nn → I (f + 5) t = nI (kk t)) (h1 : 2 ≤ n) (h7 : n ≤ 7) (hgv : gv = gGv (I (f + 2)) (I (f + 3)) (I (f + 6)) kk np nn) : zEi G y_Tf_wheels prog_1_method_40_code 2 (some .int) 10 [.ref 0, .int (nI n)] (I, J, P, S) (fun r w => r = s_sum (fun _ => true) (fun i => s_wh gv i (n - 1) i (nI (2 ^ (i + 1) - 1))) np ∧ cW I J P S 0 w) := by
  obtain ⟨⟨c0, c3, c1s⟩, ⟨c5, c2s, ctr⟩, ⟨c6, c11s, c11, c13s⟩, ⟨c7, c15s, c15⟩, ⟨c8, c16s, c16a, c16b, c17s⟩, ⟨c9, c10, cfd, F, Fd⟩, ⟨c11b, Ft⟩, ⟨c12, c69s, cmk⟩, ⟨c14, c121s, c121, c122s⟩, ⟨c15b, c123s, c123, c124s⟩, ⟨c16, c125s, c125, c126s⟩, ⟨c17, c127s, c127, c128s, ctb⟩, ⟨c18, c139s, c139, c140s⟩, ⟨c19, c141s, ⟨c141a, c142s⟩, ⟨c141b, c143s⟩, ⟨c141c, c144s⟩⟩, M⟩ := id Z
  refine zEi_of (lv := [some (.ref 0), some (.int (nI n))]) (by decide) rfl (Nat.le_of_ble_eq_true rfl) ?_
  refine z_iload_1 d_Tf_wheels_0 ?_
  refine z_iconst (a := nI 2) d_Tf_wheels_1 (by decide) ?_
  refine z_icmp_lt (tgt := 11) d_Tf_wheels_2 (by decide) (fun h => absurd h (fun q => by have := (nI_ltI (by omega) (by omega)).mp q; omega)) (fun _ => ?_)
  refine z_iload_1 d_Tf_wheels_5 ?_
  refine z_bipush (a := nI 7) d_Tf_wheels_6 (by decide) ?_
  refine z_icmp_le (tgt := 17) d_Tf_wheels_8 (by decide) (fun _ => ?_) (fun h => absurd (nI_le h7 (by omega)) h)
  refine z_aload_0 d_Tf_wheels_17 ?_
  refine z_aload_0 d_Tf_wheels_18 ?_
  refine z_getR d_Tf_wheels_19 f_Tf_90 (by first | assumption | exact zS0_at (by assumption) (by omega) | exact zS0_at rfl (by omega)) (by first | assumption | exact zS0_at (by assumption) (by omega) | exact zS0_at rfl (by omega)) ?_
  refine z_aload_0 d_Tf_wheels_22 ?_
  refine z_getR d_Tf_wheels_23 f_Tf_60 (by first | assumption | exact zS0_at (by assumption) (by omega) | exact zS0_at rfl (by omega)) (by first | assumption | exact zS0_at (by assumption) (by omega) | exact zS0_at rfl (by omega)) ?_
  refine z_iload_1 d_Tf_wheels_26 ?_
  refine z_Vi2 d_Tf_wheels_27 k_Tf_352 (by first | assumption | exact zS0_at (by assumption) (by omega) | exact zS0_at rfl (by omega)) (t_Rows_countWheels Z N hK (by omega) h7 hgv) ⟨Nat.le_of_ble_eq_true rfl, Nat.le_of_ble_eq_true rfl, Nat.le_of_ble_eq_true rfl, Nat.le_of_ble_eq_true rfl⟩ (Nat.le_of_ble_eq_true rfl) ?_
  rintro r w ⟨rfl, I2, rfl, g1⟩
  refine z_Vi1 d_Tf_wheels_30 k_Tf_174 (by first | assumption | exact zS0_at (by assumption) (by omega) | exact zS0_at rfl (by omega)) (t_Tf_give c0) ⟨Nat.le_of_ble_eq_true rfl, Nat.le_of_ble_eq_true rfl, Nat.le_of_ble_eq_true rfl, Nat.le_of_ble_eq_true rfl⟩ (Nat.le_of_ble_eq_true rfl) ?_
  intro r w hq
  obtain ⟨rfl, rfl⟩ := hq
  refine z_reti d_Tf_wheels_33 ?_
  exact ⟨rfl, _, _, rfl, cqF_0 ⟨fun a _ g => g1 a (by omega), fun k _ => by rw [g1 0 (by omega)]⟩, cqJ_r, zu_same _ _ _ _⟩
theorem in27 : ((2 : Int64) ≤ a.toInt64 ∧ a.toInt64 ≤ (7 : Int64)) ↔ ∃ n, 2 ≤ n ∧ n ≤ 7 ∧ a = nI n := by
  rw [Int64.le_iff_toInt_le, Int64.le_iff_toInt_le, Int32.toInt_toInt64, show (2 : Int64).toInt = 2 by decide, show (7 : Int64).toInt = 7 by decide]
  constructor
  · rintro ⟨h1, h2⟩
    obtain ⟨j, hj, rfl⟩ := (zin_int (a := a) (n := 8) (by decide)).mpr ⟨by omega, by omega⟩
    rw [nI_int (by omega)] at h1 h2
    exact ⟨j, by omega, by omega, rfl⟩
  · rintro ⟨n, h1, h2, rfl⟩
    rw [nI_int (by omega)]
    omega
theorem t_Mo_wheels_o (M : modOk P S) (h : ¬ ∃ n, 2 ≤ n ∧ n ≤ 7 ∧ a = nI n) : zEi G y_Mo_wheels prog_14_method_127_code 4 (some .int) 13 [.ref 145, .int a] (I, J, P, S) (fun r w => r = -1 ∧ mW I J P S 5 w) := by
  obtain ⟨M0, ⟨M4, M4s⟩, ⟨M5, M5s⟩, ⟨M6, M6s⟩, ⟨M7, M7s⟩, ⟨M20, M20s⟩, ⟨M21, M21s⟩, ⟨M22, M22s⟩, ⟨M26, M26s⟩, ⟨M27, M27s⟩, ⟨M28, M28s⟩, ⟨M30, M30s⟩, ⟨M34, M34s⟩, ⟨M36, M36s⟩, ⟨M37, M37s⟩⟩ := id M
  refine zEi_of (lv := [some (.ref 145), some (.int a), none, none]) (by decide) rfl (Nat.le_of_ble_eq_true rfl) ?_
  refine z_aload_0 d_Mo_wheels_0 ?_
  refine z_iconst (a := nI 0) d_Mo_wheels_1 (by decide) ?_
  refine z_putI d_Mo_wheels_2 f_Mo_70 (by first | assumption | exact zS0_at (by assumption) (by omega) | exact zS0_at rfl (by omega)) ?_
  refine z_aload_0 d_Mo_wheels_5 ?_
  refine z_iconst (a := nI 0) d_Mo_wheels_6 (by decide) ?_
  refine z_putI d_Mo_wheels_7 f_Mo_73 (by first | assumption | exact zS0_at (by assumption) (by omega) | exact zS0_at rfl (by omega)) ?_
  refine z_iload_1 d_Mo_wheels_10 ?_
  refine z_i2l d_Mo_wheels_11 ?_
  refine z_ldc2 d_Mo_wheels_12 c_Mo_419 ?_
  refine z_ldc2 d_Mo_wheels_15 c_Mo_421 ?_
  refine z_Si3 d_Mo_wheels_18 k_Mo_105 (t_Mo_isIn) ⟨Nat.le_of_ble_eq_true rfl, Nat.le_of_ble_eq_true rfl, Nat.le_of_ble_eq_true rfl, Nat.le_of_ble_eq_true rfl⟩ (Nat.le_of_ble_eq_true rfl) ?_
  intro r w hq
  rw [in27] at hq
  rcases hq with ⟨⟨hz, rfl⟩ | ⟨hz, rfl⟩, rfl⟩
  · exact absurd hz h
  · refine z_if_ne (tgt := 30) d_Mo_wheels_21 (by decide) (fun h => absurd (by decide) h) (fun _ => ?_)
    refine z_aload_0 d_Mo_wheels_24 ?_
    refine z_iconst (a := nI 5) d_Mo_wheels_25 (by decide) ?_
    refine z_Vi1 d_Mo_wheels_26 k_Mo_327 (by first | assumption | exact zS0_at (by assumption) (by omega) | exact zS0_at rfl (by omega)) (t_Mo_refuse (by assumption)) ⟨Nat.le_of_ble_eq_true rfl, Nat.le_of_ble_eq_true rfl, Nat.le_of_ble_eq_true rfl, Nat.le_of_ble_eq_true rfl⟩ (Nat.le_of_ble_eq_true rfl) ?_
    intro r w hq
    obtain ⟨rfl, rfl⟩ := hq
    refine z_reti d_Mo_wheels_29 ?_
    exact ⟨rfl, _, _, rfl, mqF_z (mqF_z (mqF_z mqF_r (by decide)) (by decide)) (by decide), mqJ_r, zu_same _ _ _ _⟩
theorem t_Mo_wheels (M : modOk P S) (N : modIn I nt np nl nn) (hK : ∀ t, t < nn → I 150 (33 + t) = nI (kk t)) (h1 : 2 ≤ n) (h7 : n ≤ 7) (hgv : gv = gGv (fun p => I 150 (12 + p)) (fun p => I 150 (19 + p)) (fun t => I 150 (42 + t)) kk np nn) : zEi G y_Mo_wheels prog_14_method_127_code 4 (some .int) 13 [.ref 145, .int (nI n)] (I, J, P, S) (fun r w => r = s_sum (fun _ => true) (fun i => s_ro (fun p q => zB (gv p) q) np i (n - 1) i (nI 1 <<< (nI i &&& 31))) np ∧ mW I J P S 0 w) := by
  obtain ⟨M0, ⟨M4, M4s⟩, ⟨M5, M5s⟩, ⟨M6, M6s⟩, ⟨M7, M7s⟩, ⟨M20, M20s⟩, ⟨M21, M21s⟩, ⟨M22, M22s⟩, ⟨M26, M26s⟩, ⟨M27, M27s⟩, ⟨M28, M28s⟩, ⟨M30, M30s⟩, ⟨M34, M34s⟩, ⟨M36, M36s⟩, ⟨M37, M37s⟩⟩ := id M
  obtain ⟨I1, hI1, N1, hq1, h0, e150, er, ek⟩ := mo_beg N
  obtain ⟨⟨m0, m0b⟩, ⟨m1, m1b⟩, ⟨m2, m2b⟩, ⟨m3, m3b⟩, mof, mon⟩ := id N
  have m1' : I1 150 1 = nI np := by rw [e150]; exact m1
  refine zEi_of (lv := [some (.ref 145), some (.int (nI n)), none, none]) (by decide) rfl (Nat.le_of_ble_eq_true rfl) ?_
  have loop : ∀ m j, np - j < m → j ≤ np → zA G y_Mo_wheels prog_14_method_127_code 4 (some .int) (zRm 13 0 0) (zM G 0 0 (fun r w' => ∃ x, r = some (.int x) ∧ (fun r w => r = s_sum (fun _ => true) (fun i => s_ro (fun p q => zB (gv p) q) np i (n - 1) i (nI 1 <<< (nI i &&& 31))) np ∧ mW I J P S 0 w) x w')) 34 [some (.ref 145), some (.int (nI n)), some (.int (s_sum (fun _ => true) (fun i => s_ro (fun p q => zB (gv p) q) np i (n - 1) i (nI 1 <<< (nI i &&& 31))) j)), some (.int (nI j))] [] (I1, J, P, S) 0 0 := by
    intro m
    induction m with
    | zero => intro j h; omega
    | succ m ih =>
      intro j hm hj
      refine z_iload_3 d_Mo_wheels_34 ?_
      refine z_aload_0 d_Mo_wheels_35 ?_
      refine z_getR d_Mo_wheels_36 f_Mo_35 (by first | assumption | exact zS0_at (by assumption) (by omega) | exact zS0_at rfl (by omega)) (by first | assumption | exact zS0_at (by assumption) (by omega) | exact zS0_at rfl (by omega)) ?_
      refine z_iconst (a := nI 1) d_Mo_wheels_39 (by decide) ?_
      first | refine z_ialdNv d_Mo_wheels_40 (by first | assumption | exact zS0_at (by assumption) (by omega) | exact zS0_at rfl (by omega)) (by omega) (by first | decide | omega) (by first | assumption | ((try simp (disch := omega) only [zu_same, zu_ne, zcp_ne, zfl_ne]); first | assumption | rfl)) ?_ | refine z_iald d_Mo_wheels_40 (by first | assumption | exact zS0_at (by assumption) (by omega) | exact zS0_at rfl (by omega)) (by first | assumption | exact zS0_at (by assumption) (by omega) | exact zS0_at rfl (by omega)) ?_
      refine z_icmp_ge (tgt := 65) d_Mo_wheels_41 (by decide) (fun hb => ?_) (fun hb => ?_)
      · have hb := (nI_leI (by omega) (by omega)).mp hb
        obtain rfl : j = np := by omega
        refine z_iload_2 d_Mo_wheels_65 ?_
        refine z_reti d_Mo_wheels_66 ?_
        exact ⟨rfl, _, _, rfl, hq1, mqJ_r, h0⟩
      · have hb : j < np := Nat.lt_of_not_le (fun q => hb (nI_le q (by omega)))
        have q0 := ih (j + 1) (by omega) (by omega)
        rw [s_sum_t (n := j) rfl] at q0
        refine z_iload_2 d_Mo_wheels_44 ?_
        refine z_aload_0 d_Mo_wheels_45 ?_
        refine z_iload_3 d_Mo_wheels_46 ?_
        refine z_iload_3 d_Mo_wheels_47 ?_
        refine z_iconst (a := nI 1) d_Mo_wheels_48 (by decide) ?_
        refine z_iload_3 d_Mo_wheels_49 ?_
        refine z_ishl d_Mo_wheels_50 ?_
        refine z_iload_1 d_Mo_wheels_51 ?_
        refine z_iconst (a := nI 1) d_Mo_wheels_52 (by decide) ?_
        first | refine z_isubN d_Mo_wheels_53 (by omega) ?_ | refine z_isub d_Mo_wheels_53 ?_
        refine z_Vi4 d_Mo_wheels_54 k_Mo_415 (by first | assumption | exact zS0_at (by assumption) (by omega) | exact zS0_at rfl (by omega)) (t_Mo_rolls (kk := kk) (gv := gv) M N1 (fun t ht => by rw [e150]; exact hK t ht) (by rw [e150]; exact hgv) hb (n - 1) j _ (by omega) (by omega)) (by refine ⟨?_, ?_, ?_, ?_⟩ <;> simp only [zRm] <;> omega) (Nat.le_of_ble_eq_true rfl) ?_
        intro r w hq
        obtain ⟨rfl, rfl⟩ := hq
        first | refine z_iaddN d_Mo_wheels_57 ?_ | refine z_iadd d_Mo_wheels_57 ?_
        first | refine z_istore_2 d_Mo_wheels_58 rfl ?_ | (refine z_forget_1 ?_; refine z_istore_2 d_Mo_wheels_58 rfl ?_)
        first | refine z_iinc_3 d_Mo_wheels_59 rfl (zi_inc _) ?_ | refine z_iinc_3 d_Mo_wheels_59 rfl rfl ?_
        refine z_goto (tgt := 34) d_Mo_wheels_62 (by decide) ?_
        exact q0
  refine z_aload_0 d_Mo_wheels_0 ?_
  refine z_iconst (a := nI 0) d_Mo_wheels_1 (by decide) ?_
  refine z_putI d_Mo_wheels_2 f_Mo_70 (by first | assumption | exact zS0_at (by assumption) (by omega) | exact zS0_at rfl (by omega)) ?_
  refine z_aload_0 d_Mo_wheels_5 ?_
  refine z_iconst (a := nI 0) d_Mo_wheels_6 (by decide) ?_
  refine z_putI d_Mo_wheels_7 f_Mo_73 (by first | assumption | exact zS0_at (by assumption) (by omega) | exact zS0_at rfl (by omega)) ?_
  rw [← hI1]
  refine z_iload_1 d_Mo_wheels_10 ?_
  refine z_i2l d_Mo_wheels_11 ?_
  refine z_ldc2 d_Mo_wheels_12 c_Mo_419 ?_
  refine z_ldc2 d_Mo_wheels_15 c_Mo_421 ?_
  refine z_Si3 d_Mo_wheels_18 k_Mo_105 (t_Mo_isIn) (by refine ⟨?_, ?_, ?_, ?_⟩ <;> simp only [zRm] <;> omega) (Nat.le_of_ble_eq_true rfl) ?_
  intro r w hq
  rw [in27] at hq
  rcases hq with ⟨⟨hz, rfl⟩ | ⟨hz, rfl⟩, rfl⟩
  · refine z_if_ne (tgt := 30) d_Mo_wheels_21 (by decide) (fun _ => ?_) (fun h => absurd h (by decide))
    refine z_iconst (a := nI 0) d_Mo_wheels_30 (by decide) ?_
    first | refine z_istore_2 d_Mo_wheels_31 rfl ?_ | (refine z_forget_1 ?_; refine z_istore_2 d_Mo_wheels_31 rfl ?_)
    refine z_iconst (a := nI 0) d_Mo_wheels_32 (by decide) ?_
    first | refine z_istore_3 d_Mo_wheels_33 rfl ?_ | (refine z_forget_2 ?_; refine z_istore_3 d_Mo_wheels_33 rfl ?_)
    exact loop (np + 1) 0 (by omega) (by omega)
  · exact absurd ⟨n, h1, h7, rfl⟩ hz
theorem L_wheels (h : zInv n w) : zEi G y_Tf_wheels prog_1_method_40_code 2 (some .int) 10 [.ref 0, .int a] w (fun r w1 => w1.2.2.2 = w.2.2.2 ∧ zEi G y_Mo_wheels prog_14_method_127_code 4 (some .int) 13 [.ref 145, .int a] w1 (fun r' w2 => r' = r ∧ zInv (n + 1) w2)) := by
  obtain ⟨f, d, nt, np, nl, nn, fed, mk, I, J, P, S, rfl, Z, X⟩ := h
  have M := clOk_M Z
  have hf := clOk_f Z
  have N := stR_fen X
  have N0 := stR_mod X
  have fm := stR_fm X
  obtain ⟨⟨⟨a1, r1, b1⟩, ⟨a2, r2, b2⟩, ⟨a3, r3, b3⟩, ⟨a4, r4, b4⟩⟩, ⟨⟨o, ob, ao, ro⟩, r5⟩, fw, fp, ft, fz⟩ := id fm
  by_cases ha : ∃ k, 2 ≤ k ∧ k ≤ 7 ∧ a = nI k
  case neg =>
    refine L_q Z X (t_Tf_wheels_o Z ?_) (fun I' J' e _ => ⟨_, rfl, t_Mo_wheels_o M ha⟩)
    rcases zin_or a 8 (by decide) with ⟨h | h, -⟩ | ⟨j, hj, rfl⟩
    · left
      rw [Int32.lt_iff_toInt_lt] at h ⊢
      have e0 : (0 : Int32).toInt = 0 := by decide
      have e2 : (nI 2).toInt = 2 := by decide
      omega
    · right
      exact Int32.lt_of_lt_of_le (show nI 7 < nI 8 by decide) h
    · left
      refine nI_lt ?_ (by omega)
      rcases Nat.lt_or_ge j 2 with h | h
      · exact h
      · exact absurd ⟨j, h, by omega, rfl⟩ ha
  obtain ⟨k, k2, k7, rfl⟩ := ha
  obtain ⟨kk, hk1, hk2⟩ := kk_ok (I := I) (f := f) (fun t ht => (ft t ht).1) b1
  refine L_q Z X (t_Tf_wheels Z N hk1 k2 k7 rfl) (fun I' J' e _ => ⟨_, ?_, t_Mo_wheels (kk := kk) M (modIn_c N0 (e 150 (by decide))) (fun t ht => by rw [e 150 (by decide)]; exact hk2 t ht) k2 k7 rfl⟩)
  rw [e 150 (by decide)]
  refine sum_c (fun i _ => rfl) (fun i hi _ => ?_)
  refine (ro_top b2 (fun p q hp hq => ?_) (fun p q hq h => gGv_lt b2 hq h) (by omega)).symm
  rw [gGv_c (A := I (f + 2)) (B := I (f + 3)) (C := I (f + 6)) (fun p hp => (fp p hp).1) (fun p hp => (fp p hp).2.1) (fun t ht => (ft t ht).2.1) b2 hp]
end WI0
