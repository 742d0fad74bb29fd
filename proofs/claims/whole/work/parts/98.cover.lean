/-! cover, blamed: both sides -/
section CB0
variable {G : zG} {I I' I1 I2 : Nat → Nat → Int32} {J J' J2 : Nat → Nat → Int64} {P : Nat → Nat → Option Nat} {S : List (Nat × Nat)} {f d nt np nl nn n fed mk : Nat} {a b : Int32} {w : zW} {ok : Nat → Bool}
theorem pc_cnt (s : Nat) : s_cnt (zB (nI s)) 9 = pcN s := by
  have e : ∀ n, n ≤ 9 → ((List.range n).filter (fun i => s.testBit i)).length = s_cnt (zB (nI s)) n := by
    intro n
    induction n with
    | zero => intro _; rfl
    | succ n ih =>
      intro hn
      rw [List.range_succ, List.filter_append, List.length_append, ih (by omega)]
      have q : zB (nI s) n = s.testBit n := zB_nI (by omega)
      cases hb : s.testBit n with
      | false => rw [s_cnt_f (by rw [q, hb]; decide)]; simp [hb]
      | true => rw [s_cnt_t (by rw [q, hb])]; simp [hb]
  exact (e 9 (by decide)).symm
theorem cov_step {j : Nat} : ∃ c0 : Bool, (s_cov ok j = none → c0 = true) ∧ (∀ l, s_cov ok j = some l → c0 = decide (pcN j < pcN l)) ∧ zo (s_cov ok (j + 1)) = if c0 && ok j then nI j else zo (s_cov ok j) := by
  cases h : s_cov ok j with
  | none =>
    refine ⟨true, fun _ => rfl, fun l hl => (by cases hl), ?_⟩
    rw [s_cov, h]
    dsimp only
    cases ok j <;> rfl
  | some l =>
    refine ⟨decide (pcN j < pcN l), fun hl => (by cases hl), fun l' hl => (by cases hl; rfl), ?_⟩
    rw [s_cov, h]
    dsimp only
    cases decide (pcN j < pcN l) && ok j <;> rfl
theorem cov_ex {k : Nat} (hk : ok k = true) : ∀ m, k < m → ∃ l, s_cov ok m = some l := by
  intro m
  induction m with
  | zero => intro h; exact absurd h (Nat.not_lt_zero _)
  | succ m ih =>
    intro h
    rw [s_cov]
    by_cases e : k = m
    · subst e
      split
      · rw [if_pos hk]; exact ⟨_, rfl⟩
      · split
        · exact ⟨_, rfl⟩
        · exact ⟨_, rfl⟩
    · obtain ⟨l, hl⟩ := ih (by omega)
      rw [hl]
      dsimp only
      split
      · exact ⟨_, rfl⟩
      · exact ⟨_, rfl⟩
theorem pc_full : ∀ m, m ≤ 7 → ∀ k, k < 2 ^ m - 1 → pcN k < pcN (2 ^ m - 1) := by decide +kernel
theorem cov_bl (hp : np ≤ 7) : ∀ m, m ≤ 2 ^ np → (s_cov ok m = none → s_bl ok (2 ^ np - 1) m = 2 ^ np - 1) ∧ (∀ l, s_cov ok m = some l → s_bl ok (2 ^ np - 1) m = l) := by
  intro m
  induction m with
  | zero => intro _; exact ⟨fun _ => rfl, fun l h => by cases h⟩
  | succ m ih =>
    intro hm
    obtain ⟨h1, h2⟩ := ih (by omega)
    rw [s_cov, s_bl]
    cases hc : s_cov ok m with
    | none =>
      dsimp only
      rw [h1 hc]
      cases hk : ok m with
      | false => refine ⟨fun _ => (by simp), fun l h => (by cases h)⟩
      | true =>
        refine ⟨fun h => (by cases h), fun l h => ?_⟩
        cases h
        by_cases e : m < 2 ^ np - 1
        · rw [if_pos (by rw [decide_eq_true (pc_full np hp m e)]; rfl)]
        · have e2 : m = 2 ^ np - 1 := by omega
          rw [← e2]; simp
    | some l =>
      dsimp only
      rw [h2 l hc]
      by_cases e : (decide (pcN m < pcN l) && ok m) = true
      · rw [if_pos e, if_pos e]
        exact ⟨fun h => (by cases h), fun l' h => (by cases h; rfl)⟩
      · rw [if_neg e, if_neg e]
        exact ⟨fun h => (by cases h), fun l' h => (by cases h; rfl)⟩
theorem t_Mo_covering (M : modOk P S) (N : modIn I nt np nl nn) : zEi G y_Mo_covering prog_14_method_119_code 5 (some .int) 3 [.ref 145] (I, J, P, S) (fun r w => r = zo (s_cov (fun s => decide (∀ i, i < np → ¬ nI s &&& I 150 (12 + i) = 0)) (2 ^ nt)) ∧ w = (I, J, P, S)) := by
  obtain ⟨M0, ⟨M4, M4s⟩, ⟨M5, M5s⟩, ⟨M6, M6s⟩, ⟨M7, M7s⟩, ⟨M20, M20s⟩, ⟨M21, M21s⟩, ⟨M22, M22s⟩, ⟨M26, M26s⟩, ⟨M27, M27s⟩, ⟨M28, M28s⟩, ⟨M30, M30s⟩, ⟨M34, M34s⟩, ⟨M36, M36s⟩, ⟨M37, M37s⟩⟩ := id M
  obtain ⟨⟨m0, m0b⟩, ⟨m1, m1b⟩, ⟨m2, m2b⟩, ⟨m3, m3b⟩, mof, mon⟩ := id N
  have h64 : 2 ^ nt ≤ 128 := Nat.pow_le_pow_right (n := 2) (by decide) (show nt ≤ 7 by omega)
  have h1p : 0 < 2 ^ nt := Nat.pow_pos (by decide)
  obtain ⟨ok, hok⟩ : ∃ ok : Nat → Bool, ok = (fun s => decide (∀ i, i < np → ¬ nI s &&& I 150 (12 + i) = 0)) := ⟨_, rfl⟩
  obtain ⟨okp, hokp⟩ : ∃ okp : Nat → Nat → Bool, okp = (fun p s => decide (∀ i, i < p → ¬ nI s &&& I 150 (12 + i) = 0)) := ⟨_, rfl⟩
  have hfull : ∀ s, okp np s = ok s := fun s => by rw [hok, hokp]
  have hmono : ∀ p s, p ≤ np → okp p s = false → ok s = false := fun p s hp h => by
    rw [hokp] at h
    rw [hok]
    exact decide_eq_false (fun q => of_decide_eq_false h (fun i hi => q i (by omega)))
  rw [← hok]
  refine zEi_of (lv := [some (.ref 145), none, none, none, none]) (by decide) rfl (Nat.le_of_ble_eq_true rfl) ?_
  have loop : ∀ m j, (2^nt) - j < m → j ≤ (2^nt) → zA G y_Mo_covering prog_14_method_119_code 5 (some .int) (zRm 3 0 0) (zM G 0 0 (fun r w' => ∃ x, r = some (.int x) ∧ (fun r w => r = zo (s_cov ok (2 ^ nt)) ∧ w = (I, J, P, S)) x w')) 4 [some (.ref 145), some (.int (zo (s_cov ok j))), some (.int (nI j)), none, none] [] (I, J, P, S) 0 0 := by
    intro m
    induction m with
    | zero => intro j h; omega
    | succ m ih =>
      intro j hm hj
      refine z_iload_2 d_Mo_covering_4 ?_
      refine z_iconst (a := nI 1) d_Mo_covering_5 (by decide) ?_
      refine z_aload_0 d_Mo_covering_6 ?_
      refine z_getR d_Mo_covering_7 f_Mo_35 (by first | assumption | exact zS0_at (by assumption) (by omega) | exact zS0_at rfl (by omega)) (by first | assumption | exact zS0_at (by assumption) (by omega) | exact zS0_at rfl (by omega)) ?_
      refine z_iconst (a := nI 0) d_Mo_covering_10 (by decide) ?_
      first | refine z_ialdNv d_Mo_covering_11 (by first | assumption | exact zS0_at (by assumption) (by omega) | exact zS0_at rfl (by omega)) (by omega) (by first | decide | omega) (by first | assumption | ((try simp (disch := omega) only [zu_same, zu_ne, zcp_ne, zfl_ne]); first | assumption | rfl)) ?_ | refine z_iald d_Mo_covering_11 (by first | assumption | exact zS0_at (by assumption) (by omega) | exact zS0_at rfl (by omega)) (by first | assumption | exact zS0_at (by assumption) (by omega) | exact zS0_at rfl (by omega)) ?_
      refine z_ishl d_Mo_covering_12 ?_
      rw [nx_sh nt (by omega)]
      refine z_icmp_ge (tgt := 94) d_Mo_covering_13 (by decide) (fun hb => ?_) (fun hb => ?_)
      · have hb := (nI_leI (by omega) (by omega)).mp hb
        obtain rfl : j = 2 ^ nt := by omega
        refine z_iload_1 d_Mo_covering_94 ?_
        refine z_reti d_Mo_covering_95 ?_
        exact ⟨rfl, rfl⟩
      · have hb : j < 2 ^ nt := Nat.lt_of_not_le (fun q => hb (nI_le q (by omega)))
        have q0 := ih (j + 1) (by omega) (by omega)
        obtain ⟨c0, hc1, hc2, hc3⟩ := cov_step (ok := ok) (j := j)
        have fin : ∀ (c : Bool) (pp : Nat), c = (c0 && ok j) → zA G y_Mo_covering prog_14_method_119_code 5 (some .int) (zRm 3 0 0) (zM G 0 0 (fun r w' => ∃ x, r = some (.int x) ∧ (fun r w => r = zo (s_cov ok (2 ^ nt)) ∧ w = (I, J, P, S)) x w')) 82 [some (.ref 145), some (.int (zo (s_cov ok j))), some (.int (nI j)), some (.int (if c then nI 1 else nI 0)), some (.int (nI pp))] [] (I, J, P, S) 0 0 := by
          intro c pp hc
          cases c with
          | true =>
            rw [if_pos (by rw [← hc])] at hc3
            rw [if_pos rfl]
            refine z_iload_3 d_Mo_covering_82 ?_
            refine z_if_eq (tgt := 88) d_Mo_covering_83 (by decide) (fun h => absurd h (by decide)) (fun _ => ?_)
            refine z_iload_2 d_Mo_covering_86 ?_
            first | refine z_istore_1 d_Mo_covering_87 rfl ?_ | (refine z_forget_0 ?_; refine z_istore_1 d_Mo_covering_87 rfl ?_)
            first | refine z_iinc_2 d_Mo_covering_88 rfl (zi_inc _) ?_ | refine z_iinc_2 d_Mo_covering_88 rfl rfl ?_
            refine z_goto (tgt := 4) d_Mo_covering_91 (by decide) ?_
            refine z_forget_3 ?_
            refine z_forget_4 ?_
            rw [hc3] at q0
            exact q0
          | false =>
            rw [if_neg (by rw [← hc]; decide)] at hc3
            rw [if_neg (by decide)]
            refine z_iload_3 d_Mo_covering_82 ?_
            refine z_if_eq (tgt := 88) d_Mo_covering_83 (by decide) (fun _ => ?_) (fun h => absurd (by decide) h)
            first | refine z_iinc_2 d_Mo_covering_88 rfl (zi_inc _) ?_ | refine z_iinc_2 d_Mo_covering_88 rfl rfl ?_
            refine z_goto (tgt := 4) d_Mo_covering_91 (by decide) ?_
            refine z_forget_3 ?_
            refine z_forget_4 ?_
            rw [hc3] at q0
            exact q0
        have inn : ∀ z pp, np - pp < z → pp ≤ np → zA G y_Mo_covering prog_14_method_119_code 5 (some .int) (zRm 3 0 0) (zM G 0 0 (fun r w' => ∃ x, r = some (.int x) ∧ (fun r w => r = zo (s_cov ok (2 ^ nt)) ∧ w = (I, J, P, S)) x w')) 40 [some (.ref 145), some (.int (zo (s_cov ok j))), some (.int (nI j)), some (.int (if c0 && okp pp j then nI 1 else nI 0)), some (.int (nI pp))] [] (I, J, P, S) 0 0 := by
          intro z
          induction z with
          | zero => intro pp h; exact absurd h (Nat.not_lt_zero _)
          | succ z ihz =>
            intro pp hz hpp
            refine z_iload_4 d_Mo_covering_40 ?_
            refine z_aload_0 d_Mo_covering_42 ?_
            refine z_getR d_Mo_covering_43 f_Mo_35 (by first | assumption | exact zS0_at (by assumption) (by omega) | exact zS0_at rfl (by omega)) (by first | assumption | exact zS0_at (by assumption) (by omega) | exact zS0_at rfl (by omega)) ?_
            refine z_iconst (a := nI 1) d_Mo_covering_46 (by decide) ?_
            first | refine z_ialdNv d_Mo_covering_47 (by first | assumption | exact zS0_at (by assumption) (by omega) | exact zS0_at rfl (by omega)) (by omega) (by first | decide | omega) (by first | assumption | ((try simp (disch := omega) only [zu_same, zu_ne, zcp_ne, zfl_ne]); first | assumption | rfl)) ?_ | refine z_iald d_Mo_covering_47 (by first | assumption | exact zS0_at (by assumption) (by omega) | exact zS0_at rfl (by omega)) (by first | assumption | exact zS0_at (by assumption) (by omega) | exact zS0_at rfl (by omega)) ?_
            refine z_icmp_ge (tgt := 82) d_Mo_covering_48 (by decide) (fun hb2 => ?_) (fun hb2 => ?_)
            · have hb2 := (nI_leI (by omega) (by omega)).mp hb2
              obtain rfl : pp = np := by omega
              exact fin _ _ (by rw [hfull])
            · have hb2 : pp < np := Nat.lt_of_not_le (fun q => hb2 (nI_le q (by omega)))
              cases hcc : (c0 && okp pp j) with
              | false =>
                rw [if_neg (by decide)]
                refine z_iload_3 d_Mo_covering_51 ?_
                refine z_if_eq (tgt := 82) d_Mo_covering_52 (by decide) (fun _ => ?_) (fun h => absurd (by decide) h)
                have q := fin false pp (by
                  rcases (Bool.and_eq_false_iff.mp hcc) with e | e
                  · rw [e]; rfl
                  · rw [hmono pp j (by omega) e]; exact (Bool.and_false _).symm)
                rw [if_neg (by decide)] at q
                exact q
              | true =>
                rw [if_pos rfl]
                obtain ⟨hcA, hcB⟩ := (Bool.and_eq_true _ _).mp hcc
                have q := ihz (pp + 1) (by omega) (by omega)
                rw [hcA, Bool.true_and] at q
                rw [hokp] at hcB
                have hcB := of_decide_eq_true hcB
                refine z_iload_3 d_Mo_covering_51 ?_
                refine z_if_eq (tgt := 82) d_Mo_covering_52 (by decide) (fun h => absurd h (by decide)) (fun _ => ?_)
                refine z_iload_2 d_Mo_covering_55 ?_
                refine z_aload_0 d_Mo_covering_56 ?_
                refine z_getR d_Mo_covering_57 f_Mo_35 (by first | assumption | exact zS0_at (by assumption) (by omega) | exact zS0_at rfl (by omega)) (by first | assumption | exact zS0_at (by assumption) (by omega) | exact zS0_at rfl (by omega)) ?_
                refine z_bipush (a := nI 12) d_Mo_covering_60 (by decide) ?_
                refine z_iload_4 d_Mo_covering_62 ?_
                first | refine z_iaddN d_Mo_covering_64 ?_ | refine z_iadd d_Mo_covering_64 ?_
                first | refine z_ialdNv d_Mo_covering_65 (by first | assumption | exact zS0_at (by assumption) (by omega) | exact zS0_at rfl (by omega)) (by omega) (by first | decide | omega) (by first | assumption | ((try simp (disch := omega) only [zu_same, zu_ne, zcp_ne, zfl_ne]); first | assumption | rfl)) ?_ | refine z_iald d_Mo_covering_65 (by first | assumption | exact zS0_at (by assumption) (by omega) | exact zS0_at rfl (by omega)) (by first | assumption | exact zS0_at (by assumption) (by omega) | exact zS0_at rfl (by omega)) ?_
                refine z_iand d_Mo_covering_66 ?_
                refine z_if_eq (tgt := 74) d_Mo_covering_67 (by decide) (fun hx => ?_) (fun hx => ?_)
                · rw [if_neg (by rw [hokp, decide_eq_true_eq]; intro h; exact h pp (by omega) hx)] at q
                  refine z_iconst (a := nI 0) d_Mo_covering_74 (by decide) ?_
                  first | refine z_istore_3 d_Mo_covering_75 rfl ?_ | (refine z_forget_2 ?_; refine z_istore_3 d_Mo_covering_75 rfl ?_)
                  first | refine z_iinc_4 d_Mo_covering_76 rfl (zi_inc _) ?_ | refine z_iinc_4 d_Mo_covering_76 rfl rfl ?_
                  refine z_goto (tgt := 40) d_Mo_covering_79 (by decide) ?_
                  exact q
                · rw [if_pos (by rw [hokp]; refine decide_eq_true (fun i hi => ?_); rcases Nat.lt_or_ge i pp with e | e; exact hcB i e; (obtain rfl : i = pp := by omega); exact hx)] at q
                  refine z_iconst (a := nI 1) d_Mo_covering_70 (by decide) ?_
                  refine z_goto (tgt := 75) d_Mo_covering_71 (by decide) ?_
                  first | refine z_istore_3 d_Mo_covering_75 rfl ?_ | (refine z_forget_2 ?_; refine z_istore_3 d_Mo_covering_75 rfl ?_)
                  first | refine z_iinc_4 d_Mo_covering_76 rfl (zi_inc _) ?_ | refine z_iinc_4 d_Mo_covering_76 rfl rfl ?_
                  refine z_goto (tgt := 40) d_Mo_covering_79 (by decide) ?_
                  exact q
        refine z_iload_1 d_Mo_covering_16 ?_
        cases hcv : s_cov ok j with
        | none =>
          rw [hcv] at inn
          have h1 := hc1 hcv
          have q := inn (np + 1) 0 (by omega) (by omega)
          have e0 : okp 0 j = true := by rw [hokp]; exact decide_eq_true (fun i hi => absurd hi (Nat.not_lt_zero _))
          rw [h1, e0] at q
          dsimp only [zo] at q ⊢
          refine z_if_lt (tgt := 31) d_Mo_covering_17 (by decide) (fun _ => ?_) (fun h => absurd (by decide) h)
          refine z_iconst (a := nI 1) d_Mo_covering_31 (by decide) ?_
          refine z_goto (tgt := 36) d_Mo_covering_32 (by decide) ?_
          first | refine z_istore_3 d_Mo_covering_36 rfl ?_ | (refine z_forget_2 ?_; refine z_istore_3 d_Mo_covering_36 rfl ?_)
          refine z_iconst (a := nI 0) d_Mo_covering_37 (by decide) ?_
          first | refine z_istore_4 d_Mo_covering_38 rfl ?_ | (refine z_forget_3 ?_; refine z_istore_4 d_Mo_covering_38 rfl ?_)
          exact q
        | some l =>
          rw [hcv] at inn
          have hl := (s_cov_lt j l hcv).1
          have h1 := hc2 l hcv
          have q := inn (np + 1) 0 (by omega) (by omega)
          have e0 : okp 0 j = true := by rw [hokp]; exact decide_eq_true (fun i hi => absurd hi (Nat.not_lt_zero _))
          have hpj := pc_le j (by omega)
          have hpl := pc_le l (by omega)
          rw [h1, e0, Bool.and_true] at q
          dsimp only [zo] at q ⊢
          refine z_if_lt (tgt := 31) d_Mo_covering_17 (by decide) (fun h => absurd h (nI_pos (by omega))) (fun _ => ?_)
          refine z_iload_2 d_Mo_covering_20 ?_
          refine z_Si1 d_Mo_covering_21 k_Mo_396 (t_Mo_sizeOf) ⟨Nat.le_of_ble_eq_true rfl, Nat.le_of_ble_eq_true rfl, Nat.le_of_ble_eq_true rfl, Nat.le_of_ble_eq_true rfl⟩ (Nat.le_of_ble_eq_true rfl) ?_
          intro r w hq
          obtain ⟨rfl, rfl⟩ := hq
          refine z_iload_1 d_Mo_covering_24 ?_
          refine z_Si1 d_Mo_covering_25 k_Mo_396 (t_Mo_sizeOf) ⟨Nat.le_of_ble_eq_true rfl, Nat.le_of_ble_eq_true rfl, Nat.le_of_ble_eq_true rfl, Nat.le_of_ble_eq_true rfl⟩ (Nat.le_of_ble_eq_true rfl) ?_
          intro r w hq
          obtain ⟨rfl, rfl⟩ := hq
          rw [pc_cnt, pc_cnt]
          refine z_icmp_ge (tgt := 35) d_Mo_covering_28 (by decide) (fun hs => ?_) (fun hs => ?_)
          · have hs := (nI_leI (by omega) (by omega)).mp hs
            rw [if_neg (by rw [decide_eq_true_eq]; omega)] at q
            refine z_iconst (a := nI 0) d_Mo_covering_35 (by decide) ?_
            first | refine z_istore_3 d_Mo_covering_36 rfl ?_ | (refine z_forget_2 ?_; refine z_istore_3 d_Mo_covering_36 rfl ?_)
            refine z_iconst (a := nI 0) d_Mo_covering_37 (by decide) ?_
            first | refine z_istore_4 d_Mo_covering_38 rfl ?_ | (refine z_forget_3 ?_; refine z_istore_4 d_Mo_covering_38 rfl ?_)
            exact q
          · have hs : pcN j < pcN l := Nat.lt_of_not_le (fun q => hs (nI_le q (by omega)))
            rw [if_pos (decide_eq_true hs)] at q
            refine z_iconst (a := nI 1) d_Mo_covering_31 (by decide) ?_
            refine z_goto (tgt := 36) d_Mo_covering_32 (by decide) ?_
            first | refine z_istore_3 d_Mo_covering_36 rfl ?_ | (refine z_forget_2 ?_; refine z_istore_3 d_Mo_covering_36 rfl ?_)
            refine z_iconst (a := nI 0) d_Mo_covering_37 (by decide) ?_
            first | refine z_istore_4 d_Mo_covering_38 rfl ?_ | (refine z_forget_3 ?_; refine z_istore_4 d_Mo_covering_38 rfl ?_)
            exact q
  refine z_iconst (a := -1) d_Mo_covering_0 (by decide) ?_
  first | refine z_istore_1 d_Mo_covering_1 rfl ?_ | (refine z_forget_0 ?_; refine z_istore_1 d_Mo_covering_1 rfl ?_)
  refine z_iconst (a := nI 0) d_Mo_covering_2 (by decide) ?_
  first | refine z_istore_2 d_Mo_covering_3 rfl ?_ | (refine z_forget_1 ?_; refine z_istore_2 d_Mo_covering_3 rfl ?_)
  exact loop (2 ^ nt + 1) 0 (by omega) (by omega)
theorem t_Mo_blaming (M : modOk P S) (N : modIn I nt np nl nn) : zEi G y_Mo_blaming prog_14_method_122_code 5 (some .int) 3 [.ref 145] (I, J, P, S) (fun r w => r = zo (s_cov (fun s => decide (∀ i, i < nn → (I 150 (60 + i) = 0 ∨ ¬ nI s &&& I 150 (69 + i) = 0))) (2 ^ np)) ∧ w = (I, J, P, S)) := by
  obtain ⟨M0, ⟨M4, M4s⟩, ⟨M5, M5s⟩, ⟨M6, M6s⟩, ⟨M7, M7s⟩, ⟨M20, M20s⟩, ⟨M21, M21s⟩, ⟨M22, M22s⟩, ⟨M26, M26s⟩, ⟨M27, M27s⟩, ⟨M28, M28s⟩, ⟨M30, M30s⟩, ⟨M34, M34s⟩, ⟨M36, M36s⟩, ⟨M37, M37s⟩⟩ := id M
  obtain ⟨⟨m0, m0b⟩, ⟨m1, m1b⟩, ⟨m2, m2b⟩, ⟨m3, m3b⟩, mof, mon⟩ := id N
  have h64 : 2 ^ np ≤ 128 := Nat.pow_le_pow_right (n := 2) (by decide) (show np ≤ 7 by omega)
  have h1p : 0 < 2 ^ np := Nat.pow_pos (by decide)
  obtain ⟨ok, hok⟩ : ∃ ok : Nat → Bool, ok = (fun s => decide (∀ i, i < nn → (I 150 (60 + i) = 0 ∨ ¬ nI s &&& I 150 (69 + i) = 0))) := ⟨_, rfl⟩
  obtain ⟨okp, hokp⟩ : ∃ okp : Nat → Nat → Bool, okp = (fun p s => decide (∀ i, i < p → (I 150 (60 + i) = 0 ∨ ¬ nI s &&& I 150 (69 + i) = 0))) := ⟨_, rfl⟩
  have hfull : ∀ s, okp nn s = ok s := fun s => by rw [hok, hokp]
  have hmono : ∀ p s, p ≤ nn → okp p s = false → ok s = false := fun p s hp h => by
    rw [hokp] at h
    rw [hok]
    exact decide_eq_false (fun q => of_decide_eq_false h (fun i hi => q i (by omega)))
  rw [← hok]
  refine zEi_of (lv := [some (.ref 145), none, none, none, none]) (by decide) rfl (Nat.le_of_ble_eq_true rfl) ?_
  have loop : ∀ m j, (2^np) - j < m → j ≤ (2^np) → zA G y_Mo_blaming prog_14_method_122_code 5 (some .int) (zRm 3 0 0) (zM G 0 0 (fun r w' => ∃ x, r = some (.int x) ∧ (fun r w => r = zo (s_cov ok (2 ^ np)) ∧ w = (I, J, P, S)) x w')) 4 [some (.ref 145), some (.int (zo (s_cov ok j))), some (.int (nI j)), none, none] [] (I, J, P, S) 0 0 := by
    intro m
    induction m with
    | zero => intro j h; omega
    | succ m ih =>
      intro j hm hj
      refine z_iload_2 d_Mo_blaming_4 ?_
      refine z_iconst (a := nI 1) d_Mo_blaming_5 (by decide) ?_
      refine z_aload_0 d_Mo_blaming_6 ?_
      refine z_getR d_Mo_blaming_7 f_Mo_35 (by first | assumption | exact zS0_at (by assumption) (by omega) | exact zS0_at rfl (by omega)) (by first | assumption | exact zS0_at (by assumption) (by omega) | exact zS0_at rfl (by omega)) ?_
      refine z_iconst (a := nI 1) d_Mo_blaming_10 (by decide) ?_
      first | refine z_ialdNv d_Mo_blaming_11 (by first | assumption | exact zS0_at (by assumption) (by omega) | exact zS0_at rfl (by omega)) (by omega) (by first | decide | omega) (by first | assumption | ((try simp (disch := omega) only [zu_same, zu_ne, zcp_ne, zfl_ne]); first | assumption | rfl)) ?_ | refine z_iald d_Mo_blaming_11 (by first | assumption | exact zS0_at (by assumption) (by omega) | exact zS0_at rfl (by omega)) (by first | assumption | exact zS0_at (by assumption) (by omega) | exact zS0_at rfl (by omega)) ?_
      refine z_ishl d_Mo_blaming_12 ?_
      rw [nx_sh np (by omega)]
      refine z_icmp_ge (tgt := 107) d_Mo_blaming_13 (by decide) (fun hb => ?_) (fun hb => ?_)
      · have hb := (nI_leI (by omega) (by omega)).mp hb
        obtain rfl : j = 2 ^ np := by omega
        refine z_iload_1 d_Mo_blaming_107 ?_
        refine z_reti d_Mo_blaming_108 ?_
        exact ⟨rfl, rfl⟩
      · have hb : j < 2 ^ np := Nat.lt_of_not_le (fun q => hb (nI_le q (by omega)))
        have q0 := ih (j + 1) (by omega) (by omega)
        obtain ⟨c0, hc1, hc2, hc3⟩ := cov_step (ok := ok) (j := j)
        have fin : ∀ (c : Bool) (pp : Nat), c = (c0 && ok j) → zA G y_Mo_blaming prog_14_method_122_code 5 (some .int) (zRm 3 0 0) (zM G 0 0 (fun r w' => ∃ x, r = some (.int x) ∧ (fun r w => r = zo (s_cov ok (2 ^ np)) ∧ w = (I, J, P, S)) x w')) 95 [some (.ref 145), some (.int (zo (s_cov ok j))), some (.int (nI j)), some (.int (if c then nI 1 else nI 0)), some (.int (nI pp))] [] (I, J, P, S) 0 0 := by
          intro c pp hc
          cases c with
          | true =>
            rw [if_pos (by rw [← hc])] at hc3
            rw [if_pos rfl]
            refine z_iload_3 d_Mo_blaming_95 ?_
            refine z_if_eq (tgt := 101) d_Mo_blaming_96 (by decide) (fun h => absurd h (by decide)) (fun _ => ?_)
            refine z_iload_2 d_Mo_blaming_99 ?_
            first | refine z_istore_1 d_Mo_blaming_100 rfl ?_ | (refine z_forget_0 ?_; refine z_istore_1 d_Mo_blaming_100 rfl ?_)
            first | refine z_iinc_2 d_Mo_blaming_101 rfl (zi_inc _) ?_ | refine z_iinc_2 d_Mo_blaming_101 rfl rfl ?_
            refine z_goto (tgt := 4) d_Mo_blaming_104 (by decide) ?_
            refine z_forget_3 ?_
            refine z_forget_4 ?_
            rw [hc3] at q0
            exact q0
          | false =>
            rw [if_neg (by rw [← hc]; decide)] at hc3
            rw [if_neg (by decide)]
            refine z_iload_3 d_Mo_blaming_95 ?_
            refine z_if_eq (tgt := 101) d_Mo_blaming_96 (by decide) (fun _ => ?_) (fun h => absurd (by decide) h)
            first | refine z_iinc_2 d_Mo_blaming_101 rfl (zi_inc _) ?_ | refine z_iinc_2 d_Mo_blaming_101 rfl rfl ?_
            refine z_goto (tgt := 4) d_Mo_blaming_104 (by decide) ?_
            refine z_forget_3 ?_
            refine z_forget_4 ?_
            rw [hc3] at q0
            exact q0
        have inn : ∀ z pp, nn - pp < z → pp ≤ nn → zA G y_Mo_blaming prog_14_method_122_code 5 (some .int) (zRm 3 0 0) (zM G 0 0 (fun r w' => ∃ x, r = some (.int x) ∧ (fun r w => r = zo (s_cov ok (2 ^ np)) ∧ w = (I, J, P, S)) x w')) 40 [some (.ref 145), some (.int (zo (s_cov ok j))), some (.int (nI j)), some (.int (if c0 && okp pp j then nI 1 else nI 0)), some (.int (nI pp))] [] (I, J, P, S) 0 0 := by
          intro z
          induction z with
          | zero => intro pp h; exact absurd h (Nat.not_lt_zero _)
          | succ z ihz =>
            intro pp hz hpp
            refine z_iload_4 d_Mo_blaming_40 ?_
            refine z_aload_0 d_Mo_blaming_42 ?_
            refine z_getR d_Mo_blaming_43 f_Mo_35 (by first | assumption | exact zS0_at (by assumption) (by omega) | exact zS0_at rfl (by omega)) (by first | assumption | exact zS0_at (by assumption) (by omega) | exact zS0_at rfl (by omega)) ?_
            refine z_iconst (a := nI 3) d_Mo_blaming_46 (by decide) ?_
            first | refine z_ialdNv d_Mo_blaming_47 (by first | assumption | exact zS0_at (by assumption) (by omega) | exact zS0_at rfl (by omega)) (by omega) (by first | decide | omega) (by first | assumption | ((try simp (disch := omega) only [zu_same, zu_ne, zcp_ne, zfl_ne]); first | assumption | rfl)) ?_ | refine z_iald d_Mo_blaming_47 (by first | assumption | exact zS0_at (by assumption) (by omega) | exact zS0_at rfl (by omega)) (by first | assumption | exact zS0_at (by assumption) (by omega) | exact zS0_at rfl (by omega)) ?_
            refine z_icmp_ge (tgt := 95) d_Mo_blaming_48 (by decide) (fun hb2 => ?_) (fun hb2 => ?_)
            · have hb2 := (nI_leI (by omega) (by omega)).mp hb2
              obtain rfl : pp = nn := by omega
              exact fin _ _ (by rw [hfull])
            · have hb2 : pp < nn := Nat.lt_of_not_le (fun q => hb2 (nI_le q (by omega)))
              cases hcc : (c0 && okp pp j) with
              | false =>
                rw [if_neg (by decide)]
                refine z_iload_3 d_Mo_blaming_51 ?_
                refine z_if_eq (tgt := 95) d_Mo_blaming_52 (by decide) (fun _ => ?_) (fun h => absurd (by decide) h)
                have q := fin false pp (by
                  rcases (Bool.and_eq_false_iff.mp hcc) with e | e
                  · rw [e]; rfl
                  · rw [hmono pp j (by omega) e]; exact (Bool.and_false _).symm)
                rw [if_neg (by decide)] at q
                exact q
              | true =>
                rw [if_pos rfl]
                obtain ⟨hcA, hcB⟩ := (Bool.and_eq_true _ _).mp hcc
                have q := ihz (pp + 1) (by omega) (by omega)
                rw [hcA, Bool.true_and] at q
                rw [hokp] at hcB
                have hcB := of_decide_eq_true hcB
                refine z_iload_3 d_Mo_blaming_51 ?_
                refine z_if_eq (tgt := 95) d_Mo_blaming_52 (by decide) (fun h => absurd h (by decide)) (fun _ => ?_)
                have yes : (I 150 (60 + pp) = 0 ∨ ¬ nI j &&& I 150 (69 + pp) = 0) → okp (pp + 1) j = true := fun hx => by
                  rw [hokp]
                  refine decide_eq_true (fun i hi => ?_)
                  rcases Nat.lt_or_ge i pp with e | e
                  · exact hcB i e
                  · obtain rfl : i = pp := by omega
                    exact hx
                refine z_aload_0 d_Mo_blaming_55 ?_
                refine z_getR d_Mo_blaming_56 f_Mo_35 (by first | assumption | exact zS0_at (by assumption) (by omega) | exact zS0_at rfl (by omega)) (by first | assumption | exact zS0_at (by assumption) (by omega) | exact zS0_at rfl (by omega)) ?_
                refine z_bipush (a := nI 60) d_Mo_blaming_59 (by decide) ?_
                refine z_iload_4 d_Mo_blaming_61 ?_
                first | refine z_iaddN d_Mo_blaming_63 ?_ | refine z_iadd d_Mo_blaming_63 ?_
                first | refine z_ialdNv d_Mo_blaming_64 (by first | assumption | exact zS0_at (by assumption) (by omega) | exact zS0_at rfl (by omega)) (by omega) (by first | decide | omega) (by first | assumption | ((try simp (disch := omega) only [zu_same, zu_ne, zcp_ne, zfl_ne]); first | assumption | rfl)) ?_ | refine z_iald d_Mo_blaming_64 (by first | assumption | exact zS0_at (by assumption) (by omega) | exact zS0_at rfl (by omega)) (by first | assumption | exact zS0_at (by assumption) (by omega) | exact zS0_at rfl (by omega)) ?_
                refine z_if_eq (tgt := 83) d_Mo_blaming_65 (by decide) (fun hx => ?_) (fun hx => ?_)
                · rw [if_pos (yes (Or.inl hx))] at q
                  refine z_iconst (a := nI 1) d_Mo_blaming_83 (by decide) ?_
                  refine z_goto (tgt := 88) d_Mo_blaming_84 (by decide) ?_
                  first | refine z_istore_3 d_Mo_blaming_88 rfl ?_ | (refine z_forget_2 ?_; refine z_istore_3 d_Mo_blaming_88 rfl ?_)
                  first | refine z_iinc_4 d_Mo_blaming_89 rfl (zi_inc _) ?_ | refine z_iinc_4 d_Mo_blaming_89 rfl rfl ?_
                  refine z_goto (tgt := 40) d_Mo_blaming_92 (by decide) ?_
                  exact q
                · refine z_iload_2 d_Mo_blaming_68 ?_
                  refine z_aload_0 d_Mo_blaming_69 ?_
                  refine z_getR d_Mo_blaming_70 f_Mo_35 (by first | assumption | exact zS0_at (by assumption) (by omega) | exact zS0_at rfl (by omega)) (by first | assumption | exact zS0_at (by assumption) (by omega) | exact zS0_at rfl (by omega)) ?_
                  refine z_bipush (a := nI 69) d_Mo_blaming_73 (by decide) ?_
                  refine z_iload_4 d_Mo_blaming_75 ?_
                  first | refine z_iaddN d_Mo_blaming_77 ?_ | refine z_iadd d_Mo_blaming_77 ?_
                  first | refine z_ialdNv d_Mo_blaming_78 (by first | assumption | exact zS0_at (by assumption) (by omega) | exact zS0_at rfl (by omega)) (by omega) (by first | decide | omega) (by first | assumption | ((try simp (disch := omega) only [zu_same, zu_ne, zcp_ne, zfl_ne]); first | assumption | rfl)) ?_ | refine z_iald d_Mo_blaming_78 (by first | assumption | exact zS0_at (by assumption) (by omega) | exact zS0_at rfl (by omega)) (by first | assumption | exact zS0_at (by assumption) (by omega) | exact zS0_at rfl (by omega)) ?_
                  refine z_iand d_Mo_blaming_79 ?_
                  refine z_if_eq (tgt := 87) d_Mo_blaming_80 (by decide) (fun hx2 => ?_) (fun hx2 => ?_)
                  · rw [if_neg (by rw [hokp, decide_eq_true_eq]; intro h; rcases h pp (by omega) with e | e; exact hx e; exact e hx2)] at q
                    refine z_iconst (a := nI 0) d_Mo_blaming_87 (by decide) ?_
                    first | refine z_istore_3 d_Mo_blaming_88 rfl ?_ | (refine z_forget_2 ?_; refine z_istore_3 d_Mo_blaming_88 rfl ?_)
                    first | refine z_iinc_4 d_Mo_blaming_89 rfl (zi_inc _) ?_ | refine z_iinc_4 d_Mo_blaming_89 rfl rfl ?_
                    refine z_goto (tgt := 40) d_Mo_blaming_92 (by decide) ?_
                    exact q
                  · rw [if_pos (yes (Or.inr hx2))] at q
                    refine z_iconst (a := nI 1) d_Mo_blaming_83 (by decide) ?_
                    refine z_goto (tgt := 88) d_Mo_blaming_84 (by decide) ?_
                    first | refine z_istore_3 d_Mo_blaming_88 rfl ?_ | (refine z_forget_2 ?_; refine z_istore_3 d_Mo_blaming_88 rfl ?_)
                    first | refine z_iinc_4 d_Mo_blaming_89 rfl (zi_inc _) ?_ | refine z_iinc_4 d_Mo_blaming_89 rfl rfl ?_
                    refine z_goto (tgt := 40) d_Mo_blaming_92 (by decide) ?_
                    exact q
        refine z_iload_1 d_Mo_blaming_16 ?_
        cases hcv : s_cov ok j with
        | none =>
          rw [hcv] at inn
          have h1 := hc1 hcv
          have q := inn (nn + 1) 0 (by omega) (by omega)
          have e0 : okp 0 j = true := by rw [hokp]; exact decide_eq_true (fun i hi => absurd hi (Nat.not_lt_zero _))
          rw [h1, e0] at q
          dsimp only [zo] at q ⊢
          refine z_if_lt (tgt := 31) d_Mo_blaming_17 (by decide) (fun _ => ?_) (fun h => absurd (by decide) h)
          refine z_iconst (a := nI 1) d_Mo_blaming_31 (by decide) ?_
          refine z_goto (tgt := 36) d_Mo_blaming_32 (by decide) ?_
          first | refine z_istore_3 d_Mo_blaming_36 rfl ?_ | (refine z_forget_2 ?_; refine z_istore_3 d_Mo_blaming_36 rfl ?_)
          refine z_iconst (a := nI 0) d_Mo_blaming_37 (by decide) ?_
          first | refine z_istore_4 d_Mo_blaming_38 rfl ?_ | (refine z_forget_3 ?_; refine z_istore_4 d_Mo_blaming_38 rfl ?_)
          exact q
        | some l =>
          rw [hcv] at inn
          have hl := (s_cov_lt j l hcv).1
          have h1 := hc2 l hcv
          have q := inn (nn + 1) 0 (by omega) (by omega)
          have e0 : okp 0 j = true := by rw [hokp]; exact decide_eq_true (fun i hi => absurd hi (Nat.not_lt_zero _))
          have hpj := pc_le j (by omega)
          have hpl := pc_le l (by omega)
          rw [h1, e0, Bool.and_true] at q
          dsimp only [zo] at q ⊢
          refine z_if_lt (tgt := 31) d_Mo_blaming_17 (by decide) (fun h => absurd h (nI_pos (by omega))) (fun _ => ?_)
          refine z_iload_2 d_Mo_blaming_20 ?_
          refine z_Si1 d_Mo_blaming_21 k_Mo_396 (t_Mo_sizeOf) ⟨Nat.le_of_ble_eq_true rfl, Nat.le_of_ble_eq_true rfl, Nat.le_of_ble_eq_true rfl, Nat.le_of_ble_eq_true rfl⟩ (Nat.le_of_ble_eq_true rfl) ?_
          intro r w hq
          obtain ⟨rfl, rfl⟩ := hq
          refine z_iload_1 d_Mo_blaming_24 ?_
          refine z_Si1 d_Mo_blaming_25 k_Mo_396 (t_Mo_sizeOf) ⟨Nat.le_of_ble_eq_true rfl, Nat.le_of_ble_eq_true rfl, Nat.le_of_ble_eq_true rfl, Nat.le_of_ble_eq_true rfl⟩ (Nat.le_of_ble_eq_true rfl) ?_
          intro r w hq
          obtain ⟨rfl, rfl⟩ := hq
          rw [pc_cnt, pc_cnt]
          refine z_icmp_ge (tgt := 35) d_Mo_blaming_28 (by decide) (fun hs => ?_) (fun hs => ?_)
          · have hs := (nI_leI (by omega) (by omega)).mp hs
            rw [if_neg (by rw [decide_eq_true_eq]; omega)] at q
            refine z_iconst (a := nI 0) d_Mo_blaming_35 (by decide) ?_
            first | refine z_istore_3 d_Mo_blaming_36 rfl ?_ | (refine z_forget_2 ?_; refine z_istore_3 d_Mo_blaming_36 rfl ?_)
            refine z_iconst (a := nI 0) d_Mo_blaming_37 (by decide) ?_
            first | refine z_istore_4 d_Mo_blaming_38 rfl ?_ | (refine z_forget_3 ?_; refine z_istore_4 d_Mo_blaming_38 rfl ?_)
            exact q
          · have hs : pcN j < pcN l := Nat.lt_of_not_le (fun q => hs (nI_le q (by omega)))
            rw [if_pos (decide_eq_true hs)] at q
            refine z_iconst (a := nI 1) d_Mo_blaming_31 (by decide) ?_
            refine z_goto (tgt := 36) d_Mo_blaming_32 (by decide) ?_
            first | refine z_istore_3 d_Mo_blaming_36 rfl ?_ | (refine z_forget_2 ?_; refine z_istore_3 d_Mo_blaming_36 rfl ?_)
            refine z_iconst (a := nI 0) d_Mo_blaming_37 (by decide) ?_
            first | refine z_istore_4 d_Mo_blaming_38 rfl ?_ | (refine z_forget_3 ?_; refine z_istore_4 d_Mo_blaming_38 rfl ?_)
            exact q
  refine z_iconst (a := -1) d_Mo_blaming_0 (by decide) ?_
  first | refine z_istore_1 d_Mo_blaming_1 rfl ?_ | (refine z_forget_0 ?_; refine z_istore_1 d_Mo_blaming_1 rfl ?_)
  refine z_iconst (a := nI 0) d_Mo_blaming_2 (by decide) ?_
  first | refine z_istore_2 d_Mo_blaming_3 rfl ?_ | (refine z_forget_1 ?_; refine z_istore_2 d_Mo_blaming_3 rfl ?_)
  exact loop (2 ^ np + 1) 0 (by omega) (by omega)
theorem t_Tf_cover_x (Z : clOk f d P S) (N : fenIn I f nt np nl nn) (h : s_cov (fun s => decide (∀ i, i < np → ¬ I (f + 2) i &&& nI s = 0)) (2 ^ nt) = none) : zEi G y_Tf_cover prog_1_method_36_code 2 (some .int) 3 [.ref 0] (I, J, P, S) (fun r w => r = -1 ∧ cW I J P S 8 w) := by
  obtain ⟨⟨c0, c3, c1s⟩, ⟨c5, c2s, ctr⟩, ⟨c6, c11s, c11, c13s⟩, ⟨c7, c15s, c15⟩, ⟨c8, c16s, c16a, c16b, c17s⟩, ⟨c9, c10, cfd, F, Fd⟩, ⟨c11b, Ft⟩, ⟨c12, c69s, cmk⟩, ⟨c14, c121s, c121, c122s⟩, ⟨c15b, c123s, c123, c124s⟩, ⟨c16, c125s, c125, c126s⟩, ⟨c17, c127s, c127, c128s, ctb⟩, ⟨c18, c139s, c139, c140s⟩, ⟨c19, c141s, ⟨c141a, c142s⟩, ⟨c141b, c143s⟩, ⟨c141c, c144s⟩⟩, M⟩ := id Z
  refine zEi_of (lv := [some (.ref 0), none]) (by decide) rfl (Nat.le_of_ble_eq_true rfl) ?_
  refine z_aload_0 d_Tf_cover_0 ?_
  refine z_getR d_Tf_cover_1 f_Tf_60 (by first | assumption | exact zS0_at (by assumption) (by omega) | exact zS0_at rfl (by omega)) (by first | assumption | exact zS0_at (by assumption) (by omega) | exact zS0_at rfl (by omega)) ?_
  refine z_Si1 d_Tf_cover_4 k_Tf_340 (t_Giv_leastCover F N) ⟨Nat.le_of_ble_eq_true rfl, Nat.le_of_ble_eq_true rfl, Nat.le_of_ble_eq_true rfl, Nat.le_of_ble_eq_true rfl⟩ (Nat.le_of_ble_eq_true rfl) ?_
  intro r w hq
  obtain ⟨rfl, rfl⟩ := hq
  rw [h]
  dsimp only [zo]
  first | refine z_istore_1 d_Tf_cover_7 rfl ?_ | (refine z_forget_0 ?_; refine z_istore_1 d_Tf_cover_7 rfl ?_)
  refine z_iload_1 d_Tf_cover_8 ?_
  refine z_if_ge (tgt := 21) d_Tf_cover_9 (by decide) (fun h9 => ?_) (fun h9 => ?_)
  · first
    | (simp (disch := omega) only [← nI_0, nI_leI, nI_ltI, nI_eq, not_true_eq_false, not_false_eq_true] at h9; done)
    | (simp (disch := omega) only [← nI_0, nI_leI, nI_ltI, nI_eq, not_true_eq_false, not_false_eq_true] at h9; omega)
    | contradiction
    | exact absurd h9 (Int32.not_lt.mpr (by assumption))
    | exact absurd h9 (Int32.not_le.mpr (by assumption))
    | exact absurd h9 (by decide)
    | exact absurd (by decide) h9
    | ( try simp (disch := omega) only [← nI_0, nI_leI, nI_ltI, nI_eq, not_true_eq_false, not_false_eq_true] at h9
        (try have h9b := zbit_n0.mp h9); (try have h9b := zbit_p0.mp h9)
        fail)
  · first
    | (simp (disch := omega) only [← nI_0, nI_leI, nI_ltI, nI_eq, not_true_eq_false, not_false_eq_true] at h9; done)
    | (simp (disch := omega) only [← nI_0, nI_leI, nI_ltI, nI_eq, not_true_eq_false, not_false_eq_true] at h9; omega)
    | contradiction
    | exact absurd h9 (Int32.not_lt.mpr (by assumption))
    | exact absurd h9 (Int32.not_le.mpr (by assumption))
    | exact absurd h9 (by decide)
    | exact absurd (by decide) h9
    | ( try simp (disch := omega) only [← nI_0, nI_leI, nI_ltI, nI_eq, not_true_eq_false, not_false_eq_true] at h9
        (try have h9b := zbit_n0.mp h9); (try have h9b := zbit_p0.mp h9)
        refine z_aload_0 d_Tf_cover_12 ?_
        refine z_bipush (a := nI 8) d_Tf_cover_13 (by decide) ?_
        refine z_Vi1 d_Tf_cover_15 k_Tf_138 (by first | assumption | exact zS0_at (by assumption) (by omega) | exact zS0_at rfl (by omega)) (t_Tf_fail (by assumption)) ⟨Nat.le_of_ble_eq_true rfl, Nat.le_of_ble_eq_true rfl, Nat.le_of_ble_eq_true rfl, Nat.le_of_ble_eq_true rfl⟩ (Nat.le_of_ble_eq_true rfl) ?_
        intro r w hq
        obtain ⟨rfl, rfl⟩ := hq
        refine z_goto (tgt := 29) d_Tf_cover_18 (by decide) ?_
        refine z_reti d_Tf_cover_29 ?_
        exact ⟨rfl, cW_0⟩)
theorem t_Tf_cover {l : Nat} (Z : clOk f d P S) (N : fenIn I f nt np nl nn) (h : s_cov (fun s => decide (∀ i, i < np → ¬ I (f + 2) i &&& nI s = 0)) (2 ^ nt) = some l) : zEi G y_Tf_cover prog_1_method_36_code 2 (some .int) 3 [.ref 0] (I, J, P, S) (fun r w => r = nI (pcN l) ∧ cW I J P S 0 w) := by
  obtain ⟨⟨c0, c3, c1s⟩, ⟨c5, c2s, ctr⟩, ⟨c6, c11s, c11, c13s⟩, ⟨c7, c15s, c15⟩, ⟨c8, c16s, c16a, c16b, c17s⟩, ⟨c9, c10, cfd, F, Fd⟩, ⟨c11b, Ft⟩, ⟨c12, c69s, cmk⟩, ⟨c14, c121s, c121, c122s⟩, ⟨c15b, c123s, c123, c124s⟩, ⟨c16, c125s, c125, c126s⟩, ⟨c17, c127s, c127, c128s, ctb⟩, ⟨c18, c139s, c139, c140s⟩, ⟨c19, c141s, ⟨c141a, c142s⟩, ⟨c141b, c143s⟩, ⟨c141c, c144s⟩⟩, M⟩ := id Z
  have nb := N.1.2
  have h64 : 2 ^ nt ≤ 128 := Nat.pow_le_pow_right (n := 2) (by decide) (show nt ≤ 7 by omega)
  have hl := (s_cov_lt _ _ h).1
  refine zEi_of (lv := [some (.ref 0), none]) (by decide) rfl (Nat.le_of_ble_eq_true rfl) ?_
  refine z_aload_0 d_Tf_cover_0 ?_
  refine z_getR d_Tf_cover_1 f_Tf_60 (by first | assumption | exact zS0_at (by assumption) (by omega) | exact zS0_at rfl (by omega)) (by first | assumption | exact zS0_at (by assumption) (by omega) | exact zS0_at rfl (by omega)) ?_
  refine z_Si1 d_Tf_cover_4 k_Tf_340 (t_Giv_leastCover F N) ⟨Nat.le_of_ble_eq_true rfl, Nat.le_of_ble_eq_true rfl, Nat.le_of_ble_eq_true rfl, Nat.le_of_ble_eq_true rfl⟩ (Nat.le_of_ble_eq_true rfl) ?_
  intro r w hq
  obtain ⟨rfl, rfl⟩ := hq
  rw [h]
  dsimp only [zo]
  first | refine z_istore_1 d_Tf_cover_7 rfl ?_ | (refine z_forget_0 ?_; refine z_istore_1 d_Tf_cover_7 rfl ?_)
  refine z_iload_1 d_Tf_cover_8 ?_
  refine z_if_ge (tgt := 21) d_Tf_cover_9 (by decide) (fun h9 => ?_) (fun h9 => ?_)
  · first
    | (simp (disch := omega) only [← nI_0, nI_leI, nI_ltI, nI_eq, not_true_eq_false, not_false_eq_true] at h9; done)
    | (simp (disch := omega) only [← nI_0, nI_leI, nI_ltI, nI_eq, not_true_eq_false, not_false_eq_true] at h9; omega)
    | contradiction
    | exact absurd h9 (Int32.not_lt.mpr (by assumption))
    | exact absurd h9 (Int32.not_le.mpr (by assumption))
    | exact absurd h9 (by decide)
    | exact absurd (by decide) h9
    | ( try simp (disch := omega) only [← nI_0, nI_leI, nI_ltI, nI_eq, not_true_eq_false, not_false_eq_true] at h9
        (try have h9b := zbit_n0.mp h9); (try have h9b := zbit_p0.mp h9)
        refine z_aload_0 d_Tf_cover_21 ?_
        refine z_iload_1 d_Tf_cover_22 ?_
        refine z_Si1 d_Tf_cover_23 k_Tf_344 (t_JInt_bitCount (by omega)) ⟨Nat.le_of_ble_eq_true rfl, Nat.le_of_ble_eq_true rfl, Nat.le_of_ble_eq_true rfl, Nat.le_of_ble_eq_true rfl⟩ (Nat.le_of_ble_eq_true rfl) ?_
        intro r w hq
        obtain ⟨rfl, rfl⟩ := hq
        refine z_Vi1 d_Tf_cover_26 k_Tf_174 (by first | assumption | exact zS0_at (by assumption) (by omega) | exact zS0_at rfl (by omega)) (t_Tf_give (by assumption)) ⟨Nat.le_of_ble_eq_true rfl, Nat.le_of_ble_eq_true rfl, Nat.le_of_ble_eq_true rfl, Nat.le_of_ble_eq_true rfl⟩ (Nat.le_of_ble_eq_true rfl) ?_
        intro r w hq
        obtain ⟨rfl, rfl⟩ := hq
        refine z_reti d_Tf_cover_29 ?_
        exact ⟨rfl, cW_0⟩)
  · first
    | (simp (disch := omega) only [← nI_0, nI_leI, nI_ltI, nI_eq, not_true_eq_false, not_false_eq_true] at h9; done)
    | (simp (disch := omega) only [← nI_0, nI_leI, nI_ltI, nI_eq, not_true_eq_false, not_false_eq_true] at h9; omega)
    | contradiction
    | exact absurd h9 (Int32.not_lt.mpr (by assumption))
    | exact absurd h9 (Int32.not_le.mpr (by assumption))
    | exact absurd h9 (by decide)
    | exact absurd (by decide) h9
    | ( try simp (disch := omega) only [← nI_0, nI_leI, nI_ltI, nI_eq, not_true_eq_false, not_false_eq_true] at h9
        (try have h9b := zbit_n0.mp h9); (try have h9b := zbit_p0.mp h9)
        fail)
theorem t_Mo_cover_x (M : modOk P S) (N : modIn I nt np nl nn) (h : s_cov (fun s => decide (∀ i, i < np → ¬ nI s &&& I 150 (12 + i) = 0)) (2 ^ nt) = none) : zEi G y_Mo_cover prog_14_method_120_code 2 (some .int) 4 [.ref 145] (I, J, P, S) (fun r w => r = -1 ∧ mW I J P S 8 w) := by
  obtain ⟨M0, ⟨M4, M4s⟩, ⟨M5, M5s⟩, ⟨M6, M6s⟩, ⟨M7, M7s⟩, ⟨M20, M20s⟩, ⟨M21, M21s⟩, ⟨M22, M22s⟩, ⟨M26, M26s⟩, ⟨M27, M27s⟩, ⟨M28, M28s⟩, ⟨M30, M30s⟩, ⟨M34, M34s⟩, ⟨M36, M36s⟩, ⟨M37, M37s⟩⟩ := id M
  obtain ⟨I1, hI1, N1, h1, h0, e150, er, ek⟩ := mo_beg N
  rw [← e150] at h
  refine zEi_of (lv := [some (.ref 145), none]) (by decide) rfl (Nat.le_of_ble_eq_true rfl) ?_
  refine z_aload_0 d_Mo_cover_0 ?_
  refine z_iconst (a := nI 0) d_Mo_cover_1 (by decide) ?_
  refine z_putI d_Mo_cover_2 f_Mo_70 (by first | assumption | exact zS0_at (by assumption) (by omega) | exact zS0_at rfl (by omega)) ?_
  refine z_aload_0 d_Mo_cover_5 ?_
  refine z_iconst (a := nI 0) d_Mo_cover_6 (by decide) ?_
  refine z_putI d_Mo_cover_7 f_Mo_73 (by first | assumption | exact zS0_at (by assumption) (by omega) | exact zS0_at rfl (by omega)) ?_
  rw [← hI1]
  refine z_aload_0 d_Mo_cover_10 ?_
  refine z_Vi0 d_Mo_cover_11 k_Mo_406 (by first | assumption | exact zS0_at (by assumption) (by omega) | exact zS0_at rfl (by omega)) (t_Mo_covering M N1) ⟨Nat.le_of_ble_eq_true rfl, Nat.le_of_ble_eq_true rfl, Nat.le_of_ble_eq_true rfl, Nat.le_of_ble_eq_true rfl⟩ (Nat.le_of_ble_eq_true rfl) ?_
  intro r w hq
  obtain ⟨rfl, rfl⟩ := hq
  rw [h]
  dsimp only [zo]
  first | refine z_istore_1 d_Mo_cover_14 rfl ?_ | (refine z_forget_0 ?_; refine z_istore_1 d_Mo_cover_14 rfl ?_)
  refine z_iload_1 d_Mo_cover_15 ?_
  refine z_if_ge (tgt := 28) d_Mo_cover_16 (by decide) (fun h16 => ?_) (fun h16 => ?_)
  · first
    | (simp (disch := omega) only [← nI_0, nI_leI, nI_ltI, nI_eq, not_true_eq_false, not_false_eq_true] at h16; done)
    | (simp (disch := omega) only [← nI_0, nI_leI, nI_ltI, nI_eq, not_true_eq_false, not_false_eq_true] at h16; omega)
    | contradiction
    | exact absurd h16 (Int32.not_lt.mpr (by assumption))
    | exact absurd h16 (Int32.not_le.mpr (by assumption))
    | exact absurd h16 (by decide)
    | exact absurd (by decide) h16
    | ( try simp (disch := omega) only [← nI_0, nI_leI, nI_ltI, nI_eq, not_true_eq_false, not_false_eq_true] at h16
        (try have h16b := zbit_n0.mp h16); (try have h16b := zbit_p0.mp h16)
        fail)
  · first
    | (simp (disch := omega) only [← nI_0, nI_leI, nI_ltI, nI_eq, not_true_eq_false, not_false_eq_true] at h16; done)
    | (simp (disch := omega) only [← nI_0, nI_leI, nI_ltI, nI_eq, not_true_eq_false, not_false_eq_true] at h16; omega)
    | contradiction
    | exact absurd h16 (Int32.not_lt.mpr (by assumption))
    | exact absurd h16 (Int32.not_le.mpr (by assumption))
    | exact absurd h16 (by decide)
    | exact absurd (by decide) h16
    | ( try simp (disch := omega) only [← nI_0, nI_leI, nI_ltI, nI_eq, not_true_eq_false, not_false_eq_true] at h16
        (try have h16b := zbit_n0.mp h16); (try have h16b := zbit_p0.mp h16)
        refine z_aload_0 d_Mo_cover_19 ?_
        refine z_bipush (a := nI 8) d_Mo_cover_20 (by decide) ?_
        refine z_Vi1 d_Mo_cover_22 k_Mo_327 (by first | assumption | exact zS0_at (by assumption) (by omega) | exact zS0_at rfl (by omega)) (t_Mo_refuse (by assumption)) ⟨Nat.le_of_ble_eq_true rfl, Nat.le_of_ble_eq_true rfl, Nat.le_of_ble_eq_true rfl, Nat.le_of_ble_eq_true rfl⟩ (Nat.le_of_ble_eq_true rfl) ?_
        intro r w hq
        obtain ⟨rfl, rfl⟩ := hq
        refine z_goto (tgt := 32) d_Mo_cover_25 (by decide) ?_
        refine z_reti d_Mo_cover_32 ?_
        exact ⟨rfl, _, _, rfl, mqF_z h1 (by decide), mqJ_r, zu_same _ _ _ _⟩)
theorem t_Mo_cover {l : Nat} (M : modOk P S) (N : modIn I nt np nl nn) (h : s_cov (fun s => decide (∀ i, i < np → ¬ nI s &&& I 150 (12 + i) = 0)) (2 ^ nt) = some l) : zEi G y_Mo_cover prog_14_method_120_code 2 (some .int) 4 [.ref 145] (I, J, P, S) (fun r w => r = nI (pcN l) ∧ mW I J P S 0 w) := by
  obtain ⟨M0, ⟨M4, M4s⟩, ⟨M5, M5s⟩, ⟨M6, M6s⟩, ⟨M7, M7s⟩, ⟨M20, M20s⟩, ⟨M21, M21s⟩, ⟨M22, M22s⟩, ⟨M26, M26s⟩, ⟨M27, M27s⟩, ⟨M28, M28s⟩, ⟨M30, M30s⟩, ⟨M34, M34s⟩, ⟨M36, M36s⟩, ⟨M37, M37s⟩⟩ := id M
  have nb := N.1.2
  have h64 : 2 ^ nt ≤ 128 := Nat.pow_le_pow_right (n := 2) (by decide) (show nt ≤ 7 by omega)
  have hl := (s_cov_lt _ _ h).1
  obtain ⟨I1, hI1, N1, h1, h0, e150, er, ek⟩ := mo_beg N
  rw [← e150] at h
  refine zEi_of (lv := [some (.ref 145), none]) (by decide) rfl (Nat.le_of_ble_eq_true rfl) ?_
  refine z_aload_0 d_Mo_cover_0 ?_
  refine z_iconst (a := nI 0) d_Mo_cover_1 (by decide) ?_
  refine z_putI d_Mo_cover_2 f_Mo_70 (by first | assumption | exact zS0_at (by assumption) (by omega) | exact zS0_at rfl (by omega)) ?_
  refine z_aload_0 d_Mo_cover_5 ?_
  refine z_iconst (a := nI 0) d_Mo_cover_6 (by decide) ?_
  refine z_putI d_Mo_cover_7 f_Mo_73 (by first | assumption | exact zS0_at (by assumption) (by omega) | exact zS0_at rfl (by omega)) ?_
  rw [← hI1]
  refine z_aload_0 d_Mo_cover_10 ?_
  refine z_Vi0 d_Mo_cover_11 k_Mo_406 (by first | assumption | exact zS0_at (by assumption) (by omega) | exact zS0_at rfl (by omega)) (t_Mo_covering M N1) ⟨Nat.le_of_ble_eq_true rfl, Nat.le_of_ble_eq_true rfl, Nat.le_of_ble_eq_true rfl, Nat.le_of_ble_eq_true rfl⟩ (Nat.le_of_ble_eq_true rfl) ?_
  intro r w hq
  obtain ⟨rfl, rfl⟩ := hq
  rw [h]
  dsimp only [zo]
  first | refine z_istore_1 d_Mo_cover_14 rfl ?_ | (refine z_forget_0 ?_; refine z_istore_1 d_Mo_cover_14 rfl ?_)
  refine z_iload_1 d_Mo_cover_15 ?_
  refine z_if_ge (tgt := 28) d_Mo_cover_16 (by decide) (fun h16 => ?_) (fun h16 => ?_)
  · first
    | (simp (disch := omega) only [← nI_0, nI_leI, nI_ltI, nI_eq, not_true_eq_false, not_false_eq_true] at h16; done)
    | (simp (disch := omega) only [← nI_0, nI_leI, nI_ltI, nI_eq, not_true_eq_false, not_false_eq_true] at h16; omega)
    | contradiction
    | exact absurd h16 (Int32.not_lt.mpr (by assumption))
    | exact absurd h16 (Int32.not_le.mpr (by assumption))
    | exact absurd h16 (by decide)
    | exact absurd (by decide) h16
    | ( try simp (disch := omega) only [← nI_0, nI_leI, nI_ltI, nI_eq, not_true_eq_false, not_false_eq_true] at h16
        (try have h16b := zbit_n0.mp h16); (try have h16b := zbit_p0.mp h16)
        refine z_iload_1 d_Mo_cover_28 ?_
        refine z_Si1 d_Mo_cover_29 k_Mo_396 (t_Mo_sizeOf) ⟨Nat.le_of_ble_eq_true rfl, Nat.le_of_ble_eq_true rfl, Nat.le_of_ble_eq_true rfl, Nat.le_of_ble_eq_true rfl⟩ (Nat.le_of_ble_eq_true rfl) ?_
        intro r w hq
        obtain ⟨rfl, rfl⟩ := hq
        refine z_reti d_Mo_cover_32 ?_
        exact ⟨by first | rfl | rw [pc_cnt], _, _, rfl, h1, mqJ_r, h0⟩)
  · first
    | (simp (disch := omega) only [← nI_0, nI_leI, nI_ltI, nI_eq, not_true_eq_false, not_false_eq_true] at h16; done)
    | (simp (disch := omega) only [← nI_0, nI_leI, nI_ltI, nI_eq, not_true_eq_false, not_false_eq_true] at h16; omega)
    | contradiction
    | exact absurd h16 (Int32.not_lt.mpr (by assumption))
    | exact absurd h16 (Int32.not_le.mpr (by assumption))
    | exact absurd h16 (by decide)
    | exact absurd (by decide) h16
    | ( try simp (disch := omega) only [← nI_0, nI_leI, nI_ltI, nI_eq, not_true_eq_false, not_false_eq_true] at h16
        (try have h16b := zbit_n0.mp h16); (try have h16b := zbit_p0.mp h16)
        fail)
theorem L_cover (h : zInv n w) : zEi G y_Tf_cover prog_1_method_36_code 2 (some .int) 3 [.ref 0] w (fun r w1 => w1.2.2.2 = w.2.2.2 ∧ zEi G y_Mo_cover prog_14_method_120_code 2 (some .int) 4 [.ref 145] w1 (fun r' w2 => r' = r ∧ zInv (n + 1) w2)) := by
  obtain ⟨f, d, nt, np, nl, nn, fed, mk, I, J, P, S, rfl, Z, X⟩ := h
  have M := clOk_M Z
  have hf := clOk_f Z
  have N := stR_fen X
  have N0 := stR_mod X
  have fm := stR_fm X
  obtain ⟨⟨⟨a1, r1, b1⟩, ⟨a2, r2, b2⟩, ⟨a3, r3, b3⟩, ⟨a4, r4, b4⟩⟩, ⟨⟨o, ob, ao, ro⟩, r5⟩, fw, fp, ft, fz⟩ := id fm
  have eq : ∀ I' : Nat → Nat → Int32, I' 150 = I 150 → s_cov (fun s => decide (∀ i, i < np → ¬ nI s &&& I' 150 (12 + i) = 0)) (2 ^ nt) = s_cov (fun s => decide (∀ i, i < np → ¬ I (f + 2) i &&& nI s = 0)) (2 ^ nt) := fun I' e => by
    rw [e]
    refine congrArg (fun o => s_cov o (2 ^ nt)) (funext fun s => ?_)
    have q : (∀ i, i < np → ¬ nI s &&& I 150 (12 + i) = 0) ↔ (∀ i, i < np → ¬ I (f + 2) i &&& nI s = 0) := by
      constructor
      · intro h i hi; have := h i hi; rw [(fp i hi).1, Int32.and_comm] at this; exact this
      · intro h i hi; rw [(fp i hi).1, Int32.and_comm]; exact h i hi
    exact decide_eq_decide.mpr q
  cases hc : s_cov (fun s => decide (∀ i, i < np → ¬ I (f + 2) i &&& nI s = 0)) (2 ^ nt) with
  | none => exact L_q Z X (t_Tf_cover_x Z N hc) (fun I' J' e _ => ⟨_, rfl, t_Mo_cover_x M (modIn_c N0 (e 150 (by decide))) ((eq I' (e 150 (by decide))).trans hc)⟩)
  | some l => exact L_q Z X (t_Tf_cover Z N hc) (fun I' J' e _ => ⟨_, rfl, t_Mo_cover M (modIn_c N0 (e 150 (by decide))) ((eq I' (e 150 (by decide))).trans hc)⟩)
theorem t_Tf_coverSet_x (Z : clOk f d P S) (N : fenIn I f nt np nl nn) (h : s_cov (fun s => decide (∀ i, i < np → ¬ I (f + 2) i &&& nI s = 0)) (2 ^ nt) = none) : zEi G y_Tf_coverSet prog_1_method_37_code 2 (some .int) 3 [.ref 0] (I, J, P, S) (fun r w => r = -1 ∧ cW I J P S 8 w) := by
  obtain ⟨⟨c0, c3, c1s⟩, ⟨c5, c2s, ctr⟩, ⟨c6, c11s, c11, c13s⟩, ⟨c7, c15s, c15⟩, ⟨c8, c16s, c16a, c16b, c17s⟩, ⟨c9, c10, cfd, F, Fd⟩, ⟨c11b, Ft⟩, ⟨c12, c69s, cmk⟩, ⟨c14, c121s, c121, c122s⟩, ⟨c15b, c123s, c123, c124s⟩, ⟨c16, c125s, c125, c126s⟩, ⟨c17, c127s, c127, c128s, ctb⟩, ⟨c18, c139s, c139, c140s⟩, ⟨c19, c141s, ⟨c141a, c142s⟩, ⟨c141b, c143s⟩, ⟨c141c, c144s⟩⟩, M⟩ := id Z
  refine zEi_of (lv := [some (.ref 0), none]) (by decide) rfl (Nat.le_of_ble_eq_true rfl) ?_
  refine z_aload_0 d_Tf_coverSet_0 ?_
  refine z_getR d_Tf_coverSet_1 f_Tf_60 (by first | assumption | exact zS0_at (by assumption) (by omega) | exact zS0_at rfl (by omega)) (by first | assumption | exact zS0_at (by assumption) (by omega) | exact zS0_at rfl (by omega)) ?_
  refine z_Si1 d_Tf_coverSet_4 k_Tf_340 (t_Giv_leastCover F N) ⟨Nat.le_of_ble_eq_true rfl, Nat.le_of_ble_eq_true rfl, Nat.le_of_ble_eq_true rfl, Nat.le_of_ble_eq_true rfl⟩ (Nat.le_of_ble_eq_true rfl) ?_
  intro r w hq
  obtain ⟨rfl, rfl⟩ := hq
  rw [h]
  dsimp only [zo]
  first | refine z_istore_1 d_Tf_coverSet_7 rfl ?_ | (refine z_forget_0 ?_; refine z_istore_1 d_Tf_coverSet_7 rfl ?_)
  refine z_iload_1 d_Tf_coverSet_8 ?_
  refine z_if_ge (tgt := 21) d_Tf_coverSet_9 (by decide) (fun h9 => ?_) (fun h9 => ?_)
  · first
    | (simp (disch := omega) only [← nI_0, nI_leI, nI_ltI, nI_eq, not_true_eq_false, not_false_eq_true] at h9; done)
    | (simp (disch := omega) only [← nI_0, nI_leI, nI_ltI, nI_eq, not_true_eq_false, not_false_eq_true] at h9; omega)
    | contradiction
    | exact absurd h9 (Int32.not_lt.mpr (by assumption))
    | exact absurd h9 (Int32.not_le.mpr (by assumption))
    | exact absurd h9 (by decide)
    | exact absurd (by decide) h9
    | ( try simp (disch := omega) only [← nI_0, nI_leI, nI_ltI, nI_eq, not_true_eq_false, not_false_eq_true] at h9
        (try have h9b := zbit_n0.mp h9); (try have h9b := zbit_p0.mp h9)
        fail)
  · first
    | (simp (disch := omega) only [← nI_0, nI_leI, nI_ltI, nI_eq, not_true_eq_false, not_false_eq_true] at h9; done)
    | (simp (disch := omega) only [← nI_0, nI_leI, nI_ltI, nI_eq, not_true_eq_false, not_false_eq_true] at h9; omega)
    | contradiction
    | exact absurd h9 (Int32.not_lt.mpr (by assumption))
    | exact absurd h9 (Int32.not_le.mpr (by assumption))
    | exact absurd h9 (by decide)
    | exact absurd (by decide) h9
    | ( try simp (disch := omega) only [← nI_0, nI_leI, nI_ltI, nI_eq, not_true_eq_false, not_false_eq_true] at h9
        (try have h9b := zbit_n0.mp h9); (try have h9b := zbit_p0.mp h9)
        refine z_aload_0 d_Tf_coverSet_12 ?_
        refine z_bipush (a := nI 8) d_Tf_coverSet_13 (by decide) ?_
        refine z_Vi1 d_Tf_coverSet_15 k_Tf_138 (by first | assumption | exact zS0_at (by assumption) (by omega) | exact zS0_at rfl (by omega)) (t_Tf_fail (by assumption)) ⟨Nat.le_of_ble_eq_true rfl, Nat.le_of_ble_eq_true rfl, Nat.le_of_ble_eq_true rfl, Nat.le_of_ble_eq_true rfl⟩ (Nat.le_of_ble_eq_true rfl) ?_
        intro r w hq
        obtain ⟨rfl, rfl⟩ := hq
        refine z_goto (tgt := 26) d_Tf_coverSet_18 (by decide) ?_
        refine z_reti d_Tf_coverSet_26 ?_
        exact ⟨rfl, cW_0⟩)
theorem t_Tf_coverSet {l : Nat} (Z : clOk f d P S) (N : fenIn I f nt np nl nn) (h : s_cov (fun s => decide (∀ i, i < np → ¬ I (f + 2) i &&& nI s = 0)) (2 ^ nt) = some l) : zEi G y_Tf_coverSet prog_1_method_37_code 2 (some .int) 3 [.ref 0] (I, J, P, S) (fun r w => r = nI l ∧ cW I J P S 0 w) := by
  obtain ⟨⟨c0, c3, c1s⟩, ⟨c5, c2s, ctr⟩, ⟨c6, c11s, c11, c13s⟩, ⟨c7, c15s, c15⟩, ⟨c8, c16s, c16a, c16b, c17s⟩, ⟨c9, c10, cfd, F, Fd⟩, ⟨c11b, Ft⟩, ⟨c12, c69s, cmk⟩, ⟨c14, c121s, c121, c122s⟩, ⟨c15b, c123s, c123, c124s⟩, ⟨c16, c125s, c125, c126s⟩, ⟨c17, c127s, c127, c128s, ctb⟩, ⟨c18, c139s, c139, c140s⟩, ⟨c19, c141s, ⟨c141a, c142s⟩, ⟨c141b, c143s⟩, ⟨c141c, c144s⟩⟩, M⟩ := id Z
  have nb := N.1.2
  have h64 : 2 ^ nt ≤ 128 := Nat.pow_le_pow_right (n := 2) (by decide) (show nt ≤ 7 by omega)
  have hl := (s_cov_lt _ _ h).1
  refine zEi_of (lv := [some (.ref 0), none]) (by decide) rfl (Nat.le_of_ble_eq_true rfl) ?_
  refine z_aload_0 d_Tf_coverSet_0 ?_
  refine z_getR d_Tf_coverSet_1 f_Tf_60 (by first | assumption | exact zS0_at (by assumption) (by omega) | exact zS0_at rfl (by omega)) (by first | assumption | exact zS0_at (by assumption) (by omega) | exact zS0_at rfl (by omega)) ?_
  refine z_Si1 d_Tf_coverSet_4 k_Tf_340 (t_Giv_leastCover F N) ⟨Nat.le_of_ble_eq_true rfl, Nat.le_of_ble_eq_true rfl, Nat.le_of_ble_eq_true rfl, Nat.le_of_ble_eq_true rfl⟩ (Nat.le_of_ble_eq_true rfl) ?_
  intro r w hq
  obtain ⟨rfl, rfl⟩ := hq
  rw [h]
  dsimp only [zo]
  first | refine z_istore_1 d_Tf_coverSet_7 rfl ?_ | (refine z_forget_0 ?_; refine z_istore_1 d_Tf_coverSet_7 rfl ?_)
  refine z_iload_1 d_Tf_coverSet_8 ?_
  refine z_if_ge (tgt := 21) d_Tf_coverSet_9 (by decide) (fun h9 => ?_) (fun h9 => ?_)
  · first
    | (simp (disch := omega) only [← nI_0, nI_leI, nI_ltI, nI_eq, not_true_eq_false, not_false_eq_true] at h9; done)
    | (simp (disch := omega) only [← nI_0, nI_leI, nI_ltI, nI_eq, not_true_eq_false, not_false_eq_true] at h9; omega)
    | contradiction
    | exact absurd h9 (Int32.not_lt.mpr (by assumption))
    | exact absurd h9 (Int32.not_le.mpr (by assumption))
    | exact absurd h9 (by decide)
    | exact absurd (by decide) h9
    | ( try simp (disch := omega) only [← nI_0, nI_leI, nI_ltI, nI_eq, not_true_eq_false, not_false_eq_true] at h9
        (try have h9b := zbit_n0.mp h9); (try have h9b := zbit_p0.mp h9)
        refine z_aload_0 d_Tf_coverSet_21 ?_
        refine z_iload_1 d_Tf_coverSet_22 ?_
        refine z_Vi1 d_Tf_coverSet_23 k_Tf_174 (by first | assumption | exact zS0_at (by assumption) (by omega) | exact zS0_at rfl (by omega)) (t_Tf_give (by assumption)) ⟨Nat.le_of_ble_eq_true rfl, Nat.le_of_ble_eq_true rfl, Nat.le_of_ble_eq_true rfl, Nat.le_of_ble_eq_true rfl⟩ (Nat.le_of_ble_eq_true rfl) ?_
        intro r w hq
        obtain ⟨rfl, rfl⟩ := hq
        refine z_reti d_Tf_coverSet_26 ?_
        exact ⟨rfl, cW_0⟩)
  · first
    | (simp (disch := omega) only [← nI_0, nI_leI, nI_ltI, nI_eq, not_true_eq_false, not_false_eq_true] at h9; done)
    | (simp (disch := omega) only [← nI_0, nI_leI, nI_ltI, nI_eq, not_true_eq_false, not_false_eq_true] at h9; omega)
    | contradiction
    | exact absurd h9 (Int32.not_lt.mpr (by assumption))
    | exact absurd h9 (Int32.not_le.mpr (by assumption))
    | exact absurd h9 (by decide)
    | exact absurd (by decide) h9
    | ( try simp (disch := omega) only [← nI_0, nI_leI, nI_ltI, nI_eq, not_true_eq_false, not_false_eq_true] at h9
        (try have h9b := zbit_n0.mp h9); (try have h9b := zbit_p0.mp h9)
        fail)
theorem t_Mo_coverSet_x (M : modOk P S) (N : modIn I nt np nl nn) (h : s_cov (fun s => decide (∀ i, i < np → ¬ nI s &&& I 150 (12 + i) = 0)) (2 ^ nt) = none) : zEi G y_Mo_coverSet prog_14_method_121_code 2 (some .int) 4 [.ref 145] (I, J, P, S) (fun r w => r = -1 ∧ mW I J P S 8 w) := by
  obtain ⟨M0, ⟨M4, M4s⟩, ⟨M5, M5s⟩, ⟨M6, M6s⟩, ⟨M7, M7s⟩, ⟨M20, M20s⟩, ⟨M21, M21s⟩, ⟨M22, M22s⟩, ⟨M26, M26s⟩, ⟨M27, M27s⟩, ⟨M28, M28s⟩, ⟨M30, M30s⟩, ⟨M34, M34s⟩, ⟨M36, M36s⟩, ⟨M37, M37s⟩⟩ := id M
  obtain ⟨I1, hI1, N1, h1, h0, e150, er, ek⟩ := mo_beg N
  rw [← e150] at h
  refine zEi_of (lv := [some (.ref 145), none]) (by decide) rfl (Nat.le_of_ble_eq_true rfl) ?_
  refine z_aload_0 d_Mo_coverSet_0 ?_
  refine z_iconst (a := nI 0) d_Mo_coverSet_1 (by decide) ?_
  refine z_putI d_Mo_coverSet_2 f_Mo_70 (by first | assumption | exact zS0_at (by assumption) (by omega) | exact zS0_at rfl (by omega)) ?_
  refine z_aload_0 d_Mo_coverSet_5 ?_
  refine z_iconst (a := nI 0) d_Mo_coverSet_6 (by decide) ?_
  refine z_putI d_Mo_coverSet_7 f_Mo_73 (by first | assumption | exact zS0_at (by assumption) (by omega) | exact zS0_at rfl (by omega)) ?_
  rw [← hI1]
  refine z_aload_0 d_Mo_coverSet_10 ?_
  refine z_Vi0 d_Mo_coverSet_11 k_Mo_406 (by first | assumption | exact zS0_at (by assumption) (by omega) | exact zS0_at rfl (by omega)) (t_Mo_covering M N1) ⟨Nat.le_of_ble_eq_true rfl, Nat.le_of_ble_eq_true rfl, Nat.le_of_ble_eq_true rfl, Nat.le_of_ble_eq_true rfl⟩ (Nat.le_of_ble_eq_true rfl) ?_
  intro r w hq
  obtain ⟨rfl, rfl⟩ := hq
  rw [h]
  dsimp only [zo]
  first | refine z_istore_1 d_Mo_coverSet_14 rfl ?_ | (refine z_forget_0 ?_; refine z_istore_1 d_Mo_coverSet_14 rfl ?_)
  refine z_iload_1 d_Mo_coverSet_15 ?_
  refine z_if_ge (tgt := 28) d_Mo_coverSet_16 (by decide) (fun h16 => ?_) (fun h16 => ?_)
  · first
    | (simp (disch := omega) only [← nI_0, nI_leI, nI_ltI, nI_eq, not_true_eq_false, not_false_eq_true] at h16; done)
    | (simp (disch := omega) only [← nI_0, nI_leI, nI_ltI, nI_eq, not_true_eq_false, not_false_eq_true] at h16; omega)
    | contradiction
    | exact absurd h16 (Int32.not_lt.mpr (by assumption))
    | exact absurd h16 (Int32.not_le.mpr (by assumption))
    | exact absurd h16 (by decide)
    | exact absurd (by decide) h16
    | ( try simp (disch := omega) only [← nI_0, nI_leI, nI_ltI, nI_eq, not_true_eq_false, not_false_eq_true] at h16
        (try have h16b := zbit_n0.mp h16); (try have h16b := zbit_p0.mp h16)
        fail)
  · first
    | (simp (disch := omega) only [← nI_0, nI_leI, nI_ltI, nI_eq, not_true_eq_false, not_false_eq_true] at h16; done)
    | (simp (disch := omega) only [← nI_0, nI_leI, nI_ltI, nI_eq, not_true_eq_false, not_false_eq_true] at h16; omega)
    | contradiction
    | exact absurd h16 (Int32.not_lt.mpr (by assumption))
    | exact absurd h16 (Int32.not_le.mpr (by assumption))
    | exact absurd h16 (by decide)
    | exact absurd (by decide) h16
    | ( try simp (disch := omega) only [← nI_0, nI_leI, nI_ltI, nI_eq, not_true_eq_false, not_false_eq_true] at h16
        (try have h16b := zbit_n0.mp h16); (try have h16b := zbit_p0.mp h16)
        refine z_aload_0 d_Mo_coverSet_19 ?_
        refine z_bipush (a := nI 8) d_Mo_coverSet_20 (by decide) ?_
        refine z_Vi1 d_Mo_coverSet_22 k_Mo_327 (by first | assumption | exact zS0_at (by assumption) (by omega) | exact zS0_at rfl (by omega)) (t_Mo_refuse (by assumption)) ⟨Nat.le_of_ble_eq_true rfl, Nat.le_of_ble_eq_true rfl, Nat.le_of_ble_eq_true rfl, Nat.le_of_ble_eq_true rfl⟩ (Nat.le_of_ble_eq_true rfl) ?_
        intro r w hq
        obtain ⟨rfl, rfl⟩ := hq
        refine z_goto (tgt := 29) d_Mo_coverSet_25 (by decide) ?_
        refine z_reti d_Mo_coverSet_29 ?_
        exact ⟨rfl, _, _, rfl, mqF_z h1 (by decide), mqJ_r, zu_same _ _ _ _⟩)
theorem t_Mo_coverSet {l : Nat} (M : modOk P S) (N : modIn I nt np nl nn) (h : s_cov (fun s => decide (∀ i, i < np → ¬ nI s &&& I 150 (12 + i) = 0)) (2 ^ nt) = some l) : zEi G y_Mo_coverSet prog_14_method_121_code 2 (some .int) 4 [.ref 145] (I, J, P, S) (fun r w => r = nI l ∧ mW I J P S 0 w) := by
  obtain ⟨M0, ⟨M4, M4s⟩, ⟨M5, M5s⟩, ⟨M6, M6s⟩, ⟨M7, M7s⟩, ⟨M20, M20s⟩, ⟨M21, M21s⟩, ⟨M22, M22s⟩, ⟨M26, M26s⟩, ⟨M27, M27s⟩, ⟨M28, M28s⟩, ⟨M30, M30s⟩, ⟨M34, M34s⟩, ⟨M36, M36s⟩, ⟨M37, M37s⟩⟩ := id M
  have nb := N.1.2
  have h64 : 2 ^ nt ≤ 128 := Nat.pow_le_pow_right (n := 2) (by decide) (show nt ≤ 7 by omega)
  have hl := (s_cov_lt _ _ h).1
  obtain ⟨I1, hI1, N1, h1, h0, e150, er, ek⟩ := mo_beg N
  rw [← e150] at h
  refine zEi_of (lv := [some (.ref 145), none]) (by decide) rfl (Nat.le_of_ble_eq_true rfl) ?_
  refine z_aload_0 d_Mo_coverSet_0 ?_
  refine z_iconst (a := nI 0) d_Mo_coverSet_1 (by decide) ?_
  refine z_putI d_Mo_coverSet_2 f_Mo_70 (by first | assumption | exact zS0_at (by assumption) (by omega) | exact zS0_at rfl (by omega)) ?_
  refine z_aload_0 d_Mo_coverSet_5 ?_
  refine z_iconst (a := nI 0) d_Mo_coverSet_6 (by decide) ?_
  refine z_putI d_Mo_coverSet_7 f_Mo_73 (by first | assumption | exact zS0_at (by assumption) (by omega) | exact zS0_at rfl (by omega)) ?_
  rw [← hI1]
  refine z_aload_0 d_Mo_coverSet_10 ?_
  refine z_Vi0 d_Mo_coverSet_11 k_Mo_406 (by first | assumption | exact zS0_at (by assumption) (by omega) | exact zS0_at rfl (by omega)) (t_Mo_covering M N1) ⟨Nat.le_of_ble_eq_true rfl, Nat.le_of_ble_eq_true rfl, Nat.le_of_ble_eq_true rfl, Nat.le_of_ble_eq_true rfl⟩ (Nat.le_of_ble_eq_true rfl) ?_
  intro r w hq
  obtain ⟨rfl, rfl⟩ := hq
  rw [h]
  dsimp only [zo]
  first | refine z_istore_1 d_Mo_coverSet_14 rfl ?_ | (refine z_forget_0 ?_; refine z_istore_1 d_Mo_coverSet_14 rfl ?_)
  refine z_iload_1 d_Mo_coverSet_15 ?_
  refine z_if_ge (tgt := 28) d_Mo_coverSet_16 (by decide) (fun h16 => ?_) (fun h16 => ?_)
  · first
    | (simp (disch := omega) only [← nI_0, nI_leI, nI_ltI, nI_eq, not_true_eq_false, not_false_eq_true] at h16; done)
    | (simp (disch := omega) only [← nI_0, nI_leI, nI_ltI, nI_eq, not_true_eq_false, not_false_eq_true] at h16; omega)
    | contradiction
    | exact absurd h16 (Int32.not_lt.mpr (by assumption))
    | exact absurd h16 (Int32.not_le.mpr (by assumption))
    | exact absurd h16 (by decide)
    | exact absurd (by decide) h16
    | ( try simp (disch := omega) only [← nI_0, nI_leI, nI_ltI, nI_eq, not_true_eq_false, not_false_eq_true] at h16
        (try have h16b := zbit_n0.mp h16); (try have h16b := zbit_p0.mp h16)
        refine z_iload_1 d_Mo_coverSet_28 ?_
        refine z_reti d_Mo_coverSet_29 ?_
        exact ⟨by first | rfl | rw [pc_cnt], _, _, rfl, h1, mqJ_r, h0⟩)
  · first
    | (simp (disch := omega) only [← nI_0, nI_leI, nI_ltI, nI_eq, not_true_eq_false, not_false_eq_true] at h16; done)
    | (simp (disch := omega) only [← nI_0, nI_leI, nI_ltI, nI_eq, not_true_eq_false, not_false_eq_true] at h16; omega)
    | contradiction
    | exact absurd h16 (Int32.not_lt.mpr (by assumption))
    | exact absurd h16 (Int32.not_le.mpr (by assumption))
    | exact absurd h16 (by decide)
    | exact absurd (by decide) h16
    | ( try simp (disch := omega) only [← nI_0, nI_leI, nI_ltI, nI_eq, not_true_eq_false, not_false_eq_true] at h16
        (try have h16b := zbit_n0.mp h16); (try have h16b := zbit_p0.mp h16)
        fail)
theorem L_coverSet (h : zInv n w) : zEi G y_Tf_coverSet prog_1_method_37_code 2 (some .int) 3 [.ref 0] w (fun r w1 => w1.2.2.2 = w.2.2.2 ∧ zEi G y_Mo_coverSet prog_14_method_121_code 2 (some .int) 4 [.ref 145] w1 (fun r' w2 => r' = r ∧ zInv (n + 1) w2)) := by
  obtain ⟨f, d, nt, np, nl, nn, fed, mk, I, J, P, S, rfl, Z, X⟩ := h
  have M := clOk_M Z
  have hf := clOk_f Z
  have N := stR_fen X
  have N0 := stR_mod X
  have fm := stR_fm X
  obtain ⟨⟨⟨a1, r1, b1⟩, ⟨a2, r2, b2⟩, ⟨a3, r3, b3⟩, ⟨a4, r4, b4⟩⟩, ⟨⟨o, ob, ao, ro⟩, r5⟩, fw, fp, ft, fz⟩ := id fm
  have eq : ∀ I' : Nat → Nat → Int32, I' 150 = I 150 → s_cov (fun s => decide (∀ i, i < np → ¬ nI s &&& I' 150 (12 + i) = 0)) (2 ^ nt) = s_cov (fun s => decide (∀ i, i < np → ¬ I (f + 2) i &&& nI s = 0)) (2 ^ nt) := fun I' e => by
    rw [e]
    refine congrArg (fun o => s_cov o (2 ^ nt)) (funext fun s => ?_)
    have q : (∀ i, i < np → ¬ nI s &&& I 150 (12 + i) = 0) ↔ (∀ i, i < np → ¬ I (f + 2) i &&& nI s = 0) := by
      constructor
      · intro h i hi; have := h i hi; rw [(fp i hi).1, Int32.and_comm] at this; exact this
      · intro h i hi; rw [(fp i hi).1, Int32.and_comm]; exact h i hi
    exact decide_eq_decide.mpr q
  cases hc : s_cov (fun s => decide (∀ i, i < np → ¬ I (f + 2) i &&& nI s = 0)) (2 ^ nt) with
  | none => exact L_q Z X (t_Tf_coverSet_x Z N hc) (fun I' J' e _ => ⟨_, rfl, t_Mo_coverSet_x M (modIn_c N0 (e 150 (by decide))) ((eq I' (e 150 (by decide))).trans hc)⟩)
  | some l => exact L_q Z X (t_Tf_coverSet Z N hc) (fun I' J' e _ => ⟨_, rfl, t_Mo_coverSet M (modIn_c N0 (e 150 (by decide))) ((eq I' (e 150 (by decide))).trans hc)⟩)
theorem t_Tf_blamed {l : Nat} (Z : clOk f d P S) (N : fenIn I f nt np nl nn) (h : s_bl (fun s => decide (∀ i, i < nn → zbit (I f 7) i → ¬ I (f + 7) i &&& nI s = 0)) (2 ^ np - 1) (2 ^ np) = l) : zEi G y_Tf_blamed prog_1_method_38_code 1 (some .int) 3 [.ref 0] (I, J, P, S) (fun r w => r = nI (pcN l) ∧ cW I J P S 0 w) := by
  obtain ⟨⟨c0, c3, c1s⟩, ⟨c5, c2s, ctr⟩, ⟨c6, c11s, c11, c13s⟩, ⟨c7, c15s, c15⟩, ⟨c8, c16s, c16a, c16b, c17s⟩, ⟨c9, c10, cfd, F, Fd⟩, ⟨c11b, Ft⟩, ⟨c12, c69s, cmk⟩, ⟨c14, c121s, c121, c122s⟩, ⟨c15b, c123s, c123, c124s⟩, ⟨c16, c125s, c125, c126s⟩, ⟨c17, c127s, c127, c128s, ctb⟩, ⟨c18, c139s, c139, c140s⟩, ⟨c19, c141s, ⟨c141a, c142s⟩, ⟨c141b, c143s⟩, ⟨c141c, c144s⟩⟩, M⟩ := id Z
  have nb := N.2.1.2
  have h64 : 2 ^ np ≤ 128 := Nat.pow_le_pow_right (n := 2) (by decide) nb
  have h0p : 0 < 2 ^ np := Nat.pow_pos (by decide)
  have hl : l < 2 ^ np := by rw [← h]; exact s_bl_lt (by omega) _ (Nat.le_refl _)
  refine zEi_of (lv := [some (.ref 0)]) (by decide) rfl (Nat.le_of_ble_eq_true rfl) ?_
  refine z_aload_0 d_Tf_blamed_0 ?_
  refine z_aload_0 d_Tf_blamed_1 ?_
  refine z_getR d_Tf_blamed_2 f_Tf_60 (by first | assumption | exact zS0_at (by assumption) (by omega) | exact zS0_at rfl (by omega)) (by first | assumption | exact zS0_at (by assumption) (by omega) | exact zS0_at rfl (by omega)) ?_
  refine z_Si1 d_Tf_blamed_5 k_Tf_349 (t_Giv_leastBlamed F N) ⟨Nat.le_of_ble_eq_true rfl, Nat.le_of_ble_eq_true rfl, Nat.le_of_ble_eq_true rfl, Nat.le_of_ble_eq_true rfl⟩ (Nat.le_of_ble_eq_true rfl) ?_
  intro r w hq
  obtain ⟨rfl, rfl⟩ := hq
  rw [h]
  refine z_Si1 d_Tf_blamed_8 k_Tf_344 (t_JInt_bitCount (by omega)) ⟨Nat.le_of_ble_eq_true rfl, Nat.le_of_ble_eq_true rfl, Nat.le_of_ble_eq_true rfl, Nat.le_of_ble_eq_true rfl⟩ (Nat.le_of_ble_eq_true rfl) ?_
  intro r w hq
  obtain ⟨rfl, rfl⟩ := hq
  refine z_Vi1 d_Tf_blamed_11 k_Tf_174 (by first | assumption | exact zS0_at (by assumption) (by omega) | exact zS0_at rfl (by omega)) (t_Tf_give (by assumption)) ⟨Nat.le_of_ble_eq_true rfl, Nat.le_of_ble_eq_true rfl, Nat.le_of_ble_eq_true rfl, Nat.le_of_ble_eq_true rfl⟩ (Nat.le_of_ble_eq_true rfl) ?_
  intro r w hq
  obtain ⟨rfl, rfl⟩ := hq
  refine z_reti d_Tf_blamed_14 ?_
  exact ⟨rfl, cW_0⟩
theorem t_Mo_blamed {l : Nat} (M : modOk P S) (N : modIn I nt np nl nn) (h : s_cov (fun s => decide (∀ i, i < nn → (I 150 (60 + i) = 0 ∨ ¬ nI s &&& I 150 (69 + i) = 0))) (2 ^ np) = some l) : zEi G y_Mo_blamed prog_14_method_123_code 1 (some .int) 4 [.ref 145] (I, J, P, S) (fun r w => r = nI (pcN l) ∧ mW I J P S 0 w) := by
  obtain ⟨M0, ⟨M4, M4s⟩, ⟨M5, M5s⟩, ⟨M6, M6s⟩, ⟨M7, M7s⟩, ⟨M20, M20s⟩, ⟨M21, M21s⟩, ⟨M22, M22s⟩, ⟨M26, M26s⟩, ⟨M27, M27s⟩, ⟨M28, M28s⟩, ⟨M30, M30s⟩, ⟨M34, M34s⟩, ⟨M36, M36s⟩, ⟨M37, M37s⟩⟩ := id M
  obtain ⟨I1, hI1, N1, h1, h0, e150, er, ek⟩ := mo_beg N
  rw [← e150] at h
  refine zEi_of (lv := [some (.ref 145)]) (by decide) rfl (Nat.le_of_ble_eq_true rfl) ?_
  refine z_aload_0 d_Mo_blamed_0 ?_
  refine z_iconst (a := nI 0) d_Mo_blamed_1 (by decide) ?_
  refine z_putI d_Mo_blamed_2 f_Mo_70 (by first | assumption | exact zS0_at (by assumption) (by omega) | exact zS0_at rfl (by omega)) ?_
  refine z_aload_0 d_Mo_blamed_5 ?_
  refine z_iconst (a := nI 0) d_Mo_blamed_6 (by decide) ?_
  refine z_putI d_Mo_blamed_7 f_Mo_73 (by first | assumption | exact zS0_at (by assumption) (by omega) | exact zS0_at rfl (by omega)) ?_
  rw [← hI1]
  refine z_aload_0 d_Mo_blamed_10 ?_
  refine z_Vi0 d_Mo_blamed_11 k_Mo_409 (by first | assumption | exact zS0_at (by assumption) (by omega) | exact zS0_at rfl (by omega)) (t_Mo_blaming M N1) ⟨Nat.le_of_ble_eq_true rfl, Nat.le_of_ble_eq_true rfl, Nat.le_of_ble_eq_true rfl, Nat.le_of_ble_eq_true rfl⟩ (Nat.le_of_ble_eq_true rfl) ?_
  intro r w hq
  obtain ⟨rfl, rfl⟩ := hq
  rw [h]
  dsimp only [zo]
  refine z_Si1 d_Mo_blamed_14 k_Mo_396 (t_Mo_sizeOf) ⟨Nat.le_of_ble_eq_true rfl, Nat.le_of_ble_eq_true rfl, Nat.le_of_ble_eq_true rfl, Nat.le_of_ble_eq_true rfl⟩ (Nat.le_of_ble_eq_true rfl) ?_
  intro r w hq
  obtain ⟨rfl, rfl⟩ := hq
  refine z_reti d_Mo_blamed_17 ?_
  exact ⟨by first | rfl | rw [pc_cnt], _, _, rfl, h1, mqJ_r, h0⟩
theorem L_blamed (h : zInv n w) : zEi G y_Tf_blamed prog_1_method_38_code 1 (some .int) 3 [.ref 0] w (fun r w1 => w1.2.2.2 = w.2.2.2 ∧ zEi G y_Mo_blamed prog_14_method_123_code 1 (some .int) 4 [.ref 145] w1 (fun r' w2 => r' = r ∧ zInv (n + 1) w2)) := by
  obtain ⟨f, d, nt, np, nl, nn, fed, mk, I, J, P, S, rfl, Z, X⟩ := h
  have M := clOk_M Z
  have hf := clOk_f Z
  have N := stR_fen X
  have N0 := stR_mod X
  have fm := stR_fm X
  obtain ⟨⟨⟨a1, r1, b1⟩, ⟨a2, r2, b2⟩, ⟨a3, r3, b3⟩, ⟨a4, r4, b4⟩⟩, ⟨⟨o, ob, ao, ro⟩, r5⟩, fw, fp, ft, fz⟩ := id fm
  have hok : ∀ I' : Nat → Nat → Int32, I' 150 = I 150 → (fun s => decide (∀ i, i < nn → (I' 150 (60 + i) = 0 ∨ ¬ nI s &&& I' 150 (69 + i) = 0))) = (fun s => decide (∀ i, i < nn → zbit (I f 7) i → ¬ I (f + 7) i &&& nI s = 0)) := fun I' e => by
    rw [e]
    refine funext fun s => decide_eq_decide.mpr ?_
    constructor
    · intro h i hi hz
      obtain ⟨-, -, -, g4, -, ⟨g6, -⟩, -⟩ := ft i hi
      have g4 : I 150 (60 + i) = zb (I f 7) i := g4
      have g6 : I 150 (69 + i) = I (f + 7) i := g6
      rcases h i hi with q | q
      · rw [g4, zb, if_pos hz] at q; exact absurd q (by decide)
      · rw [g6, Int32.and_comm] at q; exact q
    · intro h i hi
      obtain ⟨-, -, -, g4, -, ⟨g6, -⟩, -⟩ := ft i hi
      have g4 : I 150 (60 + i) = zb (I f 7) i := g4
      have g6 : I 150 (69 + i) = I (f + 7) i := g6
      by_cases hz : zbit (I f 7) i
      · right; rw [g6, Int32.and_comm]; exact h i hi hz
      · left; rw [g4, zb, if_neg hz]; rfl
  have h0p : 0 < 2 ^ np := Nat.pow_pos (by decide)
  have full : (fun s => decide (∀ i, i < nn → zbit (I f 7) i → ¬ I (f + 7) i &&& nI s = 0)) (2 ^ np - 1) = true := by
    refine decide_eq_true (fun i hi _ => ?_)
    obtain ⟨-, -, -, -, -, ⟨-, h, g1, g2, g3⟩, -⟩ := ft i hi
    have g3 : I (f + 7) i = nI h := g3
    have hb := Nat.pow_le_pow_right (n := 2) (by decide) b2
    rw [g3, nx_and, Nat.and_two_pow_sub_one_eq_mod, Nat.mod_eq_of_lt g2]
    exact nI_ne0 g1 (by omega)
  obtain ⟨l, hl⟩ := cov_ex (ok := fun s => decide (∀ i, i < nn → zbit (I f 7) i → ¬ I (f + 7) i &&& nI s = 0)) full (2 ^ np) (by omega)
  have hb := (cov_bl b2 _ (Nat.le_refl _)).2 l hl
  exact L_q Z X (t_Tf_blamed Z N hb) (fun I' J' e _ => ⟨_, rfl, t_Mo_blamed M (modIn_c N0 (e 150 (by decide))) (by rw [hok I' (e 150 (by decide))]; exact hl)⟩)
theorem t_Tf_blamedSet {l : Nat} (Z : clOk f d P S) (N : fenIn I f nt np nl nn) (h : s_bl (fun s => decide (∀ i, i < nn → zbit (I f 7) i → ¬ I (f + 7) i &&& nI s = 0)) (2 ^ np - 1) (2 ^ np) = l) : zEi G y_Tf_blamedSet prog_1_method_39_code 1 (some .int) 3 [.ref 0] (I, J, P, S) (fun r w => r = nI l ∧ cW I J P S 0 w) := by
  obtain ⟨⟨c0, c3, c1s⟩, ⟨c5, c2s, ctr⟩, ⟨c6, c11s, c11, c13s⟩, ⟨c7, c15s, c15⟩, ⟨c8, c16s, c16a, c16b, c17s⟩, ⟨c9, c10, cfd, F, Fd⟩, ⟨c11b, Ft⟩, ⟨c12, c69s, cmk⟩, ⟨c14, c121s, c121, c122s⟩, ⟨c15b, c123s, c123, c124s⟩, ⟨c16, c125s, c125, c126s⟩, ⟨c17, c127s, c127, c128s, ctb⟩, ⟨c18, c139s, c139, c140s⟩, ⟨c19, c141s, ⟨c141a, c142s⟩, ⟨c141b, c143s⟩, ⟨c141c, c144s⟩⟩, M⟩ := id Z
  have nb := N.2.1.2
  have h64 : 2 ^ np ≤ 128 := Nat.pow_le_pow_right (n := 2) (by decide) nb
  have h0p : 0 < 2 ^ np := Nat.pow_pos (by decide)
  have hl : l < 2 ^ np := by rw [← h]; exact s_bl_lt (by omega) _ (Nat.le_refl _)
  refine zEi_of (lv := [some (.ref 0)]) (by decide) rfl (Nat.le_of_ble_eq_true rfl) ?_
  refine z_aload_0 d_Tf_blamedSet_0 ?_
  refine z_aload_0 d_Tf_blamedSet_1 ?_
  refine z_getR d_Tf_blamedSet_2 f_Tf_60 (by first | assumption | exact zS0_at (by assumption) (by omega) | exact zS0_at rfl (by omega)) (by first | assumption | exact zS0_at (by assumption) (by omega) | exact zS0_at rfl (by omega)) ?_
  refine z_Si1 d_Tf_blamedSet_5 k_Tf_349 (t_Giv_leastBlamed F N) ⟨Nat.le_of_ble_eq_true rfl, Nat.le_of_ble_eq_true rfl, Nat.le_of_ble_eq_true rfl, Nat.le_of_ble_eq_true rfl⟩ (Nat.le_of_ble_eq_true rfl) ?_
  intro r w hq
  obtain ⟨rfl, rfl⟩ := hq
  rw [h]
  refine z_Vi1 d_Tf_blamedSet_8 k_Tf_174 (by first | assumption | exact zS0_at (by assumption) (by omega) | exact zS0_at rfl (by omega)) (t_Tf_give (by assumption)) ⟨Nat.le_of_ble_eq_true rfl, Nat.le_of_ble_eq_true rfl, Nat.le_of_ble_eq_true rfl, Nat.le_of_ble_eq_true rfl⟩ (Nat.le_of_ble_eq_true rfl) ?_
  intro r w hq
  obtain ⟨rfl, rfl⟩ := hq
  refine z_reti d_Tf_blamedSet_11 ?_
  exact ⟨rfl, cW_0⟩
theorem t_Mo_blamedSet {l : Nat} (M : modOk P S) (N : modIn I nt np nl nn) (h : s_cov (fun s => decide (∀ i, i < nn → (I 150 (60 + i) = 0 ∨ ¬ nI s &&& I 150 (69 + i) = 0))) (2 ^ np) = some l) : zEi G y_Mo_blamedSet prog_14_method_124_code 1 (some .int) 4 [.ref 145] (I, J, P, S) (fun r w => r = nI l ∧ mW I J P S 0 w) := by
  obtain ⟨M0, ⟨M4, M4s⟩, ⟨M5, M5s⟩, ⟨M6, M6s⟩, ⟨M7, M7s⟩, ⟨M20, M20s⟩, ⟨M21, M21s⟩, ⟨M22, M22s⟩, ⟨M26, M26s⟩, ⟨M27, M27s⟩, ⟨M28, M28s⟩, ⟨M30, M30s⟩, ⟨M34, M34s⟩, ⟨M36, M36s⟩, ⟨M37, M37s⟩⟩ := id M
  obtain ⟨I1, hI1, N1, h1, h0, e150, er, ek⟩ := mo_beg N
  rw [← e150] at h
  refine zEi_of (lv := [some (.ref 145)]) (by decide) rfl (Nat.le_of_ble_eq_true rfl) ?_
  refine z_aload_0 d_Mo_blamedSet_0 ?_
  refine z_iconst (a := nI 0) d_Mo_blamedSet_1 (by decide) ?_
  refine z_putI d_Mo_blamedSet_2 f_Mo_70 (by first | assumption | exact zS0_at (by assumption) (by omega) | exact zS0_at rfl (by omega)) ?_
  refine z_aload_0 d_Mo_blamedSet_5 ?_
  refine z_iconst (a := nI 0) d_Mo_blamedSet_6 (by decide) ?_
  refine z_putI d_Mo_blamedSet_7 f_Mo_73 (by first | assumption | exact zS0_at (by assumption) (by omega) | exact zS0_at rfl (by omega)) ?_
  rw [← hI1]
  refine z_aload_0 d_Mo_blamedSet_10 ?_
  refine z_Vi0 d_Mo_blamedSet_11 k_Mo_409 (by first | assumption | exact zS0_at (by assumption) (by omega) | exact zS0_at rfl (by omega)) (t_Mo_blaming M N1) ⟨Nat.le_of_ble_eq_true rfl, Nat.le_of_ble_eq_true rfl, Nat.le_of_ble_eq_true rfl, Nat.le_of_ble_eq_true rfl⟩ (Nat.le_of_ble_eq_true rfl) ?_
  intro r w hq
  obtain ⟨rfl, rfl⟩ := hq
  rw [h]
  dsimp only [zo]
  refine z_reti d_Mo_blamedSet_14 ?_
  exact ⟨by first | rfl | rw [pc_cnt], _, _, rfl, h1, mqJ_r, h0⟩
theorem L_blamedSet (h : zInv n w) : zEi G y_Tf_blamedSet prog_1_method_39_code 1 (some .int) 3 [.ref 0] w (fun r w1 => w1.2.2.2 = w.2.2.2 ∧ zEi G y_Mo_blamedSet prog_14_method_124_code 1 (some .int) 4 [.ref 145] w1 (fun r' w2 => r' = r ∧ zInv (n + 1) w2)) := by
  obtain ⟨f, d, nt, np, nl, nn, fed, mk, I, J, P, S, rfl, Z, X⟩ := h
  have M := clOk_M Z
  have hf := clOk_f Z
  have N := stR_fen X
  have N0 := stR_mod X
  have fm := stR_fm X
  obtain ⟨⟨⟨a1, r1, b1⟩, ⟨a2, r2, b2⟩, ⟨a3, r3, b3⟩, ⟨a4, r4, b4⟩⟩, ⟨⟨o, ob, ao, ro⟩, r5⟩, fw, fp, ft, fz⟩ := id fm
  have hok : ∀ I' : Nat → Nat → Int32, I' 150 = I 150 → (fun s => decide (∀ i, i < nn → (I' 150 (60 + i) = 0 ∨ ¬ nI s &&& I' 150 (69 + i) = 0))) = (fun s => decide (∀ i, i < nn → zbit (I f 7) i → ¬ I (f + 7) i &&& nI s = 0)) := fun I' e => by
    rw [e]
    refine funext fun s => decide_eq_decide.mpr ?_
    constructor
    · intro h i hi hz
      obtain ⟨-, -, -, g4, -, ⟨g6, -⟩, -⟩ := ft i hi
      have g4 : I 150 (60 + i) = zb (I f 7) i := g4
      have g6 : I 150 (69 + i) = I (f + 7) i := g6
      rcases h i hi with q | q
      · rw [g4, zb, if_pos hz] at q; exact absurd q (by decide)
      · rw [g6, Int32.and_comm] at q; exact q
    · intro h i hi
      obtain ⟨-, -, -, g4, -, ⟨g6, -⟩, -⟩ := ft i hi
      have g4 : I 150 (60 + i) = zb (I f 7) i := g4
      have g6 : I 150 (69 + i) = I (f + 7) i := g6
      by_cases hz : zbit (I f 7) i
      · right; rw [g6, Int32.and_comm]; exact h i hi hz
      · left; rw [g4, zb, if_neg hz]; rfl
  have h0p : 0 < 2 ^ np := Nat.pow_pos (by decide)
  have full : (fun s => decide (∀ i, i < nn → zbit (I f 7) i → ¬ I (f + 7) i &&& nI s = 0)) (2 ^ np - 1) = true := by
    refine decide_eq_true (fun i hi _ => ?_)
    obtain ⟨-, -, -, -, -, ⟨-, h, g1, g2, g3⟩, -⟩ := ft i hi
    have g3 : I (f + 7) i = nI h := g3
    have hb := Nat.pow_le_pow_right (n := 2) (by decide) b2
    rw [g3, nx_and, Nat.and_two_pow_sub_one_eq_mod, Nat.mod_eq_of_lt g2]
    exact nI_ne0 g1 (by omega)
  obtain ⟨l, hl⟩ := cov_ex (ok := fun s => decide (∀ i, i < nn → zbit (I f 7) i → ¬ I (f + 7) i &&& nI s = 0)) full (2 ^ np) (by omega)
  have hb := (cov_bl b2 _ (Nat.le_refl _)).2 l hl
  exact L_q Z X (t_Tf_blamedSet Z N hb) (fun I' J' e _ => ⟨_, rfl, t_Mo_blamedSet M (modIn_c N0 (e 150 (by decide))) (by rw [hok I' (e 150 (by decide))]; exact hl)⟩)
end CB0
