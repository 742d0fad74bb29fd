/-! the class: covers, blamed, givings -/
section C8
variable {G : zG} {I : Nat → Nat → Int32} {J : Nat → Nat → Int64} {P : Nat → Nat → Option Nat} {S : List (Nat × Nat)} {f g nt np nl nn : Nat} {a b c : Int32} {x : Int64}
theorem t_Giv_meetsEach {q l n : Nat} (h0 : S[q]? = some (100, l)) (h1 : n ≤ l) (h2 : l < 2 ^ 31) : zEi G y_Giv_meetsEach prog_5_method_11_code 5 (some .boolean) 1 [.int a, .ref q, .int (nI n), .int b] (I, J, P, S) (fun r w => ((∀ i, i < n → zbit b i → ¬ I q i &&& a = 0) ∧ r = nI 1 ∨ ¬ (∀ i, i < n → zbit b i → ¬ I q i &&& a = 0) ∧ r = nI 0) ∧ w = (I, J, P, S)) := by
  refine zEi_of (lv := [some (.int a), some (.ref q), some (.int (nI n)), some (.int b), none]) (by decide) rfl (Nat.le_of_ble_eq_true rfl) ?_
  have loop : ∀ m j, n - j < m → j ≤ n → (∀ i, i < j → zbit b i → ¬ I q i &&& a = 0) → zA G y_Giv_meetsEach prog_5_method_11_code 5 (some .boolean) (zRm 1 0 0) (zM G 0 0 (fun r w' => ∃ x, r = some (.int x) ∧ (fun r w => ((∀ i, i < n → zbit b i → ¬ I q i &&& a = 0) ∧ r = nI 1 ∨ ¬ (∀ i, i < n → zbit b i → ¬ I q i &&& a = 0) ∧ r = nI 0) ∧ w = (I, J, P, S)) x w')) 3 [some (.int a), some (.ref q), some (.int (nI n)), some (.int b), some (.int (nI j))] [] (I, J, P, S) 0 0 := by
    intro m
    induction m with
    | zero => intro j h; omega
    | succ m ih =>
      intro j hm hj hI
      refine z_iload_4 d_Giv_meetsEach_3 ?_
      refine z_iload_2 d_Giv_meetsEach_5 ?_
      refine z_icmp_ge (tgt := 35) d_Giv_meetsEach_6 (by decide) (fun hb => ?_) (fun hb => ?_)
      · have hb := (nI_leI (by omega) (by omega)).mp hb
        obtain rfl : j = n := by omega
        refine z_iconst (a := nI 1) d_Giv_meetsEach_35 (by decide) ?_
        refine z_retz d_Giv_meetsEach_36 (by first | exact zb0 | exact zb1 | assumption) ?_
        exact ⟨Or.inl ⟨hI, rfl⟩, rfl⟩
      · have hb : j < n := Nat.lt_of_not_le (fun q => hb (nI_le q (by omega)))
        refine z_iload_3 d_Giv_meetsEach_9 ?_
        refine z_iload_4 d_Giv_meetsEach_10 ?_
        refine z_ishr d_Giv_meetsEach_12 ?_
        refine z_iconst (a := nI 1) d_Giv_meetsEach_13 (by decide) ?_
        refine z_iand d_Giv_meetsEach_14 ?_
        refine z_if_eq (tgt := 29) d_Giv_meetsEach_15 (by decide) (fun hz => ?_) (fun hz => ?_)
        · have hz := zbit_n.mp hz
          first | refine z_iinc_4 d_Giv_meetsEach_29 rfl (zi_inc _) ?_ | refine z_iinc_4 d_Giv_meetsEach_29 rfl rfl ?_
          refine z_goto (tgt := 3) d_Giv_meetsEach_32 (by decide) ?_
          refine ih (j + 1) (by omega) (by omega) (fun i hi hbi => ?_)
          rcases Nat.lt_or_ge i j with h | h
          · exact hI i h hbi
          · obtain rfl : i = j := by omega
            exact absurd hbi hz
        · have hz := zbit_p.mp hz
          refine z_aload_1 d_Giv_meetsEach_18 ?_
          refine z_iload_4 d_Giv_meetsEach_19 ?_
          refine z_ialdNv d_Giv_meetsEach_21 (by assumption) (by omega) (by omega) rfl ?_
          refine z_iload_0 d_Giv_meetsEach_22 ?_
          refine z_iand d_Giv_meetsEach_23 ?_
          refine z_if_ne (tgt := 29) d_Giv_meetsEach_24 (by decide) (fun hc => ?_) (fun hc => ?_)
          · first | refine z_iinc_4 d_Giv_meetsEach_29 rfl (zi_inc _) ?_ | refine z_iinc_4 d_Giv_meetsEach_29 rfl rfl ?_
            refine z_goto (tgt := 3) d_Giv_meetsEach_32 (by decide) ?_
            refine ih (j + 1) (by omega) (by omega) (fun i hi hbi => ?_)
            rcases Nat.lt_or_ge i j with h | h
            · exact hI i h hbi
            · obtain rfl : i = j := by omega
              exact hc
          · refine z_iconst (a := nI 0) d_Giv_meetsEach_27 (by decide) ?_
            refine z_retz d_Giv_meetsEach_28 (by first | exact zb0 | exact zb1 | assumption) ?_
            exact ⟨Or.inr ⟨fun q => q j hb hz hc, rfl⟩, rfl⟩
  refine z_iconst (a := nI 0) d_Giv_meetsEach_0 (by decide) ?_
  first | refine z_istore_4 d_Giv_meetsEach_1 rfl ?_ | (refine z_forget_3 ?_; refine z_istore_4 d_Giv_meetsEach_1 rfl ?_)
  exact loop (n + 1) 0 (by omega) (by omega) (fun i hi => by omega)
/-- the least set of the fewest that is fine, of those below n -/
def s_cov (ok : Nat → Bool) : Nat → Option Nat
  | 0 => none
  | n + 1 => match s_cov ok n with
    | none => if ok n then some n else none
    | some l => if decide (pcN n < pcN l) && ok n then some n else some l
def zo (o : Option Nat) : Int32 := match o with
  | none => -1
  | some l => nI l
theorem s_cov_lt {ok : Nat → Bool} : ∀ n l, s_cov ok n = some l → l < n ∧ ok l = true := by
  intro n
  induction n with
  | zero => intro l h; cases h
  | succ n ih =>
    intro l h
    rw [s_cov] at h
    split at h
    · split at h
      · rename_i hb
        cases h
        exact ⟨by omega, hb⟩
      · cases h
    · rename_i l' hl
      split at h
      · rename_i hb
        cases h
        exact ⟨by omega, ((Bool.and_eq_true _ _).mp hb).2⟩
      · cases h
        have := ih _ hl
        exact ⟨by omega, this.2⟩
theorem t_Giv_leastCover (F : fenOk P S f) (N : fenIn I f nt np nl nn) : zEi G y_Giv_leastCover prog_5_method_9_code 4 (some .int) 2 [.ref f] (I, J, P, S) (fun r w => r = zo (s_cov (fun s => decide (∀ i, i < np → ¬ I (f + 2) i &&& nI s = 0)) (2 ^ nt)) ∧ w = (I, J, P, S)) := by
  obtain ⟨F0, ⟨F8, F8s⟩, ⟨F9, F9s⟩, ⟨F10, F10s⟩, ⟨F11, F11s⟩, ⟨F12, F12s⟩, ⟨F13, F13s⟩, ⟨F14, F14s⟩, ⟨F15, F15s⟩, ⟨F16, F16s⟩, ⟨F17, F17s⟩, ⟨F18, F18s⟩, ⟨F19, F19s⟩, ⟨Y3, Y3s⟩, ⟨Y4, Y4s⟩, ⟨Y5, Y5s⟩, ⟨Y6, Y6s⟩⟩ := id F
  obtain ⟨⟨n1, n1b⟩, ⟨n2, n2b⟩, ⟨n3, n3b⟩, ⟨n4, n4b⟩, nof, non⟩ := id N
  have h64 : 2 ^ nt ≤ 64 := Nat.pow_le_pow_right (by decide) n1b
  have h1p : 0 < 2 ^ nt := Nat.pow_pos (by decide)
  obtain ⟨ok, hok⟩ : ∃ ok : Nat → Bool, ok = (fun s => decide (∀ i, i < np → ¬ I (f + 2) i &&& nI s = 0)) := ⟨_, rfl⟩
  have hokI : ∀ s, (ok s = true ↔ ∀ i, i < np → zbit (-1) i → ¬ I (f + 2) i &&& nI s = 0) := by
    intro s
    rw [hok]
    simp only [decide_eq_true_eq]
    exact ⟨fun h i hi _ => h i hi, fun h i hi => h i hi (zB_m1 (by omega))⟩
  rw [← hok]
  refine zEi_of (lv := [some (.ref f), none, none, none]) (by decide) rfl (Nat.le_of_ble_eq_true rfl) ?_
  have loop : ∀ m j, (2^nt) - j < m → j ≤ (2^nt) → zA G y_Giv_leastCover prog_5_method_9_code 4 (some .int) (zRm 2 0 0) (zM G 0 0 (fun r w' => ∃ x, r = some (.int x) ∧ (fun r w => r = zo (s_cov ok (2 ^ nt)) ∧ w = (I, J, P, S)) x w')) 4 [some (.ref f), some (.int (zo (s_cov ok j))), some (.int (nI j)), none] [] (I, J, P, S) 0 0 := by
    intro m
    induction m with
    | zero => intro j h; omega
    | succ m ih =>
      intro j hm hj
      refine z_iload_2 d_Giv_leastCover_4 ?_
      refine z_iconst (a := nI 1) d_Giv_leastCover_5 (by decide) ?_
      refine z_aload_0 d_Giv_leastCover_6 ?_
      refine z_getIv d_Giv_leastCover_7 f_Giv_55 (by assumption) (by first | assumption | ((try simp (disch := omega) only [zu_same, zu_ne, zcp_ne, zfl_ne]); first | assumption | rfl)) ?_
      refine z_ishl d_Giv_leastCover_10 ?_
      rw [nx_sh nt (by omega)]
      refine z_icmp_ge (tgt := 63) d_Giv_leastCover_11 (by decide) (fun hb => ?_) (fun hb => ?_)
      · have hb := (nI_leI (by omega) (by omega)).mp hb
        obtain rfl : j = 2 ^ nt := by omega
        refine z_iload_1 d_Giv_leastCover_63 ?_
        refine z_reti d_Giv_leastCover_64 ?_
        exact ⟨rfl, rfl⟩
      · have hb : j < 2 ^ nt := Nat.lt_of_not_le (fun q => hb (nI_le q (by omega)))
        have q := ih (j + 1) (by omega) (by omega)
        rw [s_cov] at q
        have hpj := pc_le j (by omega)
        cases hcv : s_cov ok j with
        | none =>
          rw [hcv] at q
          dsimp only [zo] at q ⊢
          refine z_iload_1 d_Giv_leastCover_14 ?_
          refine z_if_lt (tgt := 29) d_Giv_leastCover_15 (by decide) (fun h15 => ?_) (fun h15 => ?_)
          · first
            | (simp (disch := omega) only [← nI_0, nI_leI, nI_ltI, nI_eq, not_true_eq_false, not_false_eq_true] at h15; done)
            | (simp (disch := omega) only [← nI_0, nI_leI, nI_ltI, nI_eq, not_true_eq_false, not_false_eq_true] at h15; omega)
            | contradiction
            | exact absurd h15 (Int32.not_lt.mpr (by assumption))
            | exact absurd h15 (Int32.not_le.mpr (by assumption))
            | exact absurd h15 (by decide)
            | exact absurd (by decide) h15
            | ( try simp (disch := omega) only [← nI_0, nI_leI, nI_ltI, nI_eq, not_true_eq_false, not_false_eq_true] at h15
                (try have h15b := zbit_n0.mp h15); (try have h15b := zbit_p0.mp h15)
                refine z_iconst (a := nI 1) d_Giv_leastCover_29 (by decide) ?_
                refine z_goto (tgt := 34) d_Giv_leastCover_30 (by decide) ?_
                first | refine z_istore_3 d_Giv_leastCover_34 rfl ?_ | (refine z_forget_2 ?_; refine z_istore_3 d_Giv_leastCover_34 rfl ?_)
                refine z_iload_3 d_Giv_leastCover_35 ?_
                refine z_if_eq (tgt := 57) d_Giv_leastCover_36 (by decide) (fun h36 => ?_) (fun h36 => ?_)
                · first
                  | (simp (disch := omega) only [← nI_0, nI_leI, nI_ltI, nI_eq, not_true_eq_false, not_false_eq_true] at h36; done)
                  | (simp (disch := omega) only [← nI_0, nI_leI, nI_ltI, nI_eq, not_true_eq_false, not_false_eq_true] at h36; omega)
                  | contradiction
                  | exact absurd h36 (Int32.not_lt.mpr (by assumption))
                  | exact absurd h36 (Int32.not_le.mpr (by assumption))
                  | exact absurd h36 (by decide)
                  | exact absurd (by decide) h36
                  | ( try simp (disch := omega) only [← nI_0, nI_leI, nI_ltI, nI_eq, not_true_eq_false, not_false_eq_true] at h36
                      (try have h36b := zbit_n0.mp h36); (try have h36b := zbit_p0.mp h36)
                      first | refine z_iinc_2 d_Giv_leastCover_57 rfl (zi_inc _) ?_ | refine z_iinc_2 d_Giv_leastCover_57 rfl rfl ?_
                      refine z_goto (tgt := 4) d_Giv_leastCover_60 (by decide) ?_
                      (refine z_forget_3 ?_; first | (rw [if_pos ((hokI j).mpr (by assumption))] at q; exact q) | (rw [if_neg (fun h => absurd ((hokI j).mp h) (by assumption))] at q; exact q)))
                · first
                  | (simp (disch := omega) only [← nI_0, nI_leI, nI_ltI, nI_eq, not_true_eq_false, not_false_eq_true] at h36; done)
                  | (simp (disch := omega) only [← nI_0, nI_leI, nI_ltI, nI_eq, not_true_eq_false, not_false_eq_true] at h36; omega)
                  | contradiction
                  | exact absurd h36 (Int32.not_lt.mpr (by assumption))
                  | exact absurd h36 (Int32.not_le.mpr (by assumption))
                  | exact absurd h36 (by decide)
                  | exact absurd (by decide) h36
                  | ( try simp (disch := omega) only [← nI_0, nI_leI, nI_ltI, nI_eq, not_true_eq_false, not_false_eq_true] at h36
                      (try have h36b := zbit_n0.mp h36); (try have h36b := zbit_p0.mp h36)
                      refine z_iload_2 d_Giv_leastCover_39 ?_
                      refine z_aload_0 d_Giv_leastCover_40 ?_
                      refine z_getR d_Giv_leastCover_41 f_Giv_63 (by assumption) (by assumption) ?_
                      refine z_aload_0 d_Giv_leastCover_44 ?_
                      refine z_getIv d_Giv_leastCover_45 f_Giv_30 (by assumption) (by first | assumption | ((try simp (disch := omega) only [zu_same, zu_ne, zcp_ne, zfl_ne]); first | assumption | rfl)) ?_
                      refine z_iconst (a := -1) d_Giv_leastCover_48 (by decide) ?_
                      refine z_Si4 d_Giv_leastCover_49 k_Giv_67 (t_Giv_meetsEach (by assumption) (by omega) (by decide)) ⟨Nat.le_of_ble_eq_true rfl, Nat.le_of_ble_eq_true rfl, Nat.le_of_ble_eq_true rfl, Nat.le_of_ble_eq_true rfl⟩ (Nat.le_of_ble_eq_true rfl) ?_
                      intro r w hq
                      rcases hq with ⟨⟨hz49, rfl⟩ | ⟨hz49, rfl⟩, rfl⟩
                      · first
                        | contradiction
                        | ( skip
                            refine z_if_eq (tgt := 57) d_Giv_leastCover_52 (by decide) (fun h => absurd h (by decide)) (fun _ => ?_)
                            refine z_iload_2 d_Giv_leastCover_55 ?_
                            first | refine z_istore_1 d_Giv_leastCover_56 rfl ?_ | (refine z_forget_0 ?_; refine z_istore_1 d_Giv_leastCover_56 rfl ?_)
                            first | refine z_iinc_2 d_Giv_leastCover_57 rfl (zi_inc _) ?_ | refine z_iinc_2 d_Giv_leastCover_57 rfl rfl ?_
                            refine z_goto (tgt := 4) d_Giv_leastCover_60 (by decide) ?_
                            (refine z_forget_3 ?_; first | (rw [if_pos ((hokI j).mpr (by assumption))] at q; exact q) | (rw [if_neg (fun h => absurd ((hokI j).mp h) (by assumption))] at q; exact q)))
                      · first
                        | contradiction
                        | ( skip
                            refine z_if_eq (tgt := 57) d_Giv_leastCover_52 (by decide) (fun _ => ?_) (fun h => absurd h (by decide))
                            first | refine z_iinc_2 d_Giv_leastCover_57 rfl (zi_inc _) ?_ | refine z_iinc_2 d_Giv_leastCover_57 rfl rfl ?_
                            refine z_goto (tgt := 4) d_Giv_leastCover_60 (by decide) ?_
                            (refine z_forget_3 ?_; first | (rw [if_pos ((hokI j).mpr (by assumption))] at q; exact q) | (rw [if_neg (fun h => absurd ((hokI j).mp h) (by assumption))] at q; exact q)))))
          · first
            | (simp (disch := omega) only [← nI_0, nI_leI, nI_ltI, nI_eq, not_true_eq_false, not_false_eq_true] at h15; done)
            | (simp (disch := omega) only [← nI_0, nI_leI, nI_ltI, nI_eq, not_true_eq_false, not_false_eq_true] at h15; omega)
            | contradiction
            | exact absurd h15 (Int32.not_lt.mpr (by assumption))
            | exact absurd h15 (Int32.not_le.mpr (by assumption))
            | exact absurd h15 (by decide)
            | exact absurd (by decide) h15
            | ( try simp (disch := omega) only [← nI_0, nI_leI, nI_ltI, nI_eq, not_true_eq_false, not_false_eq_true] at h15
                (try have h15b := zbit_n0.mp h15); (try have h15b := zbit_p0.mp h15)
                refine z_iload_2 d_Giv_leastCover_18 ?_
                refine z_Si1 d_Giv_leastCover_19 k_Giv_58 (t_JInt_bitCount (by omega)) ⟨Nat.le_of_ble_eq_true rfl, Nat.le_of_ble_eq_true rfl, Nat.le_of_ble_eq_true rfl, Nat.le_of_ble_eq_true rfl⟩ (Nat.le_of_ble_eq_true rfl) ?_
                intro r w hq
                obtain ⟨rfl, rfl⟩ := hq
                refine z_iload_1 d_Giv_leastCover_22 ?_
                refine z_Si1 d_Giv_leastCover_23 k_Giv_58 (t_JInt_bitCount (by omega)) ⟨Nat.le_of_ble_eq_true rfl, Nat.le_of_ble_eq_true rfl, Nat.le_of_ble_eq_true rfl, Nat.le_of_ble_eq_true rfl⟩ (Nat.le_of_ble_eq_true rfl) ?_
                intro r w hq
                obtain ⟨rfl, rfl⟩ := hq
                refine z_icmp_ge (tgt := 33) d_Giv_leastCover_26 (by decide) (fun h26 => ?_) (fun h26 => ?_)
                · first
                  | (simp (disch := omega) only [← nI_0, nI_leI, nI_ltI, nI_eq, not_true_eq_false, not_false_eq_true] at h26; done)
                  | (simp (disch := omega) only [← nI_0, nI_leI, nI_ltI, nI_eq, not_true_eq_false, not_false_eq_true] at h26; omega)
                  | contradiction
                  | exact absurd h26 (Int32.not_lt.mpr (by assumption))
                  | exact absurd h26 (Int32.not_le.mpr (by assumption))
                  | exact absurd h26 (by decide)
                  | exact absurd (by decide) h26
                  | ( try simp (disch := omega) only [← nI_0, nI_leI, nI_ltI, nI_eq, not_true_eq_false, not_false_eq_true] at h26
                      (try have h26b := zbit_n0.mp h26); (try have h26b := zbit_p0.mp h26)
                      refine z_iconst (a := nI 0) d_Giv_leastCover_33 (by decide) ?_
                      first | refine z_istore_3 d_Giv_leastCover_34 rfl ?_ | (refine z_forget_2 ?_; refine z_istore_3 d_Giv_leastCover_34 rfl ?_)
                      refine z_iload_3 d_Giv_leastCover_35 ?_
                      refine z_if_eq (tgt := 57) d_Giv_leastCover_36 (by decide) (fun h36 => ?_) (fun h36 => ?_)
                      · first
                        | (simp (disch := omega) only [← nI_0, nI_leI, nI_ltI, nI_eq, not_true_eq_false, not_false_eq_true] at h36; done)
                        | (simp (disch := omega) only [← nI_0, nI_leI, nI_ltI, nI_eq, not_true_eq_false, not_false_eq_true] at h36; omega)
                        | contradiction
                        | exact absurd h36 (Int32.not_lt.mpr (by assumption))
                        | exact absurd h36 (Int32.not_le.mpr (by assumption))
                        | exact absurd h36 (by decide)
                        | exact absurd (by decide) h36
                        | ( try simp (disch := omega) only [← nI_0, nI_leI, nI_ltI, nI_eq, not_true_eq_false, not_false_eq_true] at h36
                            (try have h36b := zbit_n0.mp h36); (try have h36b := zbit_p0.mp h36)
                            first | refine z_iinc_2 d_Giv_leastCover_57 rfl (zi_inc _) ?_ | refine z_iinc_2 d_Giv_leastCover_57 rfl rfl ?_
                            refine z_goto (tgt := 4) d_Giv_leastCover_60 (by decide) ?_
                            (refine z_forget_3 ?_; first | (rw [if_pos ((hokI j).mpr (by assumption))] at q; exact q) | (rw [if_neg (fun h => absurd ((hokI j).mp h) (by assumption))] at q; exact q)))
                      · first
                        | (simp (disch := omega) only [← nI_0, nI_leI, nI_ltI, nI_eq, not_true_eq_false, not_false_eq_true] at h36; done)
                        | (simp (disch := omega) only [← nI_0, nI_leI, nI_ltI, nI_eq, not_true_eq_false, not_false_eq_true] at h36; omega)
                        | contradiction
                        | exact absurd h36 (Int32.not_lt.mpr (by assumption))
                        | exact absurd h36 (Int32.not_le.mpr (by assumption))
                        | exact absurd h36 (by decide)
                        | exact absurd (by decide) h36
                        | ( try simp (disch := omega) only [← nI_0, nI_leI, nI_ltI, nI_eq, not_true_eq_false, not_false_eq_true] at h36
                            (try have h36b := zbit_n0.mp h36); (try have h36b := zbit_p0.mp h36)
                            refine z_iload_2 d_Giv_leastCover_39 ?_
                            refine z_aload_0 d_Giv_leastCover_40 ?_
                            refine z_getR d_Giv_leastCover_41 f_Giv_63 (by assumption) (by assumption) ?_
                            refine z_aload_0 d_Giv_leastCover_44 ?_
                            refine z_getIv d_Giv_leastCover_45 f_Giv_30 (by assumption) (by first | assumption | ((try simp (disch := omega) only [zu_same, zu_ne, zcp_ne, zfl_ne]); first | assumption | rfl)) ?_
                            refine z_iconst (a := -1) d_Giv_leastCover_48 (by decide) ?_
                            refine z_Si4 d_Giv_leastCover_49 k_Giv_67 (t_Giv_meetsEach (by assumption) (by omega) (by decide)) ⟨Nat.le_of_ble_eq_true rfl, Nat.le_of_ble_eq_true rfl, Nat.le_of_ble_eq_true rfl, Nat.le_of_ble_eq_true rfl⟩ (Nat.le_of_ble_eq_true rfl) ?_
                            intro r w hq
                            rcases hq with ⟨⟨hz49, rfl⟩ | ⟨hz49, rfl⟩, rfl⟩
                            · first
                              | contradiction
                              | ( skip
                                  refine z_if_eq (tgt := 57) d_Giv_leastCover_52 (by decide) (fun h => absurd h (by decide)) (fun _ => ?_)
                                  refine z_iload_2 d_Giv_leastCover_55 ?_
                                  first | refine z_istore_1 d_Giv_leastCover_56 rfl ?_ | (refine z_forget_0 ?_; refine z_istore_1 d_Giv_leastCover_56 rfl ?_)
                                  first | refine z_iinc_2 d_Giv_leastCover_57 rfl (zi_inc _) ?_ | refine z_iinc_2 d_Giv_leastCover_57 rfl rfl ?_
                                  refine z_goto (tgt := 4) d_Giv_leastCover_60 (by decide) ?_
                                  (refine z_forget_3 ?_; first | (rw [if_pos ((hokI j).mpr (by assumption))] at q; exact q) | (rw [if_neg (fun h => absurd ((hokI j).mp h) (by assumption))] at q; exact q)))
                            · first
                              | contradiction
                              | ( skip
                                  refine z_if_eq (tgt := 57) d_Giv_leastCover_52 (by decide) (fun _ => ?_) (fun h => absurd h (by decide))
                                  first | refine z_iinc_2 d_Giv_leastCover_57 rfl (zi_inc _) ?_ | refine z_iinc_2 d_Giv_leastCover_57 rfl rfl ?_
                                  refine z_goto (tgt := 4) d_Giv_leastCover_60 (by decide) ?_
                                  (refine z_forget_3 ?_; first | (rw [if_pos ((hokI j).mpr (by assumption))] at q; exact q) | (rw [if_neg (fun h => absurd ((hokI j).mp h) (by assumption))] at q; exact q)))))
                · first
                  | (simp (disch := omega) only [← nI_0, nI_leI, nI_ltI, nI_eq, not_true_eq_false, not_false_eq_true] at h26; done)
                  | (simp (disch := omega) only [← nI_0, nI_leI, nI_ltI, nI_eq, not_true_eq_false, not_false_eq_true] at h26; omega)
                  | contradiction
                  | exact absurd h26 (Int32.not_lt.mpr (by assumption))
                  | exact absurd h26 (Int32.not_le.mpr (by assumption))
                  | exact absurd h26 (by decide)
                  | exact absurd (by decide) h26
                  | ( try simp (disch := omega) only [← nI_0, nI_leI, nI_ltI, nI_eq, not_true_eq_false, not_false_eq_true] at h26
                      (try have h26b := zbit_n0.mp h26); (try have h26b := zbit_p0.mp h26)
                      refine z_iconst (a := nI 1) d_Giv_leastCover_29 (by decide) ?_
                      refine z_goto (tgt := 34) d_Giv_leastCover_30 (by decide) ?_
                      first | refine z_istore_3 d_Giv_leastCover_34 rfl ?_ | (refine z_forget_2 ?_; refine z_istore_3 d_Giv_leastCover_34 rfl ?_)
                      refine z_iload_3 d_Giv_leastCover_35 ?_
                      refine z_if_eq (tgt := 57) d_Giv_leastCover_36 (by decide) (fun h36 => ?_) (fun h36 => ?_)
                      · first
                        | (simp (disch := omega) only [← nI_0, nI_leI, nI_ltI, nI_eq, not_true_eq_false, not_false_eq_true] at h36; done)
                        | (simp (disch := omega) only [← nI_0, nI_leI, nI_ltI, nI_eq, not_true_eq_false, not_false_eq_true] at h36; omega)
                        | contradiction
                        | exact absurd h36 (Int32.not_lt.mpr (by assumption))
                        | exact absurd h36 (Int32.not_le.mpr (by assumption))
                        | exact absurd h36 (by decide)
                        | exact absurd (by decide) h36
                        | ( try simp (disch := omega) only [← nI_0, nI_leI, nI_ltI, nI_eq, not_true_eq_false, not_false_eq_true] at h36
                            (try have h36b := zbit_n0.mp h36); (try have h36b := zbit_p0.mp h36)
                            first | refine z_iinc_2 d_Giv_leastCover_57 rfl (zi_inc _) ?_ | refine z_iinc_2 d_Giv_leastCover_57 rfl rfl ?_
                            refine z_goto (tgt := 4) d_Giv_leastCover_60 (by decide) ?_
                            (refine z_forget_3 ?_; first | (rw [if_pos ((hokI j).mpr (by assumption))] at q; exact q) | (rw [if_neg (fun h => absurd ((hokI j).mp h) (by assumption))] at q; exact q)))
                      · first
                        | (simp (disch := omega) only [← nI_0, nI_leI, nI_ltI, nI_eq, not_true_eq_false, not_false_eq_true] at h36; done)
                        | (simp (disch := omega) only [← nI_0, nI_leI, nI_ltI, nI_eq, not_true_eq_false, not_false_eq_true] at h36; omega)
                        | contradiction
                        | exact absurd h36 (Int32.not_lt.mpr (by assumption))
                        | exact absurd h36 (Int32.not_le.mpr (by assumption))
                        | exact absurd h36 (by decide)
                        | exact absurd (by decide) h36
                        | ( try simp (disch := omega) only [← nI_0, nI_leI, nI_ltI, nI_eq, not_true_eq_false, not_false_eq_true] at h36
                            (try have h36b := zbit_n0.mp h36); (try have h36b := zbit_p0.mp h36)
                            refine z_iload_2 d_Giv_leastCover_39 ?_
                            refine z_aload_0 d_Giv_leastCover_40 ?_
                            refine z_getR d_Giv_leastCover_41 f_Giv_63 (by assumption) (by assumption) ?_
                            refine z_aload_0 d_Giv_leastCover_44 ?_
                            refine z_getIv d_Giv_leastCover_45 f_Giv_30 (by assumption) (by first | assumption | ((try simp (disch := omega) only [zu_same, zu_ne, zcp_ne, zfl_ne]); first | assumption | rfl)) ?_
                            refine z_iconst (a := -1) d_Giv_leastCover_48 (by decide) ?_
                            refine z_Si4 d_Giv_leastCover_49 k_Giv_67 (t_Giv_meetsEach (by assumption) (by omega) (by decide)) ⟨Nat.le_of_ble_eq_true rfl, Nat.le_of_ble_eq_true rfl, Nat.le_of_ble_eq_true rfl, Nat.le_of_ble_eq_true rfl⟩ (Nat.le_of_ble_eq_true rfl) ?_
                            intro r w hq
                            rcases hq with ⟨⟨hz49, rfl⟩ | ⟨hz49, rfl⟩, rfl⟩
                            · first
                              | contradiction
                              | ( skip
                                  refine z_if_eq (tgt := 57) d_Giv_leastCover_52 (by decide) (fun h => absurd h (by decide)) (fun _ => ?_)
                                  refine z_iload_2 d_Giv_leastCover_55 ?_
                                  first | refine z_istore_1 d_Giv_leastCover_56 rfl ?_ | (refine z_forget_0 ?_; refine z_istore_1 d_Giv_leastCover_56 rfl ?_)
                                  first | refine z_iinc_2 d_Giv_leastCover_57 rfl (zi_inc _) ?_ | refine z_iinc_2 d_Giv_leastCover_57 rfl rfl ?_
                                  refine z_goto (tgt := 4) d_Giv_leastCover_60 (by decide) ?_
                                  (refine z_forget_3 ?_; first | (rw [if_pos ((hokI j).mpr (by assumption))] at q; exact q) | (rw [if_neg (fun h => absurd ((hokI j).mp h) (by assumption))] at q; exact q)))
                            · first
                              | contradiction
                              | ( skip
                                  refine z_if_eq (tgt := 57) d_Giv_leastCover_52 (by decide) (fun _ => ?_) (fun h => absurd h (by decide))
                                  first | refine z_iinc_2 d_Giv_leastCover_57 rfl (zi_inc _) ?_ | refine z_iinc_2 d_Giv_leastCover_57 rfl rfl ?_
                                  refine z_goto (tgt := 4) d_Giv_leastCover_60 (by decide) ?_
                                  (refine z_forget_3 ?_; first | (rw [if_pos ((hokI j).mpr (by assumption))] at q; exact q) | (rw [if_neg (fun h => absurd ((hokI j).mp h) (by assumption))] at q; exact q))))))
        | some l =>
          have hl := (s_cov_lt j l hcv).1
          have hpl := pc_le l (by omega)
          rw [hcv] at q
          dsimp only [zo] at q ⊢
          refine z_iload_1 d_Giv_leastCover_14 ?_
          refine z_if_lt (tgt := 29) d_Giv_leastCover_15 (by decide) (fun h15 => ?_) (fun h15 => ?_)
          · first
            | (simp (disch := omega) only [← nI_0, nI_leI, nI_ltI, nI_eq, not_true_eq_false, not_false_eq_true] at h15; done)
            | (simp (disch := omega) only [← nI_0, nI_leI, nI_ltI, nI_eq, not_true_eq_false, not_false_eq_true] at h15; omega)
            | contradiction
            | exact absurd h15 (Int32.not_lt.mpr (by assumption))
            | exact absurd h15 (Int32.not_le.mpr (by assumption))
            | exact absurd h15 (by decide)
            | exact absurd (by decide) h15
            | ( try simp (disch := omega) only [← nI_0, nI_leI, nI_ltI, nI_eq, not_true_eq_false, not_false_eq_true] at h15
                (try have h15b := zbit_n0.mp h15); (try have h15b := zbit_p0.mp h15)
                refine z_iconst (a := nI 1) d_Giv_leastCover_29 (by decide) ?_
                refine z_goto (tgt := 34) d_Giv_leastCover_30 (by decide) ?_
                first | refine z_istore_3 d_Giv_leastCover_34 rfl ?_ | (refine z_forget_2 ?_; refine z_istore_3 d_Giv_leastCover_34 rfl ?_)
                refine z_iload_3 d_Giv_leastCover_35 ?_
                refine z_if_eq (tgt := 57) d_Giv_leastCover_36 (by decide) (fun h36 => ?_) (fun h36 => ?_)
                · first
                  | (simp (disch := omega) only [← nI_0, nI_leI, nI_ltI, nI_eq, not_true_eq_false, not_false_eq_true] at h36; done)
                  | (simp (disch := omega) only [← nI_0, nI_leI, nI_ltI, nI_eq, not_true_eq_false, not_false_eq_true] at h36; omega)
                  | contradiction
                  | exact absurd h36 (Int32.not_lt.mpr (by assumption))
                  | exact absurd h36 (Int32.not_le.mpr (by assumption))
                  | exact absurd h36 (by decide)
                  | exact absurd (by decide) h36
                  | ( try simp (disch := omega) only [← nI_0, nI_leI, nI_ltI, nI_eq, not_true_eq_false, not_false_eq_true] at h36
                      (try have h36b := zbit_n0.mp h36); (try have h36b := zbit_p0.mp h36)
                      first | refine z_iinc_2 d_Giv_leastCover_57 rfl (zi_inc _) ?_ | refine z_iinc_2 d_Giv_leastCover_57 rfl rfl ?_
                      refine z_goto (tgt := 4) d_Giv_leastCover_60 (by decide) ?_
                      (refine z_forget_3 ?_; first | (rw [if_pos ((Bool.and_eq_true _ _).mpr ⟨decide_eq_true (by omega), (hokI j).mpr (by assumption)⟩)] at q; exact q) | (rw [if_neg (fun h => absurd ((hokI j).mp ((Bool.and_eq_true _ _).mp h).2) (by assumption))] at q; exact q) | (rw [if_neg (fun h => absurd (of_decide_eq_true ((Bool.and_eq_true _ _).mp h).1) (by omega))] at q; exact q)))
                · first
                  | (simp (disch := omega) only [← nI_0, nI_leI, nI_ltI, nI_eq, not_true_eq_false, not_false_eq_true] at h36; done)
                  | (simp (disch := omega) only [← nI_0, nI_leI, nI_ltI, nI_eq, not_true_eq_false, not_false_eq_true] at h36; omega)
                  | contradiction
                  | exact absurd h36 (Int32.not_lt.mpr (by assumption))
                  | exact absurd h36 (Int32.not_le.mpr (by assumption))
                  | exact absurd h36 (by decide)
                  | exact absurd (by decide) h36
                  | ( try simp (disch := omega) only [← nI_0, nI_leI, nI_ltI, nI_eq, not_true_eq_false, not_false_eq_true] at h36
                      (try have h36b := zbit_n0.mp h36); (try have h36b := zbit_p0.mp h36)
                      refine z_iload_2 d_Giv_leastCover_39 ?_
                      refine z_aload_0 d_Giv_leastCover_40 ?_
                      refine z_getR d_Giv_leastCover_41 f_Giv_63 (by assumption) (by assumption) ?_
                      refine z_aload_0 d_Giv_leastCover_44 ?_
                      refine z_getIv d_Giv_leastCover_45 f_Giv_30 (by assumption) (by first | assumption | ((try simp (disch := omega) only [zu_same, zu_ne, zcp_ne, zfl_ne]); first | assumption | rfl)) ?_
                      refine z_iconst (a := -1) d_Giv_leastCover_48 (by decide) ?_
                      refine z_Si4 d_Giv_leastCover_49 k_Giv_67 (t_Giv_meetsEach (by assumption) (by omega) (by decide)) ⟨Nat.le_of_ble_eq_true rfl, Nat.le_of_ble_eq_true rfl, Nat.le_of_ble_eq_true rfl, Nat.le_of_ble_eq_true rfl⟩ (Nat.le_of_ble_eq_true rfl) ?_
                      intro r w hq
                      rcases hq with ⟨⟨hz49, rfl⟩ | ⟨hz49, rfl⟩, rfl⟩
                      · first
                        | contradiction
                        | ( skip
                            refine z_if_eq (tgt := 57) d_Giv_leastCover_52 (by decide) (fun h => absurd h (by decide)) (fun _ => ?_)
                            refine z_iload_2 d_Giv_leastCover_55 ?_
                            first | refine z_istore_1 d_Giv_leastCover_56 rfl ?_ | (refine z_forget_0 ?_; refine z_istore_1 d_Giv_leastCover_56 rfl ?_)
                            first | refine z_iinc_2 d_Giv_leastCover_57 rfl (zi_inc _) ?_ | refine z_iinc_2 d_Giv_leastCover_57 rfl rfl ?_
                            refine z_goto (tgt := 4) d_Giv_leastCover_60 (by decide) ?_
                            (refine z_forget_3 ?_; first | (rw [if_pos ((Bool.and_eq_true _ _).mpr ⟨decide_eq_true (by omega), (hokI j).mpr (by assumption)⟩)] at q; exact q) | (rw [if_neg (fun h => absurd ((hokI j).mp ((Bool.and_eq_true _ _).mp h).2) (by assumption))] at q; exact q) | (rw [if_neg (fun h => absurd (of_decide_eq_true ((Bool.and_eq_true _ _).mp h).1) (by omega))] at q; exact q)))
                      · first
                        | contradiction
                        | ( skip
                            refine z_if_eq (tgt := 57) d_Giv_leastCover_52 (by decide) (fun _ => ?_) (fun h => absurd h (by decide))
                            first | refine z_iinc_2 d_Giv_leastCover_57 rfl (zi_inc _) ?_ | refine z_iinc_2 d_Giv_leastCover_57 rfl rfl ?_
                            refine z_goto (tgt := 4) d_Giv_leastCover_60 (by decide) ?_
                            (refine z_forget_3 ?_; first | (rw [if_pos ((Bool.and_eq_true _ _).mpr ⟨decide_eq_true (by omega), (hokI j).mpr (by assumption)⟩)] at q; exact q) | (rw [if_neg (fun h => absurd ((hokI j).mp ((Bool.and_eq_true _ _).mp h).2) (by assumption))] at q; exact q) | (rw [if_neg (fun h => absurd (of_decide_eq_true ((Bool.and_eq_true _ _).mp h).1) (by omega))] at q; exact q)))))
          · first
            | (simp (disch := omega) only [← nI_0, nI_leI, nI_ltI, nI_eq, not_true_eq_false, not_false_eq_true] at h15; done)
            | (simp (disch := omega) only [← nI_0, nI_leI, nI_ltI, nI_eq, not_true_eq_false, not_false_eq_true] at h15; omega)
            | contradiction
            | exact absurd h15 (Int32.not_lt.mpr (by assumption))
            | exact absurd h15 (Int32.not_le.mpr (by assumption))
            | exact absurd h15 (by decide)
            | exact absurd (by decide) h15
            | ( try simp (disch := omega) only [← nI_0, nI_leI, nI_ltI, nI_eq, not_true_eq_false, not_false_eq_true] at h15
                (try have h15b := zbit_n0.mp h15); (try have h15b := zbit_p0.mp h15)
                refine z_iload_2 d_Giv_leastCover_18 ?_
                refine z_Si1 d_Giv_leastCover_19 k_Giv_58 (t_JInt_bitCount (by omega)) ⟨Nat.le_of_ble_eq_true rfl, Nat.le_of_ble_eq_true rfl, Nat.le_of_ble_eq_true rfl, Nat.le_of_ble_eq_true rfl⟩ (Nat.le_of_ble_eq_true rfl) ?_
                intro r w hq
                obtain ⟨rfl, rfl⟩ := hq
                refine z_iload_1 d_Giv_leastCover_22 ?_
                refine z_Si1 d_Giv_leastCover_23 k_Giv_58 (t_JInt_bitCount (by omega)) ⟨Nat.le_of_ble_eq_true rfl, Nat.le_of_ble_eq_true rfl, Nat.le_of_ble_eq_true rfl, Nat.le_of_ble_eq_true rfl⟩ (Nat.le_of_ble_eq_true rfl) ?_
                intro r w hq
                obtain ⟨rfl, rfl⟩ := hq
                refine z_icmp_ge (tgt := 33) d_Giv_leastCover_26 (by decide) (fun h26 => ?_) (fun h26 => ?_)
                · first
                  | (simp (disch := omega) only [← nI_0, nI_leI, nI_ltI, nI_eq, not_true_eq_false, not_false_eq_true] at h26; done)
                  | (simp (disch := omega) only [← nI_0, nI_leI, nI_ltI, nI_eq, not_true_eq_false, not_false_eq_true] at h26; omega)
                  | contradiction
                  | exact absurd h26 (Int32.not_lt.mpr (by assumption))
                  | exact absurd h26 (Int32.not_le.mpr (by assumption))
                  | exact absurd h26 (by decide)
                  | exact absurd (by decide) h26
                  | ( try simp (disch := omega) only [← nI_0, nI_leI, nI_ltI, nI_eq, not_true_eq_false, not_false_eq_true] at h26
                      (try have h26b := zbit_n0.mp h26); (try have h26b := zbit_p0.mp h26)
                      refine z_iconst (a := nI 0) d_Giv_leastCover_33 (by decide) ?_
                      first | refine z_istore_3 d_Giv_leastCover_34 rfl ?_ | (refine z_forget_2 ?_; refine z_istore_3 d_Giv_leastCover_34 rfl ?_)
                      refine z_iload_3 d_Giv_leastCover_35 ?_
                      refine z_if_eq (tgt := 57) d_Giv_leastCover_36 (by decide) (fun h36 => ?_) (fun h36 => ?_)
                      · first
                        | (simp (disch := omega) only [← nI_0, nI_leI, nI_ltI, nI_eq, not_true_eq_false, not_false_eq_true] at h36; done)
                        | (simp (disch := omega) only [← nI_0, nI_leI, nI_ltI, nI_eq, not_true_eq_false, not_false_eq_true] at h36; omega)
                        | contradiction
                        | exact absurd h36 (Int32.not_lt.mpr (by assumption))
                        | exact absurd h36 (Int32.not_le.mpr (by assumption))
                        | exact absurd h36 (by decide)
                        | exact absurd (by decide) h36
                        | ( try simp (disch := omega) only [← nI_0, nI_leI, nI_ltI, nI_eq, not_true_eq_false, not_false_eq_true] at h36
                            (try have h36b := zbit_n0.mp h36); (try have h36b := zbit_p0.mp h36)
                            first | refine z_iinc_2 d_Giv_leastCover_57 rfl (zi_inc _) ?_ | refine z_iinc_2 d_Giv_leastCover_57 rfl rfl ?_
                            refine z_goto (tgt := 4) d_Giv_leastCover_60 (by decide) ?_
                            (refine z_forget_3 ?_; first | (rw [if_pos ((Bool.and_eq_true _ _).mpr ⟨decide_eq_true (by omega), (hokI j).mpr (by assumption)⟩)] at q; exact q) | (rw [if_neg (fun h => absurd ((hokI j).mp ((Bool.and_eq_true _ _).mp h).2) (by assumption))] at q; exact q) | (rw [if_neg (fun h => absurd (of_decide_eq_true ((Bool.and_eq_true _ _).mp h).1) (by omega))] at q; exact q)))
                      · first
                        | (simp (disch := omega) only [← nI_0, nI_leI, nI_ltI, nI_eq, not_true_eq_false, not_false_eq_true] at h36; done)
                        | (simp (disch := omega) only [← nI_0, nI_leI, nI_ltI, nI_eq, not_true_eq_false, not_false_eq_true] at h36; omega)
                        | contradiction
                        | exact absurd h36 (Int32.not_lt.mpr (by assumption))
                        | exact absurd h36 (Int32.not_le.mpr (by assumption))
                        | exact absurd h36 (by decide)
                        | exact absurd (by decide) h36
                        | ( try simp (disch := omega) only [← nI_0, nI_leI, nI_ltI, nI_eq, not_true_eq_false, not_false_eq_true] at h36
                            (try have h36b := zbit_n0.mp h36); (try have h36b := zbit_p0.mp h36)
                            refine z_iload_2 d_Giv_leastCover_39 ?_
                            refine z_aload_0 d_Giv_leastCover_40 ?_
                            refine z_getR d_Giv_leastCover_41 f_Giv_63 (by assumption) (by assumption) ?_
                            refine z_aload_0 d_Giv_leastCover_44 ?_
                            refine z_getIv d_Giv_leastCover_45 f_Giv_30 (by assumption) (by first | assumption | ((try simp (disch := omega) only [zu_same, zu_ne, zcp_ne, zfl_ne]); first | assumption | rfl)) ?_
                            refine z_iconst (a := -1) d_Giv_leastCover_48 (by decide) ?_
                            refine z_Si4 d_Giv_leastCover_49 k_Giv_67 (t_Giv_meetsEach (by assumption) (by omega) (by decide)) ⟨Nat.le_of_ble_eq_true rfl, Nat.le_of_ble_eq_true rfl, Nat.le_of_ble_eq_true rfl, Nat.le_of_ble_eq_true rfl⟩ (Nat.le_of_ble_eq_true rfl) ?_
                            intro r w hq
                            rcases hq with ⟨⟨hz49, rfl⟩ | ⟨hz49, rfl⟩, rfl⟩
                            · first
                              | contradiction
                              | ( skip
                                  refine z_if_eq (tgt := 57) d_Giv_leastCover_52 (by decide) (fun h => absurd h (by decide)) (fun _ => ?_)
                                  refine z_iload_2 d_Giv_leastCover_55 ?_
                                  first | refine z_istore_1 d_Giv_leastCover_56 rfl ?_ | (refine z_forget_0 ?_; refine z_istore_1 d_Giv_leastCover_56 rfl ?_)
                                  first | refine z_iinc_2 d_Giv_leastCover_57 rfl (zi_inc _) ?_ | refine z_iinc_2 d_Giv_leastCover_57 rfl rfl ?_
                                  refine z_goto (tgt := 4) d_Giv_leastCover_60 (by decide) ?_
                                  (refine z_forget_3 ?_; first | (rw [if_pos ((Bool.and_eq_true _ _).mpr ⟨decide_eq_true (by omega), (hokI j).mpr (by assumption)⟩)] at q; exact q) | (rw [if_neg (fun h => absurd ((hokI j).mp ((Bool.and_eq_true _ _).mp h).2) (by assumption))] at q; exact q) | (rw [if_neg (fun h => absurd (of_decide_eq_true ((Bool.and_eq_true _ _).mp h).1) (by omega))] at q; exact q)))
                            · first
                              | contradiction
                              | ( skip
                                  refine z_if_eq (tgt := 57) d_Giv_leastCover_52 (by decide) (fun _ => ?_) (fun h => absurd h (by decide))
                                  first | refine z_iinc_2 d_Giv_leastCover_57 rfl (zi_inc _) ?_ | refine z_iinc_2 d_Giv_leastCover_57 rfl rfl ?_
                                  refine z_goto (tgt := 4) d_Giv_leastCover_60 (by decide) ?_
                                  (refine z_forget_3 ?_; first | (rw [if_pos ((Bool.and_eq_true _ _).mpr ⟨decide_eq_true (by omega), (hokI j).mpr (by assumption)⟩)] at q; exact q) | (rw [if_neg (fun h => absurd ((hokI j).mp ((Bool.and_eq_true _ _).mp h).2) (by assumption))] at q; exact q) | (rw [if_neg (fun h => absurd (of_decide_eq_true ((Bool.and_eq_true _ _).mp h).1) (by omega))] at q; exact q)))))
                · first
                  | (simp (disch := omega) only [← nI_0, nI_leI, nI_ltI, nI_eq, not_true_eq_false, not_false_eq_true] at h26; done)
                  | (simp (disch := omega) only [← nI_0, nI_leI, nI_ltI, nI_eq, not_true_eq_false, not_false_eq_true] at h26; omega)
                  | contradiction
                  | exact absurd h26 (Int32.not_lt.mpr (by assumption))
                  | exact absurd h26 (Int32.not_le.mpr (by assumption))
                  | exact absurd h26 (by decide)
                  | exact absurd (by decide) h26
                  | ( try simp (disch := omega) only [← nI_0, nI_leI, nI_ltI, nI_eq, not_true_eq_false, not_false_eq_true] at h26
                      (try have h26b := zbit_n0.mp h26); (try have h26b := zbit_p0.mp h26)
                      refine z_iconst (a := nI 1) d_Giv_leastCover_29 (by decide) ?_
                      refine z_goto (tgt := 34) d_Giv_leastCover_30 (by decide) ?_
                      first | refine z_istore_3 d_Giv_leastCover_34 rfl ?_ | (refine z_forget_2 ?_; refine z_istore_3 d_Giv_leastCover_34 rfl ?_)
                      refine z_iload_3 d_Giv_leastCover_35 ?_
                      refine z_if_eq (tgt := 57) d_Giv_leastCover_36 (by decide) (fun h36 => ?_) (fun h36 => ?_)
                      · first
                        | (simp (disch := omega) only [← nI_0, nI_leI, nI_ltI, nI_eq, not_true_eq_false, not_false_eq_true] at h36; done)
                        | (simp (disch := omega) only [← nI_0, nI_leI, nI_ltI, nI_eq, not_true_eq_false, not_false_eq_true] at h36; omega)
                        | contradiction
                        | exact absurd h36 (Int32.not_lt.mpr (by assumption))
                        | exact absurd h36 (Int32.not_le.mpr (by assumption))
                        | exact absurd h36 (by decide)
                        | exact absurd (by decide) h36
                        | ( try simp (disch := omega) only [← nI_0, nI_leI, nI_ltI, nI_eq, not_true_eq_false, not_false_eq_true] at h36
                            (try have h36b := zbit_n0.mp h36); (try have h36b := zbit_p0.mp h36)
                            first | refine z_iinc_2 d_Giv_leastCover_57 rfl (zi_inc _) ?_ | refine z_iinc_2 d_Giv_leastCover_57 rfl rfl ?_
                            refine z_goto (tgt := 4) d_Giv_leastCover_60 (by decide) ?_
                            (refine z_forget_3 ?_; first | (rw [if_pos ((Bool.and_eq_true _ _).mpr ⟨decide_eq_true (by omega), (hokI j).mpr (by assumption)⟩)] at q; exact q) | (rw [if_neg (fun h => absurd ((hokI j).mp ((Bool.and_eq_true _ _).mp h).2) (by assumption))] at q; exact q) | (rw [if_neg (fun h => absurd (of_decide_eq_true ((Bool.and_eq_true _ _).mp h).1) (by omega))] at q; exact q)))
                      · first
                        | (simp (disch := omega) only [← nI_0, nI_leI, nI_ltI, nI_eq, not_true_eq_false, not_false_eq_true] at h36; done)
                        | (simp (disch := omega) only [← nI_0, nI_leI, nI_ltI, nI_eq, not_true_eq_false, not_false_eq_true] at h36; omega)
                        | contradiction
                        | exact absurd h36 (Int32.not_lt.mpr (by assumption))
                        | exact absurd h36 (Int32.not_le.mpr (by assumption))
                        | exact absurd h36 (by decide)
                        | exact absurd (by decide) h36
                        | ( try simp (disch := omega) only [← nI_0, nI_leI, nI_ltI, nI_eq, not_true_eq_false, not_false_eq_true] at h36
                            (try have h36b := zbit_n0.mp h36); (try have h36b := zbit_p0.mp h36)
                            refine z_iload_2 d_Giv_leastCover_39 ?_
                            refine z_aload_0 d_Giv_leastCover_40 ?_
                            refine z_getR d_Giv_leastCover_41 f_Giv_63 (by assumption) (by assumption) ?_
                            refine z_aload_0 d_Giv_leastCover_44 ?_
                            refine z_getIv d_Giv_leastCover_45 f_Giv_30 (by assumption) (by first | assumption | ((try simp (disch := omega) only [zu_same, zu_ne, zcp_ne, zfl_ne]); first | assumption | rfl)) ?_
                            refine z_iconst (a := -1) d_Giv_leastCover_48 (by decide) ?_
                            refine z_Si4 d_Giv_leastCover_49 k_Giv_67 (t_Giv_meetsEach (by assumption) (by omega) (by decide)) ⟨Nat.le_of_ble_eq_true rfl, Nat.le_of_ble_eq_true rfl, Nat.le_of_ble_eq_true rfl, Nat.le_of_ble_eq_true rfl⟩ (Nat.le_of_ble_eq_true rfl) ?_
                            intro r w hq
                            rcases hq with ⟨⟨hz49, rfl⟩ | ⟨hz49, rfl⟩, rfl⟩
                            · first
                              | contradiction
                              | ( skip
                                  refine z_if_eq (tgt := 57) d_Giv_leastCover_52 (by decide) (fun h => absurd h (by decide)) (fun _ => ?_)
                                  refine z_iload_2 d_Giv_leastCover_55 ?_
                                  first | refine z_istore_1 d_Giv_leastCover_56 rfl ?_ | (refine z_forget_0 ?_; refine z_istore_1 d_Giv_leastCover_56 rfl ?_)
                                  first | refine z_iinc_2 d_Giv_leastCover_57 rfl (zi_inc _) ?_ | refine z_iinc_2 d_Giv_leastCover_57 rfl rfl ?_
                                  refine z_goto (tgt := 4) d_Giv_leastCover_60 (by decide) ?_
                                  (refine z_forget_3 ?_; first | (rw [if_pos ((Bool.and_eq_true _ _).mpr ⟨decide_eq_true (by omega), (hokI j).mpr (by assumption)⟩)] at q; exact q) | (rw [if_neg (fun h => absurd ((hokI j).mp ((Bool.and_eq_true _ _).mp h).2) (by assumption))] at q; exact q) | (rw [if_neg (fun h => absurd (of_decide_eq_true ((Bool.and_eq_true _ _).mp h).1) (by omega))] at q; exact q)))
                            · first
                              | contradiction
                              | ( skip
                                  refine z_if_eq (tgt := 57) d_Giv_leastCover_52 (by decide) (fun _ => ?_) (fun h => absurd h (by decide))
                                  first | refine z_iinc_2 d_Giv_leastCover_57 rfl (zi_inc _) ?_ | refine z_iinc_2 d_Giv_leastCover_57 rfl rfl ?_
                                  refine z_goto (tgt := 4) d_Giv_leastCover_60 (by decide) ?_
                                  (refine z_forget_3 ?_; first | (rw [if_pos ((Bool.and_eq_true _ _).mpr ⟨decide_eq_true (by omega), (hokI j).mpr (by assumption)⟩)] at q; exact q) | (rw [if_neg (fun h => absurd ((hokI j).mp ((Bool.and_eq_true _ _).mp h).2) (by assumption))] at q; exact q) | (rw [if_neg (fun h => absurd (of_decide_eq_true ((Bool.and_eq_true _ _).mp h).1) (by omega))] at q; exact q))))))
  refine z_iconst (a := -1) d_Giv_leastCover_0 (by decide) ?_
  first | refine z_istore_1 d_Giv_leastCover_1 rfl ?_ | (refine z_forget_0 ?_; refine z_istore_1 d_Giv_leastCover_1 rfl ?_)
  refine z_iconst (a := nI 0) d_Giv_leastCover_2 (by decide) ?_
  first | refine z_istore_2 d_Giv_leastCover_3 rfl ?_ | (refine z_forget_1 ?_; refine z_istore_2 d_Giv_leastCover_3 rfl ?_)
  exact loop (2 ^ nt + 1) 0 (by omega) (by omega)
def s_bl (ok : Nat → Bool) (l0 : Nat) : Nat → Nat
  | 0 => l0
  | n + 1 => if decide (pcN n < pcN (s_bl ok l0 n)) && ok n then n else s_bl ok l0 n
theorem s_bl_lt {ok : Nat → Bool} {l0 M : Nat} (h0 : l0 < M) : ∀ n, n ≤ M → s_bl ok l0 n < M := by
  intro n
  induction n with
  | zero => intro _; exact h0
  | succ n ih =>
    intro h
    rw [s_bl]
    split
    · omega
    · exact ih (by omega)
theorem t_Giv_leastBlamed (F : fenOk P S f) (N : fenIn I f nt np nl nn) : zEi G y_Giv_leastBlamed prog_5_method_10_code 4 (some .int) 2 [.ref f] (I, J, P, S) (fun r w => r = nI (s_bl (fun s => decide (∀ i, i < nn → zbit (I f 7) i → ¬ I (f + 7) i &&& nI s = 0)) (2 ^ np - 1) (2 ^ np)) ∧ w = (I, J, P, S)) := by
  obtain ⟨F0, ⟨F8, F8s⟩, ⟨F9, F9s⟩, ⟨F10, F10s⟩, ⟨F11, F11s⟩, ⟨F12, F12s⟩, ⟨F13, F13s⟩, ⟨F14, F14s⟩, ⟨F15, F15s⟩, ⟨F16, F16s⟩, ⟨F17, F17s⟩, ⟨F18, F18s⟩, ⟨F19, F19s⟩, ⟨Y3, Y3s⟩, ⟨Y4, Y4s⟩, ⟨Y5, Y5s⟩, ⟨Y6, Y6s⟩⟩ := id F
  obtain ⟨⟨n1, n1b⟩, ⟨n2, n2b⟩, ⟨n3, n3b⟩, ⟨n4, n4b⟩, nof, non⟩ := id N
  have h64 : 2 ^ np ≤ 128 := Nat.pow_le_pow_right (by decide) n2b
  have h1p : 0 < 2 ^ np := Nat.pow_pos (by decide)
  obtain ⟨ok, hok⟩ : ∃ ok : Nat → Bool, ok = (fun s => decide (∀ i, i < nn → zbit (I f 7) i → ¬ I (f + 7) i &&& nI s = 0)) := ⟨_, rfl⟩
  have hokI : ∀ s, (ok s = true ↔ ∀ i, i < nn → zbit (I f 7) i → ¬ I (f + 7) i &&& nI s = 0) := by
    intro s
    rw [hok]
    simp only [decide_eq_true_eq]
  rw [← hok]
  refine zEi_of (lv := [some (.ref f), none, none, none]) (by decide) rfl (Nat.le_of_ble_eq_true rfl) ?_
  have loop : ∀ m j, (2^np) - j < m → j ≤ (2^np) → zA G y_Giv_leastBlamed prog_5_method_10_code 4 (some .int) (zRm 2 0 0) (zM G 0 0 (fun r w' => ∃ x, r = some (.int x) ∧ (fun r w => r = nI (s_bl ok (2 ^ np - 1) (2 ^ np)) ∧ w = (I, J, P, S)) x w')) 11 [some (.ref f), some (.int (nI (s_bl ok (2 ^ np - 1) j))), some (.int (nI j)), none] [] (I, J, P, S) 0 0 := by
    intro m
    induction m with
    | zero => intro j h; omega
    | succ m ih =>
      intro j hm hj
      refine z_iload_2 d_Giv_leastBlamed_11 ?_
      refine z_iconst (a := nI 1) d_Giv_leastBlamed_12 (by decide) ?_
      refine z_aload_0 d_Giv_leastBlamed_13 ?_
      refine z_getIv d_Giv_leastBlamed_14 f_Giv_30 (by assumption) (by first | assumption | ((try simp (disch := omega) only [zu_same, zu_ne, zcp_ne, zfl_ne]); first | assumption | rfl)) ?_
      refine z_ishl d_Giv_leastBlamed_17 ?_
      rw [nx_sh np (by omega)]
      refine z_icmp_ge (tgt := 69) d_Giv_leastBlamed_18 (by decide) (fun hb => ?_) (fun hb => ?_)
      · have hb := (nI_leI (by omega) (by omega)).mp hb
        obtain rfl : j = 2 ^ np := by omega
        refine z_iload_1 d_Giv_leastBlamed_69 ?_
        refine z_reti d_Giv_leastBlamed_70 ?_
        exact ⟨rfl, rfl⟩
      · have hb : j < 2 ^ np := Nat.lt_of_not_le (fun q => hb (nI_le q (by omega)))
        have q := ih (j + 1) (by omega) (by omega)
        have hpj := pc_le j (by omega)
        rw [s_bl] at q
        have hl := s_bl_lt (ok := ok) (l0 := 2 ^ np - 1) (M := 2 ^ np) (by omega) j (by omega)
        generalize s_bl ok (2 ^ np - 1) j = l at q hl ⊢
        have hpl := pc_le l (by omega)
        refine z_iload_2 d_Giv_leastBlamed_21 ?_
        refine z_Si1 d_Giv_leastBlamed_22 k_Giv_58 (t_JInt_bitCount (by omega)) ⟨Nat.le_of_ble_eq_true rfl, Nat.le_of_ble_eq_true rfl, Nat.le_of_ble_eq_true rfl, Nat.le_of_ble_eq_true rfl⟩ (Nat.le_of_ble_eq_true rfl) ?_
        intro r w hq
        obtain ⟨rfl, rfl⟩ := hq
        refine z_iload_1 d_Giv_leastBlamed_25 ?_
        refine z_Si1 d_Giv_leastBlamed_26 k_Giv_58 (t_JInt_bitCount (by omega)) ⟨Nat.le_of_ble_eq_true rfl, Nat.le_of_ble_eq_true rfl, Nat.le_of_ble_eq_true rfl, Nat.le_of_ble_eq_true rfl⟩ (Nat.le_of_ble_eq_true rfl) ?_
        intro r w hq
        obtain ⟨rfl, rfl⟩ := hq
        refine z_icmp_ge (tgt := 36) d_Giv_leastBlamed_29 (by decide) (fun h29 => ?_) (fun h29 => ?_)
        · first
          | (simp (disch := omega) only [← nI_0, nI_leI, nI_ltI, nI_eq, not_true_eq_false, not_false_eq_true] at h29; done)
          | (simp (disch := omega) only [← nI_0, nI_leI, nI_ltI, nI_eq, not_true_eq_false, not_false_eq_true] at h29; omega)
          | contradiction
          | exact absurd h29 (Int32.not_lt.mpr (by assumption))
          | exact absurd h29 (Int32.not_le.mpr (by assumption))
          | exact absurd h29 (by decide)
          | exact absurd (by decide) h29
          | ( try simp (disch := omega) only [← nI_0, nI_leI, nI_ltI, nI_eq, not_true_eq_false, not_false_eq_true] at h29
              (try have h29b := zbit_n0.mp h29); (try have h29b := zbit_p0.mp h29)
              refine z_iconst (a := nI 0) d_Giv_leastBlamed_36 (by decide) ?_
              first | refine z_istore_3 d_Giv_leastBlamed_37 rfl ?_ | (refine z_forget_2 ?_; refine z_istore_3 d_Giv_leastBlamed_37 rfl ?_)
              refine z_iload_3 d_Giv_leastBlamed_38 ?_
              refine z_if_eq (tgt := 63) d_Giv_leastBlamed_39 (by decide) (fun h39 => ?_) (fun h39 => ?_)
              · first
                | (simp (disch := omega) only [← nI_0, nI_leI, nI_ltI, nI_eq, not_true_eq_false, not_false_eq_true] at h39; done)
                | (simp (disch := omega) only [← nI_0, nI_leI, nI_ltI, nI_eq, not_true_eq_false, not_false_eq_true] at h39; omega)
                | contradiction
                | exact absurd h39 (Int32.not_lt.mpr (by assumption))
                | exact absurd h39 (Int32.not_le.mpr (by assumption))
                | exact absurd h39 (by decide)
                | exact absurd (by decide) h39
                | ( try simp (disch := omega) only [← nI_0, nI_leI, nI_ltI, nI_eq, not_true_eq_false, not_false_eq_true] at h39
                    (try have h39b := zbit_n0.mp h39); (try have h39b := zbit_p0.mp h39)
                    first | refine z_iinc_2 d_Giv_leastBlamed_63 rfl (zi_inc _) ?_ | refine z_iinc_2 d_Giv_leastBlamed_63 rfl rfl ?_
                    refine z_goto (tgt := 11) d_Giv_leastBlamed_66 (by decide) ?_
                    (refine z_forget_3 ?_; first | (rw [if_pos ((Bool.and_eq_true _ _).mpr ⟨decide_eq_true (by omega), (hokI j).mpr (by assumption)⟩)] at q; exact q) | (rw [if_neg (fun h => absurd ((hokI j).mp ((Bool.and_eq_true _ _).mp h).2) (by assumption))] at q; exact q) | (rw [if_neg (fun h => absurd (of_decide_eq_true ((Bool.and_eq_true _ _).mp h).1) (by omega))] at q; exact q)))
              · first
                | (simp (disch := omega) only [← nI_0, nI_leI, nI_ltI, nI_eq, not_true_eq_false, not_false_eq_true] at h39; done)
                | (simp (disch := omega) only [← nI_0, nI_leI, nI_ltI, nI_eq, not_true_eq_false, not_false_eq_true] at h39; omega)
                | contradiction
                | exact absurd h39 (Int32.not_lt.mpr (by assumption))
                | exact absurd h39 (Int32.not_le.mpr (by assumption))
                | exact absurd h39 (by decide)
                | exact absurd (by decide) h39
                | ( try simp (disch := omega) only [← nI_0, nI_leI, nI_ltI, nI_eq, not_true_eq_false, not_false_eq_true] at h39
                    (try have h39b := zbit_n0.mp h39); (try have h39b := zbit_p0.mp h39)
                    refine z_iload_2 d_Giv_leastBlamed_42 ?_
                    refine z_aload_0 d_Giv_leastBlamed_43 ?_
                    refine z_getR d_Giv_leastBlamed_44 f_Giv_71 (by assumption) (by assumption) ?_
                    refine z_aload_0 d_Giv_leastBlamed_47 ?_
                    refine z_getIv d_Giv_leastBlamed_48 f_Giv_34 (by assumption) (by first | assumption | ((try simp (disch := omega) only [zu_same, zu_ne, zcp_ne, zfl_ne]); first | assumption | rfl)) ?_
                    refine z_aload_0 d_Giv_leastBlamed_51 ?_
                    refine z_getIv d_Giv_leastBlamed_52 f_Giv_74 (by assumption) (by first | assumption | ((try simp (disch := omega) only [zu_same, zu_ne, zcp_ne, zfl_ne]); first | assumption | rfl)) ?_
                    refine z_Si4 d_Giv_leastBlamed_55 k_Giv_67 (t_Giv_meetsEach (by assumption) (by omega) (by decide)) ⟨Nat.le_of_ble_eq_true rfl, Nat.le_of_ble_eq_true rfl, Nat.le_of_ble_eq_true rfl, Nat.le_of_ble_eq_true rfl⟩ (Nat.le_of_ble_eq_true rfl) ?_
                    intro r w hq
                    rcases hq with ⟨⟨hz55, rfl⟩ | ⟨hz55, rfl⟩, rfl⟩
                    · first
                      | contradiction
                      | ( skip
                          refine z_if_eq (tgt := 63) d_Giv_leastBlamed_58 (by decide) (fun h => absurd h (by decide)) (fun _ => ?_)
                          refine z_iload_2 d_Giv_leastBlamed_61 ?_
                          first | refine z_istore_1 d_Giv_leastBlamed_62 rfl ?_ | (refine z_forget_0 ?_; refine z_istore_1 d_Giv_leastBlamed_62 rfl ?_)
                          first | refine z_iinc_2 d_Giv_leastBlamed_63 rfl (zi_inc _) ?_ | refine z_iinc_2 d_Giv_leastBlamed_63 rfl rfl ?_
                          refine z_goto (tgt := 11) d_Giv_leastBlamed_66 (by decide) ?_
                          (refine z_forget_3 ?_; first | (rw [if_pos ((Bool.and_eq_true _ _).mpr ⟨decide_eq_true (by omega), (hokI j).mpr (by assumption)⟩)] at q; exact q) | (rw [if_neg (fun h => absurd ((hokI j).mp ((Bool.and_eq_true _ _).mp h).2) (by assumption))] at q; exact q) | (rw [if_neg (fun h => absurd (of_decide_eq_true ((Bool.and_eq_true _ _).mp h).1) (by omega))] at q; exact q)))
                    · first
                      | contradiction
                      | ( skip
                          refine z_if_eq (tgt := 63) d_Giv_leastBlamed_58 (by decide) (fun _ => ?_) (fun h => absurd h (by decide))
                          first | refine z_iinc_2 d_Giv_leastBlamed_63 rfl (zi_inc _) ?_ | refine z_iinc_2 d_Giv_leastBlamed_63 rfl rfl ?_
                          refine z_goto (tgt := 11) d_Giv_leastBlamed_66 (by decide) ?_
                          (refine z_forget_3 ?_; first | (rw [if_pos ((Bool.and_eq_true _ _).mpr ⟨decide_eq_true (by omega), (hokI j).mpr (by assumption)⟩)] at q; exact q) | (rw [if_neg (fun h => absurd ((hokI j).mp ((Bool.and_eq_true _ _).mp h).2) (by assumption))] at q; exact q) | (rw [if_neg (fun h => absurd (of_decide_eq_true ((Bool.and_eq_true _ _).mp h).1) (by omega))] at q; exact q)))))
        · first
          | (simp (disch := omega) only [← nI_0, nI_leI, nI_ltI, nI_eq, not_true_eq_false, not_false_eq_true] at h29; done)
          | (simp (disch := omega) only [← nI_0, nI_leI, nI_ltI, nI_eq, not_true_eq_false, not_false_eq_true] at h29; omega)
          | contradiction
          | exact absurd h29 (Int32.not_lt.mpr (by assumption))
          | exact absurd h29 (Int32.not_le.mpr (by assumption))
          | exact absurd h29 (by decide)
          | exact absurd (by decide) h29
          | ( try simp (disch := omega) only [← nI_0, nI_leI, nI_ltI, nI_eq, not_true_eq_false, not_false_eq_true] at h29
              (try have h29b := zbit_n0.mp h29); (try have h29b := zbit_p0.mp h29)
              refine z_iconst (a := nI 1) d_Giv_leastBlamed_32 (by decide) ?_
              refine z_goto (tgt := 37) d_Giv_leastBlamed_33 (by decide) ?_
              first | refine z_istore_3 d_Giv_leastBlamed_37 rfl ?_ | (refine z_forget_2 ?_; refine z_istore_3 d_Giv_leastBlamed_37 rfl ?_)
              refine z_iload_3 d_Giv_leastBlamed_38 ?_
              refine z_if_eq (tgt := 63) d_Giv_leastBlamed_39 (by decide) (fun h39 => ?_) (fun h39 => ?_)
              · first
                | (simp (disch := omega) only [← nI_0, nI_leI, nI_ltI, nI_eq, not_true_eq_false, not_false_eq_true] at h39; done)
                | (simp (disch := omega) only [← nI_0, nI_leI, nI_ltI, nI_eq, not_true_eq_false, not_false_eq_true] at h39; omega)
                | contradiction
                | exact absurd h39 (Int32.not_lt.mpr (by assumption))
                | exact absurd h39 (Int32.not_le.mpr (by assumption))
                | exact absurd h39 (by decide)
                | exact absurd (by decide) h39
                | ( try simp (disch := omega) only [← nI_0, nI_leI, nI_ltI, nI_eq, not_true_eq_false, not_false_eq_true] at h39
                    (try have h39b := zbit_n0.mp h39); (try have h39b := zbit_p0.mp h39)
                    first | refine z_iinc_2 d_Giv_leastBlamed_63 rfl (zi_inc _) ?_ | refine z_iinc_2 d_Giv_leastBlamed_63 rfl rfl ?_
                    refine z_goto (tgt := 11) d_Giv_leastBlamed_66 (by decide) ?_
                    (refine z_forget_3 ?_; first | (rw [if_pos ((Bool.and_eq_true _ _).mpr ⟨decide_eq_true (by omega), (hokI j).mpr (by assumption)⟩)] at q; exact q) | (rw [if_neg (fun h => absurd ((hokI j).mp ((Bool.and_eq_true _ _).mp h).2) (by assumption))] at q; exact q) | (rw [if_neg (fun h => absurd (of_decide_eq_true ((Bool.and_eq_true _ _).mp h).1) (by omega))] at q; exact q)))
              · first
                | (simp (disch := omega) only [← nI_0, nI_leI, nI_ltI, nI_eq, not_true_eq_false, not_false_eq_true] at h39; done)
                | (simp (disch := omega) only [← nI_0, nI_leI, nI_ltI, nI_eq, not_true_eq_false, not_false_eq_true] at h39; omega)
                | contradiction
                | exact absurd h39 (Int32.not_lt.mpr (by assumption))
                | exact absurd h39 (Int32.not_le.mpr (by assumption))
                | exact absurd h39 (by decide)
                | exact absurd (by decide) h39
                | ( try simp (disch := omega) only [← nI_0, nI_leI, nI_ltI, nI_eq, not_true_eq_false, not_false_eq_true] at h39
                    (try have h39b := zbit_n0.mp h39); (try have h39b := zbit_p0.mp h39)
                    refine z_iload_2 d_Giv_leastBlamed_42 ?_
                    refine z_aload_0 d_Giv_leastBlamed_43 ?_
                    refine z_getR d_Giv_leastBlamed_44 f_Giv_71 (by assumption) (by assumption) ?_
                    refine z_aload_0 d_Giv_leastBlamed_47 ?_
                    refine z_getIv d_Giv_leastBlamed_48 f_Giv_34 (by assumption) (by first | assumption | ((try simp (disch := omega) only [zu_same, zu_ne, zcp_ne, zfl_ne]); first | assumption | rfl)) ?_
                    refine z_aload_0 d_Giv_leastBlamed_51 ?_
                    refine z_getIv d_Giv_leastBlamed_52 f_Giv_74 (by assumption) (by first | assumption | ((try simp (disch := omega) only [zu_same, zu_ne, zcp_ne, zfl_ne]); first | assumption | rfl)) ?_
                    refine z_Si4 d_Giv_leastBlamed_55 k_Giv_67 (t_Giv_meetsEach (by assumption) (by omega) (by decide)) ⟨Nat.le_of_ble_eq_true rfl, Nat.le_of_ble_eq_true rfl, Nat.le_of_ble_eq_true rfl, Nat.le_of_ble_eq_true rfl⟩ (Nat.le_of_ble_eq_true rfl) ?_
                    intro r w hq
                    rcases hq with ⟨⟨hz55, rfl⟩ | ⟨hz55, rfl⟩, rfl⟩
                    · first
                      | contradiction
                      | ( skip
                          refine z_if_eq (tgt := 63) d_Giv_leastBlamed_58 (by decide) (fun h => absurd h (by decide)) (fun _ => ?_)
                          refine z_iload_2 d_Giv_leastBlamed_61 ?_
                          first | refine z_istore_1 d_Giv_leastBlamed_62 rfl ?_ | (refine z_forget_0 ?_; refine z_istore_1 d_Giv_leastBlamed_62 rfl ?_)
                          first | refine z_iinc_2 d_Giv_leastBlamed_63 rfl (zi_inc _) ?_ | refine z_iinc_2 d_Giv_leastBlamed_63 rfl rfl ?_
                          refine z_goto (tgt := 11) d_Giv_leastBlamed_66 (by decide) ?_
                          (refine z_forget_3 ?_; first | (rw [if_pos ((Bool.and_eq_true _ _).mpr ⟨decide_eq_true (by omega), (hokI j).mpr (by assumption)⟩)] at q; exact q) | (rw [if_neg (fun h => absurd ((hokI j).mp ((Bool.and_eq_true _ _).mp h).2) (by assumption))] at q; exact q) | (rw [if_neg (fun h => absurd (of_decide_eq_true ((Bool.and_eq_true _ _).mp h).1) (by omega))] at q; exact q)))
                    · first
                      | contradiction
                      | ( skip
                          refine z_if_eq (tgt := 63) d_Giv_leastBlamed_58 (by decide) (fun _ => ?_) (fun h => absurd h (by decide))
                          first | refine z_iinc_2 d_Giv_leastBlamed_63 rfl (zi_inc _) ?_ | refine z_iinc_2 d_Giv_leastBlamed_63 rfl rfl ?_
                          refine z_goto (tgt := 11) d_Giv_leastBlamed_66 (by decide) ?_
                          (refine z_forget_3 ?_; first | (rw [if_pos ((Bool.and_eq_true _ _).mpr ⟨decide_eq_true (by omega), (hokI j).mpr (by assumption)⟩)] at q; exact q) | (rw [if_neg (fun h => absurd ((hokI j).mp ((Bool.and_eq_true _ _).mp h).2) (by assumption))] at q; exact q) | (rw [if_neg (fun h => absurd (of_decide_eq_true ((Bool.and_eq_true _ _).mp h).1) (by omega))] at q; exact q)))))
  refine z_iconst (a := nI 1) d_Giv_leastBlamed_0 (by decide) ?_
  refine z_aload_0 d_Giv_leastBlamed_1 ?_
  refine z_getIv d_Giv_leastBlamed_2 f_Giv_30 (by assumption) (by first | assumption | ((try simp (disch := omega) only [zu_same, zu_ne, zcp_ne, zfl_ne]); first | assumption | rfl)) ?_
  refine z_ishl d_Giv_leastBlamed_5 ?_
  rw [nx_sh np (by omega)]
  refine z_iconst (a := nI 1) d_Giv_leastBlamed_6 (by decide) ?_
  first | refine z_isubN d_Giv_leastBlamed_7 (by omega) ?_ | refine z_isub d_Giv_leastBlamed_7 ?_
  first | refine z_istore_1 d_Giv_leastBlamed_8 rfl ?_ | (refine z_forget_0 ?_; refine z_istore_1 d_Giv_leastBlamed_8 rfl ?_)
  refine z_iconst (a := nI 0) d_Giv_leastBlamed_9 (by decide) ?_
  first | refine z_istore_2 d_Giv_leastBlamed_10 rfl ?_ | (refine z_forget_1 ?_; refine z_istore_2 d_Giv_leastBlamed_10 rfl ?_)
  exact loop (2 ^ np + 1) 0 (by omega) (by omega)
theorem or_lt7' {s i : Nat} (hs : s < 128) (hi : i < 7) : nI s ||| (nI 1 <<< (nI i &&& 31)) = nI (s ||| 2 ^ i) := by rw [nx_sh i (by omega), nx_or]
theorem s_sum_t {b : Nat → Bool} {v : Nat → Int32} {n : Nat} (h : b n = true) : s_sum b v (n + 1) = s_sum b v n + v n := by rw [s_sum, if_pos h]
theorem s_sum_f {b : Nat → Bool} {v : Nat → Int32} {n : Nat} (h : ¬ b n = true) : s_sum b v (n + 1) = s_sum b v n := by rw [s_sum, if_neg h]
theorem t_Giv_sumOver {q s : Nat} (h0 : S[q]? = some (100, 128)) (hs : s < 128) : zEi G y_Giv_sumOver prog_5_method_7_code 5 (some .int) 1 [.ref q, .int (nI s), .int a] (I, J, P, S) (fun r w => r = s_sum (zB a) (fun i => I q (s ||| 2 ^ i)) 7 ∧ w = (I, J, P, S)) := by
  refine zEi_of (lv := [some (.ref q), some (.int (nI s)), some (.int a), none, none]) (by decide) rfl (Nat.le_of_ble_eq_true rfl) ?_
  have loop : ∀ m j, 7 - j < m → j ≤ 7 → zA G y_Giv_sumOver prog_5_method_7_code 5 (some .int) (zRm 1 0 0) (zM G 0 0 (fun r w' => ∃ x, r = some (.int x) ∧ (fun r w => r = s_sum (zB a) (fun i => I q (s ||| 2 ^ i)) 7 ∧ w = (I, J, P, S)) x w')) 5 [some (.ref q), some (.int (nI s)), some (.int a), some (.int (s_sum (zB a) (fun i => I q (s ||| 2 ^ i)) j)), some (.int (nI j))] [] (I, J, P, S) 0 0 := by
    intro m
    induction m with
    | zero => intro j h; omega
    | succ m ih =>
      intro j hm hj
      refine z_iload_4 d_Giv_sumOver_5 ?_
      refine z_bipush (a := nI 7) d_Giv_sumOver_7 (by decide) ?_
      refine z_icmp_ge (tgt := 38) d_Giv_sumOver_9 (by decide) (fun hb => ?_) (fun hb => ?_)
      · have hb := (nI_leI (by omega) (by omega)).mp hb
        obtain rfl : j = 7 := by omega
        refine z_iload_3 d_Giv_sumOver_38 ?_
        refine z_reti d_Giv_sumOver_39 ?_
        exact ⟨rfl, rfl⟩
      · have hb : j < 7 := Nat.lt_of_not_le (fun q => hb (nI_le q (by omega)))
        have q0 := ih (j + 1) (by omega) (by omega)
        have hs2 := or_lt7 hs hb
        refine z_iload_2 d_Giv_sumOver_12 ?_
        refine z_iload_4 d_Giv_sumOver_13 ?_
        refine z_ishr d_Giv_sumOver_15 ?_
        refine z_iconst (a := nI 1) d_Giv_sumOver_16 (by decide) ?_
        refine z_iand d_Giv_sumOver_17 ?_
        refine z_if_eq (tgt := 32) d_Giv_sumOver_18 (by decide) (fun hz => ?_) (fun hz => ?_)
        · rw [s_sum_f (n := j) (zbit_n.mp hz)] at q0
          first | refine z_iinc_4 d_Giv_sumOver_32 rfl (zi_inc _) ?_ | refine z_iinc_4 d_Giv_sumOver_32 rfl rfl ?_
          refine z_goto (tgt := 5) d_Giv_sumOver_35 (by decide) ?_
          exact q0
        · rw [s_sum_t (n := j) (zbit_p.mp hz)] at q0
          refine z_iload_3 d_Giv_sumOver_21 ?_
          refine z_aload_0 d_Giv_sumOver_22 ?_
          refine z_iload_1 d_Giv_sumOver_23 ?_
          refine z_iconst (a := nI 1) d_Giv_sumOver_24 (by decide) ?_
          refine z_iload_4 d_Giv_sumOver_25 ?_
          refine z_ishl d_Giv_sumOver_27 ?_
          refine z_ior d_Giv_sumOver_28 ?_
          rw [or_lt7' hs hb]
          first | refine z_ialdNv d_Giv_sumOver_29 (by assumption) (by omega) (by decide) (by first | assumption | ((try simp (disch := omega) only [zu_same, zu_ne, zcp_ne, zfl_ne]); first | assumption | rfl)) ?_ | refine z_iald d_Giv_sumOver_29 (by assumption) (by assumption) ?_
          first | refine z_iaddN d_Giv_sumOver_30 ?_ | refine z_iadd d_Giv_sumOver_30 ?_
          first | refine z_istore_3 d_Giv_sumOver_31 rfl ?_ | (refine z_forget_2 ?_; refine z_istore_3 d_Giv_sumOver_31 rfl ?_)
          first | refine z_iinc_4 d_Giv_sumOver_32 rfl (zi_inc _) ?_ | refine z_iinc_4 d_Giv_sumOver_32 rfl rfl ?_
          refine z_goto (tgt := 5) d_Giv_sumOver_35 (by decide) ?_
          exact q0
  refine z_iconst (a := nI 0) d_Giv_sumOver_0 (by decide) ?_
  first | refine z_istore_3 d_Giv_sumOver_1 rfl ?_ | (refine z_forget_2 ?_; refine z_istore_3 d_Giv_sumOver_1 rfl ?_)
  refine z_iconst (a := nI 0) d_Giv_sumOver_2 (by decide) ?_
  first | refine z_istore_4 d_Giv_sumOver_3 rfl ?_ | (refine z_forget_3 ?_; refine z_istore_4 d_Giv_sumOver_3 rfl ?_)
  exact loop 8 0 (by omega) (by omega)
/-- the best of a base and some more by one -/
def s_bst (b : Nat → Bool) (v : Nat → Int32) (v0 : Int32) : Nat → Int32
  | 0 => v0
  | n + 1 => if b n then (if s_bst b v v0 n < nI 1 + v n then nI 1 + v n else s_bst b v v0 n) else s_bst b v v0 n
theorem s_bst_t {b : Nat → Bool} {v : Nat → Int32} {v0 : Int32} {n : Nat} (h : b n = true) : s_bst b v v0 (n + 1) = (if s_bst b v v0 n < nI 1 + v n then nI 1 + v n else s_bst b v v0 n) := by rw [s_bst, if_pos h]
theorem s_bst_f {b : Nat → Bool} {v : Nat → Int32} {v0 : Int32} {n : Nat} (h : ¬ b n = true) : s_bst b v v0 (n + 1) = s_bst b v v0 n := by rw [s_bst, if_neg h]
theorem t_Giv_bestOver {q s : Nat} (h0 : S[q]? = some (100, 128)) (hs : s < 128) : zEi G y_Giv_bestOver prog_5_method_8_code 5 (some .int) 2 [.ref q, .int (nI s), .int a] (I, J, P, S) (fun r w => r = s_bst (zB a) (fun i => I q (s ||| 2 ^ i)) (I q s) 7 ∧ w = (I, J, P, S)) := by
  refine zEi_of (lv := [some (.ref q), some (.int (nI s)), some (.int a), none, none]) (by decide) rfl (Nat.le_of_ble_eq_true rfl) ?_
  have loop : ∀ m j, 7 - j < m → j ≤ 7 → zA G y_Giv_bestOver prog_5_method_8_code 5 (some .int) (zRm 2 0 0) (zM G 0 0 (fun r w' => ∃ x, r = some (.int x) ∧ (fun r w => r = s_bst (zB a) (fun i => I q (s ||| 2 ^ i)) (I q s) 7 ∧ w = (I, J, P, S)) x w')) 7 [some (.ref q), some (.int (nI s)), some (.int a), some (.int (s_bst (zB a) (fun i => I q (s ||| 2 ^ i)) (I q s) j)), some (.int (nI j))] [] (I, J, P, S) 0 0 := by
    intro m
    induction m with
    | zero => intro j h; omega
    | succ m ih =>
      intro j hm hj
      refine z_iload_4 d_Giv_bestOver_7 ?_
      refine z_bipush (a := nI 7) d_Giv_bestOver_9 (by decide) ?_
      refine z_icmp_ge (tgt := 44) d_Giv_bestOver_11 (by decide) (fun hb => ?_) (fun hb => ?_)
      · have hb := (nI_leI (by omega) (by omega)).mp hb
        obtain rfl : j = 7 := by omega
        refine z_iload_3 d_Giv_bestOver_44 ?_
        refine z_reti d_Giv_bestOver_45 ?_
        exact ⟨rfl, rfl⟩
      · have hb : j < 7 := Nat.lt_of_not_le (fun q => hb (nI_le q (by omega)))
        have q0 := ih (j + 1) (by omega) (by omega)
        have hs2 := or_lt7 hs hb
        refine z_iload_2 d_Giv_bestOver_14 ?_
        refine z_iload_4 d_Giv_bestOver_15 ?_
        refine z_ishr d_Giv_bestOver_17 ?_
        refine z_iconst (a := nI 1) d_Giv_bestOver_18 (by decide) ?_
        refine z_iand d_Giv_bestOver_19 ?_
        refine z_if_eq (tgt := 38) d_Giv_bestOver_20 (by decide) (fun hz => ?_) (fun hz => ?_)
        · rw [s_bst_f (n := j) (zbit_n.mp hz)] at q0
          first | refine z_iinc_4 d_Giv_bestOver_38 rfl (zi_inc _) ?_ | refine z_iinc_4 d_Giv_bestOver_38 rfl rfl ?_
          refine z_goto (tgt := 7) d_Giv_bestOver_41 (by decide) ?_
          exact q0
        · rw [s_bst_t (n := j) (zbit_p.mp hz)] at q0
          refine z_iload_3 d_Giv_bestOver_23 ?_
          refine z_iconst (a := nI 1) d_Giv_bestOver_24 (by decide) ?_
          refine z_aload_0 d_Giv_bestOver_25 ?_
          refine z_iload_1 d_Giv_bestOver_26 ?_
          refine z_iconst (a := nI 1) d_Giv_bestOver_27 (by decide) ?_
          refine z_iload_4 d_Giv_bestOver_28 ?_
          refine z_ishl d_Giv_bestOver_30 ?_
          refine z_ior d_Giv_bestOver_31 ?_
          rw [or_lt7' hs hb]
          first | refine z_ialdNv d_Giv_bestOver_32 (by assumption) (by omega) (by decide) (by first | assumption | ((try simp (disch := omega) only [zu_same, zu_ne, zcp_ne, zfl_ne]); first | assumption | rfl)) ?_ | refine z_iald d_Giv_bestOver_32 (by assumption) (by assumption) ?_
          first | refine z_iaddN d_Giv_bestOver_33 ?_ | refine z_iadd d_Giv_bestOver_33 ?_
          refine z_max d_Giv_bestOver_34 k_Giv_49.2.1 ⟨Nat.le_of_ble_eq_true rfl, Nat.le_of_ble_eq_true rfl, Nat.le_of_ble_eq_true rfl, Nat.le_of_ble_eq_true rfl⟩ (Nat.le_of_ble_eq_true rfl) ?_
          first | refine z_istore_3 d_Giv_bestOver_37 rfl ?_ | (refine z_forget_2 ?_; refine z_istore_3 d_Giv_bestOver_37 rfl ?_)
          first | refine z_iinc_4 d_Giv_bestOver_38 rfl (zi_inc _) ?_ | refine z_iinc_4 d_Giv_bestOver_38 rfl rfl ?_
          refine z_goto (tgt := 7) d_Giv_bestOver_41 (by decide) ?_
          exact q0
  refine z_aload_0 d_Giv_bestOver_0 ?_
  refine z_iload_1 d_Giv_bestOver_1 ?_
  first | refine z_ialdNv d_Giv_bestOver_2 (by assumption) (by omega) (by decide) (by first | assumption | ((try simp (disch := omega) only [zu_same, zu_ne, zcp_ne, zfl_ne]); first | assumption | rfl)) ?_ | refine z_iald d_Giv_bestOver_2 (by assumption) (by assumption) ?_
  first | refine z_istore_3 d_Giv_bestOver_3 rfl ?_ | (refine z_forget_2 ?_; refine z_istore_3 d_Giv_bestOver_3 rfl ?_)
  refine z_iconst (a := nI 0) d_Giv_bestOver_4 (by decide) ?_
  first | refine z_istore_4 d_Giv_bestOver_5 rfl ?_ | (refine z_forget_3 ?_; refine z_istore_4 d_Giv_bestOver_5 rfl ?_)
  exact loop 8 0 (by omega) (by omega)
end C8
