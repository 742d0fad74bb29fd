/-! the class: the library's max, min, bitCount; ways and rounds -/
section C5
variable {G : zG} {I : Nat → Nat → Int32} {J : Nat → Nat → Int64} {P : Nat → Nat → Option Nat} {S : List (Nat × Nat)} {f g nt np nl nn : Nat} {a b c : Int32} {x : Int64}
def s_bc1 (x : Int32) : Int32 := x - ((x.toUInt32 >>> ((nI 1).toUInt32 &&& Int32.toUInt32 31)).toInt32 &&& 1431655765)
def s_bc2 (x : Int32) : Int32 := (x &&& 858993459) + ((x.toUInt32 >>> ((nI 2).toUInt32 &&& Int32.toUInt32 31)).toInt32 &&& 858993459)
def s_bc3 (x : Int32) : Int32 := (x + (x.toUInt32 >>> ((nI 4).toUInt32 &&& Int32.toUInt32 31)).toInt32) &&& 252645135
def s_bc4 (x : Int32) : Int32 := x + (x.toUInt32 >>> ((nI 8).toUInt32 &&& Int32.toUInt32 31)).toInt32
def s_bc5 (x : Int32) : Int32 := (x + (x.toUInt32 >>> ((nI 16).toUInt32 &&& Int32.toUInt32 31)).toInt32) &&& nI 63
theorem s_bc : ∀ s, s < 512 → s_bc5 (s_bc4 (s_bc3 (s_bc2 (s_bc1 (nI s))))) = nI (pcN s) := by decide +kernel
theorem t_JInt_bitCount {s : Nat} (hs : s < 512) : zEi G y_JInt_bitCount prog_15_method_49_code 1 (some .int) 1 [.int (nI s)] (I, J, P, S) (fun r w => r = nI (pcN s) ∧ w = (I, J, P, S)) := by
  refine zEi_of (lv := [some (.int (nI s))]) (by decide) rfl (Nat.le_of_ble_eq_true rfl) ?_
  refine z_iload_0 d_JInt_bitCount_0 ?_
  refine z_iload_0 d_JInt_bitCount_1 ?_
  refine z_iconst (a := nI 1) d_JInt_bitCount_2 (by decide) ?_
  refine z_iushr d_JInt_bitCount_3 ?_
  refine z_ldcw d_JInt_bitCount_4 c_JInt_265 ?_
  refine z_iand d_JInt_bitCount_7 ?_
  first | refine z_isubN d_JInt_bitCount_8 (by omega) ?_ | refine z_isub d_JInt_bitCount_8 ?_
  refine z_istore_0 d_JInt_bitCount_9 ?_
  refine z_iload_0 d_JInt_bitCount_10 ?_
  refine z_ldcw d_JInt_bitCount_11 c_JInt_266 ?_
  refine z_iand d_JInt_bitCount_14 ?_
  refine z_iload_0 d_JInt_bitCount_15 ?_
  refine z_iconst (a := nI 2) d_JInt_bitCount_16 (by decide) ?_
  refine z_iushr d_JInt_bitCount_17 ?_
  refine z_ldcw d_JInt_bitCount_18 c_JInt_266 ?_
  refine z_iand d_JInt_bitCount_21 ?_
  first | refine z_iaddN d_JInt_bitCount_22 ?_ | refine z_iadd d_JInt_bitCount_22 ?_
  refine z_istore_0 d_JInt_bitCount_23 ?_
  refine z_iload_0 d_JInt_bitCount_24 ?_
  refine z_iload_0 d_JInt_bitCount_25 ?_
  refine z_iconst (a := nI 4) d_JInt_bitCount_26 (by decide) ?_
  refine z_iushr d_JInt_bitCount_27 ?_
  first | refine z_iaddN d_JInt_bitCount_28 ?_ | refine z_iadd d_JInt_bitCount_28 ?_
  refine z_ldcw d_JInt_bitCount_29 c_JInt_267 ?_
  refine z_iand d_JInt_bitCount_32 ?_
  refine z_istore_0 d_JInt_bitCount_33 ?_
  refine z_iload_0 d_JInt_bitCount_34 ?_
  refine z_iload_0 d_JInt_bitCount_35 ?_
  refine z_bipush (a := nI 8) d_JInt_bitCount_36 (by decide) ?_
  refine z_iushr d_JInt_bitCount_38 ?_
  first | refine z_iaddN d_JInt_bitCount_39 ?_ | refine z_iadd d_JInt_bitCount_39 ?_
  refine z_istore_0 d_JInt_bitCount_40 ?_
  refine z_iload_0 d_JInt_bitCount_41 ?_
  refine z_iload_0 d_JInt_bitCount_42 ?_
  refine z_bipush (a := nI 16) d_JInt_bitCount_43 (by decide) ?_
  refine z_iushr d_JInt_bitCount_45 ?_
  first | refine z_iaddN d_JInt_bitCount_46 ?_ | refine z_iadd d_JInt_bitCount_46 ?_
  refine z_istore_0 d_JInt_bitCount_47 ?_
  refine z_iload_0 d_JInt_bitCount_48 ?_
  refine z_bipush (a := nI 63) d_JInt_bitCount_49 (by decide) ?_
  refine z_iand d_JInt_bitCount_51 ?_
  refine z_reti d_JInt_bitCount_52 ?_
  exact ⟨s_bc s hs, rfl⟩
theorem t_Rows_neighbours (F : fenOk P S f) (N : fenIn I f nt np nl nn) : zEi G y_Rows_neighbours prog_7_method_4_code 4 (some .int) 1 [.ref f, .int a] (I, J, P, S) (fun r w => r = s_or (zB a) (I (f + 3)) np ∧ w = (I, J, P, S)) := by
  obtain ⟨F0, ⟨F8, F8s⟩, ⟨F9, F9s⟩, ⟨F10, F10s⟩, ⟨F11, F11s⟩, ⟨F12, F12s⟩, ⟨F13, F13s⟩, ⟨F14, F14s⟩, ⟨F15, F15s⟩, ⟨F16, F16s⟩, ⟨F17, F17s⟩, ⟨F18, F18s⟩, ⟨F19, F19s⟩, ⟨Y3, Y3s⟩, ⟨Y4, Y4s⟩, ⟨Y5, Y5s⟩, ⟨Y6, Y6s⟩⟩ := id F
  obtain ⟨⟨n1, n1b⟩, ⟨n2, n2b⟩, ⟨n3, n3b⟩, ⟨n4, n4b⟩, nof, non⟩ := id N
  refine zEi_of (lv := [some (.ref f), some (.int a), none, none]) (by decide) rfl (Nat.le_of_ble_eq_true rfl) ?_
  have loop : ∀ m j, np - j < m → j ≤ np → zA G y_Rows_neighbours prog_7_method_4_code 4 (some .int) (zRm 1 0 0) (zM G 0 0 (fun r w' => ∃ x, r = some (.int x) ∧ (fun r w => r = s_or (zB a) (I (f + 3)) np ∧ w = (I, J, P, S)) x w')) 4 [some (.ref f), some (.int a), some (.int (s_or (zB a) (I (f + 3)) j)), some (.int (nI j))] [] (I, J, P, S) 0 0 := by
    intro m
    induction m with
    | zero => intro j h; omega
    | succ m ih =>
      intro j hm hj
      refine z_iload_3 d_Rows_neighbours_4 ?_
      refine z_aload_0 d_Rows_neighbours_5 ?_
      refine z_getIv d_Rows_neighbours_6 f_Rows_28 (by assumption) (by first | assumption | ((try simp (disch := omega) only [zu_same, zu_ne, zcp_ne, zfl_ne]); first | assumption | rfl)) ?_
      refine z_icmp_ge (tgt := 35) d_Rows_neighbours_9 (by decide) (fun h9 => ?_) (fun h9 => ?_)
      · first
        | (simp (disch := omega) only [← nI_0, nI_leI, nI_ltI, nI_eq, not_true_eq_false, not_false_eq_true] at h9; done)
        | (simp (disch := omega) only [← nI_0, nI_leI, nI_ltI, nI_eq, not_true_eq_false, not_false_eq_true] at h9; omega)
        | contradiction
        | exact absurd h9 (Int32.not_lt.mpr (by assumption))
        | exact absurd h9 (Int32.not_le.mpr (by assumption))
        | ( try simp (disch := omega) only [← nI_0, nI_leI, nI_ltI, nI_eq, not_true_eq_false, not_false_eq_true] at h9
            (try have h9b := zbit_n0.mp h9); (try have h9b := zbit_p0.mp h9)
            refine z_iload_2 d_Rows_neighbours_35 ?_
            refine z_reti d_Rows_neighbours_36 ?_
            (obtain rfl : j = np := by omega); exact ⟨rfl, rfl⟩)
      · first
        | (simp (disch := omega) only [← nI_0, nI_leI, nI_ltI, nI_eq, not_true_eq_false, not_false_eq_true] at h9; done)
        | (simp (disch := omega) only [← nI_0, nI_leI, nI_ltI, nI_eq, not_true_eq_false, not_false_eq_true] at h9; omega)
        | contradiction
        | exact absurd h9 (Int32.not_lt.mpr (by assumption))
        | exact absurd h9 (Int32.not_le.mpr (by assumption))
        | ( try simp (disch := omega) only [← nI_0, nI_leI, nI_ltI, nI_eq, not_true_eq_false, not_false_eq_true] at h9
            (try have h9b := zbit_n0.mp h9); (try have h9b := zbit_p0.mp h9)
            refine z_iload_1 d_Rows_neighbours_12 ?_
            refine z_iload_3 d_Rows_neighbours_13 ?_
            refine z_ishr d_Rows_neighbours_14 ?_
            refine z_iconst (a := nI 1) d_Rows_neighbours_15 (by decide) ?_
            refine z_iand d_Rows_neighbours_16 ?_
            refine z_if_eq (tgt := 29) d_Rows_neighbours_17 (by decide) (fun h17 => ?_) (fun h17 => ?_)
            · first
              | (simp (disch := omega) only [← nI_0, nI_leI, nI_ltI, nI_eq, not_true_eq_false, not_false_eq_true] at h17; done)
              | (simp (disch := omega) only [← nI_0, nI_leI, nI_ltI, nI_eq, not_true_eq_false, not_false_eq_true] at h17; omega)
              | contradiction
              | exact absurd h17 (Int32.not_lt.mpr (by assumption))
              | exact absurd h17 (Int32.not_le.mpr (by assumption))
              | ( try simp (disch := omega) only [← nI_0, nI_leI, nI_ltI, nI_eq, not_true_eq_false, not_false_eq_true] at h17
                  (try have h17b := zbit_n0.mp h17); (try have h17b := zbit_p0.mp h17)
                  first | refine z_iinc_3 d_Rows_neighbours_29 rfl (zi_inc _) ?_ | refine z_iinc_3 d_Rows_neighbours_29 rfl rfl ?_
                  refine z_goto (tgt := 4) d_Rows_neighbours_32 (by decide) ?_
                  (have q := ih (j + 1) (by omega) (by omega); rw [s_or] at q; first | (rw [if_pos (by assumption)] at q; exact q) | (rw [if_neg (by assumption)] at q; exact q)))
            · first
              | (simp (disch := omega) only [← nI_0, nI_leI, nI_ltI, nI_eq, not_true_eq_false, not_false_eq_true] at h17; done)
              | (simp (disch := omega) only [← nI_0, nI_leI, nI_ltI, nI_eq, not_true_eq_false, not_false_eq_true] at h17; omega)
              | contradiction
              | exact absurd h17 (Int32.not_lt.mpr (by assumption))
              | exact absurd h17 (Int32.not_le.mpr (by assumption))
              | ( try simp (disch := omega) only [← nI_0, nI_leI, nI_ltI, nI_eq, not_true_eq_false, not_false_eq_true] at h17
                  (try have h17b := zbit_n0.mp h17); (try have h17b := zbit_p0.mp h17)
                  refine z_iload_2 d_Rows_neighbours_20 ?_
                  refine z_aload_0 d_Rows_neighbours_21 ?_
                  refine z_getR d_Rows_neighbours_22 f_Rows_32 (by assumption) (by assumption) ?_
                  refine z_iload_3 d_Rows_neighbours_25 ?_
                  first | refine z_ialdNv d_Rows_neighbours_26 (by assumption) (by omega) (by decide) (by first | assumption | ((try simp (disch := omega) only [zu_same, zu_ne, zcp_ne, zfl_ne]); first | assumption | rfl)) ?_ | refine z_iald d_Rows_neighbours_26 (by assumption) (by assumption) ?_
                  refine z_ior d_Rows_neighbours_27 ?_
                  first | refine z_istore_2 d_Rows_neighbours_28 rfl ?_ | (refine z_forget_1 ?_; refine z_istore_2 d_Rows_neighbours_28 rfl ?_)
                  first | refine z_iinc_3 d_Rows_neighbours_29 rfl (zi_inc _) ?_ | refine z_iinc_3 d_Rows_neighbours_29 rfl rfl ?_
                  refine z_goto (tgt := 4) d_Rows_neighbours_32 (by decide) ?_
                  (have q := ih (j + 1) (by omega) (by omega); rw [s_or] at q; first | (rw [if_pos (by assumption)] at q; exact q) | (rw [if_neg (by assumption)] at q; exact q))))
  refine z_iconst (a := nI 0) d_Rows_neighbours_0 (by decide) ?_
  first | refine z_istore_2 d_Rows_neighbours_1 rfl ?_ | (refine z_forget_1 ?_; refine z_istore_2 d_Rows_neighbours_1 rfl ?_)
  refine z_iconst (a := nI 0) d_Rows_neighbours_2 (by decide) ?_
  first | refine z_istore_3 d_Rows_neighbours_3 rfl ?_ | (refine z_forget_2 ?_; refine z_istore_3 d_Rows_neighbours_3 rfl ?_)
  exact loop (np + 1) 0 (by omega) (by omega)
/-- who is reached in n passes at most -/
def s_rch (mt : Nat → Int32) (np : Nat) (tk r0 : Int32) : Nat → Int32
  | 0 => r0
  | n + 1 => s_rch mt np tk r0 n ||| (s_or (zB (s_rch mt np tk r0 n)) mt np &&& tk)
def s_far (R : Nat → Int32) (to : Nat) : Nat → Nat → Int32
  | 0, _ => -1
  | m + 1, far => if zB (R far) to then nI far else s_far R to m (far + 1)
def s_dist (mt : Nat → Int32) (np : Nat) (tk : Int32) (p to : Nat) : Int32 := s_far (s_rch mt np tk (nI 1 <<< (nI p &&& 31))) to 7 0
theorem s_far_c (R : Nat → Int32) (to : Nat) : ∀ m far, s_far R to m far = -1 ∨ ∃ d, d < far + m ∧ s_far R to m far = nI d := by
  intro m
  induction m with
  | zero => intro far; exact Or.inl rfl
  | succ m ih =>
    intro far
    rw [s_far]
    split
    · exact Or.inr ⟨far, by omega, rfl⟩
    · rcases ih (far + 1) with h | ⟨d, h1, h2⟩
      · exact Or.inl h
      · exact Or.inr ⟨d, by omega, h2⟩
theorem t_Rows_distance {p q : Nat} (F : fenOk P S f) (N : fenIn I f nt np nl nn) : zEi G y_Rows_distance prog_7_method_2_code 6 (some .int) 2 [.ref f, .int (nI p), .int (nI q), .int a] (I, J, P, S) (fun r w => r = s_dist (I (f + 3)) np a p q ∧ w = (I, J, P, S)) := by
  obtain ⟨F0, ⟨F8, F8s⟩, ⟨F9, F9s⟩, ⟨F10, F10s⟩, ⟨F11, F11s⟩, ⟨F12, F12s⟩, ⟨F13, F13s⟩, ⟨F14, F14s⟩, ⟨F15, F15s⟩, ⟨F16, F16s⟩, ⟨F17, F17s⟩, ⟨F18, F18s⟩, ⟨F19, F19s⟩, ⟨Y3, Y3s⟩, ⟨Y4, Y4s⟩, ⟨Y5, Y5s⟩, ⟨Y6, Y6s⟩⟩ := id F
  obtain ⟨⟨n1, n1b⟩, ⟨n2, n2b⟩, ⟨n3, n3b⟩, ⟨n4, n4b⟩, nof, non⟩ := id N
  refine zEi_of (lv := [some (.ref f), some (.int (nI p)), some (.int (nI q)), some (.int a), none, none]) (by decide) rfl (Nat.le_of_ble_eq_true rfl) ?_
  have loop : ∀ m j, 7 - j < m → j ≤ 7 → (s_far (s_rch (I (f + 3)) np a (nI 1 <<< (nI p &&& 31))) q (7 - j) j = s_dist (I (f + 3)) np a p q) → zA G y_Rows_distance prog_7_method_2_code 6 (some .int) (zRm 2 0 0) (zM G 0 0 (fun r w' => ∃ x, r = some (.int x) ∧ (fun r w => r = s_dist (I (f + 3)) np a p q ∧ w = (I, J, P, S)) x w')) 8 [some (.ref f), some (.int (nI p)), some (.int (nI q)), some (.int a), some (.int (s_rch (I (f + 3)) np a (nI 1 <<< (nI p &&& 31)) j)), some (.int (nI j))] [] (I, J, P, S) 0 0 := by
    intro m
    induction m with
    | zero => intro j h; omega
    | succ m ih =>
      intro j hm hj hI
      refine z_iload_5 d_Rows_distance_8 ?_
      refine z_bipush (a := nI 7) d_Rows_distance_10 (by decide) ?_
      refine z_icmp_ge (tgt := 46) d_Rows_distance_12 (by decide) (fun hb => ?_) (fun hb => ?_)
      · have hb := (nI_leI (by omega) (by omega)).mp hb
        obtain rfl : j = 7 := by omega
        refine z_iconst (a := -1) d_Rows_distance_46 (by decide) ?_
        refine z_reti d_Rows_distance_47 ?_
        exact ⟨hI, rfl⟩
      · have hb : j < 7 := Nat.lt_of_not_le (fun q => hb (nI_le q (by omega)))
        rw [show 7 - j = (7 - (j + 1)) + 1 by omega, s_far] at hI
        refine z_iload_4 d_Rows_distance_15 ?_
        refine z_iload_2 d_Rows_distance_17 ?_
        refine z_ishr d_Rows_distance_18 ?_
        refine z_iconst (a := nI 1) d_Rows_distance_19 (by decide) ?_
        refine z_iand d_Rows_distance_20 ?_
        refine z_if_eq (tgt := 27) d_Rows_distance_21 (by decide) (fun hc => ?_) (fun hc => ?_)
        · have hc := zbit_n.mp hc
          rw [if_neg hc] at hI
          refine z_iload_4 d_Rows_distance_27 ?_
          refine z_aload_0 d_Rows_distance_29 ?_
          refine z_iload_4 d_Rows_distance_30 ?_
          refine z_Si2 d_Rows_distance_32 k_Rows_15 (t_Rows_neighbours (by assumption) (by assumption)) ⟨Nat.le_of_ble_eq_true rfl, Nat.le_of_ble_eq_true rfl, Nat.le_of_ble_eq_true rfl, Nat.le_of_ble_eq_true rfl⟩ (Nat.le_of_ble_eq_true rfl) ?_
          intro r w hq
          obtain ⟨rfl, rfl⟩ := hq
          refine z_iload_3 d_Rows_distance_35 ?_
          refine z_iand d_Rows_distance_36 ?_
          refine z_ior d_Rows_distance_37 ?_
          first | refine z_istore_4 d_Rows_distance_38 rfl ?_ | (refine z_forget_3 ?_; refine z_istore_4 d_Rows_distance_38 rfl ?_)
          first | refine z_iinc_5 d_Rows_distance_40 rfl (zi_inc _) ?_ | refine z_iinc_5 d_Rows_distance_40 rfl rfl ?_
          refine z_goto (tgt := 8) d_Rows_distance_43 (by decide) ?_
          exact ih (j + 1) (by omega) (by omega) hI
        · have hc := zbit_p.mp hc
          rw [if_pos hc] at hI
          refine z_iload_5 d_Rows_distance_24 ?_
          refine z_reti d_Rows_distance_26 ?_
          exact ⟨hI, rfl⟩
  refine z_iconst (a := nI 1) d_Rows_distance_0 (by decide) ?_
  refine z_iload_1 d_Rows_distance_1 ?_
  refine z_ishl d_Rows_distance_2 ?_
  first | refine z_istore_4 d_Rows_distance_3 rfl ?_ | (refine z_forget_3 ?_; refine z_istore_4 d_Rows_distance_3 rfl ?_)
  refine z_iconst (a := nI 0) d_Rows_distance_5 (by decide) ?_
  first | refine z_istore_5 d_Rows_distance_6 rfl ?_ | (refine z_forget_4 ?_; refine z_istore_5 d_Rows_distance_6 rfl ?_)
  exact loop 8 0 (by omega) (by omega) rfl
theorem t_Rows_reached {t k p : Nat} (F : fenOk P S f) (N : fenIn I f nt np nl nn) (ht : t < nn) (hk : I (f + 5) t = nI k) (hp : I (f + 6) t = nI p) : zEi G y_Rows_reached prog_7_method_3_code 5 (some .int) 3 [.ref f, .int (nI t)] (I, J, P, S) (fun r w => r = s_rch (I (f + 3)) np (s_set (fun p => zB (I (f + 2) p) k) np) (nI 1 <<< (nI p &&& 31)) 7 ∧ w = (I, J, P, S)) := by
  obtain ⟨F0, ⟨F8, F8s⟩, ⟨F9, F9s⟩, ⟨F10, F10s⟩, ⟨F11, F11s⟩, ⟨F12, F12s⟩, ⟨F13, F13s⟩, ⟨F14, F14s⟩, ⟨F15, F15s⟩, ⟨F16, F16s⟩, ⟨F17, F17s⟩, ⟨F18, F18s⟩, ⟨F19, F19s⟩, ⟨Y3, Y3s⟩, ⟨Y4, Y4s⟩, ⟨Y5, Y5s⟩, ⟨Y6, Y6s⟩⟩ := id F
  obtain ⟨⟨n1, n1b⟩, ⟨n2, n2b⟩, ⟨n3, n3b⟩, ⟨n4, n4b⟩, nof, non⟩ := id N
  refine zEi_of (lv := [some (.ref f), some (.int (nI t)), none, none, none]) (by decide) rfl (Nat.le_of_ble_eq_true rfl) ?_
  have loop : ∀ m j, 7 - j < m → j ≤ 7 → zA G y_Rows_reached prog_7_method_3_code 5 (some .int) (zRm 3 0 0) (zM G 0 0 (fun r w' => ∃ x, r = some (.int x) ∧ (fun r w => r = s_rch (I (f + 3)) np (s_set (fun p => zB (I (f + 2) p) k) np) (nI 1 <<< (nI p &&& 31)) 7 ∧ w = (I, J, P, S)) x w')) 18 [some (.ref f), some (.int (nI t)), some (.int (s_set (fun p => zB (I (f + 2) p) k) np)), some (.int (s_rch (I (f + 3)) np (s_set (fun p => zB (I (f + 2) p) k) np) (nI 1 <<< (nI p &&& 31)) j)), some (.int (nI j))] [] (I, J, P, S) 0 0 := by
    intro m
    induction m with
    | zero => intro j h; omega
    | succ m ih =>
      intro j hm hj
      refine z_iload_4 d_Rows_reached_18 ?_
      refine z_bipush (a := nI 7) d_Rows_reached_20 (by decide) ?_
      refine z_icmp_ge (tgt := 41) d_Rows_reached_22 (by decide) (fun h22 => ?_) (fun h22 => ?_)
      · first
        | (simp (disch := omega) only [← nI_0, nI_leI, nI_ltI, nI_eq, not_true_eq_false, not_false_eq_true] at h22; done)
        | (simp (disch := omega) only [← nI_0, nI_leI, nI_ltI, nI_eq, not_true_eq_false, not_false_eq_true] at h22; omega)
        | contradiction
        | exact absurd h22 (Int32.not_lt.mpr (by assumption))
        | exact absurd h22 (Int32.not_le.mpr (by assumption))
        | ( try simp (disch := omega) only [← nI_0, nI_leI, nI_ltI, nI_eq, not_true_eq_false, not_false_eq_true] at h22
            (try have h22b := zbit_n0.mp h22); (try have h22b := zbit_p0.mp h22)
            refine z_iload_3 d_Rows_reached_41 ?_
            refine z_reti d_Rows_reached_42 ?_
            (obtain rfl : j = 7 := by omega); exact ⟨rfl, rfl⟩)
      · first
        | (simp (disch := omega) only [← nI_0, nI_leI, nI_ltI, nI_eq, not_true_eq_false, not_false_eq_true] at h22; done)
        | (simp (disch := omega) only [← nI_0, nI_leI, nI_ltI, nI_eq, not_true_eq_false, not_false_eq_true] at h22; omega)
        | contradiction
        | exact absurd h22 (Int32.not_lt.mpr (by assumption))
        | exact absurd h22 (Int32.not_le.mpr (by assumption))
        | ( try simp (disch := omega) only [← nI_0, nI_leI, nI_ltI, nI_eq, not_true_eq_false, not_false_eq_true] at h22
            (try have h22b := zbit_n0.mp h22); (try have h22b := zbit_p0.mp h22)
            refine z_iload_3 d_Rows_reached_25 ?_
            refine z_aload_0 d_Rows_reached_26 ?_
            refine z_iload_3 d_Rows_reached_27 ?_
            refine z_Si2 d_Rows_reached_28 k_Rows_15 (t_Rows_neighbours (by assumption) (by assumption)) ⟨Nat.le_of_ble_eq_true rfl, Nat.le_of_ble_eq_true rfl, Nat.le_of_ble_eq_true rfl, Nat.le_of_ble_eq_true rfl⟩ (Nat.le_of_ble_eq_true rfl) ?_
            intro r w hq
            obtain ⟨rfl, rfl⟩ := hq
            refine z_iload_2 d_Rows_reached_31 ?_
            refine z_iand d_Rows_reached_32 ?_
            refine z_ior d_Rows_reached_33 ?_
            first | refine z_istore_3 d_Rows_reached_34 rfl ?_ | (refine z_forget_2 ?_; refine z_istore_3 d_Rows_reached_34 rfl ?_)
            first | refine z_iinc_4 d_Rows_reached_35 rfl (zi_inc _) ?_ | refine z_iinc_4 d_Rows_reached_35 rfl rfl ?_
            refine z_goto (tgt := 18) d_Rows_reached_38 (by decide) ?_
            exact ih (j + 1) (by omega) (by omega))
  refine z_aload_0 d_Rows_reached_0 ?_
  refine z_iload_1 d_Rows_reached_1 ?_
  refine z_Vi1 d_Rows_reached_2 k_Rows_19 (by assumption) (t_Fen_believersIn (by assumption) (by assumption) (by omega) (by assumption)) ⟨Nat.le_of_ble_eq_true rfl, Nat.le_of_ble_eq_true rfl, Nat.le_of_ble_eq_true rfl, Nat.le_of_ble_eq_true rfl⟩ (Nat.le_of_ble_eq_true rfl) ?_
  intro r w hq
  obtain ⟨rfl, rfl⟩ := hq
  first | refine z_istore_2 d_Rows_reached_5 rfl ?_ | (refine z_forget_1 ?_; refine z_istore_2 d_Rows_reached_5 rfl ?_)
  refine z_iconst (a := nI 1) d_Rows_reached_6 (by decide) ?_
  refine z_aload_0 d_Rows_reached_7 ?_
  refine z_getR d_Rows_reached_8 f_Rows_25 (by assumption) (by assumption) ?_
  refine z_iload_1 d_Rows_reached_11 ?_
  first | refine z_ialdNv d_Rows_reached_12 (by assumption) (by omega) (by decide) (by first | assumption | ((try simp (disch := omega) only [zu_same, zu_ne, zcp_ne, zfl_ne]); first | assumption | rfl)) ?_ | refine z_iald d_Rows_reached_12 (by assumption) (by assumption) ?_
  refine z_ishl d_Rows_reached_13 ?_
  first | refine z_istore_3 d_Rows_reached_14 rfl ?_ | (refine z_forget_2 ?_; refine z_istore_3 d_Rows_reached_14 rfl ?_)
  refine z_iconst (a := nI 0) d_Rows_reached_15 (by decide) ?_
  first | refine z_istore_4 d_Rows_reached_16 rfl ?_ | (refine z_forget_3 ?_; refine z_istore_4 d_Rows_reached_16 rfl ?_)
  exact loop 8 0 (by omega) (by omega)
theorem t_Rows_firstAtDistance {p q : Nat} (F : fenOk P S f) (N : fenIn I f nt np nl nn) (hp : p < 7) : zEi G y_Rows_firstAtDistance prog_7_method_6_code 7 (some .int) 3 [.ref f, .int (nI p), .int (nI q), .int a, .int b] (I, J, P, S) (fun r w => r = s_first (fun i => zB (I (f + 3) p &&& a) i && decide (s_dist (I (f + 3)) np a i q = b)) np 0 ∧ w = (I, J, P, S)) := by
  obtain ⟨F0, ⟨F8, F8s⟩, ⟨F9, F9s⟩, ⟨F10, F10s⟩, ⟨F11, F11s⟩, ⟨F12, F12s⟩, ⟨F13, F13s⟩, ⟨F14, F14s⟩, ⟨F15, F15s⟩, ⟨F16, F16s⟩, ⟨F17, F17s⟩, ⟨F18, F18s⟩, ⟨F19, F19s⟩, ⟨Y3, Y3s⟩, ⟨Y4, Y4s⟩, ⟨Y5, Y5s⟩, ⟨Y6, Y6s⟩⟩ := id F
  obtain ⟨⟨n1, n1b⟩, ⟨n2, n2b⟩, ⟨n3, n3b⟩, ⟨n4, n4b⟩, nof, non⟩ := id N
  refine zEi_of (lv := [some (.ref f), some (.int (nI p)), some (.int (nI q)), some (.int a), some (.int b), none, none]) (by decide) rfl (Nat.le_of_ble_eq_true rfl) ?_
  have loop : ∀ m j, np - j < m → j ≤ np → (s_first (fun i => zB (I (f + 3) p &&& a) i && decide (s_dist (I (f + 3)) np a i q = b)) (np - j) j = s_first (fun i => zB (I (f + 3) p &&& a) i && decide (s_dist (I (f + 3)) np a i q = b)) np 0) → zA G y_Rows_firstAtDistance prog_7_method_6_code 7 (some .int) (zRm 3 0 0) (zM G 0 0 (fun r w' => ∃ x, r = some (.int x) ∧ (fun r w => r = s_first (fun i => zB (I (f + 3) p &&& a) i && decide (s_dist (I (f + 3)) np a i q = b)) np 0 ∧ w = (I, J, P, S)) x w')) 3 [some (.ref f), some (.int (nI p)), some (.int (nI q)), some (.int a), some (.int b), some (.int (nI j)), none] [] (I, J, P, S) 0 0 := by
    intro m
    induction m with
    | zero => intro j h; omega
    | succ m ih =>
      intro j hm hj hI
      refine z_iload_5 d_Rows_firstAtDistance_3 ?_
      refine z_aload_0 d_Rows_firstAtDistance_5 ?_
      refine z_getIv d_Rows_firstAtDistance_6 f_Rows_28 (by assumption) (by first | assumption | ((try simp (disch := omega) only [zu_same, zu_ne, zcp_ne, zfl_ne]); first | assumption | rfl)) ?_
      refine z_icmp_ge (tgt := 62) d_Rows_firstAtDistance_9 (by decide) (fun hb => ?_) (fun hb => ?_)
      · have hb := (nI_leI (by omega) (by omega)).mp hb
        obtain rfl : j = np := by omega
        rw [Nat.sub_self, s_first] at hI
        refine z_iconst (a := -1) d_Rows_firstAtDistance_62 (by decide) ?_
        refine z_reti d_Rows_firstAtDistance_63 ?_
        exact ⟨hI, rfl⟩
      · have hb : j < np := Nat.lt_of_not_le (fun q => hb (nI_le q (by omega)))
        rw [show np - j = (np - (j + 1)) + 1 by omega, s_first] at hI
        refine z_aload_0 d_Rows_firstAtDistance_12 ?_
        refine z_getR d_Rows_firstAtDistance_13 f_Rows_32 (by assumption) (by assumption) ?_
        refine z_iload_1 d_Rows_firstAtDistance_16 ?_
        first | refine z_ialdNv d_Rows_firstAtDistance_17 (by assumption) (by omega) (by decide) (by first | assumption | ((try simp (disch := omega) only [zu_same, zu_ne, zcp_ne, zfl_ne]); first | assumption | rfl)) ?_ | refine z_iald d_Rows_firstAtDistance_17 (by assumption) (by assumption) ?_
        refine z_iload_3 d_Rows_firstAtDistance_18 ?_
        refine z_iand d_Rows_firstAtDistance_19 ?_
        refine z_iload_5 d_Rows_firstAtDistance_20 ?_
        refine z_ishr d_Rows_firstAtDistance_22 ?_
        refine z_iconst (a := nI 1) d_Rows_firstAtDistance_23 (by decide) ?_
        refine z_iand d_Rows_firstAtDistance_24 ?_
        refine z_if_eq (tgt := 32) d_Rows_firstAtDistance_25 (by decide) (fun hc => ?_) (fun hc => ?_)
        · have hc := zbit_n.mp hc
          rw [if_neg (by simp [hc])] at hI
          refine z_iconst (a := nI 0) d_Rows_firstAtDistance_32 (by decide) ?_
          first | refine z_istore_6 d_Rows_firstAtDistance_33 rfl ?_ | (refine z_forget_5 ?_; refine z_istore_6 d_Rows_firstAtDistance_33 rfl ?_)
          refine z_iload_6 d_Rows_firstAtDistance_35 ?_
          refine z_if_eq (tgt := 56) d_Rows_firstAtDistance_37 (by decide) (fun _ => ?_) (fun h => absurd rfl h)
          refine z_iinc_5 d_Rows_firstAtDistance_56 rfl (zi_inc _) ?_
          refine z_goto (tgt := 3) d_Rows_firstAtDistance_59 (by decide) ?_
          refine z_forget_6 ?_
          exact ih (j + 1) (by omega) (by omega) hI
        · have hc := zbit_p.mp hc
          refine z_iconst (a := nI 1) d_Rows_firstAtDistance_28 (by decide) ?_
          refine z_goto (tgt := 33) d_Rows_firstAtDistance_29 (by decide) ?_
          first | refine z_istore_6 d_Rows_firstAtDistance_33 rfl ?_ | (refine z_forget_5 ?_; refine z_istore_6 d_Rows_firstAtDistance_33 rfl ?_)
          refine z_iload_6 d_Rows_firstAtDistance_35 ?_
          refine z_if_eq (tgt := 56) d_Rows_firstAtDistance_37 (by decide) (fun h => absurd h (by decide)) (fun _ => ?_)
          refine z_aload_0 d_Rows_firstAtDistance_40 ?_
          refine z_iload_5 d_Rows_firstAtDistance_41 ?_
          refine z_iload_2 d_Rows_firstAtDistance_43 ?_
          refine z_iload_3 d_Rows_firstAtDistance_44 ?_
          refine z_Si4 d_Rows_firstAtDistance_45 k_Rows_35 (t_Rows_distance (by assumption) (by assumption)) ⟨Nat.le_of_ble_eq_true rfl, Nat.le_of_ble_eq_true rfl, Nat.le_of_ble_eq_true rfl, Nat.le_of_ble_eq_true rfl⟩ (Nat.le_of_ble_eq_true rfl) ?_
          intro r w hq
          obtain ⟨rfl, rfl⟩ := hq
          refine z_iload_4 d_Rows_firstAtDistance_48 ?_
          refine z_icmp_ne (tgt := 56) d_Rows_firstAtDistance_50 (by decide) (fun hd => ?_) (fun hd => ?_)
          · rw [if_neg (by simp [hd])] at hI
            refine z_iinc_5 d_Rows_firstAtDistance_56 rfl (zi_inc _) ?_
            refine z_goto (tgt := 3) d_Rows_firstAtDistance_59 (by decide) ?_
            refine z_forget_6 ?_
            exact ih (j + 1) (by omega) (by omega) hI
          · rw [if_pos (by simp [hc, hd])] at hI
            refine z_iload_5 d_Rows_firstAtDistance_53 ?_
            refine z_reti d_Rows_firstAtDistance_55 ?_
            exact ⟨hI, rfl⟩
  refine z_iconst (a := nI 0) d_Rows_firstAtDistance_0 (by decide) ?_
  first | refine z_istore_5 d_Rows_firstAtDistance_1 rfl ?_ | (refine z_forget_4 ?_; refine z_istore_5 d_Rows_firstAtDistance_1 rfl ?_)
  exact loop (np + 1) 0 (by omega) (by omega) rfl
end C5
