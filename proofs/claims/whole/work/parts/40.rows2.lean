/-! the class: ways and rounds, on -/
section C6
variable {G : zG} {I : Nat → Nat → Int32} {J : Nat → Nat → Int64} {P : Nat → Nat → Option Nat} {S : List (Nat × Nat)} {f g nt np nl nn : Nat} {a b c : Int32} {x : Int64}
theorem s_first_c (b : Nat → Bool) : ∀ m j, s_first b m j = -1 ∨ ∃ d, j ≤ d ∧ d < j + m ∧ s_first b m j = nI d ∧ b d = true := by
  intro m
  induction m with
  | zero => intro j; exact Or.inl rfl
  | succ m ih =>
    intro j
    rw [s_first]
    split
    · rename_i hb
      exact Or.inr ⟨j, Nat.le_refl _, by omega, rfl, hb⟩
    · rcases ih (j + 1) with h | ⟨d, h0, h1, h2, h3⟩
      · exact Or.inl h
      · exact Or.inr ⟨d, by omega, by omega, h2, h3⟩
/-- who has the TIN behind so many PASSES of the WAY, of d in all -/
def s_wayS (mt : Nat → Int32) (np : Nat) (tk : Int32) (to p d : Nat) : Nat → Int32
  | 0 => nI p
  | i + 1 => if s_wayS mt np tk to p d i < 0 then s_wayS mt np tk to p d i else s_first (fun q => zB (mt (s_wayS mt np tk to p d i).toNatClampNeg &&& tk) q && decide (s_dist mt np tk q to = nI (d - (i + 1)))) np 0
theorem s_wayS_neg {mt : Nat → Int32} {np : Nat} {tk : Int32} {to p d i : Nat} (h : s_wayS mt np tk to p d i < 0) : ∀ n, s_wayS mt np tk to p d (i + n) = s_wayS mt np tk to p d i := by
  intro n
  induction n with
  | zero => rfl
  | succ n ih =>
    rw [show i + (n + 1) = (i + n) + 1 by omega, s_wayS, ih, if_pos h]
theorem s_wayS_c {mt : Nat → Int32} {np : Nat} {tk : Int32} {to p d : Nat} (hp : p < np) : ∀ i, s_wayS mt np tk to p d i = -1 ∨ ∃ q, q < np ∧ s_wayS mt np tk to p d i = nI q := by
  intro i
  induction i with
  | zero => exact Or.inr ⟨p, hp, rfl⟩
  | succ i ih =>
    rw [s_wayS]
    split
    · exact ih
    · rcases s_first_c (fun q => zB (mt (s_wayS mt np tk to p d i).toNatClampNeg &&& tk) q && decide (s_dist mt np tk q to = nI (d - (i + 1)))) np 0 with h | ⟨q, h0, h1, h2, -⟩
      · exact Or.inl h
      · exact Or.inr ⟨q, by omega, h2⟩
theorem t_Rows_onWay {t k p q d kk : Nat} (F : fenOk P S f) (N : fenIn I f nt np nl nn) (ht : t < nn) (hk : I (f + 5) t = nI k) (hp : I (f + 6) t = nI p) (hp2 : p < np) (hd : s_dist (I (f + 3)) np (s_set (fun p => zB (I (f + 2) p) k) np) p q = nI d) (hd7 : d < 7) (hkk : kk ≤ d) : zEi G y_Rows_onWay prog_7_method_5_code 8 (some .int) 4 [.ref f, .int (nI t), .int (nI q), .int (nI kk)] (I, J, P, S) (fun r w => r = s_wayS (I (f + 3)) np (s_set (fun p => zB (I (f + 2) p) k) np) q p d kk ∧ w = (I, J, P, S)) := by
  obtain ⟨F0, ⟨F8, F8s⟩, ⟨F9, F9s⟩, ⟨F10, F10s⟩, ⟨F11, F11s⟩, ⟨F12, F12s⟩, ⟨F13, F13s⟩, ⟨F14, F14s⟩, ⟨F15, F15s⟩, ⟨F16, F16s⟩, ⟨F17, F17s⟩, ⟨F18, F18s⟩, ⟨F19, F19s⟩, ⟨Y3, Y3s⟩, ⟨Y4, Y4s⟩, ⟨Y5, Y5s⟩, ⟨Y6, Y6s⟩⟩ := id F
  obtain ⟨⟨n1, n1b⟩, ⟨n2, n2b⟩, ⟨n3, n3b⟩, ⟨n4, n4b⟩, nof, non⟩ := id N
  refine zEi_of (lv := [some (.ref f), some (.int (nI t)), some (.int (nI q)), some (.int (nI kk)), none, none, none, none]) (by decide) rfl (Nat.le_of_ble_eq_true rfl) ?_
  have loop : ∀ m j, kk - j < m → j ≤ kk → zA G y_Rows_onWay prog_7_method_5_code 8 (some .int) (zRm 4 0 0) (zM G 0 0 (fun r w' => ∃ x, r = some (.int x) ∧ (fun r w => r = s_wayS (I (f + 3)) np (s_set (fun p => zB (I (f + 2) p) k) np) q p d kk ∧ w = (I, J, P, S)) x w')) 41 [some (.ref f), some (.int (nI t)), some (.int (nI q)), some (.int (nI kk)), some (.int (s_set (fun p => zB (I (f + 2) p) k) np)), some (.int (s_wayS (I (f + 3)) np (s_set (fun p => zB (I (f + 2) p) k) np) q p d j)), some (.int (nI d)), some (.int (nI (j + 1)))] [] (I, J, P, S) 0 0 := by
    intro m
    induction m with
    | zero => intro j h; omega
    | succ m ih =>
      intro j hm hj
      refine z_iload_7 d_Rows_onWay_41 ?_
      refine z_iload_3 d_Rows_onWay_43 ?_
      refine z_icmp_gt (tgt := 74) d_Rows_onWay_44 (by decide) (fun hb => ?_) (fun hb => ?_)
      · have hb := (nI_ltI (by omega) (by omega)).mp hb
        obtain rfl : j = kk := by omega
        refine z_iload_5 d_Rows_onWay_74 ?_
        refine z_reti d_Rows_onWay_76 ?_
        exact ⟨rfl, rfl⟩
      · have hb : j < kk := by
          rcases Nat.lt_or_ge j kk with h | h
          · exact h
          · exact absurd (nI_lt (by omega) (by omega)) hb
        refine z_iload_5 d_Rows_onWay_47 ?_
        refine z_if_lt (tgt := 74) d_Rows_onWay_49 (by decide) (fun hc => ?_) (fun hc => ?_)
        · have e : s_wayS (I (f + 3)) np (s_set (fun p => zB (I (f + 2) p) k) np) q p d kk = s_wayS (I (f + 3)) np (s_set (fun p => zB (I (f + 2) p) k) np) q p d j := by
            rw [show kk = j + (kk - j) by omega]
            exact s_wayS_neg hc _
          refine z_iload_5 d_Rows_onWay_74 ?_
          refine z_reti d_Rows_onWay_76 ?_
          exact ⟨e.symm, rfl⟩
        · have q0 := ih (j + 1) (by omega) (by omega)
          rcases s_wayS_c (mt := I (f + 3)) (tk := s_set (fun p => zB (I (f + 2) p) k) np) (to := q) (d := d) hp2 j with h | ⟨z, hz1, hz2⟩
          · rw [h] at hc
            exact absurd (by decide) hc
          · rw [s_wayS, if_neg hc, hz2, nI_clamp (by omega)] at q0
            rw [hz2]
            refine z_aload_0 d_Rows_onWay_52 ?_
            refine z_iload_5 d_Rows_onWay_53 ?_
            refine z_iload_2 d_Rows_onWay_55 ?_
            refine z_iload_4 d_Rows_onWay_56 ?_
            refine z_iload_6 d_Rows_onWay_58 ?_
            refine z_iload_7 d_Rows_onWay_60 ?_
            first | refine z_isubN d_Rows_onWay_62 (by omega) ?_ | refine z_isub d_Rows_onWay_62 ?_
            refine z_Si5 d_Rows_onWay_63 k_Rows_39 (t_Rows_firstAtDistance (by assumption) (by assumption) (by omega)) ⟨Nat.le_of_ble_eq_true rfl, Nat.le_of_ble_eq_true rfl, Nat.le_of_ble_eq_true rfl, Nat.le_of_ble_eq_true rfl⟩ (Nat.le_of_ble_eq_true rfl) ?_
            intro r w hq
            obtain ⟨rfl, rfl⟩ := hq
            first | refine z_istore_5 d_Rows_onWay_66 rfl ?_ | (refine z_forget_4 ?_; refine z_istore_5 d_Rows_onWay_66 rfl ?_)
            first | refine z_iinc_7 d_Rows_onWay_68 rfl (zi_inc _) ?_ | refine z_iinc_7 d_Rows_onWay_68 rfl rfl ?_
            refine z_goto (tgt := 41) d_Rows_onWay_71 (by decide) ?_
            exact q0
  refine z_aload_0 d_Rows_onWay_0 ?_
  refine z_iload_1 d_Rows_onWay_1 ?_
  refine z_Vi1 d_Rows_onWay_2 k_Rows_19 (by assumption) (t_Fen_believersIn (by assumption) (by assumption) (by omega) (by assumption)) ⟨Nat.le_of_ble_eq_true rfl, Nat.le_of_ble_eq_true rfl, Nat.le_of_ble_eq_true rfl, Nat.le_of_ble_eq_true rfl⟩ (Nat.le_of_ble_eq_true rfl) ?_
  intro r w hq
  obtain ⟨rfl, rfl⟩ := hq
  first | refine z_istore_4 d_Rows_onWay_5 rfl ?_ | (refine z_forget_3 ?_; refine z_istore_4 d_Rows_onWay_5 rfl ?_)
  refine z_aload_0 d_Rows_onWay_7 ?_
  refine z_getR d_Rows_onWay_8 f_Rows_25 (by assumption) (by assumption) ?_
  refine z_iload_1 d_Rows_onWay_11 ?_
  first | refine z_ialdNv d_Rows_onWay_12 (by assumption) (by omega) (by decide) (by first | assumption | ((try simp (disch := omega) only [zu_same, zu_ne, zcp_ne, zfl_ne]); first | assumption | rfl)) ?_ | refine z_iald d_Rows_onWay_12 (by assumption) (by assumption) ?_
  first | refine z_istore_5 d_Rows_onWay_13 rfl ?_ | (refine z_forget_4 ?_; refine z_istore_5 d_Rows_onWay_13 rfl ?_)
  refine z_aload_0 d_Rows_onWay_15 ?_
  refine z_iload_5 d_Rows_onWay_16 ?_
  refine z_iload_2 d_Rows_onWay_18 ?_
  refine z_iload_4 d_Rows_onWay_19 ?_
  refine z_Si4 d_Rows_onWay_21 k_Rows_35 (t_Rows_distance (by assumption) (by assumption)) ⟨Nat.le_of_ble_eq_true rfl, Nat.le_of_ble_eq_true rfl, Nat.le_of_ble_eq_true rfl, Nat.le_of_ble_eq_true rfl⟩ (Nat.le_of_ble_eq_true rfl) ?_
  intro r w hq
  obtain ⟨rfl, rfl⟩ := hq
  rw [hd]
  first | refine z_istore_6 d_Rows_onWay_24 rfl ?_ | (refine z_forget_5 ?_; refine z_istore_6 d_Rows_onWay_24 rfl ?_)
  refine z_iload_3 d_Rows_onWay_26 ?_
  refine z_if_lt (tgt := 36) d_Rows_onWay_27 (by decide) (fun h27 => ?_) (fun h27 => ?_)
  · first
    | (simp (disch := omega) only [← nI_0, nI_leI, nI_ltI, nI_eq, not_true_eq_false, not_false_eq_true] at h27; done)
    | (simp (disch := omega) only [← nI_0, nI_leI, nI_ltI, nI_eq, not_true_eq_false, not_false_eq_true] at h27; omega)
    | contradiction
    | exact absurd h27 (Int32.not_lt.mpr (by assumption))
    | exact absurd h27 (Int32.not_le.mpr (by assumption))
    | ( try simp (disch := omega) only [← nI_0, nI_leI, nI_ltI, nI_eq, not_true_eq_false, not_false_eq_true] at h27
        (try have h27b := zbit_n0.mp h27); (try have h27b := zbit_p0.mp h27)
        refine z_iconst (a := -1) d_Rows_onWay_36 (by decide) ?_
        refine z_reti d_Rows_onWay_37 ?_
        exact ⟨e.symm, rfl⟩)
  · first
    | (simp (disch := omega) only [← nI_0, nI_leI, nI_ltI, nI_eq, not_true_eq_false, not_false_eq_true] at h27; done)
    | (simp (disch := omega) only [← nI_0, nI_leI, nI_ltI, nI_eq, not_true_eq_false, not_false_eq_true] at h27; omega)
    | contradiction
    | exact absurd h27 (Int32.not_lt.mpr (by assumption))
    | exact absurd h27 (Int32.not_le.mpr (by assumption))
    | ( try simp (disch := omega) only [← nI_0, nI_leI, nI_ltI, nI_eq, not_true_eq_false, not_false_eq_true] at h27
        (try have h27b := zbit_n0.mp h27); (try have h27b := zbit_p0.mp h27)
        refine z_iload_3 d_Rows_onWay_30 ?_
        refine z_iload_6 d_Rows_onWay_31 ?_
        refine z_icmp_le (tgt := 38) d_Rows_onWay_33 (by decide) (fun h33 => ?_) (fun h33 => ?_)
        · first
          | (simp (disch := omega) only [← nI_0, nI_leI, nI_ltI, nI_eq, not_true_eq_false, not_false_eq_true] at h33; done)
          | (simp (disch := omega) only [← nI_0, nI_leI, nI_ltI, nI_eq, not_true_eq_false, not_false_eq_true] at h33; omega)
          | contradiction
          | exact absurd h33 (Int32.not_lt.mpr (by assumption))
          | exact absurd h33 (Int32.not_le.mpr (by assumption))
          | ( try simp (disch := omega) only [← nI_0, nI_leI, nI_ltI, nI_eq, not_true_eq_false, not_false_eq_true] at h33
              (try have h33b := zbit_n0.mp h33); (try have h33b := zbit_p0.mp h33)
              refine z_iconst (a := nI 1) d_Rows_onWay_38 (by decide) ?_
              first | refine z_istore_7 d_Rows_onWay_39 rfl ?_ | (refine z_forget_6 ?_; refine z_istore_7 d_Rows_onWay_39 rfl ?_)
              exact loop (kk + 1) 0 (by omega) (by omega))
        · first
          | (simp (disch := omega) only [← nI_0, nI_leI, nI_ltI, nI_eq, not_true_eq_false, not_false_eq_true] at h33; done)
          | (simp (disch := omega) only [← nI_0, nI_leI, nI_ltI, nI_eq, not_true_eq_false, not_false_eq_true] at h33; omega)
          | contradiction
          | exact absurd h33 (Int32.not_lt.mpr (by assumption))
          | exact absurd h33 (Int32.not_le.mpr (by assumption))
          | ( try simp (disch := omega) only [← nI_0, nI_leI, nI_ltI, nI_eq, not_true_eq_false, not_false_eq_true] at h33
              (try have h33b := zbit_n0.mp h33); (try have h33b := zbit_p0.mp h33)
              refine z_iconst (a := -1) d_Rows_onWay_36 (by decide) ?_
              refine z_reti d_Rows_onWay_37 ?_
              exact ⟨e.symm, rfl⟩))
theorem t_Rows_onWay0 {t k p q : Nat} (F : fenOk P S f) (N : fenIn I f nt np nl nn) (ht : t < nn) (hk : I (f + 5) t = nI k) (hp : I (f + 6) t = nI p) (hp2 : p < np) (hd : a < 0 ∨ s_dist (I (f + 3)) np (s_set (fun p => zB (I (f + 2) p) k) np) p q < a) : zEi G y_Rows_onWay prog_7_method_5_code 8 (some .int) 4 [.ref f, .int (nI t), .int (nI q), .int a] (I, J, P, S) (fun r w => r = -1 ∧ w = (I, J, P, S)) := by
  obtain ⟨F0, ⟨F8, F8s⟩, ⟨F9, F9s⟩, ⟨F10, F10s⟩, ⟨F11, F11s⟩, ⟨F12, F12s⟩, ⟨F13, F13s⟩, ⟨F14, F14s⟩, ⟨F15, F15s⟩, ⟨F16, F16s⟩, ⟨F17, F17s⟩, ⟨F18, F18s⟩, ⟨F19, F19s⟩, ⟨Y3, Y3s⟩, ⟨Y4, Y4s⟩, ⟨Y5, Y5s⟩, ⟨Y6, Y6s⟩⟩ := id F
  obtain ⟨⟨n1, n1b⟩, ⟨n2, n2b⟩, ⟨n3, n3b⟩, ⟨n4, n4b⟩, nof, non⟩ := id N
  refine zEi_of (lv := [some (.ref f), some (.int (nI t)), some (.int (nI q)), some (.int a), none, none, none, none]) (by decide) rfl (Nat.le_of_ble_eq_true rfl) ?_
  rcases hd with hd | hd
  · refine z_aload_0 d_Rows_onWay_0 ?_
    refine z_iload_1 d_Rows_onWay_1 ?_
    refine z_Vi1 d_Rows_onWay_2 k_Rows_19 (by assumption) (t_Fen_believersIn (by assumption) (by assumption) (by omega) (by assumption)) ⟨Nat.le_of_ble_eq_true rfl, Nat.le_of_ble_eq_true rfl, Nat.le_of_ble_eq_true rfl, Nat.le_of_ble_eq_true rfl⟩ (Nat.le_of_ble_eq_true rfl) ?_
    intro r w hq
    obtain ⟨rfl, rfl⟩ := hq
    first | refine z_istore_4 d_Rows_onWay_5 rfl ?_ | (refine z_forget_3 ?_; refine z_istore_4 d_Rows_onWay_5 rfl ?_)
    refine z_aload_0 d_Rows_onWay_7 ?_
    refine z_getR d_Rows_onWay_8 f_Rows_25 (by assumption) (by assumption) ?_
    refine z_iload_1 d_Rows_onWay_11 ?_
    first | refine z_ialdNv d_Rows_onWay_12 (by assumption) (by omega) (by decide) (by first | assumption | ((try simp (disch := omega) only [zu_same, zu_ne, zcp_ne, zfl_ne]); first | assumption | rfl)) ?_ | refine z_iald d_Rows_onWay_12 (by assumption) (by assumption) ?_
    first | refine z_istore_5 d_Rows_onWay_13 rfl ?_ | (refine z_forget_4 ?_; refine z_istore_5 d_Rows_onWay_13 rfl ?_)
    refine z_aload_0 d_Rows_onWay_15 ?_
    refine z_iload_5 d_Rows_onWay_16 ?_
    refine z_iload_2 d_Rows_onWay_18 ?_
    refine z_iload_4 d_Rows_onWay_19 ?_
    refine z_Si4 d_Rows_onWay_21 k_Rows_35 (t_Rows_distance (by assumption) (by assumption)) ⟨Nat.le_of_ble_eq_true rfl, Nat.le_of_ble_eq_true rfl, Nat.le_of_ble_eq_true rfl, Nat.le_of_ble_eq_true rfl⟩ (Nat.le_of_ble_eq_true rfl) ?_
    intro r w hq
    obtain ⟨rfl, rfl⟩ := hq
    first | refine z_istore_6 d_Rows_onWay_24 rfl ?_ | (refine z_forget_5 ?_; refine z_istore_6 d_Rows_onWay_24 rfl ?_)
    refine z_iload_3 d_Rows_onWay_26 ?_
    refine z_if_lt (tgt := 36) d_Rows_onWay_27 (by decide) (fun h27 => ?_) (fun h27 => ?_)
    · first
      | (simp (disch := omega) only [← nI_0, nI_leI, nI_ltI, nI_eq, not_true_eq_false, not_false_eq_true] at h27; done)
      | (simp (disch := omega) only [← nI_0, nI_leI, nI_ltI, nI_eq, not_true_eq_false, not_false_eq_true] at h27; omega)
      | contradiction
      | exact absurd h27 (Int32.not_lt.mpr (by assumption))
      | exact absurd h27 (Int32.not_le.mpr (by assumption))
      | ( try simp (disch := omega) only [← nI_0, nI_leI, nI_ltI, nI_eq, not_true_eq_false, not_false_eq_true] at h27
          (try have h27b := zbit_n0.mp h27); (try have h27b := zbit_p0.mp h27)
          refine z_iconst (a := -1) d_Rows_onWay_36 (by decide) ?_
          refine z_reti d_Rows_onWay_37 ?_
          exact ⟨rfl, rfl⟩)
    · first
      | (simp (disch := omega) only [← nI_0, nI_leI, nI_ltI, nI_eq, not_true_eq_false, not_false_eq_true] at h27; done)
      | (simp (disch := omega) only [← nI_0, nI_leI, nI_ltI, nI_eq, not_true_eq_false, not_false_eq_true] at h27; omega)
      | contradiction
      | exact absurd h27 (Int32.not_lt.mpr (by assumption))
      | exact absurd h27 (Int32.not_le.mpr (by assumption))
      | ( try simp (disch := omega) only [← nI_0, nI_leI, nI_ltI, nI_eq, not_true_eq_false, not_false_eq_true] at h27
          (try have h27b := zbit_n0.mp h27); (try have h27b := zbit_p0.mp h27)
          refine z_iload_3 d_Rows_onWay_30 ?_
          refine z_iload_6 d_Rows_onWay_31 ?_
          refine z_icmp_le (tgt := 38) d_Rows_onWay_33 (by decide) (fun h33 => ?_) (fun h33 => ?_)
          · first
            | (simp (disch := omega) only [← nI_0, nI_leI, nI_ltI, nI_eq, not_true_eq_false, not_false_eq_true] at h33; done)
            | (simp (disch := omega) only [← nI_0, nI_leI, nI_ltI, nI_eq, not_true_eq_false, not_false_eq_true] at h33; omega)
            | contradiction
            | exact absurd h33 (Int32.not_lt.mpr (by assumption))
            | exact absurd h33 (Int32.not_le.mpr (by assumption))
            | ( try simp (disch := omega) only [← nI_0, nI_leI, nI_ltI, nI_eq, not_true_eq_false, not_false_eq_true] at h33
                (try have h33b := zbit_n0.mp h33); (try have h33b := zbit_p0.mp h33)
                exact absurd hd (by assumption))
          · first
            | (simp (disch := omega) only [← nI_0, nI_leI, nI_ltI, nI_eq, not_true_eq_false, not_false_eq_true] at h33; done)
            | (simp (disch := omega) only [← nI_0, nI_leI, nI_ltI, nI_eq, not_true_eq_false, not_false_eq_true] at h33; omega)
            | contradiction
            | exact absurd h33 (Int32.not_lt.mpr (by assumption))
            | exact absurd h33 (Int32.not_le.mpr (by assumption))
            | ( try simp (disch := omega) only [← nI_0, nI_leI, nI_ltI, nI_eq, not_true_eq_false, not_false_eq_true] at h33
                (try have h33b := zbit_n0.mp h33); (try have h33b := zbit_p0.mp h33)
                refine z_iconst (a := -1) d_Rows_onWay_36 (by decide) ?_
                refine z_reti d_Rows_onWay_37 ?_
                exact ⟨rfl, rfl⟩))
  · refine z_aload_0 d_Rows_onWay_0 ?_
    refine z_iload_1 d_Rows_onWay_1 ?_
    refine z_Vi1 d_Rows_onWay_2 k_Rows_19 (by assumption) (t_Fen_believersIn (by assumption) (by assumption) (by omega) (by assumption)) ⟨Nat.le_of_ble_eq_true rfl, Nat.le_of_ble_eq_true rfl, Nat.le_of_ble_eq_true rfl, Nat.le_of_ble_eq_true rfl⟩ (Nat.le_of_ble_eq_true rfl) ?_
    intro r w hq
    obtain ⟨rfl, rfl⟩ := hq
    first | refine z_istore_4 d_Rows_onWay_5 rfl ?_ | (refine z_forget_3 ?_; refine z_istore_4 d_Rows_onWay_5 rfl ?_)
    refine z_aload_0 d_Rows_onWay_7 ?_
    refine z_getR d_Rows_onWay_8 f_Rows_25 (by assumption) (by assumption) ?_
    refine z_iload_1 d_Rows_onWay_11 ?_
    first | refine z_ialdNv d_Rows_onWay_12 (by assumption) (by omega) (by decide) (by first | assumption | ((try simp (disch := omega) only [zu_same, zu_ne, zcp_ne, zfl_ne]); first | assumption | rfl)) ?_ | refine z_iald d_Rows_onWay_12 (by assumption) (by assumption) ?_
    first | refine z_istore_5 d_Rows_onWay_13 rfl ?_ | (refine z_forget_4 ?_; refine z_istore_5 d_Rows_onWay_13 rfl ?_)
    refine z_aload_0 d_Rows_onWay_15 ?_
    refine z_iload_5 d_Rows_onWay_16 ?_
    refine z_iload_2 d_Rows_onWay_18 ?_
    refine z_iload_4 d_Rows_onWay_19 ?_
    refine z_Si4 d_Rows_onWay_21 k_Rows_35 (t_Rows_distance (by assumption) (by assumption)) ⟨Nat.le_of_ble_eq_true rfl, Nat.le_of_ble_eq_true rfl, Nat.le_of_ble_eq_true rfl, Nat.le_of_ble_eq_true rfl⟩ (Nat.le_of_ble_eq_true rfl) ?_
    intro r w hq
    obtain ⟨rfl, rfl⟩ := hq
    first | refine z_istore_6 d_Rows_onWay_24 rfl ?_ | (refine z_forget_5 ?_; refine z_istore_6 d_Rows_onWay_24 rfl ?_)
    refine z_iload_3 d_Rows_onWay_26 ?_
    refine z_if_lt (tgt := 36) d_Rows_onWay_27 (by decide) (fun h27 => ?_) (fun h27 => ?_)
    · first
      | (simp (disch := omega) only [← nI_0, nI_leI, nI_ltI, nI_eq, not_true_eq_false, not_false_eq_true] at h27; done)
      | (simp (disch := omega) only [← nI_0, nI_leI, nI_ltI, nI_eq, not_true_eq_false, not_false_eq_true] at h27; omega)
      | contradiction
      | exact absurd h27 (Int32.not_lt.mpr (by assumption))
      | exact absurd h27 (Int32.not_le.mpr (by assumption))
      | ( try simp (disch := omega) only [← nI_0, nI_leI, nI_ltI, nI_eq, not_true_eq_false, not_false_eq_true] at h27
          (try have h27b := zbit_n0.mp h27); (try have h27b := zbit_p0.mp h27)
          refine z_iconst (a := -1) d_Rows_onWay_36 (by decide) ?_
          refine z_reti d_Rows_onWay_37 ?_
          exact ⟨rfl, rfl⟩)
    · first
      | (simp (disch := omega) only [← nI_0, nI_leI, nI_ltI, nI_eq, not_true_eq_false, not_false_eq_true] at h27; done)
      | (simp (disch := omega) only [← nI_0, nI_leI, nI_ltI, nI_eq, not_true_eq_false, not_false_eq_true] at h27; omega)
      | contradiction
      | exact absurd h27 (Int32.not_lt.mpr (by assumption))
      | exact absurd h27 (Int32.not_le.mpr (by assumption))
      | ( try simp (disch := omega) only [← nI_0, nI_leI, nI_ltI, nI_eq, not_true_eq_false, not_false_eq_true] at h27
          (try have h27b := zbit_n0.mp h27); (try have h27b := zbit_p0.mp h27)
          refine z_iload_3 d_Rows_onWay_30 ?_
          refine z_iload_6 d_Rows_onWay_31 ?_
          refine z_icmp_le (tgt := 38) d_Rows_onWay_33 (by decide) (fun h33 => ?_) (fun h33 => ?_)
          · first
            | (simp (disch := omega) only [← nI_0, nI_leI, nI_ltI, nI_eq, not_true_eq_false, not_false_eq_true] at h33; done)
            | (simp (disch := omega) only [← nI_0, nI_leI, nI_ltI, nI_eq, not_true_eq_false, not_false_eq_true] at h33; omega)
            | contradiction
            | exact absurd h33 (Int32.not_lt.mpr (by assumption))
            | exact absurd h33 (Int32.not_le.mpr (by assumption))
            | ( try simp (disch := omega) only [← nI_0, nI_leI, nI_ltI, nI_eq, not_true_eq_false, not_false_eq_true] at h33
                (try have h33b := zbit_n0.mp h33); (try have h33b := zbit_p0.mp h33)
                exact absurd hd (Int32.not_lt.mpr (by assumption)))
          · first
            | (simp (disch := omega) only [← nI_0, nI_leI, nI_ltI, nI_eq, not_true_eq_false, not_false_eq_true] at h33; done)
            | (simp (disch := omega) only [← nI_0, nI_leI, nI_ltI, nI_eq, not_true_eq_false, not_false_eq_true] at h33; omega)
            | contradiction
            | exact absurd h33 (Int32.not_lt.mpr (by assumption))
            | exact absurd h33 (Int32.not_le.mpr (by assumption))
            | ( try simp (disch := omega) only [← nI_0, nI_leI, nI_ltI, nI_eq, not_true_eq_false, not_false_eq_true] at h33
                (try have h33b := zbit_n0.mp h33); (try have h33b := zbit_p0.mp h33)
                refine z_iconst (a := -1) d_Rows_onWay_36 (by decide) ?_
                refine z_reti d_Rows_onWay_37 ?_
                exact ⟨rfl, rfl⟩))
/-- the most of some values -/
def s_mx (b : Nat → Bool) (v : Nat → Nat) : Nat → Nat
  | 0 => 0
  | n + 1 => if b n then max (s_mx b v n) (v n) else s_mx b v n
theorem s_mx_le {b : Nat → Bool} {v : Nat → Nat} {M : Nat} (h : ∀ i, v i ≤ M) : ∀ n, s_mx b v n ≤ M := by
  intro n
  induction n with
  | zero => exact Nat.zero_le _
  | succ n ih =>
    rw [s_mx]
    have := h n
    split <;> omega
/-- the most on one row from one on, himself too; d more may come -/
def s_lg (mt : Nat → Int32) (tk : Int32) (np : Nat) : Nat → Nat → Nat → Nat
  | 0, _, _ => 1
  | d + 1, who, seen => if np ≤ pcN seen then 1 else s_mx (zB (mt who &&& tk &&& (nI seen ^^^ -1))) (fun i => s_lg mt tk np d i (seen ||| 2 ^ i)) np + 1
theorem s_lg_le {mt : Nat → Int32} {tk : Int32} {np : Nat} : ∀ d who seen, s_lg mt tk np d who seen ≤ d + 1 := by
  intro d
  induction d with
  | zero => intro who seen; exact Nat.le_refl _
  | succ d ih =>
    intro who seen
    rw [s_lg]
    split
    · omega
    · have := s_mx_le (b := zB (mt who &&& tk &&& (nI seen ^^^ -1))) (v := fun i => s_lg mt tk np d i (seen ||| 2 ^ i)) (M := d + 1) (fun i => ih i _) np
      omega
theorem pc_add : ∀ s, s < 128 → ∀ i, i < 7 → s.testBit i = false → pcN (s ||| 2 ^ i) = pcN s + 1 := by decide +kernel
theorem pc_le : ∀ s, s < 128 → pcN s ≤ 7 := by decide +kernel
theorem or_lt7 {s i : Nat} (hs : s < 128) (hi : i < 7) : s ||| 2 ^ i < 128 := Nat.or_lt_two_pow (n := 7) hs (Nat.pow_lt_pow_right (by decide) hi)
theorem t_Rows_longest (F : fenOk P S f) (N : fenIn I f nt np nl nn) (d : Nat) : ∀ who s : Nat, who < 7 → s < 128 → np ≤ pcN s + d → d ≤ 7 → zEi G y_Rows_longest prog_7_method_8_code 7 (some .int) (d+2) [.ref f, .int (nI who), .int (nI s), .int a] (I, J, P, S) (fun r w => r = nI (s_lg (I (f + 3)) a np d who s) ∧ w = (I, J, P, S)) := by
  obtain ⟨F0, ⟨F8, F8s⟩, ⟨F9, F9s⟩, ⟨F10, F10s⟩, ⟨F11, F11s⟩, ⟨F12, F12s⟩, ⟨F13, F13s⟩, ⟨F14, F14s⟩, ⟨F15, F15s⟩, ⟨F16, F16s⟩, ⟨F17, F17s⟩, ⟨F18, F18s⟩, ⟨F19, F19s⟩, ⟨Y3, Y3s⟩, ⟨Y4, Y4s⟩, ⟨Y5, Y5s⟩, ⟨Y6, Y6s⟩⟩ := id F
  obtain ⟨⟨n1, n1b⟩, ⟨n2, n2b⟩, ⟨n3, n3b⟩, ⟨n4, n4b⟩, nof, non⟩ := id N
  induction d with
  | zero =>
    intro who s hw hs hd hd7
    have hpc := pc_le s hs
    refine zEi_of (lv := [some (.ref f), some (.int (nI who)), some (.int (nI s)), some (.int a), none, none, none]) (by decide) rfl (Nat.le_of_ble_eq_true rfl) ?_
    refine z_iload_2 d_Rows_longest_0 ?_
    refine z_Si1 d_Rows_longest_1 k_Rows_46 (t_JInt_bitCount (by omega)) (by refine ⟨?_, ?_, ?_, ?_⟩ <;> simp only [zRm] <;> omega) (Nat.le_of_ble_eq_true rfl) ?_
    intro r w hq
    obtain ⟨rfl, rfl⟩ := hq
    refine z_aload_0 d_Rows_longest_4 ?_
    refine z_getIv d_Rows_longest_5 f_Rows_28 (by assumption) (by first | assumption | ((try simp (disch := omega) only [zu_same, zu_ne, zcp_ne, zfl_ne]); first | assumption | rfl)) ?_
    refine z_icmp_lt (tgt := 13) d_Rows_longest_8 (by decide) (fun h => absurd ((nI_ltI (by omega) (by omega)).mp h) (by omega)) (fun h => ?_)
    refine z_iconst (a := nI 1) d_Rows_longest_11 (by decide) ?_
    refine z_reti d_Rows_longest_12 ?_
    exact ⟨rfl, rfl⟩
  | succ d ihd =>
    intro who s hw hs hd hd7
    have hpc := pc_le s hs
    refine zEi_of (lv := [some (.ref f), some (.int (nI who)), some (.int (nI s)), some (.int a), none, none, none]) (by decide) rfl (Nat.le_of_ble_eq_true rfl) ?_
    have loop : ∀ m j, np - j < m → j ≤ np → (¬ np ≤ pcN s) → zA G y_Rows_longest prog_7_method_8_code 7 (some .int) (zRm ((d + 1)+2) 0 0) (zM G 0 0 (fun r w' => ∃ x, r = some (.int x) ∧ (fun r w => r = nI (s_lg (I (f + 3)) a np (d + 1) who s) ∧ w = (I, J, P, S)) x w')) 33 [some (.ref f), some (.int (nI who)), some (.int (nI s)), some (.int a), some (.int (nI (s_mx (zB (I (f + 3) who &&& a &&& (nI s ^^^ -1))) (fun i => s_lg (I (f + 3)) a np d i (s ||| 2 ^ i)) j))), some (.int (I (f + 3) who &&& a &&& (nI s ^^^ -1))), some (.int (nI j))] [] (I, J, P, S) 0 0 := by
      intro m
      induction m with
      | zero => intro j h; omega
      | succ m ih =>
        intro j hm hj hc
        have hmx := s_mx_le (b := zB (I (f + 3) who &&& a &&& (nI s ^^^ -1))) (v := fun i => s_lg (I (f + 3)) a np d i (s ||| 2 ^ i)) (M := d + 1) (fun i => s_lg_le _ i _) j
        refine z_iload_6 d_Rows_longest_33 ?_
        refine z_aload_0 d_Rows_longest_35 ?_
        refine z_getIv d_Rows_longest_36 f_Rows_28 (by assumption) (by first | assumption | ((try simp (disch := omega) only [zu_same, zu_ne, zcp_ne, zfl_ne]); first | assumption | rfl)) ?_
        refine z_icmp_ge (tgt := 78) d_Rows_longest_39 (by decide) (fun hb => ?_) (fun hb => ?_)
        · have hb := (nI_leI (by omega) (by omega)).mp hb
          obtain rfl : j = np := by omega
          refine z_iload_4 d_Rows_longest_78 ?_
          refine z_iconst (a := nI 1) d_Rows_longest_80 (by decide) ?_
          first | refine z_iaddN d_Rows_longest_81 ?_ | refine z_iadd d_Rows_longest_81 ?_
          refine z_reti d_Rows_longest_82 ?_
          exact ⟨by rw [s_lg, if_neg hc], rfl⟩
        · have hb : j < np := Nat.lt_of_not_le (fun q => hb (nI_le q (by omega)))
          have q := ih (j + 1) (by omega) (by omega) hc
          rw [s_mx] at q
          refine z_iload_5 d_Rows_longest_42 ?_
          refine z_iload_6 d_Rows_longest_44 ?_
          refine z_ishr d_Rows_longest_46 ?_
          refine z_iconst (a := nI 1) d_Rows_longest_47 (by decide) ?_
          refine z_iand d_Rows_longest_48 ?_
          refine z_if_eq (tgt := 72) d_Rows_longest_49 (by decide) (fun hz => ?_) (fun hz => ?_)
          · rw [if_neg (zbit_n.mp hz)] at q
            first | refine z_iinc_6 d_Rows_longest_72 rfl (zi_inc _) ?_ | refine z_iinc_6 d_Rows_longest_72 rfl rfl ?_
            refine z_goto (tgt := 33) d_Rows_longest_75 (by decide) ?_
            exact q
          · have hz := zbit_p.mp hz
            rw [if_pos hz] at q
            have hzs : s.testBit j = false := by
              have h2 := hz
              rw [zbit, zB_and (by omega), zB_not (by omega), zB_nI (by omega)] at h2
              cases h3 : s.testBit j with
              | false => rfl
              | true => rw [h3] at h2; simp at h2
            have hpa := pc_add s hs j (by omega) hzs
            have hs2 := or_lt7 hs (show j < 7 by omega)
            have hlg := s_lg_le (mt := I (f + 3)) (tk := a) (np := np) d j (s ||| 2 ^ j)
            refine z_iload_4 d_Rows_longest_52 ?_
            refine z_aload_0 d_Rows_longest_54 ?_
            refine z_iload_6 d_Rows_longest_55 ?_
            refine z_iload_2 d_Rows_longest_57 ?_
            refine z_iconst (a := nI 1) d_Rows_longest_58 (by decide) ?_
            refine z_iload_6 d_Rows_longest_59 ?_
            refine z_ishl d_Rows_longest_61 ?_
            refine z_ior d_Rows_longest_62 ?_
            rw [nx_sh j (by omega), nx_or]
            refine z_iload_3 d_Rows_longest_63 ?_
            refine z_Si4 d_Rows_longest_64 k_Rows_43 (ihd j (s ||| 2 ^ j) (by omega) hs2 (by omega) (by omega)) (by refine ⟨?_, ?_, ?_, ?_⟩ <;> simp only [zRm] <;> omega) (Nat.le_of_ble_eq_true rfl) ?_
            intro r w hq
            obtain ⟨rfl, rfl⟩ := hq
            refine z_max d_Rows_longest_67 k_Rows_51.2.1 (by refine ⟨?_, ?_, ?_, ?_⟩ <;> simp only [zRm] <;> omega) (Nat.le_of_ble_eq_true rfl) ?_
            rw [z_maxN (by omega) (by omega)]
            first | refine z_istore_4 d_Rows_longest_70 rfl ?_ | (refine z_forget_3 ?_; refine z_istore_4 d_Rows_longest_70 rfl ?_)
            first | refine z_iinc_6 d_Rows_longest_72 rfl (zi_inc _) ?_ | refine z_iinc_6 d_Rows_longest_72 rfl rfl ?_
            refine z_goto (tgt := 33) d_Rows_longest_75 (by decide) ?_
            exact q
    refine z_iload_2 d_Rows_longest_0 ?_
    refine z_Si1 d_Rows_longest_1 k_Rows_46 (t_JInt_bitCount (by omega)) (by refine ⟨?_, ?_, ?_, ?_⟩ <;> simp only [zRm] <;> omega) (Nat.le_of_ble_eq_true rfl) ?_
    intro r w hq
    obtain ⟨rfl, rfl⟩ := hq
    refine z_aload_0 d_Rows_longest_4 ?_
    refine z_getIv d_Rows_longest_5 f_Rows_28 (by assumption) (by first | assumption | ((try simp (disch := omega) only [zu_same, zu_ne, zcp_ne, zfl_ne]); first | assumption | rfl)) ?_
    refine z_icmp_lt (tgt := 13) d_Rows_longest_8 (by decide) (fun hc => ?_) (fun hc => ?_)
    · have hc := (nI_ltI (by omega) (by omega)).mp hc
      refine z_iconst (a := nI 0) d_Rows_longest_13 (by decide) ?_
      first | refine z_istore_4 d_Rows_longest_14 rfl ?_ | (refine z_forget_3 ?_; refine z_istore_4 d_Rows_longest_14 rfl ?_)
      refine z_aload_0 d_Rows_longest_16 ?_
      refine z_getR d_Rows_longest_17 f_Rows_32 (by assumption) (by assumption) ?_
      refine z_iload_1 d_Rows_longest_20 ?_
      first | refine z_ialdNv d_Rows_longest_21 (by assumption) (by omega) (by decide) (by first | assumption | ((try simp (disch := omega) only [zu_same, zu_ne, zcp_ne, zfl_ne]); first | assumption | rfl)) ?_ | refine z_iald d_Rows_longest_21 (by assumption) (by assumption) ?_
      refine z_iload_3 d_Rows_longest_22 ?_
      refine z_iand d_Rows_longest_23 ?_
      refine z_iload_2 d_Rows_longest_24 ?_
      refine z_iconst (a := -1) d_Rows_longest_25 (by decide) ?_
      refine z_ixor d_Rows_longest_26 ?_
      refine z_iand d_Rows_longest_27 ?_
      first | refine z_istore_5 d_Rows_longest_28 rfl ?_ | (refine z_forget_4 ?_; refine z_istore_5 d_Rows_longest_28 rfl ?_)
      refine z_iconst (a := nI 0) d_Rows_longest_30 (by decide) ?_
      first | refine z_istore_6 d_Rows_longest_31 rfl ?_ | (refine z_forget_5 ?_; refine z_istore_6 d_Rows_longest_31 rfl ?_)
      exact loop (np + 1) 0 (by omega) (by omega) (by omega)
    · have hc : np ≤ pcN s := by
        rcases Nat.lt_or_ge (pcN s) np with h | h
        · exact absurd (nI_lt h (by omega)) hc
        · exact h
      refine z_iconst (a := nI 1) d_Rows_longest_11 (by decide) ?_
      refine z_reti d_Rows_longest_12 ?_
      exact ⟨by rw [s_lg, if_pos hc], rfl⟩
end C6
