/-! the reference: small methods -/
section M1
variable {G : zG} {I : Nat → Nat → Int32} {J : Nat → Nat → Int64} {P : Nat → Nat → Option Nat} {S : List (Nat × Nat)} {a b : Int32} {x lo hi : Int64}
/-- the reference at 145, its rows behind it -/
def modOk (P : Nat → Nat → Option Nat) (S : List (Nat × Nat)) : Prop :=
  S[145]? = some (12, 47) ∧ (P 145 4 = some 146 ∧ S[146]? = some (100, 4)) ∧ (P 145 5 = some 147 ∧ S[147]? = some (100, 4)) ∧ (P 145 6 = some 148 ∧ S[148]? = some (101, 240)) ∧ (P 145 7 = some 149 ∧ S[149]? = some (102, 900)) ∧ (P 145 20 = some 150 ∧ S[150]? = some (100, 1795)) ∧ (P 145 21 = some 151 ∧ S[151]? = some (100, 87)) ∧ (P 145 22 = some 152 ∧ S[152]? = some (101, 110)) ∧ (P 145 26 = some 153 ∧ S[153]? = some (100, 7)) ∧ (P 145 27 = some 154 ∧ S[154]? = some (100, 7)) ∧ (P 145 28 = some 155 ∧ S[155]? = some (100, 7)) ∧ (P 145 30 = some 156 ∧ S[156]? = some (100, 128)) ∧ (P 145 34 = some 157 ∧ S[157]? = some (103, 64)) ∧ (P 145 36 = some 158 ∧ S[158]? = some (101, 10)) ∧ (P 145 37 = some 159 ∧ S[159]? = some (100, 5))
theorem t_Mo_status (M : modOk P S) : zEi G y_Mo_status prog_14_method_3_code 1 (some .int) 1 [.ref 145] (I, J, P, S) (fun r w => r = I 145 0 ∧ w = (zu I 145 1 (nI 0), J, P, S)) := by
  obtain ⟨h0, -⟩ := M
  refine zEi_of (lv := [some (.ref 145)]) (by decide) rfl (Nat.le_of_ble_eq_true rfl) ?_
  refine z_aload_0 d_Mo_status_0 ?_
  refine z_iconst (a := nI 0) d_Mo_status_1 (by decide) ?_
  refine z_putI d_Mo_status_2 f_Mo_70 (by assumption) ?_
  refine z_aload_0 d_Mo_status_5 ?_
  refine z_getIv d_Mo_status_6 f_Mo_73 (by assumption) (by first | assumption | ((try simp (disch := omega) only [zu_same, zu_ne, zcp_ne, zfl_ne]); first | assumption | rfl)) ?_
  refine z_reti d_Mo_status_9 ?_
  exact ⟨rfl, rfl⟩
theorem t_Mo_top (M : modOk P S) : zEl G y_Mo_top prog_14_method_4_code 1 (some .long) 1 [.ref 145] (I, J, P, S) (fun r w => r = J 145 2 ∧ w = (zu I 145 1 (nI 0), J, P, S)) := by
  obtain ⟨h0, -⟩ := M
  refine zEl_of (lv := [some (.ref 145)]) (by decide) rfl (Nat.le_of_ble_eq_true rfl) ?_
  refine z_aload_0 d_Mo_top_0 ?_
  refine z_iconst (a := nI 0) d_Mo_top_1 (by decide) ?_
  refine z_putI d_Mo_top_2 f_Mo_70 (by assumption) ?_
  refine z_aload_0 d_Mo_top_5 ?_
  refine z_getJv d_Mo_top_6 f_Mo_76 (by assumption) (by first | assumption | ((try simp (disch := omega) only [zu_same, zu_ne, zcp_ne, zfl_ne]); first | assumption | rfl)) ?_
  refine z_retl d_Mo_top_9 ?_
  exact ⟨rfl, rfl⟩
theorem t_Mo_bottom (M : modOk P S) : zEl G y_Mo_bottom prog_14_method_5_code 1 (some .long) 1 [.ref 145] (I, J, P, S) (fun r w => r = J 145 3 ∧ w = (zu I 145 1 (nI 0), J, P, S)) := by
  obtain ⟨h0, -⟩ := M
  refine zEl_of (lv := [some (.ref 145)]) (by decide) rfl (Nat.le_of_ble_eq_true rfl) ?_
  refine z_aload_0 d_Mo_bottom_0 ?_
  refine z_iconst (a := nI 0) d_Mo_bottom_1 (by decide) ?_
  refine z_putI d_Mo_bottom_2 f_Mo_70 (by assumption) ?_
  refine z_aload_0 d_Mo_bottom_5 ?_
  refine z_getJv d_Mo_bottom_6 f_Mo_7 (by assumption) (by first | assumption | ((try simp (disch := omega) only [zu_same, zu_ne, zcp_ne, zfl_ne]); first | assumption | rfl)) ?_
  refine z_retl d_Mo_bottom_9 ?_
  exact ⟨rfl, rfl⟩
theorem t_Mo_refuse (M : modOk P S) : zEi G y_Mo_refuse prog_14_method_6_code 2 (some .int) 1 [.ref 145, .int a] (I, J, P, S) (fun r w => r = -1 ∧ w = (zu I 145 0 a, J, P, S)) := by
  obtain ⟨h0, -⟩ := M
  refine zEi_of (lv := [some (.ref 145), some (.int a)]) (by decide) rfl (Nat.le_of_ble_eq_true rfl) ?_
  refine z_aload_0 d_Mo_refuse_0 ?_
  refine z_iload_1 d_Mo_refuse_1 ?_
  refine z_putI d_Mo_refuse_2 f_Mo_73 (by assumption) ?_
  refine z_iconst (a := -1) d_Mo_refuse_5 (by decide) ?_
  refine z_reti d_Mo_refuse_6 ?_
  exact ⟨rfl, rfl⟩
theorem t_Mo_no (M : modOk P S) : zEi G y_Mo_no prog_14_method_7_code 2 (some .boolean) 1 [.ref 145, .int a] (I, J, P, S) (fun r w => r = nI 0 ∧ w = (zu I 145 0 a, J, P, S)) := by
  obtain ⟨h0, -⟩ := M
  refine zEi_of (lv := [some (.ref 145), some (.int a)]) (by decide) rfl (Nat.le_of_ble_eq_true rfl) ?_
  refine z_aload_0 d_Mo_no_0 ?_
  refine z_iload_1 d_Mo_no_1 ?_
  refine z_putI d_Mo_no_2 f_Mo_73 (by assumption) ?_
  refine z_iconst (a := nI 0) d_Mo_no_5 (by decide) ?_
  refine z_retz d_Mo_no_6 (by first | exact zb0 | exact zb1 | assumption) ?_
  exact ⟨rfl, rfl⟩
theorem t_Mo_isIn : zEi G y_Mo_isIn prog_14_method_8_code 6 (some .boolean) 1 [.long x, .long lo, .long hi] (I, J, P, S) (fun r w => ((lo ≤ x ∧ x ≤ hi) ∧ r = nI 1 ∨ ¬ (lo ≤ x ∧ x ≤ hi) ∧ r = nI 0) ∧ w = (I, J, P, S)) := by
  refine zEi_of (lv := [some (.long x), none, some (.long lo), none, some (.long hi), none]) (by decide) rfl (Nat.le_of_ble_eq_true rfl) ?_
  refine z_lload_0 d_Mo_isIn_0 ?_
  refine z_lload_2 d_Mo_isIn_1 ?_
  refine z_lcmp d_Mo_isIn_2 ?_
  refine z_if_lt (tgt := 17) d_Mo_isIn_3 (by decide) (fun h3 => ?_) (fun h3 => ?_)
  · first
    | (simp (disch := omega) only [← nI_0, nI_leI, nI_ltI, nI_eq, not_true_eq_false, not_false_eq_true] at h3; done)
    | (simp (disch := omega) only [← nI_0, nI_leI, nI_ltI, nI_eq, not_true_eq_false, not_false_eq_true] at h3; omega)
    | contradiction
    | exact absurd h3 (Int32.not_lt.mpr (by assumption))
    | exact absurd h3 (Int32.not_le.mpr (by assumption))
    | ( try simp (disch := omega) only [← nI_0, nI_leI, nI_ltI, nI_eq, not_true_eq_false, not_false_eq_true] at h3
        (try have h3b := zbit_n0.mp h3); (try have h3b := zbit_p0.mp h3)
        refine z_iconst (a := nI 0) d_Mo_isIn_17 (by decide) ?_
        refine z_retz d_Mo_isIn_18 (by first | exact zb0 | exact zb1 | assumption) ?_
        first | exact ⟨Or.inl ⟨⟨(lg_cmp_ge _ _).mp (by first | assumption | exact Int32.not_lt.mp (by assumption)), (lg_cmp_le _ _).mp (by first | assumption | exact Int32.not_lt.mp (by assumption))⟩, rfl⟩, rfl⟩ | exact ⟨Or.inr ⟨fun q => by first | exact absurd ((lg_cmp_ge _ _).mpr q.1) (Int32.not_le.mpr (by assumption)) | exact absurd ((lg_cmp_le _ _).mpr q.2) (Int32.not_le.mpr (by assumption)), rfl⟩, rfl⟩)
  · first
    | (simp (disch := omega) only [← nI_0, nI_leI, nI_ltI, nI_eq, not_true_eq_false, not_false_eq_true] at h3; done)
    | (simp (disch := omega) only [← nI_0, nI_leI, nI_ltI, nI_eq, not_true_eq_false, not_false_eq_true] at h3; omega)
    | contradiction
    | exact absurd h3 (Int32.not_lt.mpr (by assumption))
    | exact absurd h3 (Int32.not_le.mpr (by assumption))
    | ( try simp (disch := omega) only [← nI_0, nI_leI, nI_ltI, nI_eq, not_true_eq_false, not_false_eq_true] at h3
        (try have h3b := zbit_n0.mp h3); (try have h3b := zbit_p0.mp h3)
        refine z_lload_0 d_Mo_isIn_6 ?_
        refine z_lload_4 d_Mo_isIn_7 ?_
        refine z_lcmp d_Mo_isIn_9 ?_
        refine z_if_gt (tgt := 17) d_Mo_isIn_10 (by decide) (fun h10 => ?_) (fun h10 => ?_)
        · first
          | (simp (disch := omega) only [← nI_0, nI_leI, nI_ltI, nI_eq, not_true_eq_false, not_false_eq_true] at h10; done)
          | (simp (disch := omega) only [← nI_0, nI_leI, nI_ltI, nI_eq, not_true_eq_false, not_false_eq_true] at h10; omega)
          | contradiction
          | exact absurd h10 (Int32.not_lt.mpr (by assumption))
          | exact absurd h10 (Int32.not_le.mpr (by assumption))
          | ( try simp (disch := omega) only [← nI_0, nI_leI, nI_ltI, nI_eq, not_true_eq_false, not_false_eq_true] at h10
              (try have h10b := zbit_n0.mp h10); (try have h10b := zbit_p0.mp h10)
              refine z_iconst (a := nI 0) d_Mo_isIn_17 (by decide) ?_
              refine z_retz d_Mo_isIn_18 (by first | exact zb0 | exact zb1 | assumption) ?_
              first | exact ⟨Or.inl ⟨⟨(lg_cmp_ge _ _).mp (by first | assumption | exact Int32.not_lt.mp (by assumption)), (lg_cmp_le _ _).mp (by first | assumption | exact Int32.not_lt.mp (by assumption))⟩, rfl⟩, rfl⟩ | exact ⟨Or.inr ⟨fun q => by first | exact absurd ((lg_cmp_ge _ _).mpr q.1) (Int32.not_le.mpr (by assumption)) | exact absurd ((lg_cmp_le _ _).mpr q.2) (Int32.not_le.mpr (by assumption)), rfl⟩, rfl⟩)
        · first
          | (simp (disch := omega) only [← nI_0, nI_leI, nI_ltI, nI_eq, not_true_eq_false, not_false_eq_true] at h10; done)
          | (simp (disch := omega) only [← nI_0, nI_leI, nI_ltI, nI_eq, not_true_eq_false, not_false_eq_true] at h10; omega)
          | contradiction
          | exact absurd h10 (Int32.not_lt.mpr (by assumption))
          | exact absurd h10 (Int32.not_le.mpr (by assumption))
          | ( try simp (disch := omega) only [← nI_0, nI_leI, nI_ltI, nI_eq, not_true_eq_false, not_false_eq_true] at h10
              (try have h10b := zbit_n0.mp h10); (try have h10b := zbit_p0.mp h10)
              refine z_iconst (a := nI 1) d_Mo_isIn_13 (by decide) ?_
              refine z_goto (tgt := 18) d_Mo_isIn_14 (by decide) ?_
              refine z_retz d_Mo_isIn_18 (by first | exact zb0 | exact zb1 | assumption) ?_
              first | exact ⟨Or.inl ⟨⟨(lg_cmp_ge _ _).mp (by first | assumption | exact Int32.not_lt.mp (by assumption)), (lg_cmp_le _ _).mp (by first | assumption | exact Int32.not_lt.mp (by assumption))⟩, rfl⟩, rfl⟩ | exact ⟨Or.inr ⟨fun q => by first | exact absurd ((lg_cmp_ge _ _).mpr q.1) (Int32.not_le.mpr (by assumption)) | exact absurd ((lg_cmp_le _ _).mpr q.2) (Int32.not_le.mpr (by assumption)), rfl⟩, rfl⟩))
theorem t_Mo_has {t : Nat} : zEi G y_Mo_has prog_14_method_19_code 2 (some .boolean) 1 [.int a, .int (nI t)] (I, J, P, S) (fun r w => (zbit a t ∧ r = nI 1 ∨ ¬ zbit a t ∧ r = nI 0) ∧ w = (I, J, P, S)) := by
  refine zEi_of (lv := [some (.int a), some (.int (nI t))]) (by decide) rfl (Nat.le_of_ble_eq_true rfl) ?_
  refine z_iload_0 d_Mo_has_0 ?_
  refine z_iload_1 d_Mo_has_1 ?_
  refine z_ishr d_Mo_has_2 ?_
  refine z_iconst (a := nI 1) d_Mo_has_3 (by decide) ?_
  refine z_iand d_Mo_has_4 ?_
  refine z_iconst (a := nI 1) d_Mo_has_5 (by decide) ?_
  refine z_icmp_ne (tgt := 13) d_Mo_has_6 (by decide) (fun h6 => ?_) (fun h6 => ?_)
  · first
    | (simp (disch := omega) only [← nI_0, nI_leI, nI_ltI, nI_eq, not_true_eq_false, not_false_eq_true] at h6; done)
    | (simp (disch := omega) only [← nI_0, nI_leI, nI_ltI, nI_eq, not_true_eq_false, not_false_eq_true] at h6; omega)
    | contradiction
    | exact absurd h6 (Int32.not_lt.mpr (by assumption))
    | exact absurd h6 (Int32.not_le.mpr (by assumption))
    | ( try simp (disch := omega) only [← nI_0, nI_leI, nI_ltI, nI_eq, not_true_eq_false, not_false_eq_true] at h6
        (try have h6b := zbit_n0.mp h6); (try have h6b := zbit_p0.mp h6)
        refine z_iconst (a := nI 0) d_Mo_has_13 (by decide) ?_
        refine z_retz d_Mo_has_14 (by first | exact zb0 | exact zb1 | assumption) ?_
        first | exact ⟨Or.inl ⟨zbit_i.mp (by assumption), rfl⟩, rfl⟩ | exact ⟨Or.inr ⟨fun q => absurd (zbit_i.mpr q) (by assumption), rfl⟩, rfl⟩)
  · first
    | (simp (disch := omega) only [← nI_0, nI_leI, nI_ltI, nI_eq, not_true_eq_false, not_false_eq_true] at h6; done)
    | (simp (disch := omega) only [← nI_0, nI_leI, nI_ltI, nI_eq, not_true_eq_false, not_false_eq_true] at h6; omega)
    | contradiction
    | exact absurd h6 (Int32.not_lt.mpr (by assumption))
    | exact absurd h6 (Int32.not_le.mpr (by assumption))
    | ( try simp (disch := omega) only [← nI_0, nI_leI, nI_ltI, nI_eq, not_true_eq_false, not_false_eq_true] at h6
        (try have h6b := zbit_n0.mp h6); (try have h6b := zbit_p0.mp h6)
        refine z_iconst (a := nI 1) d_Mo_has_9 (by decide) ?_
        refine z_goto (tgt := 14) d_Mo_has_10 (by decide) ?_
        refine z_retz d_Mo_has_14 (by first | exact zb0 | exact zb1 | assumption) ?_
        first | exact ⟨Or.inl ⟨zbit_i.mp (by assumption), rfl⟩, rfl⟩ | exact ⟨Or.inr ⟨fun q => absurd (zbit_i.mpr q) (by assumption), rfl⟩, rfl⟩)
end M1
