/-! the class: small methods -/
section C1
variable {G : zG} {I : Nat → Nat → Int32} {J : Nat → Nat → Int64} {P : Nat → Nat → Option Nat} {S : List (Nat × Nat)} {f fa : Nat} {a b : Int32}
/-- a Fen at an address: its rows stand behind it -/
def fenOk (P : Nat → Nat → Option Nat) (S : List (Nat × Nat)) (f : Nat) : Prop :=
  S[f]? = some (0, 20) ∧ (P f 8 = some (f + 1) ∧ S[f + 1]? = some (100, 6)) ∧ (P f 9 = some (f + 2) ∧ S[f + 2]? = some (100, 7)) ∧ (P f 10 = some (f + 3) ∧ S[f + 3]? = some (100, 7)) ∧ (P f 11 = some (f + 4) ∧ S[f + 4]? = some (100, 7)) ∧ (P f 12 = some (f + 5) ∧ S[f + 5]? = some (100, 9)) ∧ (P f 13 = some (f + 6) ∧ S[f + 6]? = some (100, 9)) ∧ (P f 14 = some (f + 7) ∧ S[f + 7]? = some (100, 9)) ∧ (P f 15 = some (f + 8) ∧ S[f + 8]? = some (100, 9)) ∧ (P f 16 = some (f + 9) ∧ S[f + 9]? = some (101, 6)) ∧ (P f 17 = some (f + 10) ∧ S[f + 10]? = some (101, 7)) ∧ (P f 18 = some (f + 11) ∧ S[f + 11]? = some (101, 9)) ∧ (P f 19 = some (f + 12) ∧ S[f + 12]? = some (9, 7)) ∧ (P (f + 12) 3 = some (f + 13) ∧ S[f + 13]? = some (100, 60)) ∧ (P (f + 12) 4 = some (f + 14) ∧ S[f + 14]? = some (100, 60)) ∧ (P (f + 12) 5 = some (f + 15) ∧ S[f + 15]? = some (100, 60)) ∧ (P (f + 12) 6 = some (f + 16) ∧ S[f + 16]? = some (100, 60))
theorem t_Tf_fail (h0 : S[0]? = some (11, 20)) : zEi G y_Tf_fail prog_1_method_53_code 2 (some .int) 1 [.ref 0, .int a] (I, J, P, S) (fun r w => r = -1 ∧ w = (zu I 0 0 a, J, P, S)) := by
  refine zEi_of (lv := [some (.ref 0), some (.int a)]) (by decide) rfl (Nat.le_of_ble_eq_true rfl) ?_
  refine z_aload_0 d_Tf_fail_0 ?_
  refine z_iload_1 d_Tf_fail_1 ?_
  refine z_putI d_Tf_fail_2 f_Tf_7 (by assumption) ?_
  refine z_iconst (a := -1) d_Tf_fail_5 (by decide) ?_
  refine z_reti d_Tf_fail_6 ?_
  exact ⟨rfl, rfl⟩
theorem t_Tf_give (h0 : S[0]? = some (11, 20)) : zEi G y_Tf_give prog_1_method_54_code 2 (some .int) 1 [.ref 0, .int a] (I, J, P, S) (fun r w => r = a ∧ w = (zu I 0 0 (nI 0), J, P, S)) := by
  refine zEi_of (lv := [some (.ref 0), some (.int a)]) (by decide) rfl (Nat.le_of_ble_eq_true rfl) ?_
  refine z_aload_0 d_Tf_give_0 ?_
  refine z_iconst (a := nI 0) d_Tf_give_1 (by decide) ?_
  refine z_putI d_Tf_give_2 f_Tf_7 (by assumption) ?_
  refine z_iload_1 d_Tf_give_5 ?_
  refine z_reti d_Tf_give_6 ?_
  exact ⟨rfl, rfl⟩
theorem t_Tf_refuse (h0 : S[0]? = some (11, 20)) : zEi G y_Tf_refuse prog_1_method_55_code 2 (some .boolean) 1 [.ref 0, .int a] (I, J, P, S) (fun r w => r = nI 0 ∧ w = (zu I 0 0 a, J, P, S)) := by
  refine zEi_of (lv := [some (.ref 0), some (.int a)]) (by decide) rfl (Nat.le_of_ble_eq_true rfl) ?_
  refine z_aload_0 d_Tf_refuse_0 ?_
  refine z_iload_1 d_Tf_refuse_1 ?_
  refine z_putI d_Tf_refuse_2 f_Tf_7 (by assumption) ?_
  refine z_iconst (a := nI 0) d_Tf_refuse_5 (by decide) ?_
  refine z_retz d_Tf_refuse_6 (by first | exact zb0 | exact zb1 | assumption) ?_
  exact ⟨rfl, rfl⟩
theorem t_Tf_agree (h0 : S[0]? = some (11, 20)) : zEi G y_Tf_agree prog_1_method_56_code 1 (some .boolean) 1 [.ref 0] (I, J, P, S) (fun r w => r = nI 1 ∧ w = (zu I 0 0 (nI 0), J, P, S)) := by
  refine zEi_of (lv := [some (.ref 0)]) (by decide) rfl (Nat.le_of_ble_eq_true rfl) ?_
  refine z_aload_0 d_Tf_agree_0 ?_
  refine z_iconst (a := nI 0) d_Tf_agree_1 (by decide) ?_
  refine z_putI d_Tf_agree_2 f_Tf_7 (by assumption) ?_
  refine z_iconst (a := nI 1) d_Tf_agree_5 (by decide) ?_
  refine z_retz d_Tf_agree_6 (by first | exact zb0 | exact zb1 | assumption) ?_
  exact ⟨rfl, rfl⟩
theorem t_Tf_status (h0 : S[0]? = some (11, 20)) : zEi G y_Tf_status prog_1_method_2_code 1 (some .int) 1 [.ref 0] (I, J, P, S) (fun r w => r = I 0 0 ∧ w = (I, J, P, S)) := by
  refine zEi_of (lv := [some (.ref 0)]) (by decide) rfl (Nat.le_of_ble_eq_true rfl) ?_
  refine z_aload_0 d_Tf_status_0 ?_
  refine z_getIv d_Tf_status_1 f_Tf_7 (by assumption) (by first | assumption | ((try simp (disch := omega) only [zu_same, zu_ne, zcp_ne, zfl_ne]); first | assumption | rfl)) ?_
  refine z_reti d_Tf_status_4 ?_
  exact ⟨rfl, rfl⟩
theorem t_Tf_top (h0 : S[0]? = some (11, 20)) : zEl G y_Tf_top prog_1_method_3_code 1 (some .long) 1 [.ref 0] (I, J, P, S) (fun r w => r = J 0 1 ∧ w = (I, J, P, S)) := by
  refine zEl_of (lv := [some (.ref 0)]) (by decide) rfl (Nat.le_of_ble_eq_true rfl) ?_
  refine z_aload_0 d_Tf_top_0 ?_
  refine z_getJv d_Tf_top_1 f_Tf_13 (by assumption) (by first | assumption | ((try simp (disch := omega) only [zu_same, zu_ne, zcp_ne, zfl_ne]); first | assumption | rfl)) ?_
  refine z_retl d_Tf_top_4 ?_
  exact ⟨rfl, rfl⟩
theorem t_Tf_bottom (h0 : S[0]? = some (11, 20)) : zEl G y_Tf_bottom prog_1_method_4_code 1 (some .long) 1 [.ref 0] (I, J, P, S) (fun r w => r = J 0 2 ∧ w = (I, J, P, S)) := by
  refine zEl_of (lv := [some (.ref 0)]) (by decide) rfl (Nat.le_of_ble_eq_true rfl) ?_
  refine z_aload_0 d_Tf_bottom_0 ?_
  refine z_getJv d_Tf_bottom_1 f_Tf_17 (by assumption) (by first | assumption | ((try simp (disch := omega) only [zu_same, zu_ne, zcp_ne, zfl_ne]); first | assumption | rfl)) ?_
  refine z_retl d_Tf_bottom_4 ?_
  exact ⟨rfl, rfl⟩
theorem t_Tf_noTray_in {j : Nat} (hj : j < 4) : zEi G y_Tf_noTray prog_1_method_57_code 1 (some .boolean) 1 [.int (nI j)] (I, J, P, S) (fun r w => r = nI 0 ∧ w = (I, J, P, S)) := by
  refine zEi_of (lv := [some (.int (nI j))]) (by decide) rfl (Nat.le_of_ble_eq_true rfl) ?_
  refine z_iload_0 d_Tf_noTray_0 ?_
  refine z_if_lt (tgt := 9) d_Tf_noTray_1 (by decide) (fun h1 => ?_) (fun h1 => ?_)
  · first
    | (simp (disch := omega) only [← nI_0, nI_leI, nI_ltI, nI_eq, not_true_eq_false, not_false_eq_true] at h1; done)
    | (simp (disch := omega) only [← nI_0, nI_leI, nI_ltI, nI_eq, not_true_eq_false, not_false_eq_true] at h1; omega)
    | contradiction
    | exact absurd h1 (Int32.not_lt.mpr (by assumption))
    | exact absurd h1 (Int32.not_le.mpr (by assumption))
    | ( try simp (disch := omega) only [← nI_0, nI_leI, nI_ltI, nI_eq, not_true_eq_false, not_false_eq_true] at h1
        (try have h1b := zbit_n0.mp h1); (try have h1b := zbit_p0.mp h1)
        refine z_iconst (a := nI 1) d_Tf_noTray_9 (by decide) ?_
        refine z_goto (tgt := 14) d_Tf_noTray_10 (by decide) ?_
        refine z_retz d_Tf_noTray_14 (by first | exact zb0 | exact zb1 | assumption) ?_
        exact ⟨rfl, rfl⟩)
  · first
    | (simp (disch := omega) only [← nI_0, nI_leI, nI_ltI, nI_eq, not_true_eq_false, not_false_eq_true] at h1; done)
    | (simp (disch := omega) only [← nI_0, nI_leI, nI_ltI, nI_eq, not_true_eq_false, not_false_eq_true] at h1; omega)
    | contradiction
    | exact absurd h1 (Int32.not_lt.mpr (by assumption))
    | exact absurd h1 (Int32.not_le.mpr (by assumption))
    | ( try simp (disch := omega) only [← nI_0, nI_leI, nI_ltI, nI_eq, not_true_eq_false, not_false_eq_true] at h1
        (try have h1b := zbit_n0.mp h1); (try have h1b := zbit_p0.mp h1)
        refine z_iload_0 d_Tf_noTray_4 ?_
        refine z_iconst (a := nI 4) d_Tf_noTray_5 (by decide) ?_
        refine z_icmp_lt (tgt := 13) d_Tf_noTray_6 (by decide) (fun h6 => ?_) (fun h6 => ?_)
        · first
          | (simp (disch := omega) only [← nI_0, nI_leI, nI_ltI, nI_eq, not_true_eq_false, not_false_eq_true] at h6; done)
          | (simp (disch := omega) only [← nI_0, nI_leI, nI_ltI, nI_eq, not_true_eq_false, not_false_eq_true] at h6; omega)
          | contradiction
          | exact absurd h6 (Int32.not_lt.mpr (by assumption))
          | exact absurd h6 (Int32.not_le.mpr (by assumption))
          | ( try simp (disch := omega) only [← nI_0, nI_leI, nI_ltI, nI_eq, not_true_eq_false, not_false_eq_true] at h6
              (try have h6b := zbit_n0.mp h6); (try have h6b := zbit_p0.mp h6)
              refine z_iconst (a := nI 0) d_Tf_noTray_13 (by decide) ?_
              refine z_retz d_Tf_noTray_14 (by first | exact zb0 | exact zb1 | assumption) ?_
              exact ⟨rfl, rfl⟩)
        · first
          | (simp (disch := omega) only [← nI_0, nI_leI, nI_ltI, nI_eq, not_true_eq_false, not_false_eq_true] at h6; done)
          | (simp (disch := omega) only [← nI_0, nI_leI, nI_ltI, nI_eq, not_true_eq_false, not_false_eq_true] at h6; omega)
          | contradiction
          | exact absurd h6 (Int32.not_lt.mpr (by assumption))
          | exact absurd h6 (Int32.not_le.mpr (by assumption))
          | ( try simp (disch := omega) only [← nI_0, nI_leI, nI_ltI, nI_eq, not_true_eq_false, not_false_eq_true] at h6
              (try have h6b := zbit_n0.mp h6); (try have h6b := zbit_p0.mp h6)
              refine z_iconst (a := nI 1) d_Tf_noTray_9 (by decide) ?_
              refine z_goto (tgt := 14) d_Tf_noTray_10 (by decide) ?_
              refine z_retz d_Tf_noTray_14 (by first | exact zb0 | exact zb1 | assumption) ?_
              exact ⟨rfl, rfl⟩))
/-- a number below n -/
def zin (a : Int32) (n : Nat) : Prop := ∃ j, j < n ∧ a = nI j
theorem zin_or (a : Int32) (n : Nat) (hn : n < 2 ^ 31) : (a < 0 ∨ nI n ≤ a) ∧ ¬ zin a n ∨ zin a n := by
  rcases pk_ix a hn with h | h | h
  · left
    refine ⟨Or.inl h, ?_⟩
    rintro ⟨j, hj, rfl⟩
    exact nI_pos (by omega) h
  · left
    refine ⟨Or.inr h, ?_⟩
    rintro ⟨j, hj, rfl⟩
    exact nI_ge hj hn h
  · exact Or.inr h
theorem t_Tf_noTray_out (h : a < 0 ∨ nI 4 ≤ a) : zEi G y_Tf_noTray prog_1_method_57_code 1 (some .boolean) 1 [.int a] (I, J, P, S) (fun r w => r = nI 1 ∧ w = (I, J, P, S)) := by
  refine zEi_of (lv := [some (.int a)]) (by decide) rfl (Nat.le_of_ble_eq_true rfl) ?_
  rcases h with h | h
  · refine z_iload_0 d_Tf_noTray_0 ?_
    refine z_if_lt (tgt := 9) d_Tf_noTray_1 (by decide) (fun h1 => ?_) (fun h1 => ?_)
    · first
      | (simp (disch := omega) only [← nI_0, nI_leI, nI_ltI, nI_eq, not_true_eq_false, not_false_eq_true] at h1; done)
      | (simp (disch := omega) only [← nI_0, nI_leI, nI_ltI, nI_eq, not_true_eq_false, not_false_eq_true] at h1; omega)
      | contradiction
      | exact absurd h1 (Int32.not_lt.mpr (by assumption))
      | exact absurd h1 (Int32.not_le.mpr (by assumption))
      | ( try simp (disch := omega) only [← nI_0, nI_leI, nI_ltI, nI_eq, not_true_eq_false, not_false_eq_true] at h1
          (try have h1b := zbit_n0.mp h1); (try have h1b := zbit_p0.mp h1)
          refine z_iconst (a := nI 1) d_Tf_noTray_9 (by decide) ?_
          refine z_goto (tgt := 14) d_Tf_noTray_10 (by decide) ?_
          refine z_retz d_Tf_noTray_14 (by first | exact zb0 | exact zb1 | assumption) ?_
          exact ⟨rfl, rfl⟩)
    · first
      | (simp (disch := omega) only [← nI_0, nI_leI, nI_ltI, nI_eq, not_true_eq_false, not_false_eq_true] at h1; done)
      | (simp (disch := omega) only [← nI_0, nI_leI, nI_ltI, nI_eq, not_true_eq_false, not_false_eq_true] at h1; omega)
      | contradiction
      | exact absurd h1 (Int32.not_lt.mpr (by assumption))
      | exact absurd h1 (Int32.not_le.mpr (by assumption))
      | ( try simp (disch := omega) only [← nI_0, nI_leI, nI_ltI, nI_eq, not_true_eq_false, not_false_eq_true] at h1
          (try have h1b := zbit_n0.mp h1); (try have h1b := zbit_p0.mp h1)
          refine z_iload_0 d_Tf_noTray_4 ?_
          refine z_iconst (a := nI 4) d_Tf_noTray_5 (by decide) ?_
          refine z_icmp_lt (tgt := 13) d_Tf_noTray_6 (by decide) (fun h6 => ?_) (fun h6 => ?_)
          · first
            | (simp (disch := omega) only [← nI_0, nI_leI, nI_ltI, nI_eq, not_true_eq_false, not_false_eq_true] at h6; done)
            | (simp (disch := omega) only [← nI_0, nI_leI, nI_ltI, nI_eq, not_true_eq_false, not_false_eq_true] at h6; omega)
            | contradiction
            | exact absurd h6 (Int32.not_lt.mpr (by assumption))
            | exact absurd h6 (Int32.not_le.mpr (by assumption))
            | ( try simp (disch := omega) only [← nI_0, nI_leI, nI_ltI, nI_eq, not_true_eq_false, not_false_eq_true] at h6
                (try have h6b := zbit_n0.mp h6); (try have h6b := zbit_p0.mp h6)
                refine z_iconst (a := nI 0) d_Tf_noTray_13 (by decide) ?_
                refine z_retz d_Tf_noTray_14 (by first | exact zb0 | exact zb1 | assumption) ?_
                exact ⟨rfl, rfl⟩)
          · first
            | (simp (disch := omega) only [← nI_0, nI_leI, nI_ltI, nI_eq, not_true_eq_false, not_false_eq_true] at h6; done)
            | (simp (disch := omega) only [← nI_0, nI_leI, nI_ltI, nI_eq, not_true_eq_false, not_false_eq_true] at h6; omega)
            | contradiction
            | exact absurd h6 (Int32.not_lt.mpr (by assumption))
            | exact absurd h6 (Int32.not_le.mpr (by assumption))
            | ( try simp (disch := omega) only [← nI_0, nI_leI, nI_ltI, nI_eq, not_true_eq_false, not_false_eq_true] at h6
                (try have h6b := zbit_n0.mp h6); (try have h6b := zbit_p0.mp h6)
                refine z_iconst (a := nI 1) d_Tf_noTray_9 (by decide) ?_
                refine z_goto (tgt := 14) d_Tf_noTray_10 (by decide) ?_
                refine z_retz d_Tf_noTray_14 (by first | exact zb0 | exact zb1 | assumption) ?_
                exact ⟨rfl, rfl⟩))
  · refine z_iload_0 d_Tf_noTray_0 ?_
    refine z_if_lt (tgt := 9) d_Tf_noTray_1 (by decide) (fun h1 => ?_) (fun h1 => ?_)
    · first
      | (simp (disch := omega) only [← nI_0, nI_leI, nI_ltI, nI_eq, not_true_eq_false, not_false_eq_true] at h1; done)
      | (simp (disch := omega) only [← nI_0, nI_leI, nI_ltI, nI_eq, not_true_eq_false, not_false_eq_true] at h1; omega)
      | contradiction
      | exact absurd h1 (Int32.not_lt.mpr (by assumption))
      | exact absurd h1 (Int32.not_le.mpr (by assumption))
      | ( try simp (disch := omega) only [← nI_0, nI_leI, nI_ltI, nI_eq, not_true_eq_false, not_false_eq_true] at h1
          (try have h1b := zbit_n0.mp h1); (try have h1b := zbit_p0.mp h1)
          refine z_iconst (a := nI 1) d_Tf_noTray_9 (by decide) ?_
          refine z_goto (tgt := 14) d_Tf_noTray_10 (by decide) ?_
          refine z_retz d_Tf_noTray_14 (by first | exact zb0 | exact zb1 | assumption) ?_
          exact ⟨rfl, rfl⟩)
    · first
      | (simp (disch := omega) only [← nI_0, nI_leI, nI_ltI, nI_eq, not_true_eq_false, not_false_eq_true] at h1; done)
      | (simp (disch := omega) only [← nI_0, nI_leI, nI_ltI, nI_eq, not_true_eq_false, not_false_eq_true] at h1; omega)
      | contradiction
      | exact absurd h1 (Int32.not_lt.mpr (by assumption))
      | exact absurd h1 (Int32.not_le.mpr (by assumption))
      | ( try simp (disch := omega) only [← nI_0, nI_leI, nI_ltI, nI_eq, not_true_eq_false, not_false_eq_true] at h1
          (try have h1b := zbit_n0.mp h1); (try have h1b := zbit_p0.mp h1)
          refine z_iload_0 d_Tf_noTray_4 ?_
          refine z_iconst (a := nI 4) d_Tf_noTray_5 (by decide) ?_
          refine z_icmp_lt (tgt := 13) d_Tf_noTray_6 (by decide) (fun h6 => ?_) (fun h6 => ?_)
          · first
            | (simp (disch := omega) only [← nI_0, nI_leI, nI_ltI, nI_eq, not_true_eq_false, not_false_eq_true] at h6; done)
            | (simp (disch := omega) only [← nI_0, nI_leI, nI_ltI, nI_eq, not_true_eq_false, not_false_eq_true] at h6; omega)
            | contradiction
            | exact absurd h6 (Int32.not_lt.mpr (by assumption))
            | exact absurd h6 (Int32.not_le.mpr (by assumption))
            | ( try simp (disch := omega) only [← nI_0, nI_leI, nI_ltI, nI_eq, not_true_eq_false, not_false_eq_true] at h6
                (try have h6b := zbit_n0.mp h6); (try have h6b := zbit_p0.mp h6)
                refine z_iconst (a := nI 0) d_Tf_noTray_13 (by decide) ?_
                refine z_retz d_Tf_noTray_14 (by first | exact zb0 | exact zb1 | assumption) ?_
                exact ⟨rfl, rfl⟩)
          · first
            | (simp (disch := omega) only [← nI_0, nI_leI, nI_ltI, nI_eq, not_true_eq_false, not_false_eq_true] at h6; done)
            | (simp (disch := omega) only [← nI_0, nI_leI, nI_ltI, nI_eq, not_true_eq_false, not_false_eq_true] at h6; omega)
            | contradiction
            | exact absurd h6 (Int32.not_lt.mpr (by assumption))
            | exact absurd h6 (Int32.not_le.mpr (by assumption))
            | ( try simp (disch := omega) only [← nI_0, nI_leI, nI_ltI, nI_eq, not_true_eq_false, not_false_eq_true] at h6
                (try have h6b := zbit_n0.mp h6); (try have h6b := zbit_p0.mp h6)
                refine z_iconst (a := nI 1) d_Tf_noTray_9 (by decide) ?_
                refine z_goto (tgt := 14) d_Tf_noTray_10 (by decide) ?_
                refine z_retz d_Tf_noTray_14 (by first | exact zb0 | exact zb1 | assumption) ?_
                exact ⟨rfl, rfl⟩))
end C1
