/-! the reference: words, faults, what is taken -/
section MT2
variable {G : zG} {I : Nat → Nat → Int32} {J : Nat → Nat → Int64} {P : Nat → Nat → Option Nat} {S : List (Nat × Nat)} {L : Nat} {a b : Int32} {T : Nat → Int32} {K : Nat → Int64} {t : tk} {z : Nat}
/-- the reference reads a text, this token stands, nothing was bad -/
def moC (T : Nat → Int32) (K : Nat → Int64) (L z : Nat) (I : Nat → Nat → Int32) (J : Nat → Nat → Int64) (P : Nat → Nat → Option Nat) (S : List (Nat × Nat)) (t : tk) : Prop := modOk P S ∧ (I 145 9 = nI L ∧ L ≤ 900) ∧ ((∀ k, k < 900 → I 149 k = T k) ∧ bytOk T ∧ ∀ i, i < 21 → K i = zKw i) ∧ moAt I J t ∧ tkP K t ∧ ten t ≤ L ∧ I 145 12 = nI z
def moN (T : Nat → Int32) (K : Nat → Int64) (L z : Nat) (I : Nat → Nat → Int32) (J : Nat → Nat → Int64) (P : Nat → Nat → Option Nat) (S : List (Nat × Nat)) (t : tk) (w : zW) : Prop := ∃ I' J', w = (I', J', P, S) ∧ mF I I' ∧ mJ J J' ∧ moC T K L z I' J' P S t
theorem m_adv (C : moC T K L z I J P S t) : zEv G y_Mo_advance prog_14_method_25_code 2 2 0 0 [.ref 145] (I, J, P, S) (fun w => moN T K L z I J P S (tA T L K t) w) := by
  obtain ⟨M, ⟨h9, hL⟩, ⟨hT, hB, hK⟩, hA, hP, hE, h12⟩ := C
  refine zEv_mono (t_Mo_advance (K := K) M h9 hL hT hB hA.2.2.1 hE) ?_
  rintro w ⟨I', J', rfl, h4, h5, h6⟩
  have h7 := s_tok_st T L K (ten t) hE
  exact ⟨I', J', rfl, h4, h5, M, ⟨(h4.2 9 (by omega)).trans h9, hL⟩, ⟨fun k hk => by rw [h4.1 149 (by decide)]; exact hT k hk, hB, hK⟩, h6, s_tok_P hB L K _ hE, h7.2.2.2.1, (h4.2 12 (by omega)).trans h12⟩
def s_sp1 (w : Int64) (x : Int32) : Int64 := if x ≤ nI 0 then w else w * 32 + x.toInt64 - 96
def s_sp (p q r s t u : Int32) : Int64 := s_sp1 (s_sp1 (s_sp1 (s_sp1 ((p.toInt64 - 96) * 32 + q.toInt64 - 96) r) s) t) u
theorem t_Mo_spelled {c d e f : Int32} : zEl G y_Mo_spelled prog_14_method_27_code 8 (some .long) 1 [.int a, .int b, .int c, .int d, .int e, .int f] (I, J, P, S) (fun r w => r = s_sp a b c d e f ∧ w = (I, J, P, S)) := by
  refine zEl_of (lv := [some (.int a), some (.int b), some (.int c), some (.int d), some (.int e), some (.int f), none, none]) (by decide) rfl (Nat.le_of_ble_eq_true rfl) ?_
  refine z_iload_0 d_Mo_spelled_0 ?_
  refine z_i2l d_Mo_spelled_1 ?_
  refine z_ldc2 d_Mo_spelled_2 c_Mo_136 ?_
  refine z_lsub d_Mo_spelled_5 ?_
  refine z_ldc2 d_Mo_spelled_6 c_Mo_134 ?_
  refine z_lmul d_Mo_spelled_9 ?_
  refine z_iload_1 d_Mo_spelled_10 ?_
  refine z_i2l d_Mo_spelled_11 ?_
  refine z_ladd d_Mo_spelled_12 ?_
  refine z_ldc2 d_Mo_spelled_13 c_Mo_136 ?_
  refine z_lsub d_Mo_spelled_16 ?_
  first | refine z_lstore_6 d_Mo_spelled_17 rfl ?_ | (refine z_forget_5 ?_; refine z_lstore_6 d_Mo_spelled_17 rfl ?_)
  refine z_iload_2 d_Mo_spelled_19 ?_
  refine z_if_le (tgt := 39) d_Mo_spelled_20 (by decide) (fun h20 => ?_) (fun h20 => ?_)
  · first
    | (simp (disch := omega) only [← nI_0, nI_leI, nI_ltI, nI_eq, not_true_eq_false, not_false_eq_true] at h20; done)
    | (simp (disch := omega) only [← nI_0, nI_leI, nI_ltI, nI_eq, not_true_eq_false, not_false_eq_true] at h20; omega)
    | contradiction
    | exact absurd h20 (Int32.not_lt.mpr (by assumption))
    | exact absurd h20 (Int32.not_le.mpr (by assumption))
    | exact absurd h20 (by decide)
    | exact absurd (by decide) h20
    | ( try simp (disch := omega) only [← nI_0, nI_leI, nI_ltI, nI_eq, not_true_eq_false, not_false_eq_true] at h20
        refine z_lload_6 d_Mo_spelled_39 ?_
        first | refine z_lstore_6 d_Mo_spelled_41 rfl ?_ | (refine z_forget_5 ?_; refine z_lstore_6 d_Mo_spelled_41 rfl ?_)
        refine z_iload_3 d_Mo_spelled_43 ?_
        refine z_if_le (tgt := 63) d_Mo_spelled_44 (by decide) (fun h44 => ?_) (fun h44 => ?_)
        · first
          | (simp (disch := omega) only [← nI_0, nI_leI, nI_ltI, nI_eq, not_true_eq_false, not_false_eq_true] at h44; done)
          | (simp (disch := omega) only [← nI_0, nI_leI, nI_ltI, nI_eq, not_true_eq_false, not_false_eq_true] at h44; omega)
          | contradiction
          | exact absurd h44 (Int32.not_lt.mpr (by assumption))
          | exact absurd h44 (Int32.not_le.mpr (by assumption))
          | exact absurd h44 (by decide)
          | exact absurd (by decide) h44
          | ( try simp (disch := omega) only [← nI_0, nI_leI, nI_ltI, nI_eq, not_true_eq_false, not_false_eq_true] at h44
              refine z_lload_6 d_Mo_spelled_63 ?_
              first | refine z_lstore_6 d_Mo_spelled_65 rfl ?_ | (refine z_forget_5 ?_; refine z_lstore_6 d_Mo_spelled_65 rfl ?_)
              refine z_iload_4 d_Mo_spelled_67 ?_
              refine z_if_le (tgt := 89) d_Mo_spelled_69 (by decide) (fun h69 => ?_) (fun h69 => ?_)
              · first
                | (simp (disch := omega) only [← nI_0, nI_leI, nI_ltI, nI_eq, not_true_eq_false, not_false_eq_true] at h69; done)
                | (simp (disch := omega) only [← nI_0, nI_leI, nI_ltI, nI_eq, not_true_eq_false, not_false_eq_true] at h69; omega)
                | contradiction
                | exact absurd h69 (Int32.not_lt.mpr (by assumption))
                | exact absurd h69 (Int32.not_le.mpr (by assumption))
                | exact absurd h69 (by decide)
                | exact absurd (by decide) h69
                | ( try simp (disch := omega) only [← nI_0, nI_leI, nI_ltI, nI_eq, not_true_eq_false, not_false_eq_true] at h69
                    refine z_lload_6 d_Mo_spelled_89 ?_
                    first | refine z_lstore_6 d_Mo_spelled_91 rfl ?_ | (refine z_forget_5 ?_; refine z_lstore_6 d_Mo_spelled_91 rfl ?_)
                    refine z_iload_5 d_Mo_spelled_93 ?_
                    refine z_if_le (tgt := 115) d_Mo_spelled_95 (by decide) (fun h95 => ?_) (fun h95 => ?_)
                    · first
                      | (simp (disch := omega) only [← nI_0, nI_leI, nI_ltI, nI_eq, not_true_eq_false, not_false_eq_true] at h95; done)
                      | (simp (disch := omega) only [← nI_0, nI_leI, nI_ltI, nI_eq, not_true_eq_false, not_false_eq_true] at h95; omega)
                      | contradiction
                      | exact absurd h95 (Int32.not_lt.mpr (by assumption))
                      | exact absurd h95 (Int32.not_le.mpr (by assumption))
                      | exact absurd h95 (by decide)
                      | exact absurd (by decide) h95
                      | ( try simp (disch := omega) only [← nI_0, nI_leI, nI_ltI, nI_eq, not_true_eq_false, not_false_eq_true] at h95
                          refine z_lload_6 d_Mo_spelled_115 ?_
                          refine z_retl d_Mo_spelled_117 ?_
                          exact ⟨by unfold s_sp s_sp1; simp only [*, if_true, if_false], rfl⟩)
                    · first
                      | (simp (disch := omega) only [← nI_0, nI_leI, nI_ltI, nI_eq, not_true_eq_false, not_false_eq_true] at h95; done)
                      | (simp (disch := omega) only [← nI_0, nI_leI, nI_ltI, nI_eq, not_true_eq_false, not_false_eq_true] at h95; omega)
                      | contradiction
                      | exact absurd h95 (Int32.not_lt.mpr (by assumption))
                      | exact absurd h95 (Int32.not_le.mpr (by assumption))
                      | exact absurd h95 (by decide)
                      | exact absurd (by decide) h95
                      | ( try simp (disch := omega) only [← nI_0, nI_leI, nI_ltI, nI_eq, not_true_eq_false, not_false_eq_true] at h95
                          refine z_lload_6 d_Mo_spelled_98 ?_
                          refine z_ldc2 d_Mo_spelled_100 c_Mo_134 ?_
                          refine z_lmul d_Mo_spelled_103 ?_
                          refine z_iload_5 d_Mo_spelled_104 ?_
                          refine z_i2l d_Mo_spelled_106 ?_
                          refine z_ladd d_Mo_spelled_107 ?_
                          refine z_ldc2 d_Mo_spelled_108 c_Mo_136 ?_
                          refine z_lsub d_Mo_spelled_111 ?_
                          refine z_goto (tgt := 117) d_Mo_spelled_112 (by decide) ?_
                          refine z_retl d_Mo_spelled_117 ?_
                          exact ⟨by unfold s_sp s_sp1; simp only [*, if_true, if_false], rfl⟩))
              · first
                | (simp (disch := omega) only [← nI_0, nI_leI, nI_ltI, nI_eq, not_true_eq_false, not_false_eq_true] at h69; done)
                | (simp (disch := omega) only [← nI_0, nI_leI, nI_ltI, nI_eq, not_true_eq_false, not_false_eq_true] at h69; omega)
                | contradiction
                | exact absurd h69 (Int32.not_lt.mpr (by assumption))
                | exact absurd h69 (Int32.not_le.mpr (by assumption))
                | exact absurd h69 (by decide)
                | exact absurd (by decide) h69
                | ( try simp (disch := omega) only [← nI_0, nI_leI, nI_ltI, nI_eq, not_true_eq_false, not_false_eq_true] at h69
                    refine z_lload_6 d_Mo_spelled_72 ?_
                    refine z_ldc2 d_Mo_spelled_74 c_Mo_134 ?_
                    refine z_lmul d_Mo_spelled_77 ?_
                    refine z_iload_4 d_Mo_spelled_78 ?_
                    refine z_i2l d_Mo_spelled_80 ?_
                    refine z_ladd d_Mo_spelled_81 ?_
                    refine z_ldc2 d_Mo_spelled_82 c_Mo_136 ?_
                    refine z_lsub d_Mo_spelled_85 ?_
                    refine z_goto (tgt := 91) d_Mo_spelled_86 (by decide) ?_
                    first | refine z_lstore_6 d_Mo_spelled_91 rfl ?_ | (refine z_forget_5 ?_; refine z_lstore_6 d_Mo_spelled_91 rfl ?_)
                    refine z_iload_5 d_Mo_spelled_93 ?_
                    refine z_if_le (tgt := 115) d_Mo_spelled_95 (by decide) (fun h95 => ?_) (fun h95 => ?_)
                    · first
                      | (simp (disch := omega) only [← nI_0, nI_leI, nI_ltI, nI_eq, not_true_eq_false, not_false_eq_true] at h95; done)
                      | (simp (disch := omega) only [← nI_0, nI_leI, nI_ltI, nI_eq, not_true_eq_false, not_false_eq_true] at h95; omega)
                      | contradiction
                      | exact absurd h95 (Int32.not_lt.mpr (by assumption))
                      | exact absurd h95 (Int32.not_le.mpr (by assumption))
                      | exact absurd h95 (by decide)
                      | exact absurd (by decide) h95
                      | ( try simp (disch := omega) only [← nI_0, nI_leI, nI_ltI, nI_eq, not_true_eq_false, not_false_eq_true] at h95
                          refine z_lload_6 d_Mo_spelled_115 ?_
                          refine z_retl d_Mo_spelled_117 ?_
                          exact ⟨by unfold s_sp s_sp1; simp only [*, if_true, if_false], rfl⟩)
                    · first
                      | (simp (disch := omega) only [← nI_0, nI_leI, nI_ltI, nI_eq, not_true_eq_false, not_false_eq_true] at h95; done)
                      | (simp (disch := omega) only [← nI_0, nI_leI, nI_ltI, nI_eq, not_true_eq_false, not_false_eq_true] at h95; omega)
                      | contradiction
                      | exact absurd h95 (Int32.not_lt.mpr (by assumption))
                      | exact absurd h95 (Int32.not_le.mpr (by assumption))
                      | exact absurd h95 (by decide)
                      | exact absurd (by decide) h95
                      | ( try simp (disch := omega) only [← nI_0, nI_leI, nI_ltI, nI_eq, not_true_eq_false, not_false_eq_true] at h95
                          refine z_lload_6 d_Mo_spelled_98 ?_
                          refine z_ldc2 d_Mo_spelled_100 c_Mo_134 ?_
                          refine z_lmul d_Mo_spelled_103 ?_
                          refine z_iload_5 d_Mo_spelled_104 ?_
                          refine z_i2l d_Mo_spelled_106 ?_
                          refine z_ladd d_Mo_spelled_107 ?_
                          refine z_ldc2 d_Mo_spelled_108 c_Mo_136 ?_
                          refine z_lsub d_Mo_spelled_111 ?_
                          refine z_goto (tgt := 117) d_Mo_spelled_112 (by decide) ?_
                          refine z_retl d_Mo_spelled_117 ?_
                          exact ⟨by unfold s_sp s_sp1; simp only [*, if_true, if_false], rfl⟩)))
        · first
          | (simp (disch := omega) only [← nI_0, nI_leI, nI_ltI, nI_eq, not_true_eq_false, not_false_eq_true] at h44; done)
          | (simp (disch := omega) only [← nI_0, nI_leI, nI_ltI, nI_eq, not_true_eq_false, not_false_eq_true] at h44; omega)
          | contradiction
          | exact absurd h44 (Int32.not_lt.mpr (by assumption))
          | exact absurd h44 (Int32.not_le.mpr (by assumption))
          | exact absurd h44 (by decide)
          | exact absurd (by decide) h44
          | ( try simp (disch := omega) only [← nI_0, nI_leI, nI_ltI, nI_eq, not_true_eq_false, not_false_eq_true] at h44
              refine z_lload_6 d_Mo_spelled_47 ?_
              refine z_ldc2 d_Mo_spelled_49 c_Mo_134 ?_
              refine z_lmul d_Mo_spelled_52 ?_
              refine z_iload_3 d_Mo_spelled_53 ?_
              refine z_i2l d_Mo_spelled_54 ?_
              refine z_ladd d_Mo_spelled_55 ?_
              refine z_ldc2 d_Mo_spelled_56 c_Mo_136 ?_
              refine z_lsub d_Mo_spelled_59 ?_
              refine z_goto (tgt := 65) d_Mo_spelled_60 (by decide) ?_
              first | refine z_lstore_6 d_Mo_spelled_65 rfl ?_ | (refine z_forget_5 ?_; refine z_lstore_6 d_Mo_spelled_65 rfl ?_)
              refine z_iload_4 d_Mo_spelled_67 ?_
              refine z_if_le (tgt := 89) d_Mo_spelled_69 (by decide) (fun h69 => ?_) (fun h69 => ?_)
              · first
                | (simp (disch := omega) only [← nI_0, nI_leI, nI_ltI, nI_eq, not_true_eq_false, not_false_eq_true] at h69; done)
                | (simp (disch := omega) only [← nI_0, nI_leI, nI_ltI, nI_eq, not_true_eq_false, not_false_eq_true] at h69; omega)
                | contradiction
                | exact absurd h69 (Int32.not_lt.mpr (by assumption))
                | exact absurd h69 (Int32.not_le.mpr (by assumption))
                | exact absurd h69 (by decide)
                | exact absurd (by decide) h69
                | ( try simp (disch := omega) only [← nI_0, nI_leI, nI_ltI, nI_eq, not_true_eq_false, not_false_eq_true] at h69
                    refine z_lload_6 d_Mo_spelled_89 ?_
                    first | refine z_lstore_6 d_Mo_spelled_91 rfl ?_ | (refine z_forget_5 ?_; refine z_lstore_6 d_Mo_spelled_91 rfl ?_)
                    refine z_iload_5 d_Mo_spelled_93 ?_
                    refine z_if_le (tgt := 115) d_Mo_spelled_95 (by decide) (fun h95 => ?_) (fun h95 => ?_)
                    · first
                      | (simp (disch := omega) only [← nI_0, nI_leI, nI_ltI, nI_eq, not_true_eq_false, not_false_eq_true] at h95; done)
                      | (simp (disch := omega) only [← nI_0, nI_leI, nI_ltI, nI_eq, not_true_eq_false, not_false_eq_true] at h95; omega)
                      | contradiction
                      | exact absurd h95 (Int32.not_lt.mpr (by assumption))
                      | exact absurd h95 (Int32.not_le.mpr (by assumption))
                      | exact absurd h95 (by decide)
                      | exact absurd (by decide) h95
                      | ( try simp (disch := omega) only [← nI_0, nI_leI, nI_ltI, nI_eq, not_true_eq_false, not_false_eq_true] at h95
                          refine z_lload_6 d_Mo_spelled_115 ?_
                          refine z_retl d_Mo_spelled_117 ?_
                          exact ⟨by unfold s_sp s_sp1; simp only [*, if_true, if_false], rfl⟩)
                    · first
                      | (simp (disch := omega) only [← nI_0, nI_leI, nI_ltI, nI_eq, not_true_eq_false, not_false_eq_true] at h95; done)
                      | (simp (disch := omega) only [← nI_0, nI_leI, nI_ltI, nI_eq, not_true_eq_false, not_false_eq_true] at h95; omega)
                      | contradiction
                      | exact absurd h95 (Int32.not_lt.mpr (by assumption))
                      | exact absurd h95 (Int32.not_le.mpr (by assumption))
                      | exact absurd h95 (by decide)
                      | exact absurd (by decide) h95
                      | ( try simp (disch := omega) only [← nI_0, nI_leI, nI_ltI, nI_eq, not_true_eq_false, not_false_eq_true] at h95
                          refine z_lload_6 d_Mo_spelled_98 ?_
                          refine z_ldc2 d_Mo_spelled_100 c_Mo_134 ?_
                          refine z_lmul d_Mo_spelled_103 ?_
                          refine z_iload_5 d_Mo_spelled_104 ?_
                          refine z_i2l d_Mo_spelled_106 ?_
                          refine z_ladd d_Mo_spelled_107 ?_
                          refine z_ldc2 d_Mo_spelled_108 c_Mo_136 ?_
                          refine z_lsub d_Mo_spelled_111 ?_
                          refine z_goto (tgt := 117) d_Mo_spelled_112 (by decide) ?_
                          refine z_retl d_Mo_spelled_117 ?_
                          exact ⟨by unfold s_sp s_sp1; simp only [*, if_true, if_false], rfl⟩))
              · first
                | (simp (disch := omega) only [← nI_0, nI_leI, nI_ltI, nI_eq, not_true_eq_false, not_false_eq_true] at h69; done)
                | (simp (disch := omega) only [← nI_0, nI_leI, nI_ltI, nI_eq, not_true_eq_false, not_false_eq_true] at h69; omega)
                | contradiction
                | exact absurd h69 (Int32.not_lt.mpr (by assumption))
                | exact absurd h69 (Int32.not_le.mpr (by assumption))
                | exact absurd h69 (by decide)
                | exact absurd (by decide) h69
                | ( try simp (disch := omega) only [← nI_0, nI_leI, nI_ltI, nI_eq, not_true_eq_false, not_false_eq_true] at h69
                    refine z_lload_6 d_Mo_spelled_72 ?_
                    refine z_ldc2 d_Mo_spelled_74 c_Mo_134 ?_
                    refine z_lmul d_Mo_spelled_77 ?_
                    refine z_iload_4 d_Mo_spelled_78 ?_
                    refine z_i2l d_Mo_spelled_80 ?_
                    refine z_ladd d_Mo_spelled_81 ?_
                    refine z_ldc2 d_Mo_spelled_82 c_Mo_136 ?_
                    refine z_lsub d_Mo_spelled_85 ?_
                    refine z_goto (tgt := 91) d_Mo_spelled_86 (by decide) ?_
                    first | refine z_lstore_6 d_Mo_spelled_91 rfl ?_ | (refine z_forget_5 ?_; refine z_lstore_6 d_Mo_spelled_91 rfl ?_)
                    refine z_iload_5 d_Mo_spelled_93 ?_
                    refine z_if_le (tgt := 115) d_Mo_spelled_95 (by decide) (fun h95 => ?_) (fun h95 => ?_)
                    · first
                      | (simp (disch := omega) only [← nI_0, nI_leI, nI_ltI, nI_eq, not_true_eq_false, not_false_eq_true] at h95; done)
                      | (simp (disch := omega) only [← nI_0, nI_leI, nI_ltI, nI_eq, not_true_eq_false, not_false_eq_true] at h95; omega)
                      | contradiction
                      | exact absurd h95 (Int32.not_lt.mpr (by assumption))
                      | exact absurd h95 (Int32.not_le.mpr (by assumption))
                      | exact absurd h95 (by decide)
                      | exact absurd (by decide) h95
                      | ( try simp (disch := omega) only [← nI_0, nI_leI, nI_ltI, nI_eq, not_true_eq_false, not_false_eq_true] at h95
                          refine z_lload_6 d_Mo_spelled_115 ?_
                          refine z_retl d_Mo_spelled_117 ?_
                          exact ⟨by unfold s_sp s_sp1; simp only [*, if_true, if_false], rfl⟩)
                    · first
                      | (simp (disch := omega) only [← nI_0, nI_leI, nI_ltI, nI_eq, not_true_eq_false, not_false_eq_true] at h95; done)
                      | (simp (disch := omega) only [← nI_0, nI_leI, nI_ltI, nI_eq, not_true_eq_false, not_false_eq_true] at h95; omega)
                      | contradiction
                      | exact absurd h95 (Int32.not_lt.mpr (by assumption))
                      | exact absurd h95 (Int32.not_le.mpr (by assumption))
                      | exact absurd h95 (by decide)
                      | exact absurd (by decide) h95
                      | ( try simp (disch := omega) only [← nI_0, nI_leI, nI_ltI, nI_eq, not_true_eq_false, not_false_eq_true] at h95
                          refine z_lload_6 d_Mo_spelled_98 ?_
                          refine z_ldc2 d_Mo_spelled_100 c_Mo_134 ?_
                          refine z_lmul d_Mo_spelled_103 ?_
                          refine z_iload_5 d_Mo_spelled_104 ?_
                          refine z_i2l d_Mo_spelled_106 ?_
                          refine z_ladd d_Mo_spelled_107 ?_
                          refine z_ldc2 d_Mo_spelled_108 c_Mo_136 ?_
                          refine z_lsub d_Mo_spelled_111 ?_
                          refine z_goto (tgt := 117) d_Mo_spelled_112 (by decide) ?_
                          refine z_retl d_Mo_spelled_117 ?_
                          exact ⟨by unfold s_sp s_sp1; simp only [*, if_true, if_false], rfl⟩))))
  · first
    | (simp (disch := omega) only [← nI_0, nI_leI, nI_ltI, nI_eq, not_true_eq_false, not_false_eq_true] at h20; done)
    | (simp (disch := omega) only [← nI_0, nI_leI, nI_ltI, nI_eq, not_true_eq_false, not_false_eq_true] at h20; omega)
    | contradiction
    | exact absurd h20 (Int32.not_lt.mpr (by assumption))
    | exact absurd h20 (Int32.not_le.mpr (by assumption))
    | exact absurd h20 (by decide)
    | exact absurd (by decide) h20
    | ( try simp (disch := omega) only [← nI_0, nI_leI, nI_ltI, nI_eq, not_true_eq_false, not_false_eq_true] at h20
        refine z_lload_6 d_Mo_spelled_23 ?_
        refine z_ldc2 d_Mo_spelled_25 c_Mo_134 ?_
        refine z_lmul d_Mo_spelled_28 ?_
        refine z_iload_2 d_Mo_spelled_29 ?_
        refine z_i2l d_Mo_spelled_30 ?_
        refine z_ladd d_Mo_spelled_31 ?_
        refine z_ldc2 d_Mo_spelled_32 c_Mo_136 ?_
        refine z_lsub d_Mo_spelled_35 ?_
        refine z_goto (tgt := 41) d_Mo_spelled_36 (by decide) ?_
        first | refine z_lstore_6 d_Mo_spelled_41 rfl ?_ | (refine z_forget_5 ?_; refine z_lstore_6 d_Mo_spelled_41 rfl ?_)
        refine z_iload_3 d_Mo_spelled_43 ?_
        refine z_if_le (tgt := 63) d_Mo_spelled_44 (by decide) (fun h44 => ?_) (fun h44 => ?_)
        · first
          | (simp (disch := omega) only [← nI_0, nI_leI, nI_ltI, nI_eq, not_true_eq_false, not_false_eq_true] at h44; done)
          | (simp (disch := omega) only [← nI_0, nI_leI, nI_ltI, nI_eq, not_true_eq_false, not_false_eq_true] at h44; omega)
          | contradiction
          | exact absurd h44 (Int32.not_lt.mpr (by assumption))
          | exact absurd h44 (Int32.not_le.mpr (by assumption))
          | exact absurd h44 (by decide)
          | exact absurd (by decide) h44
          | ( try simp (disch := omega) only [← nI_0, nI_leI, nI_ltI, nI_eq, not_true_eq_false, not_false_eq_true] at h44
              refine z_lload_6 d_Mo_spelled_63 ?_
              first | refine z_lstore_6 d_Mo_spelled_65 rfl ?_ | (refine z_forget_5 ?_; refine z_lstore_6 d_Mo_spelled_65 rfl ?_)
              refine z_iload_4 d_Mo_spelled_67 ?_
              refine z_if_le (tgt := 89) d_Mo_spelled_69 (by decide) (fun h69 => ?_) (fun h69 => ?_)
              · first
                | (simp (disch := omega) only [← nI_0, nI_leI, nI_ltI, nI_eq, not_true_eq_false, not_false_eq_true] at h69; done)
                | (simp (disch := omega) only [← nI_0, nI_leI, nI_ltI, nI_eq, not_true_eq_false, not_false_eq_true] at h69; omega)
                | contradiction
                | exact absurd h69 (Int32.not_lt.mpr (by assumption))
                | exact absurd h69 (Int32.not_le.mpr (by assumption))
                | exact absurd h69 (by decide)
                | exact absurd (by decide) h69
                | ( try simp (disch := omega) only [← nI_0, nI_leI, nI_ltI, nI_eq, not_true_eq_false, not_false_eq_true] at h69
                    refine z_lload_6 d_Mo_spelled_89 ?_
                    first | refine z_lstore_6 d_Mo_spelled_91 rfl ?_ | (refine z_forget_5 ?_; refine z_lstore_6 d_Mo_spelled_91 rfl ?_)
                    refine z_iload_5 d_Mo_spelled_93 ?_
                    refine z_if_le (tgt := 115) d_Mo_spelled_95 (by decide) (fun h95 => ?_) (fun h95 => ?_)
                    · first
                      | (simp (disch := omega) only [← nI_0, nI_leI, nI_ltI, nI_eq, not_true_eq_false, not_false_eq_true] at h95; done)
                      | (simp (disch := omega) only [← nI_0, nI_leI, nI_ltI, nI_eq, not_true_eq_false, not_false_eq_true] at h95; omega)
                      | contradiction
                      | exact absurd h95 (Int32.not_lt.mpr (by assumption))
                      | exact absurd h95 (Int32.not_le.mpr (by assumption))
                      | exact absurd h95 (by decide)
                      | exact absurd (by decide) h95
                      | ( try simp (disch := omega) only [← nI_0, nI_leI, nI_ltI, nI_eq, not_true_eq_false, not_false_eq_true] at h95
                          refine z_lload_6 d_Mo_spelled_115 ?_
                          refine z_retl d_Mo_spelled_117 ?_
                          exact ⟨by unfold s_sp s_sp1; simp only [*, if_true, if_false], rfl⟩)
                    · first
                      | (simp (disch := omega) only [← nI_0, nI_leI, nI_ltI, nI_eq, not_true_eq_false, not_false_eq_true] at h95; done)
                      | (simp (disch := omega) only [← nI_0, nI_leI, nI_ltI, nI_eq, not_true_eq_false, not_false_eq_true] at h95; omega)
                      | contradiction
                      | exact absurd h95 (Int32.not_lt.mpr (by assumption))
                      | exact absurd h95 (Int32.not_le.mpr (by assumption))
                      | exact absurd h95 (by decide)
                      | exact absurd (by decide) h95
                      | ( try simp (disch := omega) only [← nI_0, nI_leI, nI_ltI, nI_eq, not_true_eq_false, not_false_eq_true] at h95
                          refine z_lload_6 d_Mo_spelled_98 ?_
                          refine z_ldc2 d_Mo_spelled_100 c_Mo_134 ?_
                          refine z_lmul d_Mo_spelled_103 ?_
                          refine z_iload_5 d_Mo_spelled_104 ?_
                          refine z_i2l d_Mo_spelled_106 ?_
                          refine z_ladd d_Mo_spelled_107 ?_
                          refine z_ldc2 d_Mo_spelled_108 c_Mo_136 ?_
                          refine z_lsub d_Mo_spelled_111 ?_
                          refine z_goto (tgt := 117) d_Mo_spelled_112 (by decide) ?_
                          refine z_retl d_Mo_spelled_117 ?_
                          exact ⟨by unfold s_sp s_sp1; simp only [*, if_true, if_false], rfl⟩))
              · first
                | (simp (disch := omega) only [← nI_0, nI_leI, nI_ltI, nI_eq, not_true_eq_false, not_false_eq_true] at h69; done)
                | (simp (disch := omega) only [← nI_0, nI_leI, nI_ltI, nI_eq, not_true_eq_false, not_false_eq_true] at h69; omega)
                | contradiction
                | exact absurd h69 (Int32.not_lt.mpr (by assumption))
                | exact absurd h69 (Int32.not_le.mpr (by assumption))
                | exact absurd h69 (by decide)
                | exact absurd (by decide) h69
                | ( try simp (disch := omega) only [← nI_0, nI_leI, nI_ltI, nI_eq, not_true_eq_false, not_false_eq_true] at h69
                    refine z_lload_6 d_Mo_spelled_72 ?_
                    refine z_ldc2 d_Mo_spelled_74 c_Mo_134 ?_
                    refine z_lmul d_Mo_spelled_77 ?_
                    refine z_iload_4 d_Mo_spelled_78 ?_
                    refine z_i2l d_Mo_spelled_80 ?_
                    refine z_ladd d_Mo_spelled_81 ?_
                    refine z_ldc2 d_Mo_spelled_82 c_Mo_136 ?_
                    refine z_lsub d_Mo_spelled_85 ?_
                    refine z_goto (tgt := 91) d_Mo_spelled_86 (by decide) ?_
                    first | refine z_lstore_6 d_Mo_spelled_91 rfl ?_ | (refine z_forget_5 ?_; refine z_lstore_6 d_Mo_spelled_91 rfl ?_)
                    refine z_iload_5 d_Mo_spelled_93 ?_
                    refine z_if_le (tgt := 115) d_Mo_spelled_95 (by decide) (fun h95 => ?_) (fun h95 => ?_)
                    · first
                      | (simp (disch := omega) only [← nI_0, nI_leI, nI_ltI, nI_eq, not_true_eq_false, not_false_eq_true] at h95; done)
                      | (simp (disch := omega) only [← nI_0, nI_leI, nI_ltI, nI_eq, not_true_eq_false, not_false_eq_true] at h95; omega)
                      | contradiction
                      | exact absurd h95 (Int32.not_lt.mpr (by assumption))
                      | exact absurd h95 (Int32.not_le.mpr (by assumption))
                      | exact absurd h95 (by decide)
                      | exact absurd (by decide) h95
                      | ( try simp (disch := omega) only [← nI_0, nI_leI, nI_ltI, nI_eq, not_true_eq_false, not_false_eq_true] at h95
                          refine z_lload_6 d_Mo_spelled_115 ?_
                          refine z_retl d_Mo_spelled_117 ?_
                          exact ⟨by unfold s_sp s_sp1; simp only [*, if_true, if_false], rfl⟩)
                    · first
                      | (simp (disch := omega) only [← nI_0, nI_leI, nI_ltI, nI_eq, not_true_eq_false, not_false_eq_true] at h95; done)
                      | (simp (disch := omega) only [← nI_0, nI_leI, nI_ltI, nI_eq, not_true_eq_false, not_false_eq_true] at h95; omega)
                      | contradiction
                      | exact absurd h95 (Int32.not_lt.mpr (by assumption))
                      | exact absurd h95 (Int32.not_le.mpr (by assumption))
                      | exact absurd h95 (by decide)
                      | exact absurd (by decide) h95
                      | ( try simp (disch := omega) only [← nI_0, nI_leI, nI_ltI, nI_eq, not_true_eq_false, not_false_eq_true] at h95
                          refine z_lload_6 d_Mo_spelled_98 ?_
                          refine z_ldc2 d_Mo_spelled_100 c_Mo_134 ?_
                          refine z_lmul d_Mo_spelled_103 ?_
                          refine z_iload_5 d_Mo_spelled_104 ?_
                          refine z_i2l d_Mo_spelled_106 ?_
                          refine z_ladd d_Mo_spelled_107 ?_
                          refine z_ldc2 d_Mo_spelled_108 c_Mo_136 ?_
                          refine z_lsub d_Mo_spelled_111 ?_
                          refine z_goto (tgt := 117) d_Mo_spelled_112 (by decide) ?_
                          refine z_retl d_Mo_spelled_117 ?_
                          exact ⟨by unfold s_sp s_sp1; simp only [*, if_true, if_false], rfl⟩)))
        · first
          | (simp (disch := omega) only [← nI_0, nI_leI, nI_ltI, nI_eq, not_true_eq_false, not_false_eq_true] at h44; done)
          | (simp (disch := omega) only [← nI_0, nI_leI, nI_ltI, nI_eq, not_true_eq_false, not_false_eq_true] at h44; omega)
          | contradiction
          | exact absurd h44 (Int32.not_lt.mpr (by assumption))
          | exact absurd h44 (Int32.not_le.mpr (by assumption))
          | exact absurd h44 (by decide)
          | exact absurd (by decide) h44
          | ( try simp (disch := omega) only [← nI_0, nI_leI, nI_ltI, nI_eq, not_true_eq_false, not_false_eq_true] at h44
              refine z_lload_6 d_Mo_spelled_47 ?_
              refine z_ldc2 d_Mo_spelled_49 c_Mo_134 ?_
              refine z_lmul d_Mo_spelled_52 ?_
              refine z_iload_3 d_Mo_spelled_53 ?_
              refine z_i2l d_Mo_spelled_54 ?_
              refine z_ladd d_Mo_spelled_55 ?_
              refine z_ldc2 d_Mo_spelled_56 c_Mo_136 ?_
              refine z_lsub d_Mo_spelled_59 ?_
              refine z_goto (tgt := 65) d_Mo_spelled_60 (by decide) ?_
              first | refine z_lstore_6 d_Mo_spelled_65 rfl ?_ | (refine z_forget_5 ?_; refine z_lstore_6 d_Mo_spelled_65 rfl ?_)
              refine z_iload_4 d_Mo_spelled_67 ?_
              refine z_if_le (tgt := 89) d_Mo_spelled_69 (by decide) (fun h69 => ?_) (fun h69 => ?_)
              · first
                | (simp (disch := omega) only [← nI_0, nI_leI, nI_ltI, nI_eq, not_true_eq_false, not_false_eq_true] at h69; done)
                | (simp (disch := omega) only [← nI_0, nI_leI, nI_ltI, nI_eq, not_true_eq_false, not_false_eq_true] at h69; omega)
                | contradiction
                | exact absurd h69 (Int32.not_lt.mpr (by assumption))
                | exact absurd h69 (Int32.not_le.mpr (by assumption))
                | exact absurd h69 (by decide)
                | exact absurd (by decide) h69
                | ( try simp (disch := omega) only [← nI_0, nI_leI, nI_ltI, nI_eq, not_true_eq_false, not_false_eq_true] at h69
                    refine z_lload_6 d_Mo_spelled_89 ?_
                    first | refine z_lstore_6 d_Mo_spelled_91 rfl ?_ | (refine z_forget_5 ?_; refine z_lstore_6 d_Mo_spelled_91 rfl ?_)
                    refine z_iload_5 d_Mo_spelled_93 ?_
                    refine z_if_le (tgt := 115) d_Mo_spelled_95 (by decide) (fun h95 => ?_) (fun h95 => ?_)
                    · first
                      | (simp (disch := omega) only [← nI_0, nI_leI, nI_ltI, nI_eq, not_true_eq_false, not_false_eq_true] at h95; done)
                      | (simp (disch := omega) only [← nI_0, nI_leI, nI_ltI, nI_eq, not_true_eq_false, not_false_eq_true] at h95; omega)
                      | contradiction
                      | exact absurd h95 (Int32.not_lt.mpr (by assumption))
                      | exact absurd h95 (Int32.not_le.mpr (by assumption))
                      | exact absurd h95 (by decide)
                      | exact absurd (by decide) h95
                      | ( try simp (disch := omega) only [← nI_0, nI_leI, nI_ltI, nI_eq, not_true_eq_false, not_false_eq_true] at h95
                          refine z_lload_6 d_Mo_spelled_115 ?_
                          refine z_retl d_Mo_spelled_117 ?_
                          exact ⟨by unfold s_sp s_sp1; simp only [*, if_true, if_false], rfl⟩)
                    · first
                      | (simp (disch := omega) only [← nI_0, nI_leI, nI_ltI, nI_eq, not_true_eq_false, not_false_eq_true] at h95; done)
                      | (simp (disch := omega) only [← nI_0, nI_leI, nI_ltI, nI_eq, not_true_eq_false, not_false_eq_true] at h95; omega)
                      | contradiction
                      | exact absurd h95 (Int32.not_lt.mpr (by assumption))
                      | exact absurd h95 (Int32.not_le.mpr (by assumption))
                      | exact absurd h95 (by decide)
                      | exact absurd (by decide) h95
                      | ( try simp (disch := omega) only [← nI_0, nI_leI, nI_ltI, nI_eq, not_true_eq_false, not_false_eq_true] at h95
                          refine z_lload_6 d_Mo_spelled_98 ?_
                          refine z_ldc2 d_Mo_spelled_100 c_Mo_134 ?_
                          refine z_lmul d_Mo_spelled_103 ?_
                          refine z_iload_5 d_Mo_spelled_104 ?_
                          refine z_i2l d_Mo_spelled_106 ?_
                          refine z_ladd d_Mo_spelled_107 ?_
                          refine z_ldc2 d_Mo_spelled_108 c_Mo_136 ?_
                          refine z_lsub d_Mo_spelled_111 ?_
                          refine z_goto (tgt := 117) d_Mo_spelled_112 (by decide) ?_
                          refine z_retl d_Mo_spelled_117 ?_
                          exact ⟨by unfold s_sp s_sp1; simp only [*, if_true, if_false], rfl⟩))
              · first
                | (simp (disch := omega) only [← nI_0, nI_leI, nI_ltI, nI_eq, not_true_eq_false, not_false_eq_true] at h69; done)
                | (simp (disch := omega) only [← nI_0, nI_leI, nI_ltI, nI_eq, not_true_eq_false, not_false_eq_true] at h69; omega)
                | contradiction
                | exact absurd h69 (Int32.not_lt.mpr (by assumption))
                | exact absurd h69 (Int32.not_le.mpr (by assumption))
                | exact absurd h69 (by decide)
                | exact absurd (by decide) h69
                | ( try simp (disch := omega) only [← nI_0, nI_leI, nI_ltI, nI_eq, not_true_eq_false, not_false_eq_true] at h69
                    refine z_lload_6 d_Mo_spelled_72 ?_
                    refine z_ldc2 d_Mo_spelled_74 c_Mo_134 ?_
                    refine z_lmul d_Mo_spelled_77 ?_
                    refine z_iload_4 d_Mo_spelled_78 ?_
                    refine z_i2l d_Mo_spelled_80 ?_
                    refine z_ladd d_Mo_spelled_81 ?_
                    refine z_ldc2 d_Mo_spelled_82 c_Mo_136 ?_
                    refine z_lsub d_Mo_spelled_85 ?_
                    refine z_goto (tgt := 91) d_Mo_spelled_86 (by decide) ?_
                    first | refine z_lstore_6 d_Mo_spelled_91 rfl ?_ | (refine z_forget_5 ?_; refine z_lstore_6 d_Mo_spelled_91 rfl ?_)
                    refine z_iload_5 d_Mo_spelled_93 ?_
                    refine z_if_le (tgt := 115) d_Mo_spelled_95 (by decide) (fun h95 => ?_) (fun h95 => ?_)
                    · first
                      | (simp (disch := omega) only [← nI_0, nI_leI, nI_ltI, nI_eq, not_true_eq_false, not_false_eq_true] at h95; done)
                      | (simp (disch := omega) only [← nI_0, nI_leI, nI_ltI, nI_eq, not_true_eq_false, not_false_eq_true] at h95; omega)
                      | contradiction
                      | exact absurd h95 (Int32.not_lt.mpr (by assumption))
                      | exact absurd h95 (Int32.not_le.mpr (by assumption))
                      | exact absurd h95 (by decide)
                      | exact absurd (by decide) h95
                      | ( try simp (disch := omega) only [← nI_0, nI_leI, nI_ltI, nI_eq, not_true_eq_false, not_false_eq_true] at h95
                          refine z_lload_6 d_Mo_spelled_115 ?_
                          refine z_retl d_Mo_spelled_117 ?_
                          exact ⟨by unfold s_sp s_sp1; simp only [*, if_true, if_false], rfl⟩)
                    · first
                      | (simp (disch := omega) only [← nI_0, nI_leI, nI_ltI, nI_eq, not_true_eq_false, not_false_eq_true] at h95; done)
                      | (simp (disch := omega) only [← nI_0, nI_leI, nI_ltI, nI_eq, not_true_eq_false, not_false_eq_true] at h95; omega)
                      | contradiction
                      | exact absurd h95 (Int32.not_lt.mpr (by assumption))
                      | exact absurd h95 (Int32.not_le.mpr (by assumption))
                      | exact absurd h95 (by decide)
                      | exact absurd (by decide) h95
                      | ( try simp (disch := omega) only [← nI_0, nI_leI, nI_ltI, nI_eq, not_true_eq_false, not_false_eq_true] at h95
                          refine z_lload_6 d_Mo_spelled_98 ?_
                          refine z_ldc2 d_Mo_spelled_100 c_Mo_134 ?_
                          refine z_lmul d_Mo_spelled_103 ?_
                          refine z_iload_5 d_Mo_spelled_104 ?_
                          refine z_i2l d_Mo_spelled_106 ?_
                          refine z_ladd d_Mo_spelled_107 ?_
                          refine z_ldc2 d_Mo_spelled_108 c_Mo_136 ?_
                          refine z_lsub d_Mo_spelled_111 ?_
                          refine z_goto (tgt := 117) d_Mo_spelled_112 (by decide) ?_
                          refine z_retl d_Mo_spelled_117 ?_
                          exact ⟨by unfold s_sp s_sp1; simp only [*, if_true, if_false], rfl⟩))))
theorem moC_kw (C : moC T K L z I J P S t) {i : Nat} (hi : i < 21) : (I 145 14 = nI 1 ∧ J 145 19 = zKw i) ↔ tkw t = nI i := by
  obtain ⟨M, ⟨h9, hL⟩, ⟨hT, hB, hK⟩, hA, hP, hE, h12⟩ := C
  obtain ⟨a1, a2, a3, a4, a5, a6⟩ := hA
  obtain ⟨p1, p2, p3, p4, p5, p6, p7, p8⟩ := hP
  rw [a1, nI_eq (by omega) (by omega)]
  have hm : ∀ i, i < 21 → ¬ (-1 : Int32) = nI i := by decide +kernel
  by_cases h1 : tkd t = 1
  · rw [(a4 h1).2]
    by_cases h8 : ten t - tst t ≤ 8
    · rw [if_pos h8, (p2 h1 h8).1, s_kw_iff hK hi]
      exact ⟨fun h => h.2.symm, fun h => ⟨h1, h.symm⟩⟩
    · rw [if_neg h8, (p3 (fun h => h8 h.2)).1]
      exact ⟨fun h => absurd h.2.symm (zKw_m1 i hi), fun h => absurd h (hm i hi)⟩
  · rw [(p3 (fun h => h1 h.1)).1]
    exact ⟨fun h => absurd h.1 h1, fun h => absurd h (hm i hi)⟩
theorem m_isKw (C : moC T K L z I J P S t) {i : Nat} (hi : i < 21) : zEi G y_Mo_isWord prog_14_method_28_code 3 (some .boolean) 1 [.ref 145, .long (zKw i)] (I, J, P, S) (fun r w => (tkw t = nI i ∧ r = nI 1 ∨ ¬ tkw t = nI i ∧ r = nI 0) ∧ w = (I, J, P, S)) := by
  have hk := moC_kw C hi
  obtain ⟨M0, -⟩ := C.1
  refine zEi_of (lv := [some (.ref 145), some (.long (zKw i)), none]) (by decide) rfl (Nat.le_of_ble_eq_true rfl) ?_
  refine z_aload_0 d_Mo_isWord_0 ?_
  refine z_getIv d_Mo_isWord_1 f_Mo_125 (by first | assumption | exact zS0_at (by assumption) (by omega) | exact zS0_at rfl (by omega)) (by first | assumption | ((try simp (disch := omega) only [zu_same, zu_ne, zcp_ne, zfl_ne]); first | assumption | rfl)) ?_
  refine z_iconst (a := nI 1) d_Mo_isWord_4 (by decide) ?_
  refine z_icmp_ne (tgt := 21) d_Mo_isWord_5 (by decide) (fun h1 => ?_) (fun h1 => ?_)
  · refine z_iconst (a := nI 0) d_Mo_isWord_21 (by decide) ?_
    refine z_retz d_Mo_isWord_22 (by first | exact zb0 | exact zb1 | assumption) ?_
    exact ⟨Or.inr ⟨fun h => h1 (hk.mpr h).1, rfl⟩, rfl⟩
  · refine z_aload_0 d_Mo_isWord_8 ?_
    refine z_getJv d_Mo_isWord_9 f_Mo_131 (by first | assumption | exact zS0_at (by assumption) (by omega) | exact zS0_at rfl (by omega)) (by first | assumption | ((try simp (disch := omega) only [zu_same, zu_ne, zcp_ne, zfl_ne]); first | assumption | rfl)) ?_
    refine z_lload_1 d_Mo_isWord_12 ?_
    refine z_lcmp d_Mo_isWord_13 ?_
    refine z_if_ne (tgt := 21) d_Mo_isWord_14 (by decide) (fun h2 => ?_) (fun h2 => ?_)
    · refine z_iconst (a := nI 0) d_Mo_isWord_21 (by decide) ?_
      refine z_retz d_Mo_isWord_22 (by first | exact zb0 | exact zb1 | assumption) ?_
      exact ⟨Or.inr ⟨fun h => h2 (by rw [lg_cmp_eq]; exact (hk.mpr h).2), rfl⟩, rfl⟩
    · rw [lg_cmp_eq] at h2
      refine z_iconst (a := nI 1) d_Mo_isWord_17 (by decide) ?_
      refine z_goto (tgt := 22) d_Mo_isWord_18 (by decide) ?_
      refine z_retz d_Mo_isWord_22 (by first | exact zb0 | exact zb1 | assumption) ?_
      exact ⟨Or.inl ⟨hk.mp ⟨h1, h2⟩, rfl⟩, rfl⟩
theorem m_isOdds (C : moC T K L z I J P S t) : zEi G y_Mo_isOdds prog_14_method_29_code 1 (some .boolean) 2 [.ref 145] (I, J, P, S) (fun r w => (tkw t = nI 0 ∧ r = nI 1 ∨ ¬ tkw t = nI 0 ∧ r = nI 0) ∧ w = (I, J, P, S)) := by
  have M := C.1
  obtain ⟨M0, ⟨M4, M4s⟩, ⟨M5, M5s⟩, ⟨M6, M6s⟩, ⟨M7, M7s⟩, ⟨M20, M20s⟩, ⟨M21, M21s⟩, ⟨M22, M22s⟩, ⟨M26, M26s⟩, ⟨M27, M27s⟩, ⟨M28, M28s⟩, ⟨M30, M30s⟩, ⟨M34, M34s⟩, ⟨M36, M36s⟩, ⟨M37, M37s⟩⟩ := id M
  refine zEi_of (lv := [some (.ref 145)]) (by decide) rfl (Nat.le_of_ble_eq_true rfl) ?_
  refine z_aload_0 d_Mo_isOdds_0 ?_
  refine z_bipush (a := nI 111) d_Mo_isOdds_1 (by decide) ?_
  refine z_bipush (a := nI 100) d_Mo_isOdds_3 (by decide) ?_
  refine z_bipush (a := nI 100) d_Mo_isOdds_5 (by decide) ?_
  refine z_bipush (a := nI 115) d_Mo_isOdds_7 (by decide) ?_
  refine z_iconst (a := nI 0) d_Mo_isOdds_9 (by decide) ?_
  refine z_iconst (a := nI 0) d_Mo_isOdds_10 (by decide) ?_
  refine z_Sl6 d_Mo_isOdds_11 k_Mo_150 (t_Mo_spelled) ⟨Nat.le_of_ble_eq_true rfl, Nat.le_of_ble_eq_true rfl, Nat.le_of_ble_eq_true rfl, Nat.le_of_ble_eq_true rfl⟩ (Nat.le_of_ble_eq_true rfl) ?_
  rw [show s_sp (nI 111) (nI 100) (nI 100) (nI 115) (nI 0) (nI 0) = zKw 0 by decide +kernel]
  intro r w hq
  obtain ⟨rfl, rfl⟩ := hq
  refine z_Vi1 d_Mo_isOdds_14 k_Mo_154 (by first | assumption | exact zS0_at (by assumption) (by omega) | exact zS0_at rfl (by omega)) (m_isKw C (by decide)) ⟨Nat.le_of_ble_eq_true rfl, Nat.le_of_ble_eq_true rfl, Nat.le_of_ble_eq_true rfl, Nat.le_of_ble_eq_true rfl⟩ (Nat.le_of_ble_eq_true rfl) ?_
  intro r w hq
  rcases hq with ⟨⟨h, rfl⟩ | ⟨h, rfl⟩, rfl⟩
  · refine z_retz d_Mo_isOdds_17 (by first | exact zb0 | exact zb1 | assumption) ?_
    exact ⟨Or.inl ⟨h, rfl⟩, rfl⟩
  · refine z_retz d_Mo_isOdds_17 (by first | exact zb0 | exact zb1 | assumption) ?_
    exact ⟨Or.inr ⟨h, rfl⟩, rfl⟩
theorem m_isTrait (C : moC T K L z I J P S t) : zEi G y_Mo_isTrait prog_14_method_30_code 1 (some .boolean) 2 [.ref 145] (I, J, P, S) (fun r w => (tkw t = nI 1 ∧ r = nI 1 ∨ ¬ tkw t = nI 1 ∧ r = nI 0) ∧ w = (I, J, P, S)) := by
  have M := C.1
  obtain ⟨M0, ⟨M4, M4s⟩, ⟨M5, M5s⟩, ⟨M6, M6s⟩, ⟨M7, M7s⟩, ⟨M20, M20s⟩, ⟨M21, M21s⟩, ⟨M22, M22s⟩, ⟨M26, M26s⟩, ⟨M27, M27s⟩, ⟨M28, M28s⟩, ⟨M30, M30s⟩, ⟨M34, M34s⟩, ⟨M36, M36s⟩, ⟨M37, M37s⟩⟩ := id M
  refine zEi_of (lv := [some (.ref 145)]) (by decide) rfl (Nat.le_of_ble_eq_true rfl) ?_
  refine z_aload_0 d_Mo_isTrait_0 ?_
  refine z_bipush (a := nI 116) d_Mo_isTrait_1 (by decide) ?_
  refine z_bipush (a := nI 114) d_Mo_isTrait_3 (by decide) ?_
  refine z_bipush (a := nI 97) d_Mo_isTrait_5 (by decide) ?_
  refine z_bipush (a := nI 105) d_Mo_isTrait_7 (by decide) ?_
  refine z_bipush (a := nI 116) d_Mo_isTrait_9 (by decide) ?_
  refine z_iconst (a := nI 0) d_Mo_isTrait_11 (by decide) ?_
  refine z_Sl6 d_Mo_isTrait_12 k_Mo_150 (t_Mo_spelled) ⟨Nat.le_of_ble_eq_true rfl, Nat.le_of_ble_eq_true rfl, Nat.le_of_ble_eq_true rfl, Nat.le_of_ble_eq_true rfl⟩ (Nat.le_of_ble_eq_true rfl) ?_
  rw [show s_sp (nI 116) (nI 114) (nI 97) (nI 105) (nI 116) (nI 0) = zKw 1 by decide +kernel]
  intro r w hq
  obtain ⟨rfl, rfl⟩ := hq
  refine z_Vi1 d_Mo_isTrait_15 k_Mo_154 (by first | assumption | exact zS0_at (by assumption) (by omega) | exact zS0_at rfl (by omega)) (m_isKw C (by decide)) ⟨Nat.le_of_ble_eq_true rfl, Nat.le_of_ble_eq_true rfl, Nat.le_of_ble_eq_true rfl, Nat.le_of_ble_eq_true rfl⟩ (Nat.le_of_ble_eq_true rfl) ?_
  intro r w hq
  rcases hq with ⟨⟨h, rfl⟩ | ⟨h, rfl⟩, rfl⟩
  · refine z_retz d_Mo_isTrait_18 (by first | exact zb0 | exact zb1 | assumption) ?_
    exact ⟨Or.inl ⟨h, rfl⟩, rfl⟩
  · refine z_retz d_Mo_isTrait_18 (by first | exact zb0 | exact zb1 | assumption) ?_
    exact ⟨Or.inr ⟨h, rfl⟩, rfl⟩
theorem m_isWorth (C : moC T K L z I J P S t) : zEi G y_Mo_isWorth prog_14_method_31_code 1 (some .boolean) 2 [.ref 145] (I, J, P, S) (fun r w => (tkw t = nI 2 ∧ r = nI 1 ∨ ¬ tkw t = nI 2 ∧ r = nI 0) ∧ w = (I, J, P, S)) := by
  have M := C.1
  obtain ⟨M0, ⟨M4, M4s⟩, ⟨M5, M5s⟩, ⟨M6, M6s⟩, ⟨M7, M7s⟩, ⟨M20, M20s⟩, ⟨M21, M21s⟩, ⟨M22, M22s⟩, ⟨M26, M26s⟩, ⟨M27, M27s⟩, ⟨M28, M28s⟩, ⟨M30, M30s⟩, ⟨M34, M34s⟩, ⟨M36, M36s⟩, ⟨M37, M37s⟩⟩ := id M
  refine zEi_of (lv := [some (.ref 145)]) (by decide) rfl (Nat.le_of_ble_eq_true rfl) ?_
  refine z_aload_0 d_Mo_isWorth_0 ?_
  refine z_bipush (a := nI 119) d_Mo_isWorth_1 (by decide) ?_
  refine z_bipush (a := nI 111) d_Mo_isWorth_3 (by decide) ?_
  refine z_bipush (a := nI 114) d_Mo_isWorth_5 (by decide) ?_
  refine z_bipush (a := nI 116) d_Mo_isWorth_7 (by decide) ?_
  refine z_bipush (a := nI 104) d_Mo_isWorth_9 (by decide) ?_
  refine z_iconst (a := nI 0) d_Mo_isWorth_11 (by decide) ?_
  refine z_Sl6 d_Mo_isWorth_12 k_Mo_150 (t_Mo_spelled) ⟨Nat.le_of_ble_eq_true rfl, Nat.le_of_ble_eq_true rfl, Nat.le_of_ble_eq_true rfl, Nat.le_of_ble_eq_true rfl⟩ (Nat.le_of_ble_eq_true rfl) ?_
  rw [show s_sp (nI 119) (nI 111) (nI 114) (nI 116) (nI 104) (nI 0) = zKw 2 by decide +kernel]
  intro r w hq
  obtain ⟨rfl, rfl⟩ := hq
  refine z_Vi1 d_Mo_isWorth_15 k_Mo_154 (by first | assumption | exact zS0_at (by assumption) (by omega) | exact zS0_at rfl (by omega)) (m_isKw C (by decide)) ⟨Nat.le_of_ble_eq_true rfl, Nat.le_of_ble_eq_true rfl, Nat.le_of_ble_eq_true rfl, Nat.le_of_ble_eq_true rfl⟩ (Nat.le_of_ble_eq_true rfl) ?_
  intro r w hq
  rcases hq with ⟨⟨h, rfl⟩ | ⟨h, rfl⟩, rfl⟩
  · refine z_retz d_Mo_isWorth_18 (by first | exact zb0 | exact zb1 | assumption) ?_
    exact ⟨Or.inl ⟨h, rfl⟩, rfl⟩
  · refine z_retz d_Mo_isWorth_18 (by first | exact zb0 | exact zb1 | assumption) ?_
    exact ⟨Or.inr ⟨h, rfl⟩, rfl⟩
theorem m_isPerson (C : moC T K L z I J P S t) : zEi G y_Mo_isPerson prog_14_method_32_code 1 (some .boolean) 2 [.ref 145] (I, J, P, S) (fun r w => (tkw t = nI 3 ∧ r = nI 1 ∨ ¬ tkw t = nI 3 ∧ r = nI 0) ∧ w = (I, J, P, S)) := by
  have M := C.1
  obtain ⟨M0, ⟨M4, M4s⟩, ⟨M5, M5s⟩, ⟨M6, M6s⟩, ⟨M7, M7s⟩, ⟨M20, M20s⟩, ⟨M21, M21s⟩, ⟨M22, M22s⟩, ⟨M26, M26s⟩, ⟨M27, M27s⟩, ⟨M28, M28s⟩, ⟨M30, M30s⟩, ⟨M34, M34s⟩, ⟨M36, M36s⟩, ⟨M37, M37s⟩⟩ := id M
  refine zEi_of (lv := [some (.ref 145)]) (by decide) rfl (Nat.le_of_ble_eq_true rfl) ?_
  refine z_aload_0 d_Mo_isPerson_0 ?_
  refine z_bipush (a := nI 112) d_Mo_isPerson_1 (by decide) ?_
  refine z_bipush (a := nI 101) d_Mo_isPerson_3 (by decide) ?_
  refine z_bipush (a := nI 114) d_Mo_isPerson_5 (by decide) ?_
  refine z_bipush (a := nI 115) d_Mo_isPerson_7 (by decide) ?_
  refine z_bipush (a := nI 111) d_Mo_isPerson_9 (by decide) ?_
  refine z_bipush (a := nI 110) d_Mo_isPerson_11 (by decide) ?_
  refine z_Sl6 d_Mo_isPerson_13 k_Mo_150 (t_Mo_spelled) ⟨Nat.le_of_ble_eq_true rfl, Nat.le_of_ble_eq_true rfl, Nat.le_of_ble_eq_true rfl, Nat.le_of_ble_eq_true rfl⟩ (Nat.le_of_ble_eq_true rfl) ?_
  rw [show s_sp (nI 112) (nI 101) (nI 114) (nI 115) (nI 111) (nI 110) = zKw 3 by decide +kernel]
  intro r w hq
  obtain ⟨rfl, rfl⟩ := hq
  refine z_Vi1 d_Mo_isPerson_16 k_Mo_154 (by first | assumption | exact zS0_at (by assumption) (by omega) | exact zS0_at rfl (by omega)) (m_isKw C (by decide)) ⟨Nat.le_of_ble_eq_true rfl, Nat.le_of_ble_eq_true rfl, Nat.le_of_ble_eq_true rfl, Nat.le_of_ble_eq_true rfl⟩ (Nat.le_of_ble_eq_true rfl) ?_
  intro r w hq
  rcases hq with ⟨⟨h, rfl⟩ | ⟨h, rfl⟩, rfl⟩
  · refine z_retz d_Mo_isPerson_19 (by first | exact zb0 | exact zb1 | assumption) ?_
    exact ⟨Or.inl ⟨h, rfl⟩, rfl⟩
  · refine z_retz d_Mo_isPerson_19 (by first | exact zb0 | exact zb1 | assumption) ?_
    exact ⟨Or.inr ⟨h, rfl⟩, rfl⟩
theorem m_isIs (C : moC T K L z I J P S t) : zEi G y_Mo_isIs prog_14_method_33_code 1 (some .boolean) 2 [.ref 145] (I, J, P, S) (fun r w => (tkw t = nI 4 ∧ r = nI 1 ∨ ¬ tkw t = nI 4 ∧ r = nI 0) ∧ w = (I, J, P, S)) := by
  have M := C.1
  obtain ⟨M0, ⟨M4, M4s⟩, ⟨M5, M5s⟩, ⟨M6, M6s⟩, ⟨M7, M7s⟩, ⟨M20, M20s⟩, ⟨M21, M21s⟩, ⟨M22, M22s⟩, ⟨M26, M26s⟩, ⟨M27, M27s⟩, ⟨M28, M28s⟩, ⟨M30, M30s⟩, ⟨M34, M34s⟩, ⟨M36, M36s⟩, ⟨M37, M37s⟩⟩ := id M
  refine zEi_of (lv := [some (.ref 145)]) (by decide) rfl (Nat.le_of_ble_eq_true rfl) ?_
  refine z_aload_0 d_Mo_isIs_0 ?_
  refine z_bipush (a := nI 105) d_Mo_isIs_1 (by decide) ?_
  refine z_bipush (a := nI 115) d_Mo_isIs_3 (by decide) ?_
  refine z_iconst (a := nI 0) d_Mo_isIs_5 (by decide) ?_
  refine z_iconst (a := nI 0) d_Mo_isIs_6 (by decide) ?_
  refine z_iconst (a := nI 0) d_Mo_isIs_7 (by decide) ?_
  refine z_iconst (a := nI 0) d_Mo_isIs_8 (by decide) ?_
  refine z_Sl6 d_Mo_isIs_9 k_Mo_150 (t_Mo_spelled) ⟨Nat.le_of_ble_eq_true rfl, Nat.le_of_ble_eq_true rfl, Nat.le_of_ble_eq_true rfl, Nat.le_of_ble_eq_true rfl⟩ (Nat.le_of_ble_eq_true rfl) ?_
  rw [show s_sp (nI 105) (nI 115) (nI 0) (nI 0) (nI 0) (nI 0) = zKw 4 by decide +kernel]
  intro r w hq
  obtain ⟨rfl, rfl⟩ := hq
  refine z_Vi1 d_Mo_isIs_12 k_Mo_154 (by first | assumption | exact zS0_at (by assumption) (by omega) | exact zS0_at rfl (by omega)) (m_isKw C (by decide)) ⟨Nat.le_of_ble_eq_true rfl, Nat.le_of_ble_eq_true rfl, Nat.le_of_ble_eq_true rfl, Nat.le_of_ble_eq_true rfl⟩ (Nat.le_of_ble_eq_true rfl) ?_
  intro r w hq
  rcases hq with ⟨⟨h, rfl⟩ | ⟨h, rfl⟩, rfl⟩
  · refine z_retz d_Mo_isIs_15 (by first | exact zb0 | exact zb1 | assumption) ?_
    exact ⟨Or.inl ⟨h, rfl⟩, rfl⟩
  · refine z_retz d_Mo_isIs_15 (by first | exact zb0 | exact zb1 | assumption) ?_
    exact ⟨Or.inr ⟨h, rfl⟩, rfl⟩
theorem m_isLane (C : moC T K L z I J P S t) : zEi G y_Mo_isLane prog_14_method_34_code 1 (some .boolean) 2 [.ref 145] (I, J, P, S) (fun r w => (tkw t = nI 5 ∧ r = nI 1 ∨ ¬ tkw t = nI 5 ∧ r = nI 0) ∧ w = (I, J, P, S)) := by
  have M := C.1
  obtain ⟨M0, ⟨M4, M4s⟩, ⟨M5, M5s⟩, ⟨M6, M6s⟩, ⟨M7, M7s⟩, ⟨M20, M20s⟩, ⟨M21, M21s⟩, ⟨M22, M22s⟩, ⟨M26, M26s⟩, ⟨M27, M27s⟩, ⟨M28, M28s⟩, ⟨M30, M30s⟩, ⟨M34, M34s⟩, ⟨M36, M36s⟩, ⟨M37, M37s⟩⟩ := id M
  refine zEi_of (lv := [some (.ref 145)]) (by decide) rfl (Nat.le_of_ble_eq_true rfl) ?_
  refine z_aload_0 d_Mo_isLane_0 ?_
  refine z_bipush (a := nI 108) d_Mo_isLane_1 (by decide) ?_
  refine z_bipush (a := nI 97) d_Mo_isLane_3 (by decide) ?_
  refine z_bipush (a := nI 110) d_Mo_isLane_5 (by decide) ?_
  refine z_bipush (a := nI 101) d_Mo_isLane_7 (by decide) ?_
  refine z_iconst (a := nI 0) d_Mo_isLane_9 (by decide) ?_
  refine z_iconst (a := nI 0) d_Mo_isLane_10 (by decide) ?_
  refine z_Sl6 d_Mo_isLane_11 k_Mo_150 (t_Mo_spelled) ⟨Nat.le_of_ble_eq_true rfl, Nat.le_of_ble_eq_true rfl, Nat.le_of_ble_eq_true rfl, Nat.le_of_ble_eq_true rfl⟩ (Nat.le_of_ble_eq_true rfl) ?_
  rw [show s_sp (nI 108) (nI 97) (nI 110) (nI 101) (nI 0) (nI 0) = zKw 5 by decide +kernel]
  intro r w hq
  obtain ⟨rfl, rfl⟩ := hq
  refine z_Vi1 d_Mo_isLane_14 k_Mo_154 (by first | assumption | exact zS0_at (by assumption) (by omega) | exact zS0_at rfl (by omega)) (m_isKw C (by decide)) ⟨Nat.le_of_ble_eq_true rfl, Nat.le_of_ble_eq_true rfl, Nat.le_of_ble_eq_true rfl, Nat.le_of_ble_eq_true rfl⟩ (Nat.le_of_ble_eq_true rfl) ?_
  intro r w hq
  rcases hq with ⟨⟨h, rfl⟩ | ⟨h, rfl⟩, rfl⟩
  · refine z_retz d_Mo_isLane_17 (by first | exact zb0 | exact zb1 | assumption) ?_
    exact ⟨Or.inl ⟨h, rfl⟩, rfl⟩
  · refine z_retz d_Mo_isLane_17 (by first | exact zb0 | exact zb1 | assumption) ?_
    exact ⟨Or.inr ⟨h, rfl⟩, rfl⟩
theorem m_isTin (C : moC T K L z I J P S t) : zEi G y_Mo_isTin prog_14_method_35_code 1 (some .boolean) 2 [.ref 145] (I, J, P, S) (fun r w => (tkw t = nI 6 ∧ r = nI 1 ∨ ¬ tkw t = nI 6 ∧ r = nI 0) ∧ w = (I, J, P, S)) := by
  have M := C.1
  obtain ⟨M0, ⟨M4, M4s⟩, ⟨M5, M5s⟩, ⟨M6, M6s⟩, ⟨M7, M7s⟩, ⟨M20, M20s⟩, ⟨M21, M21s⟩, ⟨M22, M22s⟩, ⟨M26, M26s⟩, ⟨M27, M27s⟩, ⟨M28, M28s⟩, ⟨M30, M30s⟩, ⟨M34, M34s⟩, ⟨M36, M36s⟩, ⟨M37, M37s⟩⟩ := id M
  refine zEi_of (lv := [some (.ref 145)]) (by decide) rfl (Nat.le_of_ble_eq_true rfl) ?_
  refine z_aload_0 d_Mo_isTin_0 ?_
  refine z_bipush (a := nI 116) d_Mo_isTin_1 (by decide) ?_
  refine z_bipush (a := nI 105) d_Mo_isTin_3 (by decide) ?_
  refine z_bipush (a := nI 110) d_Mo_isTin_5 (by decide) ?_
  refine z_iconst (a := nI 0) d_Mo_isTin_7 (by decide) ?_
  refine z_iconst (a := nI 0) d_Mo_isTin_8 (by decide) ?_
  refine z_iconst (a := nI 0) d_Mo_isTin_9 (by decide) ?_
  refine z_Sl6 d_Mo_isTin_10 k_Mo_150 (t_Mo_spelled) ⟨Nat.le_of_ble_eq_true rfl, Nat.le_of_ble_eq_true rfl, Nat.le_of_ble_eq_true rfl, Nat.le_of_ble_eq_true rfl⟩ (Nat.le_of_ble_eq_true rfl) ?_
  rw [show s_sp (nI 116) (nI 105) (nI 110) (nI 0) (nI 0) (nI 0) = zKw 6 by decide +kernel]
  intro r w hq
  obtain ⟨rfl, rfl⟩ := hq
  refine z_Vi1 d_Mo_isTin_13 k_Mo_154 (by first | assumption | exact zS0_at (by assumption) (by omega) | exact zS0_at rfl (by omega)) (m_isKw C (by decide)) ⟨Nat.le_of_ble_eq_true rfl, Nat.le_of_ble_eq_true rfl, Nat.le_of_ble_eq_true rfl, Nat.le_of_ble_eq_true rfl⟩ (Nat.le_of_ble_eq_true rfl) ?_
  intro r w hq
  rcases hq with ⟨⟨h, rfl⟩ | ⟨h, rfl⟩, rfl⟩
  · refine z_retz d_Mo_isTin_16 (by first | exact zb0 | exact zb1 | assumption) ?_
    exact ⟨Or.inl ⟨h, rfl⟩, rfl⟩
  · refine z_retz d_Mo_isTin_16 (by first | exact zb0 | exact zb1 | assumption) ?_
    exact ⟨Or.inr ⟨h, rfl⟩, rfl⟩
theorem m_isOf (C : moC T K L z I J P S t) : zEi G y_Mo_isOf prog_14_method_36_code 1 (some .boolean) 2 [.ref 145] (I, J, P, S) (fun r w => (tkw t = nI 7 ∧ r = nI 1 ∨ ¬ tkw t = nI 7 ∧ r = nI 0) ∧ w = (I, J, P, S)) := by
  have M := C.1
  obtain ⟨M0, ⟨M4, M4s⟩, ⟨M5, M5s⟩, ⟨M6, M6s⟩, ⟨M7, M7s⟩, ⟨M20, M20s⟩, ⟨M21, M21s⟩, ⟨M22, M22s⟩, ⟨M26, M26s⟩, ⟨M27, M27s⟩, ⟨M28, M28s⟩, ⟨M30, M30s⟩, ⟨M34, M34s⟩, ⟨M36, M36s⟩, ⟨M37, M37s⟩⟩ := id M
  refine zEi_of (lv := [some (.ref 145)]) (by decide) rfl (Nat.le_of_ble_eq_true rfl) ?_
  refine z_aload_0 d_Mo_isOf_0 ?_
  refine z_bipush (a := nI 111) d_Mo_isOf_1 (by decide) ?_
  refine z_bipush (a := nI 102) d_Mo_isOf_3 (by decide) ?_
  refine z_iconst (a := nI 0) d_Mo_isOf_5 (by decide) ?_
  refine z_iconst (a := nI 0) d_Mo_isOf_6 (by decide) ?_
  refine z_iconst (a := nI 0) d_Mo_isOf_7 (by decide) ?_
  refine z_iconst (a := nI 0) d_Mo_isOf_8 (by decide) ?_
  refine z_Sl6 d_Mo_isOf_9 k_Mo_150 (t_Mo_spelled) ⟨Nat.le_of_ble_eq_true rfl, Nat.le_of_ble_eq_true rfl, Nat.le_of_ble_eq_true rfl, Nat.le_of_ble_eq_true rfl⟩ (Nat.le_of_ble_eq_true rfl) ?_
  rw [show s_sp (nI 111) (nI 102) (nI 0) (nI 0) (nI 0) (nI 0) = zKw 7 by decide +kernel]
  intro r w hq
  obtain ⟨rfl, rfl⟩ := hq
  refine z_Vi1 d_Mo_isOf_12 k_Mo_154 (by first | assumption | exact zS0_at (by assumption) (by omega) | exact zS0_at rfl (by omega)) (m_isKw C (by decide)) ⟨Nat.le_of_ble_eq_true rfl, Nat.le_of_ble_eq_true rfl, Nat.le_of_ble_eq_true rfl, Nat.le_of_ble_eq_true rfl⟩ (Nat.le_of_ble_eq_true rfl) ?_
  intro r w hq
  rcases hq with ⟨⟨h, rfl⟩ | ⟨h, rfl⟩, rfl⟩
  · refine z_retz d_Mo_isOf_15 (by first | exact zb0 | exact zb1 | assumption) ?_
    exact ⟨Or.inl ⟨h, rfl⟩, rfl⟩
  · refine z_retz d_Mo_isOf_15 (by first | exact zb0 | exact zb1 | assumption) ?_
    exact ⟨Or.inr ⟨h, rfl⟩, rfl⟩
theorem m_isOn (C : moC T K L z I J P S t) : zEi G y_Mo_isOn prog_14_method_37_code 1 (some .boolean) 2 [.ref 145] (I, J, P, S) (fun r w => (tkw t = nI 8 ∧ r = nI 1 ∨ ¬ tkw t = nI 8 ∧ r = nI 0) ∧ w = (I, J, P, S)) := by
  have M := C.1
  obtain ⟨M0, ⟨M4, M4s⟩, ⟨M5, M5s⟩, ⟨M6, M6s⟩, ⟨M7, M7s⟩, ⟨M20, M20s⟩, ⟨M21, M21s⟩, ⟨M22, M22s⟩, ⟨M26, M26s⟩, ⟨M27, M27s⟩, ⟨M28, M28s⟩, ⟨M30, M30s⟩, ⟨M34, M34s⟩, ⟨M36, M36s⟩, ⟨M37, M37s⟩⟩ := id M
  refine zEi_of (lv := [some (.ref 145)]) (by decide) rfl (Nat.le_of_ble_eq_true rfl) ?_
  refine z_aload_0 d_Mo_isOn_0 ?_
  refine z_bipush (a := nI 111) d_Mo_isOn_1 (by decide) ?_
  refine z_bipush (a := nI 110) d_Mo_isOn_3 (by decide) ?_
  refine z_iconst (a := nI 0) d_Mo_isOn_5 (by decide) ?_
  refine z_iconst (a := nI 0) d_Mo_isOn_6 (by decide) ?_
  refine z_iconst (a := nI 0) d_Mo_isOn_7 (by decide) ?_
  refine z_iconst (a := nI 0) d_Mo_isOn_8 (by decide) ?_
  refine z_Sl6 d_Mo_isOn_9 k_Mo_150 (t_Mo_spelled) ⟨Nat.le_of_ble_eq_true rfl, Nat.le_of_ble_eq_true rfl, Nat.le_of_ble_eq_true rfl, Nat.le_of_ble_eq_true rfl⟩ (Nat.le_of_ble_eq_true rfl) ?_
  rw [show s_sp (nI 111) (nI 110) (nI 0) (nI 0) (nI 0) (nI 0) = zKw 8 by decide +kernel]
  intro r w hq
  obtain ⟨rfl, rfl⟩ := hq
  refine z_Vi1 d_Mo_isOn_12 k_Mo_154 (by first | assumption | exact zS0_at (by assumption) (by omega) | exact zS0_at rfl (by omega)) (m_isKw C (by decide)) ⟨Nat.le_of_ble_eq_true rfl, Nat.le_of_ble_eq_true rfl, Nat.le_of_ble_eq_true rfl, Nat.le_of_ble_eq_true rfl⟩ (Nat.le_of_ble_eq_true rfl) ?_
  intro r w hq
  rcases hq with ⟨⟨h, rfl⟩ | ⟨h, rfl⟩, rfl⟩
  · refine z_retz d_Mo_isOn_15 (by first | exact zb0 | exact zb1 | assumption) ?_
    exact ⟨Or.inl ⟨h, rfl⟩, rfl⟩
  · refine z_retz d_Mo_isOn_15 (by first | exact zb0 | exact zb1 | assumption) ?_
    exact ⟨Or.inr ⟨h, rfl⟩, rfl⟩
theorem m_isLead (C : moC T K L z I J P S t) : zEi G y_Mo_isLead prog_14_method_38_code 1 (some .boolean) 2 [.ref 145] (I, J, P, S) (fun r w => (tkw t = nI 9 ∧ r = nI 1 ∨ ¬ tkw t = nI 9 ∧ r = nI 0) ∧ w = (I, J, P, S)) := by
  have M := C.1
  obtain ⟨M0, ⟨M4, M4s⟩, ⟨M5, M5s⟩, ⟨M6, M6s⟩, ⟨M7, M7s⟩, ⟨M20, M20s⟩, ⟨M21, M21s⟩, ⟨M22, M22s⟩, ⟨M26, M26s⟩, ⟨M27, M27s⟩, ⟨M28, M28s⟩, ⟨M30, M30s⟩, ⟨M34, M34s⟩, ⟨M36, M36s⟩, ⟨M37, M37s⟩⟩ := id M
  refine zEi_of (lv := [some (.ref 145)]) (by decide) rfl (Nat.le_of_ble_eq_true rfl) ?_
  refine z_aload_0 d_Mo_isLead_0 ?_
  refine z_bipush (a := nI 108) d_Mo_isLead_1 (by decide) ?_
  refine z_bipush (a := nI 101) d_Mo_isLead_3 (by decide) ?_
  refine z_bipush (a := nI 97) d_Mo_isLead_5 (by decide) ?_
  refine z_bipush (a := nI 100) d_Mo_isLead_7 (by decide) ?_
  refine z_iconst (a := nI 0) d_Mo_isLead_9 (by decide) ?_
  refine z_iconst (a := nI 0) d_Mo_isLead_10 (by decide) ?_
  refine z_Sl6 d_Mo_isLead_11 k_Mo_150 (t_Mo_spelled) ⟨Nat.le_of_ble_eq_true rfl, Nat.le_of_ble_eq_true rfl, Nat.le_of_ble_eq_true rfl, Nat.le_of_ble_eq_true rfl⟩ (Nat.le_of_ble_eq_true rfl) ?_
  rw [show s_sp (nI 108) (nI 101) (nI 97) (nI 100) (nI 0) (nI 0) = zKw 9 by decide +kernel]
  intro r w hq
  obtain ⟨rfl, rfl⟩ := hq
  refine z_Vi1 d_Mo_isLead_14 k_Mo_154 (by first | assumption | exact zS0_at (by assumption) (by omega) | exact zS0_at rfl (by omega)) (m_isKw C (by decide)) ⟨Nat.le_of_ble_eq_true rfl, Nat.le_of_ble_eq_true rfl, Nat.le_of_ble_eq_true rfl, Nat.le_of_ble_eq_true rfl⟩ (Nat.le_of_ble_eq_true rfl) ?_
  intro r w hq
  rcases hq with ⟨⟨h, rfl⟩ | ⟨h, rfl⟩, rfl⟩
  · refine z_retz d_Mo_isLead_17 (by first | exact zb0 | exact zb1 | assumption) ?_
    exact ⟨Or.inl ⟨h, rfl⟩, rfl⟩
  · refine z_retz d_Mo_isLead_17 (by first | exact zb0 | exact zb1 | assumption) ?_
    exact ⟨Or.inr ⟨h, rfl⟩, rfl⟩
theorem m_isEnd (C : moC T K L z I J P S t) : zEi G y_Mo_isEnd prog_14_method_41_code 1 (some .boolean) 2 [.ref 145] (I, J, P, S) (fun r w => (tkw t = nI 19 ∧ r = nI 1 ∨ ¬ tkw t = nI 19 ∧ r = nI 0) ∧ w = (I, J, P, S)) := by
  have M := C.1
  obtain ⟨M0, ⟨M4, M4s⟩, ⟨M5, M5s⟩, ⟨M6, M6s⟩, ⟨M7, M7s⟩, ⟨M20, M20s⟩, ⟨M21, M21s⟩, ⟨M22, M22s⟩, ⟨M26, M26s⟩, ⟨M27, M27s⟩, ⟨M28, M28s⟩, ⟨M30, M30s⟩, ⟨M34, M34s⟩, ⟨M36, M36s⟩, ⟨M37, M37s⟩⟩ := id M
  refine zEi_of (lv := [some (.ref 145)]) (by decide) rfl (Nat.le_of_ble_eq_true rfl) ?_
  refine z_aload_0 d_Mo_isEnd_0 ?_
  refine z_bipush (a := nI 101) d_Mo_isEnd_1 (by decide) ?_
  refine z_bipush (a := nI 110) d_Mo_isEnd_3 (by decide) ?_
  refine z_bipush (a := nI 100) d_Mo_isEnd_5 (by decide) ?_
  refine z_iconst (a := nI 0) d_Mo_isEnd_7 (by decide) ?_
  refine z_iconst (a := nI 0) d_Mo_isEnd_8 (by decide) ?_
  refine z_iconst (a := nI 0) d_Mo_isEnd_9 (by decide) ?_
  refine z_Sl6 d_Mo_isEnd_10 k_Mo_150 (t_Mo_spelled) ⟨Nat.le_of_ble_eq_true rfl, Nat.le_of_ble_eq_true rfl, Nat.le_of_ble_eq_true rfl, Nat.le_of_ble_eq_true rfl⟩ (Nat.le_of_ble_eq_true rfl) ?_
  rw [show s_sp (nI 101) (nI 110) (nI 100) (nI 0) (nI 0) (nI 0) = zKw 19 by decide +kernel]
  intro r w hq
  obtain ⟨rfl, rfl⟩ := hq
  refine z_Vi1 d_Mo_isEnd_13 k_Mo_154 (by first | assumption | exact zS0_at (by assumption) (by omega) | exact zS0_at rfl (by omega)) (m_isKw C (by decide)) ⟨Nat.le_of_ble_eq_true rfl, Nat.le_of_ble_eq_true rfl, Nat.le_of_ble_eq_true rfl, Nat.le_of_ble_eq_true rfl⟩ (Nat.le_of_ble_eq_true rfl) ?_
  intro r w hq
  rcases hq with ⟨⟨h, rfl⟩ | ⟨h, rfl⟩, rfl⟩
  · refine z_retz d_Mo_isEnd_16 (by first | exact zb0 | exact zb1 | assumption) ?_
    exact ⟨Or.inl ⟨h, rfl⟩, rfl⟩
  · refine z_retz d_Mo_isEnd_16 (by first | exact zb0 | exact zb1 | assumption) ?_
    exact ⟨Or.inr ⟨h, rfl⟩, rfl⟩
def s_stw (k : Int32) : Int32 := if k = nI 10 then nI 0 else if k = nI 11 then nI 1 else if k = nI 12 then nI 2 else if k = nI 13 then nI 3 else if k = nI 14 then nI 4 else if k = nI 15 then nI 5 else if k = nI 18 then nI 6 else if k = nI 20 then nI 7 else -1
def s_tsw (k : Int32) : Int32 := if k = nI 8 then nI 0 else if k = nI 16 then nI 1 else if k = nI 17 then nI 2 else -1
theorem m_stepWord (C : moC T K L z I J P S t) : zEi G y_Mo_stepWord prog_14_method_39_code 1 (some .int) 2 [.ref 145] (I, J, P, S) (fun r w => r = s_stw (tkw t) ∧ w = (I, J, P, S)) := by
  have M := C.1
  obtain ⟨M0, ⟨M4, M4s⟩, ⟨M5, M5s⟩, ⟨M6, M6s⟩, ⟨M7, M7s⟩, ⟨M20, M20s⟩, ⟨M21, M21s⟩, ⟨M22, M22s⟩, ⟨M26, M26s⟩, ⟨M27, M27s⟩, ⟨M28, M28s⟩, ⟨M30, M30s⟩, ⟨M34, M34s⟩, ⟨M36, M36s⟩, ⟨M37, M37s⟩⟩ := id M
  refine zEi_of (lv := [some (.ref 145)]) (by decide) rfl (Nat.le_of_ble_eq_true rfl) ?_
  refine z_aload_0 d_Mo_stepWord_0 ?_
  refine z_bipush (a := nI 112) d_Mo_stepWord_1 (by decide) ?_
  refine z_bipush (a := nI 97) d_Mo_stepWord_3 (by decide) ?_
  refine z_bipush (a := nI 115) d_Mo_stepWord_5 (by decide) ?_
  refine z_bipush (a := nI 115) d_Mo_stepWord_7 (by decide) ?_
  refine z_iconst (a := nI 0) d_Mo_stepWord_9 (by decide) ?_
  refine z_iconst (a := nI 0) d_Mo_stepWord_10 (by decide) ?_
  refine z_Sl6 d_Mo_stepWord_11 k_Mo_150 (t_Mo_spelled) ⟨Nat.le_of_ble_eq_true rfl, Nat.le_of_ble_eq_true rfl, Nat.le_of_ble_eq_true rfl, Nat.le_of_ble_eq_true rfl⟩ (Nat.le_of_ble_eq_true rfl) ?_
  rw [show s_sp (nI 112) (nI 97) (nI 115) (nI 115) (nI 0) (nI 0) = zKw 10 by decide +kernel]
  intro r w hq
  obtain ⟨rfl, rfl⟩ := hq
  refine z_Vi1 d_Mo_stepWord_14 k_Mo_154 (by first | assumption | exact zS0_at (by assumption) (by omega) | exact zS0_at rfl (by omega)) (m_isKw C (by decide)) ⟨Nat.le_of_ble_eq_true rfl, Nat.le_of_ble_eq_true rfl, Nat.le_of_ble_eq_true rfl, Nat.le_of_ble_eq_true rfl⟩ (Nat.le_of_ble_eq_true rfl) ?_
  intro r w hq
  rcases hq with ⟨⟨h, rfl⟩ | ⟨h10, rfl⟩, rfl⟩
  · refine z_if_eq (tgt := 22) d_Mo_stepWord_17 (by decide) (fun h => absurd h (by decide)) (fun _ => ?_)
    refine z_iconst (a := nI 0) d_Mo_stepWord_20 (by decide) ?_
    refine z_reti d_Mo_stepWord_21 ?_
    exact ⟨by unfold s_stw; rw [if_pos h], rfl⟩
  refine z_if_eq (tgt := 22) d_Mo_stepWord_17 (by decide) (fun _ => ?_) (fun h => absurd (by decide) h)
  refine z_aload_0 d_Mo_stepWord_22 ?_
  refine z_bipush (a := nI 98) d_Mo_stepWord_23 (by decide) ?_
  refine z_bipush (a := nI 105) d_Mo_stepWord_25 (by decide) ?_
  refine z_bipush (a := nI 116) d_Mo_stepWord_27 (by decide) ?_
  refine z_bipush (a := nI 101) d_Mo_stepWord_29 (by decide) ?_
  refine z_iconst (a := nI 0) d_Mo_stepWord_31 (by decide) ?_
  refine z_iconst (a := nI 0) d_Mo_stepWord_32 (by decide) ?_
  refine z_Sl6 d_Mo_stepWord_33 k_Mo_150 (t_Mo_spelled) ⟨Nat.le_of_ble_eq_true rfl, Nat.le_of_ble_eq_true rfl, Nat.le_of_ble_eq_true rfl, Nat.le_of_ble_eq_true rfl⟩ (Nat.le_of_ble_eq_true rfl) ?_
  rw [show s_sp (nI 98) (nI 105) (nI 116) (nI 101) (nI 0) (nI 0) = zKw 11 by decide +kernel]
  intro r w hq
  obtain ⟨rfl, rfl⟩ := hq
  refine z_Vi1 d_Mo_stepWord_36 k_Mo_154 (by first | assumption | exact zS0_at (by assumption) (by omega) | exact zS0_at rfl (by omega)) (m_isKw C (by decide)) ⟨Nat.le_of_ble_eq_true rfl, Nat.le_of_ble_eq_true rfl, Nat.le_of_ble_eq_true rfl, Nat.le_of_ble_eq_true rfl⟩ (Nat.le_of_ble_eq_true rfl) ?_
  intro r w hq
  rcases hq with ⟨⟨h, rfl⟩ | ⟨h11, rfl⟩, rfl⟩
  · refine z_if_eq (tgt := 44) d_Mo_stepWord_39 (by decide) (fun h => absurd h (by decide)) (fun _ => ?_)
    refine z_iconst (a := nI 1) d_Mo_stepWord_42 (by decide) ?_
    refine z_reti d_Mo_stepWord_43 ?_
    exact ⟨by unfold s_stw; rw [if_neg h10, if_pos h], rfl⟩
  refine z_if_eq (tgt := 44) d_Mo_stepWord_39 (by decide) (fun _ => ?_) (fun h => absurd (by decide) h)
  refine z_aload_0 d_Mo_stepWord_44 ?_
  refine z_bipush (a := nI 108) d_Mo_stepWord_45 (by decide) ?_
  refine z_bipush (a := nI 101) d_Mo_stepWord_47 (by decide) ?_
  refine z_bipush (a := nI 97) d_Mo_stepWord_49 (by decide) ?_
  refine z_bipush (a := nI 114) d_Mo_stepWord_51 (by decide) ?_
  refine z_bipush (a := nI 110) d_Mo_stepWord_53 (by decide) ?_
  refine z_iconst (a := nI 0) d_Mo_stepWord_55 (by decide) ?_
  refine z_Sl6 d_Mo_stepWord_56 k_Mo_150 (t_Mo_spelled) ⟨Nat.le_of_ble_eq_true rfl, Nat.le_of_ble_eq_true rfl, Nat.le_of_ble_eq_true rfl, Nat.le_of_ble_eq_true rfl⟩ (Nat.le_of_ble_eq_true rfl) ?_
  rw [show s_sp (nI 108) (nI 101) (nI 97) (nI 114) (nI 110) (nI 0) = zKw 12 by decide +kernel]
  intro r w hq
  obtain ⟨rfl, rfl⟩ := hq
  refine z_Vi1 d_Mo_stepWord_59 k_Mo_154 (by first | assumption | exact zS0_at (by assumption) (by omega) | exact zS0_at rfl (by omega)) (m_isKw C (by decide)) ⟨Nat.le_of_ble_eq_true rfl, Nat.le_of_ble_eq_true rfl, Nat.le_of_ble_eq_true rfl, Nat.le_of_ble_eq_true rfl⟩ (Nat.le_of_ble_eq_true rfl) ?_
  intro r w hq
  rcases hq with ⟨⟨h, rfl⟩ | ⟨h12, rfl⟩, rfl⟩
  · refine z_if_eq (tgt := 67) d_Mo_stepWord_62 (by decide) (fun h => absurd h (by decide)) (fun _ => ?_)
    refine z_iconst (a := nI 2) d_Mo_stepWord_65 (by decide) ?_
    refine z_reti d_Mo_stepWord_66 ?_
    exact ⟨by unfold s_stw; rw [if_neg h10, if_neg h11, if_pos h], rfl⟩
  refine z_if_eq (tgt := 67) d_Mo_stepWord_62 (by decide) (fun _ => ?_) (fun h => absurd (by decide) h)
  refine z_aload_0 d_Mo_stepWord_67 ?_
  refine z_bipush (a := nI 108) d_Mo_stepWord_68 (by decide) ?_
  refine z_bipush (a := nI 111) d_Mo_stepWord_70 (by decide) ?_
  refine z_bipush (a := nI 115) d_Mo_stepWord_72 (by decide) ?_
  refine z_bipush (a := nI 101) d_Mo_stepWord_74 (by decide) ?_
  refine z_iconst (a := nI 0) d_Mo_stepWord_76 (by decide) ?_
  refine z_iconst (a := nI 0) d_Mo_stepWord_77 (by decide) ?_
  refine z_Sl6 d_Mo_stepWord_78 k_Mo_150 (t_Mo_spelled) ⟨Nat.le_of_ble_eq_true rfl, Nat.le_of_ble_eq_true rfl, Nat.le_of_ble_eq_true rfl, Nat.le_of_ble_eq_true rfl⟩ (Nat.le_of_ble_eq_true rfl) ?_
  rw [show s_sp (nI 108) (nI 111) (nI 115) (nI 101) (nI 0) (nI 0) = zKw 13 by decide +kernel]
  intro r w hq
  obtain ⟨rfl, rfl⟩ := hq
  refine z_Vi1 d_Mo_stepWord_81 k_Mo_154 (by first | assumption | exact zS0_at (by assumption) (by omega) | exact zS0_at rfl (by omega)) (m_isKw C (by decide)) ⟨Nat.le_of_ble_eq_true rfl, Nat.le_of_ble_eq_true rfl, Nat.le_of_ble_eq_true rfl, Nat.le_of_ble_eq_true rfl⟩ (Nat.le_of_ble_eq_true rfl) ?_
  intro r w hq
  rcases hq with ⟨⟨h, rfl⟩ | ⟨h13, rfl⟩, rfl⟩
  · refine z_if_eq (tgt := 89) d_Mo_stepWord_84 (by decide) (fun h => absurd h (by decide)) (fun _ => ?_)
    refine z_iconst (a := nI 3) d_Mo_stepWord_87 (by decide) ?_
    refine z_reti d_Mo_stepWord_88 ?_
    exact ⟨by unfold s_stw; rw [if_neg h10, if_neg h11, if_neg h12, if_pos h], rfl⟩
  refine z_if_eq (tgt := 89) d_Mo_stepWord_84 (by decide) (fun _ => ?_) (fun h => absurd (by decide) h)
  refine z_aload_0 d_Mo_stepWord_89 ?_
  refine z_bipush (a := nI 97) d_Mo_stepWord_90 (by decide) ?_
  refine z_bipush (a := nI 110) d_Mo_stepWord_92 (by decide) ?_
  refine z_bipush (a := nI 121) d_Mo_stepWord_94 (by decide) ?_
  refine z_iconst (a := nI 0) d_Mo_stepWord_96 (by decide) ?_
  refine z_iconst (a := nI 0) d_Mo_stepWord_97 (by decide) ?_
  refine z_iconst (a := nI 0) d_Mo_stepWord_98 (by decide) ?_
  refine z_Sl6 d_Mo_stepWord_99 k_Mo_150 (t_Mo_spelled) ⟨Nat.le_of_ble_eq_true rfl, Nat.le_of_ble_eq_true rfl, Nat.le_of_ble_eq_true rfl, Nat.le_of_ble_eq_true rfl⟩ (Nat.le_of_ble_eq_true rfl) ?_
  rw [show s_sp (nI 97) (nI 110) (nI 121) (nI 0) (nI 0) (nI 0) = zKw 14 by decide +kernel]
  intro r w hq
  obtain ⟨rfl, rfl⟩ := hq
  refine z_Vi1 d_Mo_stepWord_102 k_Mo_154 (by first | assumption | exact zS0_at (by assumption) (by omega) | exact zS0_at rfl (by omega)) (m_isKw C (by decide)) ⟨Nat.le_of_ble_eq_true rfl, Nat.le_of_ble_eq_true rfl, Nat.le_of_ble_eq_true rfl, Nat.le_of_ble_eq_true rfl⟩ (Nat.le_of_ble_eq_true rfl) ?_
  intro r w hq
  rcases hq with ⟨⟨h, rfl⟩ | ⟨h14, rfl⟩, rfl⟩
  · refine z_if_eq (tgt := 110) d_Mo_stepWord_105 (by decide) (fun h => absurd h (by decide)) (fun _ => ?_)
    refine z_iconst (a := nI 4) d_Mo_stepWord_108 (by decide) ?_
    refine z_reti d_Mo_stepWord_109 ?_
    exact ⟨by unfold s_stw; rw [if_neg h10, if_neg h11, if_neg h12, if_neg h13, if_pos h], rfl⟩
  refine z_if_eq (tgt := 110) d_Mo_stepWord_105 (by decide) (fun _ => ?_) (fun h => absurd (by decide) h)
  refine z_aload_0 d_Mo_stepWord_110 ?_
  refine z_bipush (a := nI 119) d_Mo_stepWord_111 (by decide) ?_
  refine z_bipush (a := nI 104) d_Mo_stepWord_113 (by decide) ?_
  refine z_bipush (a := nI 101) d_Mo_stepWord_115 (by decide) ?_
  refine z_bipush (a := nI 110) d_Mo_stepWord_117 (by decide) ?_
  refine z_iconst (a := nI 0) d_Mo_stepWord_119 (by decide) ?_
  refine z_iconst (a := nI 0) d_Mo_stepWord_120 (by decide) ?_
  refine z_Sl6 d_Mo_stepWord_121 k_Mo_150 (t_Mo_spelled) ⟨Nat.le_of_ble_eq_true rfl, Nat.le_of_ble_eq_true rfl, Nat.le_of_ble_eq_true rfl, Nat.le_of_ble_eq_true rfl⟩ (Nat.le_of_ble_eq_true rfl) ?_
  rw [show s_sp (nI 119) (nI 104) (nI 101) (nI 110) (nI 0) (nI 0) = zKw 15 by decide +kernel]
  intro r w hq
  obtain ⟨rfl, rfl⟩ := hq
  refine z_Vi1 d_Mo_stepWord_124 k_Mo_154 (by first | assumption | exact zS0_at (by assumption) (by omega) | exact zS0_at rfl (by omega)) (m_isKw C (by decide)) ⟨Nat.le_of_ble_eq_true rfl, Nat.le_of_ble_eq_true rfl, Nat.le_of_ble_eq_true rfl, Nat.le_of_ble_eq_true rfl⟩ (Nat.le_of_ble_eq_true rfl) ?_
  intro r w hq
  rcases hq with ⟨⟨h, rfl⟩ | ⟨h15, rfl⟩, rfl⟩
  · refine z_if_eq (tgt := 132) d_Mo_stepWord_127 (by decide) (fun h => absurd h (by decide)) (fun _ => ?_)
    refine z_iconst (a := nI 5) d_Mo_stepWord_130 (by decide) ?_
    refine z_reti d_Mo_stepWord_131 ?_
    exact ⟨by unfold s_stw; rw [if_neg h10, if_neg h11, if_neg h12, if_neg h13, if_neg h14, if_pos h], rfl⟩
  refine z_if_eq (tgt := 132) d_Mo_stepWord_127 (by decide) (fun _ => ?_) (fun h => absurd (by decide) h)
  refine z_aload_0 d_Mo_stepWord_132 ?_
  refine z_bipush (a := nI 108) d_Mo_stepWord_133 (by decide) ?_
  refine z_bipush (a := nI 111) d_Mo_stepWord_135 (by decide) ?_
  refine z_bipush (a := nI 111) d_Mo_stepWord_137 (by decide) ?_
  refine z_bipush (a := nI 112) d_Mo_stepWord_139 (by decide) ?_
  refine z_iconst (a := nI 0) d_Mo_stepWord_141 (by decide) ?_
  refine z_iconst (a := nI 0) d_Mo_stepWord_142 (by decide) ?_
  refine z_Sl6 d_Mo_stepWord_143 k_Mo_150 (t_Mo_spelled) ⟨Nat.le_of_ble_eq_true rfl, Nat.le_of_ble_eq_true rfl, Nat.le_of_ble_eq_true rfl, Nat.le_of_ble_eq_true rfl⟩ (Nat.le_of_ble_eq_true rfl) ?_
  rw [show s_sp (nI 108) (nI 111) (nI 111) (nI 112) (nI 0) (nI 0) = zKw 18 by decide +kernel]
  intro r w hq
  obtain ⟨rfl, rfl⟩ := hq
  refine z_Vi1 d_Mo_stepWord_146 k_Mo_154 (by first | assumption | exact zS0_at (by assumption) (by omega) | exact zS0_at rfl (by omega)) (m_isKw C (by decide)) ⟨Nat.le_of_ble_eq_true rfl, Nat.le_of_ble_eq_true rfl, Nat.le_of_ble_eq_true rfl, Nat.le_of_ble_eq_true rfl⟩ (Nat.le_of_ble_eq_true rfl) ?_
  intro r w hq
  rcases hq with ⟨⟨h, rfl⟩ | ⟨h18, rfl⟩, rfl⟩
  · refine z_if_eq (tgt := 155) d_Mo_stepWord_149 (by decide) (fun h => absurd h (by decide)) (fun _ => ?_)
    refine z_bipush (a := nI 6) d_Mo_stepWord_152 (by decide) ?_
    refine z_reti d_Mo_stepWord_154 ?_
    exact ⟨by unfold s_stw; rw [if_neg h10, if_neg h11, if_neg h12, if_neg h13, if_neg h14, if_neg h15, if_pos h], rfl⟩
  refine z_if_eq (tgt := 155) d_Mo_stepWord_149 (by decide) (fun _ => ?_) (fun h => absurd (by decide) h)
  refine z_aload_0 d_Mo_stepWord_155 ?_
  refine z_bipush (a := nI 115) d_Mo_stepWord_156 (by decide) ?_
  refine z_bipush (a := nI 116) d_Mo_stepWord_158 (by decide) ?_
  refine z_bipush (a := nI 111) d_Mo_stepWord_160 (by decide) ?_
  refine z_bipush (a := nI 112) d_Mo_stepWord_162 (by decide) ?_
  refine z_iconst (a := nI 0) d_Mo_stepWord_164 (by decide) ?_
  refine z_iconst (a := nI 0) d_Mo_stepWord_165 (by decide) ?_
  refine z_Sl6 d_Mo_stepWord_166 k_Mo_150 (t_Mo_spelled) ⟨Nat.le_of_ble_eq_true rfl, Nat.le_of_ble_eq_true rfl, Nat.le_of_ble_eq_true rfl, Nat.le_of_ble_eq_true rfl⟩ (Nat.le_of_ble_eq_true rfl) ?_
  rw [show s_sp (nI 115) (nI 116) (nI 111) (nI 112) (nI 0) (nI 0) = zKw 20 by decide +kernel]
  intro r w hq
  obtain ⟨rfl, rfl⟩ := hq
  refine z_Vi1 d_Mo_stepWord_169 k_Mo_154 (by first | assumption | exact zS0_at (by assumption) (by omega) | exact zS0_at rfl (by omega)) (m_isKw C (by decide)) ⟨Nat.le_of_ble_eq_true rfl, Nat.le_of_ble_eq_true rfl, Nat.le_of_ble_eq_true rfl, Nat.le_of_ble_eq_true rfl⟩ (Nat.le_of_ble_eq_true rfl) ?_
  intro r w hq
  rcases hq with ⟨⟨h, rfl⟩ | ⟨h20, rfl⟩, rfl⟩
  · refine z_if_eq (tgt := 180) d_Mo_stepWord_172 (by decide) (fun h => absurd h (by decide)) (fun _ => ?_)
    refine z_bipush (a := nI 7) d_Mo_stepWord_175 (by decide) ?_
    refine z_goto (tgt := 181) d_Mo_stepWord_177 (by decide) ?_
    refine z_reti d_Mo_stepWord_181 ?_
    exact ⟨by unfold s_stw; rw [if_neg h10, if_neg h11, if_neg h12, if_neg h13, if_neg h14, if_neg h15, if_neg h18, if_pos h], rfl⟩
  refine z_if_eq (tgt := 180) d_Mo_stepWord_172 (by decide) (fun _ => ?_) (fun h => absurd (by decide) h)
  refine z_iconst (a := -1) d_Mo_stepWord_180 (by decide) ?_
  refine z_reti d_Mo_stepWord_181 ?_
  exact ⟨by unfold s_stw; rw [if_neg h10, if_neg h11, if_neg h12, if_neg h13, if_neg h14, if_neg h15, if_neg h18, if_neg h20], rfl⟩
theorem m_testWord (C : moC T K L z I J P S t) : zEi G y_Mo_testWord prog_14_method_40_code 1 (some .int) 3 [.ref 145] (I, J, P, S) (fun r w => r = s_tsw (tkw t) ∧ w = (I, J, P, S)) := by
  have M := C.1
  obtain ⟨M0, ⟨M4, M4s⟩, ⟨M5, M5s⟩, ⟨M6, M6s⟩, ⟨M7, M7s⟩, ⟨M20, M20s⟩, ⟨M21, M21s⟩, ⟨M22, M22s⟩, ⟨M26, M26s⟩, ⟨M27, M27s⟩, ⟨M28, M28s⟩, ⟨M30, M30s⟩, ⟨M34, M34s⟩, ⟨M36, M36s⟩, ⟨M37, M37s⟩⟩ := id M
  refine zEi_of (lv := [some (.ref 145)]) (by decide) rfl (Nat.le_of_ble_eq_true rfl) ?_
  refine z_aload_0 d_Mo_testWord_0 ?_
  refine z_Vi0 d_Mo_testWord_1 k_Mo_158 (by first | assumption | exact zS0_at (by assumption) (by omega) | exact zS0_at rfl (by omega)) (m_isOn C) ⟨Nat.le_of_ble_eq_true rfl, Nat.le_of_ble_eq_true rfl, Nat.le_of_ble_eq_true rfl, Nat.le_of_ble_eq_true rfl⟩ (Nat.le_of_ble_eq_true rfl) ?_
  intro r w hq
  rcases hq with ⟨⟨h, rfl⟩ | ⟨h8, rfl⟩, rfl⟩
  · refine z_if_eq (tgt := 9) d_Mo_testWord_4 (by decide) (fun h => absurd h (by decide)) (fun _ => ?_)
    refine z_iconst (a := nI 0) d_Mo_testWord_7 (by decide) ?_
    refine z_reti d_Mo_testWord_8 ?_
    exact ⟨by unfold s_tsw; rw [if_pos h], rfl⟩
  refine z_if_eq (tgt := 9) d_Mo_testWord_4 (by decide) (fun _ => ?_) (fun h => absurd (by decide) h)
  refine z_aload_0 d_Mo_testWord_9 ?_
  refine z_bipush (a := nI 103) d_Mo_testWord_10 (by decide) ?_
  refine z_bipush (a := nI 111) d_Mo_testWord_12 (by decide) ?_
  refine z_bipush (a := nI 116) d_Mo_testWord_14 (by decide) ?_
  refine z_iconst (a := nI 0) d_Mo_testWord_16 (by decide) ?_
  refine z_iconst (a := nI 0) d_Mo_testWord_17 (by decide) ?_
  refine z_iconst (a := nI 0) d_Mo_testWord_18 (by decide) ?_
  refine z_Sl6 d_Mo_testWord_19 k_Mo_150 (t_Mo_spelled) ⟨Nat.le_of_ble_eq_true rfl, Nat.le_of_ble_eq_true rfl, Nat.le_of_ble_eq_true rfl, Nat.le_of_ble_eq_true rfl⟩ (Nat.le_of_ble_eq_true rfl) ?_
  rw [show s_sp (nI 103) (nI 111) (nI 116) (nI 0) (nI 0) (nI 0) = zKw 16 by decide +kernel]
  intro r w hq
  obtain ⟨rfl, rfl⟩ := hq
  refine z_Vi1 d_Mo_testWord_22 k_Mo_154 (by first | assumption | exact zS0_at (by assumption) (by omega) | exact zS0_at rfl (by omega)) (m_isKw C (by decide)) ⟨Nat.le_of_ble_eq_true rfl, Nat.le_of_ble_eq_true rfl, Nat.le_of_ble_eq_true rfl, Nat.le_of_ble_eq_true rfl⟩ (Nat.le_of_ble_eq_true rfl) ?_
  intro r w hq
  rcases hq with ⟨⟨h, rfl⟩ | ⟨h16, rfl⟩, rfl⟩
  · refine z_if_eq (tgt := 30) d_Mo_testWord_25 (by decide) (fun h => absurd h (by decide)) (fun _ => ?_)
    refine z_iconst (a := nI 1) d_Mo_testWord_28 (by decide) ?_
    refine z_reti d_Mo_testWord_29 ?_
    exact ⟨by unfold s_tsw; rw [if_neg h8, if_pos h], rfl⟩
  refine z_if_eq (tgt := 30) d_Mo_testWord_25 (by decide) (fun _ => ?_) (fun h => absurd (by decide) h)
  refine z_aload_0 d_Mo_testWord_30 ?_
  refine z_bipush (a := nI 103) d_Mo_testWord_31 (by decide) ?_
  refine z_bipush (a := nI 111) d_Mo_testWord_33 (by decide) ?_
  refine z_bipush (a := nI 110) d_Mo_testWord_35 (by decide) ?_
  refine z_bipush (a := nI 101) d_Mo_testWord_37 (by decide) ?_
  refine z_iconst (a := nI 0) d_Mo_testWord_39 (by decide) ?_
  refine z_iconst (a := nI 0) d_Mo_testWord_40 (by decide) ?_
  refine z_Sl6 d_Mo_testWord_41 k_Mo_150 (t_Mo_spelled) ⟨Nat.le_of_ble_eq_true rfl, Nat.le_of_ble_eq_true rfl, Nat.le_of_ble_eq_true rfl, Nat.le_of_ble_eq_true rfl⟩ (Nat.le_of_ble_eq_true rfl) ?_
  rw [show s_sp (nI 103) (nI 111) (nI 110) (nI 101) (nI 0) (nI 0) = zKw 17 by decide +kernel]
  intro r w hq
  obtain ⟨rfl, rfl⟩ := hq
  refine z_Vi1 d_Mo_testWord_44 k_Mo_154 (by first | assumption | exact zS0_at (by assumption) (by omega) | exact zS0_at rfl (by omega)) (m_isKw C (by decide)) ⟨Nat.le_of_ble_eq_true rfl, Nat.le_of_ble_eq_true rfl, Nat.le_of_ble_eq_true rfl, Nat.le_of_ble_eq_true rfl⟩ (Nat.le_of_ble_eq_true rfl) ?_
  intro r w hq
  rcases hq with ⟨⟨h, rfl⟩ | ⟨h17, rfl⟩, rfl⟩
  · refine z_if_eq (tgt := 54) d_Mo_testWord_47 (by decide) (fun h => absurd h (by decide)) (fun _ => ?_)
    refine z_iconst (a := nI 2) d_Mo_testWord_50 (by decide) ?_
    refine z_goto (tgt := 55) d_Mo_testWord_51 (by decide) ?_
    refine z_reti d_Mo_testWord_55 ?_
    exact ⟨by unfold s_tsw; rw [if_neg h8, if_neg h16, if_pos h], rfl⟩
  refine z_if_eq (tgt := 54) d_Mo_testWord_47 (by decide) (fun _ => ?_) (fun h => absurd (by decide) h)
  refine z_iconst (a := -1) d_Mo_testWord_54 (by decide) ?_
  refine z_reti d_Mo_testWord_55 ?_
  exact ⟨by unfold s_tsw; rw [if_neg h8, if_neg h16, if_neg h17], rfl⟩
theorem moC_kc (C : moC T K L z I J P S t) : tkw t = -1 ∨ ∃ k, k < 21 ∧ tkw t = nI k := by
  obtain ⟨-, -, -, -, ⟨-, p2, p3, -⟩, -⟩ := C
  by_cases h : tkd t = 1 ∧ ten t - tst t ≤ 8
  · rw [(p2 h.1 h.2).1]; exact s_kw_c _ _ 21
  · exact Or.inl (p3 h).1
theorem m_isKept (C : moC T K L z I J P S t) : zEi G y_Mo_isKept prog_14_method_42_code 1 (some .boolean) 4 [.ref 145] (I, J, P, S) (fun r w => (¬ tkw t = -1 ∧ r = nI 1 ∨ ¬ ¬ tkw t = -1 ∧ r = nI 0) ∧ w = (I, J, P, S)) := by
  have M := C.1
  obtain ⟨M0, ⟨M4, M4s⟩, ⟨M5, M5s⟩, ⟨M6, M6s⟩, ⟨M7, M7s⟩, ⟨M20, M20s⟩, ⟨M21, M21s⟩, ⟨M22, M22s⟩, ⟨M26, M26s⟩, ⟨M27, M27s⟩, ⟨M28, M28s⟩, ⟨M30, M30s⟩, ⟨M34, M34s⟩, ⟨M36, M36s⟩, ⟨M37, M37s⟩⟩ := id M
  have hne : ∀ i, i < 21 → tkw t = nI i → ¬ tkw t = -1 := by
    intro i hi h
    rw [h]
    exact (by decide +kernel : ∀ i, i < 21 → ¬ nI i = -1) i hi
  have hfin : ¬ tkw t = nI 0 → ¬ tkw t = nI 1 → ¬ tkw t = nI 2 → ¬ tkw t = nI 3 → ¬ tkw t = nI 4 → ¬ tkw t = nI 5 → ¬ tkw t = nI 6 → ¬ tkw t = nI 7 → ¬ tkw t = nI 9 → ¬ (0 : Int32) ≤ s_stw (tkw t) → ¬ (0 : Int32) ≤ s_tsw (tkw t) → ¬ tkw t = nI 19 → ¬ ¬ tkw t = -1 := by
    rcases moC_kc C with h | ⟨k, hk, h⟩
    · rw [h]; decide
    · rw [h]
      intro h0 h1 h2 h3 h4 h5 h6 h7 h9 hs ht h19
      exfalso
      rcases (by decide +kernel : ∀ k, k < 21 → ((nI k = nI 0 ∨ nI k = nI 1 ∨ nI k = nI 2 ∨ nI k = nI 3 ∨ nI k = nI 4 ∨ nI k = nI 5) ∨ (nI k = nI 6 ∨ nI k = nI 7 ∨ nI k = nI 9 ∨ (0 : Int32) ≤ s_stw (nI k) ∨ (0 : Int32) ≤ s_tsw (nI k) ∨ nI k = nI 19))) k hk with (e | e | e | e | e | e) | (e | e | e | e | e | e) <;> exact absurd e (by assumption)
  have hst : (0 : Int32) ≤ s_stw (tkw t) → ¬ tkw t = -1 := by
    intro h e
    rw [e] at h
    exact absurd h (by decide)
  have hts : (0 : Int32) ≤ s_tsw (tkw t) → ¬ tkw t = -1 := by
    intro h e
    rw [e] at h
    exact absurd h (by decide)
  refine zEi_of (lv := [some (.ref 145)]) (by decide) rfl (Nat.le_of_ble_eq_true rfl) ?_
  have yes : ¬ tkw t = -1 → zA G y_Mo_isKept prog_14_method_42_code 1 (some .boolean) (zRm 4 0 0) (zM G 0 0 (fun r w' => ∃ x, r = some (.int x) ∧ (fun r w => (¬ tkw t = -1 ∧ r = nI 1 ∨ ¬ ¬ tkw t = -1 ∧ r = nI 0) ∧ w = (I, J, P, S)) x w')) 63 [some (.ref 145)] [] (I, J, P, S) 0 0 := by
    intro h
    refine z_iconst (a := nI 1) d_Mo_isKept_63 (by decide) ?_
    refine z_retz d_Mo_isKept_64 (by first | exact zb0 | exact zb1 | assumption) ?_
    exact ⟨Or.inl ⟨h, rfl⟩, rfl⟩
  have yes2 : ¬ tkw t = -1 → zA G y_Mo_isKept prog_14_method_42_code 1 (some .boolean) (zRm 4 0 0) (zM G 0 0 (fun r w' => ∃ x, r = some (.int x) ∧ (fun r w => (¬ tkw t = -1 ∧ r = nI 1 ∨ ¬ ¬ tkw t = -1 ∧ r = nI 0) ∧ w = (I, J, P, S)) x w')) 86 [some (.ref 145)] [] (I, J, P, S) 0 0 := by
    intro h
    refine z_iconst (a := nI 1) d_Mo_isKept_86 (by decide) ?_
    refine z_goto (tgt := 91) d_Mo_isKept_87 (by decide) ?_
    refine z_retz d_Mo_isKept_91 (by first | exact zb0 | exact zb1 | assumption) ?_
    exact ⟨Or.inl ⟨h, rfl⟩, rfl⟩
  refine z_aload_0 d_Mo_isKept_0 ?_
  refine z_Vi0 d_Mo_isKept_1 k_Mo_162 (by first | assumption | exact zS0_at (by assumption) (by omega) | exact zS0_at rfl (by omega)) (m_isOdds C) ⟨Nat.le_of_ble_eq_true rfl, Nat.le_of_ble_eq_true rfl, Nat.le_of_ble_eq_true rfl, Nat.le_of_ble_eq_true rfl⟩ (Nat.le_of_ble_eq_true rfl) ?_
  intro r w hq
  rcases hq with ⟨⟨hz1, rfl⟩ | ⟨hz1, rfl⟩, rfl⟩
  · first
    | contradiction
    | ( skip
        refine z_if_ne (tgt := 63) d_Mo_isKept_4 (by decide) (fun _ => ?_) (fun h => absurd h (by decide))
        exact yes (by first | exact hne 0 (by decide) (by assumption) | exact hne 1 (by decide) (by assumption) | exact hne 2 (by decide) (by assumption) | exact hne 3 (by decide) (by assumption) | exact hne 4 (by decide) (by assumption) | exact hne 5 (by decide) (by assumption) | exact hne 6 (by decide) (by assumption) | exact hne 7 (by decide) (by assumption) | exact hne 9 (by decide) (by assumption)))
  · first
    | contradiction
    | ( skip
        refine z_if_ne (tgt := 63) d_Mo_isKept_4 (by decide) (fun h => absurd h (by decide)) (fun _ => ?_)
        refine z_aload_0 d_Mo_isKept_7 ?_
        refine z_Vi0 d_Mo_isKept_8 k_Mo_165 (by first | assumption | exact zS0_at (by assumption) (by omega) | exact zS0_at rfl (by omega)) (m_isTrait C) ⟨Nat.le_of_ble_eq_true rfl, Nat.le_of_ble_eq_true rfl, Nat.le_of_ble_eq_true rfl, Nat.le_of_ble_eq_true rfl⟩ (Nat.le_of_ble_eq_true rfl) ?_
        intro r w hq
        rcases hq with ⟨⟨hz8, rfl⟩ | ⟨hz8, rfl⟩, rfl⟩
        · first
          | contradiction
          | ( skip
              refine z_if_ne (tgt := 63) d_Mo_isKept_11 (by decide) (fun _ => ?_) (fun h => absurd h (by decide))
              exact yes (by first | exact hne 0 (by decide) (by assumption) | exact hne 1 (by decide) (by assumption) | exact hne 2 (by decide) (by assumption) | exact hne 3 (by decide) (by assumption) | exact hne 4 (by decide) (by assumption) | exact hne 5 (by decide) (by assumption) | exact hne 6 (by decide) (by assumption) | exact hne 7 (by decide) (by assumption) | exact hne 9 (by decide) (by assumption)))
        · first
          | contradiction
          | ( skip
              refine z_if_ne (tgt := 63) d_Mo_isKept_11 (by decide) (fun h => absurd h (by decide)) (fun _ => ?_)
              refine z_aload_0 d_Mo_isKept_14 ?_
              refine z_Vi0 d_Mo_isKept_15 k_Mo_168 (by first | assumption | exact zS0_at (by assumption) (by omega) | exact zS0_at rfl (by omega)) (m_isWorth C) ⟨Nat.le_of_ble_eq_true rfl, Nat.le_of_ble_eq_true rfl, Nat.le_of_ble_eq_true rfl, Nat.le_of_ble_eq_true rfl⟩ (Nat.le_of_ble_eq_true rfl) ?_
              intro r w hq
              rcases hq with ⟨⟨hz15, rfl⟩ | ⟨hz15, rfl⟩, rfl⟩
              · first
                | contradiction
                | ( skip
                    refine z_if_ne (tgt := 63) d_Mo_isKept_18 (by decide) (fun _ => ?_) (fun h => absurd h (by decide))
                    exact yes (by first | exact hne 0 (by decide) (by assumption) | exact hne 1 (by decide) (by assumption) | exact hne 2 (by decide) (by assumption) | exact hne 3 (by decide) (by assumption) | exact hne 4 (by decide) (by assumption) | exact hne 5 (by decide) (by assumption) | exact hne 6 (by decide) (by assumption) | exact hne 7 (by decide) (by assumption) | exact hne 9 (by decide) (by assumption)))
              · first
                | contradiction
                | ( skip
                    refine z_if_ne (tgt := 63) d_Mo_isKept_18 (by decide) (fun h => absurd h (by decide)) (fun _ => ?_)
                    refine z_aload_0 d_Mo_isKept_21 ?_
                    refine z_Vi0 d_Mo_isKept_22 k_Mo_171 (by first | assumption | exact zS0_at (by assumption) (by omega) | exact zS0_at rfl (by omega)) (m_isPerson C) ⟨Nat.le_of_ble_eq_true rfl, Nat.le_of_ble_eq_true rfl, Nat.le_of_ble_eq_true rfl, Nat.le_of_ble_eq_true rfl⟩ (Nat.le_of_ble_eq_true rfl) ?_
                    intro r w hq
                    rcases hq with ⟨⟨hz22, rfl⟩ | ⟨hz22, rfl⟩, rfl⟩
                    · first
                      | contradiction
                      | ( skip
                          refine z_if_ne (tgt := 63) d_Mo_isKept_25 (by decide) (fun _ => ?_) (fun h => absurd h (by decide))
                          exact yes (by first | exact hne 0 (by decide) (by assumption) | exact hne 1 (by decide) (by assumption) | exact hne 2 (by decide) (by assumption) | exact hne 3 (by decide) (by assumption) | exact hne 4 (by decide) (by assumption) | exact hne 5 (by decide) (by assumption) | exact hne 6 (by decide) (by assumption) | exact hne 7 (by decide) (by assumption) | exact hne 9 (by decide) (by assumption)))
                    · first
                      | contradiction
                      | ( skip
                          refine z_if_ne (tgt := 63) d_Mo_isKept_25 (by decide) (fun h => absurd h (by decide)) (fun _ => ?_)
                          refine z_aload_0 d_Mo_isKept_28 ?_
                          refine z_Vi0 d_Mo_isKept_29 k_Mo_174 (by first | assumption | exact zS0_at (by assumption) (by omega) | exact zS0_at rfl (by omega)) (m_isIs C) ⟨Nat.le_of_ble_eq_true rfl, Nat.le_of_ble_eq_true rfl, Nat.le_of_ble_eq_true rfl, Nat.le_of_ble_eq_true rfl⟩ (Nat.le_of_ble_eq_true rfl) ?_
                          intro r w hq
                          rcases hq with ⟨⟨hz29, rfl⟩ | ⟨hz29, rfl⟩, rfl⟩
                          · first
                            | contradiction
                            | ( skip
                                refine z_if_ne (tgt := 63) d_Mo_isKept_32 (by decide) (fun _ => ?_) (fun h => absurd h (by decide))
                                exact yes (by first | exact hne 0 (by decide) (by assumption) | exact hne 1 (by decide) (by assumption) | exact hne 2 (by decide) (by assumption) | exact hne 3 (by decide) (by assumption) | exact hne 4 (by decide) (by assumption) | exact hne 5 (by decide) (by assumption) | exact hne 6 (by decide) (by assumption) | exact hne 7 (by decide) (by assumption) | exact hne 9 (by decide) (by assumption)))
                          · first
                            | contradiction
                            | ( skip
                                refine z_if_ne (tgt := 63) d_Mo_isKept_32 (by decide) (fun h => absurd h (by decide)) (fun _ => ?_)
                                refine z_aload_0 d_Mo_isKept_35 ?_
                                refine z_Vi0 d_Mo_isKept_36 k_Mo_177 (by first | assumption | exact zS0_at (by assumption) (by omega) | exact zS0_at rfl (by omega)) (m_isLane C) ⟨Nat.le_of_ble_eq_true rfl, Nat.le_of_ble_eq_true rfl, Nat.le_of_ble_eq_true rfl, Nat.le_of_ble_eq_true rfl⟩ (Nat.le_of_ble_eq_true rfl) ?_
                                intro r w hq
                                rcases hq with ⟨⟨hz36, rfl⟩ | ⟨hz36, rfl⟩, rfl⟩
                                · first
                                  | contradiction
                                  | ( skip
                                      refine z_if_ne (tgt := 63) d_Mo_isKept_39 (by decide) (fun _ => ?_) (fun h => absurd h (by decide))
                                      exact yes (by first | exact hne 0 (by decide) (by assumption) | exact hne 1 (by decide) (by assumption) | exact hne 2 (by decide) (by assumption) | exact hne 3 (by decide) (by assumption) | exact hne 4 (by decide) (by assumption) | exact hne 5 (by decide) (by assumption) | exact hne 6 (by decide) (by assumption) | exact hne 7 (by decide) (by assumption) | exact hne 9 (by decide) (by assumption)))
                                · first
                                  | contradiction
                                  | ( skip
                                      refine z_if_ne (tgt := 63) d_Mo_isKept_39 (by decide) (fun h => absurd h (by decide)) (fun _ => ?_)
                                      refine z_aload_0 d_Mo_isKept_42 ?_
                                      refine z_Vi0 d_Mo_isKept_43 k_Mo_180 (by first | assumption | exact zS0_at (by assumption) (by omega) | exact zS0_at rfl (by omega)) (m_isTin C) ⟨Nat.le_of_ble_eq_true rfl, Nat.le_of_ble_eq_true rfl, Nat.le_of_ble_eq_true rfl, Nat.le_of_ble_eq_true rfl⟩ (Nat.le_of_ble_eq_true rfl) ?_
                                      intro r w hq
                                      rcases hq with ⟨⟨hz43, rfl⟩ | ⟨hz43, rfl⟩, rfl⟩
                                      · first
                                        | contradiction
                                        | ( skip
                                            refine z_if_ne (tgt := 63) d_Mo_isKept_46 (by decide) (fun _ => ?_) (fun h => absurd h (by decide))
                                            exact yes (by first | exact hne 0 (by decide) (by assumption) | exact hne 1 (by decide) (by assumption) | exact hne 2 (by decide) (by assumption) | exact hne 3 (by decide) (by assumption) | exact hne 4 (by decide) (by assumption) | exact hne 5 (by decide) (by assumption) | exact hne 6 (by decide) (by assumption) | exact hne 7 (by decide) (by assumption) | exact hne 9 (by decide) (by assumption)))
                                      · first
                                        | contradiction
                                        | ( skip
                                            refine z_if_ne (tgt := 63) d_Mo_isKept_46 (by decide) (fun h => absurd h (by decide)) (fun _ => ?_)
                                            refine z_aload_0 d_Mo_isKept_49 ?_
                                            refine z_Vi0 d_Mo_isKept_50 k_Mo_183 (by first | assumption | exact zS0_at (by assumption) (by omega) | exact zS0_at rfl (by omega)) (m_isOf C) ⟨Nat.le_of_ble_eq_true rfl, Nat.le_of_ble_eq_true rfl, Nat.le_of_ble_eq_true rfl, Nat.le_of_ble_eq_true rfl⟩ (Nat.le_of_ble_eq_true rfl) ?_
                                            intro r w hq
                                            rcases hq with ⟨⟨hz50, rfl⟩ | ⟨hz50, rfl⟩, rfl⟩
                                            · first
                                              | contradiction
                                              | ( skip
                                                  refine z_if_ne (tgt := 63) d_Mo_isKept_53 (by decide) (fun _ => ?_) (fun h => absurd h (by decide))
                                                  exact yes (by first | exact hne 0 (by decide) (by assumption) | exact hne 1 (by decide) (by assumption) | exact hne 2 (by decide) (by assumption) | exact hne 3 (by decide) (by assumption) | exact hne 4 (by decide) (by assumption) | exact hne 5 (by decide) (by assumption) | exact hne 6 (by decide) (by assumption) | exact hne 7 (by decide) (by assumption) | exact hne 9 (by decide) (by assumption)))
                                            · first
                                              | contradiction
                                              | ( skip
                                                  refine z_if_ne (tgt := 63) d_Mo_isKept_53 (by decide) (fun h => absurd h (by decide)) (fun _ => ?_)
                                                  refine z_aload_0 d_Mo_isKept_56 ?_
                                                  refine z_Vi0 d_Mo_isKept_57 k_Mo_186 (by first | assumption | exact zS0_at (by assumption) (by omega) | exact zS0_at rfl (by omega)) (m_isLead C) ⟨Nat.le_of_ble_eq_true rfl, Nat.le_of_ble_eq_true rfl, Nat.le_of_ble_eq_true rfl, Nat.le_of_ble_eq_true rfl⟩ (Nat.le_of_ble_eq_true rfl) ?_
                                                  intro r w hq
                                                  rcases hq with ⟨⟨hz57, rfl⟩ | ⟨hz57, rfl⟩, rfl⟩
                                                  · first
                                                    | contradiction
                                                    | ( skip
                                                        refine z_if_eq (tgt := 65) d_Mo_isKept_60 (by decide) (fun h => absurd h (by decide)) (fun _ => ?_)
                                                        exact yes (by first | exact hne 0 (by decide) (by assumption) | exact hne 1 (by decide) (by assumption) | exact hne 2 (by decide) (by assumption) | exact hne 3 (by decide) (by assumption) | exact hne 4 (by decide) (by assumption) | exact hne 5 (by decide) (by assumption) | exact hne 6 (by decide) (by assumption) | exact hne 7 (by decide) (by assumption) | exact hne 9 (by decide) (by assumption)))
                                                  · first
                                                    | contradiction
                                                    | ( skip
                                                        refine z_if_eq (tgt := 65) d_Mo_isKept_60 (by decide) (fun _ => ?_) (fun h => absurd h (by decide))
                                                        refine z_aload_0 d_Mo_isKept_65 ?_
                                                        refine z_Vi0 d_Mo_isKept_66 k_Mo_189 (by first | assumption | exact zS0_at (by assumption) (by omega) | exact zS0_at rfl (by omega)) (m_stepWord C) ⟨Nat.le_of_ble_eq_true rfl, Nat.le_of_ble_eq_true rfl, Nat.le_of_ble_eq_true rfl, Nat.le_of_ble_eq_true rfl⟩ (Nat.le_of_ble_eq_true rfl) ?_
                                                        intro r w hq
                                                        obtain ⟨rfl, rfl⟩ := hq
                                                        refine z_if_ge (tgt := 86) d_Mo_isKept_69 (by decide) (fun h69 => ?_) (fun h69 => ?_)
                                                        · first
                                                          | (simp (disch := omega) only [← nI_0, nI_leI, nI_ltI, nI_eq, not_true_eq_false, not_false_eq_true] at h69; done)
                                                          | (simp (disch := omega) only [← nI_0, nI_leI, nI_ltI, nI_eq, not_true_eq_false, not_false_eq_true] at h69; omega)
                                                          | contradiction
                                                          | exact absurd h69 (Int32.not_lt.mpr (by assumption))
                                                          | exact absurd h69 (Int32.not_le.mpr (by assumption))
                                                          | exact absurd h69 (by decide)
                                                          | exact absurd (by decide) h69
                                                          | ( try simp (disch := omega) only [← nI_0, nI_leI, nI_ltI, nI_eq, not_true_eq_false, not_false_eq_true] at h69
                                                              exact yes2 (by first | exact hne 19 (by decide) (by assumption) | exact hst (by rw [← nI_0]; assumption) | exact hts (by rw [← nI_0]; assumption)))
                                                        · first
                                                          | (simp (disch := omega) only [← nI_0, nI_leI, nI_ltI, nI_eq, not_true_eq_false, not_false_eq_true] at h69; done)
                                                          | (simp (disch := omega) only [← nI_0, nI_leI, nI_ltI, nI_eq, not_true_eq_false, not_false_eq_true] at h69; omega)
                                                          | contradiction
                                                          | exact absurd h69 (Int32.not_lt.mpr (by assumption))
                                                          | exact absurd h69 (Int32.not_le.mpr (by assumption))
                                                          | exact absurd h69 (by decide)
                                                          | exact absurd (by decide) h69
                                                          | ( try simp (disch := omega) only [← nI_0, nI_leI, nI_ltI, nI_eq, not_true_eq_false, not_false_eq_true] at h69
                                                              refine z_aload_0 d_Mo_isKept_72 ?_
                                                              refine z_Vi0 d_Mo_isKept_73 k_Mo_193 (by first | assumption | exact zS0_at (by assumption) (by omega) | exact zS0_at rfl (by omega)) (m_testWord C) ⟨Nat.le_of_ble_eq_true rfl, Nat.le_of_ble_eq_true rfl, Nat.le_of_ble_eq_true rfl, Nat.le_of_ble_eq_true rfl⟩ (Nat.le_of_ble_eq_true rfl) ?_
                                                              intro r w hq
                                                              obtain ⟨rfl, rfl⟩ := hq
                                                              refine z_if_ge (tgt := 86) d_Mo_isKept_76 (by decide) (fun h76 => ?_) (fun h76 => ?_)
                                                              · first
                                                                | (simp (disch := omega) only [← nI_0, nI_leI, nI_ltI, nI_eq, not_true_eq_false, not_false_eq_true] at h76; done)
                                                                | (simp (disch := omega) only [← nI_0, nI_leI, nI_ltI, nI_eq, not_true_eq_false, not_false_eq_true] at h76; omega)
                                                                | contradiction
                                                                | exact absurd h76 (Int32.not_lt.mpr (by assumption))
                                                                | exact absurd h76 (Int32.not_le.mpr (by assumption))
                                                                | exact absurd h76 (by decide)
                                                                | exact absurd (by decide) h76
                                                                | ( try simp (disch := omega) only [← nI_0, nI_leI, nI_ltI, nI_eq, not_true_eq_false, not_false_eq_true] at h76
                                                                    exact yes2 (by first | exact hne 19 (by decide) (by assumption) | exact hst (by rw [← nI_0]; assumption) | exact hts (by rw [← nI_0]; assumption)))
                                                              · first
                                                                | (simp (disch := omega) only [← nI_0, nI_leI, nI_ltI, nI_eq, not_true_eq_false, not_false_eq_true] at h76; done)
                                                                | (simp (disch := omega) only [← nI_0, nI_leI, nI_ltI, nI_eq, not_true_eq_false, not_false_eq_true] at h76; omega)
                                                                | contradiction
                                                                | exact absurd h76 (Int32.not_lt.mpr (by assumption))
                                                                | exact absurd h76 (Int32.not_le.mpr (by assumption))
                                                                | exact absurd h76 (by decide)
                                                                | exact absurd (by decide) h76
                                                                | ( try simp (disch := omega) only [← nI_0, nI_leI, nI_ltI, nI_eq, not_true_eq_false, not_false_eq_true] at h76
                                                                    refine z_aload_0 d_Mo_isKept_79 ?_
                                                                    refine z_Vi0 d_Mo_isKept_80 k_Mo_196 (by first | assumption | exact zS0_at (by assumption) (by omega) | exact zS0_at rfl (by omega)) (m_isEnd C) ⟨Nat.le_of_ble_eq_true rfl, Nat.le_of_ble_eq_true rfl, Nat.le_of_ble_eq_true rfl, Nat.le_of_ble_eq_true rfl⟩ (Nat.le_of_ble_eq_true rfl) ?_
                                                                    intro r w hq
                                                                    rcases hq with ⟨⟨hz80, rfl⟩ | ⟨hz80, rfl⟩, rfl⟩
                                                                    · first
                                                                      | contradiction
                                                                      | ( skip
                                                                          refine z_if_eq (tgt := 90) d_Mo_isKept_83 (by decide) (fun h => absurd h (by decide)) (fun _ => ?_)
                                                                          exact yes2 (by first | exact hne 19 (by decide) (by assumption) | exact hst (by rw [← nI_0]; assumption) | exact hts (by rw [← nI_0]; assumption)))
                                                                    · first
                                                                      | contradiction
                                                                      | ( skip
                                                                          refine z_if_eq (tgt := 90) d_Mo_isKept_83 (by decide) (fun _ => ?_) (fun h => absurd h (by decide))
                                                                          refine z_iconst (a := nI 0) d_Mo_isKept_90 (by decide) ?_
                                                                          refine z_retz d_Mo_isKept_91 (by first | exact zb0 | exact zb1 | assumption) ?_
                                                                          exact ⟨Or.inr ⟨hfin (by assumption) (by assumption) (by assumption) (by assumption) (by assumption) (by assumption) (by assumption) (by assumption) (by assumption) (by rw [← nI_0]; assumption) (by rw [← nI_0]; assumption) (by assumption), rfl⟩, rfl⟩))))))))))))
theorem m_isName (C : moC T K L z I J P S t) : zEi G y_Mo_isName prog_14_method_43_code 1 (some .boolean) 5 [.ref 145] (I, J, P, S) (fun r w => (p_isN t = true ∧ r = nI 1 ∨ ¬ p_isN t = true ∧ r = nI 0) ∧ w = (I, J, P, S)) := by
  have M := C.1
  obtain ⟨M0, ⟨M4, M4s⟩, ⟨M5, M5s⟩, ⟨M6, M6s⟩, ⟨M7, M7s⟩, ⟨M20, M20s⟩, ⟨M21, M21s⟩, ⟨M22, M22s⟩, ⟨M26, M26s⟩, ⟨M27, M27s⟩, ⟨M28, M28s⟩, ⟨M30, M30s⟩, ⟨M34, M34s⟩, ⟨M36, M36s⟩, ⟨M37, M37s⟩⟩ := id M
  have hA := C.2.2.2.1
  obtain ⟨a1, a2, a3, a4, a5, a6⟩ := hA
  have hP := C.2.2.2.2.1
  obtain ⟨p1, p2, p3, p4, p5, p6, p7, p8⟩ := hP
  have hE : ten t ≤ 900 := by have := C.2.2.2.2.2.1; have := C.2.1.2; omega
  refine zEi_of (lv := [some (.ref 145)]) (by decide) rfl (Nat.le_of_ble_eq_true rfl) ?_
  refine z_aload_0 d_Mo_isName_0 ?_
  refine z_getIv d_Mo_isName_1 f_Mo_125 (by first | assumption | exact zS0_at (by assumption) (by omega) | exact zS0_at rfl (by omega)) (by first | assumption | ((try simp (disch := omega) only [zu_same, zu_ne, zcp_ne, zfl_ne]); first | assumption | rfl)) ?_
  refine z_iconst (a := nI 1) d_Mo_isName_4 (by decide) ?_
  refine z_icmp_ne (tgt := 28) d_Mo_isName_5 (by decide) (fun h1 => ?_) (fun h1 => ?_)
  · have h1 : ¬ tkd t = 1 := fun h => h1 (by rw [h])
    refine z_iconst (a := nI 0) d_Mo_isName_28 (by decide) ?_
    refine z_retz d_Mo_isName_29 (by first | exact zb0 | exact zb1 | assumption) ?_
    exact ⟨Or.inr ⟨by unfold p_isN; simp [h1], rfl⟩, rfl⟩
  · have h1 : tkd t = 1 := (nI_eq (by omega) (by omega)).mp h1
    have g1 := (a4 h1).1
    refine z_aload_0 d_Mo_isName_8 ?_
    refine z_getIv d_Mo_isName_9 f_Mo_138 (by first | assumption | exact zS0_at (by assumption) (by omega) | exact zS0_at rfl (by omega)) (by first | assumption | ((try simp (disch := omega) only [zu_same, zu_ne, zcp_ne, zfl_ne]); first | assumption | rfl)) ?_
    refine z_bipush (a := nI 8) d_Mo_isName_12 (by decide) ?_
    refine z_icmp_gt (tgt := 28) d_Mo_isName_14 (by decide) (fun h8 => ?_) (fun h8 => ?_)
    · have h8 := (nI_ltI (by omega) (by omega)).mp h8
      have g3 := p3 (fun h => by omega)
      refine z_iconst (a := nI 0) d_Mo_isName_28 (by decide) ?_
      refine z_retz d_Mo_isName_29 (by first | exact zb0 | exact zb1 | assumption) ?_
      exact ⟨Or.inr ⟨by unfold p_isN; simp [g3.2], rfl⟩, rfl⟩
    · have h8 : ¬ 8 < ten t - tst t := fun h => h8 (nI_lt h (by omega))
      have g3 := p2 h1 (by omega)
      refine z_aload_0 d_Mo_isName_17 ?_
      refine z_Vi0 d_Mo_isName_18 k_Mo_199 (by first | assumption | exact zS0_at (by assumption) (by omega) | exact zS0_at rfl (by omega)) (m_isKept C) ⟨Nat.le_of_ble_eq_true rfl, Nat.le_of_ble_eq_true rfl, Nat.le_of_ble_eq_true rfl, Nat.le_of_ble_eq_true rfl⟩ (Nat.le_of_ble_eq_true rfl) ?_
      intro r w hq
      rcases hq with ⟨⟨h, rfl⟩ | ⟨h, rfl⟩, rfl⟩
      · refine z_if_ne (tgt := 28) d_Mo_isName_21 (by decide) (fun _ => ?_) (fun h => absurd h (by decide))
        refine z_iconst (a := nI 0) d_Mo_isName_28 (by decide) ?_
        refine z_retz d_Mo_isName_29 (by first | exact zb0 | exact zb1 | assumption) ?_
        exact ⟨Or.inr ⟨by unfold p_isN; simp [h], rfl⟩, rfl⟩
      · refine z_if_ne (tgt := 28) d_Mo_isName_21 (by decide) (fun h => absurd (by decide) h) (fun _ => ?_)
        refine z_iconst (a := nI 1) d_Mo_isName_24 (by decide) ?_
        refine z_goto (tgt := 29) d_Mo_isName_25 (by decide) ?_
        refine z_retz d_Mo_isName_29 (by first | exact zb0 | exact zb1 | assumption) ?_
        have h := Classical.not_not.mp h
        exact ⟨Or.inl ⟨by unfold p_isN; simp [h, h1, g3.2], rfl⟩, rfl⟩
end MT2
