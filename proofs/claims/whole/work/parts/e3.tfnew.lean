/-! the constructor of the class -/
section CV0
variable {G : zG} {I I' : Nat → Nat → Int32} {J J' : Nat → Nat → Int64} {P P' : Nat → Nat → Option Nat} {S : List (Nat × Nat)}
/-- where the class's references point -/
def tabA : List (Nat × Nat × Nat) := [(0, 3, 1), (0, 5, 2), (0, 6, 11), (2, 0, 3), (2, 1, 5), (2, 2, 7), (2, 3, 9), (3, 3, 4), (5, 3, 6), (7, 3, 8), (9, 3, 10), (11, 3, 13)]
def tabB : List (Nat × Nat × Nat) := [(0, 7, 15), (15, 0, 11), (0, 8, 16), (16, 0, 11), (16, 1, 17), (0, 9, 18), (0, 10, 35), (0, 11, 52), (0, 12, 69), (69, 0, 70), (69, 1, 87), (69, 2, 104), (0, 14, 121), (121, 9, 122), (0, 15, 123), (123, 9, 124), (0, 16, 125), (125, 0, 126), (0, 17, 127), (127, 0, 128), (128, 0, 129), (128, 1, 130), (128, 2, 131), (128, 3, 132), (128, 4, 133), (128, 5, 134), (128, 6, 135), (128, 7, 136), (128, 8, 137), (128, 9, 138), (0, 18, 139), (139, 3, 140), (0, 19, 141), (141, 2, 142), (141, 3, 143), (141, 4, 144), (18, 8, 19), (18, 9, 20), (18, 10, 21), (18, 11, 22), (18, 12, 23), (18, 13, 24), (18, 14, 25), (18, 15, 26), (18, 16, 27), (18, 17, 28), (18, 18, 29), (18, 19, 30), (30, 3, 31), (30, 4, 32), (30, 5, 33), (30, 6, 34), (35, 8, 36), (35, 9, 37), (35, 10, 38), (35, 11, 39), (35, 12, 40), (35, 13, 41), (35, 14, 42), (35, 15, 43), (35, 16, 44), (35, 17, 45), (35, 18, 46), (35, 19, 47), (47, 3, 48), (47, 4, 49), (47, 5, 50), (47, 6, 51), (52, 8, 53), (52, 9, 54), (52, 10, 55), (52, 11, 56), (52, 12, 57), (52, 13, 58), (52, 14, 59), (52, 15, 60), (52, 16, 61), (52, 17, 62), (52, 18, 63), (52, 19, 64), (64, 3, 65), (64, 4, 66), (64, 5, 67), (64, 6, 68), (70, 8, 71), (70, 9, 72), (70, 10, 73), (70, 11, 74), (70, 12, 75), (70, 13, 76), (70, 14, 77), (70, 15, 78), (70, 16, 79), (70, 17, 80), (70, 18, 81), (70, 19, 82), (82, 3, 83), (82, 4, 84), (82, 5, 85), (82, 6, 86), (87, 8, 88), (87, 9, 89), (87, 10, 90), (87, 11, 91), (87, 12, 92), (87, 13, 93), (87, 14, 94), (87, 15, 95), (87, 16, 96), (87, 17, 97), (87, 18, 98), (87, 19, 99), (99, 3, 100), (99, 4, 101), (99, 5, 102), (99, 6, 103), (104, 8, 105), (104, 9, 106), (104, 10, 107), (104, 11, 108), (104, 12, 109), (104, 13, 110), (104, 14, 111), (104, 15, 112), (104, 16, 113), (104, 17, 114), (104, 18, 115), (104, 19, 116), (116, 3, 117), (116, 4, 118), (116, 5, 119), (116, 6, 120)]
def tfI (I : Nat → Nat → Int32) (J : Nat → Nat → Int64) : Prop := (I 0 0 = nI 0 ∧ I 0 4 = nI 0) ∧ (J 0 1 = lN 0 ∧ J 0 2 = lN 1) ∧ (∀ k, I 1 k = 0) ∧ (I 3 0 = nI 0 ∧ I 5 0 = nI 0 ∧ I 7 0 = nI 0 ∧ I 9 0 = nI 0) ∧ (I 11 10 = -1 ∧ I 11 11 = -1) ∧ ∀ i, i < 21 → J 13 i = zKw i
def tfQ (I : Nat → Nat → Int32) (J : Nat → Nat → Int64) (P : Nat → Nat → Option Nat) : Prop := tfI I J ∧ I 0 13 = nI 0 ∧ (I 18 0 = nI 8 ∧ I 18 1 = nI 0 ∧ I 18 2 = nI 0 ∧ I 18 3 = nI 0 ∧ I 18 4 = nI 0 ∧ I 18 5 = nI 0 ∧ I 18 6 = nI 0 ∧ I 18 7 = nI 0) ∧ (I 30 0 = nI 0 ∧ I 30 2 = nI 0) ∧ I 121 0 = nI 0 ∧ (∀ q ∈ tabA, P q.1 q.2.1 = some q.2.2) ∧ ∀ q ∈ tabB, P q.1 q.2.1 = some q.2.2
abbrev z0I : Nat → Nat → Int32 := zz (fun _ _ => 0) 0 0
abbrev z0J : Nat → Nat → Int64 := zz (fun _ _ => 0) 0 0
abbrev z0P : Nat → Nat → Option Nat := zz (fun _ _ => none) 0 none
set_option maxHeartbeats 40000000 in
set_option maxRecDepth 100000 in
theorem tf_B {I1 : Nat → Nat → Int32} {J1 : Nat → Nat → Int64} {P1 : Nat → Nat → Option Nat} (hI : tfI I1 J1) (hP :  ∀ q ∈ tabA, P1 q.1 q.2.1 = some q.2.2) : zA G y_Tf_new prog_1_method_1_code 2 none (zRm 8 144 4899) (zM G 144 4899 (fun r w' => r = none ∧ (fun w => ∃ I' J' P', w = (I', J', P', zS0.take 145) ∧ tfQ I' J' P') w')) 78 [some (.ref 0), none] [] (I1, J1, P1, zS0.take 15) 14 1293 := by
  have p06 : P1 0 6 = some 11 := hP (0, 6, 11) (by decide)
  refine z_aload_0 d_Tf_new_78 ?_
  refine z_nO (n0 := 15) d_Tf_new_79 w_Tf_41 ⟨Nat.le_of_ble_eq_true rfl, Nat.le_of_ble_eq_true rfl⟩ (by first | assumption | rfl) ?_
  refine z_dup rfl d_Tf_new_82 ?_
  refine z_aload_0 d_Tf_new_83 ?_
  refine z_getR d_Tf_new_84 f_Tf_37 (zS0_at rfl (by omega)) (show _ = some 11 from p06) ?_
  refine z_I1 d_Tf_new_87 k_Tf_43 (show 15 < (zS0.take 16).length by decide +kernel) (t_FenR_new (g := 15) (f := 16) (t := 11) rfl (by decide)) ⟨Nat.le_of_ble_eq_true rfl, Nat.le_of_ble_eq_true rfl, Nat.le_of_ble_eq_true rfl, Nat.le_of_ble_eq_true rfl⟩ (Nat.le_of_ble_eq_true rfl) ?_
  intro w hq
  obtain rfl := hq
  refine z_putFR d_Tf_new_90 f_Tf_46 rfl ⟨_, _, rfl⟩ (by first | assumption | exact zS0_at (by assumption) (by omega) | exact zS0_at rfl (by omega)) (fun _ => ⟨rfl, rfl⟩) ?_
  refine z_aload_0 d_Tf_new_93 ?_
  refine z_nO (n0 := 16) d_Tf_new_94 w_Tf_50 ⟨Nat.le_of_ble_eq_true rfl, Nat.le_of_ble_eq_true rfl⟩ (by first | assumption | rfl) ?_
  refine z_dup rfl d_Tf_new_97 ?_
  refine z_aload_0 d_Tf_new_98 ?_
  refine z_getR d_Tf_new_99 f_Tf_37 (zS0_at rfl (by omega)) (show _ = some 11 from p06) ?_
  refine z_I1 d_Tf_new_102 k_Tf_52 (show 16 < (zS0.take 17).length by decide +kernel) (t_YearsR_new (g := 16) (t := 11) rfl rfl) ⟨Nat.le_of_ble_eq_true rfl, Nat.le_of_ble_eq_true rfl, Nat.le_of_ble_eq_true rfl, Nat.le_of_ble_eq_true rfl⟩ (Nat.le_of_ble_eq_true rfl) ?_
  intro w hq
  obtain rfl := hq
  refine z_putFR d_Tf_new_105 f_Tf_53 rfl ⟨_, _, rfl⟩ (by first | assumption | exact zS0_at (by assumption) (by omega) | exact zS0_at rfl (by omega)) (fun _ => ⟨rfl, rfl⟩) ?_
  refine z_aload_0 d_Tf_new_108 ?_
  refine z_nO (n0 := 18) d_Tf_new_109 w_Tf_57 ⟨Nat.le_of_ble_eq_true rfl, Nat.le_of_ble_eq_true rfl⟩ (by first | assumption | rfl) ?_
  refine z_dup rfl d_Tf_new_112 ?_
  refine z_I0 d_Tf_new_113 k_Tf_59 (show 18 < (zS0.take 19).length by decide +kernel) (t_Fen_new (f := 18) rfl rfl rfl rfl rfl rfl rfl rfl rfl rfl rfl rfl rfl rfl rfl rfl rfl) ⟨Nat.le_of_ble_eq_true rfl, Nat.le_of_ble_eq_true rfl, Nat.le_of_ble_eq_true rfl, Nat.le_of_ble_eq_true rfl⟩ (Nat.le_of_ble_eq_true rfl) ?_
  intro w hq
  obtain rfl := hq
  refine z_putR d_Tf_new_116 f_Tf_60 (by first | assumption | exact zS0_at (by assumption) (by omega) | exact zS0_at rfl (by omega)) (fun _ => ⟨rfl, rfl⟩) ?_
  refine z_aload_0 d_Tf_new_119 ?_
  refine z_nO (n0 := 35) d_Tf_new_120 w_Tf_57 ⟨Nat.le_of_ble_eq_true rfl, Nat.le_of_ble_eq_true rfl⟩ (by first | assumption | rfl) ?_
  refine z_dup rfl d_Tf_new_123 ?_
  refine z_I0 d_Tf_new_124 k_Tf_59 (show 35 < (zS0.take 36).length by decide +kernel) (t_Fen_new (f := 35) rfl rfl rfl rfl rfl rfl rfl rfl rfl rfl rfl rfl rfl rfl rfl rfl rfl) ⟨Nat.le_of_ble_eq_true rfl, Nat.le_of_ble_eq_true rfl, Nat.le_of_ble_eq_true rfl, Nat.le_of_ble_eq_true rfl⟩ (Nat.le_of_ble_eq_true rfl) ?_
  intro w hq
  obtain rfl := hq
  refine z_putR d_Tf_new_127 f_Tf_64 (by first | assumption | exact zS0_at (by assumption) (by omega) | exact zS0_at rfl (by omega)) (fun _ => ⟨rfl, rfl⟩) ?_
  refine z_aload_0 d_Tf_new_130 ?_
  refine z_nO (n0 := 52) d_Tf_new_131 w_Tf_57 ⟨Nat.le_of_ble_eq_true rfl, Nat.le_of_ble_eq_true rfl⟩ (by first | assumption | rfl) ?_
  refine z_dup rfl d_Tf_new_134 ?_
  refine z_I0 d_Tf_new_135 k_Tf_59 (show 52 < (zS0.take 53).length by decide +kernel) (t_Fen_new (f := 52) rfl rfl rfl rfl rfl rfl rfl rfl rfl rfl rfl rfl rfl rfl rfl rfl rfl) ⟨Nat.le_of_ble_eq_true rfl, Nat.le_of_ble_eq_true rfl, Nat.le_of_ble_eq_true rfl, Nat.le_of_ble_eq_true rfl⟩ (Nat.le_of_ble_eq_true rfl) ?_
  intro w hq
  obtain rfl := hq
  refine z_putFR d_Tf_new_138 f_Tf_67 rfl ⟨_, _, rfl⟩ (by first | assumption | exact zS0_at (by assumption) (by omega) | exact zS0_at rfl (by omega)) (fun _ => ⟨rfl, rfl⟩) ?_
  refine z_aload_0 d_Tf_new_141 ?_
  refine z_iconst (a := nI 3) d_Tf_new_142 (by decide) ?_
  first | refine z_nR105 (n0 := 69) d_Tf_new_143 wa_Tf_57 (by decide) ⟨Nat.le_of_ble_eq_true rfl, Nat.le_of_ble_eq_true rfl⟩ (by first | assumption | rfl) ?_ | refine z_nR106 (n0 := 69) d_Tf_new_143 wa_Tf_57 (by decide) ⟨Nat.le_of_ble_eq_true rfl, Nat.le_of_ble_eq_true rfl⟩ (by first | assumption | rfl) ?_
  refine z_putFR d_Tf_new_146 f_Tf_70 rfl ⟨_, _, rfl⟩ (by first | assumption | exact zS0_at (by assumption) (by omega) | exact zS0_at rfl (by omega)) (fun _ => ⟨rfl, rfl⟩) ?_
  refine z_iconst (a := nI 0) d_Tf_new_149 (by decide) ?_
  first | refine z_istore_1 d_Tf_new_150 rfl ?_ | (refine z_forget_0 ?_; refine z_istore_1 d_Tf_new_150 rfl ?_)
  refine z_iload_1 d_Tf_new_151 ?_
  refine z_iconst (a := nI 3) d_Tf_new_152 (by decide) ?_
  refine z_icmp_ge (tgt := 175) d_Tf_new_153 (by decide) (fun h => absurd h (by decide)) (fun _ => ?_)
  refine z_aload_0 d_Tf_new_156 ?_
  refine z_getR d_Tf_new_157 f_Tf_70 (zS0_at rfl (by omega)) (show _ = some 69 from rfl) ?_
  refine z_iload_1 d_Tf_new_160 ?_
  refine z_nO (n0 := 70) d_Tf_new_161 w_Tf_57 ⟨Nat.le_of_ble_eq_true rfl, Nat.le_of_ble_eq_true rfl⟩ (by first | assumption | rfl) ?_
  refine z_dup rfl d_Tf_new_164 ?_
  refine z_I0 d_Tf_new_165 k_Tf_59 (show 70 < (zS0.take 71).length by decide +kernel) (t_Fen_new (f := 70) rfl rfl rfl rfl rfl rfl rfl rfl rfl rfl rfl rfl rfl rfl rfl rfl rfl) ⟨Nat.le_of_ble_eq_true rfl, Nat.le_of_ble_eq_true rfl, Nat.le_of_ble_eq_true rfl, Nat.le_of_ble_eq_true rfl⟩ (Nat.le_of_ble_eq_true rfl) ?_
  intro w hq
  obtain rfl := hq
  refine z_ast6 d_Tf_new_168 (zS0_at rfl (by omega)) (n := 3) (vp_in_nI (by decide) (by decide)) (N := 20) (zS0_at rfl (by omega)) ?_
  rw [nI_clamp (by decide)]
  first | refine z_iinc_1 d_Tf_new_169 rfl (zi_inc _) ?_ | refine z_iinc_1 d_Tf_new_169 rfl rfl ?_
  refine z_goto (tgt := 151) d_Tf_new_172 (by decide) ?_
  refine z_iload_1 d_Tf_new_151 ?_
  refine z_iconst (a := nI 3) d_Tf_new_152 (by decide) ?_
  refine z_icmp_ge (tgt := 175) d_Tf_new_153 (by decide) (fun h => absurd h (by decide)) (fun _ => ?_)
  refine z_aload_0 d_Tf_new_156 ?_
  refine z_getR d_Tf_new_157 f_Tf_70 (zS0_at rfl (by omega)) (show _ = some 69 from rfl) ?_
  refine z_iload_1 d_Tf_new_160 ?_
  refine z_nO (n0 := 87) d_Tf_new_161 w_Tf_57 ⟨Nat.le_of_ble_eq_true rfl, Nat.le_of_ble_eq_true rfl⟩ (by first | assumption | rfl) ?_
  refine z_dup rfl d_Tf_new_164 ?_
  refine z_I0 d_Tf_new_165 k_Tf_59 (show 87 < (zS0.take 88).length by decide +kernel) (t_Fen_new (f := 87) rfl rfl rfl rfl rfl rfl rfl rfl rfl rfl rfl rfl rfl rfl rfl rfl rfl) ⟨Nat.le_of_ble_eq_true rfl, Nat.le_of_ble_eq_true rfl, Nat.le_of_ble_eq_true rfl, Nat.le_of_ble_eq_true rfl⟩ (Nat.le_of_ble_eq_true rfl) ?_
  intro w hq
  obtain rfl := hq
  refine z_ast6 d_Tf_new_168 (zS0_at rfl (by omega)) (n := 3) (vp_in_nI (by decide) (by decide)) (N := 20) (zS0_at rfl (by omega)) ?_
  rw [nI_clamp (by decide)]
  first | refine z_iinc_1 d_Tf_new_169 rfl (zi_inc _) ?_ | refine z_iinc_1 d_Tf_new_169 rfl rfl ?_
  refine z_goto (tgt := 151) d_Tf_new_172 (by decide) ?_
  refine z_iload_1 d_Tf_new_151 ?_
  refine z_iconst (a := nI 3) d_Tf_new_152 (by decide) ?_
  refine z_icmp_ge (tgt := 175) d_Tf_new_153 (by decide) (fun h => absurd h (by decide)) (fun _ => ?_)
  refine z_aload_0 d_Tf_new_156 ?_
  refine z_getR d_Tf_new_157 f_Tf_70 (zS0_at rfl (by omega)) (show _ = some 69 from rfl) ?_
  refine z_iload_1 d_Tf_new_160 ?_
  refine z_nO (n0 := 104) d_Tf_new_161 w_Tf_57 ⟨Nat.le_of_ble_eq_true rfl, Nat.le_of_ble_eq_true rfl⟩ (by first | assumption | rfl) ?_
  refine z_dup rfl d_Tf_new_164 ?_
  refine z_I0 d_Tf_new_165 k_Tf_59 (show 104 < (zS0.take 105).length by decide +kernel) (t_Fen_new (f := 104) rfl rfl rfl rfl rfl rfl rfl rfl rfl rfl rfl rfl rfl rfl rfl rfl rfl) ⟨Nat.le_of_ble_eq_true rfl, Nat.le_of_ble_eq_true rfl, Nat.le_of_ble_eq_true rfl, Nat.le_of_ble_eq_true rfl⟩ (Nat.le_of_ble_eq_true rfl) ?_
  intro w hq
  obtain rfl := hq
  refine z_ast6 d_Tf_new_168 (zS0_at rfl (by omega)) (n := 3) (vp_in_nI (by decide) (by decide)) (N := 20) (zS0_at rfl (by omega)) ?_
  rw [nI_clamp (by decide)]
  first | refine z_iinc_1 d_Tf_new_169 rfl (zi_inc _) ?_ | refine z_iinc_1 d_Tf_new_169 rfl rfl ?_
  refine z_goto (tgt := 151) d_Tf_new_172 (by decide) ?_
  refine z_iload_1 d_Tf_new_151 ?_
  refine z_iconst (a := nI 3) d_Tf_new_152 (by decide) ?_
  refine z_icmp_ge (tgt := 175) d_Tf_new_153 (by decide) (fun _ => ?_) (fun h => absurd (by decide) h)
  refine z_aload_0 d_Tf_new_175 ?_
  refine z_iconst (a := nI 0) d_Tf_new_176 (by decide) ?_
  refine z_putI d_Tf_new_177 f_Tf_74 (by first | assumption | exact zS0_at (by assumption) (by omega) | exact zS0_at rfl (by omega)) ?_
  refine z_aload_0 d_Tf_new_180 ?_
  refine z_nO (n0 := 121) d_Tf_new_181 w_Tf_77 ⟨Nat.le_of_ble_eq_true rfl, Nat.le_of_ble_eq_true rfl⟩ (by first | assumption | rfl) ?_
  refine z_dup rfl d_Tf_new_184 ?_
  refine z_I0 d_Tf_new_185 k_Tf_79 (show 121 < (zS0.take 122).length by decide +kernel) (t_Life_new (g := 121) rfl rfl) ⟨Nat.le_of_ble_eq_true rfl, Nat.le_of_ble_eq_true rfl, Nat.le_of_ble_eq_true rfl, Nat.le_of_ble_eq_true rfl⟩ (Nat.le_of_ble_eq_true rfl) ?_
  intro w hq
  obtain rfl := hq
  refine z_putFR d_Tf_new_188 f_Tf_80 rfl ⟨_, _, rfl⟩ (by first | assumption | exact zS0_at (by assumption) (by omega) | exact zS0_at rfl (by omega)) (fun _ => ⟨rfl, rfl⟩) ?_
  refine z_aload_0 d_Tf_new_191 ?_
  refine z_nO (n0 := 123) d_Tf_new_192 w_Tf_77 ⟨Nat.le_of_ble_eq_true rfl, Nat.le_of_ble_eq_true rfl⟩ (by first | assumption | rfl) ?_
  refine z_dup rfl d_Tf_new_195 ?_
  refine z_I0 d_Tf_new_196 k_Tf_79 (show 123 < (zS0.take 124).length by decide +kernel) (t_Life_new (g := 123) rfl rfl) ⟨Nat.le_of_ble_eq_true rfl, Nat.le_of_ble_eq_true rfl, Nat.le_of_ble_eq_true rfl, Nat.le_of_ble_eq_true rfl⟩ (Nat.le_of_ble_eq_true rfl) ?_
  intro w hq
  obtain rfl := hq
  refine z_putFR d_Tf_new_199 f_Tf_84 rfl ⟨_, _, rfl⟩ (by first | assumption | exact zS0_at (by assumption) (by omega) | exact zS0_at rfl (by omega)) (fun _ => ⟨rfl, rfl⟩) ?_
  refine z_aload_0 d_Tf_new_202 ?_
  refine z_nO (n0 := 125) d_Tf_new_203 w_Tf_87 ⟨Nat.le_of_ble_eq_true rfl, Nat.le_of_ble_eq_true rfl⟩ (by first | assumption | rfl) ?_
  refine z_dup rfl d_Tf_new_206 ?_
  refine z_I0 d_Tf_new_207 k_Tf_89 (show 125 < (zS0.take 126).length by decide +kernel) (t_Rows_new (g := 125) rfl rfl) ⟨Nat.le_of_ble_eq_true rfl, Nat.le_of_ble_eq_true rfl, Nat.le_of_ble_eq_true rfl, Nat.le_of_ble_eq_true rfl⟩ (Nat.le_of_ble_eq_true rfl) ?_
  intro w hq
  obtain rfl := hq
  refine z_putFR d_Tf_new_210 f_Tf_90 rfl ⟨_, _, rfl⟩ (by first | assumption | exact zS0_at (by assumption) (by omega) | exact zS0_at rfl (by omega)) (fun _ => ⟨rfl, rfl⟩) ?_
  refine z_aload_0 d_Tf_new_213 ?_
  refine z_nO (n0 := 127) d_Tf_new_214 w_Tf_94 ⟨Nat.le_of_ble_eq_true rfl, Nat.le_of_ble_eq_true rfl⟩ (by first | assumption | rfl) ?_
  refine z_dup rfl d_Tf_new_217 ?_
  refine z_I0 d_Tf_new_218 k_Tf_96 (show 127 < (zS0.take 128).length by decide +kernel) (t_Giv_new) ⟨Nat.le_of_ble_eq_true rfl, Nat.le_of_ble_eq_true rfl, Nat.le_of_ble_eq_true rfl, Nat.le_of_ble_eq_true rfl⟩ (Nat.le_of_ble_eq_true rfl) ?_
  intro w hq
  obtain rfl := hq
  refine z_putFR d_Tf_new_221 f_Tf_97 rfl ⟨_, _, rfl⟩ (by first | assumption | exact zS0_at (by assumption) (by omega) | exact zS0_at rfl (by omega)) (fun _ => ⟨rfl, rfl⟩) ?_
  refine z_aload_0 d_Tf_new_224 ?_
  refine z_nO (n0 := 139) d_Tf_new_225 w_Tf_101 ⟨Nat.le_of_ble_eq_true rfl, Nat.le_of_ble_eq_true rfl⟩ (by first | assumption | rfl) ?_
  refine z_dup rfl d_Tf_new_228 ?_
  refine z_I0 d_Tf_new_229 k_Tf_103 (show 139 < (zS0.take 140).length by decide +kernel) (t_Seen_new (g := 139) rfl rfl) ⟨Nat.le_of_ble_eq_true rfl, Nat.le_of_ble_eq_true rfl, Nat.le_of_ble_eq_true rfl, Nat.le_of_ble_eq_true rfl⟩ (Nat.le_of_ble_eq_true rfl) ?_
  intro w hq
  obtain rfl := hq
  refine z_putFR d_Tf_new_232 f_Tf_104 rfl ⟨_, _, rfl⟩ (by first | assumption | exact zS0_at (by assumption) (by omega) | exact zS0_at rfl (by omega)) (fun _ => ⟨rfl, rfl⟩) ?_
  refine z_aload_0 d_Tf_new_235 ?_
  refine z_nO (n0 := 141) d_Tf_new_236 w_Tf_108 ⟨Nat.le_of_ble_eq_true rfl, Nat.le_of_ble_eq_true rfl⟩ (by first | assumption | rfl) ?_
  refine z_dup rfl d_Tf_new_239 ?_
  refine z_I0 d_Tf_new_240 k_Tf_110 (show 141 < (zS0.take 142).length by decide +kernel) (t_Game_new (g := 141) rfl rfl rfl rfl) ⟨Nat.le_of_ble_eq_true rfl, Nat.le_of_ble_eq_true rfl, Nat.le_of_ble_eq_true rfl, Nat.le_of_ble_eq_true rfl⟩ (Nat.le_of_ble_eq_true rfl) ?_
  intro w hq
  obtain rfl := hq
  refine z_putFR d_Tf_new_243 f_Tf_111 rfl ⟨_, _, rfl⟩ (by first | assumption | exact zS0_at (by assumption) (by omega) | exact zS0_at rfl (by omega)) (fun _ => ⟨rfl, rfl⟩) ?_
  refine z_retv d_Tf_new_246 ?_
  refine ⟨_, _, _, rfl, hI, rfl, ⟨rfl, rfl, rfl, rfl, rfl, rfl, rfl, rfl⟩, ⟨rfl, rfl⟩, rfl, ?_, ?_⟩
  · unfold tabA
    refine List.forall_mem_cons.mpr ⟨hP (0, 3, 1) (by decide), ?_⟩
    refine List.forall_mem_cons.mpr ⟨hP (0, 5, 2) (by decide), ?_⟩
    refine List.forall_mem_cons.mpr ⟨hP (0, 6, 11) (by decide), ?_⟩
    refine List.forall_mem_cons.mpr ⟨hP (2, 0, 3) (by decide), ?_⟩
    refine List.forall_mem_cons.mpr ⟨hP (2, 1, 5) (by decide), ?_⟩
    refine List.forall_mem_cons.mpr ⟨hP (2, 2, 7) (by decide), ?_⟩
    refine List.forall_mem_cons.mpr ⟨hP (2, 3, 9) (by decide), ?_⟩
    refine List.forall_mem_cons.mpr ⟨hP (3, 3, 4) (by decide), ?_⟩
    refine List.forall_mem_cons.mpr ⟨hP (5, 3, 6) (by decide), ?_⟩
    refine List.forall_mem_cons.mpr ⟨hP (7, 3, 8) (by decide), ?_⟩
    refine List.forall_mem_cons.mpr ⟨hP (9, 3, 10) (by decide), ?_⟩
    refine List.forall_mem_cons.mpr ⟨hP (11, 3, 13) (by decide), ?_⟩
    exact fun _ h => absurd h List.not_mem_nil
  · unfold tabB
    refine List.forall_mem_cons.mpr ⟨rfl, ?_⟩
    refine List.forall_mem_cons.mpr ⟨rfl, ?_⟩
    refine List.forall_mem_cons.mpr ⟨rfl, ?_⟩
    refine List.forall_mem_cons.mpr ⟨rfl, ?_⟩
    refine List.forall_mem_cons.mpr ⟨rfl, ?_⟩
    refine List.forall_mem_cons.mpr ⟨rfl, ?_⟩
    refine List.forall_mem_cons.mpr ⟨rfl, ?_⟩
    refine List.forall_mem_cons.mpr ⟨rfl, ?_⟩
    refine List.forall_mem_cons.mpr ⟨rfl, ?_⟩
    refine List.forall_mem_cons.mpr ⟨rfl, ?_⟩
    refine List.forall_mem_cons.mpr ⟨rfl, ?_⟩
    refine List.forall_mem_cons.mpr ⟨rfl, ?_⟩
    refine List.forall_mem_cons.mpr ⟨rfl, ?_⟩
    refine List.forall_mem_cons.mpr ⟨rfl, ?_⟩
    refine List.forall_mem_cons.mpr ⟨rfl, ?_⟩
    refine List.forall_mem_cons.mpr ⟨rfl, ?_⟩
    refine List.forall_mem_cons.mpr ⟨rfl, ?_⟩
    refine List.forall_mem_cons.mpr ⟨rfl, ?_⟩
    refine List.forall_mem_cons.mpr ⟨rfl, ?_⟩
    refine List.forall_mem_cons.mpr ⟨rfl, ?_⟩
    refine List.forall_mem_cons.mpr ⟨rfl, ?_⟩
    refine List.forall_mem_cons.mpr ⟨rfl, ?_⟩
    refine List.forall_mem_cons.mpr ⟨rfl, ?_⟩
    refine List.forall_mem_cons.mpr ⟨rfl, ?_⟩
    refine List.forall_mem_cons.mpr ⟨rfl, ?_⟩
    refine List.forall_mem_cons.mpr ⟨rfl, ?_⟩
    refine List.forall_mem_cons.mpr ⟨rfl, ?_⟩
    refine List.forall_mem_cons.mpr ⟨rfl, ?_⟩
    refine List.forall_mem_cons.mpr ⟨rfl, ?_⟩
    refine List.forall_mem_cons.mpr ⟨rfl, ?_⟩
    refine List.forall_mem_cons.mpr ⟨rfl, ?_⟩
    refine List.forall_mem_cons.mpr ⟨rfl, ?_⟩
    refine List.forall_mem_cons.mpr ⟨rfl, ?_⟩
    refine List.forall_mem_cons.mpr ⟨rfl, ?_⟩
    refine List.forall_mem_cons.mpr ⟨rfl, ?_⟩
    refine List.forall_mem_cons.mpr ⟨rfl, ?_⟩
    refine List.forall_mem_cons.mpr ⟨rfl, ?_⟩
    refine List.forall_mem_cons.mpr ⟨rfl, ?_⟩
    refine List.forall_mem_cons.mpr ⟨rfl, ?_⟩
    refine List.forall_mem_cons.mpr ⟨rfl, ?_⟩
    refine List.forall_mem_cons.mpr ⟨rfl, ?_⟩
    refine List.forall_mem_cons.mpr ⟨rfl, ?_⟩
    refine List.forall_mem_cons.mpr ⟨rfl, ?_⟩
    refine List.forall_mem_cons.mpr ⟨rfl, ?_⟩
    refine List.forall_mem_cons.mpr ⟨rfl, ?_⟩
    refine List.forall_mem_cons.mpr ⟨rfl, ?_⟩
    refine List.forall_mem_cons.mpr ⟨rfl, ?_⟩
    refine List.forall_mem_cons.mpr ⟨rfl, ?_⟩
    refine List.forall_mem_cons.mpr ⟨rfl, ?_⟩
    refine List.forall_mem_cons.mpr ⟨rfl, ?_⟩
    refine List.forall_mem_cons.mpr ⟨rfl, ?_⟩
    refine List.forall_mem_cons.mpr ⟨rfl, ?_⟩
    refine List.forall_mem_cons.mpr ⟨rfl, ?_⟩
    refine List.forall_mem_cons.mpr ⟨rfl, ?_⟩
    refine List.forall_mem_cons.mpr ⟨rfl, ?_⟩
    refine List.forall_mem_cons.mpr ⟨rfl, ?_⟩
    refine List.forall_mem_cons.mpr ⟨rfl, ?_⟩
    refine List.forall_mem_cons.mpr ⟨rfl, ?_⟩
    refine List.forall_mem_cons.mpr ⟨rfl, ?_⟩
    refine List.forall_mem_cons.mpr ⟨rfl, ?_⟩
    refine List.forall_mem_cons.mpr ⟨rfl, ?_⟩
    refine List.forall_mem_cons.mpr ⟨rfl, ?_⟩
    refine List.forall_mem_cons.mpr ⟨rfl, ?_⟩
    refine List.forall_mem_cons.mpr ⟨rfl, ?_⟩
    refine List.forall_mem_cons.mpr ⟨rfl, ?_⟩
    refine List.forall_mem_cons.mpr ⟨rfl, ?_⟩
    refine List.forall_mem_cons.mpr ⟨rfl, ?_⟩
    refine List.forall_mem_cons.mpr ⟨rfl, ?_⟩
    refine List.forall_mem_cons.mpr ⟨rfl, ?_⟩
    refine List.forall_mem_cons.mpr ⟨rfl, ?_⟩
    refine List.forall_mem_cons.mpr ⟨rfl, ?_⟩
    refine List.forall_mem_cons.mpr ⟨rfl, ?_⟩
    refine List.forall_mem_cons.mpr ⟨rfl, ?_⟩
    refine List.forall_mem_cons.mpr ⟨rfl, ?_⟩
    refine List.forall_mem_cons.mpr ⟨rfl, ?_⟩
    refine List.forall_mem_cons.mpr ⟨rfl, ?_⟩
    refine List.forall_mem_cons.mpr ⟨rfl, ?_⟩
    refine List.forall_mem_cons.mpr ⟨rfl, ?_⟩
    refine List.forall_mem_cons.mpr ⟨rfl, ?_⟩
    refine List.forall_mem_cons.mpr ⟨rfl, ?_⟩
    refine List.forall_mem_cons.mpr ⟨rfl, ?_⟩
    refine List.forall_mem_cons.mpr ⟨rfl, ?_⟩
    refine List.forall_mem_cons.mpr ⟨rfl, ?_⟩
    refine List.forall_mem_cons.mpr ⟨rfl, ?_⟩
    refine List.forall_mem_cons.mpr ⟨rfl, ?_⟩
    refine List.forall_mem_cons.mpr ⟨rfl, ?_⟩
    refine List.forall_mem_cons.mpr ⟨rfl, ?_⟩
    refine List.forall_mem_cons.mpr ⟨rfl, ?_⟩
    refine List.forall_mem_cons.mpr ⟨rfl, ?_⟩
    refine List.forall_mem_cons.mpr ⟨rfl, ?_⟩
    refine List.forall_mem_cons.mpr ⟨rfl, ?_⟩
    refine List.forall_mem_cons.mpr ⟨rfl, ?_⟩
    refine List.forall_mem_cons.mpr ⟨rfl, ?_⟩
    refine List.forall_mem_cons.mpr ⟨rfl, ?_⟩
    refine List.forall_mem_cons.mpr ⟨rfl, ?_⟩
    refine List.forall_mem_cons.mpr ⟨rfl, ?_⟩
    refine List.forall_mem_cons.mpr ⟨rfl, ?_⟩
    refine List.forall_mem_cons.mpr ⟨rfl, ?_⟩
    refine List.forall_mem_cons.mpr ⟨rfl, ?_⟩
    refine List.forall_mem_cons.mpr ⟨rfl, ?_⟩
    refine List.forall_mem_cons.mpr ⟨rfl, ?_⟩
    refine List.forall_mem_cons.mpr ⟨rfl, ?_⟩
    refine List.forall_mem_cons.mpr ⟨rfl, ?_⟩
    refine List.forall_mem_cons.mpr ⟨rfl, ?_⟩
    refine List.forall_mem_cons.mpr ⟨rfl, ?_⟩
    refine List.forall_mem_cons.mpr ⟨rfl, ?_⟩
    refine List.forall_mem_cons.mpr ⟨rfl, ?_⟩
    refine List.forall_mem_cons.mpr ⟨rfl, ?_⟩
    refine List.forall_mem_cons.mpr ⟨rfl, ?_⟩
    refine List.forall_mem_cons.mpr ⟨rfl, ?_⟩
    refine List.forall_mem_cons.mpr ⟨rfl, ?_⟩
    refine List.forall_mem_cons.mpr ⟨rfl, ?_⟩
    refine List.forall_mem_cons.mpr ⟨rfl, ?_⟩
    refine List.forall_mem_cons.mpr ⟨rfl, ?_⟩
    refine List.forall_mem_cons.mpr ⟨rfl, ?_⟩
    refine List.forall_mem_cons.mpr ⟨rfl, ?_⟩
    refine List.forall_mem_cons.mpr ⟨rfl, ?_⟩
    refine List.forall_mem_cons.mpr ⟨rfl, ?_⟩
    refine List.forall_mem_cons.mpr ⟨rfl, ?_⟩
    refine List.forall_mem_cons.mpr ⟨rfl, ?_⟩
    refine List.forall_mem_cons.mpr ⟨rfl, ?_⟩
    refine List.forall_mem_cons.mpr ⟨rfl, ?_⟩
    refine List.forall_mem_cons.mpr ⟨rfl, ?_⟩
    refine List.forall_mem_cons.mpr ⟨rfl, ?_⟩
    refine List.forall_mem_cons.mpr ⟨rfl, ?_⟩
    refine List.forall_mem_cons.mpr ⟨rfl, ?_⟩
    refine List.forall_mem_cons.mpr ⟨rfl, ?_⟩
    refine List.forall_mem_cons.mpr ⟨rfl, ?_⟩
    refine List.forall_mem_cons.mpr ⟨rfl, ?_⟩
    refine List.forall_mem_cons.mpr ⟨rfl, ?_⟩
    refine List.forall_mem_cons.mpr ⟨rfl, ?_⟩
    refine List.forall_mem_cons.mpr ⟨rfl, ?_⟩
    exact fun _ h => absurd h List.not_mem_nil
set_option maxHeartbeats 40000000 in
set_option maxRecDepth 100000 in
theorem t_Tf_new : zEv G y_Tf_new prog_1_method_1_code 2 8 144 4899 [.ref 0] (z0I, z0J, z0P, zS0.take 1) (fun w => ∃ I' J' P', w = (I', J', P', zS0.take 145) ∧ tfQ I' J' P') := by
  refine zEv_of (lv := [some (.ref 0), none]) (by decide) rfl (Nat.le_of_ble_eq_true rfl) ?_
  refine z_aload_0 d_Tf_new_0 ?_
  refine z_obj d_Tf_new_1 k_Tf_1 o_inst o_code ⟨Nat.le_of_ble_eq_true rfl, Nat.le_of_ble_eq_true rfl⟩ (Nat.le_of_ble_eq_true rfl) ?_
  refine z_aload_0 d_Tf_new_4 ?_
  refine z_iconst (a := nI 0) d_Tf_new_5 (by decide) ?_
  refine z_putI d_Tf_new_6 f_Tf_7 (by first | assumption | exact zS0_at (by assumption) (by omega) | exact zS0_at rfl (by omega)) ?_
  refine z_aload_0 d_Tf_new_9 ?_
  refine z_lconst (f := lN 0) d_Tf_new_10 rfl ?_
  refine z_putJ d_Tf_new_11 f_Tf_13 (by first | assumption | exact zS0_at (by assumption) (by omega) | exact zS0_at rfl (by omega)) ?_
  refine z_aload_0 d_Tf_new_14 ?_
  refine z_lconst (f := lN 1) d_Tf_new_15 rfl ?_
  refine z_putJ d_Tf_new_16 f_Tf_17 (by first | assumption | exact zS0_at (by assumption) (by omega) | exact zS0_at rfl (by omega)) ?_
  refine z_aload_0 d_Tf_new_19 ?_
  refine z_sipush (a := nI 900) d_Tf_new_20 (by decide) ?_
  refine z_nA102 (n0 := 1) d_Tf_new_23 (by decide) ⟨Nat.le_of_ble_eq_true rfl, Nat.le_of_ble_eq_true rfl⟩ (by first | assumption | rfl) ?_
  refine z_putFR d_Tf_new_25 f_Tf_20 rfl ⟨_, _, rfl⟩ (by first | assumption | exact zS0_at (by assumption) (by omega) | exact zS0_at rfl (by omega)) (fun _ => ⟨rfl, rfl⟩) ?_
  refine z_aload_0 d_Tf_new_28 ?_
  refine z_iconst (a := nI 0) d_Tf_new_29 (by decide) ?_
  refine z_putI d_Tf_new_30 f_Tf_24 (by first | assumption | exact zS0_at (by assumption) (by omega) | exact zS0_at rfl (by omega)) ?_
  refine z_aload_0 d_Tf_new_33 ?_
  refine z_iconst (a := nI 4) d_Tf_new_34 (by decide) ?_
  first | refine z_nR105 (n0 := 2) d_Tf_new_35 wa_Tf_27 (by decide) ⟨Nat.le_of_ble_eq_true rfl, Nat.le_of_ble_eq_true rfl⟩ (by first | assumption | rfl) ?_ | refine z_nR106 (n0 := 2) d_Tf_new_35 wa_Tf_27 (by decide) ⟨Nat.le_of_ble_eq_true rfl, Nat.le_of_ble_eq_true rfl⟩ (by first | assumption | rfl) ?_
  refine z_putFR d_Tf_new_38 f_Tf_29 rfl ⟨_, _, rfl⟩ (by first | assumption | exact zS0_at (by assumption) (by omega) | exact zS0_at rfl (by omega)) (fun _ => ⟨rfl, rfl⟩) ?_
  refine z_iconst (a := nI 0) d_Tf_new_41 (by decide) ?_
  first | refine z_istore_1 d_Tf_new_42 rfl ?_ | (refine z_forget_0 ?_; refine z_istore_1 d_Tf_new_42 rfl ?_)
  refine z_iload_1 d_Tf_new_43 ?_
  refine z_iconst (a := nI 4) d_Tf_new_44 (by decide) ?_
  refine z_icmp_ge (tgt := 67) d_Tf_new_45 (by decide) (fun h => absurd h (by decide)) (fun _ => ?_)
  refine z_aload_0 d_Tf_new_48 ?_
  refine z_getR d_Tf_new_49 f_Tf_29 (zS0_at rfl (by omega)) (show _ = some 2 from rfl) ?_
  refine z_iload_1 d_Tf_new_52 ?_
  refine z_nO (n0 := 3) d_Tf_new_53 w_Tf_27 ⟨Nat.le_of_ble_eq_true rfl, Nat.le_of_ble_eq_true rfl⟩ (by first | assumption | rfl) ?_
  refine z_dup rfl d_Tf_new_56 ?_
  refine z_I0 d_Tf_new_57 k_Tf_33 (show 3 < (zS0.take 4).length by decide +kernel) (t_Tray_new (g := 3) rfl rfl) ⟨Nat.le_of_ble_eq_true rfl, Nat.le_of_ble_eq_true rfl, Nat.le_of_ble_eq_true rfl, Nat.le_of_ble_eq_true rfl⟩ (Nat.le_of_ble_eq_true rfl) ?_
  intro w hq
  obtain rfl := hq
  refine z_ast5 d_Tf_new_60 (zS0_at rfl (by omega)) (n := 4) (vp_in_nI (by decide) (by decide)) (N := 4) (zS0_at rfl (by omega)) ?_
  rw [nI_clamp (by decide)]
  first | refine z_iinc_1 d_Tf_new_61 rfl (zi_inc _) ?_ | refine z_iinc_1 d_Tf_new_61 rfl rfl ?_
  refine z_goto (tgt := 43) d_Tf_new_64 (by decide) ?_
  refine z_iload_1 d_Tf_new_43 ?_
  refine z_iconst (a := nI 4) d_Tf_new_44 (by decide) ?_
  refine z_icmp_ge (tgt := 67) d_Tf_new_45 (by decide) (fun h => absurd h (by decide)) (fun _ => ?_)
  refine z_aload_0 d_Tf_new_48 ?_
  refine z_getR d_Tf_new_49 f_Tf_29 (zS0_at rfl (by omega)) (show _ = some 2 from rfl) ?_
  refine z_iload_1 d_Tf_new_52 ?_
  refine z_nO (n0 := 5) d_Tf_new_53 w_Tf_27 ⟨Nat.le_of_ble_eq_true rfl, Nat.le_of_ble_eq_true rfl⟩ (by first | assumption | rfl) ?_
  refine z_dup rfl d_Tf_new_56 ?_
  refine z_I0 d_Tf_new_57 k_Tf_33 (show 5 < (zS0.take 6).length by decide +kernel) (t_Tray_new (g := 5) rfl rfl) ⟨Nat.le_of_ble_eq_true rfl, Nat.le_of_ble_eq_true rfl, Nat.le_of_ble_eq_true rfl, Nat.le_of_ble_eq_true rfl⟩ (Nat.le_of_ble_eq_true rfl) ?_
  intro w hq
  obtain rfl := hq
  refine z_ast5 d_Tf_new_60 (zS0_at rfl (by omega)) (n := 4) (vp_in_nI (by decide) (by decide)) (N := 4) (zS0_at rfl (by omega)) ?_
  rw [nI_clamp (by decide)]
  first | refine z_iinc_1 d_Tf_new_61 rfl (zi_inc _) ?_ | refine z_iinc_1 d_Tf_new_61 rfl rfl ?_
  refine z_goto (tgt := 43) d_Tf_new_64 (by decide) ?_
  refine z_iload_1 d_Tf_new_43 ?_
  refine z_iconst (a := nI 4) d_Tf_new_44 (by decide) ?_
  refine z_icmp_ge (tgt := 67) d_Tf_new_45 (by decide) (fun h => absurd h (by decide)) (fun _ => ?_)
  refine z_aload_0 d_Tf_new_48 ?_
  refine z_getR d_Tf_new_49 f_Tf_29 (zS0_at rfl (by omega)) (show _ = some 2 from rfl) ?_
  refine z_iload_1 d_Tf_new_52 ?_
  refine z_nO (n0 := 7) d_Tf_new_53 w_Tf_27 ⟨Nat.le_of_ble_eq_true rfl, Nat.le_of_ble_eq_true rfl⟩ (by first | assumption | rfl) ?_
  refine z_dup rfl d_Tf_new_56 ?_
  refine z_I0 d_Tf_new_57 k_Tf_33 (show 7 < (zS0.take 8).length by decide +kernel) (t_Tray_new (g := 7) rfl rfl) ⟨Nat.le_of_ble_eq_true rfl, Nat.le_of_ble_eq_true rfl, Nat.le_of_ble_eq_true rfl, Nat.le_of_ble_eq_true rfl⟩ (Nat.le_of_ble_eq_true rfl) ?_
  intro w hq
  obtain rfl := hq
  refine z_ast5 d_Tf_new_60 (zS0_at rfl (by omega)) (n := 4) (vp_in_nI (by decide) (by decide)) (N := 4) (zS0_at rfl (by omega)) ?_
  rw [nI_clamp (by decide)]
  first | refine z_iinc_1 d_Tf_new_61 rfl (zi_inc _) ?_ | refine z_iinc_1 d_Tf_new_61 rfl rfl ?_
  refine z_goto (tgt := 43) d_Tf_new_64 (by decide) ?_
  refine z_iload_1 d_Tf_new_43 ?_
  refine z_iconst (a := nI 4) d_Tf_new_44 (by decide) ?_
  refine z_icmp_ge (tgt := 67) d_Tf_new_45 (by decide) (fun h => absurd h (by decide)) (fun _ => ?_)
  refine z_aload_0 d_Tf_new_48 ?_
  refine z_getR d_Tf_new_49 f_Tf_29 (zS0_at rfl (by omega)) (show _ = some 2 from rfl) ?_
  refine z_iload_1 d_Tf_new_52 ?_
  refine z_nO (n0 := 9) d_Tf_new_53 w_Tf_27 ⟨Nat.le_of_ble_eq_true rfl, Nat.le_of_ble_eq_true rfl⟩ (by first | assumption | rfl) ?_
  refine z_dup rfl d_Tf_new_56 ?_
  refine z_I0 d_Tf_new_57 k_Tf_33 (show 9 < (zS0.take 10).length by decide +kernel) (t_Tray_new (g := 9) rfl rfl) ⟨Nat.le_of_ble_eq_true rfl, Nat.le_of_ble_eq_true rfl, Nat.le_of_ble_eq_true rfl, Nat.le_of_ble_eq_true rfl⟩ (Nat.le_of_ble_eq_true rfl) ?_
  intro w hq
  obtain rfl := hq
  refine z_ast5 d_Tf_new_60 (zS0_at rfl (by omega)) (n := 4) (vp_in_nI (by decide) (by decide)) (N := 4) (zS0_at rfl (by omega)) ?_
  rw [nI_clamp (by decide)]
  first | refine z_iinc_1 d_Tf_new_61 rfl (zi_inc _) ?_ | refine z_iinc_1 d_Tf_new_61 rfl rfl ?_
  refine z_goto (tgt := 43) d_Tf_new_64 (by decide) ?_
  refine z_iload_1 d_Tf_new_43 ?_
  refine z_iconst (a := nI 4) d_Tf_new_44 (by decide) ?_
  refine z_icmp_ge (tgt := 67) d_Tf_new_45 (by decide) (fun _ => ?_) (fun h => absurd (by decide) h)
  refine z_aload_0 d_Tf_new_67 ?_
  refine z_nO (n0 := 11) d_Tf_new_68 w_Tf_34 ⟨Nat.le_of_ble_eq_true rfl, Nat.le_of_ble_eq_true rfl⟩ (by first | assumption | rfl) ?_
  refine z_dup rfl d_Tf_new_71 ?_
  refine z_I0 d_Tf_new_72 k_Tf_36 (show 11 < (zS0.take 12).length by decide +kernel) t_Tok_new ⟨Nat.le_of_ble_eq_true rfl, Nat.le_of_ble_eq_true rfl, Nat.le_of_ble_eq_true rfl, Nat.le_of_ble_eq_true rfl⟩ (Nat.le_of_ble_eq_true rfl) ?_
  rintro w ⟨I1, J1, P1, rfl, e1, e2, e3, e4, e5⟩
  refine z_putFR d_Tf_new_75 f_Tf_37 rfl ⟨_, _, rfl⟩ (by first | assumption | exact zS0_at (by assumption) (by omega) | exact zS0_at rfl (by omega)) (fun _ => ⟨rfl, rfl⟩) ?_
  refine z_forget_1 ?_
  refine tf_B ?_ ?_
  · refine ⟨⟨?_, ?_⟩, ⟨?_, ?_⟩, fun k => ?_, ⟨?_, ?_, ?_, ?_⟩, ⟨e3, e4⟩, e5⟩
    · rw [(e1 0 (by decide)).1]; rfl
    · rw [(e1 0 (by decide)).1]; rfl
    · rw [(e1 0 (by decide)).2.1]; rfl
    · rw [(e1 0 (by decide)).2.1]; rfl
    · rw [(e1 1 (by decide)).1]; rfl
    · rw [(e1 3 (by decide)).1]; rfl
    · rw [(e1 5 (by decide)).1]; rfl
    · rw [(e1 7 (by decide)).1]; rfl
    · rw [(e1 9 (by decide)).1]; rfl
  · unfold tabA
    refine List.forall_mem_cons.mpr ⟨by rw [zu_ne _ _ _ _ (by decide), (e1 0 (by decide)).2.2]; rfl, ?_⟩
    refine List.forall_mem_cons.mpr ⟨by rw [zu_ne _ _ _ _ (by decide), (e1 0 (by decide)).2.2]; rfl, ?_⟩
    refine List.forall_mem_cons.mpr ⟨zu_same _ _ _ _, ?_⟩
    refine List.forall_mem_cons.mpr ⟨by rw [zu_row _ _ _ _ (by decide), (e1 2 (by decide)).2.2]; rfl, ?_⟩
    refine List.forall_mem_cons.mpr ⟨by rw [zu_row _ _ _ _ (by decide), (e1 2 (by decide)).2.2]; rfl, ?_⟩
    refine List.forall_mem_cons.mpr ⟨by rw [zu_row _ _ _ _ (by decide), (e1 2 (by decide)).2.2]; rfl, ?_⟩
    refine List.forall_mem_cons.mpr ⟨by rw [zu_row _ _ _ _ (by decide), (e1 2 (by decide)).2.2]; rfl, ?_⟩
    refine List.forall_mem_cons.mpr ⟨by rw [zu_row _ _ _ _ (by decide), (e1 3 (by decide)).2.2]; rfl, ?_⟩
    refine List.forall_mem_cons.mpr ⟨by rw [zu_row _ _ _ _ (by decide), (e1 5 (by decide)).2.2]; rfl, ?_⟩
    refine List.forall_mem_cons.mpr ⟨by rw [zu_row _ _ _ _ (by decide), (e1 7 (by decide)).2.2]; rfl, ?_⟩
    refine List.forall_mem_cons.mpr ⟨by rw [zu_row _ _ _ _ (by decide), (e1 9 (by decide)).2.2]; rfl, ?_⟩
    refine List.forall_mem_cons.mpr ⟨by rw [zu_row _ _ _ _ (by decide)]; exact e2, ?_⟩
    exact fun _ h => absurd h List.not_mem_nil
end CV0
