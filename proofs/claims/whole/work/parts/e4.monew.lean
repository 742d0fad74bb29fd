/-! the constructor of the reference; what holds at the beginning -/
section CW0
variable {G : zG} {I I' : Nat → Nat → Int32} {J J' : Nat → Nat → Int64} {P P' : Nat → Nat → Option Nat} {S : List (Nat × Nat)}
def moQ (I : Nat → Nat → Int32) (J : Nat → Nat → Int64) : Prop := (I 145 0 = nI 0 ∧ I 145 8 = nI 0 ∧ I 145 10 = -1 ∧ I 145 11 = -1 ∧ I 145 23 = nI 0 ∧ I 145 38 = nI 0) ∧ (J 145 2 = lN 0 ∧ J 145 3 = lN 1) ∧ (I 147 0 = -1 ∧ I 147 1 = -1 ∧ I 147 2 = -1 ∧ I 147 3 = -1) ∧ (∀ k, I 149 k = 0) ∧ (I 150 0 = nI 0 ∧ I 150 1 = nI 0 ∧ I 150 2 = nI 0 ∧ I 150 3 = nI 0 ∧ I 150 4 = nI 8 ∧ I 150 5 = nI 0 ∧ I 150 87 = nI 0)
set_option maxHeartbeats 40000000 in
set_option maxRecDepth 100000 in
theorem t_Mo_new : zEv G y_Mo_new prog_14_method_1_code 2 2 14 3368 [.ref 145] (zz I 145 0, zz J 145 0, zz P 145 none, zS0.take 146) (fun w => ∃ I' J' P', w = (I', J', P', zS0.take 160) ∧ (∀ a, a < 145 → I' a = I a ∧ J' a = J a ∧ P' a = P a) ∧ moQ I' J' ∧ modOk P' (zS0.take 160)) := by
  refine zEv_of (lv := [some (.ref 145), none]) (by decide) rfl (Nat.le_of_ble_eq_true rfl) ?_
  refine z_aload_0 d_Mo_new_0 ?_
  refine z_obj d_Mo_new_1 k_Mo_1 o_inst o_code ⟨Nat.le_of_ble_eq_true rfl, Nat.le_of_ble_eq_true rfl⟩ (Nat.le_of_ble_eq_true rfl) ?_
  refine z_aload_0 d_Mo_new_4 ?_
  refine z_lconst (f := lN 1) d_Mo_new_5 rfl ?_
  refine z_putJ d_Mo_new_6 f_Mo_7 (by first | assumption | exact zS0_at (by assumption) (by omega) | exact zS0_at rfl (by omega)) ?_
  refine z_aload_0 d_Mo_new_9 ?_
  refine z_iconst (a := nI 4) d_Mo_new_10 (by decide) ?_
  refine z_nA100 (n0 := 146) d_Mo_new_11 (by decide) ⟨Nat.le_of_ble_eq_true rfl, Nat.le_of_ble_eq_true rfl⟩ (by first | assumption | rfl) ?_
  refine z_putFR d_Mo_new_13 f_Mo_13 rfl ⟨_, _, rfl⟩ (by first | assumption | exact zS0_at (by assumption) (by omega) | exact zS0_at rfl (by omega)) (fun _ => ⟨rfl, rfl⟩) ?_
  refine z_aload_0 d_Mo_new_16 ?_
  refine z_iconst (a := nI 4) d_Mo_new_17 (by decide) ?_
  refine z_nA100 (n0 := 147) d_Mo_new_18 (by decide) ⟨Nat.le_of_ble_eq_true rfl, Nat.le_of_ble_eq_true rfl⟩ (by first | assumption | rfl) ?_
  refine z_putFR d_Mo_new_20 f_Mo_17 rfl ⟨_, _, rfl⟩ (by first | assumption | exact zS0_at (by assumption) (by omega) | exact zS0_at rfl (by omega)) (fun _ => ⟨rfl, rfl⟩) ?_
  refine z_aload_0 d_Mo_new_23 ?_
  refine z_sipush (a := nI 240) d_Mo_new_24 (by decide) ?_
  refine z_nA101 (n0 := 148) d_Mo_new_27 (by decide) ⟨Nat.le_of_ble_eq_true rfl, Nat.le_of_ble_eq_true rfl⟩ (by first | assumption | rfl) ?_
  refine z_putFR d_Mo_new_29 f_Mo_20 rfl ⟨_, _, rfl⟩ (by first | assumption | exact zS0_at (by assumption) (by omega) | exact zS0_at rfl (by omega)) (fun _ => ⟨rfl, rfl⟩) ?_
  refine z_aload_0 d_Mo_new_32 ?_
  refine z_sipush (a := nI 900) d_Mo_new_33 (by decide) ?_
  refine z_nA102 (n0 := 149) d_Mo_new_36 (by decide) ⟨Nat.le_of_ble_eq_true rfl, Nat.le_of_ble_eq_true rfl⟩ (by first | assumption | rfl) ?_
  refine z_putFR d_Mo_new_38 f_Mo_24 rfl ⟨_, _, rfl⟩ (by first | assumption | exact zS0_at (by assumption) (by omega) | exact zS0_at rfl (by omega)) (fun _ => ⟨rfl, rfl⟩) ?_
  refine z_aload_0 d_Mo_new_41 ?_
  refine z_iconst (a := -1) d_Mo_new_42 (by decide) ?_
  refine z_putI d_Mo_new_43 f_Mo_28 (by first | assumption | exact zS0_at (by assumption) (by omega) | exact zS0_at rfl (by omega)) ?_
  refine z_aload_0 d_Mo_new_46 ?_
  refine z_iconst (a := -1) d_Mo_new_47 (by decide) ?_
  refine z_putI d_Mo_new_48 f_Mo_32 (by first | assumption | exact zS0_at (by assumption) (by omega) | exact zS0_at rfl (by omega)) ?_
  refine z_aload_0 d_Mo_new_51 ?_
  refine z_sipush (a := nI 1795) d_Mo_new_52 (by decide) ?_
  refine z_nA100 (n0 := 150) d_Mo_new_55 (by decide) ⟨Nat.le_of_ble_eq_true rfl, Nat.le_of_ble_eq_true rfl⟩ (by first | assumption | rfl) ?_
  refine z_putFR d_Mo_new_57 f_Mo_35 rfl ⟨_, _, rfl⟩ (by first | assumption | exact zS0_at (by assumption) (by omega) | exact zS0_at rfl (by omega)) (fun _ => ⟨rfl, rfl⟩) ?_
  refine z_aload_0 d_Mo_new_60 ?_
  refine z_bipush (a := nI 87) d_Mo_new_61 (by decide) ?_
  refine z_nA100 (n0 := 151) d_Mo_new_63 (by decide) ⟨Nat.le_of_ble_eq_true rfl, Nat.le_of_ble_eq_true rfl⟩ (by first | assumption | rfl) ?_
  refine z_putFR d_Mo_new_65 f_Mo_38 rfl ⟨_, _, rfl⟩ (by first | assumption | exact zS0_at (by assumption) (by omega) | exact zS0_at rfl (by omega)) (fun _ => ⟨rfl, rfl⟩) ?_
  refine z_aload_0 d_Mo_new_68 ?_
  refine z_bipush (a := nI 110) d_Mo_new_69 (by decide) ?_
  refine z_nA101 (n0 := 152) d_Mo_new_71 (by decide) ⟨Nat.le_of_ble_eq_true rfl, Nat.le_of_ble_eq_true rfl⟩ (by first | assumption | rfl) ?_
  refine z_putFR d_Mo_new_73 f_Mo_41 rfl ⟨_, _, rfl⟩ (by first | assumption | exact zS0_at (by assumption) (by omega) | exact zS0_at rfl (by omega)) (fun _ => ⟨rfl, rfl⟩) ?_
  refine z_aload_0 d_Mo_new_76 ?_
  refine z_bipush (a := nI 7) d_Mo_new_77 (by decide) ?_
  refine z_nA100 (n0 := 153) d_Mo_new_79 (by decide) ⟨Nat.le_of_ble_eq_true rfl, Nat.le_of_ble_eq_true rfl⟩ (by first | assumption | rfl) ?_
  refine z_putFR d_Mo_new_81 f_Mo_44 rfl ⟨_, _, rfl⟩ (by first | assumption | exact zS0_at (by assumption) (by omega) | exact zS0_at rfl (by omega)) (fun _ => ⟨rfl, rfl⟩) ?_
  refine z_aload_0 d_Mo_new_84 ?_
  refine z_bipush (a := nI 7) d_Mo_new_85 (by decide) ?_
  refine z_nA100 (n0 := 154) d_Mo_new_87 (by decide) ⟨Nat.le_of_ble_eq_true rfl, Nat.le_of_ble_eq_true rfl⟩ (by first | assumption | rfl) ?_
  refine z_putFR d_Mo_new_89 f_Mo_47 rfl ⟨_, _, rfl⟩ (by first | assumption | exact zS0_at (by assumption) (by omega) | exact zS0_at rfl (by omega)) (fun _ => ⟨rfl, rfl⟩) ?_
  refine z_aload_0 d_Mo_new_92 ?_
  refine z_bipush (a := nI 7) d_Mo_new_93 (by decide) ?_
  refine z_nA100 (n0 := 155) d_Mo_new_95 (by decide) ⟨Nat.le_of_ble_eq_true rfl, Nat.le_of_ble_eq_true rfl⟩ (by first | assumption | rfl) ?_
  refine z_putFR d_Mo_new_97 f_Mo_50 rfl ⟨_, _, rfl⟩ (by first | assumption | exact zS0_at (by assumption) (by omega) | exact zS0_at rfl (by omega)) (fun _ => ⟨rfl, rfl⟩) ?_
  refine z_aload_0 d_Mo_new_100 ?_
  refine z_sipush (a := nI 128) d_Mo_new_101 (by decide) ?_
  refine z_nA100 (n0 := 156) d_Mo_new_104 (by decide) ⟨Nat.le_of_ble_eq_true rfl, Nat.le_of_ble_eq_true rfl⟩ (by first | assumption | rfl) ?_
  refine z_putFR d_Mo_new_106 f_Mo_53 rfl ⟨_, _, rfl⟩ (by first | assumption | exact zS0_at (by assumption) (by omega) | exact zS0_at rfl (by omega)) (fun _ => ⟨rfl, rfl⟩) ?_
  refine z_aload_0 d_Mo_new_109 ?_
  refine z_bipush (a := nI 64) d_Mo_new_110 (by decide) ?_
  refine z_nA103 (n0 := 157) d_Mo_new_112 (by decide) ⟨Nat.le_of_ble_eq_true rfl, Nat.le_of_ble_eq_true rfl⟩ (by first | assumption | rfl) ?_
  refine z_putFR d_Mo_new_114 f_Mo_56 rfl ⟨_, _, rfl⟩ (by first | assumption | exact zS0_at (by assumption) (by omega) | exact zS0_at rfl (by omega)) (fun _ => ⟨rfl, rfl⟩) ?_
  refine z_aload_0 d_Mo_new_117 ?_
  refine z_bipush (a := nI 10) d_Mo_new_118 (by decide) ?_
  refine z_nA101 (n0 := 158) d_Mo_new_120 (by decide) ⟨Nat.le_of_ble_eq_true rfl, Nat.le_of_ble_eq_true rfl⟩ (by first | assumption | rfl) ?_
  refine z_putFR d_Mo_new_122 f_Mo_60 rfl ⟨_, _, rfl⟩ (by first | assumption | exact zS0_at (by assumption) (by omega) | exact zS0_at rfl (by omega)) (fun _ => ⟨rfl, rfl⟩) ?_
  refine z_aload_0 d_Mo_new_125 ?_
  refine z_iconst (a := nI 5) d_Mo_new_126 (by decide) ?_
  refine z_nA100 (n0 := 159) d_Mo_new_127 (by decide) ⟨Nat.le_of_ble_eq_true rfl, Nat.le_of_ble_eq_true rfl⟩ (by first | assumption | rfl) ?_
  refine z_putFR d_Mo_new_129 f_Mo_63 rfl ⟨_, _, rfl⟩ (by first | assumption | exact zS0_at (by assumption) (by omega) | exact zS0_at rfl (by omega)) (fun _ => ⟨rfl, rfl⟩) ?_
  refine z_iconst (a := nI 0) d_Mo_new_132 (by decide) ?_
  first | refine z_istore_1 d_Mo_new_133 rfl ?_ | (refine z_forget_0 ?_; refine z_istore_1 d_Mo_new_133 rfl ?_)
  refine z_iload_1 d_Mo_new_134 ?_
  refine z_iconst (a := nI 4) d_Mo_new_135 (by decide) ?_
  refine z_icmp_ge (tgt := 152) d_Mo_new_136 (by decide) (fun h => absurd h (by decide)) (fun _ => ?_)
  refine z_aload_0 d_Mo_new_139 ?_
  refine z_getR d_Mo_new_140 f_Mo_17 (zS0_at rfl (by omega)) (show _ = some 147 from rfl) ?_
  refine z_iload_1 d_Mo_new_143 ?_
  refine z_iconst (a := -1) d_Mo_new_144 (by decide) ?_
  first | refine z_iastN d_Mo_new_145 (by first | assumption | exact zS0_at (by assumption) (by omega) | exact zS0_at rfl (by omega)) (by omega) (by first | decide | omega) ?_ | refine z_iast d_Mo_new_145 (by first | assumption | exact zS0_at (by assumption) (by omega) | exact zS0_at rfl (by omega)) (by first | assumption | exact zS0_at (by assumption) (by omega) | exact zS0_at rfl (by omega)) ?_
  first | refine z_iinc_1 d_Mo_new_146 rfl (zi_inc _) ?_ | refine z_iinc_1 d_Mo_new_146 rfl rfl ?_
  refine z_goto (tgt := 134) d_Mo_new_149 (by decide) ?_
  refine z_iload_1 d_Mo_new_134 ?_
  refine z_iconst (a := nI 4) d_Mo_new_135 (by decide) ?_
  refine z_icmp_ge (tgt := 152) d_Mo_new_136 (by decide) (fun h => absurd h (by decide)) (fun _ => ?_)
  refine z_aload_0 d_Mo_new_139 ?_
  refine z_getR d_Mo_new_140 f_Mo_17 (zS0_at rfl (by omega)) (show _ = some 147 from rfl) ?_
  refine z_iload_1 d_Mo_new_143 ?_
  refine z_iconst (a := -1) d_Mo_new_144 (by decide) ?_
  first | refine z_iastN d_Mo_new_145 (by first | assumption | exact zS0_at (by assumption) (by omega) | exact zS0_at rfl (by omega)) (by omega) (by first | decide | omega) ?_ | refine z_iast d_Mo_new_145 (by first | assumption | exact zS0_at (by assumption) (by omega) | exact zS0_at rfl (by omega)) (by first | assumption | exact zS0_at (by assumption) (by omega) | exact zS0_at rfl (by omega)) ?_
  first | refine z_iinc_1 d_Mo_new_146 rfl (zi_inc _) ?_ | refine z_iinc_1 d_Mo_new_146 rfl rfl ?_
  refine z_goto (tgt := 134) d_Mo_new_149 (by decide) ?_
  refine z_iload_1 d_Mo_new_134 ?_
  refine z_iconst (a := nI 4) d_Mo_new_135 (by decide) ?_
  refine z_icmp_ge (tgt := 152) d_Mo_new_136 (by decide) (fun h => absurd h (by decide)) (fun _ => ?_)
  refine z_aload_0 d_Mo_new_139 ?_
  refine z_getR d_Mo_new_140 f_Mo_17 (zS0_at rfl (by omega)) (show _ = some 147 from rfl) ?_
  refine z_iload_1 d_Mo_new_143 ?_
  refine z_iconst (a := -1) d_Mo_new_144 (by decide) ?_
  first | refine z_iastN d_Mo_new_145 (by first | assumption | exact zS0_at (by assumption) (by omega) | exact zS0_at rfl (by omega)) (by omega) (by first | decide | omega) ?_ | refine z_iast d_Mo_new_145 (by first | assumption | exact zS0_at (by assumption) (by omega) | exact zS0_at rfl (by omega)) (by first | assumption | exact zS0_at (by assumption) (by omega) | exact zS0_at rfl (by omega)) ?_
  first | refine z_iinc_1 d_Mo_new_146 rfl (zi_inc _) ?_ | refine z_iinc_1 d_Mo_new_146 rfl rfl ?_
  refine z_goto (tgt := 134) d_Mo_new_149 (by decide) ?_
  refine z_iload_1 d_Mo_new_134 ?_
  refine z_iconst (a := nI 4) d_Mo_new_135 (by decide) ?_
  refine z_icmp_ge (tgt := 152) d_Mo_new_136 (by decide) (fun h => absurd h (by decide)) (fun _ => ?_)
  refine z_aload_0 d_Mo_new_139 ?_
  refine z_getR d_Mo_new_140 f_Mo_17 (zS0_at rfl (by omega)) (show _ = some 147 from rfl) ?_
  refine z_iload_1 d_Mo_new_143 ?_
  refine z_iconst (a := -1) d_Mo_new_144 (by decide) ?_
  first | refine z_iastN d_Mo_new_145 (by first | assumption | exact zS0_at (by assumption) (by omega) | exact zS0_at rfl (by omega)) (by omega) (by first | decide | omega) ?_ | refine z_iast d_Mo_new_145 (by first | assumption | exact zS0_at (by assumption) (by omega) | exact zS0_at rfl (by omega)) (by first | assumption | exact zS0_at (by assumption) (by omega) | exact zS0_at rfl (by omega)) ?_
  first | refine z_iinc_1 d_Mo_new_146 rfl (zi_inc _) ?_ | refine z_iinc_1 d_Mo_new_146 rfl rfl ?_
  refine z_goto (tgt := 134) d_Mo_new_149 (by decide) ?_
  refine z_iload_1 d_Mo_new_134 ?_
  refine z_iconst (a := nI 4) d_Mo_new_135 (by decide) ?_
  refine z_icmp_ge (tgt := 152) d_Mo_new_136 (by decide) (fun _ => ?_) (fun h => absurd (by decide) h)
  refine z_aload_0 d_Mo_new_152 ?_
  refine z_iconst (a := nI 0) d_Mo_new_153 (by decide) ?_
  refine z_Vv1 d_Mo_new_154 k_Mo_66 (zS0_at rfl (by omega)) (t_Mo_empties ⟨zS0_at rfl (by omega), ⟨rfl, zS0_at rfl (by omega)⟩, ⟨rfl, zS0_at rfl (by omega)⟩, ⟨rfl, zS0_at rfl (by omega)⟩, ⟨rfl, zS0_at rfl (by omega)⟩, ⟨rfl, zS0_at rfl (by omega)⟩, ⟨rfl, zS0_at rfl (by omega)⟩, ⟨rfl, zS0_at rfl (by omega)⟩, ⟨rfl, zS0_at rfl (by omega)⟩, ⟨rfl, zS0_at rfl (by omega)⟩, ⟨rfl, zS0_at rfl (by omega)⟩, ⟨rfl, zS0_at rfl (by omega)⟩, ⟨rfl, zS0_at rfl (by omega)⟩, ⟨rfl, zS0_at rfl (by omega)⟩, ⟨rfl, zS0_at rfl (by omega)⟩⟩ (by decide)) ⟨Nat.le_of_ble_eq_true rfl, Nat.le_of_ble_eq_true rfl, Nat.le_of_ble_eq_true rfl, Nat.le_of_ble_eq_true rfl⟩ (Nat.le_of_ble_eq_true rfl) ?_
  intro w hq
  obtain rfl := hq
  refine z_retv d_Mo_new_157 ?_
  refine ⟨_, _, _, rfl, fun a ha => ⟨?_, ?_, ?_⟩, ?_, ⟨zS0_at rfl (by omega), ⟨rfl, zS0_at rfl (by omega)⟩, ⟨rfl, zS0_at rfl (by omega)⟩, ⟨rfl, zS0_at rfl (by omega)⟩, ⟨rfl, zS0_at rfl (by omega)⟩, ⟨rfl, zS0_at rfl (by omega)⟩, ⟨rfl, zS0_at rfl (by omega)⟩, ⟨rfl, zS0_at rfl (by omega)⟩, ⟨rfl, zS0_at rfl (by omega)⟩, ⟨rfl, zS0_at rfl (by omega)⟩, ⟨rfl, zS0_at rfl (by omega)⟩, ⟨rfl, zS0_at rfl (by omega)⟩, ⟨rfl, zS0_at rfl (by omega)⟩, ⟨rfl, zS0_at rfl (by omega)⟩, ⟨rfl, zS0_at rfl (by omega)⟩⟩⟩
  · unfold m_empt
    rw [zu_row _ _ _ _ (by omega), zfr_row (by omega)]
    repeat (first | rw [zu_row _ _ _ _ (by omega)] | rw [zz_row _ _ _ (by omega)])
  · repeat (first | rw [zu_row _ _ _ _ (by omega)] | rw [zz_row _ _ _ (by omega)])
  · repeat (first | rw [zu_row _ _ _ _ (by omega)] | rw [zz_row _ _ _ (by omega)])
  · exact ⟨⟨rfl, rfl, rfl, rfl, rfl, rfl⟩, ⟨rfl, rfl⟩, ⟨rfl, rfl, rfl, rfl⟩, fun k => rfl, ⟨rfl, rfl, rfl, rfl, rfl, rfl, rfl⟩⟩
theorem zS0_160 : zS0.take 160 = zS0 := by decide +kernel
theorem fen_0 {f : Nat} (hf : f = 18 ∨ f = 35 ∨ f = 52 ∨ f = 70 ∨ f = 87 ∨ f = 104) (h : ∀ q ∈ tabB, P q.1 q.2.1 = some q.2.2) : fenOk P zS0 f := by
  rcases hf with rfl | rfl | rfl | rfl | rfl | rfl
  · exact ⟨rfl, ⟨h (18, 8, 19) (by decide +kernel), rfl⟩, ⟨h (18, 9, 20) (by decide +kernel), rfl⟩, ⟨h (18, 10, 21) (by decide +kernel), rfl⟩, ⟨h (18, 11, 22) (by decide +kernel), rfl⟩, ⟨h (18, 12, 23) (by decide +kernel), rfl⟩, ⟨h (18, 13, 24) (by decide +kernel), rfl⟩, ⟨h (18, 14, 25) (by decide +kernel), rfl⟩, ⟨h (18, 15, 26) (by decide +kernel), rfl⟩, ⟨h (18, 16, 27) (by decide +kernel), rfl⟩, ⟨h (18, 17, 28) (by decide +kernel), rfl⟩, ⟨h (18, 18, 29) (by decide +kernel), rfl⟩, ⟨h (18, 19, 30) (by decide +kernel), rfl⟩, ⟨h (30, 3, 31) (by decide +kernel), rfl⟩, ⟨h (30, 4, 32) (by decide +kernel), rfl⟩, ⟨h (30, 5, 33) (by decide +kernel), rfl⟩, ⟨h (30, 6, 34) (by decide +kernel), rfl⟩⟩
  · exact ⟨rfl, ⟨h (35, 8, 36) (by decide +kernel), rfl⟩, ⟨h (35, 9, 37) (by decide +kernel), rfl⟩, ⟨h (35, 10, 38) (by decide +kernel), rfl⟩, ⟨h (35, 11, 39) (by decide +kernel), rfl⟩, ⟨h (35, 12, 40) (by decide +kernel), rfl⟩, ⟨h (35, 13, 41) (by decide +kernel), rfl⟩, ⟨h (35, 14, 42) (by decide +kernel), rfl⟩, ⟨h (35, 15, 43) (by decide +kernel), rfl⟩, ⟨h (35, 16, 44) (by decide +kernel), rfl⟩, ⟨h (35, 17, 45) (by decide +kernel), rfl⟩, ⟨h (35, 18, 46) (by decide +kernel), rfl⟩, ⟨h (35, 19, 47) (by decide +kernel), rfl⟩, ⟨h (47, 3, 48) (by decide +kernel), rfl⟩, ⟨h (47, 4, 49) (by decide +kernel), rfl⟩, ⟨h (47, 5, 50) (by decide +kernel), rfl⟩, ⟨h (47, 6, 51) (by decide +kernel), rfl⟩⟩
  · exact ⟨rfl, ⟨h (52, 8, 53) (by decide +kernel), rfl⟩, ⟨h (52, 9, 54) (by decide +kernel), rfl⟩, ⟨h (52, 10, 55) (by decide +kernel), rfl⟩, ⟨h (52, 11, 56) (by decide +kernel), rfl⟩, ⟨h (52, 12, 57) (by decide +kernel), rfl⟩, ⟨h (52, 13, 58) (by decide +kernel), rfl⟩, ⟨h (52, 14, 59) (by decide +kernel), rfl⟩, ⟨h (52, 15, 60) (by decide +kernel), rfl⟩, ⟨h (52, 16, 61) (by decide +kernel), rfl⟩, ⟨h (52, 17, 62) (by decide +kernel), rfl⟩, ⟨h (52, 18, 63) (by decide +kernel), rfl⟩, ⟨h (52, 19, 64) (by decide +kernel), rfl⟩, ⟨h (64, 3, 65) (by decide +kernel), rfl⟩, ⟨h (64, 4, 66) (by decide +kernel), rfl⟩, ⟨h (64, 5, 67) (by decide +kernel), rfl⟩, ⟨h (64, 6, 68) (by decide +kernel), rfl⟩⟩
  · exact ⟨rfl, ⟨h (70, 8, 71) (by decide +kernel), rfl⟩, ⟨h (70, 9, 72) (by decide +kernel), rfl⟩, ⟨h (70, 10, 73) (by decide +kernel), rfl⟩, ⟨h (70, 11, 74) (by decide +kernel), rfl⟩, ⟨h (70, 12, 75) (by decide +kernel), rfl⟩, ⟨h (70, 13, 76) (by decide +kernel), rfl⟩, ⟨h (70, 14, 77) (by decide +kernel), rfl⟩, ⟨h (70, 15, 78) (by decide +kernel), rfl⟩, ⟨h (70, 16, 79) (by decide +kernel), rfl⟩, ⟨h (70, 17, 80) (by decide +kernel), rfl⟩, ⟨h (70, 18, 81) (by decide +kernel), rfl⟩, ⟨h (70, 19, 82) (by decide +kernel), rfl⟩, ⟨h (82, 3, 83) (by decide +kernel), rfl⟩, ⟨h (82, 4, 84) (by decide +kernel), rfl⟩, ⟨h (82, 5, 85) (by decide +kernel), rfl⟩, ⟨h (82, 6, 86) (by decide +kernel), rfl⟩⟩
  · exact ⟨rfl, ⟨h (87, 8, 88) (by decide +kernel), rfl⟩, ⟨h (87, 9, 89) (by decide +kernel), rfl⟩, ⟨h (87, 10, 90) (by decide +kernel), rfl⟩, ⟨h (87, 11, 91) (by decide +kernel), rfl⟩, ⟨h (87, 12, 92) (by decide +kernel), rfl⟩, ⟨h (87, 13, 93) (by decide +kernel), rfl⟩, ⟨h (87, 14, 94) (by decide +kernel), rfl⟩, ⟨h (87, 15, 95) (by decide +kernel), rfl⟩, ⟨h (87, 16, 96) (by decide +kernel), rfl⟩, ⟨h (87, 17, 97) (by decide +kernel), rfl⟩, ⟨h (87, 18, 98) (by decide +kernel), rfl⟩, ⟨h (87, 19, 99) (by decide +kernel), rfl⟩, ⟨h (99, 3, 100) (by decide +kernel), rfl⟩, ⟨h (99, 4, 101) (by decide +kernel), rfl⟩, ⟨h (99, 5, 102) (by decide +kernel), rfl⟩, ⟨h (99, 6, 103) (by decide +kernel), rfl⟩⟩
  · exact ⟨rfl, ⟨h (104, 8, 105) (by decide +kernel), rfl⟩, ⟨h (104, 9, 106) (by decide +kernel), rfl⟩, ⟨h (104, 10, 107) (by decide +kernel), rfl⟩, ⟨h (104, 11, 108) (by decide +kernel), rfl⟩, ⟨h (104, 12, 109) (by decide +kernel), rfl⟩, ⟨h (104, 13, 110) (by decide +kernel), rfl⟩, ⟨h (104, 14, 111) (by decide +kernel), rfl⟩, ⟨h (104, 15, 112) (by decide +kernel), rfl⟩, ⟨h (104, 16, 113) (by decide +kernel), rfl⟩, ⟨h (104, 17, 114) (by decide +kernel), rfl⟩, ⟨h (104, 18, 115) (by decide +kernel), rfl⟩, ⟨h (104, 19, 116) (by decide +kernel), rfl⟩, ⟨h (116, 3, 117) (by decide +kernel), rfl⟩, ⟨h (116, 4, 118) (by decide +kernel), rfl⟩, ⟨h (116, 5, 119) (by decide +kernel), rfl⟩, ⟨h (116, 6, 120) (by decide +kernel), rfl⟩⟩
theorem z_start (h1 : tfQ I J P) (h2 : ∀ a, a < 145 → I' a = I a ∧ J' a = J a ∧ P' a = P a) (h3 : moQ I' J') (h4 : modOk P' (zS0.take 160)) : zInv 0 (I', J', P', zS0.take 160) := by
  rw [zS0_160] at h4 ⊢
  obtain ⟨⟨⟨i1, i2⟩, ⟨i3, i4⟩, i5, ⟨i6, i7, i8, i9⟩, ⟨i10, i11⟩, i12⟩, i13, ⟨a0, a1, a2, a3, a4, a5, a6, a7⟩, ⟨y0, y2⟩, l0, pA0, pB0⟩ := h1
  have pA : ∀ q ∈ tabA, P' q.1 q.2.1 = some q.2.2 := fun q hq => by
    have hlt : ∀ q ∈ tabA, q.1 < 145 := by decide +kernel
    rw [(h2 _ (hlt q hq)).2.2]; exact pA0 q hq
  have pB : ∀ q ∈ tabB, P' q.1 q.2.1 = some q.2.2 := fun q hq => by
    have hlt : ∀ q ∈ tabB, q.1 < 145 := by decide +kernel
    rw [(h2 _ (hlt q hq)).2.2]; exact pB0 q hq
  obtain ⟨⟨m0, m8, m10, m11, m23, m38⟩, ⟨n2, n3⟩, ⟨t0, t1, t2, t3⟩, tp, ⟨r0, r1, r2, r3, r4, r5, r87⟩⟩ := h3
  have eI : ∀ a k, a < 145 → I' a k = I a k := fun a k ha => by rw [(h2 a ha).1]
  have eJ : ∀ a k, a < 145 → J' a k = J a k := fun a k ha => by rw [(h2 a ha).2.1]
  refine ⟨18, 35, 0, 0, 0, 0, 0, 0, I', J', P', zS0, rfl, ?_, ?_⟩
  · refine ⟨⟨rfl, pA (0, 3, 1) (by decide), rfl⟩, ⟨pA (0, 5, 2) (by decide), rfl, fun t ht => ?_⟩, ⟨pA (0, 6, 11) (by decide), rfl, pA (11, 3, 13) (by decide), rfl⟩, ⟨pB (0, 7, 15) (by decide), rfl, pB (15, 0, 11) (by decide)⟩, ⟨pB (0, 8, 16) (by decide), rfl, pB (16, 0, 11) (by decide), pB (16, 1, 17) (by decide), rfl⟩, ⟨pB (0, 9, 18) (by decide), pB (0, 10, 35) (by decide), Or.inl ⟨rfl, rfl⟩, fen_0 (by omega) pB, fen_0 (by omega) pB⟩, ⟨pB (0, 11, 52) (by decide), fen_0 (by omega) pB⟩, ⟨pB (0, 12, 69) (by decide), rfl, fun m hm => ?_⟩, ⟨pB (0, 14, 121) (by decide), rfl, pB (121, 9, 122) (by decide), rfl⟩, ⟨pB (0, 15, 123) (by decide), rfl, pB (123, 9, 124) (by decide), rfl⟩, ⟨pB (0, 16, 125) (by decide), rfl, pB (125, 0, 126) (by decide), rfl⟩, ⟨pB (0, 17, 127) (by decide), rfl, pB (127, 0, 128) (by decide), rfl, fun i hi => ?_⟩, ⟨pB (0, 18, 139) (by decide), rfl, pB (139, 3, 140) (by decide), rfl⟩, ⟨pB (0, 19, 141) (by decide), rfl, ⟨pB (141, 2, 142) (by decide), rfl⟩, ⟨pB (141, 3, 143) (by decide), rfl⟩, ⟨pB (141, 4, 144) (by decide), rfl⟩⟩, h4⟩
    · rcases (show t = 0 ∨ t = 1 ∨ t = 2 ∨ t = 3 by omega) with rfl | rfl | rfl | rfl
      · exact ⟨pA (2, 0, 3) (by decide), rfl, pA (3, 3, 4) (by decide), rfl⟩
      · exact ⟨pA (2, 1, 5) (by decide), rfl, pA (5, 3, 6) (by decide), rfl⟩
      · exact ⟨pA (2, 2, 7) (by decide), rfl, pA (7, 3, 8) (by decide), rfl⟩
      · exact ⟨pA (2, 3, 9) (by decide), rfl, pA (9, 3, 10) (by decide), rfl⟩
    · rcases (show m = 0 ∨ m = 1 ∨ m = 2 by omega) with rfl | rfl | rfl
      · exact ⟨pB (69, 0, 70) (by decide), fen_0 (by omega) pB⟩
      · exact ⟨pB (69, 1, 87) (by decide), fen_0 (by omega) pB⟩
      · exact ⟨pB (69, 2, 104) (by decide), fen_0 (by omega) pB⟩
    · have hq : ∀ i, i < 10 → (128, i, 129 + i) ∈ tabB ∧ zS0[129 + i]? = some (100, 128) := by decide +kernel
      exact ⟨pB (128, i, 129 + i) (hq i hi).1, (hq i hi).2⟩
  · refine ⟨⟨?_, ?_, ?_⟩, fun t ht => ?_, ⟨⟨?_, m8, by omega⟩, fun k hk => ?_, fun k => ⟨0, by decide, ?_⟩⟩, ⟨?_, ?_⟩, fun i hi => ?_, ⟨?_, ⟨fun k hk => absurd hk (Nat.not_lt_zero _), fun k hk => absurd hk (Nat.not_lt_zero _), fun k hk => absurd hk (Nat.not_lt_zero _)⟩, Or.inl ⟨?_, r87, ?_⟩⟩, ⟨⟨?_, m23, by omega⟩, fun m hm => absurd hm (Nat.not_lt_zero _)⟩, Or.inl ⟨?_, m38⟩⟩
    · rw [m0, eI 0 0 (by decide), i1]
    · rw [n2, eJ 0 1 (by decide), i3]
    · rw [n3, eJ 0 2 (by decide), i4]
    · rcases (show t = 0 ∨ t = 1 ∨ t = 2 ∨ t = 3 by omega) with rfl | rfl | rfl | rfl
      · exact Or.inl ⟨(eI 3 0 (by decide)).trans i6, t0⟩
      · exact Or.inl ⟨(eI 5 0 (by decide)).trans i7, t1⟩
      · exact Or.inl ⟨(eI 7 0 (by decide)).trans i8, t2⟩
      · exact Or.inl ⟨(eI 9 0 (by decide)).trans i9, t3⟩
    · rw [eI 0 4 (by decide), i2]
    · rw [tp k, eI 1 k (by decide), i5 k]
    · rw [eI 1 k (by decide), i5 k]; decide
    · rw [m10, eI 11 10 (by decide), i10]
    · rw [m11, eI 11 11 (by decide), i11]
    · rw [eJ 13 i (by decide)]; exact i12 i hi
    · refine ⟨⟨⟨(eI 18 1 (by decide)).trans a1, r0, by omega⟩, ⟨(eI 18 2 (by decide)).trans a2, r1, by omega⟩, ⟨(eI 18 3 (by decide)).trans a3, r2, by omega⟩, ⟨(eI 18 4 (by decide)).trans a4, r3, by omega⟩⟩, ⟨⟨8, by decide, (eI 18 0 (by decide)).trans a0, r4⟩, ?_⟩, fun k hk => absurd hk (Nat.not_lt_zero _), fun k hk => absurd hk (Nat.not_lt_zero _), fun k hk => absurd hk (Nat.not_lt_zero _), fun t _ ht => ?_⟩
      · show I' 150 5 = I' 18 5
        rw [r5, eI 18 5 (by decide), a5]
      · have e6 : sf 18 I' 0 6 = nI 0 := (eI 18 6 (by decide)).trans a6
        have e7 : sf 18 I' 0 7 = nI 0 := (eI 18 7 (by decide)).trans a7
        rw [e6, e7, zB_nI ht, Nat.zero_testBit]
        exact ⟨rfl, rfl⟩
    · rw [eI 30 0 (by decide), y0]
    · rw [eI 30 2 (by decide), y2]
    · rw [eI 0 13 (by decide), i13]
    · rw [eI 121 0 (by decide), l0]
end CW0
