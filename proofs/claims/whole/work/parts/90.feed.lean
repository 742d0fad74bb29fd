/-! the tape, both sides: feed -/
section TY5
variable {G : zG} {I I' I2 : Nat → Nat → Int32} {J J' J2 : Nat → Nat → Int64} {P : Nat → Nat → Option Nat} {S : List (Nat × Nat)} {f d nt np nl nn n fed mk : Nat} {a b c e g : Int32} {w : zW} {T T' R R' : Nat → Int32}
def by1 (a : Int32) (s : Nat) : Int32 := vp_nar .byte (a >>> (nI s &&& 31)).toInt8.toInt32
theorem by1_ok (a : Int32) (s : Nat) : ∃ n, n < 256 ∧ by1 a s = byt n := by
  refine ⟨((a >>> (nI s &&& 31)).toInt8.toInt32.toInt8).toBitVec.toNat, ((a >>> (nI s &&& 31)).toInt8.toInt32.toInt8).toBitVec.isLt, ?_⟩
  show ((a >>> (nI s &&& 31)).toInt8.toInt32.toInt8).toInt32 = (Int8.ofNat _).toInt32
  refine congrArg Int8.toInt32 ?_
  apply Int8.toBitVec_inj.mp
  show _ = BitVec.ofNat 8 _
  rw [BitVec.ofNat_toNat, BitVec.setWidth_eq]
/-- four bytes more -/
def pb4 (T T' : Nat → Int32) (fed : Nat) (a : Int32) : Prop := (∀ k, (k < fed ∨ fed + 4 ≤ k) → T' k = T k) ∧ T' fed = by1 a 24 ∧ T' (fed + 1) = by1 a 16 ∧ T' (fed + 2) = by1 a 8 ∧ T' (fed + 3) = by1 a 0
theorem pb4_eq (h1 : pb4 T T' fed a) (h2 : pb4 R R' fed a) (h : ∀ k, k < 900 → R k = T k) : ∀ k, k < 900 → R' k = T' k := by
  intro k hk
  by_cases h3 : k < fed ∨ fed + 4 ≤ k
  · rw [h1.1 k h3, h2.1 k h3]; exact h k hk
  · rcases (show k = fed ∨ k = fed + 1 ∨ k = fed + 2 ∨ k = fed + 3 by omega) with rfl | rfl | rfl | rfl
    · rw [h1.2.1, h2.2.1]
    · rw [h1.2.2.1, h2.2.2.1]
    · rw [h1.2.2.2.1, h2.2.2.2.1]
    · rw [h1.2.2.2.2, h2.2.2.2.2]
theorem pb4_ok (h1 : pb4 T T' fed a) (h : bytOk T) : bytOk T' := by
  intro k
  by_cases h3 : k < fed ∨ fed + 4 ≤ k
  · rw [h1.1 k h3]; exact h k
  · rcases (show k = fed ∨ k = fed + 1 ∨ k = fed + 2 ∨ k = fed + 3 by omega) with rfl | rfl | rfl | rfl
    · rw [h1.2.1]; exact by1_ok _ _
    · rw [h1.2.2.1]; exact by1_ok _ _
    · rw [h1.2.2.2.1]; exact by1_ok _ _
    · rw [h1.2.2.2.2]; exact by1_ok _ _
theorem t_Tf_putBytes (Z : clOk f d P S) (h4 : I 0 4 = nI fed) (hf : fed + 4 ≤ 900) : zEv G y_Tf_putBytes prog_1_method_68_code 3 1 0 0 [.ref 0, .int a] (I, J, P, S) (fun w => ∃ I', w = (I', J, P, S) ∧ I' 0 4 = nI (fed + 4) ∧ pb4 (I 1) (I' 1) fed a ∧ (∀ x, x ≠ 0 → x ≠ 1 → I' x = I x) ∧ ∀ k, k ≠ 4 → I' 0 k = I 0 k) := by
  obtain ⟨⟨c0, c3, c1s⟩, ⟨c5, c2s, ctr⟩, ⟨c6, c11s, c11, c13s⟩, ⟨c7, c15s, c15⟩, ⟨c8, c16s, c16a, c16b, c17s⟩, ⟨c9, c10, cfd, F, Fd⟩, ⟨c11b, Ft⟩, ⟨c12, c69s, cmk⟩, ⟨c14, c121s, c121, c122s⟩, ⟨c15b, c123s, c123, c124s⟩, ⟨c16, c125s, c125, c126s⟩, ⟨c17, c127s, c127, c128s, ctb⟩, ⟨c18, c139s, c139, c140s⟩, ⟨c19, c141s, ⟨c141a, c142s⟩, ⟨c141b, c143s⟩, ⟨c141c, c144s⟩⟩, M⟩ := id Z
  refine zEv_of (lv := [some (.ref 0), some (.int a), none]) (by decide) rfl (Nat.le_of_ble_eq_true rfl) ?_
  refine z_bipush (a := nI 24) d_Tf_putBytes_0 (by decide) ?_
  first | refine z_istore_2 d_Tf_putBytes_2 rfl ?_ | (refine z_forget_1 ?_; refine z_istore_2 d_Tf_putBytes_2 rfl ?_)
  refine z_iload_2 d_Tf_putBytes_3 ?_
  refine z_if_lt (tgt := 36) d_Tf_putBytes_4 (by decide) (fun h => absurd h (by decide)) (fun _ => ?_)
  refine z_aload_0 d_Tf_putBytes_7 ?_
  refine z_getR d_Tf_putBytes_8 f_Tf_20 (by first | assumption | exact zS0_at (by assumption) (by omega) | exact zS0_at rfl (by omega)) (by first | assumption | exact zS0_at (by assumption) (by omega) | exact zS0_at rfl (by omega)) ?_
  refine z_aload_0 d_Tf_putBytes_11 ?_
  refine z_getIv d_Tf_putBytes_12 f_Tf_24 (by first | assumption | exact zS0_at (by assumption) (by omega) | exact zS0_at rfl (by omega)) (by first | assumption | ((try simp (disch := omega) only [zu_same, zu_ne, zcp_ne, zfl_ne]); first | assumption | rfl)) ?_
  refine z_iload_1 d_Tf_putBytes_15 ?_
  refine z_iload_2 d_Tf_putBytes_16 ?_
  refine z_ishr d_Tf_putBytes_17 ?_
  refine z_i2b d_Tf_putBytes_18 ?_
  first | refine z_bastN d_Tf_putBytes_19 (by first | assumption | exact zS0_at (by assumption) (by omega) | exact zS0_at rfl (by omega)) (by omega) (by first | decide | omega) ?_ | refine z_zastN d_Tf_putBytes_19 (by first | assumption | exact zS0_at (by assumption) (by omega) | exact zS0_at rfl (by omega)) (by omega) (by first | decide | omega) ?_ | refine z_bast d_Tf_putBytes_19 (by first | assumption | exact zS0_at (by assumption) (by omega) | exact zS0_at rfl (by omega)) (by first | assumption | exact zS0_at (by assumption) (by omega) | exact zS0_at rfl (by omega)) ?_ | refine z_zast d_Tf_putBytes_19 (by first | assumption | exact zS0_at (by assumption) (by omega) | exact zS0_at rfl (by omega)) (by first | assumption | exact zS0_at (by assumption) (by omega) | exact zS0_at rfl (by omega)) ?_
  refine z_aload_0 d_Tf_putBytes_20 ?_
  refine z_dup rfl d_Tf_putBytes_21 ?_
  refine z_getIv d_Tf_putBytes_22 f_Tf_24 (by first | assumption | exact zS0_at (by assumption) (by omega) | exact zS0_at rfl (by omega)) (by first | assumption | ((try simp (disch := omega) only [zu_same, zu_ne, zcp_ne, zfl_ne]); first | assumption | rfl)) ?_
  refine z_iconst (a := nI 1) d_Tf_putBytes_25 (by decide) ?_
  first | refine z_iaddN d_Tf_putBytes_26 ?_ | refine z_iadd d_Tf_putBytes_26 ?_
  refine z_putI d_Tf_putBytes_27 f_Tf_24 (by first | assumption | exact zS0_at (by assumption) (by omega) | exact zS0_at rfl (by omega)) ?_
  refine z_iinc_2 (b := nI 16) d_Tf_putBytes_30 rfl (by decide) ?_
  refine z_goto (tgt := 3) d_Tf_putBytes_33 (by decide) ?_
  refine z_iload_2 d_Tf_putBytes_3 ?_
  refine z_if_lt (tgt := 36) d_Tf_putBytes_4 (by decide) (fun h => absurd h (by decide)) (fun _ => ?_)
  refine z_aload_0 d_Tf_putBytes_7 ?_
  refine z_getR d_Tf_putBytes_8 f_Tf_20 (by first | assumption | exact zS0_at (by assumption) (by omega) | exact zS0_at rfl (by omega)) (by first | assumption | exact zS0_at (by assumption) (by omega) | exact zS0_at rfl (by omega)) ?_
  refine z_aload_0 d_Tf_putBytes_11 ?_
  refine z_getIv d_Tf_putBytes_12 f_Tf_24 (by first | assumption | exact zS0_at (by assumption) (by omega) | exact zS0_at rfl (by omega)) (by first | assumption | ((try simp (disch := omega) only [zu_same, zu_ne, zcp_ne, zfl_ne]); first | assumption | rfl)) ?_
  refine z_iload_1 d_Tf_putBytes_15 ?_
  refine z_iload_2 d_Tf_putBytes_16 ?_
  refine z_ishr d_Tf_putBytes_17 ?_
  refine z_i2b d_Tf_putBytes_18 ?_
  first | refine z_bastN d_Tf_putBytes_19 (by first | assumption | exact zS0_at (by assumption) (by omega) | exact zS0_at rfl (by omega)) (by omega) (by first | decide | omega) ?_ | refine z_zastN d_Tf_putBytes_19 (by first | assumption | exact zS0_at (by assumption) (by omega) | exact zS0_at rfl (by omega)) (by omega) (by first | decide | omega) ?_ | refine z_bast d_Tf_putBytes_19 (by first | assumption | exact zS0_at (by assumption) (by omega) | exact zS0_at rfl (by omega)) (by first | assumption | exact zS0_at (by assumption) (by omega) | exact zS0_at rfl (by omega)) ?_ | refine z_zast d_Tf_putBytes_19 (by first | assumption | exact zS0_at (by assumption) (by omega) | exact zS0_at rfl (by omega)) (by first | assumption | exact zS0_at (by assumption) (by omega) | exact zS0_at rfl (by omega)) ?_
  refine z_aload_0 d_Tf_putBytes_20 ?_
  refine z_dup rfl d_Tf_putBytes_21 ?_
  refine z_getIv d_Tf_putBytes_22 f_Tf_24 (by first | assumption | exact zS0_at (by assumption) (by omega) | exact zS0_at rfl (by omega)) (by first | assumption | ((try simp (disch := omega) only [zu_same, zu_ne, zcp_ne, zfl_ne]); first | assumption | rfl)) ?_
  refine z_iconst (a := nI 1) d_Tf_putBytes_25 (by decide) ?_
  first | refine z_iaddN d_Tf_putBytes_26 ?_ | refine z_iadd d_Tf_putBytes_26 ?_
  refine z_putI d_Tf_putBytes_27 f_Tf_24 (by first | assumption | exact zS0_at (by assumption) (by omega) | exact zS0_at rfl (by omega)) ?_
  refine z_iinc_2 (b := nI 8) d_Tf_putBytes_30 rfl (by decide) ?_
  refine z_goto (tgt := 3) d_Tf_putBytes_33 (by decide) ?_
  refine z_iload_2 d_Tf_putBytes_3 ?_
  refine z_if_lt (tgt := 36) d_Tf_putBytes_4 (by decide) (fun h => absurd h (by decide)) (fun _ => ?_)
  refine z_aload_0 d_Tf_putBytes_7 ?_
  refine z_getR d_Tf_putBytes_8 f_Tf_20 (by first | assumption | exact zS0_at (by assumption) (by omega) | exact zS0_at rfl (by omega)) (by first | assumption | exact zS0_at (by assumption) (by omega) | exact zS0_at rfl (by omega)) ?_
  refine z_aload_0 d_Tf_putBytes_11 ?_
  refine z_getIv d_Tf_putBytes_12 f_Tf_24 (by first | assumption | exact zS0_at (by assumption) (by omega) | exact zS0_at rfl (by omega)) (by first | assumption | ((try simp (disch := omega) only [zu_same, zu_ne, zcp_ne, zfl_ne]); first | assumption | rfl)) ?_
  refine z_iload_1 d_Tf_putBytes_15 ?_
  refine z_iload_2 d_Tf_putBytes_16 ?_
  refine z_ishr d_Tf_putBytes_17 ?_
  refine z_i2b d_Tf_putBytes_18 ?_
  first | refine z_bastN d_Tf_putBytes_19 (by first | assumption | exact zS0_at (by assumption) (by omega) | exact zS0_at rfl (by omega)) (by omega) (by first | decide | omega) ?_ | refine z_zastN d_Tf_putBytes_19 (by first | assumption | exact zS0_at (by assumption) (by omega) | exact zS0_at rfl (by omega)) (by omega) (by first | decide | omega) ?_ | refine z_bast d_Tf_putBytes_19 (by first | assumption | exact zS0_at (by assumption) (by omega) | exact zS0_at rfl (by omega)) (by first | assumption | exact zS0_at (by assumption) (by omega) | exact zS0_at rfl (by omega)) ?_ | refine z_zast d_Tf_putBytes_19 (by first | assumption | exact zS0_at (by assumption) (by omega) | exact zS0_at rfl (by omega)) (by first | assumption | exact zS0_at (by assumption) (by omega) | exact zS0_at rfl (by omega)) ?_
  refine z_aload_0 d_Tf_putBytes_20 ?_
  refine z_dup rfl d_Tf_putBytes_21 ?_
  refine z_getIv d_Tf_putBytes_22 f_Tf_24 (by first | assumption | exact zS0_at (by assumption) (by omega) | exact zS0_at rfl (by omega)) (by first | assumption | ((try simp (disch := omega) only [zu_same, zu_ne, zcp_ne, zfl_ne]); first | assumption | rfl)) ?_
  refine z_iconst (a := nI 1) d_Tf_putBytes_25 (by decide) ?_
  first | refine z_iaddN d_Tf_putBytes_26 ?_ | refine z_iadd d_Tf_putBytes_26 ?_
  refine z_putI d_Tf_putBytes_27 f_Tf_24 (by first | assumption | exact zS0_at (by assumption) (by omega) | exact zS0_at rfl (by omega)) ?_
  refine z_iinc_2 (b := nI 0) d_Tf_putBytes_30 rfl (by decide) ?_
  refine z_goto (tgt := 3) d_Tf_putBytes_33 (by decide) ?_
  refine z_iload_2 d_Tf_putBytes_3 ?_
  refine z_if_lt (tgt := 36) d_Tf_putBytes_4 (by decide) (fun h => absurd h (by decide)) (fun _ => ?_)
  refine z_aload_0 d_Tf_putBytes_7 ?_
  refine z_getR d_Tf_putBytes_8 f_Tf_20 (by first | assumption | exact zS0_at (by assumption) (by omega) | exact zS0_at rfl (by omega)) (by first | assumption | exact zS0_at (by assumption) (by omega) | exact zS0_at rfl (by omega)) ?_
  refine z_aload_0 d_Tf_putBytes_11 ?_
  refine z_getIv d_Tf_putBytes_12 f_Tf_24 (by first | assumption | exact zS0_at (by assumption) (by omega) | exact zS0_at rfl (by omega)) (by first | assumption | ((try simp (disch := omega) only [zu_same, zu_ne, zcp_ne, zfl_ne]); first | assumption | rfl)) ?_
  refine z_iload_1 d_Tf_putBytes_15 ?_
  refine z_iload_2 d_Tf_putBytes_16 ?_
  refine z_ishr d_Tf_putBytes_17 ?_
  refine z_i2b d_Tf_putBytes_18 ?_
  first | refine z_bastN d_Tf_putBytes_19 (by first | assumption | exact zS0_at (by assumption) (by omega) | exact zS0_at rfl (by omega)) (by omega) (by first | decide | omega) ?_ | refine z_zastN d_Tf_putBytes_19 (by first | assumption | exact zS0_at (by assumption) (by omega) | exact zS0_at rfl (by omega)) (by omega) (by first | decide | omega) ?_ | refine z_bast d_Tf_putBytes_19 (by first | assumption | exact zS0_at (by assumption) (by omega) | exact zS0_at rfl (by omega)) (by first | assumption | exact zS0_at (by assumption) (by omega) | exact zS0_at rfl (by omega)) ?_ | refine z_zast d_Tf_putBytes_19 (by first | assumption | exact zS0_at (by assumption) (by omega) | exact zS0_at rfl (by omega)) (by first | assumption | exact zS0_at (by assumption) (by omega) | exact zS0_at rfl (by omega)) ?_
  refine z_aload_0 d_Tf_putBytes_20 ?_
  refine z_dup rfl d_Tf_putBytes_21 ?_
  refine z_getIv d_Tf_putBytes_22 f_Tf_24 (by first | assumption | exact zS0_at (by assumption) (by omega) | exact zS0_at rfl (by omega)) (by first | assumption | ((try simp (disch := omega) only [zu_same, zu_ne, zcp_ne, zfl_ne]); first | assumption | rfl)) ?_
  refine z_iconst (a := nI 1) d_Tf_putBytes_25 (by decide) ?_
  first | refine z_iaddN d_Tf_putBytes_26 ?_ | refine z_iadd d_Tf_putBytes_26 ?_
  refine z_putI d_Tf_putBytes_27 f_Tf_24 (by first | assumption | exact zS0_at (by assumption) (by omega) | exact zS0_at rfl (by omega)) ?_
  refine z_iinc_2 (b := -8) d_Tf_putBytes_30 rfl (by decide) ?_
  refine z_goto (tgt := 3) d_Tf_putBytes_33 (by decide) ?_
  refine z_iload_2 d_Tf_putBytes_3 ?_
  refine z_if_lt (tgt := 36) d_Tf_putBytes_4 (by decide) (fun _ => ?_) (fun h => absurd (by decide) h)
  refine z_retv d_Tf_putBytes_36 ?_
  refine ⟨_, rfl, ?_, ⟨fun i hi => ?_, ?_, ?_, ?_, ?_⟩, fun x g1 g2 => ?_, fun i hi => ?_⟩
  · simp (disch := omega) only [zu_same, zu_ne, zu_row]
  · simp (disch := omega) only [zu_same, zu_ne, zu_row]
  · simp (disch := omega) only [zu_same, zu_ne]; rfl
  · simp (disch := omega) only [zu_same, zu_ne]; rfl
  · simp (disch := omega) only [zu_same, zu_ne]; rfl
  · simp (disch := omega) only [zu_same, zu_ne]; rfl
  · rw [zu_row _ _ _ _ g1, zu_row _ _ _ _ g2, zu_row _ _ _ _ g1, zu_row _ _ _ _ g2, zu_row _ _ _ _ g1, zu_row _ _ _ _ g2, zu_row _ _ _ _ g1, zu_row _ _ _ _ g2]
  · simp (disch := omega) only [zu_same, zu_ne, zu_row]
theorem t_Mo_lay (M : modOk P S) (h4 : I 145 8 = nI fed) (hf : fed + 4 ≤ 900) : zEv G y_Mo_lay prog_14_method_50_code 3 1 0 0 [.ref 145, .int a] (I, J, P, S) (fun w => ∃ I', w = (I', J, P, S) ∧ I' 145 8 = nI (fed + 4) ∧ pb4 (I 149) (I' 149) fed a ∧ (∀ x, x ≠ 145 → x ≠ 149 → I' x = I x) ∧ ∀ k, k ≠ 8 → I' 145 k = I 145 k) := by
  obtain ⟨M0, ⟨M4, M4s⟩, ⟨M5, M5s⟩, ⟨M6, M6s⟩, ⟨M7, M7s⟩, ⟨M20, M20s⟩, ⟨M21, M21s⟩, ⟨M22, M22s⟩, ⟨M26, M26s⟩, ⟨M27, M27s⟩, ⟨M28, M28s⟩, ⟨M30, M30s⟩, ⟨M34, M34s⟩, ⟨M36, M36s⟩, ⟨M37, M37s⟩⟩ := id M
  refine zEv_of (lv := [some (.ref 145), some (.int a), none]) (by decide) rfl (Nat.le_of_ble_eq_true rfl) ?_
  refine z_iconst (a := nI 3) d_Mo_lay_0 (by decide) ?_
  first | refine z_istore_2 d_Mo_lay_1 rfl ?_ | (refine z_forget_1 ?_; refine z_istore_2 d_Mo_lay_1 rfl ?_)
  refine z_iload_2 d_Mo_lay_2 ?_
  refine z_if_lt (tgt := 38) d_Mo_lay_3 (by decide) (fun h => absurd h (by decide)) (fun _ => ?_)
  refine z_aload_0 d_Mo_lay_6 ?_
  refine z_getR d_Mo_lay_7 f_Mo_24 (by first | assumption | exact zS0_at (by assumption) (by omega) | exact zS0_at rfl (by omega)) (by first | assumption | exact zS0_at (by assumption) (by omega) | exact zS0_at rfl (by omega)) ?_
  refine z_aload_0 d_Mo_lay_10 ?_
  refine z_getIv d_Mo_lay_11 f_Mo_218 (by first | assumption | exact zS0_at (by assumption) (by omega) | exact zS0_at rfl (by omega)) (by first | assumption | ((try simp (disch := omega) only [zu_same, zu_ne, zcp_ne, zfl_ne]); first | assumption | rfl)) ?_
  refine z_iload_1 d_Mo_lay_14 ?_
  refine z_bipush (a := nI 8) d_Mo_lay_15 (by decide) ?_
  refine z_iload_2 d_Mo_lay_17 ?_
  first | refine z_imulN d_Mo_lay_18 ?_ | refine z_imul d_Mo_lay_18 ?_
  refine z_ishr d_Mo_lay_19 ?_
  refine z_i2b d_Mo_lay_20 ?_
  first | refine z_bastN d_Mo_lay_21 (by first | assumption | exact zS0_at (by assumption) (by omega) | exact zS0_at rfl (by omega)) (by omega) (by first | decide | omega) ?_ | refine z_zastN d_Mo_lay_21 (by first | assumption | exact zS0_at (by assumption) (by omega) | exact zS0_at rfl (by omega)) (by omega) (by first | decide | omega) ?_ | refine z_bast d_Mo_lay_21 (by first | assumption | exact zS0_at (by assumption) (by omega) | exact zS0_at rfl (by omega)) (by first | assumption | exact zS0_at (by assumption) (by omega) | exact zS0_at rfl (by omega)) ?_ | refine z_zast d_Mo_lay_21 (by first | assumption | exact zS0_at (by assumption) (by omega) | exact zS0_at rfl (by omega)) (by first | assumption | exact zS0_at (by assumption) (by omega) | exact zS0_at rfl (by omega)) ?_
  refine z_aload_0 d_Mo_lay_22 ?_
  refine z_dup rfl d_Mo_lay_23 ?_
  refine z_getIv d_Mo_lay_24 f_Mo_218 (by first | assumption | exact zS0_at (by assumption) (by omega) | exact zS0_at rfl (by omega)) (by first | assumption | ((try simp (disch := omega) only [zu_same, zu_ne, zcp_ne, zfl_ne]); first | assumption | rfl)) ?_
  refine z_iconst (a := nI 1) d_Mo_lay_27 (by decide) ?_
  first | refine z_iaddN d_Mo_lay_28 ?_ | refine z_iadd d_Mo_lay_28 ?_
  refine z_putI d_Mo_lay_29 f_Mo_218 (by first | assumption | exact zS0_at (by assumption) (by omega) | exact zS0_at rfl (by omega)) ?_
  refine z_iinc_2 (b := nI 2) d_Mo_lay_32 rfl (by decide) ?_
  refine z_goto (tgt := 2) d_Mo_lay_35 (by decide) ?_
  refine z_iload_2 d_Mo_lay_2 ?_
  refine z_if_lt (tgt := 38) d_Mo_lay_3 (by decide) (fun h => absurd h (by decide)) (fun _ => ?_)
  refine z_aload_0 d_Mo_lay_6 ?_
  refine z_getR d_Mo_lay_7 f_Mo_24 (by first | assumption | exact zS0_at (by assumption) (by omega) | exact zS0_at rfl (by omega)) (by first | assumption | exact zS0_at (by assumption) (by omega) | exact zS0_at rfl (by omega)) ?_
  refine z_aload_0 d_Mo_lay_10 ?_
  refine z_getIv d_Mo_lay_11 f_Mo_218 (by first | assumption | exact zS0_at (by assumption) (by omega) | exact zS0_at rfl (by omega)) (by first | assumption | ((try simp (disch := omega) only [zu_same, zu_ne, zcp_ne, zfl_ne]); first | assumption | rfl)) ?_
  refine z_iload_1 d_Mo_lay_14 ?_
  refine z_bipush (a := nI 8) d_Mo_lay_15 (by decide) ?_
  refine z_iload_2 d_Mo_lay_17 ?_
  first | refine z_imulN d_Mo_lay_18 ?_ | refine z_imul d_Mo_lay_18 ?_
  refine z_ishr d_Mo_lay_19 ?_
  refine z_i2b d_Mo_lay_20 ?_
  first | refine z_bastN d_Mo_lay_21 (by first | assumption | exact zS0_at (by assumption) (by omega) | exact zS0_at rfl (by omega)) (by omega) (by first | decide | omega) ?_ | refine z_zastN d_Mo_lay_21 (by first | assumption | exact zS0_at (by assumption) (by omega) | exact zS0_at rfl (by omega)) (by omega) (by first | decide | omega) ?_ | refine z_bast d_Mo_lay_21 (by first | assumption | exact zS0_at (by assumption) (by omega) | exact zS0_at rfl (by omega)) (by first | assumption | exact zS0_at (by assumption) (by omega) | exact zS0_at rfl (by omega)) ?_ | refine z_zast d_Mo_lay_21 (by first | assumption | exact zS0_at (by assumption) (by omega) | exact zS0_at rfl (by omega)) (by first | assumption | exact zS0_at (by assumption) (by omega) | exact zS0_at rfl (by omega)) ?_
  refine z_aload_0 d_Mo_lay_22 ?_
  refine z_dup rfl d_Mo_lay_23 ?_
  refine z_getIv d_Mo_lay_24 f_Mo_218 (by first | assumption | exact zS0_at (by assumption) (by omega) | exact zS0_at rfl (by omega)) (by first | assumption | ((try simp (disch := omega) only [zu_same, zu_ne, zcp_ne, zfl_ne]); first | assumption | rfl)) ?_
  refine z_iconst (a := nI 1) d_Mo_lay_27 (by decide) ?_
  first | refine z_iaddN d_Mo_lay_28 ?_ | refine z_iadd d_Mo_lay_28 ?_
  refine z_putI d_Mo_lay_29 f_Mo_218 (by first | assumption | exact zS0_at (by assumption) (by omega) | exact zS0_at rfl (by omega)) ?_
  refine z_iinc_2 (b := nI 1) d_Mo_lay_32 rfl (by decide) ?_
  refine z_goto (tgt := 2) d_Mo_lay_35 (by decide) ?_
  refine z_iload_2 d_Mo_lay_2 ?_
  refine z_if_lt (tgt := 38) d_Mo_lay_3 (by decide) (fun h => absurd h (by decide)) (fun _ => ?_)
  refine z_aload_0 d_Mo_lay_6 ?_
  refine z_getR d_Mo_lay_7 f_Mo_24 (by first | assumption | exact zS0_at (by assumption) (by omega) | exact zS0_at rfl (by omega)) (by first | assumption | exact zS0_at (by assumption) (by omega) | exact zS0_at rfl (by omega)) ?_
  refine z_aload_0 d_Mo_lay_10 ?_
  refine z_getIv d_Mo_lay_11 f_Mo_218 (by first | assumption | exact zS0_at (by assumption) (by omega) | exact zS0_at rfl (by omega)) (by first | assumption | ((try simp (disch := omega) only [zu_same, zu_ne, zcp_ne, zfl_ne]); first | assumption | rfl)) ?_
  refine z_iload_1 d_Mo_lay_14 ?_
  refine z_bipush (a := nI 8) d_Mo_lay_15 (by decide) ?_
  refine z_iload_2 d_Mo_lay_17 ?_
  first | refine z_imulN d_Mo_lay_18 ?_ | refine z_imul d_Mo_lay_18 ?_
  refine z_ishr d_Mo_lay_19 ?_
  refine z_i2b d_Mo_lay_20 ?_
  first | refine z_bastN d_Mo_lay_21 (by first | assumption | exact zS0_at (by assumption) (by omega) | exact zS0_at rfl (by omega)) (by omega) (by first | decide | omega) ?_ | refine z_zastN d_Mo_lay_21 (by first | assumption | exact zS0_at (by assumption) (by omega) | exact zS0_at rfl (by omega)) (by omega) (by first | decide | omega) ?_ | refine z_bast d_Mo_lay_21 (by first | assumption | exact zS0_at (by assumption) (by omega) | exact zS0_at rfl (by omega)) (by first | assumption | exact zS0_at (by assumption) (by omega) | exact zS0_at rfl (by omega)) ?_ | refine z_zast d_Mo_lay_21 (by first | assumption | exact zS0_at (by assumption) (by omega) | exact zS0_at rfl (by omega)) (by first | assumption | exact zS0_at (by assumption) (by omega) | exact zS0_at rfl (by omega)) ?_
  refine z_aload_0 d_Mo_lay_22 ?_
  refine z_dup rfl d_Mo_lay_23 ?_
  refine z_getIv d_Mo_lay_24 f_Mo_218 (by first | assumption | exact zS0_at (by assumption) (by omega) | exact zS0_at rfl (by omega)) (by first | assumption | ((try simp (disch := omega) only [zu_same, zu_ne, zcp_ne, zfl_ne]); first | assumption | rfl)) ?_
  refine z_iconst (a := nI 1) d_Mo_lay_27 (by decide) ?_
  first | refine z_iaddN d_Mo_lay_28 ?_ | refine z_iadd d_Mo_lay_28 ?_
  refine z_putI d_Mo_lay_29 f_Mo_218 (by first | assumption | exact zS0_at (by assumption) (by omega) | exact zS0_at rfl (by omega)) ?_
  refine z_iinc_2 (b := nI 0) d_Mo_lay_32 rfl (by decide) ?_
  refine z_goto (tgt := 2) d_Mo_lay_35 (by decide) ?_
  refine z_iload_2 d_Mo_lay_2 ?_
  refine z_if_lt (tgt := 38) d_Mo_lay_3 (by decide) (fun h => absurd h (by decide)) (fun _ => ?_)
  refine z_aload_0 d_Mo_lay_6 ?_
  refine z_getR d_Mo_lay_7 f_Mo_24 (by first | assumption | exact zS0_at (by assumption) (by omega) | exact zS0_at rfl (by omega)) (by first | assumption | exact zS0_at (by assumption) (by omega) | exact zS0_at rfl (by omega)) ?_
  refine z_aload_0 d_Mo_lay_10 ?_
  refine z_getIv d_Mo_lay_11 f_Mo_218 (by first | assumption | exact zS0_at (by assumption) (by omega) | exact zS0_at rfl (by omega)) (by first | assumption | ((try simp (disch := omega) only [zu_same, zu_ne, zcp_ne, zfl_ne]); first | assumption | rfl)) ?_
  refine z_iload_1 d_Mo_lay_14 ?_
  refine z_bipush (a := nI 8) d_Mo_lay_15 (by decide) ?_
  refine z_iload_2 d_Mo_lay_17 ?_
  first | refine z_imulN d_Mo_lay_18 ?_ | refine z_imul d_Mo_lay_18 ?_
  refine z_ishr d_Mo_lay_19 ?_
  refine z_i2b d_Mo_lay_20 ?_
  first | refine z_bastN d_Mo_lay_21 (by first | assumption | exact zS0_at (by assumption) (by omega) | exact zS0_at rfl (by omega)) (by omega) (by first | decide | omega) ?_ | refine z_zastN d_Mo_lay_21 (by first | assumption | exact zS0_at (by assumption) (by omega) | exact zS0_at rfl (by omega)) (by omega) (by first | decide | omega) ?_ | refine z_bast d_Mo_lay_21 (by first | assumption | exact zS0_at (by assumption) (by omega) | exact zS0_at rfl (by omega)) (by first | assumption | exact zS0_at (by assumption) (by omega) | exact zS0_at rfl (by omega)) ?_ | refine z_zast d_Mo_lay_21 (by first | assumption | exact zS0_at (by assumption) (by omega) | exact zS0_at rfl (by omega)) (by first | assumption | exact zS0_at (by assumption) (by omega) | exact zS0_at rfl (by omega)) ?_
  refine z_aload_0 d_Mo_lay_22 ?_
  refine z_dup rfl d_Mo_lay_23 ?_
  refine z_getIv d_Mo_lay_24 f_Mo_218 (by first | assumption | exact zS0_at (by assumption) (by omega) | exact zS0_at rfl (by omega)) (by first | assumption | ((try simp (disch := omega) only [zu_same, zu_ne, zcp_ne, zfl_ne]); first | assumption | rfl)) ?_
  refine z_iconst (a := nI 1) d_Mo_lay_27 (by decide) ?_
  first | refine z_iaddN d_Mo_lay_28 ?_ | refine z_iadd d_Mo_lay_28 ?_
  refine z_putI d_Mo_lay_29 f_Mo_218 (by first | assumption | exact zS0_at (by assumption) (by omega) | exact zS0_at rfl (by omega)) ?_
  refine z_iinc_2 (b := -1) d_Mo_lay_32 rfl (by decide) ?_
  refine z_goto (tgt := 2) d_Mo_lay_35 (by decide) ?_
  refine z_iload_2 d_Mo_lay_2 ?_
  refine z_if_lt (tgt := 38) d_Mo_lay_3 (by decide) (fun _ => ?_) (fun h => absurd (by decide) h)
  refine z_retv d_Mo_lay_38 ?_
  refine ⟨_, rfl, ?_, ⟨fun i hi => ?_, ?_, ?_, ?_, ?_⟩, fun x g1 g2 => ?_, fun i hi => ?_⟩
  · simp (disch := omega) only [zu_same, zu_ne, zu_row]
  · simp (disch := omega) only [zu_same, zu_ne, zu_row]
  · simp (disch := omega) only [zu_same, zu_ne]; rfl
  · simp (disch := omega) only [zu_same, zu_ne]; rfl
  · simp (disch := omega) only [zu_same, zu_ne]; rfl
  · simp (disch := omega) only [zu_same, zu_ne]; rfl
  · rw [zu_row _ _ _ _ g1, zu_row _ _ _ _ g2, zu_row _ _ _ _ g1, zu_row _ _ _ _ g2, zu_row _ _ _ _ g1, zu_row _ _ _ _ g2, zu_row _ _ _ _ g1, zu_row _ _ _ _ g2]
  · simp (disch := omega) only [zu_same, zu_ne, zu_row]
def pb20 (T T' : Nat → Int32) (fed : Nat) (a b c e g : Int32) : Prop := ∃ T1 T2 T3 T4, pb4 T T1 fed a ∧ pb4 T1 T2 (fed + 4) b ∧ pb4 T2 T3 (fed + 8) c ∧ pb4 T3 T4 (fed + 12) e ∧ pb4 T4 T' (fed + 16) g
theorem pb20_eq (h1 : pb20 T T' fed a b c e g) (h2 : pb20 R R' fed a b c e g) (h : ∀ k, k < 900 → R k = T k) : ∀ k, k < 900 → R' k = T' k := by
  obtain ⟨T1, T2, T3, T4, a1, a2, a3, a4, a5⟩ := h1
  obtain ⟨R1, R2, R3, R4, b1, b2, b3, b4, b5⟩ := h2
  exact pb4_eq a5 b5 (pb4_eq a4 b4 (pb4_eq a3 b3 (pb4_eq a2 b2 (pb4_eq a1 b1 h))))
theorem pb20_ok (h1 : pb20 T T' fed a b c e g) (h : bytOk T) : bytOk T' := by
  obtain ⟨T1, T2, T3, T4, a1, a2, a3, a4, a5⟩ := h1
  exact pb4_ok a5 (pb4_ok a4 (pb4_ok a3 (pb4_ok a2 (pb4_ok a1 h))))
theorem t_Tf_feed_x (Z : clOk f d P S) (h4 : I 0 4 = nI fed) (hf : 900 < fed + 20) (hf9 : fed ≤ 900) : zEi G y_Tf_feed prog_1_method_9_code 6 (some .int) 2 [.ref 0, .int a, .int b, .int c, .int e, .int g] (I, J, P, S) (fun r w => r = -1 ∧ w = (I, J, P, S)) := by
  obtain ⟨⟨c0, c3, c1s⟩, ⟨c5, c2s, ctr⟩, ⟨c6, c11s, c11, c13s⟩, ⟨c7, c15s, c15⟩, ⟨c8, c16s, c16a, c16b, c17s⟩, ⟨c9, c10, cfd, F, Fd⟩, ⟨c11b, Ft⟩, ⟨c12, c69s, cmk⟩, ⟨c14, c121s, c121, c122s⟩, ⟨c15b, c123s, c123, c124s⟩, ⟨c16, c125s, c125, c126s⟩, ⟨c17, c127s, c127, c128s, ctb⟩, ⟨c18, c139s, c139, c140s⟩, ⟨c19, c141s, ⟨c141a, c142s⟩, ⟨c141b, c143s⟩, ⟨c141c, c144s⟩⟩, M⟩ := id Z
  refine zEi_of (lv := [some (.ref 0), some (.int a), some (.int b), some (.int c), some (.int e), some (.int g)]) (by decide) rfl (Nat.le_of_ble_eq_true rfl) ?_
  refine z_aload_0 d_Tf_feed_0 ?_
  refine z_getIv d_Tf_feed_1 f_Tf_24 (by first | assumption | exact zS0_at (by assumption) (by omega) | exact zS0_at rfl (by omega)) (by first | assumption | ((try simp (disch := omega) only [zu_same, zu_ne, zcp_ne, zfl_ne]); first | assumption | rfl)) ?_
  refine z_bipush (a := nI 20) d_Tf_feed_4 (by decide) ?_
  first | refine z_iaddN d_Tf_feed_6 ?_ | refine z_iadd d_Tf_feed_6 ?_
  refine z_sipush (a := nI 900) d_Tf_feed_7 (by decide) ?_
  refine z_icmp_le (tgt := 15) d_Tf_feed_10 (by decide) (fun h10 => ?_) (fun h10 => ?_)
  · first
    | (simp (disch := omega) only [← nI_0, nI_leI, nI_ltI, nI_eq, not_true_eq_false, not_false_eq_true] at h10; done)
    | (simp (disch := omega) only [← nI_0, nI_leI, nI_ltI, nI_eq, not_true_eq_false, not_false_eq_true] at h10; omega)
    | contradiction
    | exact absurd h10 (Int32.not_lt.mpr (by assumption))
    | exact absurd h10 (Int32.not_le.mpr (by assumption))
    | exact absurd h10 (by decide)
    | exact absurd (by decide) h10
    | ( try simp (disch := omega) only [← nI_0, nI_leI, nI_ltI, nI_eq, not_true_eq_false, not_false_eq_true] at h10
        (try have h10b := zbit_n0.mp h10); (try have h10b := zbit_p0.mp h10)
        fail)
  · first
    | (simp (disch := omega) only [← nI_0, nI_leI, nI_ltI, nI_eq, not_true_eq_false, not_false_eq_true] at h10; done)
    | (simp (disch := omega) only [← nI_0, nI_leI, nI_ltI, nI_eq, not_true_eq_false, not_false_eq_true] at h10; omega)
    | contradiction
    | exact absurd h10 (Int32.not_lt.mpr (by assumption))
    | exact absurd h10 (Int32.not_le.mpr (by assumption))
    | exact absurd h10 (by decide)
    | exact absurd (by decide) h10
    | ( try simp (disch := omega) only [← nI_0, nI_leI, nI_ltI, nI_eq, not_true_eq_false, not_false_eq_true] at h10
        (try have h10b := zbit_n0.mp h10); (try have h10b := zbit_p0.mp h10)
        refine z_iconst (a := -1) d_Tf_feed_13 (by decide) ?_
        refine z_reti d_Tf_feed_14 ?_
        exact ⟨rfl, rfl⟩)
theorem t_Mo_feed_x (M : modOk P S) (h4 : I 145 8 = nI fed) (hf : 900 < fed + 20) (hf9 : fed ≤ 900) : zEi G y_Mo_feed prog_14_method_49_code 6 (some .int) 2 [.ref 145, .int a, .int b, .int c, .int e, .int g] (I, J, P, S) (fun r w => r = -1 ∧ w = (zu I 145 1 (nI 0), J, P, S)) := by
  obtain ⟨M0, ⟨M4, M4s⟩, ⟨M5, M5s⟩, ⟨M6, M6s⟩, ⟨M7, M7s⟩, ⟨M20, M20s⟩, ⟨M21, M21s⟩, ⟨M22, M22s⟩, ⟨M26, M26s⟩, ⟨M27, M27s⟩, ⟨M28, M28s⟩, ⟨M30, M30s⟩, ⟨M34, M34s⟩, ⟨M36, M36s⟩, ⟨M37, M37s⟩⟩ := id M
  refine zEi_of (lv := [some (.ref 145), some (.int a), some (.int b), some (.int c), some (.int e), some (.int g)]) (by decide) rfl (Nat.le_of_ble_eq_true rfl) ?_
  refine z_aload_0 d_Mo_feed_0 ?_
  refine z_iconst (a := nI 0) d_Mo_feed_1 (by decide) ?_
  refine z_putI d_Mo_feed_2 f_Mo_70 (by first | assumption | exact zS0_at (by assumption) (by omega) | exact zS0_at rfl (by omega)) ?_
  refine z_aload_0 d_Mo_feed_5 ?_
  refine z_getIv d_Mo_feed_6 f_Mo_218 (by first | assumption | exact zS0_at (by assumption) (by omega) | exact zS0_at rfl (by omega)) (by first | assumption | ((try simp (disch := omega) only [zu_same, zu_ne, zcp_ne, zfl_ne]); first | assumption | rfl)) ?_
  refine z_bipush (a := nI 20) d_Mo_feed_9 (by decide) ?_
  first | refine z_iaddN d_Mo_feed_11 ?_ | refine z_iadd d_Mo_feed_11 ?_
  refine z_sipush (a := nI 900) d_Mo_feed_12 (by decide) ?_
  refine z_icmp_le (tgt := 20) d_Mo_feed_15 (by decide) (fun h15 => ?_) (fun h15 => ?_)
  · first
    | (simp (disch := omega) only [← nI_0, nI_leI, nI_ltI, nI_eq, not_true_eq_false, not_false_eq_true] at h15; done)
    | (simp (disch := omega) only [← nI_0, nI_leI, nI_ltI, nI_eq, not_true_eq_false, not_false_eq_true] at h15; omega)
    | contradiction
    | exact absurd h15 (Int32.not_lt.mpr (by assumption))
    | exact absurd h15 (Int32.not_le.mpr (by assumption))
    | exact absurd h15 (by decide)
    | exact absurd (by decide) h15
    | ( try simp (disch := omega) only [← nI_0, nI_leI, nI_ltI, nI_eq, not_true_eq_false, not_false_eq_true] at h15
        (try have h15b := zbit_n0.mp h15); (try have h15b := zbit_p0.mp h15)
        fail)
  · first
    | (simp (disch := omega) only [← nI_0, nI_leI, nI_ltI, nI_eq, not_true_eq_false, not_false_eq_true] at h15; done)
    | (simp (disch := omega) only [← nI_0, nI_leI, nI_ltI, nI_eq, not_true_eq_false, not_false_eq_true] at h15; omega)
    | contradiction
    | exact absurd h15 (Int32.not_lt.mpr (by assumption))
    | exact absurd h15 (Int32.not_le.mpr (by assumption))
    | exact absurd h15 (by decide)
    | exact absurd (by decide) h15
    | ( try simp (disch := omega) only [← nI_0, nI_leI, nI_ltI, nI_eq, not_true_eq_false, not_false_eq_true] at h15
        (try have h15b := zbit_n0.mp h15); (try have h15b := zbit_p0.mp h15)
        refine z_iconst (a := -1) d_Mo_feed_18 (by decide) ?_
        refine z_reti d_Mo_feed_19 ?_
        exact ⟨rfl, rfl⟩)
theorem t_Tf_feed (Z : clOk f d P S) (h4 : I 0 4 = nI fed) (hf : fed + 20 ≤ 900) : zEi G y_Tf_feed prog_1_method_9_code 6 (some .int) 2 [.ref 0, .int a, .int b, .int c, .int e, .int g] (I, J, P, S) (fun r w => r = nI (fed + 20) ∧ ∃ I', w = (I', J, P, S) ∧ I' 0 4 = nI (fed + 20) ∧ pb20 (I 1) (I' 1) fed a b c e g ∧ (∀ x, x ≠ 0 → x ≠ 1 → I' x = I x) ∧ ∀ k, k ≠ 4 → I' 0 k = I 0 k) := by
  obtain ⟨⟨c0, c3, c1s⟩, ⟨c5, c2s, ctr⟩, ⟨c6, c11s, c11, c13s⟩, ⟨c7, c15s, c15⟩, ⟨c8, c16s, c16a, c16b, c17s⟩, ⟨c9, c10, cfd, F, Fd⟩, ⟨c11b, Ft⟩, ⟨c12, c69s, cmk⟩, ⟨c14, c121s, c121, c122s⟩, ⟨c15b, c123s, c123, c124s⟩, ⟨c16, c125s, c125, c126s⟩, ⟨c17, c127s, c127, c128s, ctb⟩, ⟨c18, c139s, c139, c140s⟩, ⟨c19, c141s, ⟨c141a, c142s⟩, ⟨c141b, c143s⟩, ⟨c141c, c144s⟩⟩, M⟩ := id Z
  refine zEi_of (lv := [some (.ref 0), some (.int a), some (.int b), some (.int c), some (.int e), some (.int g)]) (by decide) rfl (Nat.le_of_ble_eq_true rfl) ?_
  refine z_aload_0 d_Tf_feed_0 ?_
  refine z_getIv d_Tf_feed_1 f_Tf_24 (by first | assumption | exact zS0_at (by assumption) (by omega) | exact zS0_at rfl (by omega)) (by first | assumption | ((try simp (disch := omega) only [zu_same, zu_ne, zcp_ne, zfl_ne]); first | assumption | rfl)) ?_
  refine z_bipush (a := nI 20) d_Tf_feed_4 (by decide) ?_
  first | refine z_iaddN d_Tf_feed_6 ?_ | refine z_iadd d_Tf_feed_6 ?_
  refine z_sipush (a := nI 900) d_Tf_feed_7 (by decide) ?_
  refine z_icmp_le (tgt := 15) d_Tf_feed_10 (by decide) (fun _ => ?_) (fun h => absurd (nI_le (by omega) (by omega)) h)
  refine z_aload_0 d_Tf_feed_15 ?_
  refine z_iload_1 d_Tf_feed_16 ?_
  refine z_Vv1 d_Tf_feed_17 k_Tf_163 (by first | assumption | exact zS0_at (by assumption) (by omega) | exact zS0_at rfl (by omega)) (t_Tf_putBytes (fed := fed + 0) Z h4 (by omega)) ⟨Nat.le_of_ble_eq_true rfl, Nat.le_of_ble_eq_true rfl, Nat.le_of_ble_eq_true rfl, Nat.le_of_ble_eq_true rfl⟩ (Nat.le_of_ble_eq_true rfl) ?_
  intro w hq
  obtain ⟨I1, rfl, h5, p1, r1, k1⟩ := hq
  refine z_aload_0 d_Tf_feed_20 ?_
  refine z_iload_2 d_Tf_feed_21 ?_
  refine z_Vv1 d_Tf_feed_22 k_Tf_163 (by first | assumption | exact zS0_at (by assumption) (by omega) | exact zS0_at rfl (by omega)) (t_Tf_putBytes (fed := fed + 4) Z h5 (by omega)) ⟨Nat.le_of_ble_eq_true rfl, Nat.le_of_ble_eq_true rfl, Nat.le_of_ble_eq_true rfl, Nat.le_of_ble_eq_true rfl⟩ (Nat.le_of_ble_eq_true rfl) ?_
  intro w hq
  obtain ⟨I2, rfl, h6, p2, r2, k2⟩ := hq
  refine z_aload_0 d_Tf_feed_25 ?_
  refine z_iload_3 d_Tf_feed_26 ?_
  refine z_Vv1 d_Tf_feed_27 k_Tf_163 (by first | assumption | exact zS0_at (by assumption) (by omega) | exact zS0_at rfl (by omega)) (t_Tf_putBytes (fed := fed + 8) Z h6 (by omega)) ⟨Nat.le_of_ble_eq_true rfl, Nat.le_of_ble_eq_true rfl, Nat.le_of_ble_eq_true rfl, Nat.le_of_ble_eq_true rfl⟩ (Nat.le_of_ble_eq_true rfl) ?_
  intro w hq
  obtain ⟨I3, rfl, h7, p3, r3, k3⟩ := hq
  refine z_aload_0 d_Tf_feed_30 ?_
  refine z_iload_4 d_Tf_feed_31 ?_
  refine z_Vv1 d_Tf_feed_33 k_Tf_163 (by first | assumption | exact zS0_at (by assumption) (by omega) | exact zS0_at rfl (by omega)) (t_Tf_putBytes (fed := fed + 12) Z h7 (by omega)) ⟨Nat.le_of_ble_eq_true rfl, Nat.le_of_ble_eq_true rfl, Nat.le_of_ble_eq_true rfl, Nat.le_of_ble_eq_true rfl⟩ (Nat.le_of_ble_eq_true rfl) ?_
  intro w hq
  obtain ⟨I4, rfl, h8, p4, r4, k4⟩ := hq
  refine z_aload_0 d_Tf_feed_36 ?_
  refine z_iload_5 d_Tf_feed_37 ?_
  refine z_Vv1 d_Tf_feed_39 k_Tf_163 (by first | assumption | exact zS0_at (by assumption) (by omega) | exact zS0_at rfl (by omega)) (t_Tf_putBytes (fed := fed + 16) Z h8 (by omega)) ⟨Nat.le_of_ble_eq_true rfl, Nat.le_of_ble_eq_true rfl, Nat.le_of_ble_eq_true rfl, Nat.le_of_ble_eq_true rfl⟩ (Nat.le_of_ble_eq_true rfl) ?_
  intro w hq
  obtain ⟨I5, rfl, h9, p5, r5, k5⟩ := hq
  refine z_aload_0 d_Tf_feed_42 ?_
  refine z_getIv d_Tf_feed_43 f_Tf_24 (by first | assumption | exact zS0_at (by assumption) (by omega) | exact zS0_at rfl (by omega)) (by first | assumption | ((try simp (disch := omega) only [zu_same, zu_ne, zcp_ne, zfl_ne]); first | assumption | rfl)) ?_
  refine z_reti d_Tf_feed_46 ?_
  refine ⟨rfl, I5, rfl, h9, ⟨I1 1, I2 1, I3 1, I4 1, p1, p2, p3, p4, p5⟩, fun x g1 g2 => ?_, fun i hi => ?_⟩
  · rw [r5 x g1 g2, r4 x g1 g2, r3 x g1 g2, r2 x g1 g2, r1 x g1 g2]
  · rw [k5 i hi, k4 i hi, k3 i hi, k2 i hi, k1 i hi]
theorem t_Mo_feed (M : modOk P S) (h8 : I 145 8 = nI fed) (hf : fed + 20 ≤ 900) : zEi G y_Mo_feed prog_14_method_49_code 6 (some .int) 2 [.ref 145, .int a, .int b, .int c, .int e, .int g] (I, J, P, S) (fun r w => r = nI (fed + 20) ∧ ∃ I', w = (I', J, P, S) ∧ I' 145 8 = nI (fed + 20) ∧ pb20 (I 149) (I' 149) fed a b c e g ∧ (∀ x, x ≠ 145 → x ≠ 149 → I' x = I x) ∧ ∀ k, k ≠ 8 → k ≠ 1 → I' 145 k = I 145 k) := by
  obtain ⟨M0, ⟨M4, M4s⟩, ⟨M5, M5s⟩, ⟨M6, M6s⟩, ⟨M7, M7s⟩, ⟨M20, M20s⟩, ⟨M21, M21s⟩, ⟨M22, M22s⟩, ⟨M26, M26s⟩, ⟨M27, M27s⟩, ⟨M28, M28s⟩, ⟨M30, M30s⟩, ⟨M34, M34s⟩, ⟨M36, M36s⟩, ⟨M37, M37s⟩⟩ := id M
  have h4 : zu I 145 1 (nI 0) 145 8 = nI fed := by rw [zu_ne _ _ _ _ (by omega)]; exact h8
  refine zEi_of (lv := [some (.ref 145), some (.int a), some (.int b), some (.int c), some (.int e), some (.int g)]) (by decide) rfl (Nat.le_of_ble_eq_true rfl) ?_
  refine z_aload_0 d_Mo_feed_0 ?_
  refine z_iconst (a := nI 0) d_Mo_feed_1 (by decide) ?_
  refine z_putI d_Mo_feed_2 f_Mo_70 (by first | assumption | exact zS0_at (by assumption) (by omega) | exact zS0_at rfl (by omega)) ?_
  refine z_aload_0 d_Mo_feed_5 ?_
  refine z_getIv d_Mo_feed_6 f_Mo_218 (by first | assumption | exact zS0_at (by assumption) (by omega) | exact zS0_at rfl (by omega)) (by first | assumption | ((try simp (disch := omega) only [zu_same, zu_ne, zcp_ne, zfl_ne]); first | assumption | rfl)) ?_
  refine z_bipush (a := nI 20) d_Mo_feed_9 (by decide) ?_
  first | refine z_iaddN d_Mo_feed_11 ?_ | refine z_iadd d_Mo_feed_11 ?_
  refine z_sipush (a := nI 900) d_Mo_feed_12 (by decide) ?_
  refine z_icmp_le (tgt := 20) d_Mo_feed_15 (by decide) (fun _ => ?_) (fun h => absurd (nI_le (by omega) (by omega)) h)
  refine z_aload_0 d_Mo_feed_20 ?_
  refine z_iload_1 d_Mo_feed_21 ?_
  refine z_Vv1 d_Mo_feed_22 k_Mo_221 (by first | assumption | exact zS0_at (by assumption) (by omega) | exact zS0_at rfl (by omega)) (t_Mo_lay (fed := fed + 0) M h4 (by omega)) ⟨Nat.le_of_ble_eq_true rfl, Nat.le_of_ble_eq_true rfl, Nat.le_of_ble_eq_true rfl, Nat.le_of_ble_eq_true rfl⟩ (Nat.le_of_ble_eq_true rfl) ?_
  intro w hq
  obtain ⟨I1, rfl, h5, p1, r1, k1⟩ := hq
  refine z_aload_0 d_Mo_feed_25 ?_
  refine z_iload_2 d_Mo_feed_26 ?_
  refine z_Vv1 d_Mo_feed_27 k_Mo_221 (by first | assumption | exact zS0_at (by assumption) (by omega) | exact zS0_at rfl (by omega)) (t_Mo_lay (fed := fed + 4) M h5 (by omega)) ⟨Nat.le_of_ble_eq_true rfl, Nat.le_of_ble_eq_true rfl, Nat.le_of_ble_eq_true rfl, Nat.le_of_ble_eq_true rfl⟩ (Nat.le_of_ble_eq_true rfl) ?_
  intro w hq
  obtain ⟨I2, rfl, h6, p2, r2, k2⟩ := hq
  refine z_aload_0 d_Mo_feed_30 ?_
  refine z_iload_3 d_Mo_feed_31 ?_
  refine z_Vv1 d_Mo_feed_32 k_Mo_221 (by first | assumption | exact zS0_at (by assumption) (by omega) | exact zS0_at rfl (by omega)) (t_Mo_lay (fed := fed + 8) M h6 (by omega)) ⟨Nat.le_of_ble_eq_true rfl, Nat.le_of_ble_eq_true rfl, Nat.le_of_ble_eq_true rfl, Nat.le_of_ble_eq_true rfl⟩ (Nat.le_of_ble_eq_true rfl) ?_
  intro w hq
  obtain ⟨I3, rfl, h7, p3, r3, k3⟩ := hq
  refine z_aload_0 d_Mo_feed_35 ?_
  refine z_iload_4 d_Mo_feed_36 ?_
  refine z_Vv1 d_Mo_feed_38 k_Mo_221 (by first | assumption | exact zS0_at (by assumption) (by omega) | exact zS0_at rfl (by omega)) (t_Mo_lay (fed := fed + 12) M h7 (by omega)) ⟨Nat.le_of_ble_eq_true rfl, Nat.le_of_ble_eq_true rfl, Nat.le_of_ble_eq_true rfl, Nat.le_of_ble_eq_true rfl⟩ (Nat.le_of_ble_eq_true rfl) ?_
  intro w hq
  obtain ⟨I4, rfl, h8, p4, r4, k4⟩ := hq
  refine z_aload_0 d_Mo_feed_41 ?_
  refine z_iload_5 d_Mo_feed_42 ?_
  refine z_Vv1 d_Mo_feed_44 k_Mo_221 (by first | assumption | exact zS0_at (by assumption) (by omega) | exact zS0_at rfl (by omega)) (t_Mo_lay (fed := fed + 16) M h8 (by omega)) ⟨Nat.le_of_ble_eq_true rfl, Nat.le_of_ble_eq_true rfl, Nat.le_of_ble_eq_true rfl, Nat.le_of_ble_eq_true rfl⟩ (Nat.le_of_ble_eq_true rfl) ?_
  intro w hq
  obtain ⟨I5, rfl, h9, p5, r5, k5⟩ := hq
  refine z_aload_0 d_Mo_feed_47 ?_
  refine z_getIv d_Mo_feed_48 f_Mo_218 (by first | assumption | exact zS0_at (by assumption) (by omega) | exact zS0_at rfl (by omega)) (by first | assumption | ((try simp (disch := omega) only [zu_same, zu_ne, zcp_ne, zfl_ne]); first | assumption | rfl)) ?_
  refine z_reti d_Mo_feed_51 ?_
  rw [zu_row _ _ _ _ (by decide)] at p1
  refine ⟨rfl, I5, rfl, h9, ⟨I1 149, I2 149, I3 149, I4 149, p1, p2, p3, p4, p5⟩, fun x g1 g2 => ?_, fun i hi hi2 => ?_⟩
  · rw [r5 x g1 g2, r4 x g1 g2, r3 x g1 g2, r2 x g1 g2, r1 x g1 g2, zu_row _ _ _ _ g1]
  · rw [k5 i hi, k4 i hi, k3 i hi, k2 i hi, k1 i hi, zu_ne _ _ _ _ (by omega)]
theorem L_feed (h : zInv n w) : zEi G y_Tf_feed prog_1_method_9_code 6 (some .int) 2 [.ref 0, .int a, .int b, .int c, .int e, .int g] w (fun r w1 => w1.2.2.2 = w.2.2.2 ∧ zEi G y_Mo_feed prog_14_method_49_code 6 (some .int) 2 [.ref 145, .int a, .int b, .int c, .int e, .int g] w1 (fun r' w2 => r' = r ∧ zInv (n + 1) w2)) := by
  obtain ⟨f, d, nt, np, nl, nn, fed, mk, I, J, P, S, rfl, Z, X⟩ := h
  have M := clOk_M Z
  have hf := clOk_f Z
  have N := stR_fen X
  have N0 := stR_mod X
  have fm := stR_fm X
  obtain ⟨⟨⟨a1, r1, b1⟩, ⟨a2, r2, b2⟩, ⟨a3, r3, b3⟩, ⟨a4, r4, b4⟩⟩, ⟨⟨o, ob, ao, ro⟩, r5⟩, fw, fp, ft, fz⟩ := id fm
  obtain ⟨⟨x1, x2, x3⟩, x4, ⟨⟨x5, x6, x7⟩, x8, x9⟩, ⟨x10, x11⟩, x12, -, -, -⟩ := id X
  by_cases hfd : 900 < fed + 20
  · refine zEi_mono (t_Tf_feed_x Z x5 hfd x7) ?_
    rintro r w ⟨rfl, rfl⟩
    refine ⟨rfl, zEi_mono (t_Mo_feed_x M x6 hfd x7) ?_⟩
    rintro r w ⟨rfl, rfl⟩
    exact ⟨rfl, zInv_1 Z X⟩
  refine zEi_mono (t_Tf_feed Z x5 (by omega)) ?_
  rintro r w ⟨rfl, I1, rfl, u1, u2, u3, u4⟩
  refine ⟨rfl, zEi_mono (t_Mo_feed M (by rw [u3 145 (by decide) (by decide)]; exact x6) (by omega)) ?_⟩
  rintro r w ⟨rfl, I2, rfl, v1, v2, v3, v4⟩
  have er : ∀ a, a ≠ 0 → a ≠ 1 → a ≠ 145 → a ≠ 149 → I2 a = I a := fun a g1 g2 g3 g4 => by rw [v3 a g3 g4, u3 a g1 g2]
  have e1 : I2 1 = I1 1 := v3 1 (by decide) (by decide)
  have e0 : ∀ k, k ≠ 4 → I2 0 k = I 0 k := fun k hk => by rw [v3 0 (by decide) (by decide)]; exact u4 k hk
  have e145 : ∀ k, k ≠ 8 → k ≠ 1 → I2 145 k = I 145 k := fun k g1 g2 => by rw [v4 k g1 g2, u3 145 (by decide) (by decide)]
  rw [u3 149 (by decide) (by decide)] at v2
  refine ⟨rfl, f, d, nt, np, nl, nn, fed + 20, mk, I2, J, P, S, rfl, Z, stR_tr X hf ⟨fun a ha => er a (by omega) (by omega) (by omega) (by omega), e0 13 (by omega), e145 23 (by omega) (by omega), e145 38 (by omega) (by omega)⟩ jM_r ⟨?_, x2, x3⟩ (fun t ht => ?_) ⟨⟨by rw [v3 0 (by decide) (by decide)]; exact u1, v1, by omega⟩, fun k hk => ?_, ?_⟩ ⟨?_, ?_⟩ x12⟩
  · rw [e145 0 (by omega) (by omega), e0 0 (by omega)]; exact x1
  · exact trR_c (x4 t ht) (er _ (by omega) (by omega) (by omega) (by omega)) (by rw [er 147 (by omega) (by omega) (by omega) (by omega)]) (by rw [er 146 (by omega) (by omega) (by omega) (by omega)]) rfl (fun _ _ => rfl)
  · rw [e1]; exact pb20_eq u2 v2 x8 k hk
  · rw [e1]; exact pb20_ok u2 x9
  · rw [e145 10 (by omega) (by omega), er 11 (by omega) (by omega) (by omega) (by omega)]; exact x10
  · rw [e145 11 (by omega) (by omega), er 11 (by omega) (by omega) (by omega) (by omega)]; exact x11
end TY5
