/-! constructors: Fen, Givings, Tokens -/
section CU0
variable {G : zG} {I I' : Nat → Nat → Int32} {J J' : Nat → Nat → Int64} {P P' : Nat → Nat → Option Nat} {S : List (Nat × Nat)} {f j : Nat}
def fnI (I : Nat → Nat → Int32) (f : Nat) : Nat → Nat → Int32 := zz (zz (zz (zz (zz (zz (zz (zz (zz (zz (zz (zz (zz (zz (zz (zz (zu I f 0 (nI 8)) (f + 1) 0) (f + 2) 0) (f + 3) 0) (f + 4) 0) (f + 5) 0) (f + 6) 0) (f + 7) 0) (f + 8) 0) (f + 9) 0) (f + 10) 0) (f + 11) 0) (f + 12) 0) (f + 12 + 1) 0) (f + 12 + 2) 0) (f + 12 + 3) 0) (f + 12 + 4) 0
def fnJ (J : Nat → Nat → Int64) (f : Nat) : Nat → Nat → Int64 := zz (zz (zz (zz (zz (zz (zz (zz (zz (zz (zz (zz (zz (zz (zz (zz J (f + 1) 0) (f + 2) 0) (f + 3) 0) (f + 4) 0) (f + 5) 0) (f + 6) 0) (f + 7) 0) (f + 8) 0) (f + 9) 0) (f + 10) 0) (f + 11) 0) (f + 12) 0) (f + 12 + 1) 0) (f + 12 + 2) 0) (f + 12 + 3) 0) (f + 12 + 4) 0
def fnP (P : Nat → Nat → Option Nat) (f : Nat) : Nat → Nat → Option Nat := zu (zu (zz (zu (zz (zu (zz (zu (zz (zz (zu (zz (zu (zz (zu (zz (zu (zz (zu (zz (zu (zz (zu (zz (zu (zz (zu (zz (zu (zz (zu (zz (P) (f + 1) none) f 8 (some (f + 1))) (f + 2) none) f 9 (some (f + 2))) (f + 3) none) f 10 (some (f + 3))) (f + 4) none) f 11 (some (f + 4))) (f + 5) none) f 12 (some (f + 5))) (f + 6) none) f 13 (some (f + 6))) (f + 7) none) f 14 (some (f + 7))) (f + 8) none) f 15 (some (f + 8))) (f + 9) none) f 16 (some (f + 9))) (f + 10) none) f 17 (some (f + 10))) (f + 11) none) f 18 (some (f + 11))) (f + 12) none) (f + 12 + 1) none) (f + 12) 3 (some (f + 12 + 1))) (f + 12 + 2) none) (f + 12) 4 (some (f + 12 + 2))) (f + 12 + 3) none) (f + 12) 5 (some (f + 12 + 3))) (f + 12 + 4) none) (f + 12) 6 (some (f + 12 + 4))) f 19 (some (f + 12))
set_option maxHeartbeats 4000000 in
theorem t_Fen_new (h0 : zS0[f]? = some (0, 20)) (h1 : zS0[f + 1]? = some (100, 6)) (h2 : zS0[f + 2]? = some (100, 7)) (h3 : zS0[f + 3]? = some (100, 7)) (h4 : zS0[f + 4]? = some (100, 7)) (h5 : zS0[f + 5]? = some (100, 9)) (h6 : zS0[f + 6]? = some (100, 9)) (h7 : zS0[f + 7]? = some (100, 9)) (h8 : zS0[f + 8]? = some (100, 9)) (h9 : zS0[f + 9]? = some (101, 6)) (h10 : zS0[f + 10]? = some (101, 7)) (h11 : zS0[f + 11]? = some (101, 9)) (h12 : zS0[f + 12]? = some (9, 7)) (h13 : zS0[f + 12 + 1]? = some (100, 60)) (h14 : zS0[f + 12 + 2]? = some (100, 60)) (h15 : zS0[f + 12 + 3]? = some (100, 60)) (h16 : zS0[f + 12 + 4]? = some (100, 60)) : zEv G y_Fen_new prog_2_method_1_code 1 2 16 332 [.ref f] (I, J, P, zS0.take (f + 1)) (fun w => w = (fnI I f, fnJ J f, fnP P f, zS0.take (f + 17))) := by
  refine zEv_of (lv := [some (.ref f)]) (by decide) rfl (Nat.le_of_ble_eq_true rfl) ?_
  refine z_aload_0 d_Fen_new_0 ?_
  refine z_obj d_Fen_new_1 k_Fen_3 o_inst o_code ⟨Nat.le_of_ble_eq_true rfl, Nat.le_of_ble_eq_true rfl⟩ (Nat.le_of_ble_eq_true rfl) ?_
  refine z_aload_0 d_Fen_new_4 ?_
  refine z_bipush (a := nI 8) d_Fen_new_5 (by decide) ?_
  refine z_putI d_Fen_new_7 f_Fen_9 (by first | assumption | exact zS0_at (by assumption) (by omega) | exact zS0_at rfl (by omega)) ?_
  refine z_aload_0 d_Fen_new_10 ?_
  refine z_bipush (a := nI 6) d_Fen_new_11 (by decide) ?_
  refine z_nA100 (n0 := f + 1) d_Fen_new_13 (by decide) ⟨Nat.le_of_ble_eq_true rfl, Nat.le_of_ble_eq_true rfl⟩ (by first | assumption | rfl) ?_
  refine z_putFR d_Fen_new_15 f_Fen_15 rfl ⟨_, _, rfl⟩ (by first | assumption | exact zS0_at (by assumption) (by omega) | exact zS0_at rfl (by omega)) (fun _ => ⟨rfl, rfl⟩) ?_
  refine z_aload_0 d_Fen_new_18 ?_
  refine z_bipush (a := nI 7) d_Fen_new_19 (by decide) ?_
  refine z_nA100 (n0 := f + 2) d_Fen_new_21 (by decide) ⟨Nat.le_of_ble_eq_true rfl, Nat.le_of_ble_eq_true rfl⟩ (by first | assumption | rfl) ?_
  refine z_putFR d_Fen_new_23 f_Fen_19 rfl ⟨_, _, rfl⟩ (by first | assumption | exact zS0_at (by assumption) (by omega) | exact zS0_at rfl (by omega)) (fun _ => ⟨rfl, rfl⟩) ?_
  refine z_aload_0 d_Fen_new_26 ?_
  refine z_bipush (a := nI 7) d_Fen_new_27 (by decide) ?_
  refine z_nA100 (n0 := f + 3) d_Fen_new_29 (by decide) ⟨Nat.le_of_ble_eq_true rfl, Nat.le_of_ble_eq_true rfl⟩ (by first | assumption | rfl) ?_
  refine z_putFR d_Fen_new_31 f_Fen_22 rfl ⟨_, _, rfl⟩ (by first | assumption | exact zS0_at (by assumption) (by omega) | exact zS0_at rfl (by omega)) (fun _ => ⟨rfl, rfl⟩) ?_
  refine z_aload_0 d_Fen_new_34 ?_
  refine z_bipush (a := nI 7) d_Fen_new_35 (by decide) ?_
  refine z_nA100 (n0 := f + 4) d_Fen_new_37 (by decide) ⟨Nat.le_of_ble_eq_true rfl, Nat.le_of_ble_eq_true rfl⟩ (by first | assumption | rfl) ?_
  refine z_putFR d_Fen_new_39 f_Fen_25 rfl ⟨_, _, rfl⟩ (by first | assumption | exact zS0_at (by assumption) (by omega) | exact zS0_at rfl (by omega)) (fun _ => ⟨rfl, rfl⟩) ?_
  refine z_aload_0 d_Fen_new_42 ?_
  refine z_bipush (a := nI 9) d_Fen_new_43 (by decide) ?_
  refine z_nA100 (n0 := f + 5) d_Fen_new_45 (by decide) ⟨Nat.le_of_ble_eq_true rfl, Nat.le_of_ble_eq_true rfl⟩ (by first | assumption | rfl) ?_
  refine z_putFR d_Fen_new_47 f_Fen_28 rfl ⟨_, _, rfl⟩ (by first | assumption | exact zS0_at (by assumption) (by omega) | exact zS0_at rfl (by omega)) (fun _ => ⟨rfl, rfl⟩) ?_
  refine z_aload_0 d_Fen_new_50 ?_
  refine z_bipush (a := nI 9) d_Fen_new_51 (by decide) ?_
  refine z_nA100 (n0 := f + 6) d_Fen_new_53 (by decide) ⟨Nat.le_of_ble_eq_true rfl, Nat.le_of_ble_eq_true rfl⟩ (by first | assumption | rfl) ?_
  refine z_putFR d_Fen_new_55 f_Fen_31 rfl ⟨_, _, rfl⟩ (by first | assumption | exact zS0_at (by assumption) (by omega) | exact zS0_at rfl (by omega)) (fun _ => ⟨rfl, rfl⟩) ?_
  refine z_aload_0 d_Fen_new_58 ?_
  refine z_bipush (a := nI 9) d_Fen_new_59 (by decide) ?_
  refine z_nA100 (n0 := f + 7) d_Fen_new_61 (by decide) ⟨Nat.le_of_ble_eq_true rfl, Nat.le_of_ble_eq_true rfl⟩ (by first | assumption | rfl) ?_
  refine z_putFR d_Fen_new_63 f_Fen_34 rfl ⟨_, _, rfl⟩ (by first | assumption | exact zS0_at (by assumption) (by omega) | exact zS0_at rfl (by omega)) (fun _ => ⟨rfl, rfl⟩) ?_
  refine z_aload_0 d_Fen_new_66 ?_
  refine z_bipush (a := nI 9) d_Fen_new_67 (by decide) ?_
  refine z_nA100 (n0 := f + 8) d_Fen_new_69 (by decide) ⟨Nat.le_of_ble_eq_true rfl, Nat.le_of_ble_eq_true rfl⟩ (by first | assumption | rfl) ?_
  refine z_putFR d_Fen_new_71 f_Fen_37 rfl ⟨_, _, rfl⟩ (by first | assumption | exact zS0_at (by assumption) (by omega) | exact zS0_at rfl (by omega)) (fun _ => ⟨rfl, rfl⟩) ?_
  refine z_aload_0 d_Fen_new_74 ?_
  refine z_bipush (a := nI 6) d_Fen_new_75 (by decide) ?_
  refine z_nA101 (n0 := f + 9) d_Fen_new_77 (by decide) ⟨Nat.le_of_ble_eq_true rfl, Nat.le_of_ble_eq_true rfl⟩ (by first | assumption | rfl) ?_
  refine z_putFR d_Fen_new_79 f_Fen_40 rfl ⟨_, _, rfl⟩ (by first | assumption | exact zS0_at (by assumption) (by omega) | exact zS0_at rfl (by omega)) (fun _ => ⟨rfl, rfl⟩) ?_
  refine z_aload_0 d_Fen_new_82 ?_
  refine z_bipush (a := nI 7) d_Fen_new_83 (by decide) ?_
  refine z_nA101 (n0 := f + 10) d_Fen_new_85 (by decide) ⟨Nat.le_of_ble_eq_true rfl, Nat.le_of_ble_eq_true rfl⟩ (by first | assumption | rfl) ?_
  refine z_putFR d_Fen_new_87 f_Fen_44 rfl ⟨_, _, rfl⟩ (by first | assumption | exact zS0_at (by assumption) (by omega) | exact zS0_at rfl (by omega)) (fun _ => ⟨rfl, rfl⟩) ?_
  refine z_aload_0 d_Fen_new_90 ?_
  refine z_bipush (a := nI 9) d_Fen_new_91 (by decide) ?_
  refine z_nA101 (n0 := f + 11) d_Fen_new_93 (by decide) ⟨Nat.le_of_ble_eq_true rfl, Nat.le_of_ble_eq_true rfl⟩ (by first | assumption | rfl) ?_
  refine z_putFR d_Fen_new_95 f_Fen_47 rfl ⟨_, _, rfl⟩ (by first | assumption | exact zS0_at (by assumption) (by omega) | exact zS0_at rfl (by omega)) (fun _ => ⟨rfl, rfl⟩) ?_
  refine z_aload_0 d_Fen_new_98 ?_
  refine z_nO (n0 := f + 12) d_Fen_new_99 w_Fen_50 ⟨Nat.le_of_ble_eq_true rfl, Nat.le_of_ble_eq_true rfl⟩ (by first | assumption | rfl) ?_
  refine z_dup rfl d_Fen_new_102 ?_
  refine z_I0 d_Fen_new_103 k_Fen_52 (by show f + 12 < (zS0.take (f + 12 + 1)).length; rw [zS0_tl h13]; omega) (t_Years_new h12 h13 h14 h15 h16) ⟨Nat.le_of_ble_eq_true rfl, Nat.le_of_ble_eq_true rfl, Nat.le_of_ble_eq_true rfl, Nat.le_of_ble_eq_true rfl⟩ (Nat.le_of_ble_eq_true rfl) ?_
  intro w hq
  obtain rfl := hq
  refine z_putFR d_Fen_new_106 f_Fen_53 rfl ⟨_, _, rfl⟩ (by first | assumption | exact zS0_at (by assumption) (by omega) | exact zS0_at rfl (by omega)) (fun _ => ⟨rfl, rfl⟩) ?_
  refine z_retv d_Fen_new_109 ?_
  exact rfl
theorem zS0_128 : (zS0.take 128).length = 128 := by decide +kernel
theorem zS0_139 : zS0.take 128 ++ (104, 10) :: List.replicate 10 (100, 128) = zS0.take 139 := by decide +kernel
theorem w_Giv_11 : Cond.classLink "TinFen$Givings" 11 "[[I" ∈ zT := zt 436 (by decide +kernel) (by decide +kernel)
theorem t_Giv_new : zEv G y_Giv_new prog_5_method_1_code 1 1 11 1290 [.ref 127] (I, J, P, zS0.take 128) (fun w => w = (zzm I 128 10 0, zzm J 128 10 0, zu (zzp P 128 10) 127 0 (some 128), zS0.take 139)) := by
  refine zEv_of (lv := [some (.ref 127)]) (by decide) rfl (Nat.le_of_ble_eq_true rfl) ?_
  refine z_aload_0 d_Giv_new_0 ?_
  refine z_obj d_Giv_new_1 k_Giv_3 o_inst o_code ⟨Nat.le_of_ble_eq_true rfl, Nat.le_of_ble_eq_true rfl⟩ (Nat.le_of_ble_eq_true rfl) ?_
  refine z_aload_0 d_Giv_new_4 ?_
  refine z_bipush (a := nI 10) d_Giv_new_5 (by decide) ?_
  refine z_sipush (a := nI 128) d_Giv_new_7 (by decide) ?_
  refine z_mna (n := 10) (k := 128) d_Giv_new_10 w_Giv_11 (by decide) (by decide) ⟨Nat.le_of_ble_eq_true rfl, Nat.le_of_ble_eq_true rfl⟩ (by rw [zS0_128]; decide) ?_
  rw [zS0_128, zS0_139]
  refine z_putFR d_Giv_new_14 f_Giv_13 rfl ⟨_, _, rfl⟩ (by first | assumption | exact zS0_at (by assumption) (by omega) | exact zS0_at rfl (by omega)) (fun _ => ⟨rfl, rfl⟩) ?_
  refine z_retv d_Giv_new_17 ?_
  exact rfl
end CU0
section CU1
variable {G : zG} {y : MethodName} {cc : ByteArray} {mL : Nat} {ret : Option FieldType} {R : Room} {Z : List Frame → Array Value → State → State → Prop} {pc : Nat} {lv : List (Option Value)} {st : List Value} {w : zW} {u v : Nat}
theorem z_T0i {y' : MethodName} {cc' : ByteArray} {mL' idx d : Nat} {ret' : Option FieldType} {Q0 : Int32 → zW → Prop} (hd : decode cc pc = .ok (.invokevirtual idx, 3)) (hk : zCt y.cls idx y' cc' mL' ret' 0) (E : zEi G y' cc' mL' ret' d (.ref 1000001 :: []) w Q0) (hR : d + 1 ≤ R.frames ∧ 31 + 40 * d ≤ R.locals ∧ u ≤ R.cells ∧ v ≤ R.slots) (hw : (st.map (fun x => x.category)).sum ≤ 8) (k : ∀ (r : Int32) (w' : zW), Q0 r w' → zA G y cc mL ret R Z (pc + 3) lv (.int r :: st) w' u v) : zA G y cc mL ret R Z pc lv (.ref 1000001 :: st) w u v :=
  z_callT (As := []) hd hk E hR rfl hw (fun r w' hq => by obtain ⟨r0, rfl, hq0⟩ := hq; exact k r0 w' hq0)
theorem z_T1i {y' : MethodName} {cc' : ByteArray} {mL' idx d : Nat} {ret' : Option FieldType} {x1 : Value} {Q0 : Int32 → zW → Prop} (hd : decode cc pc = .ok (.invokevirtual idx, 3)) (hk : zCt y.cls idx y' cc' mL' ret' 1) (E : zEi G y' cc' mL' ret' d (.ref 1000001 :: [x1]) w Q0) (hR : d + 1 ≤ R.frames ∧ 31 + 40 * d ≤ R.locals ∧ u ≤ R.cells ∧ v ≤ R.slots) (hw : (st.map (fun x => x.category)).sum ≤ 8) (k : ∀ (r : Int32) (w' : zW), Q0 r w' → zA G y cc mL ret R Z (pc + 3) lv (.int r :: st) w' u v) : zA G y cc mL ret R Z pc lv (x1 :: .ref 1000001 :: st) w u v :=
  z_callT (As := [x1]) hd hk E hR rfl hw (fun r w' hq => by obtain ⟨r0, rfl, hq0⟩ := hq; exact k r0 w' hq0)
end CU1
section CU2
variable {G : zG} {I I' : Nat → Nat → Int32} {J J' : Nat → Nat → Int64} {P P' : Nat → Nat → Option Nat} {S : List (Nat × Nat)} {T : Nat → Int32} {K K' : Nat → Int64} {L p : Nat}
def pE (j : Nat) : Nat := ([4, 10, 16, 23, 26, 31, 35, 38, 41, 46, 51, 56, 62, 67, 71, 76, 80, 85, 90, 94, 99] : List Nat).getD j 0
def zTx (i : Nat) : Int32 := zByt.getD i 0
theorem s_tok_K : twd (s_tok T L K p) = twd (s_tok T L K' p) ∧ ten (s_tok T L K p) = ten (s_tok T L K' p) := by
  unfold s_tok
  generalize s_run (fun i => c_ws (T i)) (L - p) p = s
  unfold s_tok1
  by_cases h1 : L ≤ s
  · rw [if_pos h1, if_pos h1]; exact ⟨rfl, rfl⟩
  · rw [if_neg h1, if_neg h1]
    by_cases h2 : c_le (T s) = true
    · rw [if_pos h2, if_pos h2]
      dsimp only
      by_cases h3 : s_run (fun i => c_le (T i)) (L - s) s - s ≤ 8
      · rw [if_pos h3, if_pos h3]; exact ⟨rfl, rfl⟩
      · rw [if_neg h3, if_neg h3]; exact ⟨rfl, rfl⟩
    · rw [if_neg h2, if_neg h2]; exact ⟨rfl, rfl⟩
theorem tq_0 : twd (s_tok zTx 100 (fun _ => 0) 0) = zKw 0 ∧ ten (s_tok zTx 100 (fun _ => 0) 0) = pE 0 := by decide +kernel
theorem tq_s : ∀ j, j < 20 → twd (s_tok zTx 100 (fun _ => 0) (pE j)) = zKw (j + 1) ∧ ten (s_tok zTx 100 (fun _ => 0) (pE j)) = pE (j + 1) := by decide +kernel
theorem zByt_s : ∀ j, j < 100 → vp_nar .byte (zByt.getD j 0) = zByt.getD j 0 := by decide +kernel
theorem zTx_out {i : Nat} (h : 100 ≤ i) : zTx i = 0 := by
  unfold zTx
  rw [List.getD_eq_getElem?_getD, List.getElem?_eq_none (by rw [zByt_len]; exact h)]
  rfl
def tI (I : Nat → Nat → Int32) : Nat → Nat → Int32 := zz (zu (zu (zz (zz I 12 0) 13 0) 11 10 (-1)) 11 11 (-1)) 14 0
def tJ (J : Nat → Nat → Int64) : Nat → Nat → Int64 := zz (zz (zz J 12 0) 13 0) 14 0
def tP (P : Nat → Nat → Option Nat) : Nat → Nat → Option Nat := zz (zu (zz (zu (zz P 12 none) 11 0 (some 12)) 13 none) 11 3 (some 13)) 14 none
theorem t_Tok_new : zEv G y_Tok_new prog_9_method_1_code 3 6 3 121 [.ref 11] (I, J, P, zS0.take 12) (fun w => ∃ I' J' P', w = (I', J', P', zS0.take 15) ∧ (∀ a, ¬ (11 ≤ a ∧ a ≤ 14) → I' a = I a ∧ J' a = J a ∧ P' a = P a) ∧ P' 11 3 = some 13 ∧ I' 11 10 = -1 ∧ I' 11 11 = -1 ∧ ∀ i, i < 21 → J' 13 i = zKw i) := by
  have eI : ∀ a, ¬ (11 ≤ a ∧ a ≤ 14) → tI I a = I a := fun a ha => by unfold tI; rw [zz_row _ _ _ (by omega), zu_row _ _ _ _ (by omega), zu_row _ _ _ _ (by omega), zz_row _ _ _ (by omega), zz_row _ _ _ (by omega)]
  have eJ : ∀ a, ¬ (11 ≤ a ∧ a ≤ 14) → tJ J a = J a := fun a ha => by unfold tJ; rw [zz_row _ _ _ (by omega), zz_row _ _ _ (by omega), zz_row _ _ _ (by omega)]
  have eP : ∀ a, ¬ (11 ≤ a ∧ a ≤ 14) → zu (tP P) 11 0 (some 14) a = P a := fun a ha => by unfold tP; rw [zu_row _ _ _ _ (by omega), zz_row _ _ _ (by omega), zu_row _ _ _ _ (by omega), zz_row _ _ _ (by omega), zu_row _ _ _ _ (by omega), zz_row _ _ _ (by omega)]
  refine zEv_of (lv := [some (.ref 11), none, none]) (by decide) rfl (Nat.le_of_ble_eq_true rfl) ?_
  have l2 : ∀ m j I4 J4 t, 21 - j < m → j ≤ 21 → tkC zTx (J4 13) 14 100 100 I4 J4 (zu (tP P) 11 0 (some 14)) (zS0.take 15) t → (j < 21 → twd t = zKw j ∧ ten t = pE j) → (∀ a, ¬ (11 ≤ a ∧ a ≤ 14) → I4 a = I a ∧ J4 a = J a) → I4 11 11 = -1 → (∀ i, i < j → J4 13 i = zKw i) → zA G y_Tok_new prog_9_method_1_code 3 none (zRm 6 3 121) (zM G 3 121 (fun r w' => r = none ∧ (fun w => ∃ I' J' P', w = (I', J', P', zS0.take 15) ∧ (∀ a, ¬ (11 ≤ a ∧ a ≤ 14) → I' a = I a ∧ J' a = J a ∧ P' a = P a) ∧ P' 11 3 = some 13 ∧ I' 11 10 = -1 ∧ I' 11 11 = -1 ∧ ∀ i, i < 21 → J' 13 i = zKw i) w')) 70 [some (.ref 11), some (.ref 14), some (.int (nI j))] [] (I4, J4, zu (tP P) 11 0 (some 14), zS0.take 15) 3 121 := by
    intro m
    induction m with
    | zero => intro j I4 J4 t h; exact absurd h (Nat.not_lt_zero _)
    | succ m ih =>
      intro j I4 J4 t hm hj C ht f1 f2 f3
      obtain ⟨c1, c2, c3, c4, c5, c6, c7, c8, c9, c10⟩ := id C
      obtain ⟨x1, x2, x3, x4, x5, x6⟩ := id c1
      have hw : J4 11 6 = twd t := c6.2.2.2.1
      refine z_iload_2 d_Tok_new_70 ?_
      refine z_bipush (a := nI 21) d_Tok_new_71 (by decide) ?_
      refine z_icmp_ge (tgt := 96) d_Tok_new_73 (by decide) (fun hb => ?_) (fun hb => ?_)
      · have hb := (nI_leI (by omega) (by omega)).mp hb
        obtain rfl : j = 21 := by omega
        refine z_aload_0 d_Tok_new_96 ?_
        refine z_iconst (a := -1) d_Tok_new_97 (by decide) ?_
        refine z_putI d_Tok_new_98 f_Tok_19 (by first | assumption | exact zS0_at (by assumption) (by omega) | exact zS0_at rfl (by omega)) ?_
        refine z_retv d_Tok_new_101 ?_
        refine ⟨_, _, _, rfl, fun a ha => ⟨?_, (f1 a ha).2, eP a ha⟩, x5, zu_same _ _ _ _, ?_, f3⟩
        · rw [zu_row _ _ _ _ (by omega)]; exact (f1 a ha).1
        · rw [zu_ne _ _ _ _ (by decide)]; exact f2
      · have hb : j < 21 := Nat.lt_of_not_le (fun q => hb (nI_le q (by omega)))
        obtain ⟨hw2, he⟩ := ht hb
        have C' : tkC zTx ((zu J4 13 j (twd t)) 13) 14 100 100 I4 (zu J4 13 j (twd t)) (zu (tP P) 11 0 (some 14)) (zS0.take 15) t := by
          refine ⟨c1, c2, c3, c4, rfl, ?_, c7, c8, c9, c10⟩
          obtain ⟨d1, d2, d3, d4, d5⟩ := c6
          exact ⟨d1, d2, d3, by rw [zu_row _ _ _ _ (by decide)]; exact d4, d5⟩
        refine z_aload_0 d_Tok_new_76 ?_
        refine z_getR d_Tok_new_77 f_Tok_13 (by first | assumption | exact zS0_at (by assumption) (by omega) | exact zS0_at rfl (by omega)) (by first | assumption | exact zS0_at (by assumption) (by omega) | exact zS0_at rfl (by omega)) ?_
        refine z_iload_2 d_Tok_new_80 ?_
        refine z_aload_0 d_Tok_new_81 ?_
        refine z_getJv d_Tok_new_82 f_Tok_42 (by first | assumption | exact zS0_at (by assumption) (by omega) | exact zS0_at rfl (by omega)) (by first | assumption | ((try simp (disch := omega) only [zu_same, zu_ne, zcp_ne, zfl_ne]); first | assumption | rfl)) ?_
        first | refine z_lastN d_Tok_new_85 (by first | assumption | exact zS0_at (by assumption) (by omega) | exact zS0_at rfl (by omega)) (by omega) (by first | decide | omega) ?_ | refine z_last d_Tok_new_85 (by first | assumption | exact zS0_at (by assumption) (by omega) | exact zS0_at rfl (by omega)) (by first | assumption | exact zS0_at (by assumption) (by omega) | exact zS0_at rfl (by omega)) ?_
        refine z_aload_0 d_Tok_new_86 ?_
        refine z_Vv0 d_Tok_new_87 k_Tok_46 (by first | assumption | exact zS0_at (by assumption) (by omega) | exact zS0_at rfl (by omega)) (t_adv C') ⟨Nat.le_of_ble_eq_true rfl, Nat.le_of_ble_eq_true rfl, Nat.le_of_ble_eq_true rfl, Nat.le_of_ble_eq_true rfl⟩ (Nat.le_of_ble_eq_true rfl) ?_
        rintro w ⟨I5, J5, rfl, F1, F2, C5⟩
        have C6 : tkC zTx (J5 13) 14 100 100 I5 J5 (zu (tP P) 11 0 (some 14)) (zS0.take 15) (tA zTx 100 ((zu J4 13 j (twd t)) 13) t) := by
          rw [← F2 13 (by decide)] at C5 ⊢
          exact C5
        first | refine z_iinc_2 d_Tok_new_90 rfl (zi_inc _) ?_ | refine z_iinc_2 d_Tok_new_90 rfl rfl ?_
        refine z_goto (tgt := 70) d_Tok_new_93 (by decide) ?_
        refine ih (j + 1) I5 J5 _ (by omega) (by omega) C6 (fun h20 => ?_) (fun a ha => ⟨?_, ?_⟩) ?_ (fun i hi => ?_)
        · have q := tq_s j (by omega)
          have e := s_tok_K (T := zTx) (L := 100) (K := (zu J4 13 j (twd t)) 13) (K' := fun _ => 0) (p := pE j)
          show twd (s_tok zTx 100 ((zu J4 13 j (twd t)) 13) (ten t)) = zKw (j + 1) ∧ ten (s_tok zTx 100 ((zu J4 13 j (twd t)) 13) (ten t)) = pE (j + 1)
          rw [he, e.1, e.2]
          exact q
        · rw [F1.1 a (by omega)]; exact (f1 a ha).1
        · rw [F2 a (by omega), zu_row _ _ _ _ (by omega)]; exact (f1 a ha).2
        · rw [F1.2.2.2]; exact f2
        · rw [F2 13 (by decide)]
          by_cases e : i = j
          · subst e; rw [zu_same]; exact hw2
          · rw [zu_ne _ _ _ _ (by omega)]; exact f3 i (by omega)
  have l1 : ∀ m j I2, 100 - j < m → j ≤ 100 → (∀ a, a ≠ 14 → I2 a = tI I a) → (∀ i, I2 14 i = if i < j then zTx i else 0) → zA G y_Tok_new prog_9_method_1_code 3 none (zRm 6 3 121) (zM G 3 121 (fun r w' => r = none ∧ (fun w => ∃ I' J' P', w = (I', J', P', zS0.take 15) ∧ (∀ a, ¬ (11 ≤ a ∧ a ≤ 14) → I' a = I a ∧ J' a = J a ∧ P' a = P a) ∧ P' 11 3 = some 13 ∧ I' 11 10 = -1 ∧ I' 11 11 = -1 ∧ ∀ i, i < 21 → J' 13 i = zKw i) w')) 39 [some (.ref 11), some (.ref 14), some (.int (nI j))] [] (I2, tJ J, tP P, zS0.take 15) 3 121 := by
    intro m
    induction m with
    | zero => intro j I2 h; exact absurd h (Nat.not_lt_zero _)
    | succ m ih =>
      intro j I2 hm hj g1 g2
      refine z_iload_2 d_Tok_new_39 ?_
      refine z_aload_1 d_Tok_new_40 ?_
      first | refine z_alen100 d_Tok_new_41 (by first | assumption | exact zS0_at (by assumption) (by omega) | exact zS0_at rfl (by omega)) ?_ | refine z_alen101 d_Tok_new_41 (by first | assumption | exact zS0_at (by assumption) (by omega) | exact zS0_at rfl (by omega)) ?_ | refine z_alen102 d_Tok_new_41 (by first | assumption | exact zS0_at (by assumption) (by omega) | exact zS0_at rfl (by omega)) ?_
      refine z_icmp_ge (tgt := 61) d_Tok_new_42 (by decide) (fun hb => ?_) (fun hb => ?_)
      · have hb := (nI_leI (by omega) (by omega)).mp hb
        obtain rfl : j = 100 := by omega
        have h14 : I2 14 = zTx := by
          funext i
          rw [g2 i]
          by_cases h : i < 100
          · rw [if_pos h]
          · rw [if_neg h, zTx_out (by omega)]
        refine z_aload_0 d_Tok_new_61 ?_
        refine z_aload_1 d_Tok_new_62 ?_
        refine z_aload_1 d_Tok_new_63 ?_
        first | refine z_alen100 d_Tok_new_64 (by first | assumption | exact zS0_at (by assumption) (by omega) | exact zS0_at rfl (by omega)) ?_ | refine z_alen101 d_Tok_new_64 (by first | assumption | exact zS0_at (by assumption) (by omega) | exact zS0_at rfl (by omega)) ?_ | refine z_alen102 d_Tok_new_64 (by first | assumption | exact zS0_at (by assumption) (by omega) | exact zS0_at rfl (by omega)) ?_
        refine z_Vv2 d_Tok_new_65 k_Tok_38 (by first | assumption | exact zS0_at (by assumption) (by omega) | exact zS0_at rfl (by omega)) (t_Tok_open (q := 14) (l := 100) (n := 100) (zS0_at rfl (by omega)) rfl (zS0_at rfl (by omega)) (zS0_at rfl (by omega)) (by decide) (by decide) (by decide)) ⟨Nat.le_of_ble_eq_true rfl, Nat.le_of_ble_eq_true rfl, Nat.le_of_ble_eq_true rfl, Nat.le_of_ble_eq_true rfl⟩ (Nat.le_of_ble_eq_true rfl) ?_
        rintro w ⟨I3, J3, rfl, f1, f2, f3, f4, C⟩
        rw [h14] at C
        have e := s_tok_K (T := zTx) (L := 100) (K := tJ J 13) (K' := fun _ => 0) (p := 0)
        refine z_iconst (a := nI 0) d_Tok_new_68 (by decide) ?_
        first | refine z_istore_2 d_Tok_new_69 rfl ?_ | (refine z_forget_1 ?_; refine z_istore_2 d_Tok_new_69 rfl ?_)
        refine l2 22 0 I3 J3 _ (by omega) (by omega) (by rw [f4 13 (by decide)]; exact C) (fun _ => ?_) (fun a ha => ⟨?_, ?_⟩) f3 (fun i h => absurd h (Nat.not_lt_zero _))
        · rw [e.1, e.2]; exact tq_0
        · rw [f1 a (by omega), g1 a (by omega)]; exact eI a ha
        · rw [f4 a (by omega)]; exact eJ a ha
      · have hb : j < 100 := Nat.lt_of_not_le (fun q => hb (nI_le q (by omega)))
        refine z_aload_1 d_Tok_new_45 ?_
        refine z_iload_2 d_Tok_new_46 ?_
        refine z_ldcS rfl d_Tok_new_47 ?_
        refine z_iload_2 d_Tok_new_49 ?_
        refine z_T1i d_Tok_new_50 k_Tok_34 (t_JStr_charAt hb) ⟨Nat.le_of_ble_eq_true rfl, Nat.le_of_ble_eq_true rfl, Nat.le_of_ble_eq_true rfl, Nat.le_of_ble_eq_true rfl⟩ (Nat.le_of_ble_eq_true rfl) ?_
        intro r w hq
        obtain ⟨rfl, rfl⟩ := hq
        refine z_i2b d_Tok_new_53 ?_
        rw [zByt_b j hb]
        refine z_bastN d_Tok_new_54 (zS0_at rfl (by omega)) hb (by decide) ?_
        rw [zByt_s j hb]
        first | refine z_iinc_2 d_Tok_new_55 rfl (zi_inc _) ?_ | refine z_iinc_2 d_Tok_new_55 rfl rfl ?_
        refine z_goto (tgt := 39) d_Tok_new_58 (by decide) ?_
        refine ih (j + 1) _ (by omega) (by omega) (fun a ha => (zu_row _ _ _ _ ha).trans (g1 a ha)) (fun i => ?_)
        by_cases e : i = j
        · subst e; rw [zu_same, if_pos (by omega)]; rfl
        · rw [zu_ne _ _ _ _ (by omega), g2 i]
          by_cases h : i < j
          · rw [if_pos h, if_pos (by omega)]
          · rw [if_neg h, if_neg (by omega)]
  refine z_aload_0 d_Tok_new_0 ?_
  refine z_obj d_Tok_new_1 k_Tok_1 o_inst o_code ⟨Nat.le_of_ble_eq_true rfl, Nat.le_of_ble_eq_true rfl⟩ (Nat.le_of_ble_eq_true rfl) ?_
  refine z_aload_0 d_Tok_new_4 ?_
  refine z_iconst (a := nI 0) d_Tok_new_5 (by decide) ?_
  refine z_nA102 (n0 := 12) d_Tok_new_6 (by decide) ⟨Nat.le_of_ble_eq_true rfl, Nat.le_of_ble_eq_true rfl⟩ (by first | assumption | rfl) ?_
  refine z_putR d_Tok_new_8 f_Tok_7 (by first | assumption | exact zS0_at (by assumption) (by omega) | exact zS0_at rfl (by omega)) (fun _ => ⟨rfl, rfl⟩) ?_
  refine z_aload_0 d_Tok_new_11 ?_
  refine z_bipush (a := nI 21) d_Tok_new_12 (by decide) ?_
  refine z_nA101 (n0 := 13) d_Tok_new_14 (by decide) ⟨Nat.le_of_ble_eq_true rfl, Nat.le_of_ble_eq_true rfl⟩ (by first | assumption | rfl) ?_
  refine z_putFR d_Tok_new_16 f_Tok_13 rfl ⟨_, _, rfl⟩ (by first | assumption | exact zS0_at (by assumption) (by omega) | exact zS0_at rfl (by omega)) (fun _ => ⟨rfl, rfl⟩) ?_
  refine z_aload_0 d_Tok_new_19 ?_
  refine z_iconst (a := -1) d_Tok_new_20 (by decide) ?_
  refine z_putI d_Tok_new_21 f_Tok_19 (by first | assumption | exact zS0_at (by assumption) (by omega) | exact zS0_at rfl (by omega)) ?_
  refine z_aload_0 d_Tok_new_24 ?_
  refine z_iconst (a := -1) d_Tok_new_25 (by decide) ?_
  refine z_putI d_Tok_new_26 f_Tok_23 (by first | assumption | exact zS0_at (by assumption) (by omega) | exact zS0_at rfl (by omega)) ?_
  refine z_ldcS rfl d_Tok_new_29 ?_
  refine z_T0i d_Tok_new_31 k_Tok_28 t_JStr_length ⟨Nat.le_of_ble_eq_true rfl, Nat.le_of_ble_eq_true rfl, Nat.le_of_ble_eq_true rfl, Nat.le_of_ble_eq_true rfl⟩ (Nat.le_of_ble_eq_true rfl) ?_
  intro r w hq
  obtain ⟨rfl, rfl⟩ := hq
  refine z_nA102 (n0 := 14) d_Tok_new_34 (by decide) ⟨Nat.le_of_ble_eq_true rfl, Nat.le_of_ble_eq_true rfl⟩ (by first | assumption | rfl) ?_
  first | refine z_astore_1 d_Tok_new_36 rfl ?_ | (refine z_forget_0 ?_; refine z_astore_1 d_Tok_new_36 rfl ?_)
  refine z_iconst (a := nI 0) d_Tok_new_37 (by decide) ?_
  first | refine z_istore_2 d_Tok_new_38 rfl ?_ | (refine z_forget_1 ?_; refine z_istore_2 d_Tok_new_38 rfl ?_)
  exact l1 101 0 (tI I) (by omega) (by omega) (fun _ _ => rfl) (fun i => rfl)
end CU2
