/-! the reference: a FEN read, blocks emptied and copied -/
section MF6
/-- a table with a stretch of a row filled -/
def zfr {α : Type} (f : Nat → Nat → α) (q s n : Nat) (x : α) : Nat → Nat → α := fun a k => if a = q ∧ s ≤ k ∧ k < s + n then x else f a k
theorem zfr_0 {α : Type} {f : Nat → Nat → α} {q s : Nat} {x : α} : zfr f q s 0 x = f := by
  funext a k
  unfold zfr
  rw [if_neg (by omega)]
theorem zfr_s {α : Type} {f : Nat → Nat → α} {q s n : Nat} {x : α} : zu (zfr f q s n x) q (s + n) x = zfr f q s (n + 1) x := by
  funext a k
  unfold zu zfr
  by_cases h : a = q ∧ k = s + n
  · rw [if_pos h, if_pos (by omega)]
  · rw [if_neg h]
    by_cases h2 : a = q ∧ s ≤ k ∧ k < s + n
    · rw [if_pos h2, if_pos (by omega)]
    · rw [if_neg h2, if_neg (by omega)]
theorem zfr_ne {α : Type} {f : Nat → Nat → α} {q s n a k : Nat} {x : α} (h : ¬ (a = q ∧ s ≤ k ∧ k < s + n)) : zfr f q s n x a k = f a k := by unfold zfr; rw [if_neg h]
theorem zfr_row {α : Type} {f : Nat → Nat → α} {q s n a : Nat} {x : α} (h : a ≠ q) : zfr f q s n x a = f a := by funext k; exact zfr_ne (by omega)
theorem zfr_in {α : Type} {f : Nat → Nat → α} {q s n k : Nat} {x : α} (h : s ≤ k ∧ k < s + n) : zfr f q s n x q k = x := by unfold zfr; rw [if_pos ⟨rfl, h⟩]
theorem zcp_0 {α : Type} {f : Nat → Nat → α} {q0 q1 s d : Nat} : zcp f q0 q1 s d 0 = f := by
  funext a k
  by_cases h : a = q1
  · subst h
    exact zcp_out (by omega)
  · rw [zcp_ne h]
theorem zcp_s {α : Type} {f : Nat → Nat → α} {q s d n : Nat} : zu (zcp f q q s d n) q (d + n) (f q (s + n)) = zcp f q q s d (n + 1) := by
  funext a k
  by_cases h : a = q
  · subst h
    by_cases h1 : k = d + n
    · subst h1
      rw [zu_same, zcp_in (by omega) (by omega)]
      congr 1
      omega
    · rw [zu_ne _ _ _ _ (by omega)]
      by_cases h2 : d ≤ k ∧ k < d + n
      · rw [zcp_in h2.1 h2.2, zcp_in h2.1 (by omega)]
      · rw [zcp_out h2, zcp_out (by omega)]
  · rw [zu_ne _ _ _ _ (by omega), zcp_ne h, zcp_ne h]
variable {G : zG} {I I1 I2 : Nat → Nat → Int32} {J J1 J2 : Nat → Nat → Int64} {P : Nat → Nat → Option Nat} {S : List (Nat × Nat)} {L : Nat} {a b : Int32} {T : Nat → Int32} {K : Nat → Int64} {t : tk} {z nt np nl nn od : Nat} {A : Nat → Nat → Int32} {B : Nat → Nat → Int64}
def m_empt (I : Nat → Nat → Int32) (c : Nat) : Nat → Nat → Int32 := zu (zfr I 150 (359 * c) 359 (nI 0)) 150 (359 * c + 4) (nI 8)
theorem t_Mo_empties {c : Nat} (M : modOk P S) (hc : c ≤ 4) : zEv G y_Mo_empties prog_14_method_54_code 4 1 0 0 [.ref 145, .int (nI c)] (I, J, P, S) (fun w => w = (m_empt I c, J, P, S)) := by
  obtain ⟨M0, ⟨M4, M4s⟩, ⟨M5, M5s⟩, ⟨M6, M6s⟩, ⟨M7, M7s⟩, ⟨M20, M20s⟩, ⟨M21, M21s⟩, ⟨M22, M22s⟩, ⟨M26, M26s⟩, ⟨M27, M27s⟩, ⟨M28, M28s⟩, ⟨M30, M30s⟩, ⟨M34, M34s⟩, ⟨M36, M36s⟩, ⟨M37, M37s⟩⟩ := id M
  refine zEv_of (lv := [some (.ref 145), some (.int (nI c)), none, none]) (by decide) rfl (Nat.le_of_ble_eq_true rfl) ?_
  have loop : ∀ m j, 359 - j < m → j ≤ 359 → zA G y_Mo_empties prog_14_method_54_code 4 none (zRm 1 0 0) (zM G 0 0 (fun r w' => r = none ∧ (fun w => w = (m_empt I c, J, P, S)) w')) 8 [some (.ref 145), some (.int (nI c)), some (.int (nI (359 * c))), some (.int (nI j))] [] (zfr I 150 (359 * c) j (nI 0), J, P, S) 0 0 := by
    intro m
    induction m with
    | zero => intro j h; omega
    | succ m ih =>
      intro j hm hj
      refine z_iload_3 d_Mo_empties_8 ?_
      refine z_sipush (a := nI 359) d_Mo_empties_9 (by decide) ?_
      refine z_icmp_ge (tgt := 30) d_Mo_empties_12 (by decide) (fun hb => ?_) (fun hb => ?_)
      · have hb := (nI_leI (by omega) (by omega)).mp hb
        obtain rfl : j = 359 := by omega
        refine z_aload_0 d_Mo_empties_30 ?_
        refine z_getR d_Mo_empties_31 f_Mo_35 (by first | assumption | exact zS0_at (by assumption) (by omega) | exact zS0_at rfl (by omega)) (by first | assumption | exact zS0_at (by assumption) (by omega) | exact zS0_at rfl (by omega)) ?_
        refine z_iload_2 d_Mo_empties_34 ?_
        refine z_iconst (a := nI 4) d_Mo_empties_35 (by decide) ?_
        first | refine z_iaddN d_Mo_empties_36 ?_ | refine z_iadd d_Mo_empties_36 ?_
        refine z_bipush (a := nI 8) d_Mo_empties_37 (by decide) ?_
        first | refine z_iastN d_Mo_empties_39 (by first | assumption | exact zS0_at (by assumption) (by omega) | exact zS0_at rfl (by omega)) (by omega) (by first | decide | omega) ?_ | refine z_iast d_Mo_empties_39 (by first | assumption | exact zS0_at (by assumption) (by omega) | exact zS0_at rfl (by omega)) (by first | assumption | exact zS0_at (by assumption) (by omega) | exact zS0_at rfl (by omega)) ?_
        refine z_retv d_Mo_empties_40 ?_
        rfl
      · have hb : j < 359 := Nat.lt_of_not_le (fun q => hb (nI_le q (by omega)))
        refine z_aload_0 d_Mo_empties_15 ?_
        refine z_getR d_Mo_empties_16 f_Mo_35 (by first | assumption | exact zS0_at (by assumption) (by omega) | exact zS0_at rfl (by omega)) (by first | assumption | exact zS0_at (by assumption) (by omega) | exact zS0_at rfl (by omega)) ?_
        refine z_iload_2 d_Mo_empties_19 ?_
        refine z_iload_3 d_Mo_empties_20 ?_
        first | refine z_iaddN d_Mo_empties_21 ?_ | refine z_iadd d_Mo_empties_21 ?_
        refine z_iconst (a := nI 0) d_Mo_empties_22 (by decide) ?_
        first | refine z_iastN d_Mo_empties_23 (by first | assumption | exact zS0_at (by assumption) (by omega) | exact zS0_at rfl (by omega)) (by omega) (by first | decide | omega) ?_ | refine z_iast d_Mo_empties_23 (by first | assumption | exact zS0_at (by assumption) (by omega) | exact zS0_at rfl (by omega)) (by first | assumption | exact zS0_at (by assumption) (by omega) | exact zS0_at rfl (by omega)) ?_
        rw [zfr_s]
        first | refine z_iinc_3 d_Mo_empties_24 rfl (zi_inc _) ?_ | refine z_iinc_3 d_Mo_empties_24 rfl rfl ?_
        refine z_goto (tgt := 8) d_Mo_empties_27 (by decide) ?_
        exact ih (j + 1) (by omega) (by omega)
  refine z_sipush (a := nI 359) d_Mo_empties_0 (by decide) ?_
  refine z_iload_1 d_Mo_empties_3 ?_
  first | refine z_imulN d_Mo_empties_4 ?_ | refine z_imul d_Mo_empties_4 ?_
  first | refine z_istore_2 d_Mo_empties_5 rfl ?_ | (refine z_forget_1 ?_; refine z_istore_2 d_Mo_empties_5 rfl ?_)
  refine z_iconst (a := nI 0) d_Mo_empties_6 (by decide) ?_
  first | refine z_istore_3 d_Mo_empties_7 rfl ?_ | (refine z_forget_2 ?_; refine z_istore_3 d_Mo_empties_7 rfl ?_)
  have q := loop 360 0 (by omega) (by omega)
  rw [zfr_0] at q
  exact q
theorem t_Mo_copy {c d : Nat} (M : modOk P S) (hc : c ≤ 4) (hd : d ≤ 4) (hne : c ≠ d) : zEv G y_Mo_copy prog_14_method_152_code 4 1 0 0 [.ref 145, .int (nI c), .int (nI d)] (I, J, P, S) (fun w => w = (zcp I 150 150 (359 * c) (359 * d) 359, zcp J 152 152 (22 * c) (22 * d) 22, P, S)) := by
  obtain ⟨M0, ⟨M4, M4s⟩, ⟨M5, M5s⟩, ⟨M6, M6s⟩, ⟨M7, M7s⟩, ⟨M20, M20s⟩, ⟨M21, M21s⟩, ⟨M22, M22s⟩, ⟨M26, M26s⟩, ⟨M27, M27s⟩, ⟨M28, M28s⟩, ⟨M30, M30s⟩, ⟨M34, M34s⟩, ⟨M36, M36s⟩, ⟨M37, M37s⟩⟩ := id M
  refine zEv_of (lv := [some (.ref 145), some (.int (nI c)), some (.int (nI d)), none]) (by decide) rfl (Nat.le_of_ble_eq_true rfl) ?_
  have l2 : ∀ m j, 22 - j < m → j ≤ 22 → zA G y_Mo_copy prog_14_method_152_code 4 none (zRm 1 0 0) (zM G 0 0 (fun r w' => r = none ∧ (fun w => w = (zcp I 150 150 (359 * c) (359 * d) 359, zcp J 152 152 (22 * c) (22 * d) 22, P, S)) w')) 41 [some (.ref 145), some (.int (nI c)), some (.int (nI d)), some (.int (nI j))] [] (zcp I 150 150 (359 * c) (359 * d) 359, zcp J 152 152 (22 * c) (22 * d) j, P, S) 0 0 := by
    intro m
    induction m with
    | zero => intro j h; omega
    | succ m ih =>
      intro j hm hj
      refine z_iload_3 d_Mo_copy_41 ?_
      refine z_bipush (a := nI 22) d_Mo_copy_42 (by decide) ?_
      refine z_icmp_ge (tgt := 75) d_Mo_copy_44 (by decide) (fun hb => ?_) (fun hb => ?_)
      · have hb := (nI_leI (by omega) (by omega)).mp hb
        obtain rfl : j = 22 := by omega
        refine z_retv d_Mo_copy_75 ?_
        rfl
      · have hb : j < 22 := Nat.lt_of_not_le (fun q => hb (nI_le q (by omega)))
        have hr : zcp J 152 152 (22 * c) (22 * d) j 152 (22 * c + j) = J 152 (22 * c + j) := zcp_out (by omega)
        refine z_aload_0 d_Mo_copy_47 ?_
        refine z_getR d_Mo_copy_48 f_Mo_41 (by first | assumption | exact zS0_at (by assumption) (by omega) | exact zS0_at rfl (by omega)) (by first | assumption | exact zS0_at (by assumption) (by omega) | exact zS0_at rfl (by omega)) ?_
        refine z_bipush (a := nI 22) d_Mo_copy_51 (by decide) ?_
        refine z_iload_2 d_Mo_copy_53 ?_
        first | refine z_imulN d_Mo_copy_54 ?_ | refine z_imul d_Mo_copy_54 ?_
        refine z_iload_3 d_Mo_copy_55 ?_
        first | refine z_iaddN d_Mo_copy_56 ?_ | refine z_iadd d_Mo_copy_56 ?_
        refine z_aload_0 d_Mo_copy_57 ?_
        refine z_getR d_Mo_copy_58 f_Mo_41 (by first | assumption | exact zS0_at (by assumption) (by omega) | exact zS0_at rfl (by omega)) (by first | assumption | exact zS0_at (by assumption) (by omega) | exact zS0_at rfl (by omega)) ?_
        refine z_bipush (a := nI 22) d_Mo_copy_61 (by decide) ?_
        refine z_iload_1 d_Mo_copy_63 ?_
        first | refine z_imulN d_Mo_copy_64 ?_ | refine z_imul d_Mo_copy_64 ?_
        refine z_iload_3 d_Mo_copy_65 ?_
        first | refine z_iaddN d_Mo_copy_66 ?_ | refine z_iadd d_Mo_copy_66 ?_
        refine z_laldNv d_Mo_copy_67 M22s (by omega) (by decide) hr ?_
        refine z_lastN d_Mo_copy_68 M22s (by omega) (by decide) ?_
        rw [zcp_s]
        first | refine z_iinc_3 d_Mo_copy_69 rfl (zi_inc _) ?_ | refine z_iinc_3 d_Mo_copy_69 rfl rfl ?_
        refine z_goto (tgt := 41) d_Mo_copy_72 (by decide) ?_
        exact ih (j + 1) (by omega) (by omega)
  have loop : ∀ m j, 359 - j < m → j ≤ 359 → zA G y_Mo_copy prog_14_method_152_code 4 none (zRm 1 0 0) (zM G 0 0 (fun r w' => r = none ∧ (fun w => w = (zcp I 150 150 (359 * c) (359 * d) 359, zcp J 152 152 (22 * c) (22 * d) 22, P, S)) w')) 2 [some (.ref 145), some (.int (nI c)), some (.int (nI d)), some (.int (nI j))] [] (zcp I 150 150 (359 * c) (359 * d) j, J, P, S) 0 0 := by
    intro m
    induction m with
    | zero => intro j h; omega
    | succ m ih =>
      intro j hm hj
      refine z_iload_3 d_Mo_copy_2 ?_
      refine z_sipush (a := nI 359) d_Mo_copy_3 (by decide) ?_
      refine z_icmp_ge (tgt := 39) d_Mo_copy_6 (by decide) (fun hb => ?_) (fun hb => ?_)
      · have hb := (nI_leI (by omega) (by omega)).mp hb
        obtain rfl : j = 359 := by omega
        have q := l2 23 0 (by omega) (by omega)
        rw [zcp_0] at q
        refine z_iconst (a := nI 0) d_Mo_copy_39 (by decide) ?_
        first | refine z_istore_3 d_Mo_copy_40 rfl ?_ | (refine z_forget_2 ?_; refine z_istore_3 d_Mo_copy_40 rfl ?_)
        exact q
      · have hb : j < 359 := Nat.lt_of_not_le (fun q => hb (nI_le q (by omega)))
        have hr : zcp I 150 150 (359 * c) (359 * d) j 150 (359 * c + j) = I 150 (359 * c + j) := zcp_out (by omega)
        refine z_aload_0 d_Mo_copy_9 ?_
        refine z_getR d_Mo_copy_10 f_Mo_35 (by first | assumption | exact zS0_at (by assumption) (by omega) | exact zS0_at rfl (by omega)) (by first | assumption | exact zS0_at (by assumption) (by omega) | exact zS0_at rfl (by omega)) ?_
        refine z_sipush (a := nI 359) d_Mo_copy_13 (by decide) ?_
        refine z_iload_2 d_Mo_copy_16 ?_
        first | refine z_imulN d_Mo_copy_17 ?_ | refine z_imul d_Mo_copy_17 ?_
        refine z_iload_3 d_Mo_copy_18 ?_
        first | refine z_iaddN d_Mo_copy_19 ?_ | refine z_iadd d_Mo_copy_19 ?_
        refine z_aload_0 d_Mo_copy_20 ?_
        refine z_getR d_Mo_copy_21 f_Mo_35 (by first | assumption | exact zS0_at (by assumption) (by omega) | exact zS0_at rfl (by omega)) (by first | assumption | exact zS0_at (by assumption) (by omega) | exact zS0_at rfl (by omega)) ?_
        refine z_sipush (a := nI 359) d_Mo_copy_24 (by decide) ?_
        refine z_iload_1 d_Mo_copy_27 ?_
        first | refine z_imulN d_Mo_copy_28 ?_ | refine z_imul d_Mo_copy_28 ?_
        refine z_iload_3 d_Mo_copy_29 ?_
        first | refine z_iaddN d_Mo_copy_30 ?_ | refine z_iadd d_Mo_copy_30 ?_
        refine z_ialdNv d_Mo_copy_31 M20s (by omega) (by decide) hr ?_
        refine z_iastN d_Mo_copy_32 M20s (by omega) (by decide) ?_
        rw [zcp_s]
        first | refine z_iinc_3 d_Mo_copy_33 rfl (zi_inc _) ?_ | refine z_iinc_3 d_Mo_copy_33 rfl rfl ?_
        refine z_goto (tgt := 2) d_Mo_copy_36 (by decide) ?_
        exact ih (j + 1) (by omega) (by omega)
  refine z_iconst (a := nI 0) d_Mo_copy_0 (by decide) ?_
  first | refine z_istore_3 d_Mo_copy_1 rfl ?_ | (refine z_forget_2 ?_; refine z_istore_3 d_Mo_copy_1 rfl ?_)
  have q := loop 360 0 (by omega) (by omega)
  rw [zcp_0] at q
  exact q
theorem t_Mo_isWell0 (M : modOk P S) (h : I 145 12 = nI 0) : zEi G y_Mo_isWell prog_14_method_52_code 1 (some .boolean) 2 [.ref 145] (I, J, P, S) (fun r w => r = nI 1 ∧ w = (zu (zu I 145 10 (nI 0)) 145 11 (-1), J, P, S)) := by
  obtain ⟨M0, ⟨M4, M4s⟩, ⟨M5, M5s⟩, ⟨M6, M6s⟩, ⟨M7, M7s⟩, ⟨M20, M20s⟩, ⟨M21, M21s⟩, ⟨M22, M22s⟩, ⟨M26, M26s⟩, ⟨M27, M27s⟩, ⟨M28, M28s⟩, ⟨M30, M30s⟩, ⟨M34, M34s⟩, ⟨M36, M36s⟩, ⟨M37, M37s⟩⟩ := id M
  refine zEi_of (lv := [some (.ref 145)]) (by decide) rfl (Nat.le_of_ble_eq_true rfl) ?_
  refine z_aload_0 d_Mo_isWell_0 ?_
  refine z_aload_0 d_Mo_isWell_1 ?_
  refine z_getIv d_Mo_isWell_2 f_Mo_202 (by first | assumption | exact zS0_at (by assumption) (by omega) | exact zS0_at rfl (by omega)) (by first | assumption | ((try simp (disch := omega) only [zu_same, zu_ne, zcp_ne, zfl_ne]); first | assumption | rfl)) ?_
  refine z_putI d_Mo_isWell_5 f_Mo_28 (by first | assumption | exact zS0_at (by assumption) (by omega) | exact zS0_at rfl (by omega)) ?_
  refine z_aload_0 d_Mo_isWell_8 ?_
  refine z_aload_0 d_Mo_isWell_9 ?_
  refine z_getIv d_Mo_isWell_10 f_Mo_202 (by first | assumption | exact zS0_at (by assumption) (by omega) | exact zS0_at rfl (by omega)) (by first | assumption | ((try simp (disch := omega) only [zu_same, zu_ne, zcp_ne, zfl_ne]); first | assumption | rfl)) ?_
  refine z_if_ne (tgt := 20) d_Mo_isWell_13 (by decide) (fun h => absurd (by decide) h) (fun _ => ?_)
  refine z_iconst (a := -1) d_Mo_isWell_16 (by decide) ?_
  refine z_goto (tgt := 24) d_Mo_isWell_17 (by decide) ?_
  refine z_putI d_Mo_isWell_24 f_Mo_32 (by first | assumption | exact zS0_at (by assumption) (by omega) | exact zS0_at rfl (by omega)) ?_
  refine z_aload_0 d_Mo_isWell_27 ?_
  refine z_getIv d_Mo_isWell_28 f_Mo_202 (by first | assumption | exact zS0_at (by assumption) (by omega) | exact zS0_at rfl (by omega)) (by first | assumption | ((try simp (disch := omega) only [zu_same, zu_ne, zcp_ne, zfl_ne]); first | assumption | rfl)) ?_
  refine z_if_eq (tgt := 43) d_Mo_isWell_31 (by decide) (fun _ => ?_) (fun h => absurd (by decide) h)
  refine z_iconst (a := nI 1) d_Mo_isWell_43 (by decide) ?_
  refine z_goto (tgt := 48) d_Mo_isWell_44 (by decide) ?_
  refine z_retz d_Mo_isWell_48 (by first | exact zb0 | exact zb1 | assumption) ?_
  exact ⟨rfl, rfl⟩
theorem t_Mo_isWellz {x : Nat} (M : modOk P S) (h : I 145 12 = nI z) (h13 : I 145 13 = nI x) (h0 : 0 < z) (h9 : z < 9) : zEi G y_Mo_isWell prog_14_method_52_code 1 (some .boolean) 2 [.ref 145] (I, J, P, S) (fun r w => r = nI 0 ∧ w = (zu (zu (zu I 145 10 (nI z)) 145 11 (nI x)) 145 0 (nI 10), J, P, S)) := by
  obtain ⟨M0, ⟨M4, M4s⟩, ⟨M5, M5s⟩, ⟨M6, M6s⟩, ⟨M7, M7s⟩, ⟨M20, M20s⟩, ⟨M21, M21s⟩, ⟨M22, M22s⟩, ⟨M26, M26s⟩, ⟨M27, M27s⟩, ⟨M28, M28s⟩, ⟨M30, M30s⟩, ⟨M34, M34s⟩, ⟨M36, M36s⟩, ⟨M37, M37s⟩⟩ := id M
  refine zEi_of (lv := [some (.ref 145)]) (by decide) rfl (Nat.le_of_ble_eq_true rfl) ?_
  refine z_aload_0 d_Mo_isWell_0 ?_
  refine z_aload_0 d_Mo_isWell_1 ?_
  refine z_getIv d_Mo_isWell_2 f_Mo_202 (by first | assumption | exact zS0_at (by assumption) (by omega) | exact zS0_at rfl (by omega)) (by first | assumption | ((try simp (disch := omega) only [zu_same, zu_ne, zcp_ne, zfl_ne]); first | assumption | rfl)) ?_
  refine z_putI d_Mo_isWell_5 f_Mo_28 (by first | assumption | exact zS0_at (by assumption) (by omega) | exact zS0_at rfl (by omega)) ?_
  refine z_aload_0 d_Mo_isWell_8 ?_
  refine z_aload_0 d_Mo_isWell_9 ?_
  refine z_getIv d_Mo_isWell_10 f_Mo_202 (by first | assumption | exact zS0_at (by assumption) (by omega) | exact zS0_at rfl (by omega)) (by first | assumption | ((try simp (disch := omega) only [zu_same, zu_ne, zcp_ne, zfl_ne]); first | assumption | rfl)) ?_
  refine z_if_ne (tgt := 20) d_Mo_isWell_13 (by decide) (fun _ => ?_) (fun h => absurd h (nz_ne h0 h9))
  refine z_aload_0 d_Mo_isWell_20 ?_
  refine z_getIv d_Mo_isWell_21 f_Mo_205 (by first | assumption | exact zS0_at (by assumption) (by omega) | exact zS0_at rfl (by omega)) (by first | assumption | ((try simp (disch := omega) only [zu_same, zu_ne, zcp_ne, zfl_ne]); first | assumption | rfl)) ?_
  refine z_putI d_Mo_isWell_24 f_Mo_32 (by first | assumption | exact zS0_at (by assumption) (by omega) | exact zS0_at rfl (by omega)) ?_
  refine z_aload_0 d_Mo_isWell_27 ?_
  refine z_getIv d_Mo_isWell_28 f_Mo_202 (by first | assumption | exact zS0_at (by assumption) (by omega) | exact zS0_at rfl (by omega)) (by first | assumption | ((try simp (disch := omega) only [zu_same, zu_ne, zcp_ne, zfl_ne]); first | assumption | rfl)) ?_
  refine z_if_eq (tgt := 43) d_Mo_isWell_31 (by decide) (fun h => absurd h (nz_ne h0 h9)) (fun _ => ?_)
  refine z_aload_0 d_Mo_isWell_34 ?_
  refine z_bipush (a := nI 10) d_Mo_isWell_35 (by decide) ?_
  refine z_Vi1 d_Mo_isWell_37 k_Mo_85 (by first | assumption | exact zS0_at (by assumption) (by omega) | exact zS0_at rfl (by omega)) (t_Mo_no (by assumption)) ⟨Nat.le_of_ble_eq_true rfl, Nat.le_of_ble_eq_true rfl, Nat.le_of_ble_eq_true rfl, Nat.le_of_ble_eq_true rfl⟩ (Nat.le_of_ble_eq_true rfl) ?_
  intro r w hq
  obtain ⟨rfl, rfl⟩ := hq
  refine z_if_eq (tgt := 47) d_Mo_isWell_40 (by decide) (fun _ => ?_) (fun h => absurd (by decide) h)
  refine z_iconst (a := nI 0) d_Mo_isWell_47 (by decide) ?_
  refine z_retz d_Mo_isWell_48 (by first | exact zb0 | exact zb1 | assumption) ?_
  exact ⟨rfl, rfl⟩
theorem t_Mo_starts0 {fed most : Nat} (M : modOk P S) (h8 : I 145 8 = nI fed) (hf : fed ≤ 900) (hm : most ≤ 900) (ha : ¬ ∃ n, n ≤ fed ∧ n ≤ most ∧ a = nI n) : zEi G y_Mo_starts prog_14_method_51_code 3 (some .boolean) 3 [.ref 145, .int a, .int (nI most)] (I, J, P, S) (fun r w => r = nI 0 ∧ w = (zu I 145 0 (nI 5), J, P, S)) := by
  obtain ⟨M0, ⟨M4, M4s⟩, ⟨M5, M5s⟩, ⟨M6, M6s⟩, ⟨M7, M7s⟩, ⟨M20, M20s⟩, ⟨M21, M21s⟩, ⟨M22, M22s⟩, ⟨M26, M26s⟩, ⟨M27, M27s⟩, ⟨M28, M28s⟩, ⟨M30, M30s⟩, ⟨M34, M34s⟩, ⟨M36, M36s⟩, ⟨M37, M37s⟩⟩ := id M
  have hz : a < 0 ∨ nI (min fed most + 1) ≤ a := by
    rcases zin_or a (min fed most + 1) (by omega) with h | ⟨j, hj, rfl⟩
    · exact h.1
    · exact absurd ⟨j, by omega, by omega, rfl⟩ ha
  refine zEi_of (lv := [some (.ref 145), some (.int a), some (.int (nI most))]) (by decide) rfl (Nat.le_of_ble_eq_true rfl) ?_
  have no : zA G y_Mo_starts prog_14_method_51_code 3 (some .boolean) (zRm 3 0 0) (zM G 0 0 (fun r w' => ∃ x, r = some (.int x) ∧ (fun r w => r = nI 0 ∧ w = (zu I 145 0 (nI 5), J, P, S)) x w')) 17 [some (.ref 145), some (.int a), some (.int (nI most))] [] (I, J, P, S) 0 0 := by
    refine z_aload_0 d_Mo_starts_17 ?_
    refine z_iconst (a := nI 5) d_Mo_starts_18 (by decide) ?_
    refine z_Vi1 d_Mo_starts_19 k_Mo_85 (by first | assumption | exact zS0_at (by assumption) (by omega) | exact zS0_at rfl (by omega)) (t_Mo_no (by assumption)) ⟨Nat.le_of_ble_eq_true rfl, Nat.le_of_ble_eq_true rfl, Nat.le_of_ble_eq_true rfl, Nat.le_of_ble_eq_true rfl⟩ (Nat.le_of_ble_eq_true rfl) ?_
    intro r w hq
    obtain ⟨rfl, rfl⟩ := hq
    refine z_retz d_Mo_starts_22 (by first | exact zb0 | exact zb1 | assumption) ?_
    exact ⟨rfl, rfl⟩
  refine z_iload_1 d_Mo_starts_0 ?_
  refine z_if_lt (tgt := 17) d_Mo_starts_1 (by decide) (fun h1 => ?_) (fun h1 => ?_)
  · exact no
  refine z_iload_1 d_Mo_starts_4 ?_
  refine z_aload_0 d_Mo_starts_5 ?_
  refine z_getIv d_Mo_starts_6 f_Mo_218 (by first | assumption | exact zS0_at (by assumption) (by omega) | exact zS0_at rfl (by omega)) (by first | assumption | ((try simp (disch := omega) only [zu_same, zu_ne, zcp_ne, zfl_ne]); first | assumption | rfl)) ?_
  refine z_icmp_gt (tgt := 17) d_Mo_starts_9 (by decide) (fun h2 => ?_) (fun h2 => ?_)
  · exact no
  refine z_iload_1 d_Mo_starts_12 ?_
  refine z_iload_2 d_Mo_starts_13 ?_
  refine z_icmp_le (tgt := 23) d_Mo_starts_14 (by decide) (fun h3 => ?_) (fun h3 => ?_)
  · exfalso
    rcases hz with h | h
    · exact h1 h
    · rcases Nat.le_total fed most with g | g
      · rw [Nat.min_eq_left g] at h
        exact h2 (by
          rw [Int32.lt_iff_toInt_lt, nI_toInt (by omega)]
          rw [Int32.le_iff_toInt_le, nI_toInt (by omega)] at h
          omega)
      · rw [Nat.min_eq_right g] at h
        rw [Int32.le_iff_toInt_le, nI_toInt (by omega)] at h h3
        omega
  · exact no
def mSt (I I' : Nat → Nat → Int32) : Prop := (∀ a, a ≠ 145 → I' a = I a) ∧ (∀ k, k ≠ 8 → k ≠ 9 → ¬ (12 ≤ k ∧ k ≤ 18) → I' 145 k = I 145 k) ∧ I' 145 8 = nI 0
theorem t_Mo_starts1 {n fed most : Nat} (M : modOk P S) (h8 : I 145 8 = nI fed) (hf : fed ≤ 900) (hm : most ≤ 900) (hn : n ≤ fed) (hn2 : n ≤ most) (hT : ∀ k, k < 900 → I 149 k = T k) (hB : bytOk T) (hK : ∀ i, i < 21 → K i = zKw i) : zEi G y_Mo_starts prog_14_method_51_code 3 (some .boolean) 3 [.ref 145, .int (nI n), .int (nI most)] (I, J, P, S) (fun r w => r = nI 1 ∧ ∃ I' J', w = (I', J', P, S) ∧ mSt I I' ∧ mJ J J' ∧ moC T K n 0 I' J' P S (s_tok T n K 0)) := by
  have M' := M
  obtain ⟨M0, ⟨M4, M4s⟩, ⟨M5, M5s⟩, ⟨M6, M6s⟩, ⟨M7, M7s⟩, ⟨M20, M20s⟩, ⟨M21, M21s⟩, ⟨M22, M22s⟩, ⟨M26, M26s⟩, ⟨M27, M27s⟩, ⟨M28, M28s⟩, ⟨M30, M30s⟩, ⟨M34, M34s⟩, ⟨M36, M36s⟩, ⟨M37, M37s⟩⟩ := id M
  refine zEi_of (lv := [some (.ref 145), some (.int (nI n)), some (.int (nI most))]) (by decide) rfl (Nat.le_of_ble_eq_true rfl) ?_
  refine z_iload_1 d_Mo_starts_0 ?_
  refine z_if_lt (tgt := 17) d_Mo_starts_1 (by decide) (fun h => absurd h (nI_pos (by omega))) (fun _ => ?_)
  refine z_iload_1 d_Mo_starts_4 ?_
  refine z_aload_0 d_Mo_starts_5 ?_
  refine z_getIv d_Mo_starts_6 f_Mo_218 (by first | assumption | exact zS0_at (by assumption) (by omega) | exact zS0_at rfl (by omega)) (by first | assumption | ((try simp (disch := omega) only [zu_same, zu_ne, zcp_ne, zfl_ne]); first | assumption | rfl)) ?_
  refine z_icmp_gt (tgt := 17) d_Mo_starts_9 (by decide) (fun h => absurd ((nI_ltI (by omega) (by omega)).mp h) (by omega)) (fun _ => ?_)
  refine z_iload_1 d_Mo_starts_12 ?_
  refine z_iload_2 d_Mo_starts_13 ?_
  refine z_icmp_le (tgt := 23) d_Mo_starts_14 (by decide) (fun _ => ?_) (fun h => absurd (nI_le hn2 (by omega)) h)
  refine z_aload_0 d_Mo_starts_23 ?_
  refine z_iload_1 d_Mo_starts_24 ?_
  refine z_putI d_Mo_starts_25 f_Mo_113 (by first | assumption | exact zS0_at (by assumption) (by omega) | exact zS0_at rfl (by omega)) ?_
  refine z_aload_0 d_Mo_starts_28 ?_
  refine z_iconst (a := nI 0) d_Mo_starts_29 (by decide) ?_
  refine z_putI d_Mo_starts_30 f_Mo_218 (by first | assumption | exact zS0_at (by assumption) (by omega) | exact zS0_at rfl (by omega)) ?_
  refine z_aload_0 d_Mo_starts_33 ?_
  refine z_iconst (a := nI 0) d_Mo_starts_34 (by decide) ?_
  refine z_putI d_Mo_starts_35 f_Mo_116 (by first | assumption | exact zS0_at (by assumption) (by omega) | exact zS0_at rfl (by omega)) ?_
  refine z_aload_0 d_Mo_starts_38 ?_
  refine z_iconst (a := nI 0) d_Mo_starts_39 (by decide) ?_
  refine z_putI d_Mo_starts_40 f_Mo_202 (by first | assumption | exact zS0_at (by assumption) (by omega) | exact zS0_at rfl (by omega)) ?_
  refine z_aload_0 d_Mo_starts_43 ?_
  refine z_Vv0 d_Mo_starts_44 k_Mo_212 (by first | assumption | exact zS0_at (by assumption) (by omega) | exact zS0_at rfl (by omega)) (t_Mo_advance (K := K) (T := T) (L := n) (p := 0) M' (by simp [zu]) (by omega) (fun k hk => by rw [zu_row _ _ _ _ (by decide), zu_row _ _ _ _ (by decide), zu_row _ _ _ _ (by decide), zu_row _ _ _ _ (by decide)]; exact hT k hk) hB (by simp [zu]) (by omega)) ⟨Nat.le_of_ble_eq_true rfl, Nat.le_of_ble_eq_true rfl, Nat.le_of_ble_eq_true rfl, Nat.le_of_ble_eq_true rfl⟩ (Nat.le_of_ble_eq_true rfl) ?_
  intro w hq
  obtain ⟨I', J', rfl, h1, h2, h3⟩ := hq
  refine z_iconst (a := nI 1) d_Mo_starts_47 (by decide) ?_
  refine z_retz d_Mo_starts_48 (by first | exact zb0 | exact zb1 | assumption) ?_
  refine ⟨rfl, I', J', rfl, ⟨fun a ha => ?_, fun k g1 g2 g3 => ?_, ?_⟩, h2, M', ⟨?_, by omega⟩, ⟨fun k hk => ?_, hB, hK⟩, h3, s_tok_P hB n K 0 (by omega), (s_tok_st T n K 0 (by omega)).2.2.2.1, ?_⟩
  · rw [h1.1 a ha, zu_row _ _ _ _ ha, zu_row _ _ _ _ ha, zu_row _ _ _ _ ha, zu_row _ _ _ _ ha]
  · rw [h1.2 k (by omega), zu_ne _ _ _ _ (by omega), zu_ne _ _ _ _ (by omega), zu_ne _ _ _ _ (by omega), zu_ne _ _ _ _ (by omega)]
  · rw [h1.2 8 (by omega)]; simp [zu]
  · rw [h1.2 9 (by omega)]; simp [zu]
  · rw [h1.1 149 (by decide), zu_row _ _ _ _ (by decide), zu_row _ _ _ _ (by decide), zu_row _ _ _ _ (by decide), zu_row _ _ _ _ (by decide)]; exact hT k hk
  · rw [h1.2 12 (by omega)]; simp [zu]
end MF6
