/-! the class: what is added to a Fen, and taken over -/
section C4
variable {G : zG} {I : Nat → Nat → Int32} {J : Nat → Nat → Int64} {P : Nat → Nat → Option Nat} {S : List (Nat × Nat)} {f g nt np nl nn : Nat} {a b c : Int32} {x : Int64}
def s_clear (I : Nat → Nat → Int32) (f : Nat) : Nat → Nat → Int32 :=
  zu (zu (zu (zu (zu (zu (zu (zu (zu (zu (zu I f 0 (nI 8)) f 1 (nI 0)) f 2 (nI 0)) f 3 (nI 0)) f 4 (nI 0)) f 5 (nI 0)) f 6 (nI 0)) f 7 (nI 0)) (f + 12) 0 (nI 0)) (f + 12) 1 (nI 0)) (f + 12) 2 (nI 0)
theorem t_Fen_clear (F : fenOk P S f) : zEv G y_Fen_clear prog_2_method_2_code 1 2 0 0 [.ref f] (I, J, P, S) (fun w => w = (s_clear I f, J, P, S)) := by
  obtain ⟨F0, ⟨F8, F8s⟩, ⟨F9, F9s⟩, ⟨F10, F10s⟩, ⟨F11, F11s⟩, ⟨F12, F12s⟩, ⟨F13, F13s⟩, ⟨F14, F14s⟩, ⟨F15, F15s⟩, ⟨F16, F16s⟩, ⟨F17, F17s⟩, ⟨F18, F18s⟩, ⟨F19, F19s⟩, ⟨Y3, Y3s⟩, ⟨Y4, Y4s⟩, ⟨Y5, Y5s⟩, ⟨Y6, Y6s⟩⟩ := id F
  refine zEv_of (lv := [some (.ref f)]) (by decide) rfl (Nat.le_of_ble_eq_true rfl) ?_
  refine z_aload_0 d_Fen_clear_0 ?_
  refine z_bipush (a := nI 8) d_Fen_clear_1 (by decide) ?_
  refine z_putI d_Fen_clear_3 f_Fen_9 (by assumption) ?_
  refine z_aload_0 d_Fen_clear_6 ?_
  refine z_iconst (a := nI 0) d_Fen_clear_7 (by decide) ?_
  refine z_putI d_Fen_clear_8 f_Fen_57 (by assumption) ?_
  refine z_aload_0 d_Fen_clear_11 ?_
  refine z_iconst (a := nI 0) d_Fen_clear_12 (by decide) ?_
  refine z_putI d_Fen_clear_13 f_Fen_60 (by assumption) ?_
  refine z_aload_0 d_Fen_clear_16 ?_
  refine z_iconst (a := nI 0) d_Fen_clear_17 (by decide) ?_
  refine z_putI d_Fen_clear_18 f_Fen_63 (by assumption) ?_
  refine z_aload_0 d_Fen_clear_21 ?_
  refine z_iconst (a := nI 0) d_Fen_clear_22 (by decide) ?_
  refine z_putI d_Fen_clear_23 f_Fen_66 (by assumption) ?_
  refine z_aload_0 d_Fen_clear_26 ?_
  refine z_iconst (a := nI 0) d_Fen_clear_27 (by decide) ?_
  refine z_putI d_Fen_clear_28 f_Fen_69 (by assumption) ?_
  refine z_aload_0 d_Fen_clear_31 ?_
  refine z_iconst (a := nI 0) d_Fen_clear_32 (by decide) ?_
  refine z_putI d_Fen_clear_33 f_Fen_72 (by assumption) ?_
  refine z_aload_0 d_Fen_clear_36 ?_
  refine z_iconst (a := nI 0) d_Fen_clear_37 (by decide) ?_
  refine z_putI d_Fen_clear_38 f_Fen_75 (by assumption) ?_
  refine z_aload_0 d_Fen_clear_41 ?_
  refine z_getR d_Fen_clear_42 f_Fen_53 (by assumption) (by assumption) ?_
  refine z_Vv0 d_Fen_clear_45 k_Fen_78 (by assumption) (t_Years_clear (by assumption)) ⟨Nat.le_of_ble_eq_true rfl, Nat.le_of_ble_eq_true rfl, Nat.le_of_ble_eq_true rfl, Nat.le_of_ble_eq_true rfl⟩ (Nat.le_of_ble_eq_true rfl) ?_
  intro w hq
  obtain rfl := hq
  refine z_retv d_Fen_clear_48 ?_
  exact rfl
theorem t_Fen_addTrait (F : fenOk P S f) (h1 : I f 1 = nI nt) (h2 : nt < 6) : zEv G y_Fen_addTrait prog_2_method_4_code 4 1 0 0 [.ref f, .long x, .int a] (I, J, P, S) (fun w => w = (zu (zu I (f + 1) nt a) f 1 (nI (nt + 1)), zu J (f + 9) nt x, P, S)) := by
  obtain ⟨F0, ⟨F8, F8s⟩, ⟨F9, F9s⟩, ⟨F10, F10s⟩, ⟨F11, F11s⟩, ⟨F12, F12s⟩, ⟨F13, F13s⟩, ⟨F14, F14s⟩, ⟨F15, F15s⟩, ⟨F16, F16s⟩, ⟨F17, F17s⟩, ⟨F18, F18s⟩, ⟨F19, F19s⟩, ⟨Y3, Y3s⟩, ⟨Y4, Y4s⟩, ⟨Y5, Y5s⟩, ⟨Y6, Y6s⟩⟩ := id F
  refine zEv_of (lv := [some (.ref f), some (.long x), none, some (.int a)]) (by decide) rfl (Nat.le_of_ble_eq_true rfl) ?_
  refine z_aload_0 d_Fen_addTrait_0 ?_
  refine z_getR d_Fen_addTrait_1 f_Fen_40 (by assumption) (by assumption) ?_
  refine z_aload_0 d_Fen_addTrait_4 ?_
  refine z_getIv d_Fen_addTrait_5 f_Fen_57 (by assumption) (by first | assumption | ((try simp (disch := omega) only [zu_same, zu_ne, zcp_ne, zfl_ne]); first | assumption | rfl)) ?_
  refine z_lload_1 d_Fen_addTrait_8 ?_
  first | refine z_lastN d_Fen_addTrait_9 (by assumption) (by omega) (by decide) ?_ | refine z_last d_Fen_addTrait_9 (by assumption) (by assumption) ?_
  refine z_aload_0 d_Fen_addTrait_10 ?_
  refine z_getR d_Fen_addTrait_11 f_Fen_15 (by assumption) (by assumption) ?_
  refine z_aload_0 d_Fen_addTrait_14 ?_
  refine z_getIv d_Fen_addTrait_15 f_Fen_57 (by assumption) (by first | assumption | ((try simp (disch := omega) only [zu_same, zu_ne, zcp_ne, zfl_ne]); first | assumption | rfl)) ?_
  refine z_iload_3 d_Fen_addTrait_18 ?_
  first | refine z_iastN d_Fen_addTrait_19 (by assumption) (by omega) (by decide) ?_ | refine z_iast d_Fen_addTrait_19 (by assumption) (by assumption) ?_
  refine z_aload_0 d_Fen_addTrait_20 ?_
  refine z_dup rfl d_Fen_addTrait_21 ?_
  refine z_getIv d_Fen_addTrait_22 f_Fen_57 (by assumption) (by first | assumption | ((try simp (disch := omega) only [zu_same, zu_ne, zcp_ne, zfl_ne]); first | assumption | rfl)) ?_
  refine z_iconst (a := nI 1) d_Fen_addTrait_25 (by decide) ?_
  first | refine z_iaddN d_Fen_addTrait_26 ?_ | refine z_iadd d_Fen_addTrait_26 ?_
  refine z_putI d_Fen_addTrait_27 f_Fen_57 (by assumption) ?_
  refine z_retv d_Fen_addTrait_30 ?_
  exact rfl
theorem t_Fen_addPerson (F : fenOk P S f) (h1 : I f 2 = nI np) (h2 : np < 7) : zEv G y_Fen_addPerson prog_2_method_5_code 4 1 0 0 [.ref f, .long x, .int a] (I, J, P, S) (fun w => w = (zu (zu (zu (zu I (f + 2) np a) (f + 3) np (nI 0)) (f + 4) np (nI 0)) f 2 (nI (np + 1)), zu J (f + 10) np x, P, S)) := by
  obtain ⟨F0, ⟨F8, F8s⟩, ⟨F9, F9s⟩, ⟨F10, F10s⟩, ⟨F11, F11s⟩, ⟨F12, F12s⟩, ⟨F13, F13s⟩, ⟨F14, F14s⟩, ⟨F15, F15s⟩, ⟨F16, F16s⟩, ⟨F17, F17s⟩, ⟨F18, F18s⟩, ⟨F19, F19s⟩, ⟨Y3, Y3s⟩, ⟨Y4, Y4s⟩, ⟨Y5, Y5s⟩, ⟨Y6, Y6s⟩⟩ := id F
  refine zEv_of (lv := [some (.ref f), some (.long x), none, some (.int a)]) (by decide) rfl (Nat.le_of_ble_eq_true rfl) ?_
  refine z_aload_0 d_Fen_addPerson_0 ?_
  refine z_getR d_Fen_addPerson_1 f_Fen_44 (by assumption) (by assumption) ?_
  refine z_aload_0 d_Fen_addPerson_4 ?_
  refine z_getIv d_Fen_addPerson_5 f_Fen_60 (by assumption) (by first | assumption | ((try simp (disch := omega) only [zu_same, zu_ne, zcp_ne, zfl_ne]); first | assumption | rfl)) ?_
  refine z_lload_1 d_Fen_addPerson_8 ?_
  first | refine z_lastN d_Fen_addPerson_9 (by assumption) (by omega) (by decide) ?_ | refine z_last d_Fen_addPerson_9 (by assumption) (by assumption) ?_
  refine z_aload_0 d_Fen_addPerson_10 ?_
  refine z_getR d_Fen_addPerson_11 f_Fen_19 (by assumption) (by assumption) ?_
  refine z_aload_0 d_Fen_addPerson_14 ?_
  refine z_getIv d_Fen_addPerson_15 f_Fen_60 (by assumption) (by first | assumption | ((try simp (disch := omega) only [zu_same, zu_ne, zcp_ne, zfl_ne]); first | assumption | rfl)) ?_
  refine z_iload_3 d_Fen_addPerson_18 ?_
  first | refine z_iastN d_Fen_addPerson_19 (by assumption) (by omega) (by decide) ?_ | refine z_iast d_Fen_addPerson_19 (by assumption) (by assumption) ?_
  refine z_aload_0 d_Fen_addPerson_20 ?_
  refine z_getR d_Fen_addPerson_21 f_Fen_22 (by assumption) (by assumption) ?_
  refine z_aload_0 d_Fen_addPerson_24 ?_
  refine z_getIv d_Fen_addPerson_25 f_Fen_60 (by assumption) (by first | assumption | ((try simp (disch := omega) only [zu_same, zu_ne, zcp_ne, zfl_ne]); first | assumption | rfl)) ?_
  refine z_iconst (a := nI 0) d_Fen_addPerson_28 (by decide) ?_
  first | refine z_iastN d_Fen_addPerson_29 (by assumption) (by omega) (by decide) ?_ | refine z_iast d_Fen_addPerson_29 (by assumption) (by assumption) ?_
  refine z_aload_0 d_Fen_addPerson_30 ?_
  refine z_getR d_Fen_addPerson_31 f_Fen_25 (by assumption) (by assumption) ?_
  refine z_aload_0 d_Fen_addPerson_34 ?_
  refine z_getIv d_Fen_addPerson_35 f_Fen_60 (by assumption) (by first | assumption | ((try simp (disch := omega) only [zu_same, zu_ne, zcp_ne, zfl_ne]); first | assumption | rfl)) ?_
  refine z_iconst (a := nI 0) d_Fen_addPerson_38 (by decide) ?_
  first | refine z_iastN d_Fen_addPerson_39 (by assumption) (by omega) (by decide) ?_ | refine z_iast d_Fen_addPerson_39 (by assumption) (by assumption) ?_
  refine z_aload_0 d_Fen_addPerson_40 ?_
  refine z_dup rfl d_Fen_addPerson_41 ?_
  refine z_getIv d_Fen_addPerson_42 f_Fen_60 (by assumption) (by first | assumption | ((try simp (disch := omega) only [zu_same, zu_ne, zcp_ne, zfl_ne]); first | assumption | rfl)) ?_
  refine z_iconst (a := nI 1) d_Fen_addPerson_45 (by decide) ?_
  first | refine z_iaddN d_Fen_addPerson_46 ?_ | refine z_iadd d_Fen_addPerson_46 ?_
  refine z_putI d_Fen_addPerson_47 f_Fen_60 (by assumption) ?_
  refine z_retv d_Fen_addPerson_50 ?_
  exact rfl
theorem t_Fen_addLane {p q : Nat} (F : fenOk P S f) (h1 : I f 3 = nI nl) (hp : p < 7) (hq : q < 7) (hn : p ≠ q) : zEv G y_Fen_addLane prog_2_method_6_code 3 1 0 0 [.ref f, .int (nI p), .int (nI q)] (I, J, P, S) (fun w => w = (zu (zu (zu I (f + 3) p (I (f + 3) p ||| (nI 1 <<< (nI q &&& 31)))) (f + 3) q (I (f + 3) q ||| (nI 1 <<< (nI p &&& 31)))) f 3 (nI (nl + 1)), J, P, S)) := by
  obtain ⟨F0, ⟨F8, F8s⟩, ⟨F9, F9s⟩, ⟨F10, F10s⟩, ⟨F11, F11s⟩, ⟨F12, F12s⟩, ⟨F13, F13s⟩, ⟨F14, F14s⟩, ⟨F15, F15s⟩, ⟨F16, F16s⟩, ⟨F17, F17s⟩, ⟨F18, F18s⟩, ⟨F19, F19s⟩, ⟨Y3, Y3s⟩, ⟨Y4, Y4s⟩, ⟨Y5, Y5s⟩, ⟨Y6, Y6s⟩⟩ := id F
  refine zEv_of (lv := [some (.ref f), some (.int (nI p)), some (.int (nI q))]) (by decide) rfl (Nat.le_of_ble_eq_true rfl) ?_
  refine z_aload_0 d_Fen_addLane_0 ?_
  refine z_getR d_Fen_addLane_1 f_Fen_22 (by assumption) (by assumption) ?_
  refine z_iload_1 d_Fen_addLane_4 ?_
  first | refine z_dup2 rfl rfl d_Fen_addLane_5 ?_ | refine z_dup2l rfl d_Fen_addLane_5 ?_
  first | refine z_ialdNv d_Fen_addLane_6 (by assumption) (by omega) (by decide) (by first | assumption | ((try simp (disch := omega) only [zu_same, zu_ne, zcp_ne, zfl_ne]); first | assumption | rfl)) ?_ | refine z_iald d_Fen_addLane_6 (by assumption) (by assumption) ?_
  refine z_iconst (a := nI 1) d_Fen_addLane_7 (by decide) ?_
  refine z_iload_2 d_Fen_addLane_8 ?_
  refine z_ishl d_Fen_addLane_9 ?_
  refine z_ior d_Fen_addLane_10 ?_
  first | refine z_iastN d_Fen_addLane_11 (by assumption) (by omega) (by decide) ?_ | refine z_iast d_Fen_addLane_11 (by assumption) (by assumption) ?_
  refine z_aload_0 d_Fen_addLane_12 ?_
  refine z_getR d_Fen_addLane_13 f_Fen_22 (by assumption) (by assumption) ?_
  refine z_iload_2 d_Fen_addLane_16 ?_
  first | refine z_dup2 rfl rfl d_Fen_addLane_17 ?_ | refine z_dup2l rfl d_Fen_addLane_17 ?_
  first | refine z_ialdNv d_Fen_addLane_18 (by assumption) (by omega) (by decide) (by first | assumption | ((try simp (disch := omega) only [zu_same, zu_ne, zcp_ne, zfl_ne]); first | assumption | rfl)) ?_ | refine z_iald d_Fen_addLane_18 (by assumption) (by assumption) ?_
  refine z_iconst (a := nI 1) d_Fen_addLane_19 (by decide) ?_
  refine z_iload_1 d_Fen_addLane_20 ?_
  refine z_ishl d_Fen_addLane_21 ?_
  refine z_ior d_Fen_addLane_22 ?_
  first | refine z_iastN d_Fen_addLane_23 (by assumption) (by omega) (by decide) ?_ | refine z_iast d_Fen_addLane_23 (by assumption) (by assumption) ?_
  refine z_aload_0 d_Fen_addLane_24 ?_
  refine z_dup rfl d_Fen_addLane_25 ?_
  refine z_getIv d_Fen_addLane_26 f_Fen_63 (by assumption) (by first | assumption | ((try simp (disch := omega) only [zu_same, zu_ne, zcp_ne, zfl_ne]); first | assumption | rfl)) ?_
  refine z_iconst (a := nI 1) d_Fen_addLane_29 (by decide) ?_
  first | refine z_iaddN d_Fen_addLane_30 ?_ | refine z_iadd d_Fen_addLane_30 ?_
  refine z_putI d_Fen_addLane_31 f_Fen_63 (by assumption) ?_
  refine z_retv d_Fen_addLane_34 ?_
  exact rfl
def s_addTin (I : Nat → Nat → Int32) (f nn : Nat) (k p : Int32) : Nat → Nat → Int32 :=
  zu (zu (zu (zu I (f + 5) nn k) (f + 6) nn p) (f + 7) nn (nI 1 <<< (p &&& 31))) (f + 8) nn (nI 0)
theorem t_Fen_addTin1 (F : fenOk P S f) (h1 : I f 4 = nI nn) (h2 : nn < 9) : zEv G y_Fen_addTin prog_2_method_7_code 6 1 0 0 [.ref f, .long x, .int a, .int b, .int (nI 1)] (I, J, P, S) (fun w => w = (zu (zu (s_addTin I f nn a b) f 6 (I f 6 ||| (nI 1 <<< (nI nn &&& 31)))) f 4 (nI (nn + 1)), zu J (f + 11) nn x, P, S)) := by
  obtain ⟨F0, ⟨F8, F8s⟩, ⟨F9, F9s⟩, ⟨F10, F10s⟩, ⟨F11, F11s⟩, ⟨F12, F12s⟩, ⟨F13, F13s⟩, ⟨F14, F14s⟩, ⟨F15, F15s⟩, ⟨F16, F16s⟩, ⟨F17, F17s⟩, ⟨F18, F18s⟩, ⟨F19, F19s⟩, ⟨Y3, Y3s⟩, ⟨Y4, Y4s⟩, ⟨Y5, Y5s⟩, ⟨Y6, Y6s⟩⟩ := id F
  refine zEv_of (lv := [some (.ref f), some (.long x), none, some (.int a), some (.int b), some (.int (nI 1))]) (by decide) rfl (Nat.le_of_ble_eq_true rfl) ?_
  refine z_aload_0 d_Fen_addTin_0 ?_
  refine z_getR d_Fen_addTin_1 f_Fen_47 (by assumption) (by assumption) ?_
  refine z_aload_0 d_Fen_addTin_4 ?_
  refine z_getIv d_Fen_addTin_5 f_Fen_66 (by assumption) (by first | assumption | ((try simp (disch := omega) only [zu_same, zu_ne, zcp_ne, zfl_ne]); first | assumption | rfl)) ?_
  refine z_lload_1 d_Fen_addTin_8 ?_
  first | refine z_lastN d_Fen_addTin_9 (by assumption) (by omega) (by decide) ?_ | refine z_last d_Fen_addTin_9 (by assumption) (by assumption) ?_
  refine z_aload_0 d_Fen_addTin_10 ?_
  refine z_getR d_Fen_addTin_11 f_Fen_28 (by assumption) (by assumption) ?_
  refine z_aload_0 d_Fen_addTin_14 ?_
  refine z_getIv d_Fen_addTin_15 f_Fen_66 (by assumption) (by first | assumption | ((try simp (disch := omega) only [zu_same, zu_ne, zcp_ne, zfl_ne]); first | assumption | rfl)) ?_
  refine z_iload_3 d_Fen_addTin_18 ?_
  first | refine z_iastN d_Fen_addTin_19 (by assumption) (by omega) (by decide) ?_ | refine z_iast d_Fen_addTin_19 (by assumption) (by assumption) ?_
  refine z_aload_0 d_Fen_addTin_20 ?_
  refine z_getR d_Fen_addTin_21 f_Fen_31 (by assumption) (by assumption) ?_
  refine z_aload_0 d_Fen_addTin_24 ?_
  refine z_getIv d_Fen_addTin_25 f_Fen_66 (by assumption) (by first | assumption | ((try simp (disch := omega) only [zu_same, zu_ne, zcp_ne, zfl_ne]); first | assumption | rfl)) ?_
  refine z_iload_4 d_Fen_addTin_28 ?_
  first | refine z_iastN d_Fen_addTin_30 (by assumption) (by omega) (by decide) ?_ | refine z_iast d_Fen_addTin_30 (by assumption) (by assumption) ?_
  refine z_aload_0 d_Fen_addTin_31 ?_
  refine z_getR d_Fen_addTin_32 f_Fen_34 (by assumption) (by assumption) ?_
  refine z_aload_0 d_Fen_addTin_35 ?_
  refine z_getIv d_Fen_addTin_36 f_Fen_66 (by assumption) (by first | assumption | ((try simp (disch := omega) only [zu_same, zu_ne, zcp_ne, zfl_ne]); first | assumption | rfl)) ?_
  refine z_iconst (a := nI 1) d_Fen_addTin_39 (by decide) ?_
  refine z_iload_4 d_Fen_addTin_40 ?_
  refine z_ishl d_Fen_addTin_42 ?_
  first | refine z_iastN d_Fen_addTin_43 (by assumption) (by omega) (by decide) ?_ | refine z_iast d_Fen_addTin_43 (by assumption) (by assumption) ?_
  refine z_aload_0 d_Fen_addTin_44 ?_
  refine z_getR d_Fen_addTin_45 f_Fen_37 (by assumption) (by assumption) ?_
  refine z_aload_0 d_Fen_addTin_48 ?_
  refine z_getIv d_Fen_addTin_49 f_Fen_66 (by assumption) (by first | assumption | ((try simp (disch := omega) only [zu_same, zu_ne, zcp_ne, zfl_ne]); first | assumption | rfl)) ?_
  refine z_iconst (a := nI 0) d_Fen_addTin_52 (by decide) ?_
  first | refine z_iastN d_Fen_addTin_53 (by assumption) (by omega) (by decide) ?_ | refine z_iast d_Fen_addTin_53 (by assumption) (by assumption) ?_
  refine z_iload_5 d_Fen_addTin_54 ?_
  refine z_if_eq (tgt := 74) d_Fen_addTin_56 (by decide) (fun h56 => ?_) (fun h56 => ?_)
  · first
    | (simp (disch := omega) only [← nI_0, nI_leI, nI_ltI, nI_eq, not_true_eq_false, not_false_eq_true] at h56; done)
    | (simp (disch := omega) only [← nI_0, nI_leI, nI_ltI, nI_eq, not_true_eq_false, not_false_eq_true] at h56; omega)
    | contradiction
    | exact absurd h56 (Int32.not_lt.mpr (by assumption))
    | exact absurd h56 (Int32.not_le.mpr (by assumption))
    | ( try simp (disch := omega) only [← nI_0, nI_leI, nI_ltI, nI_eq, not_true_eq_false, not_false_eq_true] at h56
        (try have h56b := zbit_n0.mp h56); (try have h56b := zbit_p0.mp h56)
        refine z_aload_0 d_Fen_addTin_74 ?_
        refine z_dup rfl d_Fen_addTin_75 ?_
        refine z_getIv d_Fen_addTin_76 f_Fen_66 (by assumption) (by first | assumption | ((try simp (disch := omega) only [zu_same, zu_ne, zcp_ne, zfl_ne]); first | assumption | rfl)) ?_
        refine z_iconst (a := nI 1) d_Fen_addTin_79 (by decide) ?_
        first | refine z_iaddN d_Fen_addTin_80 ?_ | refine z_iadd d_Fen_addTin_80 ?_
        refine z_putI d_Fen_addTin_81 f_Fen_66 (by assumption) ?_
        refine z_retv d_Fen_addTin_84 ?_
        exact rfl)
  · first
    | (simp (disch := omega) only [← nI_0, nI_leI, nI_ltI, nI_eq, not_true_eq_false, not_false_eq_true] at h56; done)
    | (simp (disch := omega) only [← nI_0, nI_leI, nI_ltI, nI_eq, not_true_eq_false, not_false_eq_true] at h56; omega)
    | contradiction
    | exact absurd h56 (Int32.not_lt.mpr (by assumption))
    | exact absurd h56 (Int32.not_le.mpr (by assumption))
    | ( try simp (disch := omega) only [← nI_0, nI_leI, nI_ltI, nI_eq, not_true_eq_false, not_false_eq_true] at h56
        (try have h56b := zbit_n0.mp h56); (try have h56b := zbit_p0.mp h56)
        refine z_aload_0 d_Fen_addTin_59 ?_
        refine z_dup rfl d_Fen_addTin_60 ?_
        refine z_getIv d_Fen_addTin_61 f_Fen_72 (by assumption) (by first | assumption | ((try simp (disch := omega) only [zu_same, zu_ne, zcp_ne, zfl_ne]); first | assumption | rfl)) ?_
        refine z_iconst (a := nI 1) d_Fen_addTin_64 (by decide) ?_
        refine z_aload_0 d_Fen_addTin_65 ?_
        refine z_getIv d_Fen_addTin_66 f_Fen_66 (by assumption) (by first | assumption | ((try simp (disch := omega) only [zu_same, zu_ne, zcp_ne, zfl_ne]); first | assumption | rfl)) ?_
        refine z_ishl d_Fen_addTin_69 ?_
        refine z_ior d_Fen_addTin_70 ?_
        refine z_putI d_Fen_addTin_71 f_Fen_72 (by assumption) ?_
        refine z_aload_0 d_Fen_addTin_74 ?_
        refine z_dup rfl d_Fen_addTin_75 ?_
        refine z_getIv d_Fen_addTin_76 f_Fen_66 (by assumption) (by first | assumption | ((try simp (disch := omega) only [zu_same, zu_ne, zcp_ne, zfl_ne]); first | assumption | rfl)) ?_
        refine z_iconst (a := nI 1) d_Fen_addTin_79 (by decide) ?_
        first | refine z_iaddN d_Fen_addTin_80 ?_ | refine z_iadd d_Fen_addTin_80 ?_
        refine z_putI d_Fen_addTin_81 f_Fen_66 (by assumption) ?_
        refine z_retv d_Fen_addTin_84 ?_
        exact rfl)
theorem t_Fen_addTin0 (F : fenOk P S f) (h1 : I f 4 = nI nn) (h2 : nn < 9) : zEv G y_Fen_addTin prog_2_method_7_code 6 1 0 0 [.ref f, .long x, .int a, .int b, .int (nI 0)] (I, J, P, S) (fun w => w = (zu (s_addTin I f nn a b) f 4 (nI (nn + 1)), zu J (f + 11) nn x, P, S)) := by
  obtain ⟨F0, ⟨F8, F8s⟩, ⟨F9, F9s⟩, ⟨F10, F10s⟩, ⟨F11, F11s⟩, ⟨F12, F12s⟩, ⟨F13, F13s⟩, ⟨F14, F14s⟩, ⟨F15, F15s⟩, ⟨F16, F16s⟩, ⟨F17, F17s⟩, ⟨F18, F18s⟩, ⟨F19, F19s⟩, ⟨Y3, Y3s⟩, ⟨Y4, Y4s⟩, ⟨Y5, Y5s⟩, ⟨Y6, Y6s⟩⟩ := id F
  refine zEv_of (lv := [some (.ref f), some (.long x), none, some (.int a), some (.int b), some (.int (nI 0))]) (by decide) rfl (Nat.le_of_ble_eq_true rfl) ?_
  refine z_aload_0 d_Fen_addTin_0 ?_
  refine z_getR d_Fen_addTin_1 f_Fen_47 (by assumption) (by assumption) ?_
  refine z_aload_0 d_Fen_addTin_4 ?_
  refine z_getIv d_Fen_addTin_5 f_Fen_66 (by assumption) (by first | assumption | ((try simp (disch := omega) only [zu_same, zu_ne, zcp_ne, zfl_ne]); first | assumption | rfl)) ?_
  refine z_lload_1 d_Fen_addTin_8 ?_
  first | refine z_lastN d_Fen_addTin_9 (by assumption) (by omega) (by decide) ?_ | refine z_last d_Fen_addTin_9 (by assumption) (by assumption) ?_
  refine z_aload_0 d_Fen_addTin_10 ?_
  refine z_getR d_Fen_addTin_11 f_Fen_28 (by assumption) (by assumption) ?_
  refine z_aload_0 d_Fen_addTin_14 ?_
  refine z_getIv d_Fen_addTin_15 f_Fen_66 (by assumption) (by first | assumption | ((try simp (disch := omega) only [zu_same, zu_ne, zcp_ne, zfl_ne]); first | assumption | rfl)) ?_
  refine z_iload_3 d_Fen_addTin_18 ?_
  first | refine z_iastN d_Fen_addTin_19 (by assumption) (by omega) (by decide) ?_ | refine z_iast d_Fen_addTin_19 (by assumption) (by assumption) ?_
  refine z_aload_0 d_Fen_addTin_20 ?_
  refine z_getR d_Fen_addTin_21 f_Fen_31 (by assumption) (by assumption) ?_
  refine z_aload_0 d_Fen_addTin_24 ?_
  refine z_getIv d_Fen_addTin_25 f_Fen_66 (by assumption) (by first | assumption | ((try simp (disch := omega) only [zu_same, zu_ne, zcp_ne, zfl_ne]); first | assumption | rfl)) ?_
  refine z_iload_4 d_Fen_addTin_28 ?_
  first | refine z_iastN d_Fen_addTin_30 (by assumption) (by omega) (by decide) ?_ | refine z_iast d_Fen_addTin_30 (by assumption) (by assumption) ?_
  refine z_aload_0 d_Fen_addTin_31 ?_
  refine z_getR d_Fen_addTin_32 f_Fen_34 (by assumption) (by assumption) ?_
  refine z_aload_0 d_Fen_addTin_35 ?_
  refine z_getIv d_Fen_addTin_36 f_Fen_66 (by assumption) (by first | assumption | ((try simp (disch := omega) only [zu_same, zu_ne, zcp_ne, zfl_ne]); first | assumption | rfl)) ?_
  refine z_iconst (a := nI 1) d_Fen_addTin_39 (by decide) ?_
  refine z_iload_4 d_Fen_addTin_40 ?_
  refine z_ishl d_Fen_addTin_42 ?_
  first | refine z_iastN d_Fen_addTin_43 (by assumption) (by omega) (by decide) ?_ | refine z_iast d_Fen_addTin_43 (by assumption) (by assumption) ?_
  refine z_aload_0 d_Fen_addTin_44 ?_
  refine z_getR d_Fen_addTin_45 f_Fen_37 (by assumption) (by assumption) ?_
  refine z_aload_0 d_Fen_addTin_48 ?_
  refine z_getIv d_Fen_addTin_49 f_Fen_66 (by assumption) (by first | assumption | ((try simp (disch := omega) only [zu_same, zu_ne, zcp_ne, zfl_ne]); first | assumption | rfl)) ?_
  refine z_iconst (a := nI 0) d_Fen_addTin_52 (by decide) ?_
  first | refine z_iastN d_Fen_addTin_53 (by assumption) (by omega) (by decide) ?_ | refine z_iast d_Fen_addTin_53 (by assumption) (by assumption) ?_
  refine z_iload_5 d_Fen_addTin_54 ?_
  refine z_if_eq (tgt := 74) d_Fen_addTin_56 (by decide) (fun h56 => ?_) (fun h56 => ?_)
  · first
    | (simp (disch := omega) only [← nI_0, nI_leI, nI_ltI, nI_eq, not_true_eq_false, not_false_eq_true] at h56; done)
    | (simp (disch := omega) only [← nI_0, nI_leI, nI_ltI, nI_eq, not_true_eq_false, not_false_eq_true] at h56; omega)
    | contradiction
    | exact absurd h56 (Int32.not_lt.mpr (by assumption))
    | exact absurd h56 (Int32.not_le.mpr (by assumption))
    | ( try simp (disch := omega) only [← nI_0, nI_leI, nI_ltI, nI_eq, not_true_eq_false, not_false_eq_true] at h56
        (try have h56b := zbit_n0.mp h56); (try have h56b := zbit_p0.mp h56)
        refine z_aload_0 d_Fen_addTin_74 ?_
        refine z_dup rfl d_Fen_addTin_75 ?_
        refine z_getIv d_Fen_addTin_76 f_Fen_66 (by assumption) (by first | assumption | ((try simp (disch := omega) only [zu_same, zu_ne, zcp_ne, zfl_ne]); first | assumption | rfl)) ?_
        refine z_iconst (a := nI 1) d_Fen_addTin_79 (by decide) ?_
        first | refine z_iaddN d_Fen_addTin_80 ?_ | refine z_iadd d_Fen_addTin_80 ?_
        refine z_putI d_Fen_addTin_81 f_Fen_66 (by assumption) ?_
        refine z_retv d_Fen_addTin_84 ?_
        exact rfl)
  · first
    | (simp (disch := omega) only [← nI_0, nI_leI, nI_ltI, nI_eq, not_true_eq_false, not_false_eq_true] at h56; done)
    | (simp (disch := omega) only [← nI_0, nI_leI, nI_ltI, nI_eq, not_true_eq_false, not_false_eq_true] at h56; omega)
    | contradiction
    | exact absurd h56 (Int32.not_lt.mpr (by assumption))
    | exact absurd h56 (Int32.not_le.mpr (by assumption))
    | ( try simp (disch := omega) only [← nI_0, nI_leI, nI_ltI, nI_eq, not_true_eq_false, not_false_eq_true] at h56
        (try have h56b := zbit_n0.mp h56); (try have h56b := zbit_p0.mp h56)
        refine z_aload_0 d_Fen_addTin_59 ?_
        refine z_dup rfl d_Fen_addTin_60 ?_
        refine z_getIv d_Fen_addTin_61 f_Fen_72 (by assumption) (by first | assumption | ((try simp (disch := omega) only [zu_same, zu_ne, zcp_ne, zfl_ne]); first | assumption | rfl)) ?_
        refine z_iconst (a := nI 1) d_Fen_addTin_64 (by decide) ?_
        refine z_aload_0 d_Fen_addTin_65 ?_
        refine z_getIv d_Fen_addTin_66 f_Fen_66 (by assumption) (by first | assumption | ((try simp (disch := omega) only [zu_same, zu_ne, zcp_ne, zfl_ne]); first | assumption | rfl)) ?_
        refine z_ishl d_Fen_addTin_69 ?_
        refine z_ior d_Fen_addTin_70 ?_
        refine z_putI d_Fen_addTin_71 f_Fen_72 (by assumption) ?_
        refine z_aload_0 d_Fen_addTin_74 ?_
        refine z_dup rfl d_Fen_addTin_75 ?_
        refine z_getIv d_Fen_addTin_76 f_Fen_66 (by assumption) (by first | assumption | ((try simp (disch := omega) only [zu_same, zu_ne, zcp_ne, zfl_ne]); first | assumption | rfl)) ?_
        refine z_iconst (a := nI 1) d_Fen_addTin_79 (by decide) ?_
        first | refine z_iaddN d_Fen_addTin_80 ?_ | refine z_iadd d_Fen_addTin_80 ?_
        refine z_putI d_Fen_addTin_81 f_Fen_66 (by assumption) ?_
        refine z_retv d_Fen_addTin_84 ?_
        exact rfl)
/-- Years at an address, its rows behind it -/
def yrOk (P : Nat → Nat → Option Nat) (S : List (Nat × Nat)) (g : Nat) : Prop := S[g]? = some (9, 7) ∧ (P g 3 = some (g + 1) ∧ S[g + 1]? = some (100, 60)) ∧ (P g 4 = some (g + 2) ∧ S[g + 2]? = some (100, 60)) ∧ (P g 5 = some (g + 3) ∧ S[g + 3]? = some (100, 60)) ∧ (P g 6 = some (g + 4) ∧ S[g + 4]? = some (100, 60))
theorem fenOk.yr (F : fenOk P S f) : yrOk P S (f + 12) := by
  obtain ⟨F0, ⟨F8, F8s⟩, ⟨F9, F9s⟩, ⟨F10, F10s⟩, ⟨F11, F11s⟩, ⟨F12, F12s⟩, ⟨F13, F13s⟩, ⟨F14, F14s⟩, ⟨F15, F15s⟩, ⟨F16, F16s⟩, ⟨F17, F17s⟩, ⟨F18, F18s⟩, ⟨F19, F19s⟩, ⟨Y3, Y3s⟩, ⟨Y4, Y4s⟩, ⟨Y5, Y5s⟩, ⟨Y6, Y6s⟩⟩ := id F
  exact ⟨F19s, ⟨Y3, Y3s⟩, ⟨Y4, Y4s⟩, ⟨Y5, Y5s⟩, ⟨Y6, Y6s⟩⟩
def s_addOp (I : Nat → Nat → Int32) (g sz : Nat) (a b c : Int32) : Nat → Nat → Int32 := zu (zu (zu (zu I (g + 1) sz a) (g + 2) sz b) (g + 3) sz c) g 2 (nI (sz + 1))
theorem t_Years_addOp {sz : Nat} (Y : yrOk P S g) (h1 : I g 2 = nI sz) (h2 : sz < 60) : zEv G y_Years_addOp prog_11_method_6_code 4 1 0 0 [.ref g, .int a, .int b, .int c] (I, J, P, S) (fun w => w = (s_addOp I g sz a b c, J, P, S)) := by
  obtain ⟨Y0, ⟨Y3, Y3s⟩, ⟨Y4, Y4s⟩, ⟨Y5, Y5s⟩, ⟨Y6, Y6s⟩⟩ := id Y
  refine zEv_of (lv := [some (.ref g), some (.int a), some (.int b), some (.int c)]) (by decide) rfl (Nat.le_of_ble_eq_true rfl) ?_
  refine z_aload_0 d_Years_addOp_0 ?_
  refine z_getR d_Years_addOp_1 f_Years_9 (by assumption) (by assumption) ?_
  refine z_aload_0 d_Years_addOp_4 ?_
  refine z_getIv d_Years_addOp_5 f_Years_30 (by assumption) (by first | assumption | ((try simp (disch := omega) only [zu_same, zu_ne, zcp_ne, zfl_ne]); first | assumption | rfl)) ?_
  refine z_iload_1 d_Years_addOp_8 ?_
  first | refine z_iastN d_Years_addOp_9 (by assumption) (by omega) (by decide) ?_ | refine z_iast d_Years_addOp_9 (by assumption) (by assumption) ?_
  refine z_aload_0 d_Years_addOp_10 ?_
  refine z_getR d_Years_addOp_11 f_Years_13 (by assumption) (by assumption) ?_
  refine z_aload_0 d_Years_addOp_14 ?_
  refine z_getIv d_Years_addOp_15 f_Years_30 (by assumption) (by first | assumption | ((try simp (disch := omega) only [zu_same, zu_ne, zcp_ne, zfl_ne]); first | assumption | rfl)) ?_
  refine z_iload_2 d_Years_addOp_18 ?_
  first | refine z_iastN d_Years_addOp_19 (by assumption) (by omega) (by decide) ?_ | refine z_iast d_Years_addOp_19 (by assumption) (by assumption) ?_
  refine z_aload_0 d_Years_addOp_20 ?_
  refine z_getR d_Years_addOp_21 f_Years_16 (by assumption) (by assumption) ?_
  refine z_aload_0 d_Years_addOp_24 ?_
  refine z_getIv d_Years_addOp_25 f_Years_30 (by assumption) (by first | assumption | ((try simp (disch := omega) only [zu_same, zu_ne, zcp_ne, zfl_ne]); first | assumption | rfl)) ?_
  refine z_iload_3 d_Years_addOp_28 ?_
  first | refine z_iastN d_Years_addOp_29 (by assumption) (by omega) (by decide) ?_ | refine z_iast d_Years_addOp_29 (by assumption) (by assumption) ?_
  refine z_aload_0 d_Years_addOp_30 ?_
  refine z_dup rfl d_Years_addOp_31 ?_
  refine z_getIv d_Years_addOp_32 f_Years_30 (by assumption) (by first | assumption | ((try simp (disch := omega) only [zu_same, zu_ne, zcp_ne, zfl_ne]); first | assumption | rfl)) ?_
  refine z_iconst (a := nI 1) d_Years_addOp_35 (by decide) ?_
  first | refine z_iaddN d_Years_addOp_36 ?_ | refine z_iadd d_Years_addOp_36 ?_
  refine z_putI d_Years_addOp_37 f_Years_30 (by assumption) ?_
  refine z_retv d_Years_addOp_40 ?_
  exact rfl
theorem t_Years_addStep {sz st : Nat} (Y : yrOk P S g) (h1 : I g 2 = nI sz) (h2 : sz < 60) (h3 : I g 1 = nI st) : zEv G y_Years_addStep prog_11_method_4_code 4 2 0 0 [.ref g, .int a, .int b, .int c] (I, J, P, S) (fun w => w = (zu (s_addOp I g sz a b c) g 1 (nI (st + 1)), J, P, S)) := by
  obtain ⟨Y0, ⟨Y3, Y3s⟩, ⟨Y4, Y4s⟩, ⟨Y5, Y5s⟩, ⟨Y6, Y6s⟩⟩ := id Y
  have h4 : s_addOp I g sz a b c g 1 = nI st := by
    simp (disch := omega) only [s_addOp, zu_ne]
    exact h3
  refine zEv_of (lv := [some (.ref g), some (.int a), some (.int b), some (.int c)]) (by decide) rfl (Nat.le_of_ble_eq_true rfl) ?_
  refine z_aload_0 d_Years_addStep_0 ?_
  refine z_iload_1 d_Years_addStep_1 ?_
  refine z_iload_2 d_Years_addStep_2 ?_
  refine z_iload_3 d_Years_addStep_3 ?_
  refine z_Vv3 d_Years_addStep_4 k_Years_39 (by assumption) (t_Years_addOp (by assumption) (by first | assumption | (simp (disch := omega) only [zu_ne]; assumption)) (by omega)) ⟨Nat.le_of_ble_eq_true rfl, Nat.le_of_ble_eq_true rfl, Nat.le_of_ble_eq_true rfl, Nat.le_of_ble_eq_true rfl⟩ (Nat.le_of_ble_eq_true rfl) ?_
  intro w hq
  obtain rfl := hq
  refine z_aload_0 d_Years_addStep_7 ?_
  refine z_dup rfl d_Years_addStep_8 ?_
  refine z_getIv d_Years_addStep_9 f_Years_26 (by assumption) (by first | assumption | ((try simp (disch := omega) only [zu_same, zu_ne, zcp_ne, zfl_ne]); first | assumption | rfl)) ?_
  refine z_iconst (a := nI 1) d_Years_addStep_12 (by decide) ?_
  first | refine z_iaddN d_Years_addStep_13 ?_ | refine z_iadd d_Years_addStep_13 ?_
  refine z_putI d_Years_addStep_14 f_Years_26 (by assumption) ?_
  refine z_retv d_Years_addStep_17 ?_
  exact rfl
theorem t_Years_addEnd {sz o : Nat} (Y : yrOk P S g) (h1 : I g 2 = nI sz) (h2 : sz < 60) (ho : o < 60) : zEv G y_Years_addEnd prog_11_method_5_code 2 2 0 0 [.ref g, .int (nI o)] (I, J, P, S) (fun w => w = (s_addOp (zu (zu I (g + 4) o (nI sz)) (g + 4) sz (nI o)) g sz (nI 19) (nI 0) (nI 0), J, P, S)) := by
  obtain ⟨Y0, ⟨Y3, Y3s⟩, ⟨Y4, Y4s⟩, ⟨Y5, Y5s⟩, ⟨Y6, Y6s⟩⟩ := id Y
  refine zEv_of (lv := [some (.ref g), some (.int (nI o))]) (by decide) rfl (Nat.le_of_ble_eq_true rfl) ?_
  refine z_aload_0 d_Years_addEnd_0 ?_
  refine z_getR d_Years_addEnd_1 f_Years_19 (by assumption) (by assumption) ?_
  refine z_iload_1 d_Years_addEnd_4 ?_
  refine z_aload_0 d_Years_addEnd_5 ?_
  refine z_getIv d_Years_addEnd_6 f_Years_30 (by assumption) (by first | assumption | ((try simp (disch := omega) only [zu_same, zu_ne, zcp_ne, zfl_ne]); first | assumption | rfl)) ?_
  first | refine z_iastN d_Years_addEnd_9 (by assumption) (by omega) (by decide) ?_ | refine z_iast d_Years_addEnd_9 (by assumption) (by assumption) ?_
  refine z_aload_0 d_Years_addEnd_10 ?_
  refine z_getR d_Years_addEnd_11 f_Years_19 (by assumption) (by assumption) ?_
  refine z_aload_0 d_Years_addEnd_14 ?_
  refine z_getIv d_Years_addEnd_15 f_Years_30 (by assumption) (by first | assumption | ((try simp (disch := omega) only [zu_same, zu_ne, zcp_ne, zfl_ne]); first | assumption | rfl)) ?_
  refine z_iload_1 d_Years_addEnd_18 ?_
  first | refine z_iastN d_Years_addEnd_19 (by assumption) (by omega) (by decide) ?_ | refine z_iast d_Years_addEnd_19 (by assumption) (by assumption) ?_
  refine z_aload_0 d_Years_addEnd_20 ?_
  refine z_bipush (a := nI 19) d_Years_addEnd_21 (by decide) ?_
  refine z_iconst (a := nI 0) d_Years_addEnd_23 (by decide) ?_
  refine z_iconst (a := nI 0) d_Years_addEnd_24 (by decide) ?_
  refine z_Vv3 d_Years_addEnd_25 k_Years_39 (by assumption) (t_Years_addOp (by assumption) (by first | assumption | (simp (disch := omega) only [zu_ne]; assumption)) (by omega)) ⟨Nat.le_of_ble_eq_true rfl, Nat.le_of_ble_eq_true rfl, Nat.le_of_ble_eq_true rfl, Nat.le_of_ble_eq_true rfl⟩ (Nat.le_of_ble_eq_true rfl) ?_
  intro w hq
  obtain rfl := hq
  refine z_retv d_Years_addEnd_28 ?_
  exact rfl
/-- Years taken over from another -/
def s_cpY (I : Nat → Nat → Int32) (z g sz : Nat) : Nat → Nat → Int32 :=
  zcp (zcp (zcp (zcp (zu (zu (zu I g 0 (I z 0)) g 1 (I z 1)) g 2 (nI sz)) (z + 1) (g + 1) 0 0 sz) (z + 2) (g + 2) 0 0 sz) (z + 3) (g + 3) 0 0 sz) (z + 4) (g + 4) 0 0 sz
theorem t_Years_copyFrom {z sz : Nat} (Y : yrOk P S g) (V : yrOk P S z) (hd : g + 4 < z ∨ z + 4 < g) (h0 : I z 0 = 0 ∨ I z 0 = 1) (h1 : I z 2 = nI sz) (h2 : sz ≤ 60) : zEv G y_Years_copyFrom prog_11_method_3_code 2 2 0 0 [.ref g, .ref z] (I, J, P, S) (fun w => w = (s_cpY I z g sz, J, P, S)) := by
  obtain ⟨Y0, ⟨Y3, Y3s⟩, ⟨Y4, Y4s⟩, ⟨Y5, Y5s⟩, ⟨Y6, Y6s⟩⟩ := id Y
  obtain ⟨V0, ⟨V3, V3s⟩, ⟨V4, V4s⟩, ⟨V5, V5s⟩, ⟨V6, V6s⟩⟩ := id V
  refine zEv_of (lv := [some (.ref g), some (.ref z)]) (by decide) rfl (Nat.le_of_ble_eq_true rfl) ?_
  refine z_aload_0 d_Years_copyFrom_0 ?_
  refine z_aload_1 d_Years_copyFrom_1 ?_
  refine z_getIv d_Years_copyFrom_2 f_Years_22 (by assumption) (by first | assumption | ((try simp (disch := omega) only [zu_same, zu_ne, zcp_ne, zfl_ne]); first | assumption | rfl)) ?_
  refine z_putZ d_Years_copyFrom_5 f_Years_22 (by assumption) (by first | exact zb0 | exact zb1 | assumption) ?_
  refine z_aload_0 d_Years_copyFrom_8 ?_
  refine z_aload_1 d_Years_copyFrom_9 ?_
  refine z_getIv d_Years_copyFrom_10 f_Years_26 (by assumption) (by first | assumption | ((try simp (disch := omega) only [zu_same, zu_ne, zcp_ne, zfl_ne]); first | assumption | rfl)) ?_
  refine z_putI d_Years_copyFrom_13 f_Years_26 (by assumption) ?_
  refine z_aload_0 d_Years_copyFrom_16 ?_
  refine z_aload_1 d_Years_copyFrom_17 ?_
  refine z_getIv d_Years_copyFrom_18 f_Years_30 (by assumption) (by first | assumption | ((try simp (disch := omega) only [zu_same, zu_ne, zcp_ne, zfl_ne]); first | assumption | rfl)) ?_
  refine z_putI d_Years_copyFrom_21 f_Years_30 (by assumption) ?_
  refine z_aload_1 d_Years_copyFrom_24 ?_
  refine z_getR d_Years_copyFrom_25 f_Years_9 (by assumption) (by assumption) ?_
  refine z_iconst (a := nI 0) d_Years_copyFrom_28 (by decide) ?_
  refine z_aload_0 d_Years_copyFrom_29 ?_
  refine z_getR d_Years_copyFrom_30 f_Years_9 (by assumption) (by assumption) ?_
  refine z_iconst (a := nI 0) d_Years_copyFrom_33 (by decide) ?_
  refine z_aload_0 d_Years_copyFrom_34 ?_
  refine z_getIv d_Years_copyFrom_35 f_Years_30 (by assumption) (by first | assumption | ((try simp (disch := omega) only [zu_same, zu_ne, zcp_ne, zfl_ne]); first | assumption | rfl)) ?_
  first | refine z_cpI d_Years_copyFrom_38 k_Years_33 (by assumption) (by assumption) (by omega) (by omega) (by decide) ⟨Nat.le_of_ble_eq_true rfl, Nat.le_of_ble_eq_true rfl⟩ (Nat.le_of_ble_eq_true rfl) ?_ | refine z_cpJ d_Years_copyFrom_38 k_Years_33 (by assumption) (by assumption) (by omega) (by omega) (by decide) ⟨Nat.le_of_ble_eq_true rfl, Nat.le_of_ble_eq_true rfl⟩ (Nat.le_of_ble_eq_true rfl) ?_
  refine z_aload_1 d_Years_copyFrom_41 ?_
  refine z_getR d_Years_copyFrom_42 f_Years_13 (by assumption) (by assumption) ?_
  refine z_iconst (a := nI 0) d_Years_copyFrom_45 (by decide) ?_
  refine z_aload_0 d_Years_copyFrom_46 ?_
  refine z_getR d_Years_copyFrom_47 f_Years_13 (by assumption) (by assumption) ?_
  refine z_iconst (a := nI 0) d_Years_copyFrom_50 (by decide) ?_
  refine z_aload_0 d_Years_copyFrom_51 ?_
  refine z_getIv d_Years_copyFrom_52 f_Years_30 (by assumption) (by first | assumption | ((try simp (disch := omega) only [zu_same, zu_ne, zcp_ne, zfl_ne]); first | assumption | rfl)) ?_
  first | refine z_cpI d_Years_copyFrom_55 k_Years_33 (by assumption) (by assumption) (by omega) (by omega) (by decide) ⟨Nat.le_of_ble_eq_true rfl, Nat.le_of_ble_eq_true rfl⟩ (Nat.le_of_ble_eq_true rfl) ?_ | refine z_cpJ d_Years_copyFrom_55 k_Years_33 (by assumption) (by assumption) (by omega) (by omega) (by decide) ⟨Nat.le_of_ble_eq_true rfl, Nat.le_of_ble_eq_true rfl⟩ (Nat.le_of_ble_eq_true rfl) ?_
  refine z_aload_1 d_Years_copyFrom_58 ?_
  refine z_getR d_Years_copyFrom_59 f_Years_16 (by assumption) (by assumption) ?_
  refine z_iconst (a := nI 0) d_Years_copyFrom_62 (by decide) ?_
  refine z_aload_0 d_Years_copyFrom_63 ?_
  refine z_getR d_Years_copyFrom_64 f_Years_16 (by assumption) (by assumption) ?_
  refine z_iconst (a := nI 0) d_Years_copyFrom_67 (by decide) ?_
  refine z_aload_0 d_Years_copyFrom_68 ?_
  refine z_getIv d_Years_copyFrom_69 f_Years_30 (by assumption) (by first | assumption | ((try simp (disch := omega) only [zu_same, zu_ne, zcp_ne, zfl_ne]); first | assumption | rfl)) ?_
  first | refine z_cpI d_Years_copyFrom_72 k_Years_33 (by assumption) (by assumption) (by omega) (by omega) (by decide) ⟨Nat.le_of_ble_eq_true rfl, Nat.le_of_ble_eq_true rfl⟩ (Nat.le_of_ble_eq_true rfl) ?_ | refine z_cpJ d_Years_copyFrom_72 k_Years_33 (by assumption) (by assumption) (by omega) (by omega) (by decide) ⟨Nat.le_of_ble_eq_true rfl, Nat.le_of_ble_eq_true rfl⟩ (Nat.le_of_ble_eq_true rfl) ?_
  refine z_aload_1 d_Years_copyFrom_75 ?_
  refine z_getR d_Years_copyFrom_76 f_Years_19 (by assumption) (by assumption) ?_
  refine z_iconst (a := nI 0) d_Years_copyFrom_79 (by decide) ?_
  refine z_aload_0 d_Years_copyFrom_80 ?_
  refine z_getR d_Years_copyFrom_81 f_Years_19 (by assumption) (by assumption) ?_
  refine z_iconst (a := nI 0) d_Years_copyFrom_84 (by decide) ?_
  refine z_aload_0 d_Years_copyFrom_85 ?_
  refine z_getIv d_Years_copyFrom_86 f_Years_30 (by assumption) (by first | assumption | ((try simp (disch := omega) only [zu_same, zu_ne, zcp_ne, zfl_ne]); first | assumption | rfl)) ?_
  first | refine z_cpI d_Years_copyFrom_89 k_Years_33 (by assumption) (by assumption) (by omega) (by omega) (by decide) ⟨Nat.le_of_ble_eq_true rfl, Nat.le_of_ble_eq_true rfl⟩ (Nat.le_of_ble_eq_true rfl) ?_ | refine z_cpJ d_Years_copyFrom_89 k_Years_33 (by assumption) (by assumption) (by omega) (by omega) (by decide) ⟨Nat.le_of_ble_eq_true rfl, Nat.le_of_ble_eq_true rfl⟩ (Nat.le_of_ble_eq_true rfl) ?_
  refine z_retv d_Years_copyFrom_92 ?_
  exact rfl
/-- a Fen taken over from another: all rows, of the Years the first sz -/
def s_cpF (I : Nat → Nat → Int32) (g f sz : Nat) : Nat → Nat → Int32 :=
  s_cpY (zcp (zcp (zcp (zcp (zcp (zcp (zcp (zcp (zu (zu (zu (zu (zu (zu (zu (zu I f 0 (I g 0)) f 1 (I g 1)) f 2 (I g 2)) f 3 (I g 3)) f 4 (I g 4)) f 5 (I g 5)) f 6 (I g 6)) f 7 (I g 7)) (g + 1) (f + 1) 0 0 6) (g + 2) (f + 2) 0 0 7) (g + 3) (f + 3) 0 0 7) (g + 4) (f + 4) 0 0 7) (g + 5) (f + 5) 0 0 9) (g + 6) (f + 6) 0 0 9) (g + 7) (f + 7) 0 0 9) (g + 8) (f + 8) 0 0 9) (g + 12) (f + 12) sz
def s_cpN (J : Nat → Nat → Int64) (g f : Nat) : Nat → Nat → Int64 := zcp (zcp (zcp J (g + 9) (f + 9) 0 0 6) (g + 10) (f + 10) 0 0 7) (g + 11) (f + 11) 0 0 9
theorem t_Fen_copyFrom {sz : Nat} (F : fenOk P S f) (H : fenOk P S g) (hd : f + 16 < g ∨ g + 16 < f) (h0 : I (g + 12) 0 = 0 ∨ I (g + 12) 0 = 1) (h1 : I (g + 12) 2 = nI sz) (h2 : sz ≤ 60) : zEv G y_Fen_copyFrom prog_2_method_3_code 2 3 0 0 [.ref f, .ref g] (I, J, P, S) (fun w => w = (s_cpF I g f sz, s_cpN J g f, P, S)) := by
  have Fy := F.yr
  have Hy := H.yr
  obtain ⟨F0, ⟨F8, F8s⟩, ⟨F9, F9s⟩, ⟨F10, F10s⟩, ⟨F11, F11s⟩, ⟨F12, F12s⟩, ⟨F13, F13s⟩, ⟨F14, F14s⟩, ⟨F15, F15s⟩, ⟨F16, F16s⟩, ⟨F17, F17s⟩, ⟨F18, F18s⟩, ⟨F19, F19s⟩, ⟨Y3, Y3s⟩, ⟨Y4, Y4s⟩, ⟨Y5, Y5s⟩, ⟨Y6, Y6s⟩⟩ := id F
  obtain ⟨H0, ⟨H8, H8s⟩, ⟨H9, H9s⟩, ⟨H10, H10s⟩, ⟨H11, H11s⟩, ⟨H12, H12s⟩, ⟨H13, H13s⟩, ⟨H14, H14s⟩, ⟨H15, H15s⟩, ⟨H16, H16s⟩, ⟨H17, H17s⟩, ⟨H18, H18s⟩, ⟨H19, H19s⟩, ⟨Z3, Z3s⟩, ⟨Z4, Z4s⟩, ⟨Z5, Z5s⟩, ⟨Z6, Z6s⟩⟩ := id H
  refine zEv_of (lv := [some (.ref f), some (.ref g)]) (by decide) rfl (Nat.le_of_ble_eq_true rfl) ?_
  refine z_aload_0 d_Fen_copyFrom_0 ?_
  refine z_aload_1 d_Fen_copyFrom_1 ?_
  refine z_getIv d_Fen_copyFrom_2 f_Fen_9 (by assumption) (by first | assumption | ((try simp (disch := omega) only [zu_same, zu_ne, zcp_ne, zfl_ne]); first | assumption | rfl)) ?_
  refine z_putI d_Fen_copyFrom_5 f_Fen_9 (by assumption) ?_
  refine z_aload_0 d_Fen_copyFrom_8 ?_
  refine z_aload_1 d_Fen_copyFrom_9 ?_
  refine z_getIv d_Fen_copyFrom_10 f_Fen_57 (by assumption) (by first | assumption | ((try simp (disch := omega) only [zu_same, zu_ne, zcp_ne, zfl_ne]); first | assumption | rfl)) ?_
  refine z_putI d_Fen_copyFrom_13 f_Fen_57 (by assumption) ?_
  refine z_aload_0 d_Fen_copyFrom_16 ?_
  refine z_aload_1 d_Fen_copyFrom_17 ?_
  refine z_getIv d_Fen_copyFrom_18 f_Fen_60 (by assumption) (by first | assumption | ((try simp (disch := omega) only [zu_same, zu_ne, zcp_ne, zfl_ne]); first | assumption | rfl)) ?_
  refine z_putI d_Fen_copyFrom_21 f_Fen_60 (by assumption) ?_
  refine z_aload_0 d_Fen_copyFrom_24 ?_
  refine z_aload_1 d_Fen_copyFrom_25 ?_
  refine z_getIv d_Fen_copyFrom_26 f_Fen_63 (by assumption) (by first | assumption | ((try simp (disch := omega) only [zu_same, zu_ne, zcp_ne, zfl_ne]); first | assumption | rfl)) ?_
  refine z_putI d_Fen_copyFrom_29 f_Fen_63 (by assumption) ?_
  refine z_aload_0 d_Fen_copyFrom_32 ?_
  refine z_aload_1 d_Fen_copyFrom_33 ?_
  refine z_getIv d_Fen_copyFrom_34 f_Fen_66 (by assumption) (by first | assumption | ((try simp (disch := omega) only [zu_same, zu_ne, zcp_ne, zfl_ne]); first | assumption | rfl)) ?_
  refine z_putI d_Fen_copyFrom_37 f_Fen_66 (by assumption) ?_
  refine z_aload_0 d_Fen_copyFrom_40 ?_
  refine z_aload_1 d_Fen_copyFrom_41 ?_
  refine z_getIv d_Fen_copyFrom_42 f_Fen_69 (by assumption) (by first | assumption | ((try simp (disch := omega) only [zu_same, zu_ne, zcp_ne, zfl_ne]); first | assumption | rfl)) ?_
  refine z_putI d_Fen_copyFrom_45 f_Fen_69 (by assumption) ?_
  refine z_aload_0 d_Fen_copyFrom_48 ?_
  refine z_aload_1 d_Fen_copyFrom_49 ?_
  refine z_getIv d_Fen_copyFrom_50 f_Fen_72 (by assumption) (by first | assumption | ((try simp (disch := omega) only [zu_same, zu_ne, zcp_ne, zfl_ne]); first | assumption | rfl)) ?_
  refine z_putI d_Fen_copyFrom_53 f_Fen_72 (by assumption) ?_
  refine z_aload_0 d_Fen_copyFrom_56 ?_
  refine z_aload_1 d_Fen_copyFrom_57 ?_
  refine z_getIv d_Fen_copyFrom_58 f_Fen_75 (by assumption) (by first | assumption | ((try simp (disch := omega) only [zu_same, zu_ne, zcp_ne, zfl_ne]); first | assumption | rfl)) ?_
  refine z_putI d_Fen_copyFrom_61 f_Fen_75 (by assumption) ?_
  refine z_aload_1 d_Fen_copyFrom_64 ?_
  refine z_getR d_Fen_copyFrom_65 f_Fen_15 (by assumption) (by assumption) ?_
  refine z_iconst (a := nI 0) d_Fen_copyFrom_68 (by decide) ?_
  refine z_aload_0 d_Fen_copyFrom_69 ?_
  refine z_getR d_Fen_copyFrom_70 f_Fen_15 (by assumption) (by assumption) ?_
  refine z_iconst (a := nI 0) d_Fen_copyFrom_73 (by decide) ?_
  refine z_bipush (a := nI 6) d_Fen_copyFrom_74 (by decide) ?_
  first | refine z_cpI d_Fen_copyFrom_76 k_Fen_81 (by assumption) (by assumption) (by omega) (by omega) (by decide) ⟨Nat.le_of_ble_eq_true rfl, Nat.le_of_ble_eq_true rfl⟩ (Nat.le_of_ble_eq_true rfl) ?_ | refine z_cpJ d_Fen_copyFrom_76 k_Fen_81 (by assumption) (by assumption) (by omega) (by omega) (by decide) ⟨Nat.le_of_ble_eq_true rfl, Nat.le_of_ble_eq_true rfl⟩ (Nat.le_of_ble_eq_true rfl) ?_
  refine z_aload_1 d_Fen_copyFrom_79 ?_
  refine z_getR d_Fen_copyFrom_80 f_Fen_19 (by assumption) (by assumption) ?_
  refine z_iconst (a := nI 0) d_Fen_copyFrom_83 (by decide) ?_
  refine z_aload_0 d_Fen_copyFrom_84 ?_
  refine z_getR d_Fen_copyFrom_85 f_Fen_19 (by assumption) (by assumption) ?_
  refine z_iconst (a := nI 0) d_Fen_copyFrom_88 (by decide) ?_
  refine z_bipush (a := nI 7) d_Fen_copyFrom_89 (by decide) ?_
  first | refine z_cpI d_Fen_copyFrom_91 k_Fen_81 (by assumption) (by assumption) (by omega) (by omega) (by decide) ⟨Nat.le_of_ble_eq_true rfl, Nat.le_of_ble_eq_true rfl⟩ (Nat.le_of_ble_eq_true rfl) ?_ | refine z_cpJ d_Fen_copyFrom_91 k_Fen_81 (by assumption) (by assumption) (by omega) (by omega) (by decide) ⟨Nat.le_of_ble_eq_true rfl, Nat.le_of_ble_eq_true rfl⟩ (Nat.le_of_ble_eq_true rfl) ?_
  refine z_aload_1 d_Fen_copyFrom_94 ?_
  refine z_getR d_Fen_copyFrom_95 f_Fen_22 (by assumption) (by assumption) ?_
  refine z_iconst (a := nI 0) d_Fen_copyFrom_98 (by decide) ?_
  refine z_aload_0 d_Fen_copyFrom_99 ?_
  refine z_getR d_Fen_copyFrom_100 f_Fen_22 (by assumption) (by assumption) ?_
  refine z_iconst (a := nI 0) d_Fen_copyFrom_103 (by decide) ?_
  refine z_bipush (a := nI 7) d_Fen_copyFrom_104 (by decide) ?_
  first | refine z_cpI d_Fen_copyFrom_106 k_Fen_81 (by assumption) (by assumption) (by omega) (by omega) (by decide) ⟨Nat.le_of_ble_eq_true rfl, Nat.le_of_ble_eq_true rfl⟩ (Nat.le_of_ble_eq_true rfl) ?_ | refine z_cpJ d_Fen_copyFrom_106 k_Fen_81 (by assumption) (by assumption) (by omega) (by omega) (by decide) ⟨Nat.le_of_ble_eq_true rfl, Nat.le_of_ble_eq_true rfl⟩ (Nat.le_of_ble_eq_true rfl) ?_
  refine z_aload_1 d_Fen_copyFrom_109 ?_
  refine z_getR d_Fen_copyFrom_110 f_Fen_25 (by assumption) (by assumption) ?_
  refine z_iconst (a := nI 0) d_Fen_copyFrom_113 (by decide) ?_
  refine z_aload_0 d_Fen_copyFrom_114 ?_
  refine z_getR d_Fen_copyFrom_115 f_Fen_25 (by assumption) (by assumption) ?_
  refine z_iconst (a := nI 0) d_Fen_copyFrom_118 (by decide) ?_
  refine z_bipush (a := nI 7) d_Fen_copyFrom_119 (by decide) ?_
  first | refine z_cpI d_Fen_copyFrom_121 k_Fen_81 (by assumption) (by assumption) (by omega) (by omega) (by decide) ⟨Nat.le_of_ble_eq_true rfl, Nat.le_of_ble_eq_true rfl⟩ (Nat.le_of_ble_eq_true rfl) ?_ | refine z_cpJ d_Fen_copyFrom_121 k_Fen_81 (by assumption) (by assumption) (by omega) (by omega) (by decide) ⟨Nat.le_of_ble_eq_true rfl, Nat.le_of_ble_eq_true rfl⟩ (Nat.le_of_ble_eq_true rfl) ?_
  refine z_aload_1 d_Fen_copyFrom_124 ?_
  refine z_getR d_Fen_copyFrom_125 f_Fen_28 (by assumption) (by assumption) ?_
  refine z_iconst (a := nI 0) d_Fen_copyFrom_128 (by decide) ?_
  refine z_aload_0 d_Fen_copyFrom_129 ?_
  refine z_getR d_Fen_copyFrom_130 f_Fen_28 (by assumption) (by assumption) ?_
  refine z_iconst (a := nI 0) d_Fen_copyFrom_133 (by decide) ?_
  refine z_bipush (a := nI 9) d_Fen_copyFrom_134 (by decide) ?_
  first | refine z_cpI d_Fen_copyFrom_136 k_Fen_81 (by assumption) (by assumption) (by omega) (by omega) (by decide) ⟨Nat.le_of_ble_eq_true rfl, Nat.le_of_ble_eq_true rfl⟩ (Nat.le_of_ble_eq_true rfl) ?_ | refine z_cpJ d_Fen_copyFrom_136 k_Fen_81 (by assumption) (by assumption) (by omega) (by omega) (by decide) ⟨Nat.le_of_ble_eq_true rfl, Nat.le_of_ble_eq_true rfl⟩ (Nat.le_of_ble_eq_true rfl) ?_
  refine z_aload_1 d_Fen_copyFrom_139 ?_
  refine z_getR d_Fen_copyFrom_140 f_Fen_31 (by assumption) (by assumption) ?_
  refine z_iconst (a := nI 0) d_Fen_copyFrom_143 (by decide) ?_
  refine z_aload_0 d_Fen_copyFrom_144 ?_
  refine z_getR d_Fen_copyFrom_145 f_Fen_31 (by assumption) (by assumption) ?_
  refine z_iconst (a := nI 0) d_Fen_copyFrom_148 (by decide) ?_
  refine z_bipush (a := nI 9) d_Fen_copyFrom_149 (by decide) ?_
  first | refine z_cpI d_Fen_copyFrom_151 k_Fen_81 (by assumption) (by assumption) (by omega) (by omega) (by decide) ⟨Nat.le_of_ble_eq_true rfl, Nat.le_of_ble_eq_true rfl⟩ (Nat.le_of_ble_eq_true rfl) ?_ | refine z_cpJ d_Fen_copyFrom_151 k_Fen_81 (by assumption) (by assumption) (by omega) (by omega) (by decide) ⟨Nat.le_of_ble_eq_true rfl, Nat.le_of_ble_eq_true rfl⟩ (Nat.le_of_ble_eq_true rfl) ?_
  refine z_aload_1 d_Fen_copyFrom_154 ?_
  refine z_getR d_Fen_copyFrom_155 f_Fen_34 (by assumption) (by assumption) ?_
  refine z_iconst (a := nI 0) d_Fen_copyFrom_158 (by decide) ?_
  refine z_aload_0 d_Fen_copyFrom_159 ?_
  refine z_getR d_Fen_copyFrom_160 f_Fen_34 (by assumption) (by assumption) ?_
  refine z_iconst (a := nI 0) d_Fen_copyFrom_163 (by decide) ?_
  refine z_bipush (a := nI 9) d_Fen_copyFrom_164 (by decide) ?_
  first | refine z_cpI d_Fen_copyFrom_166 k_Fen_81 (by assumption) (by assumption) (by omega) (by omega) (by decide) ⟨Nat.le_of_ble_eq_true rfl, Nat.le_of_ble_eq_true rfl⟩ (Nat.le_of_ble_eq_true rfl) ?_ | refine z_cpJ d_Fen_copyFrom_166 k_Fen_81 (by assumption) (by assumption) (by omega) (by omega) (by decide) ⟨Nat.le_of_ble_eq_true rfl, Nat.le_of_ble_eq_true rfl⟩ (Nat.le_of_ble_eq_true rfl) ?_
  refine z_aload_1 d_Fen_copyFrom_169 ?_
  refine z_getR d_Fen_copyFrom_170 f_Fen_37 (by assumption) (by assumption) ?_
  refine z_iconst (a := nI 0) d_Fen_copyFrom_173 (by decide) ?_
  refine z_aload_0 d_Fen_copyFrom_174 ?_
  refine z_getR d_Fen_copyFrom_175 f_Fen_37 (by assumption) (by assumption) ?_
  refine z_iconst (a := nI 0) d_Fen_copyFrom_178 (by decide) ?_
  refine z_bipush (a := nI 9) d_Fen_copyFrom_179 (by decide) ?_
  first | refine z_cpI d_Fen_copyFrom_181 k_Fen_81 (by assumption) (by assumption) (by omega) (by omega) (by decide) ⟨Nat.le_of_ble_eq_true rfl, Nat.le_of_ble_eq_true rfl⟩ (Nat.le_of_ble_eq_true rfl) ?_ | refine z_cpJ d_Fen_copyFrom_181 k_Fen_81 (by assumption) (by assumption) (by omega) (by omega) (by decide) ⟨Nat.le_of_ble_eq_true rfl, Nat.le_of_ble_eq_true rfl⟩ (Nat.le_of_ble_eq_true rfl) ?_
  refine z_aload_1 d_Fen_copyFrom_184 ?_
  refine z_getR d_Fen_copyFrom_185 f_Fen_40 (by assumption) (by assumption) ?_
  refine z_iconst (a := nI 0) d_Fen_copyFrom_188 (by decide) ?_
  refine z_aload_0 d_Fen_copyFrom_189 ?_
  refine z_getR d_Fen_copyFrom_190 f_Fen_40 (by assumption) (by assumption) ?_
  refine z_iconst (a := nI 0) d_Fen_copyFrom_193 (by decide) ?_
  refine z_bipush (a := nI 6) d_Fen_copyFrom_194 (by decide) ?_
  first | refine z_cpI d_Fen_copyFrom_196 k_Fen_81 (by assumption) (by assumption) (by omega) (by omega) (by decide) ⟨Nat.le_of_ble_eq_true rfl, Nat.le_of_ble_eq_true rfl⟩ (Nat.le_of_ble_eq_true rfl) ?_ | refine z_cpJ d_Fen_copyFrom_196 k_Fen_81 (by assumption) (by assumption) (by omega) (by omega) (by decide) ⟨Nat.le_of_ble_eq_true rfl, Nat.le_of_ble_eq_true rfl⟩ (Nat.le_of_ble_eq_true rfl) ?_
  refine z_aload_1 d_Fen_copyFrom_199 ?_
  refine z_getR d_Fen_copyFrom_200 f_Fen_44 (by assumption) (by assumption) ?_
  refine z_iconst (a := nI 0) d_Fen_copyFrom_203 (by decide) ?_
  refine z_aload_0 d_Fen_copyFrom_204 ?_
  refine z_getR d_Fen_copyFrom_205 f_Fen_44 (by assumption) (by assumption) ?_
  refine z_iconst (a := nI 0) d_Fen_copyFrom_208 (by decide) ?_
  refine z_bipush (a := nI 7) d_Fen_copyFrom_209 (by decide) ?_
  first | refine z_cpI d_Fen_copyFrom_211 k_Fen_81 (by assumption) (by assumption) (by omega) (by omega) (by decide) ⟨Nat.le_of_ble_eq_true rfl, Nat.le_of_ble_eq_true rfl⟩ (Nat.le_of_ble_eq_true rfl) ?_ | refine z_cpJ d_Fen_copyFrom_211 k_Fen_81 (by assumption) (by assumption) (by omega) (by omega) (by decide) ⟨Nat.le_of_ble_eq_true rfl, Nat.le_of_ble_eq_true rfl⟩ (Nat.le_of_ble_eq_true rfl) ?_
  refine z_aload_1 d_Fen_copyFrom_214 ?_
  refine z_getR d_Fen_copyFrom_215 f_Fen_47 (by assumption) (by assumption) ?_
  refine z_iconst (a := nI 0) d_Fen_copyFrom_218 (by decide) ?_
  refine z_aload_0 d_Fen_copyFrom_219 ?_
  refine z_getR d_Fen_copyFrom_220 f_Fen_47 (by assumption) (by assumption) ?_
  refine z_iconst (a := nI 0) d_Fen_copyFrom_223 (by decide) ?_
  refine z_bipush (a := nI 9) d_Fen_copyFrom_224 (by decide) ?_
  first | refine z_cpI d_Fen_copyFrom_226 k_Fen_81 (by assumption) (by assumption) (by omega) (by omega) (by decide) ⟨Nat.le_of_ble_eq_true rfl, Nat.le_of_ble_eq_true rfl⟩ (Nat.le_of_ble_eq_true rfl) ?_ | refine z_cpJ d_Fen_copyFrom_226 k_Fen_81 (by assumption) (by assumption) (by omega) (by omega) (by decide) ⟨Nat.le_of_ble_eq_true rfl, Nat.le_of_ble_eq_true rfl⟩ (Nat.le_of_ble_eq_true rfl) ?_
  refine z_aload_0 d_Fen_copyFrom_229 ?_
  refine z_getR d_Fen_copyFrom_230 f_Fen_53 (by assumption) (by assumption) ?_
  refine z_aload_1 d_Fen_copyFrom_233 ?_
  refine z_getR d_Fen_copyFrom_234 f_Fen_53 (by assumption) (by assumption) ?_
  refine z_Vv1 d_Fen_copyFrom_237 k_Fen_87 (by assumption) (t_Years_copyFrom (by assumption) (by assumption) (by omega) (by first | assumption | (simp (disch := omega) only [zu_ne, zcp_ne]; assumption)) (by first | assumption | (simp (disch := omega) only [zu_ne, zcp_ne]; assumption)) (by omega)) ⟨Nat.le_of_ble_eq_true rfl, Nat.le_of_ble_eq_true rfl, Nat.le_of_ble_eq_true rfl, Nat.le_of_ble_eq_true rfl⟩ (Nat.le_of_ble_eq_true rfl) ?_
  intro w hq
  obtain rfl := hq
  refine z_retv d_Fen_copyFrom_240 ?_
  exact rfl
end C4
