/-! constructors -/
section ZCT
variable {G : zG} {y : MethodName} {cc : ByteArray} {mL : Nat} {ret : Option FieldType} {R : Room} {Z : List Frame → Array Value → State → State → Prop} {pc : Nat} {lv : List (Option Value)} {st : List Value} {w : zW} {u v n n0 idx : Nat}
variable {I : Nat → Nat → Int32} {J : Nat → Nat → Int64} {P : Nat → Nat → Option Nat} {S : List (Nat × Nat)}
/-- the shapes of all cells, in the order in which they are made -/
def zS0 : List (Nat × Nat) := [(11, 20), (102, 900), (105, 4), (8, 4), (101, 60), (8, 4), (101, 60), (8, 4), (101, 60), (8, 4), (101, 60), (7, 12), (102, 0), (101, 21), (102, 100), (1, 2), (10, 3), (100, 3), (0, 20), (100, 6), (100, 7), (100, 7), (100, 7), (100, 9), (100, 9), (100, 9), (100, 9), (101, 6), (101, 7), (101, 9), (9, 7), (100, 60), (100, 60), (100, 60), (100, 60), (0, 20), (100, 6), (100, 7), (100, 7), (100, 7), (100, 9), (100, 9), (100, 9), (100, 9), (101, 6), (101, 7), (101, 9), (9, 7), (100, 60), (100, 60), (100, 60), (100, 60), (0, 20), (100, 6), (100, 7), (100, 7), (100, 7), (100, 9), (100, 9), (100, 9), (100, 9), (101, 6), (101, 7), (101, 9), (9, 7), (100, 60), (100, 60), (100, 60), (100, 60), (106, 3), (0, 20), (100, 6), (100, 7), (100, 7), (100, 7), (100, 9), (100, 9), (100, 9), (100, 9), (101, 6), (101, 7), (101, 9), (9, 7), (100, 60), (100, 60), (100, 60), (100, 60), (0, 20), (100, 6), (100, 7), (100, 7), (100, 7), (100, 9), (100, 9), (100, 9), (100, 9), (101, 6), (101, 7), (101, 9), (9, 7), (100, 60), (100, 60), (100, 60), (100, 60), (0, 20), (100, 6), (100, 7), (100, 7), (100, 7), (100, 9), (100, 9), (100, 9), (100, 9), (101, 6), (101, 7), (101, 9), (9, 7), (100, 60), (100, 60), (100, 60), (100, 60), (4, 10), (100, 60), (4, 10), (100, 60), (5, 1), (100, 7), (3, 1), (104, 10), (100, 128), (100, 128), (100, 128), (100, 128), (100, 128), (100, 128), (100, 128), (100, 128), (100, 128), (100, 128), (6, 4), (100, 7), (2, 6), (100, 9), (100, 9), (100, 9), (12, 47), (100, 4), (100, 4), (101, 240), (102, 900), (100, 1795), (100, 87), (101, 110), (100, 7), (100, 7), (100, 7), (100, 128), (103, 64), (101, 10), (100, 5)]
theorem zS0_len : zS0.length = 160 := by decide +kernel
theorem zS0_lt {sh : Nat × Nat} (h : zS0[n0]? = some sh) : n0 < 160 := (List.getElem?_eq_some_iff.mp h).1
theorem zS0_tl {sh : Nat × Nat} (h : zS0[n0]? = some sh) : (zS0.take n0).length = n0 := by
  have := zS0_lt h
  rw [List.length_take, zS0_len]
  omega
theorem zS0_ta {sh : Nat × Nat} (h : zS0[n0]? = some sh) : zS0.take n0 ++ [sh] = zS0.take (n0 + 1) := by
  have hl : n0 < zS0.length := zS0_lt h
  rw [List.take_add_one, h]
  rfl
theorem zS0_at {a : Nat} {sh : Nat × Nat} (h : zS0[a]? = some sh) (ha : a < n0) : (zS0.take n0)[a]? = some sh := by rw [List.getElem?_take_of_lt ha]; exact h
theorem z_nO {ci N : Nat} (hd : decode cc pc = .ok (.new idx, 3)) (hk : zNw y.cls idx ci N) (hR : u + 1 ≤ R.cells ∧ v + N ≤ R.slots) (h1 : zS0[n0]? = some (ci, N)) (kk : zA G y cc mL ret R Z (pc + 3) lv (.ref n0 :: st) (zz I n0 0, zz J n0 0, zz P n0 none, zS0.take (n0 + 1)) (u + 1) (v + N)) : zA G y cc mL ret R Z pc lv st (I, J, P, zS0.take n0) u v := by
  refine z_new hd hk hR (by rw [zS0_tl h1]; have := zS0_lt h1; omega) ?_
  rw [zS0_tl h1, zS0_ta h1]
  exact kk
theorem z_nA100 (hd : decode cc pc = .ok (.newarray .int, 2)) (hn : n ≤ 100000) (hR : u + 1 ≤ R.cells ∧ v + n ≤ R.slots) (h1 : zS0[n0]? = some (100, n)) (kk : zA G y cc mL ret R Z (pc + 2) lv (.ref n0 :: st) (zz I n0 0, zz J n0 0, zz P n0 none, zS0.take (n0 + 1)) (u + 1) (v + n)) : zA G y cc mL ret R Z pc lv (.int (nI n) :: st) (I, J, P, zS0.take n0) u v := by
  refine z_newa100 hd a_int hn hR (by rw [zS0_tl h1]; have := zS0_lt h1; omega) ?_
  rw [zS0_tl h1, zS0_ta h1]
  exact kk
theorem z_nA101 (hd : decode cc pc = .ok (.newarray .long, 2)) (hn : n ≤ 100000) (hR : u + 1 ≤ R.cells ∧ v + n ≤ R.slots) (h1 : zS0[n0]? = some (101, n)) (kk : zA G y cc mL ret R Z (pc + 2) lv (.ref n0 :: st) (zz I n0 0, zz J n0 0, zz P n0 none, zS0.take (n0 + 1)) (u + 1) (v + n)) : zA G y cc mL ret R Z pc lv (.int (nI n) :: st) (I, J, P, zS0.take n0) u v := by
  refine z_newa101 hd a_long hn hR (by rw [zS0_tl h1]; have := zS0_lt h1; omega) ?_
  rw [zS0_tl h1, zS0_ta h1]
  exact kk
theorem z_nA102 (hd : decode cc pc = .ok (.newarray .byte, 2)) (hn : n ≤ 100000) (hR : u + 1 ≤ R.cells ∧ v + n ≤ R.slots) (h1 : zS0[n0]? = some (102, n)) (kk : zA G y cc mL ret R Z (pc + 2) lv (.ref n0 :: st) (zz I n0 0, zz J n0 0, zz P n0 none, zS0.take (n0 + 1)) (u + 1) (v + n)) : zA G y cc mL ret R Z pc lv (.int (nI n) :: st) (I, J, P, zS0.take n0) u v := by
  refine z_newa102 hd a_byte hn hR (by rw [zS0_tl h1]; have := zS0_lt h1; omega) ?_
  rw [zS0_tl h1, zS0_ta h1]
  exact kk
theorem z_nA103 (hd : decode cc pc = .ok (.newarray .boolean, 2)) (hn : n ≤ 100000) (hR : u + 1 ≤ R.cells ∧ v + n ≤ R.slots) (h1 : zS0[n0]? = some (103, n)) (kk : zA G y cc mL ret R Z (pc + 2) lv (.ref n0 :: st) (zz I n0 0, zz J n0 0, zz P n0 none, zS0.take (n0 + 1)) (u + 1) (v + n)) : zA G y cc mL ret R Z pc lv (.int (nI n) :: st) (I, J, P, zS0.take n0) u v := by
  refine z_newa103 hd a_boolean hn hR (by rw [zS0_tl h1]; have := zS0_lt h1; omega) ?_
  rw [zS0_tl h1, zS0_ta h1]
  exact kk
theorem z_nR105 (hd : decode cc pc = .ok (.anewarray idx, 3)) (hw : Cond.classLink y.cls idx "TinFen$Tray" ∈ zT) (hn : n ≤ 100000) (hR : u + 1 ≤ R.cells ∧ v + n ≤ R.slots) (h1 : zS0[n0]? = some (105, n)) (kk : zA G y cc mL ret R Z (pc + 3) lv (.ref n0 :: st) (zz I n0 0, zz J n0 0, zz P n0 none, zS0.take (n0 + 1)) (u + 1) (v + n)) : zA G y cc mL ret R Z pc lv (.int (nI n) :: st) (I, J, P, zS0.take n0) u v := by
  refine z_anew105 hd hw hn hR (by rw [zS0_tl h1]; have := zS0_lt h1; omega) ?_
  rw [zS0_tl h1, zS0_ta h1]
  exact kk
theorem z_nR106 (hd : decode cc pc = .ok (.anewarray idx, 3)) (hw : Cond.classLink y.cls idx "TinFen$Fen" ∈ zT) (hn : n ≤ 100000) (hR : u + 1 ≤ R.cells ∧ v + n ≤ R.slots) (h1 : zS0[n0]? = some (106, n)) (kk : zA G y cc mL ret R Z (pc + 3) lv (.ref n0 :: st) (zz I n0 0, zz J n0 0, zz P n0 none, zS0.take (n0 + 1)) (u + 1) (v + n)) : zA G y cc mL ret R Z pc lv (.int (nI n) :: st) (I, J, P, zS0.take n0) u v := by
  refine z_anew106 hd hw hn hR (by rw [zS0_tl h1]; have := zS0_lt h1; omega) ?_
  rw [zS0_tl h1, zS0_ta h1]
  exact kk
end ZCT
section CT1
variable {G : zG} {I : Nat → Nat → Int32} {J : Nat → Nat → Int64} {P : Nat → Nat → Option Nat} {f g : Nat}
theorem t_Tray_new (h1 : zS0[g]? = some (8, 4)) (h2 : zS0[g + 1]? = some (101, 60)) : zEv G y_Tray_new prog_10_method_1_code 1 1 1 60 [.ref g] (I, J, P, zS0.take (g + 1)) (fun w => w = (zz I (g + 1) 0, zz J (g + 1) 0, zu (zz P (g + 1) none) g 3 (some (g + 1)), zS0.take (g + 2))) := by
  refine zEv_of (lv := [some (.ref g)]) (by decide) rfl (Nat.le_of_ble_eq_true rfl) ?_
  refine z_aload_0 d_Tray_new_0 ?_
  refine z_obj d_Tray_new_1 k_Tray_3 o_inst o_code ⟨Nat.le_of_ble_eq_true rfl, Nat.le_of_ble_eq_true rfl⟩ (Nat.le_of_ble_eq_true rfl) ?_
  refine z_aload_0 d_Tray_new_4 ?_
  refine z_bipush (a := nI 60) d_Tray_new_5 (by decide) ?_
  refine z_nA101 (n0 := g + 1) d_Tray_new_7 (by decide) ⟨Nat.le_of_ble_eq_true rfl, Nat.le_of_ble_eq_true rfl⟩ (by first | assumption | rfl) ?_
  refine z_putFR d_Tray_new_9 f_Tray_9 rfl ⟨_, _, rfl⟩ (by first | assumption | exact zS0_at (by assumption) (by omega) | exact zS0_at rfl (by omega)) (fun _ => ⟨rfl, rfl⟩) ?_
  refine z_retv d_Tray_new_12 ?_
  exact rfl
theorem t_Life_new (h1 : zS0[g]? = some (4, 10)) (h2 : zS0[g + 1]? = some (100, 60)) : zEv G y_Life_new prog_6_method_1_code 1 1 1 60 [.ref g] (I, J, P, zS0.take (g + 1)) (fun w => w = (zz I (g + 1) 0, zz J (g + 1) 0, zu (zz P (g + 1) none) g 9 (some (g + 1)), zS0.take (g + 2))) := by
  refine zEv_of (lv := [some (.ref g)]) (by decide) rfl (Nat.le_of_ble_eq_true rfl) ?_
  refine z_aload_0 d_Life_new_0 ?_
  refine z_obj d_Life_new_1 k_Life_3 o_inst o_code ⟨Nat.le_of_ble_eq_true rfl, Nat.le_of_ble_eq_true rfl⟩ (Nat.le_of_ble_eq_true rfl) ?_
  refine z_aload_0 d_Life_new_4 ?_
  refine z_bipush (a := nI 60) d_Life_new_5 (by decide) ?_
  refine z_nA100 (n0 := g + 1) d_Life_new_7 (by decide) ⟨Nat.le_of_ble_eq_true rfl, Nat.le_of_ble_eq_true rfl⟩ (by first | assumption | rfl) ?_
  refine z_putFR d_Life_new_9 f_Life_11 rfl ⟨_, _, rfl⟩ (by first | assumption | exact zS0_at (by assumption) (by omega) | exact zS0_at rfl (by omega)) (fun _ => ⟨rfl, rfl⟩) ?_
  refine z_retv d_Life_new_12 ?_
  exact rfl
theorem t_Rows_new (h1 : zS0[g]? = some (5, 1)) (h2 : zS0[g + 1]? = some (100, 7)) : zEv G y_Rows_new prog_7_method_1_code 1 1 1 7 [.ref g] (I, J, P, zS0.take (g + 1)) (fun w => w = (zz I (g + 1) 0, zz J (g + 1) 0, zu (zz P (g + 1) none) g 0 (some (g + 1)), zS0.take (g + 2))) := by
  refine zEv_of (lv := [some (.ref g)]) (by decide) rfl (Nat.le_of_ble_eq_true rfl) ?_
  refine z_aload_0 d_Rows_new_0 ?_
  refine z_obj d_Rows_new_1 k_Rows_3 o_inst o_code ⟨Nat.le_of_ble_eq_true rfl, Nat.le_of_ble_eq_true rfl⟩ (Nat.le_of_ble_eq_true rfl) ?_
  refine z_aload_0 d_Rows_new_4 ?_
  refine z_bipush (a := nI 7) d_Rows_new_5 (by decide) ?_
  refine z_nA100 (n0 := g + 1) d_Rows_new_7 (by decide) ⟨Nat.le_of_ble_eq_true rfl, Nat.le_of_ble_eq_true rfl⟩ (by first | assumption | rfl) ?_
  refine z_putFR d_Rows_new_9 f_Rows_9 rfl ⟨_, _, rfl⟩ (by first | assumption | exact zS0_at (by assumption) (by omega) | exact zS0_at rfl (by omega)) (fun _ => ⟨rfl, rfl⟩) ?_
  refine z_retv d_Rows_new_12 ?_
  exact rfl
theorem t_Seen_new (h1 : zS0[g]? = some (6, 4)) (h2 : zS0[g + 1]? = some (100, 7)) : zEv G y_Seen_new prog_8_method_1_code 1 1 1 7 [.ref g] (I, J, P, zS0.take (g + 1)) (fun w => w = (zz I (g + 1) 0, zz J (g + 1) 0, zu (zz P (g + 1) none) g 3 (some (g + 1)), zS0.take (g + 2))) := by
  refine zEv_of (lv := [some (.ref g)]) (by decide) rfl (Nat.le_of_ble_eq_true rfl) ?_
  refine z_aload_0 d_Seen_new_0 ?_
  refine z_obj d_Seen_new_1 k_Seen_3 o_inst o_code ⟨Nat.le_of_ble_eq_true rfl, Nat.le_of_ble_eq_true rfl⟩ (Nat.le_of_ble_eq_true rfl) ?_
  refine z_aload_0 d_Seen_new_4 ?_
  refine z_bipush (a := nI 7) d_Seen_new_5 (by decide) ?_
  refine z_nA100 (n0 := g + 1) d_Seen_new_7 (by decide) ⟨Nat.le_of_ble_eq_true rfl, Nat.le_of_ble_eq_true rfl⟩ (by first | assumption | rfl) ?_
  refine z_putFR d_Seen_new_9 f_Seen_9 rfl ⟨_, _, rfl⟩ (by first | assumption | exact zS0_at (by assumption) (by omega) | exact zS0_at rfl (by omega)) (fun _ => ⟨rfl, rfl⟩) ?_
  refine z_retv d_Seen_new_12 ?_
  exact rfl
theorem t_FenR_new {t : Nat} (h1 : zS0[g]? = some (1, 2)) (hg : g < f) : zEv G y_FenR_new prog_3_method_1_code 2 1 0 0 [.ref g, .ref t] (I, J, P, zS0.take f) (fun w => w = (I, J, zu P g 0 (some t), zS0.take f)) := by
  refine zEv_of (lv := [some (.ref g), some (.ref t)]) (by decide) rfl (Nat.le_of_ble_eq_true rfl) ?_
  refine z_aload_0 d_FenR_new_0 ?_
  refine z_obj d_FenR_new_1 k_FenR_3 o_inst o_code ⟨Nat.le_of_ble_eq_true rfl, Nat.le_of_ble_eq_true rfl⟩ (Nat.le_of_ble_eq_true rfl) ?_
  refine z_aload_0 d_FenR_new_4 ?_
  refine z_aload_1 d_FenR_new_5 ?_
  refine z_putFR d_FenR_new_6 f_FenR_9 rfl ⟨_, _, rfl⟩ (by first | assumption | exact zS0_at (by assumption) (by omega) | exact zS0_at rfl (by omega)) (fun _ => ⟨rfl, rfl⟩) ?_
  refine z_retv d_FenR_new_9 ?_
  exact rfl
theorem t_YearsR_new {t : Nat} (h1 : zS0[g]? = some (10, 3)) (h2 : zS0[g + 1]? = some (100, 3)) : zEv G y_YearsR_new prog_12_method_1_code 2 1 1 3 [.ref g, .ref t] (I, J, P, zS0.take (g + 1)) (fun w => w = (zz I (g + 1) 0, zz J (g + 1) 0, zu (zu (zz P (g + 1) none) g 1 (some (g + 1))) g 0 (some t), zS0.take (g + 2))) := by
  refine zEv_of (lv := [some (.ref g), some (.ref t)]) (by decide) rfl (Nat.le_of_ble_eq_true rfl) ?_
  refine z_aload_0 d_YearsR_new_0 ?_
  refine z_obj d_YearsR_new_1 k_YearsR_3 o_inst o_code ⟨Nat.le_of_ble_eq_true rfl, Nat.le_of_ble_eq_true rfl⟩ (Nat.le_of_ble_eq_true rfl) ?_
  refine z_aload_0 d_YearsR_new_4 ?_
  refine z_iconst (a := nI 3) d_YearsR_new_5 (by decide) ?_
  refine z_nA100 (n0 := g + 1) d_YearsR_new_6 (by decide) ⟨Nat.le_of_ble_eq_true rfl, Nat.le_of_ble_eq_true rfl⟩ (by first | assumption | rfl) ?_
  refine z_putFR d_YearsR_new_8 f_YearsR_11 rfl ⟨_, _, rfl⟩ (by first | assumption | exact zS0_at (by assumption) (by omega) | exact zS0_at rfl (by omega)) (fun _ => ⟨rfl, rfl⟩) ?_
  refine z_aload_0 d_YearsR_new_11 ?_
  refine z_aload_1 d_YearsR_new_12 ?_
  refine z_putFR d_YearsR_new_13 f_YearsR_15 rfl ⟨_, _, rfl⟩ (by first | assumption | exact zS0_at (by assumption) (by omega) | exact zS0_at rfl (by omega)) (fun _ => ⟨rfl, rfl⟩) ?_
  refine z_retv d_YearsR_new_16 ?_
  exact rfl
/-- tables with rows of noughts from one address on -/
def zzn {α : Type} (f : Nat → Nat → α) (n0 n : Nat) (x : α) : Nat → Nat → α := fun a k => if n0 ≤ a ∧ a < n0 + n then x else f a k
theorem t_Years_new (h0 : zS0[g]? = some (9, 7)) (h1 : zS0[g + 1]? = some (100, 60)) (h2 : zS0[g + 2]? = some (100, 60)) (h3 : zS0[g + 3]? = some (100, 60)) (h4 : zS0[g + 4]? = some (100, 60)) : zEv G y_Years_new prog_11_method_1_code 1 1 4 240 [.ref g] (I, J, P, zS0.take (g + 1)) (fun w => w = (zz (zz (zz (zz I (g + 1) 0) (g + 2) 0) (g + 3) 0) (g + 4) 0, zz (zz (zz (zz J (g + 1) 0) (g + 2) 0) (g + 3) 0) (g + 4) 0, zu (zz (zu (zz (zu (zz (zu (zz P (g + 1) none) g 3 (some (g + 1))) (g + 2) none) g 4 (some (g + 2))) (g + 3) none) g 5 (some (g + 3))) (g + 4) none) g 6 (some (g + 4)), zS0.take (g + 5))) := by
  refine zEv_of (lv := [some (.ref g)]) (by decide) rfl (Nat.le_of_ble_eq_true rfl) ?_
  refine z_aload_0 d_Years_new_0 ?_
  refine z_obj d_Years_new_1 k_Years_3 o_inst o_code ⟨Nat.le_of_ble_eq_true rfl, Nat.le_of_ble_eq_true rfl⟩ (Nat.le_of_ble_eq_true rfl) ?_
  refine z_aload_0 d_Years_new_4 ?_
  refine z_bipush (a := nI 60) d_Years_new_5 (by decide) ?_
  refine z_nA100 (n0 := g + 1) d_Years_new_7 (by decide) ⟨Nat.le_of_ble_eq_true rfl, Nat.le_of_ble_eq_true rfl⟩ (by first | assumption | rfl) ?_
  refine z_putFR d_Years_new_9 f_Years_9 rfl ⟨_, _, rfl⟩ (by first | assumption | exact zS0_at (by assumption) (by omega) | exact zS0_at rfl (by omega)) (fun _ => ⟨rfl, rfl⟩) ?_
  refine z_aload_0 d_Years_new_12 ?_
  refine z_bipush (a := nI 60) d_Years_new_13 (by decide) ?_
  refine z_nA100 (n0 := g + 2) d_Years_new_15 (by decide) ⟨Nat.le_of_ble_eq_true rfl, Nat.le_of_ble_eq_true rfl⟩ (by first | assumption | rfl) ?_
  refine z_putFR d_Years_new_17 f_Years_13 rfl ⟨_, _, rfl⟩ (by first | assumption | exact zS0_at (by assumption) (by omega) | exact zS0_at rfl (by omega)) (fun _ => ⟨rfl, rfl⟩) ?_
  refine z_aload_0 d_Years_new_20 ?_
  refine z_bipush (a := nI 60) d_Years_new_21 (by decide) ?_
  refine z_nA100 (n0 := g + 3) d_Years_new_23 (by decide) ⟨Nat.le_of_ble_eq_true rfl, Nat.le_of_ble_eq_true rfl⟩ (by first | assumption | rfl) ?_
  refine z_putFR d_Years_new_25 f_Years_16 rfl ⟨_, _, rfl⟩ (by first | assumption | exact zS0_at (by assumption) (by omega) | exact zS0_at rfl (by omega)) (fun _ => ⟨rfl, rfl⟩) ?_
  refine z_aload_0 d_Years_new_28 ?_
  refine z_bipush (a := nI 60) d_Years_new_29 (by decide) ?_
  refine z_nA100 (n0 := g + 4) d_Years_new_31 (by decide) ⟨Nat.le_of_ble_eq_true rfl, Nat.le_of_ble_eq_true rfl⟩ (by first | assumption | rfl) ?_
  refine z_putFR d_Years_new_33 f_Years_19 rfl ⟨_, _, rfl⟩ (by first | assumption | exact zS0_at (by assumption) (by omega) | exact zS0_at rfl (by omega)) (fun _ => ⟨rfl, rfl⟩) ?_
  refine z_retv d_Years_new_36 ?_
  exact rfl
theorem t_Game_new (h0 : zS0[g]? = some (2, 6)) (h1 : zS0[g + 1]? = some (100, 9)) (h2 : zS0[g + 2]? = some (100, 9)) (h3 : zS0[g + 3]? = some (100, 9)) : zEv G y_Game_new prog_4_method_1_code 1 1 3 27 [.ref g] (I, J, P, zS0.take (g + 1)) (fun w => w = (zz (zz (zz I (g + 1) 0) (g + 2) 0) (g + 3) 0, zz (zz (zz J (g + 1) 0) (g + 2) 0) (g + 3) 0, zu (zz (zu (zz (zu (zz P (g + 1) none) g 2 (some (g + 1))) (g + 2) none) g 3 (some (g + 2))) (g + 3) none) g 4 (some (g + 3)), zS0.take (g + 4))) := by
  refine zEv_of (lv := [some (.ref g)]) (by decide) rfl (Nat.le_of_ble_eq_true rfl) ?_
  refine z_aload_0 d_Game_new_0 ?_
  refine z_obj d_Game_new_1 k_Game_3 o_inst o_code ⟨Nat.le_of_ble_eq_true rfl, Nat.le_of_ble_eq_true rfl⟩ (Nat.le_of_ble_eq_true rfl) ?_
  refine z_aload_0 d_Game_new_4 ?_
  refine z_bipush (a := nI 9) d_Game_new_5 (by decide) ?_
  refine z_nA100 (n0 := g + 1) d_Game_new_7 (by decide) ⟨Nat.le_of_ble_eq_true rfl, Nat.le_of_ble_eq_true rfl⟩ (by first | assumption | rfl) ?_
  refine z_putFR d_Game_new_9 f_Game_9 rfl ⟨_, _, rfl⟩ (by first | assumption | exact zS0_at (by assumption) (by omega) | exact zS0_at rfl (by omega)) (fun _ => ⟨rfl, rfl⟩) ?_
  refine z_aload_0 d_Game_new_12 ?_
  refine z_bipush (a := nI 9) d_Game_new_13 (by decide) ?_
  refine z_nA100 (n0 := g + 2) d_Game_new_15 (by decide) ⟨Nat.le_of_ble_eq_true rfl, Nat.le_of_ble_eq_true rfl⟩ (by first | assumption | rfl) ?_
  refine z_putFR d_Game_new_17 f_Game_15 rfl ⟨_, _, rfl⟩ (by first | assumption | exact zS0_at (by assumption) (by omega) | exact zS0_at rfl (by omega)) (fun _ => ⟨rfl, rfl⟩) ?_
  refine z_aload_0 d_Game_new_20 ?_
  refine z_bipush (a := nI 9) d_Game_new_21 (by decide) ?_
  refine z_nA100 (n0 := g + 3) d_Game_new_23 (by decide) ⟨Nat.le_of_ble_eq_true rfl, Nat.le_of_ble_eq_true rfl⟩ (by first | assumption | rfl) ?_
  refine z_putFR d_Game_new_25 f_Game_18 rfl ⟨_, _, rfl⟩ (by first | assumption | exact zS0_at (by assumption) (by omega) | exact zS0_at rfl (by omega)) (fun _ => ⟨rfl, rfl⟩) ?_
  refine z_retv d_Game_new_28 ?_
  exact rfl
end CT1
