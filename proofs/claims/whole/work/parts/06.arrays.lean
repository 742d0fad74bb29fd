/-! array rows, returns, a method's entry, in the walk's own form (printed by wip/tools/p06.py) -/
section ZR
variable {G : zG} {y : MethodName} {cc : ByteArray} {mL : Nat} {ret : Option FieldType} {R : Room} {Z : List Frame → Array Value → State → State → Prop} {pc : Nat} {lv : List (Option Value)} {st : List Value} {w : zW} {u v : Nat}
variable {I : Nat → Nat → Int32} {J : Nat → Nat → Int64} {P : Nat → Nat → Option Nat} {S : List (Nat × Nat)}
theorem z_iald {q n : Nat} {a : Int32} (hd : decode cc pc = .ok (.iaload, 1)) (hs : S[q]? = some (100, n)) (hi : vp_in a n) (k : zA G y cc mL ret R Z (pc + 1) lv (.int (I q a.toNatClampNeg) :: st) (I, J, P, S) u v) : zA G y cc mL ret R Z pc lv (.int a :: .ref q :: st) (I, J, P, S) u v := by
  intro p l e s m args below meth c H locs ls C hP hz hS hl
  have he := zs_at (G := G) (w := (I, J, P, S)) hs
  rw [zc_i (Or.inl rfl)] at he
  show W p l e R s m args below meth c H locs u v (Z below args s) (F0 m pc ls (.int a :: .ref (zr G q) :: st.map (zv G)))
  rw [zr_lt (zl_lt (w := (I, J, P, S)) hs hz.2)]
  exact va_iald C.1 C.2.1 C.2.2.2.2.2.2.2.2.1 hP q 0 he rfl hi hd (k p l e s m args below meth c H locs ls C hP hz hS hl)
theorem z_ialdN {q n j : Nat} (hd : decode cc pc = .ok (.iaload, 1)) (hs : S[q]? = some (100, n)) (hj : j < n) (hn : n < 2 ^ 31) (k : zA G y cc mL ret R Z (pc + 1) lv (.int (I q j) :: st) (I, J, P, S) u v) : zA G y cc mL ret R Z pc lv (.int (nI j) :: .ref q :: st) (I, J, P, S) u v := by
  refine z_iald hd hs (vp_in_nI hj hn) ?_
  rw [nI_clamp (by omega)]
  exact k
theorem z_lald {q n : Nat} {a : Int32} (hd : decode cc pc = .ok (.laload, 1)) (hs : S[q]? = some (101, n)) (hi : vp_in a n) (k : zA G y cc mL ret R Z (pc + 1) lv (.long (J q a.toNatClampNeg) :: st) (I, J, P, S) u v) : zA G y cc mL ret R Z pc lv (.int a :: .ref q :: st) (I, J, P, S) u v := by
  intro p l e s m args below meth c H locs ls C hP hz hS hl
  have he := zs_at (G := G) (w := (I, J, P, S)) hs
  rw [zc_l] at he
  show W p l e R s m args below meth c H locs u v (Z below args s) (F0 m pc ls (.int a :: .ref (zr G q) :: st.map (zv G)))
  rw [zr_lt (zl_lt (w := (I, J, P, S)) hs hz.2)]
  exact va_lald C.1 C.2.1 C.2.2.2.2.2.2.2.2.1 hP q 1 he rfl hi hd (k p l e s m args below meth c H locs ls C hP hz hS hl)
theorem z_laldN {q n j : Nat} (hd : decode cc pc = .ok (.laload, 1)) (hs : S[q]? = some (101, n)) (hj : j < n) (hn : n < 2 ^ 31) (k : zA G y cc mL ret R Z (pc + 1) lv (.long (J q j) :: st) (I, J, P, S) u v) : zA G y cc mL ret R Z pc lv (.int (nI j) :: .ref q :: st) (I, J, P, S) u v := by
  refine z_lald hd hs (vp_in_nI hj hn) ?_
  rw [nI_clamp (by omega)]
  exact k
theorem z_bald {q n : Nat} {a : Int32} (hd : decode cc pc = .ok (.baload, 1)) (hs : S[q]? = some (102, n)) (hi : vp_in a n) (k : zA G y cc mL ret R Z (pc + 1) lv (.int (I q a.toNatClampNeg) :: st) (I, J, P, S) u v) : zA G y cc mL ret R Z pc lv (.int a :: .ref q :: st) (I, J, P, S) u v := by
  intro p l e s m args below meth c H locs ls C hP hz hS hl
  have he := zs_at (G := G) (w := (I, J, P, S)) hs
  rw [zc_i (Or.inr (Or.inl rfl))] at he
  show W p l e R s m args below meth c H locs u v (Z below args s) (F0 m pc ls (.int a :: .ref (zr G q) :: st.map (zv G)))
  rw [zr_lt (zl_lt (w := (I, J, P, S)) hs hz.2)]
  exact va_bald C.1 C.2.1 C.2.2.2.2.2.2.2.2.1 hP q 2 he rfl hi hd (k p l e s m args below meth c H locs ls C hP hz hS hl)
theorem z_baldN {q n j : Nat} (hd : decode cc pc = .ok (.baload, 1)) (hs : S[q]? = some (102, n)) (hj : j < n) (hn : n < 2 ^ 31) (k : zA G y cc mL ret R Z (pc + 1) lv (.int (I q j) :: st) (I, J, P, S) u v) : zA G y cc mL ret R Z pc lv (.int (nI j) :: .ref q :: st) (I, J, P, S) u v := by
  refine z_bald hd hs (vp_in_nI hj hn) ?_
  rw [nI_clamp (by omega)]
  exact k
theorem z_zald {q n : Nat} {a : Int32} (hd : decode cc pc = .ok (.baload, 1)) (hs : S[q]? = some (103, n)) (hi : vp_in a n) (k : zA G y cc mL ret R Z (pc + 1) lv (.int (I q a.toNatClampNeg) :: st) (I, J, P, S) u v) : zA G y cc mL ret R Z pc lv (.int a :: .ref q :: st) (I, J, P, S) u v := by
  intro p l e s m args below meth c H locs ls C hP hz hS hl
  have he := zs_at (G := G) (w := (I, J, P, S)) hs
  rw [zc_i (Or.inr (Or.inr rfl))] at he
  show W p l e R s m args below meth c H locs u v (Z below args s) (F0 m pc ls (.int a :: .ref (zr G q) :: st.map (zv G)))
  rw [zr_lt (zl_lt (w := (I, J, P, S)) hs hz.2)]
  exact va_zald C.1 C.2.1 C.2.2.2.2.2.2.2.2.1 hP q 3 he rfl hi hd (k p l e s m args below meth c H locs ls C hP hz hS hl)
theorem z_zaldN {q n j : Nat} (hd : decode cc pc = .ok (.baload, 1)) (hs : S[q]? = some (103, n)) (hj : j < n) (hn : n < 2 ^ 31) (k : zA G y cc mL ret R Z (pc + 1) lv (.int (I q j) :: st) (I, J, P, S) u v) : zA G y cc mL ret R Z pc lv (.int (nI j) :: .ref q :: st) (I, J, P, S) u v := by
  refine z_zald hd hs (vp_in_nI hj hn) ?_
  rw [nI_clamp (by omega)]
  exact k
theorem z_iast {q n : Nat} {a : Int32} {x : Int32} (hd : decode cc pc = .ok (.iastore, 1)) (hs : S[q]? = some (100, n)) (hi : vp_in a n) (k : zA G y cc mL ret R Z (pc + 1) lv st (zu I q a.toNatClampNeg x, J, P, S) u v) : zA G y cc mL ret R Z pc lv (.int x :: .int a :: .ref q :: st) (I, J, P, S) u v := by
  intro p l e s m args below meth c H locs ls C hP hz hS hl
  have he := zs_at (G := G) (w := (I, J, P, S)) hs
  rw [zc_i (Or.inl rfl)] at he
  show W p l e R s m args below meth c H locs u v (Z below args s) (F0 m pc ls (.int x :: .int a :: .ref (zr G q) :: st.map (zv G)))
  rw [zr_lt (zl_lt (w := (I, J, P, S)) hs hz.2)]
  refine va_iast C.1 C.2.1 C.2.2.2.2.2.2.2.2.1 hP (zs_D G _) hS q 0 he rfl hi hd (fun H1 locs1 hP1 _ hS1 => ?_)
  have e1 : (zs G (I, J, P, S)).set q (G.2.2.1 + q, .inl (G.2.1 100, n, .inl (upd (I q) a.toNatClampNeg x))) = zs G (zu I q a.toNatClampNeg x, J, P, S) := by
    rw [← zu_at, ← zc_i (G := G) (w := (zu I q a.toNatClampNeg x, J, P, S)) (a := q) (t := 100) (n := n) (Or.inl rfl)]
    exact zs_set rfl hs (fun b hb t => zc_congr (zu_row I q _ _ hb) rfl rfl)
  have hP1 : va_P G.1 zCl (zs G (zu I q a.toNatClampNeg x, J, P, S)) H1 := by rw [← e1]; exact hP1
  exact k p l e s m args below meth c H1 locs1 ls C hP1 hz hS1 hl
theorem z_iastN {q n j : Nat} {x : Int32} (hd : decode cc pc = .ok (.iastore, 1)) (hs : S[q]? = some (100, n)) (hj : j < n) (hn : n < 2 ^ 31) (k : zA G y cc mL ret R Z (pc + 1) lv st (zu I q j x, J, P, S) u v) : zA G y cc mL ret R Z pc lv (.int x :: .int (nI j) :: .ref q :: st) (I, J, P, S) u v := by
  refine z_iast hd hs (vp_in_nI hj hn) ?_
  rw [nI_clamp (by omega)]
  exact k
theorem z_last {q n : Nat} {a : Int32} {x : Int64} (hd : decode cc pc = .ok (.lastore, 1)) (hs : S[q]? = some (101, n)) (hi : vp_in a n) (k : zA G y cc mL ret R Z (pc + 1) lv st (I, zu J q a.toNatClampNeg x, P, S) u v) : zA G y cc mL ret R Z pc lv (.long x :: .int a :: .ref q :: st) (I, J, P, S) u v := by
  intro p l e s m args below meth c H locs ls C hP hz hS hl
  have he := zs_at (G := G) (w := (I, J, P, S)) hs
  rw [zc_l] at he
  show W p l e R s m args below meth c H locs u v (Z below args s) (F0 m pc ls (.long x :: .int a :: .ref (zr G q) :: st.map (zv G)))
  rw [zr_lt (zl_lt (w := (I, J, P, S)) hs hz.2)]
  refine va_last C.1 C.2.1 C.2.2.2.2.2.2.2.2.1 hP (zs_D G _) hS q 1 he rfl hi hd (fun H1 locs1 hP1 _ hS1 => ?_)
  have e1 : (zs G (I, J, P, S)).set q (G.2.2.1 + q, .inl (G.2.1 101, n, .inr (.inl (vp_updL (J q) a.toNatClampNeg x)))) = zs G (I, zu J q a.toNatClampNeg x, P, S) := by
    rw [← zu_atL, ← zc_l (G := G) (w := (I, zu J q a.toNatClampNeg x, P, S))]
    exact zs_set rfl hs (fun b hb t => zc_congr rfl (zu_row J q _ _ hb) rfl)
  have hP1 : va_P G.1 zCl (zs G (I, zu J q a.toNatClampNeg x, P, S)) H1 := by rw [← e1]; exact hP1
  exact k p l e s m args below meth c H1 locs1 ls C hP1 hz hS1 hl
theorem z_lastN {q n j : Nat} {x : Int64} (hd : decode cc pc = .ok (.lastore, 1)) (hs : S[q]? = some (101, n)) (hj : j < n) (hn : n < 2 ^ 31) (k : zA G y cc mL ret R Z (pc + 1) lv st (I, zu J q j x, P, S) u v) : zA G y cc mL ret R Z pc lv (.long x :: .int (nI j) :: .ref q :: st) (I, J, P, S) u v := by
  refine z_last hd hs (vp_in_nI hj hn) ?_
  rw [nI_clamp (by omega)]
  exact k
theorem z_bast {q n : Nat} {a : Int32} {x : Int32} (hd : decode cc pc = .ok (.bastore, 1)) (hs : S[q]? = some (102, n)) (hi : vp_in a n) (k : zA G y cc mL ret R Z (pc + 1) lv st (zu I q a.toNatClampNeg (vp_nar .byte x), J, P, S) u v) : zA G y cc mL ret R Z pc lv (.int x :: .int a :: .ref q :: st) (I, J, P, S) u v := by
  intro p l e s m args below meth c H locs ls C hP hz hS hl
  have he := zs_at (G := G) (w := (I, J, P, S)) hs
  rw [zc_i (Or.inr (Or.inl rfl))] at he
  show W p l e R s m args below meth c H locs u v (Z below args s) (F0 m pc ls (.int x :: .int a :: .ref (zr G q) :: st.map (zv G)))
  rw [zr_lt (zl_lt (w := (I, J, P, S)) hs hz.2)]
  refine va_bast C.1 C.2.1 C.2.2.2.2.2.2.2.2.1 hP (zs_D G _) hS q 2 he rfl hi hd (fun H1 locs1 hP1 _ hS1 => ?_)
  have e1 : (zs G (I, J, P, S)).set q (G.2.2.1 + q, .inl (G.2.1 102, n, .inl (upd (I q) a.toNatClampNeg (vp_nar .byte x)))) = zs G (zu I q a.toNatClampNeg (vp_nar .byte x), J, P, S) := by
    rw [← zu_at, ← zc_i (G := G) (w := (zu I q a.toNatClampNeg (vp_nar .byte x), J, P, S)) (a := q) (t := 102) (n := n) (Or.inr (Or.inl rfl))]
    exact zs_set rfl hs (fun b hb t => zc_congr (zu_row I q _ _ hb) rfl rfl)
  have hP1 : va_P G.1 zCl (zs G (zu I q a.toNatClampNeg (vp_nar .byte x), J, P, S)) H1 := by rw [← e1]; exact hP1
  exact k p l e s m args below meth c H1 locs1 ls C hP1 hz hS1 hl
theorem z_bastN {q n j : Nat} {x : Int32} (hd : decode cc pc = .ok (.bastore, 1)) (hs : S[q]? = some (102, n)) (hj : j < n) (hn : n < 2 ^ 31) (k : zA G y cc mL ret R Z (pc + 1) lv st (zu I q j (vp_nar .byte x), J, P, S) u v) : zA G y cc mL ret R Z pc lv (.int x :: .int (nI j) :: .ref q :: st) (I, J, P, S) u v := by
  refine z_bast hd hs (vp_in_nI hj hn) ?_
  rw [nI_clamp (by omega)]
  exact k
theorem z_zast {q n : Nat} {a : Int32} {x : Int32} (hd : decode cc pc = .ok (.bastore, 1)) (hs : S[q]? = some (103, n)) (hi : vp_in a n) (k : zA G y cc mL ret R Z (pc + 1) lv st (zu I q a.toNatClampNeg (vp_nar .boolean x), J, P, S) u v) : zA G y cc mL ret R Z pc lv (.int x :: .int a :: .ref q :: st) (I, J, P, S) u v := by
  intro p l e s m args below meth c H locs ls C hP hz hS hl
  have he := zs_at (G := G) (w := (I, J, P, S)) hs
  rw [zc_i (Or.inr (Or.inr rfl))] at he
  show W p l e R s m args below meth c H locs u v (Z below args s) (F0 m pc ls (.int x :: .int a :: .ref (zr G q) :: st.map (zv G)))
  rw [zr_lt (zl_lt (w := (I, J, P, S)) hs hz.2)]
  refine va_zast C.1 C.2.1 C.2.2.2.2.2.2.2.2.1 hP (zs_D G _) hS q 3 he rfl hi hd (fun H1 locs1 hP1 _ hS1 => ?_)
  have e1 : (zs G (I, J, P, S)).set q (G.2.2.1 + q, .inl (G.2.1 103, n, .inl (upd (I q) a.toNatClampNeg (vp_nar .boolean x)))) = zs G (zu I q a.toNatClampNeg (vp_nar .boolean x), J, P, S) := by
    rw [← zu_at, ← zc_i (G := G) (w := (zu I q a.toNatClampNeg (vp_nar .boolean x), J, P, S)) (a := q) (t := 103) (n := n) (Or.inr (Or.inr rfl))]
    exact zs_set rfl hs (fun b hb t => zc_congr (zu_row I q _ _ hb) rfl rfl)
  have hP1 : va_P G.1 zCl (zs G (zu I q a.toNatClampNeg (vp_nar .boolean x), J, P, S)) H1 := by rw [← e1]; exact hP1
  exact k p l e s m args below meth c H1 locs1 ls C hP1 hz hS1 hl
theorem z_zastN {q n j : Nat} {x : Int32} (hd : decode cc pc = .ok (.bastore, 1)) (hs : S[q]? = some (103, n)) (hj : j < n) (hn : n < 2 ^ 31) (k : zA G y cc mL ret R Z (pc + 1) lv st (zu I q j (vp_nar .boolean x), J, P, S) u v) : zA G y cc mL ret R Z pc lv (.int x :: .int (nI j) :: .ref q :: st) (I, J, P, S) u v := by
  refine z_zast hd hs (vp_in_nI hj hn) ?_
  rw [nI_clamp (by omega)]
  exact k
theorem z_ald5 {q n x : Nat} {a : Int32} (hd : decode cc pc = .ok (.aaload, 1)) (hs : S[q]? = some (105, n)) (hi : vp_in a n) (hx : P q a.toNatClampNeg = some x) (k : zA G y cc mL ret R Z (pc + 1) lv (.ref x :: st) (I, J, P, S) u v) : zA G y cc mL ret R Z pc lv (.int a :: .ref q :: st) (I, J, P, S) u v := by
  intro p l e s m args below meth c H locs ls C hP hz hS hl
  have he := zs_at (G := G) (w := (I, J, P, S)) hs
  rw [zc_r (by decide)] at he
  show W p l e R s m args below meth c H locs u v (Z below args s) (F0 m pc ls (.int a :: .ref (zr G q) :: st.map (zv G)))
  rw [zr_lt (zl_lt (w := (I, J, P, S)) hs hz.2)]
  refine va_aldq (C := "TinFen$Tray") C.1 C.2.1 C.2.2.2.2.2.2.2.2.1 hP q 5 he rfl hi hd ?_
  have e1 : va_rf (((I, J, P, S) : zW).2.2.1 q a.toNatClampNeg |>.map (zr G)) = zv G (.ref x) := by show va_rf ((P q a.toNatClampNeg).map (zr G)) = _; rw [hx]; rfl
  rw [e1]
  exact k p l e s m args below meth c H locs ls C hP hz hS hl
theorem z_ald6 {q n x : Nat} {a : Int32} (hd : decode cc pc = .ok (.aaload, 1)) (hs : S[q]? = some (106, n)) (hi : vp_in a n) (hx : P q a.toNatClampNeg = some x) (k : zA G y cc mL ret R Z (pc + 1) lv (.ref x :: st) (I, J, P, S) u v) : zA G y cc mL ret R Z pc lv (.int a :: .ref q :: st) (I, J, P, S) u v := by
  intro p l e s m args below meth c H locs ls C hP hz hS hl
  have he := zs_at (G := G) (w := (I, J, P, S)) hs
  rw [zc_r (by decide)] at he
  show W p l e R s m args below meth c H locs u v (Z below args s) (F0 m pc ls (.int a :: .ref (zr G q) :: st.map (zv G)))
  rw [zr_lt (zl_lt (w := (I, J, P, S)) hs hz.2)]
  refine va_aldq (C := "TinFen$Fen") C.1 C.2.1 C.2.2.2.2.2.2.2.2.1 hP q 6 he rfl hi hd ?_
  have e1 : va_rf (((I, J, P, S) : zW).2.2.1 q a.toNatClampNeg |>.map (zr G)) = zv G (.ref x) := by show va_rf ((P q a.toNatClampNeg).map (zr G)) = _; rw [hx]; rfl
  rw [e1]
  exact k p l e s m args below meth c H locs ls C hP hz hS hl
theorem z_ald4 {q n x : Nat} {a : Int32} (hd : decode cc pc = .ok (.aaload, 1)) (hs : S[q]? = some (104, n)) (hi : vp_in a n) (hx : P q a.toNatClampNeg = some x) (k : zA G y cc mL ret R Z (pc + 1) lv (.ref x :: st) (I, J, P, S) u v) : zA G y cc mL ret R Z pc lv (.int a :: .ref q :: st) (I, J, P, S) u v := by
  intro p l e s m args below meth c H locs ls C hP hz hS hl
  have he := zs_at (G := G) (w := (I, J, P, S)) hs
  rw [zc_r (by decide)] at he
  show W p l e R s m args below meth c H locs u v (Z below args s) (F0 m pc ls (.int a :: .ref (zr G q) :: st.map (zv G)))
  rw [zr_lt (zl_lt (w := (I, J, P, S)) hs hz.2)]
  have hlt : a.toNatClampNeg < n := Nat.not_le.mp fun q => hi (Or.inr q)
  refine W.aald (v := va_rf ((P q a.toNatClampNeg).map (zr G))) (ty := .array .int) C.1 C.2.1 (hP q _ he) ((C.2.2.2.2.2.2.2.2.1.2 4 _ rfl).1 n (fun j => va_rf ((P q j).map (zr G)))) rfl (fun q => by cases q) (by show ¬ (a < 0 ∨ (arrV _ _ _).slots.size ≤ _); rw [arrV_size]; exact hi) (by show (arrV _ _ _).slots[_]? = _; rw [arrV_read _ _ hlt]) rfl rfl hd ?_
  have e1 : va_rf ((P q a.toNatClampNeg).map (zr G)) = zv G (.ref x) := by rw [hx]; rfl
  rw [e1]
  exact k p l e s m args below meth c H locs ls C hP hz hS hl
theorem z_ast5 {q n x : Nat} {a : Int32} (hd : decode cc pc = .ok (.aastore, 1)) (hs : S[q]? = some (105, n)) (hi : vp_in a n) {N : Nat} (hx : S[x]? = some (8, N)) (k : zA G y cc mL ret R Z (pc + 1) lv st (I, J, zu P q a.toNatClampNeg (some x), S) u v) : zA G y cc mL ret R Z pc lv (.ref x :: .int a :: .ref q :: st) (I, J, P, S) u v := by
  intro p l e s m args below meth c H locs ls C hP hz hS hl
  have he := zs_at (G := G) (w := (I, J, P, S)) hs
  rw [zc_r (by decide)] at he
  have hx' := zs_at (G := G) (w := (I, J, P, S)) hx
  rw [zc_obj (by decide)] at hx'
  show W p l e R s m args below meth c H locs u v (Z below args s) (F0 m pc ls (.ref (zr G x) :: .int a :: .ref (zr G q) :: st.map (zv G)))
  have hrx : zr G x = G.2.2.1 + x := zr_lt (zl_lt (w := (I, J, P, S)) hx hz.2)
  rw [zr_lt (zl_lt (w := (I, J, P, S)) hs hz.2), hrx]
  refine va_astq C.1 C.2.1 C.2.2.2.2.2.2.2.2.1 hP (zs_D G _) hS q 5 x 8 he rfl hx' rfl hi hd (fun H1 locs1 hP1 _ hS1 => ?_)
  have e1 : (zs G (I, J, P, S)).set q (G.2.2.1 + q, .inl (G.2.1 105, n, .inr (.inr (.inr (.inr (va_up (fun k => (P q k).map (zr G)) a.toNatClampNeg (some (G.2.2.1 + x)))))))) = zs G (I, J, zu P q a.toNatClampNeg (some x), S) := by
    have e2 : va_up (fun k => (P q k).map (zr G)) a.toNatClampNeg (some (G.2.2.1 + x)) = fun k => (zu P q a.toNatClampNeg (some x) q k).map (zr G) := by
      funext j
      by_cases hj : j = a.toNatClampNeg
      · subst hj; simp [va_up, zu, hrx]
      · simp [va_up, zu, hj]
    rw [e2, ← zc_r (G := G) (w := (I, J, zu P q a.toNatClampNeg (some x), S)) (a := q) (t := 105) (n := n) (by decide)]
    exact zs_set rfl hs (fun b hb t => zc_congr rfl rfl (zu_row P q _ _ hb))
  have hP1 : va_P G.1 zCl (zs G (I, J, zu P q a.toNatClampNeg (some x), S)) H1 := by rw [← e1]; exact hP1
  exact k p l e s m args below meth c H1 locs1 ls C hP1 hz hS1 hl
theorem z_ast6 {q n x : Nat} {a : Int32} (hd : decode cc pc = .ok (.aastore, 1)) (hs : S[q]? = some (106, n)) (hi : vp_in a n) {N : Nat} (hx : S[x]? = some (0, N)) (k : zA G y cc mL ret R Z (pc + 1) lv st (I, J, zu P q a.toNatClampNeg (some x), S) u v) : zA G y cc mL ret R Z pc lv (.ref x :: .int a :: .ref q :: st) (I, J, P, S) u v := by
  intro p l e s m args below meth c H locs ls C hP hz hS hl
  have he := zs_at (G := G) (w := (I, J, P, S)) hs
  rw [zc_r (by decide)] at he
  have hx' := zs_at (G := G) (w := (I, J, P, S)) hx
  rw [zc_obj (by decide)] at hx'
  show W p l e R s m args below meth c H locs u v (Z below args s) (F0 m pc ls (.ref (zr G x) :: .int a :: .ref (zr G q) :: st.map (zv G)))
  have hrx : zr G x = G.2.2.1 + x := zr_lt (zl_lt (w := (I, J, P, S)) hx hz.2)
  rw [zr_lt (zl_lt (w := (I, J, P, S)) hs hz.2), hrx]
  refine va_astq C.1 C.2.1 C.2.2.2.2.2.2.2.2.1 hP (zs_D G _) hS q 6 x 0 he rfl hx' rfl hi hd (fun H1 locs1 hP1 _ hS1 => ?_)
  have e1 : (zs G (I, J, P, S)).set q (G.2.2.1 + q, .inl (G.2.1 106, n, .inr (.inr (.inr (.inr (va_up (fun k => (P q k).map (zr G)) a.toNatClampNeg (some (G.2.2.1 + x)))))))) = zs G (I, J, zu P q a.toNatClampNeg (some x), S) := by
    have e2 : va_up (fun k => (P q k).map (zr G)) a.toNatClampNeg (some (G.2.2.1 + x)) = fun k => (zu P q a.toNatClampNeg (some x) q k).map (zr G) := by
      funext j
      by_cases hj : j = a.toNatClampNeg
      · subst hj; simp [va_up, zu, hrx]
      · simp [va_up, zu, hj]
    rw [e2, ← zc_r (G := G) (w := (I, J, zu P q a.toNatClampNeg (some x), S)) (a := q) (t := 106) (n := n) (by decide)]
    exact zs_set rfl hs (fun b hb t => zc_congr rfl rfl (zu_row P q _ _ hb))
  have hP1 : va_P G.1 zCl (zs G (I, J, zu P q a.toNatClampNeg (some x), S)) H1 := by rw [← e1]; exact hP1
  exact k p l e s m args below meth c H1 locs1 ls C hP1 hz hS1 hl
theorem z_alen100 {q n : Nat} (hd : decode cc pc = .ok (.arraylength, 1)) (hs : S[q]? = some (100, n)) (k : zA G y cc mL ret R Z (pc + 1) lv (.int (nI n) :: st) (I, J, P, S) u v) : zA G y cc mL ret R Z pc lv (.ref q :: st) (I, J, P, S) u v := by
  intro p l e s m args below meth c H locs ls C hP hz hS hl
  have he := zs_at (G := G) (w := (I, J, P, S)) hs
  rw [zc_i (Or.inl rfl)] at he
  show W p l e R s m args below meth c H locs u v (Z below args s) (F0 m pc ls (.ref (zr G q) :: st.map (zv G)))
  rw [zr_lt (zl_lt (w := (I, J, P, S)) hs hz.2)]
  exact va_alen C.1 C.2.1 C.2.2.2.2.2.2.2.2.1 hP q 0 he rfl rfl hd (k p l e s m args below meth c H locs ls C hP hz hS hl)
theorem z_alen101 {q n : Nat} (hd : decode cc pc = .ok (.arraylength, 1)) (hs : S[q]? = some (101, n)) (k : zA G y cc mL ret R Z (pc + 1) lv (.int (nI n) :: st) (I, J, P, S) u v) : zA G y cc mL ret R Z pc lv (.ref q :: st) (I, J, P, S) u v := by
  intro p l e s m args below meth c H locs ls C hP hz hS hl
  have he := zs_at (G := G) (w := (I, J, P, S)) hs
  rw [zc_l] at he
  show W p l e R s m args below meth c H locs u v (Z below args s) (F0 m pc ls (.ref (zr G q) :: st.map (zv G)))
  rw [zr_lt (zl_lt (w := (I, J, P, S)) hs hz.2)]
  exact va_alen C.1 C.2.1 C.2.2.2.2.2.2.2.2.1 hP q 1 he rfl rfl hd (k p l e s m args below meth c H locs ls C hP hz hS hl)
theorem z_alen102 {q n : Nat} (hd : decode cc pc = .ok (.arraylength, 1)) (hs : S[q]? = some (102, n)) (k : zA G y cc mL ret R Z (pc + 1) lv (.int (nI n) :: st) (I, J, P, S) u v) : zA G y cc mL ret R Z pc lv (.ref q :: st) (I, J, P, S) u v := by
  intro p l e s m args below meth c H locs ls C hP hz hS hl
  have he := zs_at (G := G) (w := (I, J, P, S)) hs
  rw [zc_i (Or.inr (Or.inl rfl))] at he
  show W p l e R s m args below meth c H locs u v (Z below args s) (F0 m pc ls (.ref (zr G q) :: st.map (zv G)))
  rw [zr_lt (zl_lt (w := (I, J, P, S)) hs hz.2)]
  exact va_alen C.1 C.2.1 C.2.2.2.2.2.2.2.2.1 hP q 2 he rfl rfl hd (k p l e s m args below meth c H locs ls C hP hz hS hl)
theorem z_sld {a : Int32} (hd : decode cc pc = .ok (.iaload, 1)) (hi : vp_in a G.2.2.2.2.1) (k : zA G y cc mL ret R Z (pc + 1) lv (.int (G.2.2.2.2.2.1 a.toNatClampNeg) :: st) w u v) : zA G y cc mL ret R Z pc lv (.int a :: .ref 1000000 :: st) w u v := by
  intro p l e s m args below meth c H locs ls C hP hz hS hl
  have hK := C.2.2.2.2.2.2.2.2
  have hb : G.2.2.2.1 < s.heap.size := by
    obtain ⟨scr, g1, -⟩ := hK.2.1
    exact (Array.getElem?_eq_some_iff.mp g1).1
  exact va_sld (b := G.2.2.2.1) (A := zA0 G) C.1 C.2.1 hK.2.1 hb (by show ¬ G.2.2.1 ≤ _; have := hK.2.2.1; omega) hS hi hd (k p l e s m args below meth c H locs ls C hP hz hS hl)
theorem z_slen (hd : decode cc pc = .ok (.arraylength, 1)) (k : zA G y cc mL ret R Z (pc + 1) lv (.int (nI G.2.2.2.2.1) :: st) w u v) : zA G y cc mL ret R Z pc lv (.ref 1000000 :: st) w u v := by
  intro p l e s m args below meth c H locs ls C hP hz hS hl
  have hK := C.2.2.2.2.2.2.2.2
  have hb : G.2.2.2.1 < s.heap.size := by
    obtain ⟨scr, g1, -⟩ := hK.2.1
    exact (Array.getElem?_eq_some_iff.mp g1).1
  exact va_slen (b := G.2.2.2.1) (A := zA0 G) C.1 C.2.1 hK.2.1 hb (by show ¬ G.2.2.1 ≤ _; have := hK.2.2.1; omega) hS hd (k p l e s m args below meth c H locs ls C hP hz hS hl)
/-- at an end: how large the heap is -/
theorem z_size {p : Program} {l : Launch} {e : Env} {s : State} {m : MethodId} {args : Array Value} {below : List Frame} {meth : Method} {c : Code} {T : State} {H : Heap} {locs : List Loc} (hP : va_P G.1 zCl (zs G w) H) (hz : s.heap.size + u = G.2.2.1 + w.2.2.2.length) (hT : T.heap = H) (X : Stand p l e R s m args below meth c T locs u v) (h0 : G.2.2.1 ≤ s.heap.size) : H.size = G.2.2.1 + w.2.2.2.length := by
  have h1 := X.heapSize
  rw [hT] at h1
  rcases zs_lt hP (fun _ => trivial) with h2 | h2
  · have h3 : w.2.2.2.length = 0 := h2
    have : s.heap.size ≤ H.size := by
      have := X.same
      rw [← hT]
      exact X.same.2.1
    omega
  · omega
end ZR
