/-! what makes cells; arraycopy; Object's constructor -/
section ZN
variable {G : zG} {y : MethodName} {cc : ByteArray} {mL : Nat} {ret : Option FieldType} {R : Room} {Z : List Frame → Array Value → State → State → Prop} {pc : Nat} {lv : List (Option Value)} {st : List Value} {w : zW} {u v : Nat}
variable {I : Nat → Nat → Int32} {J : Nat → Nat → Int64} {P : Nat → Nat → Option Nat} {S : List (Nat × Nat)}
/-- a table with a row of one value -/
def zz {α : Type} (f : Nat → Nat → α) (n : Nat) (x : α) : Nat → Nat → α := fun a k => if a = n then x else f a k
theorem zz_row {α : Type} (f : Nat → Nat → α) (n : Nat) (x : α) {a : Nat} (h : a ≠ n) : zz f n x a = f a := by
  funext k
  simp [zz, h]
theorem zz_at {α : Type} (f : Nat → Nat → α) (n : Nat) (x : α) : zz f n x n = fun _ => x := by
  funext k
  simp [zz]
def zdef (ci k : Nat) : Value := match zty ci k with
  | 0 => .int 0
  | 1 => .long 0
  | _ => .null
/-- 'new' of a class, by the constant pool's number -/
def zNw (own : String) (idx ci N : Nat) : Prop := ∃ (C : String) (T : u_T) (Y : Nat → FieldType), zCl[ci]? = some (C, T, N) ∧ Cond.classLink own idx C ∈ zT ∧ Cond.instantiable C N ∈ zT ∧ Cond.initialized C ∈ zT ∧ (∀ w ∈ u_ws C T N, w ∈ zT) ∧ (∀ k, k < N → parseFieldDescriptor (T k).2.2.1 = some (Y k)) ∧ (∀ k, k < N → defaultValue (Y k) = zdef ci k) ∧ ci < 100
theorem z_grow {w' : zW} {sh : Nat × Nat} {H H1 : Heap} {q : Nat} (hP : va_P G.1 zCl (zs G w) H) (hs : w'.2.2.2 = w.2.2.2 ++ [sh]) (ho : ∀ b, b ≠ w.2.2.2.length → ∀ t, zc G w' b t = zc G w b t) (hq : G.2.2.1 + w.2.2.2.length = H.size) (o1 : ∀ q, q < H.size → H1[q]? = H[q]?) (hn : va_at G.1 zCl (H.size, zc G w' w.2.2.2.length sh) H1) : va_P G.1 zCl (zs G w') H1 := by
  rw [← zs_push hs ho]
  refine (hP.kept (fun k x hx => o1 x.1 ((hP k x hx).lt))).app (fun k x hx => ?_)
  have hz : k < 1 := (List.getElem?_eq_some_iff.mp hx).1
  rw [show k = 0 by omega] at hx
  cases hx
  rw [hq]
  exact hn
theorem z_new {idx ci N : Nat} (hd : decode cc pc = .ok (.new idx, 3)) (hk : zNw y.cls idx ci N) (hR : u + 1 ≤ R.cells ∧ v + N ≤ R.slots) (hL : S.length + 1 ≤ 1000) (kk : zA G y cc mL ret R Z (pc + 3) lv (.ref S.length :: st) (zz I S.length 0, zz J S.length 0, zz P S.length none, S ++ [(ci, N)]) (u + 1) (v + N)) : zA G y cc mL ret R Z pc lv st (I, J, P, S) u v := by
  intro p l e s m args below meth c H locs ls C hP hz hS hl
  intro T hT X
  obtain ⟨Cn, Tn, Y, hc, h1, h2, h3, h4, h5, h6, hci⟩ := hk
  have hts := C.2.2.2.2.2.2.2.1
  have h0 : G.2.2.1 ≤ s.heap.size := C.2.2.2.2.2.2.2.2.2.2.1.2
  have hsz : H.size = G.2.2.1 + S.length := z_size hP hz.1 hT X h0
  have hKn := C.2.2.2.2.2.2.2.2.1.1 ci _ hc
  refine W.newcK (g := F0 m pc ls (st.map (zv G))) C.1 C.2.1 C.2.2.2.2.2.1 (hts _ h1) (hts _ h2) (hts _ h3) rfl hd hR.1 hR.2 hKn.2.1 rfl (fun H1 kC hkC e1 z1 o1 => ?_) T hT X
  have hP1 : va_P G.1 zCl (zs G (zz I S.length 0, zz J S.length 0, zz P S.length none, S ++ [(ci, N)])) H1 := by
    refine z_grow (w := (I, J, P, S)) (q := 0) hP rfl (fun b hb t => zc_congr (zz_row I _ _ hb) (zz_row J _ _ hb) (zz_row P _ _ hb)) hsz.symm o1 ?_
    rw [zc_obj hci]
    refine ⟨_, hc, (u_born Y hts h4 hKn hkC e1 h5).to (fun j hj => ?_)⟩
    rw [h6 j hj]
    have e2 : vp_V ((List.range N).map (zf G (zz I S.length 0, zz J S.length 0, zz P S.length none, S ++ [(ci, N)]) ci S.length)) j = zf G (zz I S.length 0, zz J S.length 0, zz P S.length none, S ++ [(ci, N)]) ci S.length j := by
      simp [vp_V, hj]
    show zdef ci j = vp_V ((List.range N).map (zf G (zz I S.length 0, zz J S.length 0, zz P S.length none, S ++ [(ci, N)]) ci S.length)) j
    rw [e2]
    unfold zdef zf
    split <;> simp_all [zz, va_rf]
  have e3 : zr G S.length = H.size := by rw [zr_lt (by omega)]; exact hsz.symm
  have hk2 := kk p l e s m args below meth c H1 locs ls C hP1 ⟨by simp only [List.length_append, List.length_cons, List.length_nil]; have := hz.1; simp only at this; omega, by simp only [List.length_append, List.length_cons, List.length_nil]; omega⟩ ⟨Nat.le_trans hS.1 (by omega), fun x g1 g2 => (o1 x (Nat.lt_of_lt_of_le g1 hS.1)).trans (hS.2.1 x g1 g2), hS.2.2⟩ hl
  have e4 : (Value.ref S.length :: st).map (zv G) = .ref H.size :: st.map (zv G) := by
    show Value.ref (zr G S.length) :: _ = _
    rw [e3]
  rw [e4] at hk2
  exact hk2
theorem z_newa100 {n : Nat} (hd : decode cc pc = .ok (.newarray .int, 2)) (hw : Cond.arrayClass .int ∈ zT) (hn : n ≤ 100000) (hR : u + 1 ≤ R.cells ∧ v + n ≤ R.slots) (hL : S.length + 1 ≤ 1000) (kk : zA G y cc mL ret R Z (pc + 2) lv (.ref S.length :: st) (zz I S.length 0, zz J S.length 0, zz P S.length none, S ++ [(100, n)]) (u + 1) (v + n)) : zA G y cc mL ret R Z pc lv (.int (nI n) :: st) (I, J, P, S) u v := by
  intro p l e s m args below meth c H locs ls C hP hz hS hl
  intro T hT X
  have hts := C.2.2.2.2.2.2.2.1
  have h0 : G.2.2.1 ≤ s.heap.size := C.2.2.2.2.2.2.2.2.2.2.1.2
  have hsz : H.size = G.2.2.1 + S.length := z_size hP hz.1 hT X h0
  refine va_newaK (atype := .int) (g := F0 m pc ls (.int (nI n) :: st.map (zv G))) C.1 C.2.1 (hts _ hw) rfl hd rfl (nI_pos (by omega)) (nI_clamp (by omega)) (by show n * 4 ≤ 536870912; omega) hR.1 hR.2 rfl (fun H1 cA e1 z1 o1 hAr hNm => ?_) T hT X
  have hcA : cA = G.2.1 100 := Option.some.inj (hNm.symm.trans (C.2.2.2.2.2.2.2.2.1.2 0 _ rfl).2)
  subst hcA
  have hP1 : va_P G.1 zCl (zs G (zz I S.length 0, zz J S.length 0, zz P S.length none, S ++ [(100, n)])) H1 := by
    refine z_grow (w := (I, J, P, S)) (q := 0) hP rfl (fun b hb t => zc_congr (zz_row I _ _ hb) (zz_row J _ _ hb) (zz_row P _ _ hb)) hsz.symm o1 ?_
    rw [zc_i (Or.inl rfl)]
    show H1[H.size]? = some (vp_cell _ _)
    rw [e1, vp_cell_i]
    show _ = some (arrV (G.2.1 100) n (fun j => .int (zz I S.length 0 S.length j)))
    simp only [zz_at]
    rfl
  have e3 : zr G S.length = H.size := by rw [zr_lt (by omega)]; exact hsz.symm
  have hk2 := kk p l e s m args below meth c H1 locs ls C hP1 ⟨by simp only [List.length_append, List.length_cons, List.length_nil]; have := hz.1; simp only at this; omega, by simp only [List.length_append, List.length_cons, List.length_nil]; omega⟩ ⟨Nat.le_trans hS.1 (by omega), fun x g1 g2 => (o1 x (Nat.lt_of_lt_of_le g1 hS.1)).trans (hS.2.1 x g1 g2), hS.2.2⟩ hl
  have e4 : (Value.ref S.length :: st).map (zv G) = .ref H.size :: st.map (zv G) := by
    show Value.ref (zr G S.length) :: _ = _
    rw [e3]
  rw [e4] at hk2
  exact hk2
theorem z_newa101 {n : Nat} (hd : decode cc pc = .ok (.newarray .long, 2)) (hw : Cond.arrayClass .long ∈ zT) (hn : n ≤ 100000) (hR : u + 1 ≤ R.cells ∧ v + n ≤ R.slots) (hL : S.length + 1 ≤ 1000) (kk : zA G y cc mL ret R Z (pc + 2) lv (.ref S.length :: st) (zz I S.length 0, zz J S.length 0, zz P S.length none, S ++ [(101, n)]) (u + 1) (v + n)) : zA G y cc mL ret R Z pc lv (.int (nI n) :: st) (I, J, P, S) u v := by
  intro p l e s m args below meth c H locs ls C hP hz hS hl
  intro T hT X
  have hts := C.2.2.2.2.2.2.2.1
  have h0 : G.2.2.1 ≤ s.heap.size := C.2.2.2.2.2.2.2.2.2.2.1.2
  have hsz : H.size = G.2.2.1 + S.length := z_size hP hz.1 hT X h0
  refine va_newaK (atype := .long) (g := F0 m pc ls (.int (nI n) :: st.map (zv G))) C.1 C.2.1 (hts _ hw) rfl hd rfl (nI_pos (by omega)) (nI_clamp (by omega)) (by show n * 8 ≤ 536870912; omega) hR.1 hR.2 rfl (fun H1 cA e1 z1 o1 hAr hNm => ?_) T hT X
  have hcA : cA = G.2.1 101 := Option.some.inj (hNm.symm.trans (C.2.2.2.2.2.2.2.2.1.2 1 _ rfl).2)
  subst hcA
  have hP1 : va_P G.1 zCl (zs G (zz I S.length 0, zz J S.length 0, zz P S.length none, S ++ [(101, n)])) H1 := by
    refine z_grow (w := (I, J, P, S)) (q := 0) hP rfl (fun b hb t => zc_congr (zz_row I _ _ hb) (zz_row J _ _ hb) (zz_row P _ _ hb)) hsz.symm o1 ?_
    rw [zc_l]
    show H1[H.size]? = some (vp_cell _ _)
    rw [e1, vp_cell_l]
    show _ = some (arrV (G.2.1 101) n (fun j => .long (zz J S.length 0 S.length j)))
    simp only [zz_at]
    rfl
  have e3 : zr G S.length = H.size := by rw [zr_lt (by omega)]; exact hsz.symm
  have hk2 := kk p l e s m args below meth c H1 locs ls C hP1 ⟨by simp only [List.length_append, List.length_cons, List.length_nil]; have := hz.1; simp only at this; omega, by simp only [List.length_append, List.length_cons, List.length_nil]; omega⟩ ⟨Nat.le_trans hS.1 (by omega), fun x g1 g2 => (o1 x (Nat.lt_of_lt_of_le g1 hS.1)).trans (hS.2.1 x g1 g2), hS.2.2⟩ hl
  have e4 : (Value.ref S.length :: st).map (zv G) = .ref H.size :: st.map (zv G) := by
    show Value.ref (zr G S.length) :: _ = _
    rw [e3]
  rw [e4] at hk2
  exact hk2
theorem z_newa102 {n : Nat} (hd : decode cc pc = .ok (.newarray .byte, 2)) (hw : Cond.arrayClass .byte ∈ zT) (hn : n ≤ 100000) (hR : u + 1 ≤ R.cells ∧ v + n ≤ R.slots) (hL : S.length + 1 ≤ 1000) (kk : zA G y cc mL ret R Z (pc + 2) lv (.ref S.length :: st) (zz I S.length 0, zz J S.length 0, zz P S.length none, S ++ [(102, n)]) (u + 1) (v + n)) : zA G y cc mL ret R Z pc lv (.int (nI n) :: st) (I, J, P, S) u v := by
  intro p l e s m args below meth c H locs ls C hP hz hS hl
  intro T hT X
  have hts := C.2.2.2.2.2.2.2.1
  have h0 : G.2.2.1 ≤ s.heap.size := C.2.2.2.2.2.2.2.2.2.2.1.2
  have hsz : H.size = G.2.2.1 + S.length := z_size hP hz.1 hT X h0
  refine va_newaK (atype := .byte) (g := F0 m pc ls (.int (nI n) :: st.map (zv G))) C.1 C.2.1 (hts _ hw) rfl hd rfl (nI_pos (by omega)) (nI_clamp (by omega)) (by show n * 1 ≤ 536870912; omega) hR.1 hR.2 rfl (fun H1 cA e1 z1 o1 hAr hNm => ?_) T hT X
  have hcA : cA = G.2.1 102 := Option.some.inj (hNm.symm.trans (C.2.2.2.2.2.2.2.2.1.2 2 _ rfl).2)
  subst hcA
  have hP1 : va_P G.1 zCl (zs G (zz I S.length 0, zz J S.length 0, zz P S.length none, S ++ [(102, n)])) H1 := by
    refine z_grow (w := (I, J, P, S)) (q := 0) hP rfl (fun b hb t => zc_congr (zz_row I _ _ hb) (zz_row J _ _ hb) (zz_row P _ _ hb)) hsz.symm o1 ?_
    rw [zc_i (Or.inr (Or.inl rfl))]
    show H1[H.size]? = some (vp_cell _ _)
    rw [e1, vp_cell_i]
    show _ = some (arrV (G.2.1 102) n (fun j => .int (zz I S.length 0 S.length j)))
    simp only [zz_at]
    rfl
  have e3 : zr G S.length = H.size := by rw [zr_lt (by omega)]; exact hsz.symm
  have hk2 := kk p l e s m args below meth c H1 locs ls C hP1 ⟨by simp only [List.length_append, List.length_cons, List.length_nil]; have := hz.1; simp only at this; omega, by simp only [List.length_append, List.length_cons, List.length_nil]; omega⟩ ⟨Nat.le_trans hS.1 (by omega), fun x g1 g2 => (o1 x (Nat.lt_of_lt_of_le g1 hS.1)).trans (hS.2.1 x g1 g2), hS.2.2⟩ hl
  have e4 : (Value.ref S.length :: st).map (zv G) = .ref H.size :: st.map (zv G) := by
    show Value.ref (zr G S.length) :: _ = _
    rw [e3]
  rw [e4] at hk2
  exact hk2
theorem z_newa103 {n : Nat} (hd : decode cc pc = .ok (.newarray .boolean, 2)) (hw : Cond.arrayClass .boolean ∈ zT) (hn : n ≤ 100000) (hR : u + 1 ≤ R.cells ∧ v + n ≤ R.slots) (hL : S.length + 1 ≤ 1000) (kk : zA G y cc mL ret R Z (pc + 2) lv (.ref S.length :: st) (zz I S.length 0, zz J S.length 0, zz P S.length none, S ++ [(103, n)]) (u + 1) (v + n)) : zA G y cc mL ret R Z pc lv (.int (nI n) :: st) (I, J, P, S) u v := by
  intro p l e s m args below meth c H locs ls C hP hz hS hl
  intro T hT X
  have hts := C.2.2.2.2.2.2.2.1
  have h0 : G.2.2.1 ≤ s.heap.size := C.2.2.2.2.2.2.2.2.2.2.1.2
  have hsz : H.size = G.2.2.1 + S.length := z_size hP hz.1 hT X h0
  refine va_newaK (atype := .boolean) (g := F0 m pc ls (.int (nI n) :: st.map (zv G))) C.1 C.2.1 (hts _ hw) rfl hd rfl (nI_pos (by omega)) (nI_clamp (by omega)) (by show n * 1 ≤ 536870912; omega) hR.1 hR.2 rfl (fun H1 cA e1 z1 o1 hAr hNm => ?_) T hT X
  have hcA : cA = G.2.1 103 := Option.some.inj (hNm.symm.trans (C.2.2.2.2.2.2.2.2.1.2 3 _ rfl).2)
  subst hcA
  have hP1 : va_P G.1 zCl (zs G (zz I S.length 0, zz J S.length 0, zz P S.length none, S ++ [(103, n)])) H1 := by
    refine z_grow (w := (I, J, P, S)) (q := 0) hP rfl (fun b hb t => zc_congr (zz_row I _ _ hb) (zz_row J _ _ hb) (zz_row P _ _ hb)) hsz.symm o1 ?_
    rw [zc_i (Or.inr (Or.inr rfl))]
    show H1[H.size]? = some (vp_cell _ _)
    rw [e1, vp_cell_i]
    show _ = some (arrV (G.2.1 103) n (fun j => .int (zz I S.length 0 S.length j)))
    simp only [zz_at]
    rfl
  have e3 : zr G S.length = H.size := by rw [zr_lt (by omega)]; exact hsz.symm
  have hk2 := kk p l e s m args below meth c H1 locs ls C hP1 ⟨by simp only [List.length_append, List.length_cons, List.length_nil]; have := hz.1; simp only at this; omega, by simp only [List.length_append, List.length_cons, List.length_nil]; omega⟩ ⟨Nat.le_trans hS.1 (by omega), fun x g1 g2 => (o1 x (Nat.lt_of_lt_of_le g1 hS.1)).trans (hS.2.1 x g1 g2), hS.2.2⟩ hl
  have e4 : (Value.ref S.length :: st).map (zv G) = .ref H.size :: st.map (zv G) := by
    show Value.ref (zr G S.length) :: _ = _
    rw [e3]
  rw [e4] at hk2
  exact hk2
theorem z_anew105 {n idx : Nat} (hd : decode cc pc = .ok (.anewarray idx, 3)) (hw : Cond.classLink y.cls idx "TinFen$Tray" ∈ zT) (hn : n ≤ 100000) (hR : u + 1 ≤ R.cells ∧ v + n ≤ R.slots) (hL : S.length + 1 ≤ 1000) (kk : zA G y cc mL ret R Z (pc + 3) lv (.ref S.length :: st) (zz I S.length 0, zz J S.length 0, zz P S.length none, S ++ [(105, n)]) (u + 1) (v + n)) : zA G y cc mL ret R Z pc lv (.int (nI n) :: st) (I, J, P, S) u v := by
  intro p l e s m args below meth c H locs ls C hP hz hS hl
  intro T hT X
  have hts := C.2.2.2.2.2.2.2.1
  have h0 : G.2.2.1 ≤ s.heap.size := C.2.2.2.2.2.2.2.2.2.2.1.2
  have hsz : H.size = G.2.2.1 + S.length := z_size hP hz.1 hT X h0
  have hcl : (nI n).toNatClampNeg = n := nI_clamp (by omega)
  refine W.anew (g := F0 m pc ls (.int (nI n) :: st.map (zv G))) C.1 C.2.1 C.2.2.2.2.2.1 (hts _ hw) (va_AO.use C.2.2.2.2.2.2.2.2.2.2.2.2.1) rfl hd rfl (nI_pos (by omega)) (by rw [hcl]; omega) hR.1 (by rw [hcl]; exact hR.2) (fun cA kA comp f1 f2 f3 f4 => ?_) T hT X
  rw [hcl]
  obtain ⟨kA', comp', g1, g2, g3, g4⟩ := (C.2.2.2.2.2.2.2.2.1.2 5 _ rfl).2
  have hcA : cA = G.2.1 105 := Option.some.inj (f1.symm.trans g4)
  subst hcA
  generalize hH1 : H.push ({ cls := G.2.1 105, slots := Array.replicate n .null, vm := .none } : Cell) = H1
  have z1 : H1.size = H.size + 1 := by rw [← hH1, Array.size_push]
  have e1 : H1[H.size]? = some (arrV (G.2.1 105) n (fun _ => .null)) := by rw [← hH1, Array.getElem?_push_size, ← arrV_new]
  have o1 : ∀ q : Nat, q < H.size → H1[q]? = H[q]? := fun q hq => by rw [← hH1, Array.getElem?_push, if_neg (Nat.ne_of_lt hq)]
  have hP1 : va_P G.1 zCl (zs G (zz I S.length 0, zz J S.length 0, zz P S.length none, S ++ [(105, n)])) H1 := by
    refine z_grow (w := (I, J, P, S)) (q := 0) hP rfl (fun b hb t => zc_congr (zz_row I _ _ hb) (zz_row J _ _ hb) (zz_row P _ _ hb)) hsz.symm o1 ?_
    rw [zc_r (by decide)]
    show H1[H.size]? = some (vp_cell _ _)
    rw [e1, vp_cell_q]
    show _ = some (arrV (G.2.1 105) n (fun j => va_rf ((zz P S.length none S.length j).map (zr G))))
    simp only [zz_at]
    rfl
  have e3 : zr G S.length = H.size := by rw [zr_lt (by omega)]; exact hsz.symm
  have hk2 := kk p l e s m args below meth c H1 locs ls C hP1 ⟨by simp only [List.length_append, List.length_cons, List.length_nil]; have := hz.1; simp only at this; omega, by simp only [List.length_append, List.length_cons, List.length_nil]; omega⟩ ⟨Nat.le_trans hS.1 (by omega), fun x g1 g2 => (o1 x (Nat.lt_of_lt_of_le g1 hS.1)).trans (hS.2.1 x g1 g2), hS.2.2⟩ hl
  have e4 : (Value.ref S.length :: st).map (zv G) = .ref H.size :: st.map (zv G) := by
    show Value.ref (zr G S.length) :: _ = _
    rw [e3]
  rw [e4] at hk2
  exact hk2
theorem z_anew106 {n idx : Nat} (hd : decode cc pc = .ok (.anewarray idx, 3)) (hw : Cond.classLink y.cls idx "TinFen$Fen" ∈ zT) (hn : n ≤ 100000) (hR : u + 1 ≤ R.cells ∧ v + n ≤ R.slots) (hL : S.length + 1 ≤ 1000) (kk : zA G y cc mL ret R Z (pc + 3) lv (.ref S.length :: st) (zz I S.length 0, zz J S.length 0, zz P S.length none, S ++ [(106, n)]) (u + 1) (v + n)) : zA G y cc mL ret R Z pc lv (.int (nI n) :: st) (I, J, P, S) u v := by
  intro p l e s m args below meth c H locs ls C hP hz hS hl
  intro T hT X
  have hts := C.2.2.2.2.2.2.2.1
  have h0 : G.2.2.1 ≤ s.heap.size := C.2.2.2.2.2.2.2.2.2.2.1.2
  have hsz : H.size = G.2.2.1 + S.length := z_size hP hz.1 hT X h0
  have hcl : (nI n).toNatClampNeg = n := nI_clamp (by omega)
  refine W.anew (g := F0 m pc ls (.int (nI n) :: st.map (zv G))) C.1 C.2.1 C.2.2.2.2.2.1 (hts _ hw) (va_AO.use C.2.2.2.2.2.2.2.2.2.2.2.2.2.1) rfl hd rfl (nI_pos (by omega)) (by rw [hcl]; omega) hR.1 (by rw [hcl]; exact hR.2) (fun cA kA comp f1 f2 f3 f4 => ?_) T hT X
  rw [hcl]
  obtain ⟨kA', comp', g1, g2, g3, g4⟩ := (C.2.2.2.2.2.2.2.2.1.2 6 _ rfl).2
  have hcA : cA = G.2.1 106 := Option.some.inj (f1.symm.trans g4)
  subst hcA
  generalize hH1 : H.push ({ cls := G.2.1 106, slots := Array.replicate n .null, vm := .none } : Cell) = H1
  have z1 : H1.size = H.size + 1 := by rw [← hH1, Array.size_push]
  have e1 : H1[H.size]? = some (arrV (G.2.1 106) n (fun _ => .null)) := by rw [← hH1, Array.getElem?_push_size, ← arrV_new]
  have o1 : ∀ q : Nat, q < H.size → H1[q]? = H[q]? := fun q hq => by rw [← hH1, Array.getElem?_push, if_neg (Nat.ne_of_lt hq)]
  have hP1 : va_P G.1 zCl (zs G (zz I S.length 0, zz J S.length 0, zz P S.length none, S ++ [(106, n)])) H1 := by
    refine z_grow (w := (I, J, P, S)) (q := 0) hP rfl (fun b hb t => zc_congr (zz_row I _ _ hb) (zz_row J _ _ hb) (zz_row P _ _ hb)) hsz.symm o1 ?_
    rw [zc_r (by decide)]
    show H1[H.size]? = some (vp_cell _ _)
    rw [e1, vp_cell_q]
    show _ = some (arrV (G.2.1 106) n (fun j => va_rf ((zz P S.length none S.length j).map (zr G))))
    simp only [zz_at]
    rfl
  have e3 : zr G S.length = H.size := by rw [zr_lt (by omega)]; exact hsz.symm
  have hk2 := kk p l e s m args below meth c H1 locs ls C hP1 ⟨by simp only [List.length_append, List.length_cons, List.length_nil]; have := hz.1; simp only at this; omega, by simp only [List.length_append, List.length_cons, List.length_nil]; omega⟩ ⟨Nat.le_trans hS.1 (by omega), fun x g1 g2 => (o1 x (Nat.lt_of_lt_of_le g1 hS.1)).trans (hS.2.1 x g1 g2), hS.2.2⟩ hl
  have e4 : (Value.ref S.length :: st).map (zv G) = .ref H.size :: st.map (zv G) := by
    show Value.ref (zr G S.length) :: _ = _
    rw [e3]
  rw [e4] at hk2
  exact hk2
/-- Object's constructor -/
theorem z_obj {idx a : Nat} (hd : decode cc pc = .ok (.invokespecial idx, 3)) (hk : Cond.methodLink y.cls idx Lib.objectInit ∈ zT) (h2 : Cond.instanceMethod Lib.objectInit ∈ zT) (h3 : Cond.code Lib.objectInit ⟨#[0xb1]⟩ 1 none ∈ zT) (hR : 1 ≤ R.frames ∧ 20 ≤ R.locals) (hw : (st.map (fun x => x.category)).sum ≤ 8) (kk : zA G y cc mL ret R Z (pc + 3) lv st w u v) : zA G y cc mL ret R Z pc lv (.ref a :: st) w u v := by
  intro p l e s m args below meth c H locs ls C hP hz hS hl
  have hts := C.2.2.2.2.2.2.2.1
  exact W.objInit (g := F0 m pc ls ((.ref a :: st).map (zv G))) C.1 C.2.1 C.2.2.2.2.2.1 (hts _ hk) (hts _ h2) (hts _ h3) rfl (hl.1.trans C.2.2.2.1.symm) rfl hd hR.1 (by show 2 * 0 + _ + 12 ≤ _; simp only [List.map_map, Function.comp_def, zv_cat]; omega) (kk p l e s m args below meth c H locs ls C hP hz hS hl)
/-- System.arraycopy -/
theorem z_copyI {idx q0 q1 n0 n1 sp dp n : Nat} (hd : decode cc pc = .ok (.invokestatic idx, 3)) (hk : Cond.methodLink y.cls idx arraycopyName ∈ zT) (hk2 : Cond.native arraycopyName ∈ zT ∧ Cond.static arraycopyName ∈ zT ∧ Cond.initialized "java/lang/System" ∈ zT) (hs0 : S[q0]? = some (100, n0)) (hs1 : S[q1]? = some (100, n1)) (h4 : sp + n ≤ n0) (h5 : dp + n ≤ n1) (hb : n0 < 2 ^ 31 ∧ n1 < 2 ^ 31) (hR : 1 ≤ R.frames ∧ 40 ≤ R.locals) (hw : (st.map (fun x => x.category)).sum ≤ 8) (kk : zA G y cc mL ret R Z (pc + 3) lv st (fun x k => if x = q1 then va_cpy (I q0) (I q1) sp dp n k else I x k, J, P, S) u v) : zA G y cc mL ret R Z pc lv (.int (nI n) :: .int (nI dp) :: .ref q1 :: .int (nI sp) :: .ref q0 :: st) (I, J, P, S) u v := by
  intro p l e s m args below meth c H locs ls C hP hz hS hl
  have hts := C.2.2.2.2.2.2.2.1
  have he0 := zs_at (G := G) (w := (I, J, P, S)) hs0
  have he1 := zs_at (G := G) (w := (I, J, P, S)) hs1
  rw [zc_i (Or.inl rfl)] at he0 he1
  show W p l e R s m args below meth c H locs u v (Z below args s) (F0 m pc ls (.int (nI n) :: .int (nI dp) :: .ref (zr G q1) :: .int (nI sp) :: .ref (zr G q0) :: st.map (zv G)))
  rw [zr_lt (zl_lt (w := (I, J, P, S)) hs0 hz.2), zr_lt (zl_lt (w := (I, J, P, S)) hs1 hz.2)]
  have c1 : (nI n).toNatClampNeg = n := nI_clamp (by omega)
  have c2 : (nI sp).toNatClampNeg = sp := nI_clamp (by omega)
  have c3 : (nI dp).toNatClampNeg = dp := nI_clamp (by omega)
  have p1 : ¬ nI sp < 0 := nI_pos (by omega)
  have p2 : ¬ nI dp < 0 := nI_pos (by omega)
  have p3 : ¬ nI n < 0 := nI_pos (by omega)
  have hlo : ((st.map (zv G)).map fun v => v.category).sum + (nativeFrameWords "java/lang/System" "arraycopy" 5 + 11) ≤ R.locals := by
    have h7 : nativeFrameWords "java/lang/System" "arraycopy" 5 + 11 ≤ 32 := by decide +kernel
    simp only [List.map_map, Function.comp_def, zv_cat]
    omega
  refine va_copyi C.1 C.2.1 (C.2.2.2.1.trans hl.1.symm) C.2.2.2.2.2.1 (hts _ hk) (hts _ hk2.1) (hts _ hk2.2.1) (hts _ hk2.2.2) C.2.2.2.2.2.2.2.2.1 hP (zs_D G _) hS q0 q1 0 0 he0 he1 rfl rfl rfl p1 p2 p3 (by rw [c1, c2]; exact h4) (by rw [c1, c3]; exact h5) (fun _ _ => rfl) hR.1 hlo hd (fun H1 locs1 hP1 _ hS1 => ?_)
  rw [c1, c2, c3] at hP1
  have e1 : (zs G (I, J, P, S)).set q1 (G.2.2.1 + q1, .inl (G.2.1 100, n1, .inl (va_cpy (I q0) (I q1) sp dp n))) = zs G (fun x k => if x = q1 then va_cpy (I q0) (I q1) sp dp n k else I x k, J, P, S) := by
    have e2 : zc G (fun x k => if x = q1 then va_cpy (I q0) (I q1) sp dp n k else I x k, J, P, S) q1 (100, n1) = .inl (G.2.1 100, n1, .inl (va_cpy (I q0) (I q1) sp dp n)) := by
      rw [zc_i (Or.inl rfl)]
      simp
    rw [← e2]
    exact zs_set rfl hs1 (fun b hb t => zc_congr (by funext k; simp [hb]) rfl rfl)
  have hP1 : va_P G.1 zCl (zs G (fun x k => if x = q1 then va_cpy (I q0) (I q1) sp dp n k else I x k, J, P, S)) H1 := by rw [← e1]; exact hP1
  exact kk p l e s m args below meth c H1 locs1 ls C hP1 hz hS1 hl
/-- System.arraycopy -/
theorem z_copyJ {idx q0 q1 n0 n1 sp dp n : Nat} (hd : decode cc pc = .ok (.invokestatic idx, 3)) (hk : Cond.methodLink y.cls idx arraycopyName ∈ zT) (hk2 : Cond.native arraycopyName ∈ zT ∧ Cond.static arraycopyName ∈ zT ∧ Cond.initialized "java/lang/System" ∈ zT) (hs0 : S[q0]? = some (101, n0)) (hs1 : S[q1]? = some (101, n1)) (h4 : sp + n ≤ n0) (h5 : dp + n ≤ n1) (hb : n0 < 2 ^ 31 ∧ n1 < 2 ^ 31) (hR : 1 ≤ R.frames ∧ 40 ≤ R.locals) (hw : (st.map (fun x => x.category)).sum ≤ 8) (kk : zA G y cc mL ret R Z (pc + 3) lv st (I, fun x k => if x = q1 then va_cpy (J q0) (J q1) sp dp n k else J x k, P, S) u v) : zA G y cc mL ret R Z pc lv (.int (nI n) :: .int (nI dp) :: .ref q1 :: .int (nI sp) :: .ref q0 :: st) (I, J, P, S) u v := by
  intro p l e s m args below meth c H locs ls C hP hz hS hl
  have hts := C.2.2.2.2.2.2.2.1
  have he0 := zs_at (G := G) (w := (I, J, P, S)) hs0
  have he1 := zs_at (G := G) (w := (I, J, P, S)) hs1
  rw [zc_l] at he0 he1
  show W p l e R s m args below meth c H locs u v (Z below args s) (F0 m pc ls (.int (nI n) :: .int (nI dp) :: .ref (zr G q1) :: .int (nI sp) :: .ref (zr G q0) :: st.map (zv G)))
  rw [zr_lt (zl_lt (w := (I, J, P, S)) hs0 hz.2), zr_lt (zl_lt (w := (I, J, P, S)) hs1 hz.2)]
  have c1 : (nI n).toNatClampNeg = n := nI_clamp (by omega)
  have c2 : (nI sp).toNatClampNeg = sp := nI_clamp (by omega)
  have c3 : (nI dp).toNatClampNeg = dp := nI_clamp (by omega)
  have p1 : ¬ nI sp < 0 := nI_pos (by omega)
  have p2 : ¬ nI dp < 0 := nI_pos (by omega)
  have p3 : ¬ nI n < 0 := nI_pos (by omega)
  have hlo : ((st.map (zv G)).map fun v => v.category).sum + (nativeFrameWords "java/lang/System" "arraycopy" 5 + 11) ≤ R.locals := by
    have h7 : nativeFrameWords "java/lang/System" "arraycopy" 5 + 11 ≤ 32 := by decide +kernel
    simp only [List.map_map, Function.comp_def, zv_cat]
    omega
  refine va_copyl C.1 C.2.1 (C.2.2.2.1.trans hl.1.symm) C.2.2.2.2.2.1 (hts _ hk) (hts _ hk2.1) (hts _ hk2.2.1) (hts _ hk2.2.2) C.2.2.2.2.2.2.2.2.1 hP (zs_D G _) hS q0 q1 1 1 he0 he1 rfl rfl rfl p1 p2 p3 (by rw [c1, c2]; exact h4) (by rw [c1, c3]; exact h5) (fun _ _ => rfl) hR.1 hlo hd (fun H1 locs1 hP1 _ hS1 => ?_)
  rw [c1, c2, c3] at hP1
  have e1 : (zs G (I, J, P, S)).set q1 (G.2.2.1 + q1, .inl (G.2.1 101, n1, .inr (.inl (va_cpy (J q0) (J q1) sp dp n)))) = zs G (I, fun x k => if x = q1 then va_cpy (J q0) (J q1) sp dp n k else J x k, P, S) := by
    have e2 : zc G (I, fun x k => if x = q1 then va_cpy (J q0) (J q1) sp dp n k else J x k, P, S) q1 (101, n1) = .inl (G.2.1 101, n1, .inr (.inl (va_cpy (J q0) (J q1) sp dp n))) := by
      rw [zc_l]
      simp
    rw [← e2]
    exact zs_set rfl hs1 (fun b hb t => zc_congr rfl (by funext k; simp [hb]) rfl)
  have hP1 : va_P G.1 zCl (zs G (I, fun x k => if x = q1 then va_cpy (J q0) (J q1) sp dp n k else J x k, P, S)) H1 := by rw [← e1]; exact hP1
  exact kk p l e s m args below meth c H1 locs1 ls C hP1 hz hS1 hl
end ZN
