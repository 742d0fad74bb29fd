/-! new int[n][k] -/
section ZMN
variable {G : zG} {y : MethodName} {cc : ByteArray} {mL : Nat} {ret : Option FieldType} {R : Room} {Z : List Frame → Array Value → State → State → Prop} {pc : Nat} {lv : List (Option Value)} {st : List Value} {w : zW} {u v : Nat}
variable {I : Nat → Nat → Int32} {J : Nat → Nat → Int64} {P : Nat → Nat → Option Nat} {S : List (Nat × Nat)}
theorem zm_outer (c : ClassId) (N h0 : Nat) : ∀ i : Nat, Jvm.Free.Multi.outerC c N h0 i = arrV c N (fun j => va_rf (if j < i then some (h0 + 1 + j) else none))
  | 0 => by
    show ({ cls := c, slots := Array.replicate N .null, vm := .none } : Cell) = _
    rw [arrV_new]
    refine congrArg (arrV c N) (funext fun j => ?_)
    simp [va_rf]
  | i + 1 => by
    show (Jvm.Free.Multi.outerC c N h0 i).setSlot i (.ref (h0 + 1 + i)) = _
    rw [zm_outer c N h0 i, arrV_store]
    refine congrArg (arrV c N) (funext fun j => ?_)
    by_cases e : j = i
    · subst e
      simp [updV, va_rf]
    · by_cases h : j < i
      · simp [updV, e, h, Nat.lt_succ_of_lt h]
      · simp [updV, e, h, show ¬ j < i + 1 by omega]
/-- a table with rows from n0 to n0 + n of one value -/
def zzm {α : Type} (f : Nat → Nat → α) (n0 n : Nat) (x : α) : Nat → Nat → α := fun a k => if n0 ≤ a ∧ a ≤ n0 + n then x else f a k
def zzp (P : Nat → Nat → Option Nat) (n0 n : Nat) : Nat → Nat → Option Nat := fun a k => if a = n0 then (if k < n then some (n0 + 1 + k) else none) else if n0 ≤ a ∧ a ≤ n0 + n then none else P a k
theorem z_mna {idx n k : Nat} (hd : decode cc pc = .ok (.multianewarray idx 2, 4)) (hw : Cond.classLink y.cls idx "[[I" ∈ zT) (hn : n ≤ 100) (hk : k ≤ 1000) (hR : u + (1 + n) ≤ R.cells ∧ v + (n + n * k) ≤ R.slots) (hL : S.length + 1 + n ≤ 1000)
    (kk : zA G y cc mL ret R Z (pc + 4) lv (.ref S.length :: st) (zzm I S.length n 0, zzm J S.length n 0, zzp P S.length n, S ++ (104, n) :: List.replicate n (100, k)) (u + 1 + n) (v + n + n * k)) : zA G y cc mL ret R Z pc lv (.int (nI k) :: .int (nI n) :: st) (I, J, P, S) u v := by
  intro p l e s m args below meth c H locs ls C hP hz hS hl
  intro T hT X
  have hts := C.2.2.2.2.2.2.2.1
  have h0 : G.2.2.1 ≤ s.heap.size := C.2.2.2.2.2.2.2.2.2.2.1.2
  have hsz : H.size = G.2.2.1 + S.length := z_size hP hz.1 hT X h0
  have c1 : (nI n).toNatClampNeg = n := nI_clamp (by omega)
  have c2 : (nI k).toNatClampNeg = k := nI_clamp (by omega)
  have hover : (Cond.arrayOver (.array .int)).before args s = true := C.2.2.2.2.2.2.2.2.2.2.2.2.2.2.1
  obtain ⟨vm₁, cA, comp, -, fA, fC, hO, -, X', step⟩ := X.multianewarray2F C.1 C.2.2.2.2.2.1 (ty := .int) (hts _ hw) hover (hts _ a_int) (g := F0 m pc ls (.int (nI k) :: .int (nI n) :: st.map (zv G))) rfl (by rw [C.2.1]; exact hd) rfl (nI_pos (by omega)) (nI_pos (by omega)) (by rw [c1]; omega) (by rw [c2]; show k * 4 ≤ _; omega) (by rw [c2]; omega) rfl rfl (by rw [c1]; exact hR.1) (by rw [c1, c2]; exact hR.2)
  rw [c1, c2] at X' step
  have ec : comp = G.2.1 100 := Option.some.inj (fC.symm.trans (C.2.2.2.2.2.2.2.2.1.2 0 _ rfl).2)
  have eA : cA = G.2.1 104 := Option.some.inj (fA.symm.trans (C.2.2.2.2.2.2.2.2.1.2 4 _ rfl).2)
  subst ec
  subst eA
  generalize hF : Jvm.Free.Multi.fill (T.setVm vm₁) (G.2.1 104) (G.2.1 100) n k (defaultValue .int) n = F at X' step
  have hTh : (T.setVm vm₁).heap = H := hT
  obtain ⟨f1, f2, -, -⟩ := Jvm.Free.Multi.fill_facts (T.setVm vm₁) (G.2.1 104) (G.2.1 100) n k (defaultValue .int) n
  rw [hF, hTh] at f1 f2
  have hold : ∀ x : Nat, x < H.size → F.heap[x]? = H[x]? := fun x hx => by
    have := Jvm.Free.Multi.fill_old (T.setVm vm₁) (G.2.1 104) (G.2.1 100) n k (defaultValue .int) (a := x) (by rw [hTh]; exact hx) n
    rw [hF, hTh] at this
    exact this
  have hrow : ∀ j : Nat, j < n → F.heap[H.size + 1 + j]? = some (arrV (G.2.1 100) k (fun _ => .int 0)) := fun j hj => by
    have := Jvm.Free.Multi.fill_inner (T.setVm vm₁) (G.2.1 104) (G.2.1 100) n k (defaultValue .int) n j hj
    rw [hF, hTh] at this
    rw [this]
    show some ({ cls := _, slots := Array.replicate k (.int 0), vm := .none } : Cell) = _
    rw [arrV_new]
  rw [zm_outer] at f2
  have hP1 : va_P G.1 zCl (zs G (zzm I S.length n 0, zzm J S.length n 0, zzp P S.length n, S ++ (104, n) :: List.replicate n (100, k))) F.heap := by
    intro a q hq
    obtain ⟨sh, hsh, rfl⟩ := zs_get hq
    have hsh : (S ++ (104, n) :: List.replicate n (100, k))[a]? = some sh := hsh
    rcases Nat.lt_trichotomy a S.length with h | h | h
    · rw [List.getElem?_append_left h] at hsh
      have e1 : zc G (zzm I S.length n 0, zzm J S.length n 0, zzp P S.length n, S ++ (104, n) :: List.replicate n (100, k)) a sh = zc G (I, J, P, S) a sh := by
        have g1 : ¬ (S.length ≤ a ∧ a ≤ S.length + n) := by omega
        have g2 : ¬ a = S.length := by omega
        refine zc_congr ?_ ?_ ?_
        · funext z; show zzm I S.length n 0 a z = _; unfold zzm; rw [if_neg g1]
        · funext z; show zzm J S.length n 0 a z = _; unfold zzm; rw [if_neg g1]
        · funext z; show zzp P S.length n a z = _; unfold zzp; rw [if_neg g2, if_neg g1]
      rw [e1]
      exact (hP a _ (zs_at (w := (I, J, P, S)) hsh)).kept (hold _ (by show G.2.2.1 + a < _; omega))
    · subst h
      rw [List.getElem?_append_right (Nat.le_refl _), Nat.sub_self] at hsh
      cases hsh
      rw [zc_r (by decide)]
      show F.heap[G.2.2.1 + S.length]? = some (vp_cell _ _)
      rw [vp_cell_q, ← hsz, f2]
      refine congrArg some (congrArg (arrV _ n) (funext fun j => ?_))
      show va_rf _ = va_rf ((zzp P S.length n S.length j).map (zr G))
      unfold zzp
      rw [if_pos rfl]
      by_cases hj : j < n
      · rw [if_pos hj, if_pos hj]
        have e7 : H.size + 1 + j = zr G (S.length + 1 + j) := by
          rw [zr_lt (by omega), hsz]
          omega
        rw [e7]
        rfl
      · rw [if_neg hj, if_neg hj]
        rfl
    · rw [List.getElem?_append_right (by omega)] at hsh
      have hlt : a - S.length < n + 1 := by
        have := (List.getElem?_eq_some_iff.mp hsh).1
        simpa using this
      obtain ⟨j, hj⟩ : ∃ j, a - S.length = j + 1 := ⟨a - S.length - 1, by omega⟩
      rw [hj, List.getElem?_cons_succ, List.getElem?_replicate, if_pos (by omega)] at hsh
      cases hsh
      rw [zc_i (Or.inl rfl)]
      show F.heap[G.2.2.1 + a]? = some (vp_cell _ _)
      rw [vp_cell_i, show G.2.2.1 + a = H.size + 1 + j by omega, hrow j (by omega)]
      refine congrArg some (congrArg (arrV _ k) (funext fun z => ?_))
      show _ = Value.int (zzm I S.length n 0 a z)
      unfold zzm
      rw [if_pos (by omega)]
  have hlen : (S ++ (104, n) :: List.replicate n (100, k)).length = S.length + 1 + n := by simp; omega
  have e3 : zr G S.length = H.size := by rw [zr_lt (by omega)]; exact hsz.symm
  have hk2 := kk p l e s m args below meth c F.heap locs ls C hP1 ⟨by show _ = G.2.2.1 + (S ++ (104, n) :: List.replicate n (100, k)).length; rw [hlen]; have := hz.1; simp only at this; omega, by show (S ++ (104, n) :: List.replicate n (100, k)).length ≤ _; rw [hlen]; omega⟩ ⟨by rw [f1]; exact Nat.le_trans hS.1 (by omega), fun x g1 g2 => (hold x (Nat.lt_of_lt_of_le g1 hS.1)).trans (hS.2.1 x g1 g2), hS.2.2⟩ hl F rfl X'
  obtain ⟨t, a1, b1⟩ := hk2
  refine ⟨t, step t ?_, b1⟩
  have e5 : T.heap.size = zr G S.length := by rw [hT, e3]
  rw [e5]
  exact a1
theorem z_ald4N {q n j x : Nat} (hd : decode cc pc = .ok (.aaload, 1)) (hs : S[q]? = some (104, n)) (hj : j < n) (hn : n < 2 ^ 31) (hx : P q j = some x) (k : zA G y cc mL ret R Z (pc + 1) lv (.ref x :: st) (I, J, P, S) u v) : zA G y cc mL ret R Z pc lv (.int (nI j) :: .ref q :: st) (I, J, P, S) u v := z_ald4 hd hs (vp_in_nI hj hn) (by rw [nI_clamp (by omega)]; exact hx) k
theorem z_ald5N {q n j x : Nat} (hd : decode cc pc = .ok (.aaload, 1)) (hs : S[q]? = some (105, n)) (hj : j < n) (hn : n < 2 ^ 31) (hx : P q j = some x) (k : zA G y cc mL ret R Z (pc + 1) lv (.ref x :: st) (I, J, P, S) u v) : zA G y cc mL ret R Z pc lv (.int (nI j) :: .ref q :: st) (I, J, P, S) u v := z_ald5 hd hs (vp_in_nI hj hn) (by rw [nI_clamp (by omega)]; exact hx) k
theorem z_ald6N {q n j x : Nat} (hd : decode cc pc = .ok (.aaload, 1)) (hs : S[q]? = some (106, n)) (hj : j < n) (hn : n < 2 ^ 31) (hx : P q j = some x) (k : zA G y cc mL ret R Z (pc + 1) lv (.ref x :: st) (I, J, P, S) u v) : zA G y cc mL ret R Z pc lv (.int (nI j) :: .ref q :: st) (I, J, P, S) u v := z_ald6 hd hs (vp_in_nI hj hn) (by rw [nI_clamp (by omega)]; exact hx) k
theorem z_ast5N {q n j x N : Nat} (hd : decode cc pc = .ok (.aastore, 1)) (hs : S[q]? = some (105, n)) (hj : j < n) (hn : n < 2 ^ 31) (hx : S[x]? = some (8, N)) (k : zA G y cc mL ret R Z (pc + 1) lv st (I, J, zu P q j (some x), S) u v) : zA G y cc mL ret R Z pc lv (.ref x :: .int (nI j) :: .ref q :: st) (I, J, P, S) u v := z_ast5 hd hs (vp_in_nI hj hn) hx (by rw [nI_clamp (by omega)]; exact k)
theorem z_ast6N {q n j x N : Nat} (hd : decode cc pc = .ok (.aastore, 1)) (hs : S[q]? = some (106, n)) (hj : j < n) (hn : n < 2 ^ 31) (hx : S[x]? = some (0, N)) (k : zA G y cc mL ret R Z (pc + 1) lv st (I, J, zu P q j (some x), S) u v) : zA G y cc mL ret R Z pc lv (.ref x :: .int (nI j) :: .ref q :: st) (I, J, P, S) u v := z_ast6 hd hs (vp_in_nI hj hn) hx (by rw [nI_clamp (by omega)]; exact k)
end ZMN
