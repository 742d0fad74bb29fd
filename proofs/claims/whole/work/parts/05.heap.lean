/-! heap rows, calls, returns, in the walk's own form -/
section ZH
variable {G : zG} {y : MethodName} {cc : ByteArray} {mL : Nat} {ret : Option FieldType} {R : Room} {Z : List Frame → Array Value → State → State → Prop} {pc : Nat} {lv : List (Option Value)} {st : List Value} {w : zW} {u v : Nat}
variable {I : Nat → Nat → Int32} {J : Nat → Nat → Int64} {P : Nat → Nat → Option Nat} {S : List (Nat × Nat)}
/-- a field, by the constant pool's number in a class: the class of the object by number, its fields, the slot, its sort, its type, final or not -/
def zFd (own : String) (idx ci N k t : Nat) (ty : FieldType) (fin : Bool) : Prop := ∃ (C : String) (T : u_T) (Y : Nat → FieldType), zCl[ci]? = some (C, T, N) ∧ k < N ∧ (T k).1 = C ∧ (T k).2.2.2 = fin ∧ Cond.fieldLink own idx C (T k).2.1 (T k).2.2.1 ∈ zT ∧ (∀ w ∈ u_ws C T N, w ∈ zT) ∧ (∀ k, k < N → parseFieldDescriptor (T k).2.2.1 = some (Y k)) ∧ (∀ a, a < N → ∀ b, b < N → a ≠ b → (T a).2.1 ≠ (T b).2.1) ∧ Y k = ty ∧ zty ci k = t ∧ ci < 100
theorem zl_lt {a : Nat} {sh : Nat × Nat} (hs : w.2.2.2[a]? = some sh) (hz : w.2.2.2.length ≤ 1000) : a < 1000000 := by
  have h := (List.getElem?_eq_some_iff.mp hs).1
  omega
theorem zc_obj {a ci N : Nat} (h : ci < 100) : zc G w a (ci, N) = .inr (ci, (List.range N).map (zf G w ci a)) := by
  unfold zc
  rw [if_pos (show (ci, N).1 < 100 from h)]
theorem zc_i {a t n : Nat} (h : t = 100 ∨ t = 102 ∨ t = 103) : zc G w a (t, n) = .inl (G.2.1 t, n, .inl (w.1 a)) := by
  unfold zc
  rw [if_neg (show ¬ (t, n).1 < 100 by show ¬ t < 100; omega), if_neg (show ¬ (t, n).1 = 101 by show ¬ t = 101; omega), if_pos (show (t, n).1 < 104 by show t < 104; omega)]
theorem zc_l {a n : Nat} : zc G w a (101, n) = .inl (G.2.1 101, n, .inr (.inl (w.2.1 a))) := by
  unfold zc
  rw [if_neg (show ¬ (101, n).1 < 100 by show ¬ (101 : Nat) < 100; decide), if_pos rfl]
theorem zc_r {a t n : Nat} (h : 104 ≤ t) : zc G w a (t, n) = .inl (G.2.1 t, n, .inr (.inr (.inr (.inr (fun k => (w.2.2.1 a k).map (zr G)))))) := by
  unfold zc
  rw [if_neg (show ¬ (t, n).1 < 100 by show ¬ t < 100; omega), if_neg (show ¬ (t, n).1 = 101 by show ¬ t = 101; omega), if_neg (show ¬ (t, n).1 < 104 by show ¬ t < 104; omega)]
theorem zc_congr {w' : zW} {a : Nat} {sh : Nat × Nat} (h1 : w'.1 a = w.1 a) (h2 : w'.2.1 a = w.2.1 a) (h3 : w'.2.2.1 a = w.2.2.1 a) : zc G w' a sh = zc G w a sh := by
  have e : zf G w' sh.1 a = zf G w sh.1 a := by
    funext k
    unfold zf
    rw [h1, h2, h3]
  unfold zc
  rw [e, h1, h2, h3]
theorem zf_set {w' : zW} {ci a k N : Nat} {x : Value} (hk : k < N) (hx : zf G w' ci a k = x) (ho : ∀ j, j ≠ k → zf G w' ci a j = zf G w ci a j) : ((List.range N).map (zf G w ci a)).set k x = (List.range N).map (zf G w' ci a) := by
  apply List.ext_getElem?
  intro j
  by_cases e : j = k
  · subst e
    rw [List.getElem?_set_self (by simpa using hk)]
    simp [List.getElem?_range hk, hx]
  · rw [List.getElem?_set_ne (fun q => e q.symm)]
    by_cases hj : j < N
    · simp [List.getElem?_range hj, ho j e]
    · rw [List.getElem?_eq_none (by simp; omega), List.getElem?_eq_none (by simp; omega)]
theorem z_getI {idx ci N k a : Nat} {ty : FieldType} {fin : Bool} (hd : decode cc pc = .ok (.getfield idx, 3)) (F : zFd y.cls idx ci N k 0 ty fin) (hs : S[a]? = some (ci, N)) (kk : zA G y cc mL ret R Z (pc + 3) lv (.int (I a k) :: st) (I, J, P, S) u v) : zA G y cc mL ret R Z pc lv (.ref a :: st) (I, J, P, S) u v := by
  intro p l e s m args below meth c H locs ls C hP hz hS hl
  obtain ⟨Cn, T, Y, hc, hk, h1, hf, hlk, hws, hY, hnm, hy, ht, hci⟩ := F
  have he := zs_at (G := G) (w := (I, J, P, S)) hs
  rw [zc_obj hci] at he
  have hr : zr G a = G.2.2.1 + a := zr_lt (zl_lt (w := (I, J, P, S)) hs hz.2)
  have hts := C.2.2.2.2.2.2.2.1
  show W p l e R s m args below meth c H locs u v (Z below args s) (F0 m pc ls (.ref (zr G a) :: st.map (zv G)))
  rw [hr]
  exact va_get C.1 C.2.1 (Ts := zT) hts hws C.2.2.2.2.2.1 C.2.2.2.2.2.2.2.2.1 hP a he hc k hk (hts _ hlk) (by rw [h1]; exact fun x h => h) (v := .int (I a k)) (by simp [List.getElem?_range hk, zf, ht]) hd (kk p l e s m args below meth c H locs ls C hP hz hS hl)
theorem z_getJ {idx ci N k a : Nat} {ty : FieldType} {fin : Bool} (hd : decode cc pc = .ok (.getfield idx, 3)) (F : zFd y.cls idx ci N k 1 ty fin) (hs : S[a]? = some (ci, N)) (kk : zA G y cc mL ret R Z (pc + 3) lv (.long (J a k) :: st) (I, J, P, S) u v) : zA G y cc mL ret R Z pc lv (.ref a :: st) (I, J, P, S) u v := by
  intro p l e s m args below meth c H locs ls C hP hz hS hl
  obtain ⟨Cn, T, Y, hc, hk, h1, hf, hlk, hws, hY, hnm, hy, ht, hci⟩ := F
  have he := zs_at (G := G) (w := (I, J, P, S)) hs
  rw [zc_obj hci] at he
  have hr : zr G a = G.2.2.1 + a := zr_lt (zl_lt (w := (I, J, P, S)) hs hz.2)
  have hts := C.2.2.2.2.2.2.2.1
  show W p l e R s m args below meth c H locs u v (Z below args s) (F0 m pc ls (.ref (zr G a) :: st.map (zv G)))
  rw [hr]
  exact va_get C.1 C.2.1 (Ts := zT) hts hws C.2.2.2.2.2.1 C.2.2.2.2.2.2.2.2.1 hP a he hc k hk (hts _ hlk) (by rw [h1]; exact fun x h => h) (v := .long (J a k)) (by simp [List.getElem?_range hk, zf, ht]) hd (kk p l e s m args below meth c H locs ls C hP hz hS hl)
theorem z_getR {idx ci N k a x : Nat} {ty : FieldType} {fin : Bool} (hd : decode cc pc = .ok (.getfield idx, 3)) (F : zFd y.cls idx ci N k 2 ty fin) (hs : S[a]? = some (ci, N)) (hx : P a k = some x) (kk : zA G y cc mL ret R Z (pc + 3) lv (.ref x :: st) (I, J, P, S) u v) : zA G y cc mL ret R Z pc lv (.ref a :: st) (I, J, P, S) u v := by
  intro p l e s m args below meth c H locs ls C hP hz hS hl
  obtain ⟨Cn, T, Y, hc, hk, h1, hf, hlk, hws, hY, hnm, hy, ht, hci⟩ := F
  have he := zs_at (G := G) (w := (I, J, P, S)) hs
  rw [zc_obj hci] at he
  have hr : zr G a = G.2.2.1 + a := zr_lt (zl_lt (w := (I, J, P, S)) hs hz.2)
  have hts := C.2.2.2.2.2.2.2.1
  show W p l e R s m args below meth c H locs u v (Z below args s) (F0 m pc ls (.ref (zr G a) :: st.map (zv G)))
  rw [hr]
  exact va_get C.1 C.2.1 (Ts := zT) hts hws C.2.2.2.2.2.1 C.2.2.2.2.2.2.2.2.1 hP a he hc k hk (hts _ hlk) (by rw [h1]; exact fun x h => h) (v := .ref (zr G x)) (by simp [List.getElem?_range hk, zf, ht, hx, va_rf]) hd (kk p l e s m args below meth c H locs ls C hP hz hS hl)
theorem z_putX {w' : zW} {idx ci N k t a : Nat} {ty : FieldType} {x : Value} (hd : decode cc pc = .ok (.putfield idx, 3)) (F : zFd y.cls idx ci N k t ty false) (hs : w.2.2.2[a]? = some (ci, N)) (hn : narrow ty x = x) (hf : fits ty x = true) (hS' : w'.2.2.2 = w.2.2.2) (hx : zf G w' ci a k = x) (ho : ∀ j, j ≠ k → zf G w' ci a j = zf G w ci a j) (hb : ∀ b, b ≠ a → w'.1 b = w.1 b ∧ w'.2.1 b = w.2.1 b ∧ w'.2.2.1 b = w.2.2.1 b)
    (kk : ∀ (p : Program) (l : Launch) (e : Env) (s : State) (m : MethodId) (args : Array Value) (below : List Frame) (meth : Method) (c : Code) (H : Heap) (locs : List Loc) (ls : Array Slot), zC G y cc mL ret p s m args meth c → va_P G.1 zCl (zs G w') H → (s.heap.size + u = G.2.2.1 + w'.2.2.2.length ∧ w'.2.2.2.length ≤ 1000) → va_S (zA0 G) s.heap H locs → zH G ls mL lv → W p l e R s m args below meth c H locs u v (Z below args s) (F0 m (pc + 3) ls (st.map (zv G))))
    {p : Program} {l : Launch} {e : Env} {s : State} {m : MethodId} {args : Array Value} {below : List Frame} {meth : Method} {c : Code} {H : Heap} {locs : List Loc} {ls : Array Slot} (C : zC G y cc mL ret p s m args meth c) (hP : va_P G.1 zCl (zs G w) H) (hz : s.heap.size + u = G.2.2.1 + w.2.2.2.length ∧ w.2.2.2.length ≤ 1000) (hS : va_S (zA0 G) s.heap H locs) (hl : zH G ls mL lv) :
    W p l e R s m args below meth c H locs u v (Z below args s) (F0 m pc ls (x :: .ref (zr G a) :: st.map (zv G))) := by
  obtain ⟨Cn, T, Y, hc, hk, h1, hfn, hlk, hws, hY, hnm, hy, ht, hci⟩ := F
  have he := zs_at (G := G) hs
  rw [zc_obj hci] at he
  have hts := C.2.2.2.2.2.2.2.1
  rw [zr_lt (zl_lt hs hz.2)]
  refine va_put C.1 C.2.1 (Ts := zT) hts hws Y hY hnm C.2.2.2.2.2.1 C.2.2.2.2.2.2.2.2.1 hP (zs_D G w) hS a he hc k hk (hts _ hlk) (by rw [h1]; exact fun x h => h) hfn (ty := ty) (by rw [hY k hk, hy]) hn hf (by simpa using hk) hd (fun H1 locs1 hP1 _ hS1 => ?_)
  have e1 : (zs G w).set a (G.2.2.1 + a, .inr (ci, ((List.range N).map (zf G w ci a)).set k x)) = zs G w' := by
    rw [zf_set hk hx ho, ← zc_obj (w := w') hci]
    exact zs_set hS' hs (fun b hb' t => zc_congr (hb b hb').1 (hb b hb').2.1 (hb b hb').2.2)
  rw [e1] at hP1
  exact kk p l e s m args below meth c H1 locs1 ls C hP1 (by rw [hS']; exact hz) hS1 hl
theorem z_putFX {w' : zW} {idx ci N k t a : Nat} {ty : FieldType} {x : Value} (hd : decode cc pc = .ok (.putfield idx, 3)) (F : zFd y.cls idx ci N k t ty true) (hin : y.name = "<init>") (how : ∃ T N', zCl[ci]? = some (y.cls, T, N')) (hs : w.2.2.2[a]? = some (ci, N)) (hn : narrow ty x = x) (hf : fits ty x = true) (hS' : w'.2.2.2 = w.2.2.2) (hx : zf G w' ci a k = x) (ho : ∀ j, j ≠ k → zf G w' ci a j = zf G w ci a j) (hb : ∀ b, b ≠ a → w'.1 b = w.1 b ∧ w'.2.1 b = w.2.1 b ∧ w'.2.2.1 b = w.2.2.1 b)
    (kk : ∀ (p : Program) (l : Launch) (e : Env) (s : State) (m : MethodId) (args : Array Value) (below : List Frame) (meth : Method) (c : Code) (H : Heap) (locs : List Loc) (ls : Array Slot), zC G y cc mL ret p s m args meth c → va_P G.1 zCl (zs G w') H → (s.heap.size + u = G.2.2.1 + w'.2.2.2.length ∧ w'.2.2.2.length ≤ 1000) → va_S (zA0 G) s.heap H locs → zH G ls mL lv → W p l e R s m args below meth c H locs u v (Z below args s) (F0 m (pc + 3) ls (st.map (zv G))))
    {p : Program} {l : Launch} {e : Env} {s : State} {m : MethodId} {args : Array Value} {below : List Frame} {meth : Method} {c : Code} {H : Heap} {locs : List Loc} {ls : Array Slot} (C : zC G y cc mL ret p s m args meth c) (hP : va_P G.1 zCl (zs G w) H) (hz : s.heap.size + u = G.2.2.1 + w.2.2.2.length ∧ w.2.2.2.length ≤ 1000) (hS : va_S (zA0 G) s.heap H locs) (hl : zH G ls mL lv) :
    W p l e R s m args below meth c H locs u v (Z below args s) (F0 m pc ls (x :: .ref (zr G a) :: st.map (zv G))) := by
  obtain ⟨Cn, T, Y, hc, hk, h1, hfn, hlk, hws, hY, hnm, hy, ht, hci⟩ := F
  obtain ⟨T', N', hc'⟩ := how
  have hCn : Cn = y.cls := by
    have h5 := hc.symm.trans hc'
    simp only [Option.some.injEq, Prod.mk.injEq] at h5
    exact h5.1
  have he := zs_at (G := G) hs
  rw [zc_obj hci] at he
  have hts := C.2.2.2.2.2.2.2.1
  rw [zr_lt (zl_lt hs hz.2)]
  refine va_putF C.1 C.2.1 (Ts := zT) hts hws Y hY hnm C.2.2.2.2.2.1 C.2.2.2.2.2.2.2.2.1 hP (zs_D G w) hS a he hc k hk (hts _ hlk) (by rw [h1]; exact fun x h => h) hfn (C.2.2.2.2.2.2.1.trans hin) (h1.trans hCn) (ty := ty) (by rw [hY k hk, hy]) hn hf (by simpa using hk) hd (fun H1 locs1 hP1 _ hS1 => ?_)
  have e1 : (zs G w).set a (G.2.2.1 + a, .inr (ci, ((List.range N).map (zf G w ci a)).set k x)) = zs G w' := by
    rw [zf_set hk hx ho, ← zc_obj (w := w') hci]
    exact zs_set hS' hs (fun b hb' t => zc_congr (hb b hb').1 (hb b hb').2.1 (hb b hb').2.2)
  rw [e1] at hP1
  exact kk p l e s m args below meth c H1 locs1 ls C hP1 (by rw [hS']; exact hz) hS1 hl
theorem z_putI {idx ci N k a : Nat} {x : Int32} (hd : decode cc pc = .ok (.putfield idx, 3)) (F : zFd y.cls idx ci N k 0 .int false) (hs : S[a]? = some (ci, N)) (kk : zA G y cc mL ret R Z (pc + 3) lv st (zu I a k x, J, P, S) u v) : zA G y cc mL ret R Z pc lv (.int x :: .ref a :: st) (I, J, P, S) u v := by
  intro p l e s m args below meth c H locs ls C hP hz hS hl
  have ht : zty ci k = 0 := by obtain ⟨_, _, _, _, _, _, _, _, _, _, _, _, ht, _⟩ := F; exact ht
  exact z_putX (w := (I, J, P, S)) (w' := (zu I a k x, J, P, S)) (x := .int x) hd F hs rfl rfl rfl (by simp [zf, ht, zu]) (fun j hj => by unfold zf; simp [zu, hj]) (fun b hb => ⟨zu_row I a k x hb, rfl, rfl⟩) kk C hP hz hS hl
theorem z_putZ {idx ci N k a : Nat} {x : Int32} (hd : decode cc pc = .ok (.putfield idx, 3)) (F : zFd y.cls idx ci N k 0 .boolean false) (hs : S[a]? = some (ci, N)) (hx : x = 0 ∨ x = 1) (kk : zA G y cc mL ret R Z (pc + 3) lv st (zu I a k x, J, P, S) u v) : zA G y cc mL ret R Z pc lv (.int x :: .ref a :: st) (I, J, P, S) u v := by
  intro p l e s m args below meth c H locs ls C hP hz hS hl
  have ht : zty ci k = 0 := by obtain ⟨_, _, _, _, _, _, _, _, _, _, _, _, ht, _⟩ := F; exact ht
  exact z_putX (w := (I, J, P, S)) (w' := (zu I a k x, J, P, S)) (x := .int x) hd F hs (by rcases hx with rfl | rfl <;> decide) (by rcases hx with rfl | rfl <;> decide) rfl (by simp [zf, ht, zu]) (fun j hj => by unfold zf; simp [zu, hj]) (fun b hb => ⟨zu_row I a k x hb, rfl, rfl⟩) kk C hP hz hS hl
theorem z_putJ {idx ci N k a : Nat} {x : Int64} (hd : decode cc pc = .ok (.putfield idx, 3)) (F : zFd y.cls idx ci N k 1 .long false) (hs : S[a]? = some (ci, N)) (kk : zA G y cc mL ret R Z (pc + 3) lv st (I, zu J a k x, P, S) u v) : zA G y cc mL ret R Z pc lv (.long x :: .ref a :: st) (I, J, P, S) u v := by
  intro p l e s m args below meth c H locs ls C hP hz hS hl
  have ht : zty ci k = 1 := by obtain ⟨_, _, _, _, _, _, _, _, _, _, _, _, ht, _⟩ := F; exact ht
  exact z_putX (w := (I, J, P, S)) (w' := (I, zu J a k x, P, S)) (x := .long x) hd F hs rfl rfl rfl (by simp [zf, ht, zu]) (fun j hj => by unfold zf; simp [zu, hj]) (fun b hb => ⟨rfl, zu_row J a k x hb, rfl⟩) kk C hP hz hS hl
theorem z_putR {idx ci N k a x : Nat} {ty : FieldType} (hd : decode cc pc = .ok (.putfield idx, 3)) (F : zFd y.cls idx ci N k 2 ty false) (hs : S[a]? = some (ci, N)) (hn : ∀ z : Nat, narrow ty (.ref z) = .ref z ∧ fits ty (.ref z) = true) (kk : zA G y cc mL ret R Z (pc + 3) lv st (I, J, zu P a k (some x), S) u v) : zA G y cc mL ret R Z pc lv (.ref x :: .ref a :: st) (I, J, P, S) u v := by
  intro p l e s m args below meth c H locs ls C hP hz hS hl
  have ht : zty ci k = 2 := by obtain ⟨_, _, _, _, _, _, _, _, _, _, _, _, ht, _⟩ := F; exact ht
  exact z_putX (w := (I, J, P, S)) (w' := (I, J, zu P a k (some x), S)) (x := .ref (zr G x)) hd F hs (hn _).1 (hn _).2 rfl (by simp [zf, ht, zu, va_rf]) (fun j hj => by unfold zf; simp [zu, hj]) (fun b hb => ⟨rfl, rfl, zu_row P a k (some x) hb⟩) kk C hP hz hS hl
theorem z_putFR {idx ci N k a x : Nat} {ty : FieldType} (hd : decode cc pc = .ok (.putfield idx, 3)) (F : zFd y.cls idx ci N k 2 ty true) (hin : y.name = "<init>") (how : ∃ T N', zCl[ci]? = some (y.cls, T, N')) (hs : S[a]? = some (ci, N)) (hn : ∀ z : Nat, narrow ty (.ref z) = .ref z ∧ fits ty (.ref z) = true) (kk : zA G y cc mL ret R Z (pc + 3) lv st (I, J, zu P a k (some x), S) u v) : zA G y cc mL ret R Z pc lv (.ref x :: .ref a :: st) (I, J, P, S) u v := by
  intro p l e s m args below meth c H locs ls C hP hz hS hl
  have ht : zty ci k = 2 := by obtain ⟨_, _, _, _, _, _, _, _, _, _, _, _, ht, _⟩ := F; exact ht
  exact z_putFX (w := (I, J, P, S)) (w' := (I, J, zu P a k (some x), S)) (x := .ref (zr G x)) hd F hin how hs (hn _).1 (hn _).2 rfl (by simp [zf, ht, zu, va_rf]) (fun j hj => by unfold zf; simp [zu, hj]) (fun b hb => ⟨rfl, rfl, zu_row P a k (some x) hb⟩) kk C hP hz hS hl
end ZH
