/-! THE WALK'S OWN FORM: a heap by four tables (ints, longs, references, shapes), addresses counted from the law's start. -/
/-- ints, longs, references (by address, then slot or place), and the shapes of the cells (class number below 100, or sort of array; fields or length) -/
abbrev zW : Type := (Nat → Nat → Int32) × (Nat → Nat → Int64) × (Nat → Nat → Option Nat) × List (Nat × Nat)
/-- what stays for a whole run: the classes' numbers, the array classes, the first address, the script (address, length, values), the one text (its address, its bytes' address) -/
abbrev zG : Type := va_G × (Nat → ClassId) × Nat × Nat × Nat × (Nat → Int32) × Nat × Nat
def zr (G : zG) (a : Nat) : Nat := if a < 1000000 then G.2.2.1 + a else if a = 1000000 then G.2.2.2.1 else if a = 1000001 then G.2.2.2.2.2.2.1 else G.2.2.2.2.2.2.2
def zv (G : zG) (v : Value) : Value := match v with
  | .ref a => .ref (zr G a)
  | w => w
theorem zr_lt {G : zG} {a : Nat} (h : a < 1000000) : zr G a = G.2.2.1 + a := by rw [zr, if_pos h]
theorem zv_rf (G : zG) (r : Option Nat) : zv G (va_rf r) = va_rf (r.map (zr G)) := by cases r <;> rfl
theorem zv_cat (G : zG) (v : Value) : (zv G v).category = v.category := by cases v <;> rfl
def zty (ci k : Nat) : Nat := (zTL.getD ci []).getD k 0
/-- what a field holds -/
def zf (G : zG) (w : zW) (ci a k : Nat) : Value := match zty ci k with
  | 0 => .int (w.1 a k)
  | 1 => .long (w.2.1 a k)
  | _ => va_rf ((w.2.2.1 a k).map (zr G))
/-- a cell, by its shape -/
def zc (G : zG) (w : zW) (a : Nat) (sh : Nat × Nat) : va_E :=
  if sh.1 < 100 then .inr (sh.1, (List.range sh.2).map (zf G w sh.1 a))
  else .inl (G.2.1 sh.1, sh.2, if sh.1 = 101 then .inr (.inl (w.2.1 a)) else if sh.1 < 104 then .inl (w.1 a) else .inr (.inr (.inr (.inr (fun k => (w.2.2.1 a k).map (zr G))))))
def zs (G : zG) (w : zW) : va_W := (List.range w.2.2.2.length).map (fun a => (G.2.2.1 + a, zc G w a (w.2.2.2.getD a (0, 0))))
theorem zs_len (G : zG) (w : zW) : (zs G w).length = w.2.2.2.length := by simp [zs]
theorem zs_at {G : zG} {w : zW} {a : Nat} {sh : Nat × Nat} (h : w.2.2.2[a]? = some sh) : (zs G w)[a]? = some (G.2.2.1 + a, zc G w a sh) := by
  have hl : a < w.2.2.2.length := (List.getElem?_eq_some_iff.mp h).1
  simp [zs, List.getElem?_range hl, h]
theorem zs_get {G : zG} {w : zW} {a : Nat} {q : Nat × va_E} (h : (zs G w)[a]? = some q) : ∃ sh, w.2.2.2[a]? = some sh ∧ q = (G.2.2.1 + a, zc G w a sh) := by
  have hl : a < w.2.2.2.length := by rw [← zs_len G w]; exact (List.getElem?_eq_some_iff.mp h).1
  have hs : w.2.2.2[a]? = some w.2.2.2[a] := List.getElem?_eq_getElem hl
  refine ⟨_, hs, ?_⟩
  rw [zs_at hs] at h
  exact (Option.some.inj h).symm
abbrev zA0 (G : zG) : Nat → Prop := fun q => G.2.2.1 ≤ q
theorem zs_D (G : zG) (w : zW) : va_D (zA0 G) (zs G w) := by
  refine ⟨fun i j p q hi hj hpq => ?_, fun k q hk => ?_⟩
  · obtain ⟨s1, -, rfl⟩ := zs_get hi
    obtain ⟨s2, -, rfl⟩ := zs_get hj
    have h : G.2.2.1 + i = G.2.2.1 + j := hpq
    omega
  · obtain ⟨s1, -, rfl⟩ := zs_get hk
    show G.2.2.1 ≤ G.2.2.1 + k
    omega
theorem zs_lt {G : zG} {w : zW} {cl : List vw_C} {H : Heap} (h : va_P G.1 cl (zs G w) H) (hn : w.2.2.2.length ≠ 0 → True) : w.2.2.2.length = 0 ∨ G.2.2.1 + w.2.2.2.length ≤ H.size := by
  by_cases h0 : w.2.2.2.length = 0
  · exact Or.inl h0
  · right
    have hl : w.2.2.2.length - 1 < w.2.2.2.length := by omega
    have hs : w.2.2.2[w.2.2.2.length - 1]? = some w.2.2.2[w.2.2.2.length - 1] := List.getElem?_eq_getElem hl
    have h1 := (h _ _ (zs_at (G := G) hs)).lt
    have h2 : G.2.2.1 + (w.2.2.2.length - 1) < H.size := h1
    omega
/-- the same shapes: the list of cells is that of the other tables but at one place -/
theorem zs_set {G : zG} {w w' : zW} {a : Nat} {sh : Nat × Nat} (hs : w'.2.2.2 = w.2.2.2) (ha : w.2.2.2[a]? = some sh) (ho : ∀ b, b ≠ a → ∀ t, zc G w' b t = zc G w b t) : (zs G w).set a (G.2.2.1 + a, zc G w' a sh) = zs G w' := by
  apply List.ext_getElem?
  intro i
  by_cases hi : i = a
  · subst hi
    have hl : i < (zs G w).length := by rw [zs_len]; exact (List.getElem?_eq_some_iff.mp ha).1
    rw [List.getElem?_set_self hl, zs_at (by rw [hs]; exact ha)]
  · rw [List.getElem?_set_ne (fun e => hi e.symm)]
    cases h : w.2.2.2[i]? with
    | none =>
      have h1 : w.2.2.2.length ≤ i := List.getElem?_eq_none_iff.mp h
      rw [List.getElem?_eq_none (by rw [zs_len]; exact h1), List.getElem?_eq_none (by rw [zs_len, hs]; exact h1)]
    | some t => rw [zs_at h, zs_at (by rw [hs]; exact h), ho i hi]
/-- one cell more -/
theorem zs_push {G : zG} {w w' : zW} {sh : Nat × Nat} (hs : w'.2.2.2 = w.2.2.2 ++ [sh]) (ho : ∀ b, b ≠ w.2.2.2.length → ∀ t, zc G w' b t = zc G w b t) : zs G w ++ [(G.2.2.1 + w.2.2.2.length, zc G w' w.2.2.2.length sh)] = zs G w' := by
  apply List.ext_getElem?
  intro i
  by_cases h1 : i < w.2.2.2.length
  · have h2 : w.2.2.2[i]? = some w.2.2.2[i] := List.getElem?_eq_getElem h1
    rw [List.getElem?_append_left (by rw [zs_len]; exact h1), zs_at h2, zs_at (w := w') (sh := w.2.2.2[i]) (by rw [hs, List.getElem?_append_left h1]; exact h2), ho i (by omega)]
  · by_cases h2 : i = w.2.2.2.length
    · subst h2
      rw [List.getElem?_append_right (by rw [zs_len]; exact Nat.le_refl _), zs_len, Nat.sub_self, zs_at (w := w') (sh := sh) (by rw [hs, List.getElem?_append_right (Nat.le_refl _), Nat.sub_self]; rfl)]
      rfl
    · rw [List.getElem?_eq_none (by simp [zs_len]; omega), List.getElem?_eq_none (by rw [zs_len, hs]; simp; omega)]
/-- a table with another value at one place -/
def zu {α : Type} (f : Nat → Nat → α) (a k : Nat) (v : α) : Nat → Nat → α := fun x y => if x = a ∧ y = k then v else f x y
theorem zu_same {α : Type} (f : Nat → Nat → α) (a k : Nat) (v : α) : zu f a k v a k = v := by simp [zu]
theorem zu_ne {α : Type} (f : Nat → Nat → α) (a k : Nat) (v : α) {x y : Nat} (h : ¬ (x = a ∧ y = k)) : zu f a k v x y = f x y := by simp only [zu, if_neg h]
theorem zu_row {α : Type} (f : Nat → Nat → α) (a k : Nat) (v : α) {x : Nat} (h : x ≠ a) : zu f a k v x = f x := by
  funext y
  exact zu_ne f a k v (fun e => h e.1)
theorem zu_at (f : Nat → Nat → Int32) (a k : Nat) (v : Int32) : zu f a k v a = upd (f a) k v := by
  funext y
  by_cases h : y = k
  · subst h; simp [zu, upd]
  · simp [zu, upd, h]
theorem zu_atL (f : Nat → Nat → Int64) (a k : Nat) (v : Int64) : zu f a k v a = vp_updL (f a) k v := by
  funext y
  by_cases h : y = k
  · subst h; simp [zu, vp_updL]
  · simp [zu, vp_updL, h]
/-- the array sorts: 100 int, 101 long, 102 byte, 103 boolean, 104 int[], 105 Tray, 106 Fen -/
def zTy (G : zG) : List (ClassId × FieldType) := [(G.2.1 100, .int), (G.2.1 101, .long), (G.2.1 102, .byte), (G.2.1 103, .boolean), (G.2.1 104, .array .int), (G.2.1 105, .object "TinFen$Tray"), (G.2.1 106, .object "TinFen$Fen")]
def zNL : List (String × Nat × MethodName × String) := [("TinFen", 33, y_Tray_new, "TinFen"), ("TinFen", 59, y_Fen_new, "TinFen"), ("TinFen$Fen", 52, y_Years_new, "TinFen"), ("TinFen", 79, y_Life_new, "TinFen"), ("TinFen", 89, y_Rows_new, "TinFen"), ("TinFen", 96, y_Giv_new, "TinFen"), ("TinFen", 103, y_Seen_new, "TinFen"), ("TinFen", 110, y_Game_new, "TinFen")]
def zText : String := "odds trait worth person is lane tin of on lead pass bite learn lose any when got gone loop end stop "
def zByt : List Int32 := zText.toList.map (fun c => Int32.ofNat c.toNat)
def zAO (ty : FieldType) (U : State) : Prop := (Cond.arrayOver ty).before #[] U = true
/-- what holds of the machine's tables, the script and the text in every state of the run -/
def zK (G : zG) (U : State) : Prop := va_K G.1 zCl (zTy G) U ∧ va_X G.2.2.2.1 G.2.2.2.2.1 G.2.2.2.2.2.1 U U.heap ∧ (G.2.2.2.1 < G.2.2.1 ∧ G.2.2.1 ≤ U.heap.size) ∧ (∀ q ∈ zNL, va_Nw (.methodLinkNest q.1 q.2.1 q.2.2.1 q.2.2.2) U) ∧ va_AO "TinFen$Tray" U ∧ va_AO "TinFen$Fen" U ∧ zAO (.array .int) U ∧ vk_R "TinFen$Tokens" 26 zText G.2.2.2.2.2.2.1 U ∧ vk_S 1 [zByt.length] [zByt] (fun _ => G.2.2.2.2.2.2.1) (fun _ => G.2.2.2.2.2.2.2) (zA0 G) U U.heap ∧ va_Z "java/lang/String" "COMPACT_STRINGS" "Z" (.int 1) (zA0 G) U U.heap ∧ va_Zq "jdk/internal/util/Preconditions" "SIOOBE_FORMATTER" "Ljava/util/function/BiFunction;" (zA0 G) U U.heap
theorem zAO_moved {ty : FieldType} {u U : State} (hvm : u.vm.Alike U.vm) (h : zAO ty u) : zAO ty U := by
  have h1 : (Cond.arrayOver ty).before #[] (u.setVm U.vm) = true := by rw [Cond.arrayOver_setVmC hvm]; exact h
  unfold zAO
  unfold Cond.before Cond.holds at h1 ⊢
  simp only [Cond.value] at h1 ⊢
  exact h1
theorem zK_moved {G : zG} {s U : State} {H : Heap} {locs : List Loc} (hW : s.WarmedH U.vm) (hS : va_S (zA0 G) s.heap H locs) (hU : U.heap = H) (h : zK G s) : zK G U := by
  obtain ⟨h1, h2, h3, h4, h5, h6, h7, h8, h9, h10, h11⟩ := h
  have hA := hW.alike
  have hk : ∀ a : Nat, a < s.heap.size → ¬ zA0 G a → U.heap[a]? = s.heap[a]? := by rw [hU]; exact hS.2.1
  refine ⟨va_K.moved hA h1, ?_, ⟨h3.1, by rw [hU]; exact Nat.le_trans h3.2 hS.1⟩, fun q hq => va_Nw.warmM hW (h4 q hq), va_AO.moved hA h5, va_AO.moved hA h6, zAO_moved hA h7, vk_R.warm hW h8, (vk_S.moved hA h9).kept hk, (va_Z.moved hA h10).kept hk, (va_Zq.moved hA h11).kept hk⟩
  have hb : G.2.2.2.1 < s.heap.size := by
    obtain ⟨scr, g1, -⟩ := h2
    exact (Array.getElem?_eq_some_iff.mp g1).1
  exact (va_X.moved hA h2).kept (hk _ hb (by show ¬ G.2.2.1 ≤ _; omega))
/-- what a method's body may ask of its own frame and tables -/
def zC (G : zG) (y : MethodName) (cc : ByteArray) (mL : Nat) (ret : Option FieldType) (p : Program) (s : State) (m : MethodId) (args : Array Value) (meth : Method) (c : Code) : Prop :=
  p.tables.exec = Jvm.exec ∧ c.code = cc ∧ meth.sig.returnType = ret ∧ c.maxLocals = mL ∧ meth.locks = false ∧ s.vm.findClass y.cls = some m.cls ∧ meth.name = y.name ∧ (∀ w ∈ zT, w.before args s = true) ∧ zK G s
/-- the locals: a value, or nothing known, for every place -/
def zH (G : zG) (ls : Array Slot) (mL : Nat) (lv : List (Option Value)) : Prop := ls.size = mL ∧ lv_wf ls ∧ lv.length = mL ∧ ∀ (i : Nat) (v : Value), lv[i]? = some (some v) → ls[i]? = some (.val (zv G v))
/-- THE JUDGEMENT: from this place of the method, with these locals, this stack, this heap, so many cells and slots made so far, the machine comes to Z -/
def zA (G : zG) (y : MethodName) (cc : ByteArray) (mL : Nat) (ret : Option FieldType) (R : Room) (Z : List Frame → Array Value → State → State → Prop) (pc : Nat) (lv : List (Option Value)) (st : List Value) (w : zW) (u v : Nat) : Prop :=
  ∀ (p : Program) (l : Launch) (e : Env) (s : State) (m : MethodId) (args : Array Value) (below : List Frame) (meth : Method) (c : Code) (H : Heap) (locs : List Loc) (ls : Array Slot),
    zC G y cc mL ret p s m args meth c → va_P G.1 zCl (zs G w) H → (s.heap.size + u = G.2.2.1 + w.2.2.2.length ∧ w.2.2.2.length ≤ 1000) → va_S (zA0 G) s.heap H locs → zH G ls mL lv →
    W p l e R s m args below meth c H locs u v (Z below args s) (F0 m pc ls (st.map (zv G)))
/-- a method's room: so many frames deep, so many cells and slots -/
def zRm (d mc ms : Nat) : Room := { frames := d, cells := mc, slots := ms, locals := 40 * d }
def zWs (y : MethodName) (cc : ByteArray) (mL : Nat) (ret : Option FieldType) : List Cond := Cond.code y cc mL ret :: zT
/-- what a method may be asked in -/
def zP (G : zG) (w : zW) (U : State) : Prop := va_P G.1 zCl (zs G w) U.heap ∧ (U.heap.size = G.2.2.1 + w.2.2.2.length ∧ w.2.2.2.length ≤ 1000) ∧ zK G U
/-- how it ends -/
def zQ (G : zG) (mc : Nat) (Q : Option Value → zW → Prop) : Array Value → State → Outcome → State → Prop := fun _ st oc t =>
  (∃ (r : Option Value) (w : zW), oc = .returned (r.map (zv G)) ∧ Q r w ∧ va_P G.1 zCl (zs G w) t.heap ∧ (st.heap.size + mc = G.2.2.1 + w.2.2.2.length ∧ w.2.2.2.length ≤ 1000)) ∧ va_F (zA0 G) st t
def zM (G : zG) (mc ms : Nat) (Q : Option Value → zW → Prop) : List Frame → Array Value → State → State → Prop := fun below args s => MQ below (zQ G mc Q) args s mc ms (zA0 G)
/-- A METHOD'S CONTRACT: with these arguments in this heap it returns, with Q of the answer and the heap then -/
def zE (G : zG) (y : MethodName) (cc : ByteArray) (mL : Nat) (ret : Option FieldType) (d mc ms : Nat) (as : List Value) (w : zW) (Q : Option Value → zW → Prop) : Prop :=
  ∀ l : Launch, Met l y (zWs y cc mL ret) (zRm d mc ms) (va_Pc (as.map (zv G)) (zP G w)) (zQ G mc Q) mc ms (zA0 G)
