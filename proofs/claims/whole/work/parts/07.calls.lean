/-! returns, a method's entry, calls, in the walk's own form (printed by wip/tools/p07.py) -/
section ZQ
variable {G : zG} {y : MethodName} {cc : ByteArray} {mL : Nat} {ret : Option FieldType} {R : Room} {Z : List Frame → Array Value → State → State → Prop} {pc : Nat} {lv : List (Option Value)} {st : List Value} {w : zW} {u v : Nat} {Q : Option Value → zW → Prop}
theorem z_end {p : Program} {l : Launch} {e : Env} {s : State} {m : MethodId} {args : Array Value} {below : List Frame} {meth : Method} {c : Code} {H : Heap} {locs : List Loc} {g : JFrame} {r : Option Value} (hP : va_P G.1 zCl (zs G w) H) (hz : s.heap.size + u = G.2.2.1 + w.2.2.2.length ∧ w.2.2.2.length ≤ 1000) (hS : va_S (zA0 G) s.heap H locs) (hq : Q r w) (t : State) (ht : t.heap = H) : zQ G u Q args s (.returned (r.map (zv G))) t := ⟨⟨r, w, rfl, hq, by rw [ht]; exact hP, hz⟩, hS.F ht⟩
theorem z_ireturn {a : Int32} (hd : decode cc pc = .ok (.ireturn, 1)) (hq : Q (some (.int a)) w) : zA G y cc mL (some .int) R (zM G u v Q) pc lv [.int a] w u v := by
  intro p l e s m args below meth c H locs ls C hP hz hS hl
  exact W.iret C.1 C.2.1 C.2.2.1 (fun t ht _ => z_end (g := F0 m pc ls []) (p := p) (l := l) (e := e) (m := m) (below := below) (meth := meth) (c := c) (r := some (.int a)) hP hz hS hq t ht) hS.2.2 hd C.2.2.2.2.1
theorem z_zreturn {a : Int32} (hd : decode cc pc = .ok (.ireturn, 1)) (ha : a = 0 ∨ a = 1) (hq : Q (some (.int a)) w) : zA G y cc mL (some .boolean) R (zM G u v Q) pc lv [.int a] w u v := by
  intro p l e s m args below meth c H locs ls C hP hz hS hl
  exact W.zret C.1 C.2.1 C.2.2.1 (by rcases ha with rfl | rfl <;> decide) (fun t ht _ => z_end (g := F0 m pc ls []) (p := p) (l := l) (e := e) (m := m) (below := below) (meth := meth) (c := c) (r := some (.int a)) hP hz hS hq t ht) hS.2.2 hd C.2.2.2.2.1
theorem z_treturn {a : Int32} {ty : FieldType} (hd : decode cc pc = .ok (.ireturn, 1)) (ha : narrow ty (.int a) = .int a) (hq : Q (some (.int a)) w) : zA G y cc mL (some ty) R (zM G u v Q) pc lv [.int a] w u v := by
  intro p l e s m args below meth c H locs ls C hP hz hS hl
  exact W.zret C.1 C.2.1 C.2.2.1 ha (fun t ht _ => z_end (g := F0 m pc ls []) (p := p) (l := l) (e := e) (m := m) (below := below) (meth := meth) (c := c) (r := some (.int a)) hP hz hS hq t ht) hS.2.2 hd C.2.2.2.2.1
theorem z_lreturn {f : Int64} (hd : decode cc pc = .ok (.lreturn, 1)) (hq : Q (some (.long f)) w) : zA G y cc mL (some .long) R (zM G u v Q) pc lv [.long f] w u v := by
  intro p l e s m args below meth c H locs ls C hP hz hS hl
  exact W.lret C.1 C.2.1 C.2.2.1 (fun t ht _ => z_end (g := F0 m pc ls []) (p := p) (l := l) (e := e) (m := m) (below := below) (meth := meth) (c := c) (r := some (.long f)) hP hz hS hq t ht) hS.2.2 hd C.2.2.2.2.1
theorem z_return (hd : decode cc pc = .ok (.return_, 1)) (hq : Q none w) : zA G y cc mL none R (zM G u v Q) pc lv [] w u v := by
  intro p l e s m args below meth c H locs ls C hP hz hS hl
  exact W.vret C.1 C.2.1 C.2.2.1 (fun t ht _ => z_end (g := F0 m pc ls []) (p := p) (l := l) (e := e) (m := m) (below := below) (meth := meth) (c := c) (r := none) hP hz hS hq t ht) hS.2.2 hd C.2.2.2.2.1
/-- the locals at a method's entry -/
def zlay : List Value → List (Option Value)
  | [] => []
  | x :: xs => if x.category = 2 then some x :: none :: zlay xs else some x :: zlay xs
theorem zlay_ok (as : List Value) : (zlay as).length = (lg_sl (as.map (zv G))).length ∧ ∀ (n i : Nat) (x : Value), (zlay as)[i]? = some (some x) → (n + i, zv G x) ∈ lv_args n (as.map (zv G)) := by
  induction as with
  | nil => exact ⟨rfl, fun n i x h => by simp [zlay] at h⟩
  | cons a as ih =>
    by_cases hc : a.category = 2
    · have e : zlay (a :: as) = some a :: none :: zlay as := by rw [zlay, if_pos hc]
      have hc' : (zv G a).category = 2 := by rw [zv_cat]; exact hc
      refine ⟨?_, fun n i x h => ?_⟩
      · rw [e]
        have := ih.1
        simp only [List.map_cons, List.length_cons, lg_sl, List.flatMap_cons, List.length_append] at this ⊢
        simp only [hc', if_true, List.length_cons, List.length_nil] at this ⊢
        omega
      · rw [e] at h
        simp only [List.map_cons, lv_args, hc', if_true]
        match i, h with
        | 0, h => cases h; exact List.mem_cons_self
        | 1, h => cases h
        | i + 2, h =>
          have h2 := ih.2 (n + 2) i x h
          rw [show n + (i + 2) = n + 2 + i by omega]
          exact List.mem_cons_of_mem _ h2
    · have e : zlay (a :: as) = some a :: zlay as := by rw [zlay, if_neg hc]
      have hc' : ¬ (zv G a).category = 2 := by rw [zv_cat]; exact hc
      refine ⟨?_, fun n i x h => ?_⟩
      · rw [e]
        have := ih.1
        simp only [List.map_cons, List.length_cons, lg_sl, List.flatMap_cons, List.length_append] at this ⊢
        simp only [hc', if_false, List.length_cons, List.length_nil] at this ⊢
        omega
      · rw [e] at h
        simp only [List.map_cons, lv_args, hc', if_false]
        match i, h with
        | 0, h => cases h; exact List.mem_cons_self
        | i + 1, h =>
          have h2 := ih.2 (n + 1) i x h
          rw [show n + (i + 1) = n + 1 + i by omega]
          exact List.mem_cons_of_mem _ h2
/-- A CONTRACT OUT OF A WALK -/
theorem zE_of {d mc ms : Nat} {as : List Value} (hy : plainName y.cls = true) (hlv : zlay as ++ List.replicate (mL - (zlay as).length) none = lv) (hm : (zlay as).length ≤ mL) (k : zA G y cc mL ret (zRm d mc ms) (zM G mc ms Q) 0 lv [] w 0 0) : zE G y cc mL ret d mc ms as w Q := by
  intro l
  refine Met.ofW (cc := cc) (maxL := mL) (ret := ret) hy rfl ?_
  intro p e s m args below meth c s₁ B hml hv
  obtain ⟨rfl, hP, hz, hK⟩ := hv
  have hts := atoms_spec (ws := zWs y cc mL ret) B.pre
  have hown : s.vm.findClass y.cls = some m.cls := findClass_of_methodNamed B.named
  have hnm := (name_of_methodNamed B.named B.method).1
  have hl := lv_entry (as.map (zv G)) (n := mL) (by rw [← (zlay_ok (G := G) as).1]; exact hm)
  rw [lg_entry_eq]
  generalize (lg_sl (as.map (zv G)) ++ List.replicate (mL - (lg_sl (as.map (zv G))).length) Slot.unset).toArray = ls at hl ⊢
  refine k p l e s m _ below meth c s.heap [] ls ⟨B.exec, B.bytes, B.returns, hml, B.notSynchronized, hown, hnm, fun w hw => hts w (List.mem_cons_of_mem _ hw), hK⟩ hP ⟨hz.1, hz.2⟩ va_S.rf ?_
  refine ⟨hl.1, hl.2.1, ?_, fun i x hx => ?_⟩
  · rw [← hlv]; simp; omega
  · rw [← hlv] at hx
    by_cases h1 : i < (zlay as).length
    · rw [List.getElem?_append_left h1] at hx
      have h2 := (zlay_ok (G := G) as).2 0 i x hx
      rw [Nat.zero_add] at h2
      exact hl.2.2 _ h2
    · rw [List.getElem?_append_right (by omega)] at hx
      have := List.eq_of_mem_replicate (List.mem_of_getElem? hx)
      cases this
/-- what a call asks of the callee's words -/
def zMd (y' : MethodName) (cc' : ByteArray) (mL' : Nat) (ret' : Option FieldType) (n : Nat) : Prop := Cond.code y' cc' mL' ret' ∈ zT ∧ Cond.initialized y'.cls ∈ zT ∧ (y'.cls ≠ "java/lang/invoke/MethodHandle" ∧ y'.cls ≠ "java/lang/invoke/VarHandle" ∧ (parseMethodDescriptor y'.desc).map (fun d => d.parameters.length) = some n) ∧ mL' ≤ 12
theorem zGood {y' : MethodName} {cc' : ByteArray} {mL' : Nat} {ret' : Option FieldType} (h : Cond.code y' cc' mL' ret' ∈ zT) : GoodIn zT (zWs y' cc' mL' ret') := by
  intro x hx
  have hm : x ∈ zT := by
    rcases List.mem_cons.mp hx with rfl | h2
    · exact h
    · exact h2
  exact ⟨hm, good_of_word (List.mem_filter.mp hm).2⟩
theorem zP_blind {w : zW} {as : List Value} : FrameBlind (va_Pc as (zP G w)) := by
  intro a U g mk hp
  obtain ⟨h1, h2, h3, h4⟩ := hp
  refine ⟨h1, h2, h3, ?_⟩
  have e1 : (U.calling g mk a).vm = U.vm := rfl
  obtain ⟨k1, k2, k3, k4, k5, k6, k7, k8, k9, k10, k11⟩ := h4
  have hal : U.vm.Alike (U.calling g mk a).vm := Vm.Alike.refl U.vm
  exact ⟨va_K.moved hal k1, va_X.moved hal k2, k3, fun q hq => va_Nw.same rfl e1.symm (k4 q hq), va_AO.moved hal k5, va_AO.moved hal k6, zAO_moved hal k7, vk_R.same e1 k8, vk_S.moved hal k9, va_Z.moved hal k10, va_Zq.moved hal k11⟩
theorem zPre {p : Program} {l : Launch} {e : Env} {s : State} {m : MethodId} {args : Array Value} {below : List Frame} {meth : Method} {c : Code} {T : State} {H : Heap} {locs : List Loc} {as : List Value} (hK : zK G s) (hP : va_P G.1 zCl (zs G w) H) (hz : s.heap.size + u = G.2.2.1 + w.2.2.2.length ∧ w.2.2.2.length ≤ 1000) (hS : va_S (zA0 G) s.heap H locs) (hT : T.heap = H) (h0 : G.2.2.1 ≤ s.heap.size) (X : Stand p l e R s m args below meth c T locs u v) : ∀ U : State, U.heap = H → s.WarmedH U.vm → va_Pc as (zP G w) as.toArray U := by
  intro U hU hW
  refine ⟨rfl, by rw [hU]; exact hP, ⟨by rw [hU]; exact z_size hP hz.1 hT X h0, hz.2⟩, zK_moved hW hS hU hK⟩

theorem z_after {p : Program} {l : Launch} {e : Env} {s : State} {m : MethodId} {args : Array Value} {below : List Frame} {meth : Method} {c : Code} {H : Heap} {locs : List Loc} {ls : Array Slot} {mc ms : Nat} {g : JFrame} {rest : List Value} {a : Array Value} {T : State} {st0 : List Value}
    (hr : va_Run p l e R s m args below meth c H locs u v mc ms (F0 m pc ls st0) (rest.map (zv G)) (zQ G mc Q a) (zA0 G)) (hS : va_S (zA0 G) s.heap H locs) (hsz : H.size = s.heap.size + u)
    (C : zC G y cc mL ret p s m args meth c) (hl : zH G ls mL lv) (k : ∀ (r : Option Value) (w' : zW), Q r w' → zA G y cc mL ret R Z (pc + 3) lv (r.toList ++ rest) w' (u + mc) (v + ms)) (hT : T.heap = H) (X : Stand p l e R s m args below meth c T locs u v) :
    ∃ t, Steps p.tables e below (T.setTop (F0 m pc ls st0)) t ∧ Z below args s t := by
  obtain ⟨v', st₀, t, T', L, h0, X', hL, e1, e2, ⟨⟨r, w', hv, hq, hP', hz'⟩, hf1, hf2⟩, hgo⟩ := hr T hT X
  rw [h0] at hf1 hf2 hz'
  have hv2 : v' = r.map (zv G) := by cases hv; rfl
  subst hv2
  have hS' : va_S (zA0 G) s.heap T'.heap (locs ++ L) := by
    refine ⟨by rw [e1]; exact Nat.le_trans hS.1 hf1, fun q h1 h2 => ?_, fun q hq => ?_⟩
    · rw [e1, hf2 q (Nat.lt_of_lt_of_le h1 hS.1) h2]
      exact hS.2.1 q h1 h2
    · rcases List.mem_append.mp hq with h | h
      · exact hS.2.2 q h
      · exact hL q h
  obtain ⟨t2, a1, b1⟩ := k r w' hq p l e s m args below meth c T'.heap (locs ++ L) ls C (by rw [e1]; exact hP') ⟨by omega, hz'.2⟩ hS' hl T' rfl X'
  refine ⟨t2, hgo t2 ?_, b1⟩
  have e3 : (r.toList ++ rest).map (zv G) = (r.map (zv G)).toList ++ rest.map (zv G) := by cases r <;> simp
  rw [e3] at a1
  exact a1
/-- a virtual call -/
def zCv (own : String) (idx : Nat) (y' : MethodName) (cc' : ByteArray) (mL' : Nat) (ret' : Option FieldType) (n ci N : Nat) : Prop := zMd y' cc' mL' ret' n ∧ Cond.methodLink own idx y' ∈ zT ∧ Cond.instanceMethod y' ∈ zT ∧ Cond.selects y'.cls y' y' ∈ zT ∧ (∃ T, zCl[ci]? = some (y'.cls, T, N)) ∧ ci < 100
theorem z_callV {y' : MethodName} {cc' : ByteArray} {mL' idx n ci N d mc ms a : Nat} {ret' : Option FieldType} {As rest : List Value} (hd : decode cc pc = .ok (.invokevirtual idx, 3)) (hk : zCv y.cls idx y' cc' mL' ret' n ci N) (hs : w.2.2.2[a]? = some (ci, N)) (E : zE G y' cc' mL' ret' d mc ms (.ref a :: As) w Q)
    (hR : d + 1 ≤ R.frames ∧ 31 + 40 * d ≤ R.locals ∧ u + mc ≤ R.cells ∧ v + ms ≤ R.slots) (hn : As.length = n) (hw : (rest.map (fun x => x.category)).sum ≤ 8)
    (k : ∀ (r : Option Value) (w' : zW), Q r w' → zA G y cc mL ret R Z (pc + 3) lv (r.toList ++ rest) w' (u + mc) (v + ms)) : zA G y cc mL ret R Z pc lv (As.reverse ++ .ref a :: rest) w u v := by
  intro p l e s m args below meth c H locs ls C hP hz hS hl
  intro T hT X
  obtain ⟨⟨m1, m2, m3, m4⟩, l1, l2, l3, ⟨Tc, hc⟩, hci⟩ := hk
  have hts := C.2.2.2.2.2.2.2.1
  have h0 : G.2.2.1 ≤ s.heap.size := C.2.2.2.2.2.2.2.2.2.2.1.2
  have hsz := z_size hP hz.1 hT X h0
  have he := zs_at (G := G) hs
  rw [zc_obj hci] at he
  have hrun := va_runV (p := p) (e := e) (below := below) (meth := meth) (g := F0 m pc ls ((As.reverse ++ .ref a :: rest).map (zv G))) (rest := rest.map (zv G)) (As := As.map (zv G)) (b := zr G a) (Ts := zT) (C := y'.cls) (cells := u) (slots := v) (locs := locs) (H := H) ⟨C.1, C.2.1, C.2.2.2.1, C.2.2.2.2.2.1, hts⟩ (E l)
    ⟨callB_of n hts (zGood m1) rfl rfl rfl (hts _ m2) (hts _ l1) m3 ⟨hR.1, by show 8 + (mL' + 11) + 40 * d ≤ R.locals; omega⟩, hts _ l2, hts _ l3⟩
    ⟨zP_blind, by rw [zr_lt (zl_lt hs hz.2)]; exact va_recv C.2.2.2.2.2.2.2.2.1 hP hc he, zPre C.2.2.2.2.2.2.2.2 hP hz hS hT h0 X⟩ rfl (by simpa using hn) (hl.1) (by simp; rfl) (by show 2 * 0 + _ ≤ 8; simp only [List.map_map, Function.comp_def, zv_cat]; omega) hd ⟨hR.2.2.1, hR.2.2.2⟩
  exact z_after (g := F0 m pc ls []) hrun hS (by omega) C hl k hT X
/-- a static call -/
def zCs (own : String) (idx : Nat) (y' : MethodName) (cc' : ByteArray) (mL' : Nat) (ret' : Option FieldType) (n : Nat) : Prop := zMd y' cc' mL' ret' n ∧ Cond.methodLink own idx y' ∈ zT ∧ Cond.static y' ∈ zT
theorem z_callS {y' : MethodName} {cc' : ByteArray} {mL' idx n d mc ms : Nat} {ret' : Option FieldType} {As rest : List Value} (hd : decode cc pc = .ok (.invokestatic idx, 3)) (hk : zCs y.cls idx y' cc' mL' ret' n) (E : zE G y' cc' mL' ret' d mc ms As w Q)
    (hR : d + 1 ≤ R.frames ∧ 31 + 40 * d ≤ R.locals ∧ u + mc ≤ R.cells ∧ v + ms ≤ R.slots) (hn : As.length = n) (hw : (rest.map (fun x => x.category)).sum ≤ 8)
    (k : ∀ (r : Option Value) (w' : zW), Q r w' → zA G y cc mL ret R Z (pc + 3) lv (r.toList ++ rest) w' (u + mc) (v + ms)) : zA G y cc mL ret R Z pc lv (As.reverse ++ rest) w u v := by
  intro p l e s m args below meth c H locs ls C hP hz hS hl
  intro T hT X
  obtain ⟨⟨m1, m2, m3, m4⟩, l1, l2⟩ := hk
  have hts := C.2.2.2.2.2.2.2.1
  have h0 : G.2.2.1 ≤ s.heap.size := C.2.2.2.2.2.2.2.2.2.2.1.2
  have hsz := z_size hP hz.1 hT X h0
  have hrun := va_runS (p := p) (e := e) (below := below) (meth := meth) (g := F0 m pc ls ((As.reverse ++ rest).map (zv G))) (rest := rest.map (zv G)) (As := As.map (zv G)) (Ts := zT) (cells := u) (slots := v) (locs := locs) (H := H) ⟨C.1, C.2.1, C.2.2.2.1, C.2.2.2.2.2.1, hts⟩ (E l)
    ⟨callB_of n hts (zGood m1) rfl rfl rfl (hts _ m2) (hts _ l1) m3 ⟨hR.1, by show 8 + (mL' + 11) + 40 * d ≤ R.locals; omega⟩, hts _ l2⟩
    ⟨zP_blind, zPre C.2.2.2.2.2.2.2.2 hP hz hS hT h0 X⟩ rfl (by simpa using hn) (hl.1) (by simp) (by show 2 * 0 + _ ≤ 8; simp only [List.map_map, Function.comp_def, zv_cat]; omega) hd ⟨hR.2.2.1, hR.2.2.2⟩
  exact z_after (g := F0 m pc ls []) hrun hS (by omega) C hl k hT X
/-- a constructor's call -/
def zCi (own : String) (idx : Nat) (y' : MethodName) (cc' : ByteArray) (mL' : Nat) (n : Nat) : Prop := zMd y' cc' mL' none n ∧ y'.name = "<init>" ∧ Cond.instanceMethod y' ∈ zT ∧ (Cond.methodLink own idx y' ∈ zT ∨ (own, idx, y', "TinFen") ∈ zNL)
theorem z_callI {y' : MethodName} {cc' : ByteArray} {mL' idx n d mc ms a : Nat} {As rest : List Value} (hd : decode cc pc = .ok (.invokespecial idx, 3)) (hk : zCi y.cls idx y' cc' mL' n) (ha : a < w.2.2.2.length) (E : zE G y' cc' mL' none d mc ms (.ref a :: As) w Q)
    (hR : d + 1 ≤ R.frames ∧ 31 + 40 * d ≤ R.locals ∧ u + mc ≤ R.cells ∧ v + ms ≤ R.slots) (hn : As.length = n) (hw : (rest.map (fun x => x.category)).sum ≤ 8)
    (k : ∀ (r : Option Value) (w' : zW), Q r w' → zA G y cc mL ret R Z (pc + 3) lv (r.toList ++ rest) w' (u + mc) (v + ms)) : zA G y cc mL ret R Z pc lv (As.reverse ++ .ref a :: rest) w u v := by
  intro p l e s m args below meth c H locs ls C hP hz hS hl
  intro T hT X
  obtain ⟨⟨m1, m2, m3, m4⟩, l1, l2, l3⟩ := hk
  have hts := C.2.2.2.2.2.2.2.1
  have h0 : G.2.2.1 ≤ s.heap.size := C.2.2.2.2.2.2.2.2.2.2.1.2
  have hsz := z_size hP hz.1 hT X h0
  rcases l3 with l3 | l3
  · have hrun := va_runI (p := p) (e := e) (below := below) (meth := meth) (g := F0 m pc ls ((As.reverse ++ .ref a :: rest).map (zv G))) (rest := rest.map (zv G)) (As := As.map (zv G)) (b := zr G a) (Ts := zT) (cells := u) (slots := v) (locs := locs) (H := H) ⟨C.1, C.2.1, C.2.2.2.1, C.2.2.2.2.2.1, hts⟩ (E l)
      ⟨callB_of n hts (zGood m1) rfl rfl rfl (hts _ m2) (hts _ l3) m3 ⟨hR.1, by show 8 + (mL' + 11) + 40 * d ≤ R.locals; omega⟩, l1, hts _ l2⟩
      ⟨zP_blind, zPre C.2.2.2.2.2.2.2.2 hP hz hS hT h0 X⟩ rfl (by simpa using hn) (hl.1) (by simp; rfl) (by show 2 * 0 + _ ≤ 8; simp only [List.map_map, Function.comp_def, zv_cat]; omega) hd ⟨hR.2.2.1, hR.2.2.2⟩
    exact z_after (g := F0 m pc ls []) hrun hS (by omega) C hl k hT X
  · have hrun := va_runIN (p := p) (e := e) (below := below) (meth := meth) (g := F0 m pc ls ((As.reverse ++ .ref a :: rest).map (zv G))) (rest := rest.map (zv G)) (As := As.map (zv G)) (b := zr G a) (Ts := zT) (cells := u) (slots := v) (locs := locs) (H := H) ⟨C.1, C.2.1, C.2.2.2.1, C.2.2.2.2.2.1, hts⟩ (E l)
      ⟨va_cnB n hts (zGood m1) rfl rfl rfl (C.2.2.2.2.2.2.2.2.2.2.2.1 _ l3) (hts _ m2) m3 ⟨hR.1, by show 8 + (mL' + 11) + 40 * d ≤ R.locals; omega⟩, l1, hts _ l2⟩
      ⟨zP_blind, zPre C.2.2.2.2.2.2.2.2 hP hz hS hT h0 X⟩ rfl (by simpa using hn) (hl.1) (by simp; rfl) (by show 2 * 0 + _ ≤ 8; simp only [List.map_map, Function.comp_def, zv_cat]; omega) hd ⟨hR.2.2.1, hR.2.2.2⟩
    exact z_after (g := F0 m pc ls []) hrun hS (by omega) C hl k hT X
/-- contracts by their answer's sort -/
def zEi (G : zG) (y : MethodName) (cc : ByteArray) (mL : Nat) (ret : Option FieldType) (d : Nat) (as : List Value) (w : zW) (Q : Int32 → zW → Prop) : Prop := zE G y cc mL ret d 0 0 as w (fun r w' => ∃ x, r = some (.int x) ∧ Q x w')
def zEl (G : zG) (y : MethodName) (cc : ByteArray) (mL : Nat) (ret : Option FieldType) (d : Nat) (as : List Value) (w : zW) (Q : Int64 → zW → Prop) : Prop := zE G y cc mL ret d 0 0 as w (fun r w' => ∃ x, r = some (.long x) ∧ Q x w')
def zEv (G : zG) (y : MethodName) (cc : ByteArray) (mL : Nat) (d mc ms : Nat) (as : List Value) (w : zW) (Q : zW → Prop) : Prop := zE G y cc mL none d mc ms as w (fun r w' => r = none ∧ Q w')

theorem z_Vi0 {y' : MethodName} {cc' : ByteArray} {mL' idx ci N d a : Nat} {ret' : Option FieldType} {Q0 : Int32 → zW → Prop} (hd : decode cc pc = .ok (.invokevirtual idx, 3)) (hk : zCv y.cls idx y' cc' mL' ret' 0 ci N) (hs : w.2.2.2[a]? = some (ci, N)) (E : zEi G y' cc' mL' ret' d (.ref a :: []) w Q0) (hR : d + 1 ≤ R.frames ∧ 31 + 40 * d ≤ R.locals ∧ u ≤ R.cells ∧ v ≤ R.slots) (hw : (st.map (fun x => x.category)).sum ≤ 8) (k : ∀ (r : Int32) (w' : zW), Q0 r w' → zA G y cc mL ret R Z (pc + 3) lv (.int r :: st) w' u v) : zA G y cc mL ret R Z pc lv (.ref a :: st) w u v :=
  z_callV (As := []) hd hk hs E hR rfl hw (fun r w' hq => by obtain ⟨r0, rfl, hq0⟩ := hq; exact k r0 w' hq0)
theorem z_Si0 {y' : MethodName} {cc' : ByteArray} {mL' idx d : Nat} {ret' : Option FieldType} {Q0 : Int32 → zW → Prop} (hd : decode cc pc = .ok (.invokestatic idx, 3)) (hk : zCs y.cls idx y' cc' mL' ret' 0) (E : zEi G y' cc' mL' ret' d [] w Q0) (hR : d + 1 ≤ R.frames ∧ 31 + 40 * d ≤ R.locals ∧ u ≤ R.cells ∧ v ≤ R.slots) (hw : (st.map (fun x => x.category)).sum ≤ 8) (k : ∀ (r : Int32) (w' : zW), Q0 r w' → zA G y cc mL ret R Z (pc + 3) lv (.int r :: st) w' u v) : zA G y cc mL ret R Z pc lv (st) w u v :=
  z_callS (As := []) hd hk E hR rfl hw (fun r w' hq => by obtain ⟨r0, rfl, hq0⟩ := hq; exact k r0 w' hq0)
theorem z_Vl0 {y' : MethodName} {cc' : ByteArray} {mL' idx ci N d a : Nat} {ret' : Option FieldType} {Q0 : Int64 → zW → Prop} (hd : decode cc pc = .ok (.invokevirtual idx, 3)) (hk : zCv y.cls idx y' cc' mL' ret' 0 ci N) (hs : w.2.2.2[a]? = some (ci, N)) (E : zEl G y' cc' mL' ret' d (.ref a :: []) w Q0) (hR : d + 1 ≤ R.frames ∧ 31 + 40 * d ≤ R.locals ∧ u ≤ R.cells ∧ v ≤ R.slots) (hw : (st.map (fun x => x.category)).sum ≤ 8) (k : ∀ (r : Int64) (w' : zW), Q0 r w' → zA G y cc mL ret R Z (pc + 3) lv (.long r :: st) w' u v) : zA G y cc mL ret R Z pc lv (.ref a :: st) w u v :=
  z_callV (As := []) hd hk hs E hR rfl hw (fun r w' hq => by obtain ⟨r0, rfl, hq0⟩ := hq; exact k r0 w' hq0)
theorem z_Sl0 {y' : MethodName} {cc' : ByteArray} {mL' idx d : Nat} {ret' : Option FieldType} {Q0 : Int64 → zW → Prop} (hd : decode cc pc = .ok (.invokestatic idx, 3)) (hk : zCs y.cls idx y' cc' mL' ret' 0) (E : zEl G y' cc' mL' ret' d [] w Q0) (hR : d + 1 ≤ R.frames ∧ 31 + 40 * d ≤ R.locals ∧ u ≤ R.cells ∧ v ≤ R.slots) (hw : (st.map (fun x => x.category)).sum ≤ 8) (k : ∀ (r : Int64) (w' : zW), Q0 r w' → zA G y cc mL ret R Z (pc + 3) lv (.long r :: st) w' u v) : zA G y cc mL ret R Z pc lv (st) w u v :=
  z_callS (As := []) hd hk E hR rfl hw (fun r w' hq => by obtain ⟨r0, rfl, hq0⟩ := hq; exact k r0 w' hq0)
theorem z_Vv0 {y' : MethodName} {cc' : ByteArray} {mL' idx ci N d a : Nat} {Q0 : zW → Prop} (hd : decode cc pc = .ok (.invokevirtual idx, 3)) (hk : zCv y.cls idx y' cc' mL' none 0 ci N) (hs : w.2.2.2[a]? = some (ci, N)) (E : zEv G y' cc' mL' d 0 0 (.ref a :: []) w Q0) (hR : d + 1 ≤ R.frames ∧ 31 + 40 * d ≤ R.locals ∧ u ≤ R.cells ∧ v ≤ R.slots) (hw : (st.map (fun x => x.category)).sum ≤ 8) (k : ∀  (w' : zW), Q0 w' → zA G y cc mL ret R Z (pc + 3) lv (st) w' u v) : zA G y cc mL ret R Z pc lv (.ref a :: st) w u v :=
  z_callV (As := []) hd hk hs E hR rfl hw (fun r w' hq => by obtain ⟨rfl, hq0⟩ := hq; exact k w' hq0)
theorem z_Sv0 {y' : MethodName} {cc' : ByteArray} {mL' idx d : Nat} {Q0 : zW → Prop} (hd : decode cc pc = .ok (.invokestatic idx, 3)) (hk : zCs y.cls idx y' cc' mL' none 0) (E : zEv G y' cc' mL' d 0 0 [] w Q0) (hR : d + 1 ≤ R.frames ∧ 31 + 40 * d ≤ R.locals ∧ u ≤ R.cells ∧ v ≤ R.slots) (hw : (st.map (fun x => x.category)).sum ≤ 8) (k : ∀  (w' : zW), Q0 w' → zA G y cc mL ret R Z (pc + 3) lv (st) w' u v) : zA G y cc mL ret R Z pc lv (st) w u v :=
  z_callS (As := []) hd hk E hR rfl hw (fun r w' hq => by obtain ⟨rfl, hq0⟩ := hq; exact k w' hq0)
theorem z_I0 {y' : MethodName} {cc' : ByteArray} {mL' idx d mc ms a : Nat} {Q0 : zW → Prop} (hd : decode cc pc = .ok (.invokespecial idx, 3)) (hk : zCi y.cls idx y' cc' mL' 0) (ha : a < w.2.2.2.length) (E : zEv G y' cc' mL' d mc ms (.ref a :: []) w Q0) (hR : d + 1 ≤ R.frames ∧ 31 + 40 * d ≤ R.locals ∧ u + mc ≤ R.cells ∧ v + ms ≤ R.slots) (hw : (st.map (fun x => x.category)).sum ≤ 8) (k : ∀ (w' : zW), Q0 w' → zA G y cc mL ret R Z (pc + 3) lv st w' (u + mc) (v + ms)) : zA G y cc mL ret R Z pc lv (.ref a :: st) w u v :=
  z_callI (As := []) hd hk ha E hR rfl hw (fun r w' hq => by obtain ⟨rfl, hq0⟩ := hq; exact k w' hq0)
theorem z_Vi1 {y' : MethodName} {cc' : ByteArray} {mL' idx ci N d a : Nat} {ret' : Option FieldType} {x1 : Value} {Q0 : Int32 → zW → Prop} (hd : decode cc pc = .ok (.invokevirtual idx, 3)) (hk : zCv y.cls idx y' cc' mL' ret' 1 ci N) (hs : w.2.2.2[a]? = some (ci, N)) (E : zEi G y' cc' mL' ret' d (.ref a :: [x1]) w Q0) (hR : d + 1 ≤ R.frames ∧ 31 + 40 * d ≤ R.locals ∧ u ≤ R.cells ∧ v ≤ R.slots) (hw : (st.map (fun x => x.category)).sum ≤ 8) (k : ∀ (r : Int32) (w' : zW), Q0 r w' → zA G y cc mL ret R Z (pc + 3) lv (.int r :: st) w' u v) : zA G y cc mL ret R Z pc lv (x1 :: .ref a :: st) w u v :=
  z_callV (As := [x1]) hd hk hs E hR rfl hw (fun r w' hq => by obtain ⟨r0, rfl, hq0⟩ := hq; exact k r0 w' hq0)
theorem z_Si1 {y' : MethodName} {cc' : ByteArray} {mL' idx d : Nat} {ret' : Option FieldType} {x1 : Value} {Q0 : Int32 → zW → Prop} (hd : decode cc pc = .ok (.invokestatic idx, 3)) (hk : zCs y.cls idx y' cc' mL' ret' 1) (E : zEi G y' cc' mL' ret' d [x1] w Q0) (hR : d + 1 ≤ R.frames ∧ 31 + 40 * d ≤ R.locals ∧ u ≤ R.cells ∧ v ≤ R.slots) (hw : (st.map (fun x => x.category)).sum ≤ 8) (k : ∀ (r : Int32) (w' : zW), Q0 r w' → zA G y cc mL ret R Z (pc + 3) lv (.int r :: st) w' u v) : zA G y cc mL ret R Z pc lv (x1 :: st) w u v :=
  z_callS (As := [x1]) hd hk E hR rfl hw (fun r w' hq => by obtain ⟨r0, rfl, hq0⟩ := hq; exact k r0 w' hq0)
theorem z_Vl1 {y' : MethodName} {cc' : ByteArray} {mL' idx ci N d a : Nat} {ret' : Option FieldType} {x1 : Value} {Q0 : Int64 → zW → Prop} (hd : decode cc pc = .ok (.invokevirtual idx, 3)) (hk : zCv y.cls idx y' cc' mL' ret' 1 ci N) (hs : w.2.2.2[a]? = some (ci, N)) (E : zEl G y' cc' mL' ret' d (.ref a :: [x1]) w Q0) (hR : d + 1 ≤ R.frames ∧ 31 + 40 * d ≤ R.locals ∧ u ≤ R.cells ∧ v ≤ R.slots) (hw : (st.map (fun x => x.category)).sum ≤ 8) (k : ∀ (r : Int64) (w' : zW), Q0 r w' → zA G y cc mL ret R Z (pc + 3) lv (.long r :: st) w' u v) : zA G y cc mL ret R Z pc lv (x1 :: .ref a :: st) w u v :=
  z_callV (As := [x1]) hd hk hs E hR rfl hw (fun r w' hq => by obtain ⟨r0, rfl, hq0⟩ := hq; exact k r0 w' hq0)
theorem z_Sl1 {y' : MethodName} {cc' : ByteArray} {mL' idx d : Nat} {ret' : Option FieldType} {x1 : Value} {Q0 : Int64 → zW → Prop} (hd : decode cc pc = .ok (.invokestatic idx, 3)) (hk : zCs y.cls idx y' cc' mL' ret' 1) (E : zEl G y' cc' mL' ret' d [x1] w Q0) (hR : d + 1 ≤ R.frames ∧ 31 + 40 * d ≤ R.locals ∧ u ≤ R.cells ∧ v ≤ R.slots) (hw : (st.map (fun x => x.category)).sum ≤ 8) (k : ∀ (r : Int64) (w' : zW), Q0 r w' → zA G y cc mL ret R Z (pc + 3) lv (.long r :: st) w' u v) : zA G y cc mL ret R Z pc lv (x1 :: st) w u v :=
  z_callS (As := [x1]) hd hk E hR rfl hw (fun r w' hq => by obtain ⟨r0, rfl, hq0⟩ := hq; exact k r0 w' hq0)
theorem z_Vv1 {y' : MethodName} {cc' : ByteArray} {mL' idx ci N d a : Nat} {x1 : Value} {Q0 : zW → Prop} (hd : decode cc pc = .ok (.invokevirtual idx, 3)) (hk : zCv y.cls idx y' cc' mL' none 1 ci N) (hs : w.2.2.2[a]? = some (ci, N)) (E : zEv G y' cc' mL' d 0 0 (.ref a :: [x1]) w Q0) (hR : d + 1 ≤ R.frames ∧ 31 + 40 * d ≤ R.locals ∧ u ≤ R.cells ∧ v ≤ R.slots) (hw : (st.map (fun x => x.category)).sum ≤ 8) (k : ∀  (w' : zW), Q0 w' → zA G y cc mL ret R Z (pc + 3) lv (st) w' u v) : zA G y cc mL ret R Z pc lv (x1 :: .ref a :: st) w u v :=
  z_callV (As := [x1]) hd hk hs E hR rfl hw (fun r w' hq => by obtain ⟨rfl, hq0⟩ := hq; exact k w' hq0)
theorem z_Sv1 {y' : MethodName} {cc' : ByteArray} {mL' idx d : Nat} {x1 : Value} {Q0 : zW → Prop} (hd : decode cc pc = .ok (.invokestatic idx, 3)) (hk : zCs y.cls idx y' cc' mL' none 1) (E : zEv G y' cc' mL' d 0 0 [x1] w Q0) (hR : d + 1 ≤ R.frames ∧ 31 + 40 * d ≤ R.locals ∧ u ≤ R.cells ∧ v ≤ R.slots) (hw : (st.map (fun x => x.category)).sum ≤ 8) (k : ∀  (w' : zW), Q0 w' → zA G y cc mL ret R Z (pc + 3) lv (st) w' u v) : zA G y cc mL ret R Z pc lv (x1 :: st) w u v :=
  z_callS (As := [x1]) hd hk E hR rfl hw (fun r w' hq => by obtain ⟨rfl, hq0⟩ := hq; exact k w' hq0)
theorem z_I1 {y' : MethodName} {cc' : ByteArray} {mL' idx d mc ms a : Nat} {x1 : Value} {Q0 : zW → Prop} (hd : decode cc pc = .ok (.invokespecial idx, 3)) (hk : zCi y.cls idx y' cc' mL' 1) (ha : a < w.2.2.2.length) (E : zEv G y' cc' mL' d mc ms (.ref a :: [x1]) w Q0) (hR : d + 1 ≤ R.frames ∧ 31 + 40 * d ≤ R.locals ∧ u + mc ≤ R.cells ∧ v + ms ≤ R.slots) (hw : (st.map (fun x => x.category)).sum ≤ 8) (k : ∀ (w' : zW), Q0 w' → zA G y cc mL ret R Z (pc + 3) lv st w' (u + mc) (v + ms)) : zA G y cc mL ret R Z pc lv (x1 :: .ref a :: st) w u v :=
  z_callI (As := [x1]) hd hk ha E hR rfl hw (fun r w' hq => by obtain ⟨rfl, hq0⟩ := hq; exact k w' hq0)
theorem z_Vi2 {y' : MethodName} {cc' : ByteArray} {mL' idx ci N d a : Nat} {ret' : Option FieldType} {x1 x2 : Value} {Q0 : Int32 → zW → Prop} (hd : decode cc pc = .ok (.invokevirtual idx, 3)) (hk : zCv y.cls idx y' cc' mL' ret' 2 ci N) (hs : w.2.2.2[a]? = some (ci, N)) (E : zEi G y' cc' mL' ret' d (.ref a :: [x1, x2]) w Q0) (hR : d + 1 ≤ R.frames ∧ 31 + 40 * d ≤ R.locals ∧ u ≤ R.cells ∧ v ≤ R.slots) (hw : (st.map (fun x => x.category)).sum ≤ 8) (k : ∀ (r : Int32) (w' : zW), Q0 r w' → zA G y cc mL ret R Z (pc + 3) lv (.int r :: st) w' u v) : zA G y cc mL ret R Z pc lv (x2 :: x1 :: .ref a :: st) w u v :=
  z_callV (As := [x1, x2]) hd hk hs E hR rfl hw (fun r w' hq => by obtain ⟨r0, rfl, hq0⟩ := hq; exact k r0 w' hq0)
theorem z_Si2 {y' : MethodName} {cc' : ByteArray} {mL' idx d : Nat} {ret' : Option FieldType} {x1 x2 : Value} {Q0 : Int32 → zW → Prop} (hd : decode cc pc = .ok (.invokestatic idx, 3)) (hk : zCs y.cls idx y' cc' mL' ret' 2) (E : zEi G y' cc' mL' ret' d [x1, x2] w Q0) (hR : d + 1 ≤ R.frames ∧ 31 + 40 * d ≤ R.locals ∧ u ≤ R.cells ∧ v ≤ R.slots) (hw : (st.map (fun x => x.category)).sum ≤ 8) (k : ∀ (r : Int32) (w' : zW), Q0 r w' → zA G y cc mL ret R Z (pc + 3) lv (.int r :: st) w' u v) : zA G y cc mL ret R Z pc lv (x2 :: x1 :: st) w u v :=
  z_callS (As := [x1, x2]) hd hk E hR rfl hw (fun r w' hq => by obtain ⟨r0, rfl, hq0⟩ := hq; exact k r0 w' hq0)
theorem z_Vl2 {y' : MethodName} {cc' : ByteArray} {mL' idx ci N d a : Nat} {ret' : Option FieldType} {x1 x2 : Value} {Q0 : Int64 → zW → Prop} (hd : decode cc pc = .ok (.invokevirtual idx, 3)) (hk : zCv y.cls idx y' cc' mL' ret' 2 ci N) (hs : w.2.2.2[a]? = some (ci, N)) (E : zEl G y' cc' mL' ret' d (.ref a :: [x1, x2]) w Q0) (hR : d + 1 ≤ R.frames ∧ 31 + 40 * d ≤ R.locals ∧ u ≤ R.cells ∧ v ≤ R.slots) (hw : (st.map (fun x => x.category)).sum ≤ 8) (k : ∀ (r : Int64) (w' : zW), Q0 r w' → zA G y cc mL ret R Z (pc + 3) lv (.long r :: st) w' u v) : zA G y cc mL ret R Z pc lv (x2 :: x1 :: .ref a :: st) w u v :=
  z_callV (As := [x1, x2]) hd hk hs E hR rfl hw (fun r w' hq => by obtain ⟨r0, rfl, hq0⟩ := hq; exact k r0 w' hq0)
theorem z_Sl2 {y' : MethodName} {cc' : ByteArray} {mL' idx d : Nat} {ret' : Option FieldType} {x1 x2 : Value} {Q0 : Int64 → zW → Prop} (hd : decode cc pc = .ok (.invokestatic idx, 3)) (hk : zCs y.cls idx y' cc' mL' ret' 2) (E : zEl G y' cc' mL' ret' d [x1, x2] w Q0) (hR : d + 1 ≤ R.frames ∧ 31 + 40 * d ≤ R.locals ∧ u ≤ R.cells ∧ v ≤ R.slots) (hw : (st.map (fun x => x.category)).sum ≤ 8) (k : ∀ (r : Int64) (w' : zW), Q0 r w' → zA G y cc mL ret R Z (pc + 3) lv (.long r :: st) w' u v) : zA G y cc mL ret R Z pc lv (x2 :: x1 :: st) w u v :=
  z_callS (As := [x1, x2]) hd hk E hR rfl hw (fun r w' hq => by obtain ⟨r0, rfl, hq0⟩ := hq; exact k r0 w' hq0)
theorem z_Vv2 {y' : MethodName} {cc' : ByteArray} {mL' idx ci N d a : Nat} {x1 x2 : Value} {Q0 : zW → Prop} (hd : decode cc pc = .ok (.invokevirtual idx, 3)) (hk : zCv y.cls idx y' cc' mL' none 2 ci N) (hs : w.2.2.2[a]? = some (ci, N)) (E : zEv G y' cc' mL' d 0 0 (.ref a :: [x1, x2]) w Q0) (hR : d + 1 ≤ R.frames ∧ 31 + 40 * d ≤ R.locals ∧ u ≤ R.cells ∧ v ≤ R.slots) (hw : (st.map (fun x => x.category)).sum ≤ 8) (k : ∀  (w' : zW), Q0 w' → zA G y cc mL ret R Z (pc + 3) lv (st) w' u v) : zA G y cc mL ret R Z pc lv (x2 :: x1 :: .ref a :: st) w u v :=
  z_callV (As := [x1, x2]) hd hk hs E hR rfl hw (fun r w' hq => by obtain ⟨rfl, hq0⟩ := hq; exact k w' hq0)
theorem z_Sv2 {y' : MethodName} {cc' : ByteArray} {mL' idx d : Nat} {x1 x2 : Value} {Q0 : zW → Prop} (hd : decode cc pc = .ok (.invokestatic idx, 3)) (hk : zCs y.cls idx y' cc' mL' none 2) (E : zEv G y' cc' mL' d 0 0 [x1, x2] w Q0) (hR : d + 1 ≤ R.frames ∧ 31 + 40 * d ≤ R.locals ∧ u ≤ R.cells ∧ v ≤ R.slots) (hw : (st.map (fun x => x.category)).sum ≤ 8) (k : ∀  (w' : zW), Q0 w' → zA G y cc mL ret R Z (pc + 3) lv (st) w' u v) : zA G y cc mL ret R Z pc lv (x2 :: x1 :: st) w u v :=
  z_callS (As := [x1, x2]) hd hk E hR rfl hw (fun r w' hq => by obtain ⟨rfl, hq0⟩ := hq; exact k w' hq0)
theorem z_I2 {y' : MethodName} {cc' : ByteArray} {mL' idx d mc ms a : Nat} {x1 x2 : Value} {Q0 : zW → Prop} (hd : decode cc pc = .ok (.invokespecial idx, 3)) (hk : zCi y.cls idx y' cc' mL' 2) (ha : a < w.2.2.2.length) (E : zEv G y' cc' mL' d mc ms (.ref a :: [x1, x2]) w Q0) (hR : d + 1 ≤ R.frames ∧ 31 + 40 * d ≤ R.locals ∧ u + mc ≤ R.cells ∧ v + ms ≤ R.slots) (hw : (st.map (fun x => x.category)).sum ≤ 8) (k : ∀ (w' : zW), Q0 w' → zA G y cc mL ret R Z (pc + 3) lv st w' (u + mc) (v + ms)) : zA G y cc mL ret R Z pc lv (x2 :: x1 :: .ref a :: st) w u v :=
  z_callI (As := [x1, x2]) hd hk ha E hR rfl hw (fun r w' hq => by obtain ⟨rfl, hq0⟩ := hq; exact k w' hq0)
theorem z_Vi3 {y' : MethodName} {cc' : ByteArray} {mL' idx ci N d a : Nat} {ret' : Option FieldType} {x1 x2 x3 : Value} {Q0 : Int32 → zW → Prop} (hd : decode cc pc = .ok (.invokevirtual idx, 3)) (hk : zCv y.cls idx y' cc' mL' ret' 3 ci N) (hs : w.2.2.2[a]? = some (ci, N)) (E : zEi G y' cc' mL' ret' d (.ref a :: [x1, x2, x3]) w Q0) (hR : d + 1 ≤ R.frames ∧ 31 + 40 * d ≤ R.locals ∧ u ≤ R.cells ∧ v ≤ R.slots) (hw : (st.map (fun x => x.category)).sum ≤ 8) (k : ∀ (r : Int32) (w' : zW), Q0 r w' → zA G y cc mL ret R Z (pc + 3) lv (.int r :: st) w' u v) : zA G y cc mL ret R Z pc lv (x3 :: x2 :: x1 :: .ref a :: st) w u v :=
  z_callV (As := [x1, x2, x3]) hd hk hs E hR rfl hw (fun r w' hq => by obtain ⟨r0, rfl, hq0⟩ := hq; exact k r0 w' hq0)
theorem z_Si3 {y' : MethodName} {cc' : ByteArray} {mL' idx d : Nat} {ret' : Option FieldType} {x1 x2 x3 : Value} {Q0 : Int32 → zW → Prop} (hd : decode cc pc = .ok (.invokestatic idx, 3)) (hk : zCs y.cls idx y' cc' mL' ret' 3) (E : zEi G y' cc' mL' ret' d [x1, x2, x3] w Q0) (hR : d + 1 ≤ R.frames ∧ 31 + 40 * d ≤ R.locals ∧ u ≤ R.cells ∧ v ≤ R.slots) (hw : (st.map (fun x => x.category)).sum ≤ 8) (k : ∀ (r : Int32) (w' : zW), Q0 r w' → zA G y cc mL ret R Z (pc + 3) lv (.int r :: st) w' u v) : zA G y cc mL ret R Z pc lv (x3 :: x2 :: x1 :: st) w u v :=
  z_callS (As := [x1, x2, x3]) hd hk E hR rfl hw (fun r w' hq => by obtain ⟨r0, rfl, hq0⟩ := hq; exact k r0 w' hq0)
theorem z_Vl3 {y' : MethodName} {cc' : ByteArray} {mL' idx ci N d a : Nat} {ret' : Option FieldType} {x1 x2 x3 : Value} {Q0 : Int64 → zW → Prop} (hd : decode cc pc = .ok (.invokevirtual idx, 3)) (hk : zCv y.cls idx y' cc' mL' ret' 3 ci N) (hs : w.2.2.2[a]? = some (ci, N)) (E : zEl G y' cc' mL' ret' d (.ref a :: [x1, x2, x3]) w Q0) (hR : d + 1 ≤ R.frames ∧ 31 + 40 * d ≤ R.locals ∧ u ≤ R.cells ∧ v ≤ R.slots) (hw : (st.map (fun x => x.category)).sum ≤ 8) (k : ∀ (r : Int64) (w' : zW), Q0 r w' → zA G y cc mL ret R Z (pc + 3) lv (.long r :: st) w' u v) : zA G y cc mL ret R Z pc lv (x3 :: x2 :: x1 :: .ref a :: st) w u v :=
  z_callV (As := [x1, x2, x3]) hd hk hs E hR rfl hw (fun r w' hq => by obtain ⟨r0, rfl, hq0⟩ := hq; exact k r0 w' hq0)
theorem z_Sl3 {y' : MethodName} {cc' : ByteArray} {mL' idx d : Nat} {ret' : Option FieldType} {x1 x2 x3 : Value} {Q0 : Int64 → zW → Prop} (hd : decode cc pc = .ok (.invokestatic idx, 3)) (hk : zCs y.cls idx y' cc' mL' ret' 3) (E : zEl G y' cc' mL' ret' d [x1, x2, x3] w Q0) (hR : d + 1 ≤ R.frames ∧ 31 + 40 * d ≤ R.locals ∧ u ≤ R.cells ∧ v ≤ R.slots) (hw : (st.map (fun x => x.category)).sum ≤ 8) (k : ∀ (r : Int64) (w' : zW), Q0 r w' → zA G y cc mL ret R Z (pc + 3) lv (.long r :: st) w' u v) : zA G y cc mL ret R Z pc lv (x3 :: x2 :: x1 :: st) w u v :=
  z_callS (As := [x1, x2, x3]) hd hk E hR rfl hw (fun r w' hq => by obtain ⟨r0, rfl, hq0⟩ := hq; exact k r0 w' hq0)
theorem z_Vv3 {y' : MethodName} {cc' : ByteArray} {mL' idx ci N d a : Nat} {x1 x2 x3 : Value} {Q0 : zW → Prop} (hd : decode cc pc = .ok (.invokevirtual idx, 3)) (hk : zCv y.cls idx y' cc' mL' none 3 ci N) (hs : w.2.2.2[a]? = some (ci, N)) (E : zEv G y' cc' mL' d 0 0 (.ref a :: [x1, x2, x3]) w Q0) (hR : d + 1 ≤ R.frames ∧ 31 + 40 * d ≤ R.locals ∧ u ≤ R.cells ∧ v ≤ R.slots) (hw : (st.map (fun x => x.category)).sum ≤ 8) (k : ∀  (w' : zW), Q0 w' → zA G y cc mL ret R Z (pc + 3) lv (st) w' u v) : zA G y cc mL ret R Z pc lv (x3 :: x2 :: x1 :: .ref a :: st) w u v :=
  z_callV (As := [x1, x2, x3]) hd hk hs E hR rfl hw (fun r w' hq => by obtain ⟨rfl, hq0⟩ := hq; exact k w' hq0)
theorem z_Sv3 {y' : MethodName} {cc' : ByteArray} {mL' idx d : Nat} {x1 x2 x3 : Value} {Q0 : zW → Prop} (hd : decode cc pc = .ok (.invokestatic idx, 3)) (hk : zCs y.cls idx y' cc' mL' none 3) (E : zEv G y' cc' mL' d 0 0 [x1, x2, x3] w Q0) (hR : d + 1 ≤ R.frames ∧ 31 + 40 * d ≤ R.locals ∧ u ≤ R.cells ∧ v ≤ R.slots) (hw : (st.map (fun x => x.category)).sum ≤ 8) (k : ∀  (w' : zW), Q0 w' → zA G y cc mL ret R Z (pc + 3) lv (st) w' u v) : zA G y cc mL ret R Z pc lv (x3 :: x2 :: x1 :: st) w u v :=
  z_callS (As := [x1, x2, x3]) hd hk E hR rfl hw (fun r w' hq => by obtain ⟨rfl, hq0⟩ := hq; exact k w' hq0)
theorem z_Vi4 {y' : MethodName} {cc' : ByteArray} {mL' idx ci N d a : Nat} {ret' : Option FieldType} {x1 x2 x3 x4 : Value} {Q0 : Int32 → zW → Prop} (hd : decode cc pc = .ok (.invokevirtual idx, 3)) (hk : zCv y.cls idx y' cc' mL' ret' 4 ci N) (hs : w.2.2.2[a]? = some (ci, N)) (E : zEi G y' cc' mL' ret' d (.ref a :: [x1, x2, x3, x4]) w Q0) (hR : d + 1 ≤ R.frames ∧ 31 + 40 * d ≤ R.locals ∧ u ≤ R.cells ∧ v ≤ R.slots) (hw : (st.map (fun x => x.category)).sum ≤ 8) (k : ∀ (r : Int32) (w' : zW), Q0 r w' → zA G y cc mL ret R Z (pc + 3) lv (.int r :: st) w' u v) : zA G y cc mL ret R Z pc lv (x4 :: x3 :: x2 :: x1 :: .ref a :: st) w u v :=
  z_callV (As := [x1, x2, x3, x4]) hd hk hs E hR rfl hw (fun r w' hq => by obtain ⟨r0, rfl, hq0⟩ := hq; exact k r0 w' hq0)
theorem z_Si4 {y' : MethodName} {cc' : ByteArray} {mL' idx d : Nat} {ret' : Option FieldType} {x1 x2 x3 x4 : Value} {Q0 : Int32 → zW → Prop} (hd : decode cc pc = .ok (.invokestatic idx, 3)) (hk : zCs y.cls idx y' cc' mL' ret' 4) (E : zEi G y' cc' mL' ret' d [x1, x2, x3, x4] w Q0) (hR : d + 1 ≤ R.frames ∧ 31 + 40 * d ≤ R.locals ∧ u ≤ R.cells ∧ v ≤ R.slots) (hw : (st.map (fun x => x.category)).sum ≤ 8) (k : ∀ (r : Int32) (w' : zW), Q0 r w' → zA G y cc mL ret R Z (pc + 3) lv (.int r :: st) w' u v) : zA G y cc mL ret R Z pc lv (x4 :: x3 :: x2 :: x1 :: st) w u v :=
  z_callS (As := [x1, x2, x3, x4]) hd hk E hR rfl hw (fun r w' hq => by obtain ⟨r0, rfl, hq0⟩ := hq; exact k r0 w' hq0)
theorem z_Vl4 {y' : MethodName} {cc' : ByteArray} {mL' idx ci N d a : Nat} {ret' : Option FieldType} {x1 x2 x3 x4 : Value} {Q0 : Int64 → zW → Prop} (hd : decode cc pc = .ok (.invokevirtual idx, 3)) (hk : zCv y.cls idx y' cc' mL' ret' 4 ci N) (hs : w.2.2.2[a]? = some (ci, N)) (E : zEl G y' cc' mL' ret' d (.ref a :: [x1, x2, x3, x4]) w Q0) (hR : d + 1 ≤ R.frames ∧ 31 + 40 * d ≤ R.locals ∧ u ≤ R.cells ∧ v ≤ R.slots) (hw : (st.map (fun x => x.category)).sum ≤ 8) (k : ∀ (r : Int64) (w' : zW), Q0 r w' → zA G y cc mL ret R Z (pc + 3) lv (.long r :: st) w' u v) : zA G y cc mL ret R Z pc lv (x4 :: x3 :: x2 :: x1 :: .ref a :: st) w u v :=
  z_callV (As := [x1, x2, x3, x4]) hd hk hs E hR rfl hw (fun r w' hq => by obtain ⟨r0, rfl, hq0⟩ := hq; exact k r0 w' hq0)
theorem z_Sl4 {y' : MethodName} {cc' : ByteArray} {mL' idx d : Nat} {ret' : Option FieldType} {x1 x2 x3 x4 : Value} {Q0 : Int64 → zW → Prop} (hd : decode cc pc = .ok (.invokestatic idx, 3)) (hk : zCs y.cls idx y' cc' mL' ret' 4) (E : zEl G y' cc' mL' ret' d [x1, x2, x3, x4] w Q0) (hR : d + 1 ≤ R.frames ∧ 31 + 40 * d ≤ R.locals ∧ u ≤ R.cells ∧ v ≤ R.slots) (hw : (st.map (fun x => x.category)).sum ≤ 8) (k : ∀ (r : Int64) (w' : zW), Q0 r w' → zA G y cc mL ret R Z (pc + 3) lv (.long r :: st) w' u v) : zA G y cc mL ret R Z pc lv (x4 :: x3 :: x2 :: x1 :: st) w u v :=
  z_callS (As := [x1, x2, x3, x4]) hd hk E hR rfl hw (fun r w' hq => by obtain ⟨r0, rfl, hq0⟩ := hq; exact k r0 w' hq0)
theorem z_Vv4 {y' : MethodName} {cc' : ByteArray} {mL' idx ci N d a : Nat} {x1 x2 x3 x4 : Value} {Q0 : zW → Prop} (hd : decode cc pc = .ok (.invokevirtual idx, 3)) (hk : zCv y.cls idx y' cc' mL' none 4 ci N) (hs : w.2.2.2[a]? = some (ci, N)) (E : zEv G y' cc' mL' d 0 0 (.ref a :: [x1, x2, x3, x4]) w Q0) (hR : d + 1 ≤ R.frames ∧ 31 + 40 * d ≤ R.locals ∧ u ≤ R.cells ∧ v ≤ R.slots) (hw : (st.map (fun x => x.category)).sum ≤ 8) (k : ∀  (w' : zW), Q0 w' → zA G y cc mL ret R Z (pc + 3) lv (st) w' u v) : zA G y cc mL ret R Z pc lv (x4 :: x3 :: x2 :: x1 :: .ref a :: st) w u v :=
  z_callV (As := [x1, x2, x3, x4]) hd hk hs E hR rfl hw (fun r w' hq => by obtain ⟨rfl, hq0⟩ := hq; exact k w' hq0)
theorem z_Sv4 {y' : MethodName} {cc' : ByteArray} {mL' idx d : Nat} {x1 x2 x3 x4 : Value} {Q0 : zW → Prop} (hd : decode cc pc = .ok (.invokestatic idx, 3)) (hk : zCs y.cls idx y' cc' mL' none 4) (E : zEv G y' cc' mL' d 0 0 [x1, x2, x3, x4] w Q0) (hR : d + 1 ≤ R.frames ∧ 31 + 40 * d ≤ R.locals ∧ u ≤ R.cells ∧ v ≤ R.slots) (hw : (st.map (fun x => x.category)).sum ≤ 8) (k : ∀  (w' : zW), Q0 w' → zA G y cc mL ret R Z (pc + 3) lv (st) w' u v) : zA G y cc mL ret R Z pc lv (x4 :: x3 :: x2 :: x1 :: st) w u v :=
  z_callS (As := [x1, x2, x3, x4]) hd hk E hR rfl hw (fun r w' hq => by obtain ⟨rfl, hq0⟩ := hq; exact k w' hq0)
theorem z_Vi5 {y' : MethodName} {cc' : ByteArray} {mL' idx ci N d a : Nat} {ret' : Option FieldType} {x1 x2 x3 x4 x5 : Value} {Q0 : Int32 → zW → Prop} (hd : decode cc pc = .ok (.invokevirtual idx, 3)) (hk : zCv y.cls idx y' cc' mL' ret' 5 ci N) (hs : w.2.2.2[a]? = some (ci, N)) (E : zEi G y' cc' mL' ret' d (.ref a :: [x1, x2, x3, x4, x5]) w Q0) (hR : d + 1 ≤ R.frames ∧ 31 + 40 * d ≤ R.locals ∧ u ≤ R.cells ∧ v ≤ R.slots) (hw : (st.map (fun x => x.category)).sum ≤ 8) (k : ∀ (r : Int32) (w' : zW), Q0 r w' → zA G y cc mL ret R Z (pc + 3) lv (.int r :: st) w' u v) : zA G y cc mL ret R Z pc lv (x5 :: x4 :: x3 :: x2 :: x1 :: .ref a :: st) w u v :=
  z_callV (As := [x1, x2, x3, x4, x5]) hd hk hs E hR rfl hw (fun r w' hq => by obtain ⟨r0, rfl, hq0⟩ := hq; exact k r0 w' hq0)
theorem z_Si5 {y' : MethodName} {cc' : ByteArray} {mL' idx d : Nat} {ret' : Option FieldType} {x1 x2 x3 x4 x5 : Value} {Q0 : Int32 → zW → Prop} (hd : decode cc pc = .ok (.invokestatic idx, 3)) (hk : zCs y.cls idx y' cc' mL' ret' 5) (E : zEi G y' cc' mL' ret' d [x1, x2, x3, x4, x5] w Q0) (hR : d + 1 ≤ R.frames ∧ 31 + 40 * d ≤ R.locals ∧ u ≤ R.cells ∧ v ≤ R.slots) (hw : (st.map (fun x => x.category)).sum ≤ 8) (k : ∀ (r : Int32) (w' : zW), Q0 r w' → zA G y cc mL ret R Z (pc + 3) lv (.int r :: st) w' u v) : zA G y cc mL ret R Z pc lv (x5 :: x4 :: x3 :: x2 :: x1 :: st) w u v :=
  z_callS (As := [x1, x2, x3, x4, x5]) hd hk E hR rfl hw (fun r w' hq => by obtain ⟨r0, rfl, hq0⟩ := hq; exact k r0 w' hq0)
theorem z_Vl5 {y' : MethodName} {cc' : ByteArray} {mL' idx ci N d a : Nat} {ret' : Option FieldType} {x1 x2 x3 x4 x5 : Value} {Q0 : Int64 → zW → Prop} (hd : decode cc pc = .ok (.invokevirtual idx, 3)) (hk : zCv y.cls idx y' cc' mL' ret' 5 ci N) (hs : w.2.2.2[a]? = some (ci, N)) (E : zEl G y' cc' mL' ret' d (.ref a :: [x1, x2, x3, x4, x5]) w Q0) (hR : d + 1 ≤ R.frames ∧ 31 + 40 * d ≤ R.locals ∧ u ≤ R.cells ∧ v ≤ R.slots) (hw : (st.map (fun x => x.category)).sum ≤ 8) (k : ∀ (r : Int64) (w' : zW), Q0 r w' → zA G y cc mL ret R Z (pc + 3) lv (.long r :: st) w' u v) : zA G y cc mL ret R Z pc lv (x5 :: x4 :: x3 :: x2 :: x1 :: .ref a :: st) w u v :=
  z_callV (As := [x1, x2, x3, x4, x5]) hd hk hs E hR rfl hw (fun r w' hq => by obtain ⟨r0, rfl, hq0⟩ := hq; exact k r0 w' hq0)
theorem z_Sl5 {y' : MethodName} {cc' : ByteArray} {mL' idx d : Nat} {ret' : Option FieldType} {x1 x2 x3 x4 x5 : Value} {Q0 : Int64 → zW → Prop} (hd : decode cc pc = .ok (.invokestatic idx, 3)) (hk : zCs y.cls idx y' cc' mL' ret' 5) (E : zEl G y' cc' mL' ret' d [x1, x2, x3, x4, x5] w Q0) (hR : d + 1 ≤ R.frames ∧ 31 + 40 * d ≤ R.locals ∧ u ≤ R.cells ∧ v ≤ R.slots) (hw : (st.map (fun x => x.category)).sum ≤ 8) (k : ∀ (r : Int64) (w' : zW), Q0 r w' → zA G y cc mL ret R Z (pc + 3) lv (.long r :: st) w' u v) : zA G y cc mL ret R Z pc lv (x5 :: x4 :: x3 :: x2 :: x1 :: st) w u v :=
  z_callS (As := [x1, x2, x3, x4, x5]) hd hk E hR rfl hw (fun r w' hq => by obtain ⟨r0, rfl, hq0⟩ := hq; exact k r0 w' hq0)
theorem z_Vv5 {y' : MethodName} {cc' : ByteArray} {mL' idx ci N d a : Nat} {x1 x2 x3 x4 x5 : Value} {Q0 : zW → Prop} (hd : decode cc pc = .ok (.invokevirtual idx, 3)) (hk : zCv y.cls idx y' cc' mL' none 5 ci N) (hs : w.2.2.2[a]? = some (ci, N)) (E : zEv G y' cc' mL' d 0 0 (.ref a :: [x1, x2, x3, x4, x5]) w Q0) (hR : d + 1 ≤ R.frames ∧ 31 + 40 * d ≤ R.locals ∧ u ≤ R.cells ∧ v ≤ R.slots) (hw : (st.map (fun x => x.category)).sum ≤ 8) (k : ∀  (w' : zW), Q0 w' → zA G y cc mL ret R Z (pc + 3) lv (st) w' u v) : zA G y cc mL ret R Z pc lv (x5 :: x4 :: x3 :: x2 :: x1 :: .ref a :: st) w u v :=
  z_callV (As := [x1, x2, x3, x4, x5]) hd hk hs E hR rfl hw (fun r w' hq => by obtain ⟨rfl, hq0⟩ := hq; exact k w' hq0)
theorem z_Sv5 {y' : MethodName} {cc' : ByteArray} {mL' idx d : Nat} {x1 x2 x3 x4 x5 : Value} {Q0 : zW → Prop} (hd : decode cc pc = .ok (.invokestatic idx, 3)) (hk : zCs y.cls idx y' cc' mL' none 5) (E : zEv G y' cc' mL' d 0 0 [x1, x2, x3, x4, x5] w Q0) (hR : d + 1 ≤ R.frames ∧ 31 + 40 * d ≤ R.locals ∧ u ≤ R.cells ∧ v ≤ R.slots) (hw : (st.map (fun x => x.category)).sum ≤ 8) (k : ∀  (w' : zW), Q0 w' → zA G y cc mL ret R Z (pc + 3) lv (st) w' u v) : zA G y cc mL ret R Z pc lv (x5 :: x4 :: x3 :: x2 :: x1 :: st) w u v :=
  z_callS (As := [x1, x2, x3, x4, x5]) hd hk E hR rfl hw (fun r w' hq => by obtain ⟨rfl, hq0⟩ := hq; exact k w' hq0)
theorem z_Vi6 {y' : MethodName} {cc' : ByteArray} {mL' idx ci N d a : Nat} {ret' : Option FieldType} {x1 x2 x3 x4 x5 x6 : Value} {Q0 : Int32 → zW → Prop} (hd : decode cc pc = .ok (.invokevirtual idx, 3)) (hk : zCv y.cls idx y' cc' mL' ret' 6 ci N) (hs : w.2.2.2[a]? = some (ci, N)) (E : zEi G y' cc' mL' ret' d (.ref a :: [x1, x2, x3, x4, x5, x6]) w Q0) (hR : d + 1 ≤ R.frames ∧ 31 + 40 * d ≤ R.locals ∧ u ≤ R.cells ∧ v ≤ R.slots) (hw : (st.map (fun x => x.category)).sum ≤ 8) (k : ∀ (r : Int32) (w' : zW), Q0 r w' → zA G y cc mL ret R Z (pc + 3) lv (.int r :: st) w' u v) : zA G y cc mL ret R Z pc lv (x6 :: x5 :: x4 :: x3 :: x2 :: x1 :: .ref a :: st) w u v :=
  z_callV (As := [x1, x2, x3, x4, x5, x6]) hd hk hs E hR rfl hw (fun r w' hq => by obtain ⟨r0, rfl, hq0⟩ := hq; exact k r0 w' hq0)
theorem z_Si6 {y' : MethodName} {cc' : ByteArray} {mL' idx d : Nat} {ret' : Option FieldType} {x1 x2 x3 x4 x5 x6 : Value} {Q0 : Int32 → zW → Prop} (hd : decode cc pc = .ok (.invokestatic idx, 3)) (hk : zCs y.cls idx y' cc' mL' ret' 6) (E : zEi G y' cc' mL' ret' d [x1, x2, x3, x4, x5, x6] w Q0) (hR : d + 1 ≤ R.frames ∧ 31 + 40 * d ≤ R.locals ∧ u ≤ R.cells ∧ v ≤ R.slots) (hw : (st.map (fun x => x.category)).sum ≤ 8) (k : ∀ (r : Int32) (w' : zW), Q0 r w' → zA G y cc mL ret R Z (pc + 3) lv (.int r :: st) w' u v) : zA G y cc mL ret R Z pc lv (x6 :: x5 :: x4 :: x3 :: x2 :: x1 :: st) w u v :=
  z_callS (As := [x1, x2, x3, x4, x5, x6]) hd hk E hR rfl hw (fun r w' hq => by obtain ⟨r0, rfl, hq0⟩ := hq; exact k r0 w' hq0)
theorem z_Vl6 {y' : MethodName} {cc' : ByteArray} {mL' idx ci N d a : Nat} {ret' : Option FieldType} {x1 x2 x3 x4 x5 x6 : Value} {Q0 : Int64 → zW → Prop} (hd : decode cc pc = .ok (.invokevirtual idx, 3)) (hk : zCv y.cls idx y' cc' mL' ret' 6 ci N) (hs : w.2.2.2[a]? = some (ci, N)) (E : zEl G y' cc' mL' ret' d (.ref a :: [x1, x2, x3, x4, x5, x6]) w Q0) (hR : d + 1 ≤ R.frames ∧ 31 + 40 * d ≤ R.locals ∧ u ≤ R.cells ∧ v ≤ R.slots) (hw : (st.map (fun x => x.category)).sum ≤ 8) (k : ∀ (r : Int64) (w' : zW), Q0 r w' → zA G y cc mL ret R Z (pc + 3) lv (.long r :: st) w' u v) : zA G y cc mL ret R Z pc lv (x6 :: x5 :: x4 :: x3 :: x2 :: x1 :: .ref a :: st) w u v :=
  z_callV (As := [x1, x2, x3, x4, x5, x6]) hd hk hs E hR rfl hw (fun r w' hq => by obtain ⟨r0, rfl, hq0⟩ := hq; exact k r0 w' hq0)
theorem z_Sl6 {y' : MethodName} {cc' : ByteArray} {mL' idx d : Nat} {ret' : Option FieldType} {x1 x2 x3 x4 x5 x6 : Value} {Q0 : Int64 → zW → Prop} (hd : decode cc pc = .ok (.invokestatic idx, 3)) (hk : zCs y.cls idx y' cc' mL' ret' 6) (E : zEl G y' cc' mL' ret' d [x1, x2, x3, x4, x5, x6] w Q0) (hR : d + 1 ≤ R.frames ∧ 31 + 40 * d ≤ R.locals ∧ u ≤ R.cells ∧ v ≤ R.slots) (hw : (st.map (fun x => x.category)).sum ≤ 8) (k : ∀ (r : Int64) (w' : zW), Q0 r w' → zA G y cc mL ret R Z (pc + 3) lv (.long r :: st) w' u v) : zA G y cc mL ret R Z pc lv (x6 :: x5 :: x4 :: x3 :: x2 :: x1 :: st) w u v :=
  z_callS (As := [x1, x2, x3, x4, x5, x6]) hd hk E hR rfl hw (fun r w' hq => by obtain ⟨r0, rfl, hq0⟩ := hq; exact k r0 w' hq0)
theorem z_Vv6 {y' : MethodName} {cc' : ByteArray} {mL' idx ci N d a : Nat} {x1 x2 x3 x4 x5 x6 : Value} {Q0 : zW → Prop} (hd : decode cc pc = .ok (.invokevirtual idx, 3)) (hk : zCv y.cls idx y' cc' mL' none 6 ci N) (hs : w.2.2.2[a]? = some (ci, N)) (E : zEv G y' cc' mL' d 0 0 (.ref a :: [x1, x2, x3, x4, x5, x6]) w Q0) (hR : d + 1 ≤ R.frames ∧ 31 + 40 * d ≤ R.locals ∧ u ≤ R.cells ∧ v ≤ R.slots) (hw : (st.map (fun x => x.category)).sum ≤ 8) (k : ∀  (w' : zW), Q0 w' → zA G y cc mL ret R Z (pc + 3) lv (st) w' u v) : zA G y cc mL ret R Z pc lv (x6 :: x5 :: x4 :: x3 :: x2 :: x1 :: .ref a :: st) w u v :=
  z_callV (As := [x1, x2, x3, x4, x5, x6]) hd hk hs E hR rfl hw (fun r w' hq => by obtain ⟨rfl, hq0⟩ := hq; exact k w' hq0)
theorem z_Sv6 {y' : MethodName} {cc' : ByteArray} {mL' idx d : Nat} {x1 x2 x3 x4 x5 x6 : Value} {Q0 : zW → Prop} (hd : decode cc pc = .ok (.invokestatic idx, 3)) (hk : zCs y.cls idx y' cc' mL' none 6) (E : zEv G y' cc' mL' d 0 0 [x1, x2, x3, x4, x5, x6] w Q0) (hR : d + 1 ≤ R.frames ∧ 31 + 40 * d ≤ R.locals ∧ u ≤ R.cells ∧ v ≤ R.slots) (hw : (st.map (fun x => x.category)).sum ≤ 8) (k : ∀  (w' : zW), Q0 w' → zA G y cc mL ret R Z (pc + 3) lv (st) w' u v) : zA G y cc mL ret R Z pc lv (x6 :: x5 :: x4 :: x3 :: x2 :: x1 :: st) w u v :=
  z_callS (As := [x1, x2, x3, x4, x5, x6]) hd hk E hR rfl hw (fun r w' hq => by obtain ⟨rfl, hq0⟩ := hq; exact k w' hq0)
end ZQ
