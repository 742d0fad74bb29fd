/-! the one text of the class: rows, and String's methods over it -/
section TX0
variable {G : zG} {y : MethodName} {cc : ByteArray} {mL : Nat} {ret : Option FieldType} {R : Room} {Z : List Frame → Array Value → State → State → Prop} {pc : Nat} {lv : List (Option Value)} {st : List Value} {w : zW} {u v : Nat}
theorem zByt_len : zByt.length = 100 := by decide +kernel
theorem z_ldcS (hy : y.cls = "TinFen$Tokens") (hd : decode cc pc = .ok (.ldc 26, 2)) (k : zA G y cc mL ret R Z (pc + 2) lv (.ref 1000001 :: st) w u v) : zA G y cc mL ret R Z pc lv st w u v := by
  intro p l e s m args below meth c H locs ls C hP hz hS hl
  obtain ⟨k1, k2, k3, k4, k5, k6, k7, k8, k9, k10, k11⟩ := C.2.2.2.2.2.2.2.2
  exact va_ldcS (own := "TinFen$Tokens") (tx := zText) (q := G.2.2.2.2.2.2.1) C.1 C.2.1 (by rw [← hy]; exact C.2.2.2.2.2.1) k8 hd (k p l e s m args below meth c H locs ls C hP hz hS hl)
theorem z_getTv (hy : y.cls = "java/lang/String") (hd : decode cc pc = .ok (.getfield 9, 3)) (k : zA G y cc mL ret R Z (pc + 3) lv (.ref 1000002 :: st) w u v) : zA G y cc mL ret R Z pc lv (.ref 1000001 :: st) w u v := by
  intro p l e s m args below meth c H locs ls C hP hz hS hl
  obtain ⟨k1, k2, k3, k4, k5, k6, k7, k8, k9, k10, k11⟩ := C.2.2.2.2.2.2.2.2
  have hts := C.2.2.2.2.2.2.2.1
  exact vk_getf (own := "java/lang/String") (o := "java/lang/String") (ref := "java/lang/String") (n := "value") (d := "[B") C.1 C.2.1 (k9.1 0 (by decide)).2.2.1 hS (by rw [← hy]; exact C.2.2.2.2.2.1) (hts _ (zt 2024 (by decide +kernel) (by decide +kernel))) (fun x h => h) hd (k p l e s m args below meth c H locs ls C hP hz hS hl)
theorem z_getTc (hy : y.cls = "java/lang/String") (hd : decode cc pc = .ok (.getfield 15, 3)) (k : zA G y cc mL ret R Z (pc + 3) lv (.int 0 :: st) w u v) : zA G y cc mL ret R Z pc lv (.ref 1000001 :: st) w u v := by
  intro p l e s m args below meth c H locs ls C hP hz hS hl
  obtain ⟨k1, k2, k3, k4, k5, k6, k7, k8, k9, k10, k11⟩ := C.2.2.2.2.2.2.2.2
  have hts := C.2.2.2.2.2.2.2.1
  exact vk_getf (own := "java/lang/String") (o := "java/lang/String") (ref := "java/lang/String") (n := "coder") (d := "B") C.1 C.2.1 (k9.1 0 (by decide)).2.1 hS (by rw [← hy]; exact C.2.2.2.2.2.1) (hts _ (zt 2025 (by decide +kernel) (by decide +kernel))) (fun x h => h) hd (k p l e s m args below meth c H locs ls C hP hz hS hl)
theorem z_lenT (hd : decode cc pc = .ok (.arraylength, 1)) (k : zA G y cc mL ret R Z (pc + 1) lv (.int (nI 100) :: st) w u v) : zA G y cc mL ret R Z pc lv (.ref 1000002 :: st) w u v := by
  intro p l e s m args below meth c H locs ls C hP hz hS hl
  obtain ⟨k1, k2, k3, k4, k5, k6, k7, k8, k9, k10, k11⟩ := C.2.2.2.2.2.2.2.2
  exact va_tlen C.1 C.2.1 (k9.1 0 (by decide)).2.2.2 hS (v := nI 100) (by show Int32.ofNat zByt.length = nI 100; rw [zByt_len]; rfl) hd (k p l e s m args below meth c H locs ls C hP hz hS hl)
theorem z_baldT {j : Nat} (hd : decode cc pc = .ok (.baload, 1)) (hj : j < 100) (k : zA G y cc mL ret R Z (pc + 1) lv (.int (zByt.getD j 0) :: st) w u v) : zA G y cc mL ret R Z pc lv (.int (nI j) :: .ref 1000002 :: st) w u v := by
  intro p l e s m args below meth c H locs ls C hP hz hS hl
  obtain ⟨k1, k2, k3, k4, k5, k6, k7, k8, k9, k10, k11⟩ := C.2.2.2.2.2.2.2.2
  exact va_tb C.1 C.2.1 (k9.1 0 (by decide)).2.2.2 hS (i := nI j) (vp_in_nI (by show j < zByt.length; rw [zByt_len]; exact hj) (by show zByt.length < _; rw [zByt_len]; decide)) (v := .int (zByt.getD j 0)) (by show Value.int (zByt.getD (nI j).toNatClampNeg 0) = _; rw [nI_clamp (by omega)]) hd (k p l e s m args below meth c H locs ls C hP hz hS hl)
theorem z_getZ (hy : y.cls = "java/lang/String") (hd : decode cc pc = .ok (.getstatic 38, 3)) (k : zA G y cc mL ret R Z (pc + 3) lv (.int 1 :: st) w u v) : zA G y cc mL ret R Z pc lv st w u v := by
  intro p l e s m args below meth c H locs ls C hP hz hS hl
  obtain ⟨k1, k2, k3, k4, k5, k6, k7, k8, k9, k10, k11⟩ := C.2.2.2.2.2.2.2.2
  have hts := C.2.2.2.2.2.2.2.1
  exact va_gets (own := "java/lang/String") (ref := "java/lang/String") C.1 C.2.1 k10 hS (by rw [← hy]; exact C.2.2.2.2.2.1) (hts _ (zt 73 (by decide +kernel) (by decide +kernel))) (fun x h => h) hd (k p l e s m args below meth c H locs ls C hP hz hS hl)
/-- a call of the text's own methods -/
def zCt (own : String) (idx : Nat) (y' : MethodName) (cc' : ByteArray) (mL' : Nat) (ret' : Option FieldType) (n : Nat) : Prop := zMd y' cc' mL' ret' n ∧ Cond.methodLink own idx y' ∈ zT ∧ Cond.instanceMethod y' ∈ zT ∧ Cond.selects y'.cls y' y' ∈ zT ∧ y'.cls = "java/lang/String"
theorem z_callT {y' : MethodName} {cc' : ByteArray} {mL' idx n d mc ms : Nat} {ret' : Option FieldType} {As rest : List Value} {Q : Option Value → zW → Prop} (hd : decode cc pc = .ok (.invokevirtual idx, 3)) (hk : zCt y.cls idx y' cc' mL' ret' n) (E : zE G y' cc' mL' ret' d mc ms (.ref 1000001 :: As) w Q)
    (hR : d + 1 ≤ R.frames ∧ 31 + 40 * d ≤ R.locals ∧ u + mc ≤ R.cells ∧ v + ms ≤ R.slots) (hn : As.length = n) (hw : (rest.map (fun x => x.category)).sum ≤ 8)
    (k : ∀ (r : Option Value) (w' : zW), Q r w' → zA G y cc mL ret R Z (pc + 3) lv (r.toList ++ rest) w' (u + mc) (v + ms)) : zA G y cc mL ret R Z pc lv (As.reverse ++ .ref 1000001 :: rest) w u v := by
  intro p l e s m args below meth c H locs ls C hP hz hS hl
  intro T hT X
  obtain ⟨⟨m1, m2, m3, m4⟩, l1, l2, l3, hcl⟩ := hk
  have hts := C.2.2.2.2.2.2.2.1
  have h0 : G.2.2.1 ≤ s.heap.size := C.2.2.2.2.2.2.2.2.2.2.1.2
  have hsz := z_size hP hz.1 hT X h0
  have k9 := C.2.2.2.2.2.2.2.2.2.2.2.2.2.2.2.2.1
  have hrun := va_runV (p := p) (e := e) (below := below) (meth := meth) (g := F0 m pc ls ((As.reverse ++ .ref 1000001 :: rest).map (zv G))) (rest := rest.map (zv G)) (As := As.map (zv G)) (b := zr G 1000001) (Ts := zT) (C := y'.cls) (cells := u) (slots := v) (locs := locs) (H := H) ⟨C.1, C.2.1, C.2.2.2.1, C.2.2.2.2.2.1, hts⟩ (E l)
    ⟨callB_of n hts (zGood m1) rfl rfl rfl (hts _ m2) (hts _ l1) m3 ⟨hR.1, by show 8 + (mL' + 11) + 40 * d ≤ R.locals; omega⟩, hts _ l2, hts _ l3⟩
    ⟨zP_blind, by rw [hcl]; exact vk_recv (i := 0) k9 (by decide) hS, zPre C.2.2.2.2.2.2.2.2 hP hz hS hT h0 X⟩ rfl (by simpa using hn) (hl.1) (by simp; rfl) (by show 2 * 0 + _ ≤ 8; simp only [List.map_map, Function.comp_def, zv_cat]; omega) hd ⟨hR.2.2.1, hR.2.2.2⟩
  exact z_after (g := F0 m pc ls []) hrun hS (by omega) C hl k hT X
theorem k_Tok_28 : zCt "TinFen$Tokens" 28 y_JStr_length prog_18_method_54_code 1 (some .int) 0 := ⟨m_JStr_length, zt 65 (by decide +kernel) (by decide +kernel), zt 66 (by decide +kernel) (by decide +kernel), zt 67 (by decide +kernel) (by decide +kernel), rfl⟩
theorem k_Tok_34 : zCt "TinFen$Tokens" 34 y_JStr_charAt prog_18_method_56_code 2 (some .char) 1 := ⟨m_JStr_charAt, zt 75 (by decide +kernel) (by decide +kernel), zt 76 (by decide +kernel) (by decide +kernel), zt 77 (by decide +kernel) (by decide +kernel), rfl⟩
theorem k_JStr_335 : zCt "java/lang/String" 335 y_JStr_coder prog_18_method_152_code 1 (some .byte) 0 := ⟨m_JStr_coder, zt 69 (by decide +kernel) (by decide +kernel), zt 70 (by decide +kernel) (by decide +kernel), zt 71 (by decide +kernel) (by decide +kernel), rfl⟩
theorem k_JStr_492 : zCt "java/lang/String" 492 y_JStr_isLatin1 prog_18_method_154_code 1 (some .boolean) 0 := ⟨m_JStr_isLatin1, zt 79 (by decide +kernel) (by decide +kernel), zt 80 (by decide +kernel) (by decide +kernel), zt 81 (by decide +kernel) (by decide +kernel), rfl⟩
/-- Preconditions.checkIndex, whatever its third argument is -/
theorem r_JPre {a b : Int32} {x : Value} (h1 : ¬ a < 0) (h2 : a < b) (hx : x = .null ∨ ∃ t, x = .ref t) (l : Launch) : Met l y_JPre_checkIndex (zWs y_JPre_checkIndex prog_23_method_11_code 3 (some .int)) (zRm 1 0 0) (va_Pc [.int a, .int b, x] (zP G w)) (zQ G 0 (fun r w' => r = some (.int a) ∧ w' = w)) 0 0 (zA0 G) := by
  have core : zA G y_JPre_checkIndex prog_23_method_11_code 3 (some .int) (zRm 1 0 0) (zM G 0 0 (fun r w' => r = some (.int a) ∧ w' = w)) 0 [some (.int a), some (.int b), none] [] w 0 0 := by
    refine z_iload_0 d_JPre_checkIndex_0 ?_
    refine z_if_lt (tgt := 9) d_JPre_checkIndex_1 (by decide) (fun h => absurd h h1) (fun _ => ?_)
    refine z_iload_0 d_JPre_checkIndex_4 ?_
    refine z_iload_1 d_JPre_checkIndex_5 ?_
    refine z_icmp_lt (tgt := 16) d_JPre_checkIndex_6 (by decide) (fun _ => ?_) (fun h => absurd h2 h)
    refine z_iload_0 d_JPre_checkIndex_16 ?_
    exact z_ireturn d_JPre_checkIndex_17 ⟨rfl, rfl⟩
  refine Met.ofW (cc := prog_23_method_11_code) (maxL := 3) (ret := some .int) (by decide) rfl ?_
  intro p e s m args below meth c s₁ B hml hv
  obtain ⟨rfl, hP, hz, hK⟩ := hv
  have hts := atoms_spec (ws := zWs y_JPre_checkIndex prog_23_method_11_code 3 (some .int)) B.pre
  have hown : s.vm.findClass y_JPre_checkIndex.cls = some m.cls := findClass_of_methodNamed B.named
  have hnm := (name_of_methodNamed B.named B.method).1
  rcases hx with rfl | ⟨t, rfl⟩
  · have hl := lv_entry [.int a, .int b, .null] (n := 3) (Nat.le_of_ble_eq_true rfl)
    rw [lg_entry_eq]
    generalize (lg_sl [.int a, .int b, .null] ++ List.replicate (3 - (lg_sl [.int a, .int b, .null]).length) Slot.unset).toArray = ls at hl ⊢
    refine core p l e s m _ below meth c s.heap [] ls ⟨B.exec, B.bytes, B.returns, hml, B.notSynchronized, hown, hnm, fun w hw => hts w (List.mem_cons_of_mem _ hw), hK⟩ hP ⟨hz.1, hz.2⟩ va_S.rf ⟨hl.1, hl.2.1, rfl, fun i v hi => ?_⟩
    match i, hi with
    | 0, hi => cases hi; exact hl.2.2 (0, .int a) (by show (0, Value.int a) ∈ [(0, Value.int a), (1, Value.int b), (2, Value.null)]; simp)
    | 1, hi => cases hi; exact hl.2.2 (1, .int b) (by show (1, Value.int b) ∈ [(0, Value.int a), (1, Value.int b), (2, Value.null)]; simp)
    | 2, hi => cases hi
  · have hl := lv_entry [.int a, .int b, .ref t] (n := 3) (Nat.le_of_ble_eq_true rfl)
    rw [lg_entry_eq]
    generalize (lg_sl [.int a, .int b, .ref t] ++ List.replicate (3 - (lg_sl [.int a, .int b, .ref t]).length) Slot.unset).toArray = ls at hl ⊢
    refine core p l e s m _ below meth c s.heap [] ls ⟨B.exec, B.bytes, B.returns, hml, B.notSynchronized, hown, hnm, fun w hw => hts w (List.mem_cons_of_mem _ hw), hK⟩ hP ⟨hz.1, hz.2⟩ va_S.rf ⟨hl.1, hl.2.1, rfl, fun i v hi => ?_⟩
    match i, hi with
    | 0, hi => cases hi; exact hl.2.2 (0, .int a) (by show (0, Value.int a) ∈ [(0, Value.int a), (1, Value.int b), (2, Value.ref t)]; simp)
    | 1, hi => cases hi; exact hl.2.2 (1, .int b) (by show (1, Value.int b) ∈ [(0, Value.int a), (1, Value.int b), (2, Value.ref t)]; simp)
    | 2, hi => cases hi
theorem z_chk {a b : Int32} (h1 : ¬ a < 0) (h2 : a < b) (hR : 2 ≤ R.frames ∧ 71 ≤ R.locals ∧ u ≤ R.cells ∧ v ≤ R.slots) (k : zA G y_JStr_checkIndex prog_18_method_155_code 2 none R Z 8 lv [.int a] w u v) : zA G y_JStr_checkIndex prog_18_method_155_code 2 none R Z 2 lv [.int b, .int a] w u v := by
  intro p l e s m args below meth c H locs ls C hP hz hS hl
  have hK := C.2.2.2.2.2.2.2.2
  obtain ⟨k1, k2, k3, k4, k5, k6, k7, k8, k9, k10, k11⟩ := id hK
  have hts := C.2.2.2.2.2.2.2.1
  obtain ⟨⟨m1, m2, m3, m4⟩, l1, l2⟩ := k_JStr_1059
  have main : ∀ x : Value, (x = .null ∨ ∃ t, x = .ref t) → va_Z "jdk/internal/util/Preconditions" "SIOOBE_FORMATTER" "Ljava/util/function/BiFunction;" x (zA0 G) s s.heap → W p l e R s m args below meth c H locs u v (Z below args s) (F0 m 2 ls [.int b, .int a]) := by
    intro x hx hZ
    refine va_gets (own := "java/lang/String") (ref := "jdk/internal/util/Preconditions") C.1 C.2.1 hZ hS C.2.2.2.2.2.1 (hts _ (zt 89 (by decide +kernel) (by decide +kernel))) (fun x h => h) d_JStr_checkIndex_2 ?_
    intro T hT X
    have h0 : G.2.2.1 ≤ s.heap.size := C.2.2.2.2.2.2.2.2.2.2.1.2
    have hsz := z_size hP hz.1 hT X h0
    have hrun := va_runS (p := p) (e := e) (below := below) (meth := meth) (g := F0 m 5 ls [x, .int b, .int a]) (rest := []) (As := [.int a, .int b, x]) (Ts := zT) (cells := u) (slots := v) (locs := locs) (H := H) ⟨C.1, C.2.1, C.2.2.2.1, C.2.2.2.2.2.1, hts⟩ (r_JPre (G := G) (w := w) h1 h2 hx l)
      ⟨callB_of 3 hts (zGood m1) rfl rfl rfl (hts _ m2) (hts _ l1) m3 ⟨hR.1, by show 8 + (3 + 11) + 40 * 1 ≤ R.locals; omega⟩, hts _ l2⟩
      ⟨zP_blind, zPre hK hP hz hS hT h0 X⟩ rfl rfl (hl.1) rfl (by show 2 * 0 + 0 ≤ 8; omega) d_JStr_checkIndex_5 ⟨hR.2.2.1, hR.2.2.2⟩
    exact z_after (g := F0 m 5 ls []) (rest := []) hrun hS (by omega) C hl (fun r w' hq => by obtain ⟨rfl, rfl⟩ := hq; exact k) hT X
  rcases k11 with h | ⟨t, h⟩
  · exact main .null (Or.inl rfl) h
  · exact main (.ref t) (Or.inr ⟨t, rfl⟩) h
end TX0
section TX1
variable {G : zG} {I : Nat → Nat → Int32} {J : Nat → Nat → Int64} {P : Nat → Nat → Option Nat} {S : List (Nat × Nat)} {j n : Nat}
theorem t_JStr_checkIndex (hj : j < n) (hn : n < 2 ^ 31) : zEv G y_JStr_checkIndex prog_18_method_155_code 2 2 0 0 [.int (nI j), .int (nI n)] (I, J, P, S) (fun w => w = (I, J, P, S)) := by
  refine zEv_of (lv := [some (.int (nI j)), some (.int (nI n))]) (by decide) rfl (Nat.le_of_ble_eq_true rfl) ?_
  refine z_iload_0 d_JStr_checkIndex_0 ?_
  refine z_iload_1 d_JStr_checkIndex_1 ?_
  refine z_chk (nI_pos (by omega)) (nI_lt hj hn) ⟨Nat.le_of_ble_eq_true rfl, Nat.le_of_ble_eq_true rfl, Nat.le_of_ble_eq_true rfl, Nat.le_of_ble_eq_true rfl⟩ ?_
  refine z_pop rfl d_JStr_checkIndex_8 ?_
  refine z_retv d_JStr_checkIndex_9 ?_
  exact rfl
theorem zByt_c : ∀ j, j < 100 → ((zByt.getD j 0 &&& nI 255).toUInt32 % 65536).toInt32 = zByt.getD j 0 := by decide +kernel
theorem zByt_n : ∀ j, j < 100 → narrow .char (.int (zByt.getD j 0)) = .int (zByt.getD j 0) := by decide +kernel
theorem zByt_b : ∀ j, j < 100 → (zByt.getD j 0).toInt8.toInt32 = zByt.getD j 0 := by decide +kernel
theorem t_JLat_charAt (hj : j < 100) : zEi G y_JLat_charAt prog_19_method_2_code 2 (some .char) 3 [.ref 1000002, .int (nI j)] (I, J, P, S) (fun r w => r = zByt.getD j 0 ∧ w = (I, J, P, S)) := by
  refine zEi_of (lv := [some (.ref 1000002), some (.int (nI j))]) (by decide) rfl (Nat.le_of_ble_eq_true rfl) ?_
  refine z_iload_1 d_JLat_charAt_0 ?_
  refine z_aload_0 d_JLat_charAt_1 ?_
  refine z_lenT d_JLat_charAt_2 ?_
  refine z_Sv2 d_JLat_charAt_3 k_JLat_9 (t_JStr_checkIndex hj (by decide)) ⟨Nat.le_of_ble_eq_true rfl, Nat.le_of_ble_eq_true rfl, Nat.le_of_ble_eq_true rfl, Nat.le_of_ble_eq_true rfl⟩ (Nat.le_of_ble_eq_true rfl) ?_
  intro w hq
  obtain rfl := hq
  refine z_aload_0 d_JLat_charAt_6 ?_
  refine z_iload_1 d_JLat_charAt_7 ?_
  refine z_baldT d_JLat_charAt_8 hj ?_
  refine z_sipush (a := nI 255) d_JLat_charAt_9 (by decide) ?_
  refine z_iand d_JLat_charAt_12 ?_
  refine z_i2c d_JLat_charAt_13 ?_
  rw [zByt_c j hj]
  exact z_rett d_JLat_charAt_14 (zByt_n j hj) ⟨rfl, rfl⟩
theorem t_JStr_isLatin1 : zEi G y_JStr_isLatin1 prog_18_method_154_code 1 (some .boolean) 1 [.ref 1000001] (I, J, P, S) (fun r w => r = nI 1 ∧ w = (I, J, P, S)) := by
  refine zEi_of (lv := [some (.ref 1000001)]) (by decide) rfl (Nat.le_of_ble_eq_true rfl) ?_
  refine z_getZ rfl d_JStr_isLatin1_0 ?_
  refine z_if_eq (tgt := 17) d_JStr_isLatin1_3 (by decide) (fun h => absurd h (by decide)) (fun _ => ?_)
  refine z_aload_0 d_JStr_isLatin1_6 ?_
  refine z_getTc rfl d_JStr_isLatin1_7 ?_
  refine z_if_ne (tgt := 17) d_JStr_isLatin1_10 (by decide) (fun h => absurd (by decide) h) (fun _ => ?_)
  refine z_iconst (a := nI 1) d_JStr_isLatin1_13 (by decide) ?_
  refine z_goto (tgt := 18) d_JStr_isLatin1_14 (by decide) ?_
  refine z_retz d_JStr_isLatin1_18 (by first | exact zb0 | exact zb1 | assumption) ?_
  exact ⟨rfl, rfl⟩
theorem t_JStr_coder : zEi G y_JStr_coder prog_18_method_152_code 1 (some .byte) 1 [.ref 1000001] (I, J, P, S) (fun r w => r = nI 0 ∧ w = (I, J, P, S)) := by
  refine zEi_of (lv := [some (.ref 1000001)]) (by decide) rfl (Nat.le_of_ble_eq_true rfl) ?_
  refine z_getZ rfl d_JStr_coder_0 ?_
  refine z_if_eq (tgt := 13) d_JStr_coder_3 (by decide) (fun h => absurd h (by decide)) (fun _ => ?_)
  refine z_aload_0 d_JStr_coder_6 ?_
  refine z_getTc rfl d_JStr_coder_7 ?_
  refine z_goto (tgt := 14) d_JStr_coder_10 (by decide) ?_
  exact z_rett d_JStr_coder_14 (by decide) ⟨rfl, rfl⟩
theorem t_JStr_length : zEi G y_JStr_length prog_18_method_54_code 1 (some .int) 2 [.ref 1000001] (I, J, P, S) (fun r w => r = nI 100 ∧ w = (I, J, P, S)) := by
  refine zEi_of (lv := [some (.ref 1000001)]) (by decide) rfl (Nat.le_of_ble_eq_true rfl) ?_
  refine z_aload_0 d_JStr_length_0 ?_
  refine z_getTv rfl d_JStr_length_1 ?_
  refine z_lenT d_JStr_length_4 ?_
  refine z_aload_0 d_JStr_length_5 ?_
  refine z_callT (As := []) d_JStr_length_6 k_JStr_335 t_JStr_coder ⟨Nat.le_of_ble_eq_true rfl, Nat.le_of_ble_eq_true rfl, Nat.le_of_ble_eq_true rfl, Nat.le_of_ble_eq_true rfl⟩ rfl (Nat.le_of_ble_eq_true rfl) ?_
  rintro r w' ⟨x, rfl, rfl, rfl⟩
  refine z_ishr d_JStr_length_9 ?_
  rw [show nI 100 >>> (nI 0 &&& 31) = nI 100 by decide]
  refine z_reti d_JStr_length_10 ?_
  exact ⟨rfl, rfl⟩
theorem t_JStr_charAt (hj : j < 100) : zEi G y_JStr_charAt prog_18_method_56_code 2 (some .char) 4 [.ref 1000001, .int (nI j)] (I, J, P, S) (fun r w => r = zByt.getD j 0 ∧ w = (I, J, P, S)) := by
  refine zEi_of (lv := [some (.ref 1000001), some (.int (nI j))]) (by decide) rfl (Nat.le_of_ble_eq_true rfl) ?_
  refine z_aload_0 d_JStr_charAt_0 ?_
  refine z_callT (As := []) d_JStr_charAt_1 k_JStr_492 t_JStr_isLatin1 ⟨Nat.le_of_ble_eq_true rfl, Nat.le_of_ble_eq_true rfl, Nat.le_of_ble_eq_true rfl, Nat.le_of_ble_eq_true rfl⟩ rfl (Nat.le_of_ble_eq_true rfl) ?_
  rintro r w' ⟨x, rfl, rfl, rfl⟩
  refine z_if_eq (tgt := 16) d_JStr_charAt_4 (by decide) (fun h => absurd h (by decide)) (fun _ => ?_)
  refine z_aload_0 d_JStr_charAt_7 ?_
  refine z_getTv rfl d_JStr_charAt_8 ?_
  refine z_iload_1 d_JStr_charAt_11 ?_
  refine z_Si2 d_JStr_charAt_12 k_JStr_495 (t_JLat_charAt hj) ⟨Nat.le_of_ble_eq_true rfl, Nat.le_of_ble_eq_true rfl, Nat.le_of_ble_eq_true rfl, Nat.le_of_ble_eq_true rfl⟩ (Nat.le_of_ble_eq_true rfl) ?_
  intro r w hq
  obtain ⟨rfl, rfl⟩ := hq
  exact z_rett d_JStr_charAt_15 (zByt_n j hj) ⟨rfl, rfl⟩
end TX1
