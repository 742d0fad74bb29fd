/-! the library's max and min, by the kit's rows -/
section ZMX
variable {G : zG} {y : MethodName} {cc : ByteArray} {mL : Nat} {ret : Option FieldType} {R : Room} {Z : List Frame → Array Value → State → State → Prop} {pc : Nat} {lv : List (Option Value)} {st : List Value} {w : zW} {u v idx : Nat} {a b : Int32}
theorem o_max : Cond.code Lib.Math.max.name Lib.Math.max.code 2 (some .int) ∈ zT := zt 980 (by decide +kernel) (by decide +kernel)
theorem o_min : Cond.code Lib.Math.min.name Lib.Math.min.code 2 (some .int) ∈ zT := zt 119 (by decide +kernel) (by decide +kernel)
theorem z_max (hd : decode cc pc = .ok (.invokestatic idx, 3)) (hk : Cond.methodLink y.cls idx y_JMath_max ∈ zT) (hR : 1 ≤ R.frames ∧ 21 ≤ R.locals ∧ u ≤ R.cells ∧ v ≤ R.slots) (hw : (st.map (fun x => x.category)).sum ≤ 8) (kk : zA G y cc mL ret R Z (pc + 3) lv (.int (if a < b then b else a) :: st) w u v) : zA G y cc mL ret R Z pc lv (.int b :: .int a :: st) w u v := by
  intro p l e s m args below meth c H locs ls C hP hz hS hl
  have hts := C.2.2.2.2.2.2.2.1
  exact va_mmax C.1 C.2.1 (C.2.2.2.1.trans hl.1.symm) C.2.2.2.2.2.1 (hts _ hk) (hts _ (zt 979 (by decide +kernel) (by decide +kernel))) (hts _ m_JMath_max.2.1) (hts _ o_max) hR.1 (by simp only [List.map_map, Function.comp_def, zv_cat]; omega) hR.2.2.1 hR.2.2.2 hd (kk p l e s m args below meth c H locs ls C hP hz hS hl)
theorem z_min (hd : decode cc pc = .ok (.invokestatic idx, 3)) (hk : Cond.methodLink y.cls idx y_JMath_min ∈ zT) (hR : 1 ≤ R.frames ∧ 21 ≤ R.locals ∧ u ≤ R.cells ∧ v ≤ R.slots) (hw : (st.map (fun x => x.category)).sum ≤ 8) (kk : zA G y cc mL ret R Z (pc + 3) lv (.int (if b < a then b else a) :: st) w u v) : zA G y cc mL ret R Z pc lv (.int b :: .int a :: st) w u v := by
  intro p l e s m args below meth c H locs ls C hP hz hS hl
  have hts := C.2.2.2.2.2.2.2.1
  exact va_mmin C.1 C.2.1 (C.2.2.2.1.trans hl.1.symm) C.2.2.2.2.2.1 (hts _ hk) (hts _ (zt 118 (by decide +kernel) (by decide +kernel))) (hts _ m_JMath_min.2.1) (hts _ o_min) hR.1 (by simp only [List.map_map, Function.comp_def, zv_cat]; omega) hR.2.2.1 hR.2.2.2 hd (kk p l e s m args below meth c H locs ls C hP hz hS hl)
theorem z_maxN {m n : Nat} (hm : m < 2 ^ 31) (hn : n < 2 ^ 31) : (if nI m < nI n then nI n else nI m) = nI (max m n) := by
  by_cases h : m < n
  · rw [if_pos (nI_lt h hn), Nat.max_eq_right (by omega)]
  · rw [if_neg (nI_nlt (by omega) hm), Nat.max_eq_left (by omega)]
theorem z_minN {m n : Nat} (hm : m < 2 ^ 31) (hn : n < 2 ^ 31) : (if nI n < nI m then nI n else nI m) = nI (min m n) := by
  by_cases h : n < m
  · rw [if_pos (nI_lt h hm), Nat.min_eq_right (by omega)]
  · rw [if_neg (nI_nlt (by omega) hn), Nat.min_eq_left (by omega)]
end ZMX
