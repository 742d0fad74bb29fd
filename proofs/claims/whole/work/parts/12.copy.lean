/-! rows copied -/
section ZCP
variable {G : zG} {y : MethodName} {cc : ByteArray} {mL : Nat} {ret : Option FieldType} {R : Room} {Z : List Frame → Array Value → State → State → Prop} {pc : Nat} {lv : List (Option Value)} {st : List Value} {w : zW} {u v : Nat}
variable {I : Nat → Nat → Int32} {J : Nat → Nat → Int64} {P : Nat → Nat → Option Nat} {S : List (Nat × Nat)} {idx q0 q1 n0 n1 sp dp n : Nat}
/-- a table with a stretch of one row copied to another -/
def zcp {α : Type} (f : Nat → Nat → α) (q0 q1 sp dp n : Nat) : Nat → Nat → α := fun x k => if x = q1 then va_cpy (f q0) (f q1) sp dp n k else f x k
theorem zcp_ne {α : Type} {f : Nat → Nat → α} {q0 q1 sp dp n x : Nat} (h : ¬ x = q1) : zcp f q0 q1 sp dp n x = f x := by
  funext k
  simp [zcp, h]
theorem zcp_in {α : Type} {f : Nat → Nat → α} {q0 q1 sp dp n k : Nat} (h : dp ≤ k) (h2 : k < dp + n) : zcp f q0 q1 sp dp n q1 k = f q0 (sp + (k - dp)) := by
  simp [zcp, va_cpy, h, h2]
theorem zcp_out {α : Type} {f : Nat → Nat → α} {q0 q1 sp dp n k : Nat} (h : ¬ (dp ≤ k ∧ k < dp + n)) : zcp f q0 q1 sp dp n q1 k = f q1 k := by
  simp only [zcp, va_cpy, if_true, if_neg h]
theorem z_cpI (hd : decode cc pc = .ok (.invokestatic idx, 3)) (hk : Cond.methodLink y.cls idx arraycopyName ∈ zT) (hs0 : S[q0]? = some (100, n0)) (hs1 : S[q1]? = some (100, n1)) (h4 : sp + n ≤ n0) (h5 : dp + n ≤ n1) (hb : n0 < 2 ^ 31 ∧ n1 < 2 ^ 31) (hR : 1 ≤ R.frames ∧ 40 ≤ R.locals) (hw : (st.map (fun x => x.category)).sum ≤ 8) (kk : zA G y cc mL ret R Z (pc + 3) lv st (zcp I q0 q1 sp dp n, J, P, S) u v) : zA G y cc mL ret R Z pc lv (.int (nI n) :: .int (nI dp) :: .ref q1 :: .int (nI sp) :: .ref q0 :: st) (I, J, P, S) u v := z_copyI hd hk o_copy hs0 hs1 h4 h5 hb hR hw kk
theorem z_cpJ (hd : decode cc pc = .ok (.invokestatic idx, 3)) (hk : Cond.methodLink y.cls idx arraycopyName ∈ zT) (hs0 : S[q0]? = some (101, n0)) (hs1 : S[q1]? = some (101, n1)) (h4 : sp + n ≤ n0) (h5 : dp + n ≤ n1) (hb : n0 < 2 ^ 31 ∧ n1 < 2 ^ 31) (hR : 1 ≤ R.frames ∧ 40 ≤ R.locals) (hw : (st.map (fun x => x.category)).sum ≤ 8) (kk : zA G y cc mL ret R Z (pc + 3) lv st (I, zcp J q0 q1 sp dp n, P, S) u v) : zA G y cc mL ret R Z pc lv (.int (nI n) :: .int (nI dp) :: .ref q1 :: .int (nI sp) :: .ref q0 :: st) (I, J, P, S) u v := z_copyJ hd hk o_copy hs0 hs1 h4 h5 hb hR hw kk
/-- a table with a row filled from its start up to n -/
def zfl {α : Type} (f : Nat → Nat → α) (q n : Nat) (x : α) : Nat → Nat → α := fun a k => if a = q ∧ k < n then x else f a k
theorem zfl_ne {α : Type} {f : Nat → Nat → α} {q n a : Nat} {x : α} (h : ¬ a = q) : zfl f q n x a = f a := by
  funext k
  simp [zfl, h]
theorem zfl_in {α : Type} {f : Nat → Nat → α} {q n k : Nat} {x : α} (h : k < n) : zfl f q n x q k = x := by simp [zfl, h]
theorem zfl_0 {α : Type} {f : Nat → Nat → α} {q : Nat} {x : α} : zfl f q 0 x = f := by
  funext a k
  simp [zfl]
theorem zfl_s {α : Type} {f : Nat → Nat → α} {q n : Nat} {x : α} : zu (zfl f q n x) q n x = zfl f q (n + 1) x := by
  funext a k
  by_cases h : a = q
  · subst h
    by_cases h2 : k = n
    · subst h2
      simp [zu, zfl]
    · by_cases h3 : k < n
      · simp [zu, zfl, h2, h3, Nat.lt_succ_of_lt h3]
      · simp [zu, zfl, h2, h3, show ¬ k < n + 1 by omega]
  · simp [zu, zfl, h]
end ZCP
