/-! numbers in a walk; ends by the answer's sort -/
section ZX
variable {G : zG} {y : MethodName} {cc : ByteArray} {mL : Nat} {ret : Option FieldType} {R : Room} {Z : List Frame → Array Value → State → State → Prop} {pc : Nat} {lv : List (Option Value)} {st : List Value} {w : zW} {u v d : Nat} {as : List Value}
theorem zi_inc (n : Nat) : nI n + Int32.ofInt 1 = nI (n + 1) := (nI_1 n)
theorem zb0 : nI 0 = 0 ∨ nI 0 = 1 := by decide
theorem zb1 : nI 1 = 0 ∨ nI 1 = 1 := by decide
theorem z_iaddN {m n : Nat} (hd : decode cc pc = .ok (.iadd, 1)) (k : zA G y cc mL ret R Z (pc + 1) lv (.int (nI (m + n)) :: st) w u v) : zA G y cc mL ret R Z pc lv (.int (nI n) :: .int (nI m) :: st) w u v := by
  refine z_iadd hd ?_
  rw [nI_add]
  exact k
theorem z_imulN {m n : Nat} (hd : decode cc pc = .ok (.imul, 1)) (k : zA G y cc mL ret R Z (pc + 1) lv (.int (nI (m * n)) :: st) w u v) : zA G y cc mL ret R Z pc lv (.int (nI n) :: .int (nI m) :: st) w u v := by
  refine z_imul hd ?_
  rw [pk_mul]
  exact k
theorem z_isubN {m n : Nat} (hd : decode cc pc = .ok (.isub, 1)) (h : n ≤ m) (k : zA G y cc mL ret R Z (pc + 1) lv (.int (nI (m - n)) :: st) w u v) : zA G y cc mL ret R Z pc lv (.int (nI n) :: .int (nI m) :: st) w u v := by
  refine z_isub hd ?_
  rw [pk_sub h]
  exact k
theorem zEi_of {Q : Int32 → zW → Prop} (hy : plainName y.cls = true) (hlv : zlay as ++ List.replicate (mL - (zlay as).length) none = lv) (hm : (zlay as).length ≤ mL) (k : zA G y cc mL ret (zRm d 0 0) (zM G 0 0 (fun r w' => ∃ x, r = some (.int x) ∧ Q x w')) 0 lv [] w 0 0) : zEi G y cc mL ret d as w Q := zE_of hy hlv hm k
theorem zEl_of {Q : Int64 → zW → Prop} (hy : plainName y.cls = true) (hlv : zlay as ++ List.replicate (mL - (zlay as).length) none = lv) (hm : (zlay as).length ≤ mL) (k : zA G y cc mL ret (zRm d 0 0) (zM G 0 0 (fun r w' => ∃ x, r = some (.long x) ∧ Q x w')) 0 lv [] w 0 0) : zEl G y cc mL ret d as w Q := zE_of hy hlv hm k
theorem zEv_of {mc ms : Nat} {Q : zW → Prop} (hy : plainName y.cls = true) (hlv : zlay as ++ List.replicate (mL - (zlay as).length) none = lv) (hm : (zlay as).length ≤ mL) (k : zA G y cc mL none (zRm d mc ms) (zM G mc ms (fun r w' => r = none ∧ Q w')) 0 lv [] w 0 0) : zEv G y cc mL d mc ms as w Q := zE_of hy hlv hm k
theorem z_reti {a : Int32} {Q : Int32 → zW → Prop} (hd : decode cc pc = .ok (.ireturn, 1)) (hq : Q a w) : zA G y cc mL (some .int) R (zM G u v (fun r w' => ∃ x, r = some (.int x) ∧ Q x w')) pc lv [.int a] w u v := z_ireturn hd ⟨a, rfl, hq⟩
theorem z_retz {a : Int32} {Q : Int32 → zW → Prop} (hd : decode cc pc = .ok (.ireturn, 1)) (ha : a = 0 ∨ a = 1) (hq : Q a w) : zA G y cc mL (some .boolean) R (zM G u v (fun r w' => ∃ x, r = some (.int x) ∧ Q x w')) pc lv [.int a] w u v := z_zreturn hd ha ⟨a, rfl, hq⟩
theorem z_rett {a : Int32} {ty : FieldType} {Q : Int32 → zW → Prop} (hd : decode cc pc = .ok (.ireturn, 1)) (ha : narrow ty (.int a) = .int a) (hq : Q a w) : zA G y cc mL (some ty) R (zM G u v (fun r w' => ∃ x, r = some (.int x) ∧ Q x w')) pc lv [.int a] w u v := z_treturn hd ha ⟨a, rfl, hq⟩
theorem z_retl {f : Int64} {Q : Int64 → zW → Prop} (hd : decode cc pc = .ok (.lreturn, 1)) (hq : Q f w) : zA G y cc mL (some .long) R (zM G u v (fun r w' => ∃ x, r = some (.long x) ∧ Q x w')) pc lv [.long f] w u v := z_lreturn hd ⟨f, rfl, hq⟩
theorem z_retv {Q : zW → Prop} (hd : decode cc pc = .ok (.return_, 1)) (hq : Q w) : zA G y cc mL none R (zM G u v (fun r w' => r = none ∧ Q w')) pc lv [] w u v := z_return hd ⟨rfl, hq⟩
section
variable {I : Nat → Nat → Int32} {J : Nat → Nat → Int64} {P : Nat → Nat → Option Nat} {S : List (Nat × Nat)} {idx ci N k a q n j : Nat} {ty : FieldType} {fin : Bool} {x : Int32} {xl : Int64}
theorem z_getIv (hd : decode cc pc = .ok (.getfield idx, 3)) (F : zFd y.cls idx ci N k 0 ty fin) (hs : S[a]? = some (ci, N)) (hx : I a k = x) (kk : zA G y cc mL ret R Z (pc + 3) lv (.int x :: st) (I, J, P, S) u v) : zA G y cc mL ret R Z pc lv (.ref a :: st) (I, J, P, S) u v := z_getI hd F hs (by rw [hx]; exact kk)
theorem z_getJv (hd : decode cc pc = .ok (.getfield idx, 3)) (F : zFd y.cls idx ci N k 1 ty fin) (hs : S[a]? = some (ci, N)) (hx : J a k = xl) (kk : zA G y cc mL ret R Z (pc + 3) lv (.long xl :: st) (I, J, P, S) u v) : zA G y cc mL ret R Z pc lv (.ref a :: st) (I, J, P, S) u v := z_getJ hd F hs (by rw [hx]; exact kk)
theorem z_ialdNv (hd : decode cc pc = .ok (.iaload, 1)) (hs : S[q]? = some (100, n)) (hj : j < n) (hn : n < 2 ^ 31) (hx : I q j = x) (k : zA G y cc mL ret R Z (pc + 1) lv (.int x :: st) (I, J, P, S) u v) : zA G y cc mL ret R Z pc lv (.int (nI j) :: .ref q :: st) (I, J, P, S) u v := z_ialdN hd hs hj hn (by rw [hx]; exact k)
theorem z_baldNv (hd : decode cc pc = .ok (.baload, 1)) (hs : S[q]? = some (102, n)) (hj : j < n) (hn : n < 2 ^ 31) (hx : I q j = x) (k : zA G y cc mL ret R Z (pc + 1) lv (.int x :: st) (I, J, P, S) u v) : zA G y cc mL ret R Z pc lv (.int (nI j) :: .ref q :: st) (I, J, P, S) u v := z_baldN hd hs hj hn (by rw [hx]; exact k)
theorem z_zaldNv (hd : decode cc pc = .ok (.baload, 1)) (hs : S[q]? = some (103, n)) (hj : j < n) (hn : n < 2 ^ 31) (hx : I q j = x) (k : zA G y cc mL ret R Z (pc + 1) lv (.int x :: st) (I, J, P, S) u v) : zA G y cc mL ret R Z pc lv (.int (nI j) :: .ref q :: st) (I, J, P, S) u v := z_zaldN hd hs hj hn (by rw [hx]; exact k)
theorem z_laldNv (hd : decode cc pc = .ok (.laload, 1)) (hs : S[q]? = some (101, n)) (hj : j < n) (hn : n < 2 ^ 31) (hx : J q j = xl) (k : zA G y cc mL ret R Z (pc + 1) lv (.long xl :: st) (I, J, P, S) u v) : zA G y cc mL ret R Z pc lv (.int (nI j) :: .ref q :: st) (I, J, P, S) u v := z_laldN hd hs hj hn (by rw [hx]; exact k)
end
end ZX
