/-! one row an instruction (printed by wip/tools/p04.py) -/
section ZS
variable {G : zG} {y : MethodName} {cc : ByteArray} {mL : Nat} {ret : Option FieldType} {R : Room} {Z : List Frame → Array Value → State → State → Prop} {pc : Nat} {lv t : List (Option Value)} {st : List Value} {w : zW} {u v : Nat} {a b : Int32} {f g : Int64} {q : Nat} {x1 x2 x3 : Value} {a0 a1 a2 a3 a4 a5 a6 a7 a8 a9 a10 a11 : Option Value}
variable {I : Nat → Nat → Int32} {J : Nat → Nat → Int64} {P : Nat → Nat → Option Nat} {S : List (Nat × Nat)}
theorem z_iadd (hd : decode cc pc = .ok (.iadd, 1)) (k : zA G y cc mL ret R Z (pc + 1) lv (.int (a + b) :: st) w u v) : zA G y cc mL ret R Z pc lv (.int b :: .int a :: st) w u v := by
  intro p l e s m args below meth c H locs ls C hP hz hS hl
  exact lv_iadd C.1 C.2.1 hd (k p l e s m args below meth c H locs ls C hP hz hS hl)
theorem z_isub (hd : decode cc pc = .ok (.isub, 1)) (k : zA G y cc mL ret R Z (pc + 1) lv (.int (a - b) :: st) w u v) : zA G y cc mL ret R Z pc lv (.int b :: .int a :: st) w u v := by
  intro p l e s m args below meth c H locs ls C hP hz hS hl
  exact lv_isub C.1 C.2.1 hd (k p l e s m args below meth c H locs ls C hP hz hS hl)
theorem z_imul (hd : decode cc pc = .ok (.imul, 1)) (k : zA G y cc mL ret R Z (pc + 1) lv (.int (a * b) :: st) w u v) : zA G y cc mL ret R Z pc lv (.int b :: .int a :: st) w u v := by
  intro p l e s m args below meth c H locs ls C hP hz hS hl
  exact lv_imul C.1 C.2.1 hd (k p l e s m args below meth c H locs ls C hP hz hS hl)
theorem z_iand (hd : decode cc pc = .ok (.iand, 1)) (k : zA G y cc mL ret R Z (pc + 1) lv (.int (a &&& b) :: st) w u v) : zA G y cc mL ret R Z pc lv (.int b :: .int a :: st) w u v := by
  intro p l e s m args below meth c H locs ls C hP hz hS hl
  exact lv_iand C.1 C.2.1 hd (k p l e s m args below meth c H locs ls C hP hz hS hl)
theorem z_ior (hd : decode cc pc = .ok (.ior, 1)) (k : zA G y cc mL ret R Z (pc + 1) lv (.int (a ||| b) :: st) w u v) : zA G y cc mL ret R Z pc lv (.int b :: .int a :: st) w u v := by
  intro p l e s m args below meth c H locs ls C hP hz hS hl
  exact lv_ior C.1 C.2.1 hd (k p l e s m args below meth c H locs ls C hP hz hS hl)
theorem z_ixor (hd : decode cc pc = .ok (.ixor, 1)) (k : zA G y cc mL ret R Z (pc + 1) lv (.int (a ^^^ b) :: st) w u v) : zA G y cc mL ret R Z pc lv (.int b :: .int a :: st) w u v := by
  intro p l e s m args below meth c H locs ls C hP hz hS hl
  exact lv_ixor C.1 C.2.1 hd (k p l e s m args below meth c H locs ls C hP hz hS hl)
theorem z_ishl (hd : decode cc pc = .ok (.ishl, 1)) (k : zA G y cc mL ret R Z (pc + 1) lv (.int (a <<< (b &&& 31)) :: st) w u v) : zA G y cc mL ret R Z pc lv (.int b :: .int a :: st) w u v := by
  intro p l e s m args below meth c H locs ls C hP hz hS hl
  exact lv_ishl C.1 C.2.1 hd (k p l e s m args below meth c H locs ls C hP hz hS hl)
theorem z_ishr (hd : decode cc pc = .ok (.ishr, 1)) (k : zA G y cc mL ret R Z (pc + 1) lv (.int (a >>> (b &&& 31)) :: st) w u v) : zA G y cc mL ret R Z pc lv (.int b :: .int a :: st) w u v := by
  intro p l e s m args below meth c H locs ls C hP hz hS hl
  exact lv_ishr C.1 C.2.1 hd (k p l e s m args below meth c H locs ls C hP hz hS hl)
theorem z_idiv (hb : ¬ b = 0) (hd : decode cc pc = .ok (.idiv, 1)) (k : zA G y cc mL ret R Z (pc + 1) lv (.int (a / b) :: st) w u v) : zA G y cc mL ret R Z pc lv (.int b :: .int a :: st) w u v := by
  intro p l e s m args below meth c H locs ls C hP hz hS hl
  exact lv_idiv C.1 C.2.1 hd hb (k p l e s m args below meth c H locs ls C hP hz hS hl)
theorem z_irem (hb : ¬ b = 0) (hd : decode cc pc = .ok (.irem, 1)) (k : zA G y cc mL ret R Z (pc + 1) lv (.int (a - a / b * b) :: st) w u v) : zA G y cc mL ret R Z pc lv (.int b :: .int a :: st) w u v := by
  intro p l e s m args below meth c H locs ls C hP hz hS hl
  exact lv_irem C.1 C.2.1 hd hb (k p l e s m args below meth c H locs ls C hP hz hS hl)
theorem z_ineg (hd : decode cc pc = .ok (.ineg, 1)) (k : zA G y cc mL ret R Z (pc + 1) lv (.int (-a) :: st) w u v) : zA G y cc mL ret R Z pc lv (.int a :: st) w u v := by
  intro p l e s m args below meth c H locs ls C hP hz hS hl
  exact lv_ineg C.1 C.2.1 hd (k p l e s m args below meth c H locs ls C hP hz hS hl)
theorem z_iushr (hd : decode cc pc = .ok (.iushr, 1)) (k : zA G y cc mL ret R Z (pc + 1) lv (.int ((a.toUInt32 >>> (b.toUInt32 &&& Int32.toUInt32 31)).toInt32) :: st) w u v) : zA G y cc mL ret R Z pc lv (.int b :: .int a :: st) w u v := by
  intro p l e s m args below meth c H locs ls C hP hz hS hl
  exact lv_iushr C.1 C.2.1 hd rfl (k p l e s m args below meth c H locs ls C hP hz hS hl)
theorem z_ladd (hd : decode cc pc = .ok (.ladd, 1)) (k : zA G y cc mL ret R Z (pc + 1) lv (.long (f + g) :: st) w u v) : zA G y cc mL ret R Z pc lv (.long g :: .long f :: st) w u v := by
  intro p l e s m args below meth c H locs ls C hP hz hS hl
  exact lv_ladd C.1 C.2.1 hd (k p l e s m args below meth c H locs ls C hP hz hS hl)
theorem z_lsub (hd : decode cc pc = .ok (.lsub, 1)) (k : zA G y cc mL ret R Z (pc + 1) lv (.long (f - g) :: st) w u v) : zA G y cc mL ret R Z pc lv (.long g :: .long f :: st) w u v := by
  intro p l e s m args below meth c H locs ls C hP hz hS hl
  exact lv_lsub C.1 C.2.1 hd (k p l e s m args below meth c H locs ls C hP hz hS hl)
theorem z_lmul (hd : decode cc pc = .ok (.lmul, 1)) (k : zA G y cc mL ret R Z (pc + 1) lv (.long (f * g) :: st) w u v) : zA G y cc mL ret R Z pc lv (.long g :: .long f :: st) w u v := by
  intro p l e s m args below meth c H locs ls C hP hz hS hl
  exact lv_lmul C.1 C.2.1 hd (k p l e s m args below meth c H locs ls C hP hz hS hl)
theorem z_land (hd : decode cc pc = .ok (.land, 1)) (k : zA G y cc mL ret R Z (pc + 1) lv (.long (f &&& g) :: st) w u v) : zA G y cc mL ret R Z pc lv (.long g :: .long f :: st) w u v := by
  intro p l e s m args below meth c H locs ls C hP hz hS hl
  exact lv_land C.1 C.2.1 hd (k p l e s m args below meth c H locs ls C hP hz hS hl)
theorem z_lor (hd : decode cc pc = .ok (.lor, 1)) (k : zA G y cc mL ret R Z (pc + 1) lv (.long (f ||| g) :: st) w u v) : zA G y cc mL ret R Z pc lv (.long g :: .long f :: st) w u v := by
  intro p l e s m args below meth c H locs ls C hP hz hS hl
  exact lv_lor C.1 C.2.1 hd (k p l e s m args below meth c H locs ls C hP hz hS hl)
theorem z_ldiv (hb : ¬ g = 0) (hd : decode cc pc = .ok (.ldiv, 1)) (k : zA G y cc mL ret R Z (pc + 1) lv (.long (f / g) :: st) w u v) : zA G y cc mL ret R Z pc lv (.long g :: .long f :: st) w u v := by
  intro p l e s m args below meth c H locs ls C hP hz hS hl
  exact lv_ldiv C.1 C.2.1 hd hb (k p l e s m args below meth c H locs ls C hP hz hS hl)
theorem z_lrem (hb : ¬ g = 0) (hd : decode cc pc = .ok (.lrem, 1)) (k : zA G y cc mL ret R Z (pc + 1) lv (.long (f - f / g * g) :: st) w u v) : zA G y cc mL ret R Z pc lv (.long g :: .long f :: st) w u v := by
  intro p l e s m args below meth c H locs ls C hP hz hS hl
  exact lv_lrem C.1 C.2.1 hd hb (k p l e s m args below meth c H locs ls C hP hz hS hl)
theorem z_lneg (hd : decode cc pc = .ok (.lneg, 1)) (k : zA G y cc mL ret R Z (pc + 1) lv (.long (-f) :: st) w u v) : zA G y cc mL ret R Z pc lv (.long f :: st) w u v := by
  intro p l e s m args below meth c H locs ls C hP hz hS hl
  exact lv_lneg C.1 C.2.1 hd (k p l e s m args below meth c H locs ls C hP hz hS hl)
theorem z_lshl (hd : decode cc pc = .ok (.lshl, 1)) (k : zA G y cc mL ret R Z (pc + 1) lv (.long (f <<< (b.toInt64 &&& 63)) :: st) w u v) : zA G y cc mL ret R Z pc lv (.int b :: .long f :: st) w u v := by
  intro p l e s m args below meth c H locs ls C hP hz hS hl
  exact lv_lshl C.1 C.2.1 hd rfl (k p l e s m args below meth c H locs ls C hP hz hS hl)
theorem z_lshr (hd : decode cc pc = .ok (.lshr, 1)) (k : zA G y cc mL ret R Z (pc + 1) lv (.long (f >>> (b.toInt64 &&& 63)) :: st) w u v) : zA G y cc mL ret R Z pc lv (.int b :: .long f :: st) w u v := by
  intro p l e s m args below meth c H locs ls C hP hz hS hl
  exact lv_lshr C.1 C.2.1 hd rfl (k p l e s m args below meth c H locs ls C hP hz hS hl)
theorem z_lushr (hd : decode cc pc = .ok (.lushr, 1)) (k : zA G y cc mL ret R Z (pc + 1) lv (.long ((f.toUInt64 >>> (b.toInt64.toUInt64 &&& Int64.toUInt64 63)).toInt64) :: st) w u v) : zA G y cc mL ret R Z pc lv (.int b :: .long f :: st) w u v := by
  intro p l e s m args below meth c H locs ls C hP hz hS hl
  exact lv_lushr C.1 C.2.1 hd rfl (k p l e s m args below meth c H locs ls C hP hz hS hl)
theorem z_i2l (hd : decode cc pc = .ok (.i2l, 1)) (k : zA G y cc mL ret R Z (pc + 1) lv (.long a.toInt64 :: st) w u v) : zA G y cc mL ret R Z pc lv (.int a :: st) w u v := by
  intro p l e s m args below meth c H locs ls C hP hz hS hl
  exact lv_i2l C.1 C.2.1 hd rfl (k p l e s m args below meth c H locs ls C hP hz hS hl)
theorem z_l2i (hd : decode cc pc = .ok (.l2i, 1)) (k : zA G y cc mL ret R Z (pc + 1) lv (.int f.toInt32 :: st) w u v) : zA G y cc mL ret R Z pc lv (.long f :: st) w u v := by
  intro p l e s m args below meth c H locs ls C hP hz hS hl
  exact lv_l2i C.1 C.2.1 hd rfl (k p l e s m args below meth c H locs ls C hP hz hS hl)
theorem z_i2b (hd : decode cc pc = .ok (.i2b, 1)) (k : zA G y cc mL ret R Z (pc + 1) lv (.int a.toInt8.toInt32 :: st) w u v) : zA G y cc mL ret R Z pc lv (.int a :: st) w u v := by
  intro p l e s m args below meth c H locs ls C hP hz hS hl
  exact lv_i2b C.1 C.2.1 hd rfl (k p l e s m args below meth c H locs ls C hP hz hS hl)
theorem z_i2s (hd : decode cc pc = .ok (.i2s, 1)) (k : zA G y cc mL ret R Z (pc + 1) lv (.int a.toInt16.toInt32 :: st) w u v) : zA G y cc mL ret R Z pc lv (.int a :: st) w u v := by
  intro p l e s m args below meth c H locs ls C hP hz hS hl
  exact lv_i2s C.1 C.2.1 hd rfl (k p l e s m args below meth c H locs ls C hP hz hS hl)
theorem z_i2c (hd : decode cc pc = .ok (.i2c, 1)) (k : zA G y cc mL ret R Z (pc + 1) lv (.int (a.toUInt32 % 65536).toInt32 :: st) w u v) : zA G y cc mL ret R Z pc lv (.int a :: st) w u v := by
  intro p l e s m args below meth c H locs ls C hP hz hS hl
  exact lv_i2c C.1 C.2.1 hd rfl (k p l e s m args below meth c H locs ls C hP hz hS hl)
theorem z_lcmp (hd : decode cc pc = .ok (.lcmp, 1)) (k : zA G y cc mL ret R Z (pc + 1) lv (.int (lg_cmp f g) :: st) w u v) : zA G y cc mL ret R Z pc lv (.long g :: .long f :: st) w u v := by
  intro p l e s m args below meth c H locs ls C hP hz hS hl
  exact W.lcmp C.1 C.2.1 hd (k p l e s m args below meth c H locs ls C hP hz hS hl)
theorem z_dup (hx : x1.category = 1) (hd : decode cc pc = .ok (.dup, 1)) (k : zA G y cc mL ret R Z (pc + 1) lv (x1 :: x1 :: st) w u v) : zA G y cc mL ret R Z pc lv (x1 :: st) w u v := by
  intro p l e s m args below meth c H locs ls C hP hz hS hl
  exact lv_dup C.1 C.2.1 hd ((zv_cat G x1).trans hx) (k p l e s m args below meth c H locs ls C hP hz hS hl)
theorem z_pop (hx : x1.category = 1) (hd : decode cc pc = .ok (.pop, 1)) (k : zA G y cc mL ret R Z (pc + 1) lv (st) w u v) : zA G y cc mL ret R Z pc lv (x1 :: st) w u v := by
  intro p l e s m args below meth c H locs ls C hP hz hS hl
  exact lv_pop C.1 C.2.1 hd ((zv_cat G x1).trans hx) (k p l e s m args below meth c H locs ls C hP hz hS hl)
theorem z_pop2 (hx : x1.category = 2) (hd : decode cc pc = .ok (.pop2, 1)) (k : zA G y cc mL ret R Z (pc + 1) lv (st) w u v) : zA G y cc mL ret R Z pc lv (x1 :: st) w u v := by
  intro p l e s m args below meth c H locs ls C hP hz hS hl
  exact lv_pop2_2 C.1 C.2.1 hd ((zv_cat G x1).trans hx) (k p l e s m args below meth c H locs ls C hP hz hS hl)
theorem z_dup2 (hx : x1.category = 1) (hx2 : x2.category = 1) (hd : decode cc pc = .ok (.dup2, 1)) (k : zA G y cc mL ret R Z (pc + 1) lv (x1 :: x2 :: x1 :: x2 :: st) w u v) : zA G y cc mL ret R Z pc lv (x1 :: x2 :: st) w u v := by
  intro p l e s m args below meth c H locs ls C hP hz hS hl
  exact lv_dup2_11 C.1 C.2.1 hd ((zv_cat G x1).trans hx) ((zv_cat G x2).trans hx2) (k p l e s m args below meth c H locs ls C hP hz hS hl)
theorem z_dup2l (hx : x1.category = 2) (hd : decode cc pc = .ok (.dup2, 1)) (k : zA G y cc mL ret R Z (pc + 1) lv (x1 :: x1 :: st) w u v) : zA G y cc mL ret R Z pc lv (x1 :: st) w u v := by
  intro p l e s m args below meth c H locs ls C hP hz hS hl
  exact lv_dup2_2 C.1 C.2.1 hd ((zv_cat G x1).trans hx) (k p l e s m args below meth c H locs ls C hP hz hS hl)
theorem z_dup_x1 (hx : x1.category = 1) (hx2 : x2.category = 1) (hd : decode cc pc = .ok (.dup_x1, 1)) (k : zA G y cc mL ret R Z (pc + 1) lv (x1 :: x2 :: x1 :: st) w u v) : zA G y cc mL ret R Z pc lv (x1 :: x2 :: st) w u v := by
  intro p l e s m args below meth c H locs ls C hP hz hS hl
  exact lv_dup_x1 C.1 C.2.1 hd ((zv_cat G x1).trans hx) ((zv_cat G x2).trans hx2) (k p l e s m args below meth c H locs ls C hP hz hS hl)
theorem z_dup_x2 (hx : x1.category = 1) (hx2 : x2.category = 1) (hx3 : x3.category = 1) (hd : decode cc pc = .ok (.dup_x2, 1)) (k : zA G y cc mL ret R Z (pc + 1) lv (x1 :: x2 :: x3 :: x1 :: st) w u v) : zA G y cc mL ret R Z pc lv (x1 :: x2 :: x3 :: st) w u v := by
  intro p l e s m args below meth c H locs ls C hP hz hS hl
  exact lv_dup_x2 C.1 C.2.1 hd ((zv_cat G x1).trans hx) ((zv_cat G x2).trans hx2) ((zv_cat G x3).trans hx3) (k p l e s m args below meth c H locs ls C hP hz hS hl)
theorem z_dup2_x1l (hx : x1.category = 2) (hx2 : x2.category = 1) (hd : decode cc pc = .ok (.dup2_x1, 1)) (k : zA G y cc mL ret R Z (pc + 1) lv (x1 :: x2 :: x1 :: st) w u v) : zA G y cc mL ret R Z pc lv (x1 :: x2 :: st) w u v := by
  intro p l e s m args below meth c H locs ls C hP hz hS hl
  exact lv_dup2_x1_2 C.1 C.2.1 hd ((zv_cat G x1).trans hx) ((zv_cat G x2).trans hx2) (k p l e s m args below meth c H locs ls C hP hz hS hl)
theorem z_iconst {n : Int} (hd : decode cc pc = .ok (.iconst n, 1)) (hv : Int32.ofInt n = a) (k : zA G y cc mL ret R Z (pc + 1) lv (.int a :: st) w u v) : zA G y cc mL ret R Z pc lv st w u v := by
  intro p l e s m args below meth c H locs ls C hP hz hS hl
  exact lv_iconst C.1 C.2.1 hd hv (k p l e s m args below meth c H locs ls C hP hz hS hl)
theorem z_bipush {n : Int} (hd : decode cc pc = .ok (.bipush n, 2)) (hv : (Int8.ofInt n).toInt32 = a) (k : zA G y cc mL ret R Z (pc + 2) lv (.int a :: st) w u v) : zA G y cc mL ret R Z pc lv st w u v := by
  intro p l e s m args below meth c H locs ls C hP hz hS hl
  exact lv_bipush C.1 C.2.1 hd hv (k p l e s m args below meth c H locs ls C hP hz hS hl)
theorem z_sipush {n : Int} (hd : decode cc pc = .ok (.sipush n, 3)) (hv : (Int16.ofInt n).toInt32 = a) (k : zA G y cc mL ret R Z (pc + 3) lv (.int a :: st) w u v) : zA G y cc mL ret R Z pc lv st w u v := by
  intro p l e s m args below meth c H locs ls C hP hz hS hl
  exact lv_sipush C.1 C.2.1 hd hv (k p l e s m args below meth c H locs ls C hP hz hS hl)
theorem z_lconst {n : Fin 2} (hd : decode cc pc = .ok (.lconst n, 1)) (hv : Int64.ofNat (n : Nat) = f) (k : zA G y cc mL ret R Z (pc + 1) lv (.long f :: st) w u v) : zA G y cc mL ret R Z pc lv st w u v := by
  intro p l e s m args below meth c H locs ls C hP hz hS hl
  exact lv_lconst C.1 C.2.1 hd hv (k p l e s m args below meth c H locs ls C hP hz hS hl)
theorem z_ldc {n : Nat} (hd : decode cc pc = .ok (.ldc n, 2)) (hc : Cond.constant y.cls n a ∈ zT) (k : zA G y cc mL ret R Z (pc + 2) lv (.int a :: st) w u v) : zA G y cc mL ret R Z pc lv st w u v := by
  intro p l e s m args below meth c H locs ls C hP hz hS hl
  exact W.ldc C.1 C.2.1 C.2.2.2.2.2.1 (C.2.2.2.2.2.2.2.1 _ hc) rfl hd (k p l e s m args below meth c H locs ls C hP hz hS hl)
theorem z_ldc2 {n : Nat} (hd : decode cc pc = .ok (.ldc2_w n, 3)) (hc : Cond.constantLong y.cls n f ∈ zT) (k : zA G y cc mL ret R Z (pc + 3) lv (.long f :: st) w u v) : zA G y cc mL ret R Z pc lv st w u v := by
  intro p l e s m args below meth c H locs ls C hP hz hS hl
  exact W.ldc2 C.1 C.2.1 C.2.2.2.2.2.1 (C.2.2.2.2.2.2.2.1 _ hc) rfl hd (k p l e s m args below meth c H locs ls C hP hz hS hl)
theorem z_ldcw {n : Nat} (hd : decode cc pc = .ok (.ldc_w n, 3)) (hc : Cond.constant y.cls n a ∈ zT) (k : zA G y cc mL ret R Z (pc + 3) lv (.int a :: st) w u v) : zA G y cc mL ret R Z pc lv st w u v := by
  intro p l e s m args below meth c H locs ls C hP hz hS hl
  exact lv_ldcw C.1 C.2.1 C.2.2.2.2.2.1 (C.2.2.2.2.2.2.2.1 _ hc) hd (k p l e s m args below meth c H locs ls C hP hz hS hl)
theorem z_icmp_eq {off : Int} {tgt : Nat} (hd : decode cc pc = .ok (.if_icmp .eq off, 3)) (ht : (pc : Int) + off = (tgt : Int)) (kt : a = b → zA G y cc mL ret R Z tgt lv st w u v) (kf : ¬ a = b → zA G y cc mL ret R Z (pc + 3) lv st w u v) : zA G y cc mL ret R Z pc lv (.int b :: .int a :: st) w u v := by
  intro p l e s m args below meth c H locs ls C hP hz hS hl
  exact lv_icmp_eq C.1 C.2.1 hd ht (fun h => kt h p l e s m args below meth c H locs ls C hP hz hS hl) (fun h => kf h p l e s m args below meth c H locs ls C hP hz hS hl)
theorem z_if_eq {off : Int} {tgt : Nat} (hd : decode cc pc = .ok (.ifCond .eq off, 3)) (ht : (pc : Int) + off = (tgt : Int)) (kt : a = 0 → zA G y cc mL ret R Z tgt lv st w u v) (kf : ¬ a = 0 → zA G y cc mL ret R Z (pc + 3) lv st w u v) : zA G y cc mL ret R Z pc lv (.int a :: st) w u v := by
  intro p l e s m args below meth c H locs ls C hP hz hS hl
  exact lv_if_eq C.1 C.2.1 hd ht (fun h => kt h p l e s m args below meth c H locs ls C hP hz hS hl) (fun h => kf h p l e s m args below meth c H locs ls C hP hz hS hl)
theorem z_icmp_ne {off : Int} {tgt : Nat} (hd : decode cc pc = .ok (.if_icmp .ne off, 3)) (ht : (pc : Int) + off = (tgt : Int)) (kt : ¬ a = b → zA G y cc mL ret R Z tgt lv st w u v) (kf : a = b → zA G y cc mL ret R Z (pc + 3) lv st w u v) : zA G y cc mL ret R Z pc lv (.int b :: .int a :: st) w u v := by
  intro p l e s m args below meth c H locs ls C hP hz hS hl
  exact lv_icmp_ne C.1 C.2.1 hd ht (fun h => kt h p l e s m args below meth c H locs ls C hP hz hS hl) (fun h => kf h p l e s m args below meth c H locs ls C hP hz hS hl)
theorem z_if_ne {off : Int} {tgt : Nat} (hd : decode cc pc = .ok (.ifCond .ne off, 3)) (ht : (pc : Int) + off = (tgt : Int)) (kt : ¬ a = 0 → zA G y cc mL ret R Z tgt lv st w u v) (kf : a = 0 → zA G y cc mL ret R Z (pc + 3) lv st w u v) : zA G y cc mL ret R Z pc lv (.int a :: st) w u v := by
  intro p l e s m args below meth c H locs ls C hP hz hS hl
  exact lv_if_ne C.1 C.2.1 hd ht (fun h => kt h p l e s m args below meth c H locs ls C hP hz hS hl) (fun h => kf h p l e s m args below meth c H locs ls C hP hz hS hl)
theorem z_icmp_lt {off : Int} {tgt : Nat} (hd : decode cc pc = .ok (.if_icmp .lt off, 3)) (ht : (pc : Int) + off = (tgt : Int)) (kt : a < b → zA G y cc mL ret R Z tgt lv st w u v) (kf : ¬ a < b → zA G y cc mL ret R Z (pc + 3) lv st w u v) : zA G y cc mL ret R Z pc lv (.int b :: .int a :: st) w u v := by
  intro p l e s m args below meth c H locs ls C hP hz hS hl
  exact lv_icmp_lt C.1 C.2.1 hd ht (fun h => kt h p l e s m args below meth c H locs ls C hP hz hS hl) (fun h => kf h p l e s m args below meth c H locs ls C hP hz hS hl)
theorem z_if_lt {off : Int} {tgt : Nat} (hd : decode cc pc = .ok (.ifCond .lt off, 3)) (ht : (pc : Int) + off = (tgt : Int)) (kt : a < 0 → zA G y cc mL ret R Z tgt lv st w u v) (kf : ¬ a < 0 → zA G y cc mL ret R Z (pc + 3) lv st w u v) : zA G y cc mL ret R Z pc lv (.int a :: st) w u v := by
  intro p l e s m args below meth c H locs ls C hP hz hS hl
  exact lv_if_lt C.1 C.2.1 hd ht (fun h => kt h p l e s m args below meth c H locs ls C hP hz hS hl) (fun h => kf h p l e s m args below meth c H locs ls C hP hz hS hl)
theorem z_icmp_ge {off : Int} {tgt : Nat} (hd : decode cc pc = .ok (.if_icmp .ge off, 3)) (ht : (pc : Int) + off = (tgt : Int)) (kt : b ≤ a → zA G y cc mL ret R Z tgt lv st w u v) (kf : ¬ b ≤ a → zA G y cc mL ret R Z (pc + 3) lv st w u v) : zA G y cc mL ret R Z pc lv (.int b :: .int a :: st) w u v := by
  intro p l e s m args below meth c H locs ls C hP hz hS hl
  exact lv_icmp_ge C.1 C.2.1 hd ht (fun h => kt h p l e s m args below meth c H locs ls C hP hz hS hl) (fun h => kf h p l e s m args below meth c H locs ls C hP hz hS hl)
theorem z_if_ge {off : Int} {tgt : Nat} (hd : decode cc pc = .ok (.ifCond .ge off, 3)) (ht : (pc : Int) + off = (tgt : Int)) (kt : 0 ≤ a → zA G y cc mL ret R Z tgt lv st w u v) (kf : ¬ 0 ≤ a → zA G y cc mL ret R Z (pc + 3) lv st w u v) : zA G y cc mL ret R Z pc lv (.int a :: st) w u v := by
  intro p l e s m args below meth c H locs ls C hP hz hS hl
  exact lv_if_ge C.1 C.2.1 hd ht (fun h => kt h p l e s m args below meth c H locs ls C hP hz hS hl) (fun h => kf h p l e s m args below meth c H locs ls C hP hz hS hl)
theorem z_icmp_gt {off : Int} {tgt : Nat} (hd : decode cc pc = .ok (.if_icmp .gt off, 3)) (ht : (pc : Int) + off = (tgt : Int)) (kt : b < a → zA G y cc mL ret R Z tgt lv st w u v) (kf : ¬ b < a → zA G y cc mL ret R Z (pc + 3) lv st w u v) : zA G y cc mL ret R Z pc lv (.int b :: .int a :: st) w u v := by
  intro p l e s m args below meth c H locs ls C hP hz hS hl
  exact lv_icmp_gt C.1 C.2.1 hd ht (fun h => kt h p l e s m args below meth c H locs ls C hP hz hS hl) (fun h => kf h p l e s m args below meth c H locs ls C hP hz hS hl)
theorem z_if_gt {off : Int} {tgt : Nat} (hd : decode cc pc = .ok (.ifCond .gt off, 3)) (ht : (pc : Int) + off = (tgt : Int)) (kt : 0 < a → zA G y cc mL ret R Z tgt lv st w u v) (kf : ¬ 0 < a → zA G y cc mL ret R Z (pc + 3) lv st w u v) : zA G y cc mL ret R Z pc lv (.int a :: st) w u v := by
  intro p l e s m args below meth c H locs ls C hP hz hS hl
  exact lv_if_gt C.1 C.2.1 hd ht (fun h => kt h p l e s m args below meth c H locs ls C hP hz hS hl) (fun h => kf h p l e s m args below meth c H locs ls C hP hz hS hl)
theorem z_icmp_le {off : Int} {tgt : Nat} (hd : decode cc pc = .ok (.if_icmp .le off, 3)) (ht : (pc : Int) + off = (tgt : Int)) (kt : a ≤ b → zA G y cc mL ret R Z tgt lv st w u v) (kf : ¬ a ≤ b → zA G y cc mL ret R Z (pc + 3) lv st w u v) : zA G y cc mL ret R Z pc lv (.int b :: .int a :: st) w u v := by
  intro p l e s m args below meth c H locs ls C hP hz hS hl
  exact lv_icmp_le C.1 C.2.1 hd ht (fun h => kt h p l e s m args below meth c H locs ls C hP hz hS hl) (fun h => kf h p l e s m args below meth c H locs ls C hP hz hS hl)
theorem z_if_le {off : Int} {tgt : Nat} (hd : decode cc pc = .ok (.ifCond .le off, 3)) (ht : (pc : Int) + off = (tgt : Int)) (kt : a ≤ 0 → zA G y cc mL ret R Z tgt lv st w u v) (kf : ¬ a ≤ 0 → zA G y cc mL ret R Z (pc + 3) lv st w u v) : zA G y cc mL ret R Z pc lv (.int a :: st) w u v := by
  intro p l e s m args below meth c H locs ls C hP hz hS hl
  exact lv_if_le C.1 C.2.1 hd ht (fun h => kt h p l e s m args below meth c H locs ls C hP hz hS hl) (fun h => kf h p l e s m args below meth c H locs ls C hP hz hS hl)
theorem z_goto {off : Int} {tgt : Nat} (hd : decode cc pc = .ok (.goto off, 3)) (ht : (pc : Int) + off = (tgt : Int)) (k : zA G y cc mL ret R Z tgt lv st w u v) : zA G y cc mL ret R Z pc lv st w u v := by
  intro p l e s m args below meth c H locs ls C hP hz hS hl
  exact lv_goto C.1 C.2.1 hd ht (k p l e s m args below meth c H locs ls C hP hz hS hl)
theorem z_tableIn {dflt lo hi : Int} {offs : Array Int} {len : Nat} {off : Int} {tgt : Nat} (hd : decode cc pc = .ok (.tableswitch dflt lo hi offs, len)) (h1 : ¬ a.toInt < lo) (h2 : ¬ hi < a.toInt) (ho : offs[(a.toInt - lo).toNat]? = some off) (ht : (pc : Int) + off = (tgt : Int)) (k : zA G y cc mL ret R Z tgt lv st w u v) : zA G y cc mL ret R Z pc lv (.int a :: st) w u v := by
  intro p l e s m args below meth c H locs ls C hP hz hS hl
  exact lv_tableIn C.1 C.2.1 hd h1 h2 ho ht (k p l e s m args below meth c H locs ls C hP hz hS hl)
theorem z_tableOut {dflt lo hi : Int} {offs : Array Int} {len : Nat} {tgt : Nat} (hd : decode cc pc = .ok (.tableswitch dflt lo hi offs, len)) (h : a.toInt < lo ∨ hi < a.toInt) (ht : (pc : Int) + dflt = (tgt : Int)) (k : zA G y cc mL ret R Z tgt lv st w u v) : zA G y cc mL ret R Z pc lv (.int a :: st) w u v := by
  intro p l e s m args below meth c H locs ls C hP hz hS hl
  exact lv_tableOut C.1 C.2.1 hd h ht (k p l e s m args below meth c H locs ls C hP hz hS hl)
theorem z_lookup {dflt : Int} {ps : Array (Int × Int)} {len : Nat} {off : Int} {tgt : Nat} (hd : decode cc pc = .ok (.lookupswitch dflt ps, len)) (hp : (ps.toList.zip (ps.toList.drop 1)).all (fun (a, next) => a.1 < next.1) = true) (ho : Op.lookupswitch.offset ps.toList dflt a.toInt = off) (ht : (pc : Int) + off = (tgt : Int)) (k : zA G y cc mL ret R Z tgt lv st w u v) : zA G y cc mL ret R Z pc lv (.int a :: st) w u v := by
  intro p l e s m args below meth c H locs ls C hP hz hS hl
  exact lv_lookup C.1 C.2.1 hd hp ho ht (k p l e s m args below meth c H locs ls C hP hz hS hl)

def zpr (G : zG) (lv : List (Option Value)) : List (Nat × Value) := (List.range lv.length).filterMap (fun j => (lv.getD j none).map (fun v => (j, zv G v)))
theorem zpr_mem {q : Nat × Value} : q ∈ zpr G lv ↔ ∃ x, lv[q.1]? = some (some x) ∧ q.2 = zv G x := by
  unfold zpr
  rw [List.mem_filterMap]
  constructor
  · rintro ⟨j, hj, h⟩
    rw [List.mem_range] at hj
    have e : lv.getD j none = lv[j] := by simp [List.getD_eq_getElem?_getD, hj]
    rw [e] at h
    cases hx : lv[j] with
    | none => rw [hx] at h; cases h
    | some x =>
      rw [hx] at h
      cases h
      exact ⟨x, by rw [List.getElem?_eq_getElem hj, hx], rfl⟩
  · rintro ⟨x, h1, h2⟩
    obtain ⟨i, z⟩ := q
    have hl : i < lv.length := (List.getElem?_eq_some_iff.mp h1).1
    refine ⟨i, List.mem_range.mpr hl, ?_⟩
    have e : lv.getD i none = some x := by rw [List.getD_eq_getElem?_getD, h1]; rfl
    rw [e]
    dsimp only at h2
    rw [h2]
    rfl
theorem zH_lv {ls : Array Slot} (h : zH G ls mL lv) : lv_has ls mL (zpr G lv) := ⟨h.1, h.2.1, fun q hq => by
  obtain ⟨x, h1, h2⟩ := zpr_mem.mp hq
  rw [h2]
  exact h.2.2.2 _ _ h1⟩
theorem zH_st1 {ls ls' : Array Slot} {i : Nat} {x : Value} (h : zH G ls mL lv) (h' : lv_has ls' mL ((i, zv G x) :: (zpr G lv).filter (fun q => !(q.1 == i) && !(q.1 + 1 == i && q.2.category == 2)))) (hc : ∀ z, lv[i - 1]? = some (some z) → i ≠ 0 → ¬ z.category = 2) : zH G ls' mL (lv.set i (some x)) := by
  refine ⟨h'.1, h'.2.1, by simp [h.2.2.1], fun j z hj => ?_⟩
  by_cases e : j = i
  · subst e
    rw [List.getElem?_set] at hj
    simp only [if_true] at hj
    split at hj
    · cases hj
      exact h'.2.2 (j, zv G x) List.mem_cons_self
    · cases hj
  · rw [List.getElem?_set_ne (fun q => e q.symm)] at hj
    refine h'.2.2 (j, zv G z) (List.mem_cons_of_mem _ (List.mem_filter.mpr ⟨zpr_mem.mpr ⟨z, hj, rfl⟩, ?_⟩))
    have h2 : ¬ (j + 1 = i ∧ z.category = 2) := fun q => hc z (by rw [show i - 1 = j by omega]; exact hj) (by omega) q.2
    by_cases h3 : j + 1 = i
    · have h4 : ¬ z.category = 2 := fun q => h2 ⟨h3, q⟩
      simp [e, h3, zv_cat, h4]
    · simp [e, h3]
theorem zH_st2 {ls ls' : Array Slot} {i : Nat} {x : Value} (h : zH G ls mL lv) (h' : lv_has ls' mL ((i, zv G x) :: (zpr G lv).filter (fun q => !(q.1 == i) && (!(q.1 == i + 1) && !(q.1 + 1 == i && q.2.category == 2))))) (hc : ∀ z, lv[i - 1]? = some (some z) → i ≠ 0 → ¬ z.category = 2) : zH G ls' mL ((lv.set i (some x)).set (i + 1) none) := by
  refine ⟨h'.1, h'.2.1, by simp [h.2.2.1], fun j z hj => ?_⟩
  by_cases e1 : j = i + 1
  · subst e1
    rw [List.getElem?_set] at hj
    simp only [if_true] at hj
    split at hj <;> cases hj
  · rw [List.getElem?_set_ne (fun q => e1 q.symm)] at hj
    by_cases e : j = i
    · subst e
      rw [List.getElem?_set] at hj
      simp only [if_true] at hj
      split at hj
      · cases hj
        exact h'.2.2 (j, zv G x) List.mem_cons_self
      · cases hj
    · rw [List.getElem?_set_ne (fun q => e q.symm)] at hj
      refine h'.2.2 (j, zv G z) (List.mem_cons_of_mem _ (List.mem_filter.mpr ⟨zpr_mem.mpr ⟨z, hj, rfl⟩, ?_⟩))
      have h2 : ¬ (j + 1 = i ∧ z.category = 2) := fun q => hc z (by rw [show i - 1 = j by omega]; exact hj) (by omega) q.2
      by_cases h3 : j + 1 = i
      · have h4 : ¬ z.category = 2 := fun q => h2 ⟨h3, q⟩
        simp [e, e1, h3, zv_cat, h4]
      · simp [e, e1, h3]
/-- fewer known -/
theorem zH_none {ls : Array Slot} {i : Nat} (h : zH G ls mL lv) : zH G ls mL (lv.set i none) := by
  refine ⟨h.1, h.2.1, by simp [h.2.2.1], fun j z hj => ?_⟩
  by_cases e : j = i
  · subst e
    rw [List.getElem?_set] at hj
    simp only [if_true] at hj
    split at hj <;> cases hj
  · rw [List.getElem?_set_ne (fun q => e q.symm)] at hj
    exact h.2.2.2 j z hj
/-- this place is not the first half of a long -/
def zn (o : Option Value) : Bool := match o with
  | some (.long _) => false
  | some (.double _) => false
  | _ => true
theorem zn_cat {o : Option Value} (h : zn o = true) : ∀ z, o = some z → ¬ z.category = 2 := by
  intro z hz
  subst hz
  cases z <;> first | (intro q; cases q; done) | (simp [zn] at h)
theorem z_drop {i : Nat} (k : zA G y cc mL ret R Z pc (lv.set i none) st w u v) : zA G y cc mL ret R Z pc lv st w u v := by
  intro p l e s m args below meth c H locs ls C hP hz hS hl
  exact k p l e s m args below meth c H locs ls C hP hz hS (zH_none hl)

theorem z_iload_0 (hd : decode cc pc = .ok (.iload_n 0, 1)) (k : zA G y cc mL ret R Z (pc + 1) (some (.int a) :: t) (.int a :: st) w u v) : zA G y cc mL ret R Z pc (some (.int a) :: t) st w u v := by
  intro p l e s m args below meth c H locs ls C hP hz hS hl
  exact lv_iload_n C.1 C.2.1 hd rfl (hl.2.2.2 0 (.int a) rfl) (k p l e s m args below meth c H locs ls C hP hz hS hl)
theorem z_lload_0 (hd : decode cc pc = .ok (.lload_n 0, 1)) (k : zA G y cc mL ret R Z (pc + 1) (some (.long f) :: t) (.long f :: st) w u v) : zA G y cc mL ret R Z pc (some (.long f) :: t) st w u v := by
  intro p l e s m args below meth c H locs ls C hP hz hS hl
  exact lv_lload_n C.1 C.2.1 hd rfl (hl.2.2.2 0 (.long f) rfl) (k p l e s m args below meth c H locs ls C hP hz hS hl)
theorem z_aload_0 (hd : decode cc pc = .ok (.aload_n 0, 1)) (k : zA G y cc mL ret R Z (pc + 1) (some (.ref q) :: t) (.ref q :: st) w u v) : zA G y cc mL ret R Z pc (some (.ref q) :: t) st w u v := by
  intro p l e s m args below meth c H locs ls C hP hz hS hl
  exact lv_aload_n C.1 C.2.1 hd rfl (hl.2.2.2 0 (.ref q) rfl) (k p l e s m args below meth c H locs ls C hP hz hS hl)
theorem z_istore_0 {o : Option Value} (hd : decode cc pc = .ok (.istore_n 0, 1)) (k : zA G y cc mL ret R Z (pc + 1) (some (.int a) :: t) st w u v) : zA G y cc mL ret R Z pc (o :: t) (.int a :: st) w u v := by
  intro p l e s m args below meth c H locs ls C hP hz hS hl
  have hi : 0 < mL := by have h2 := hl.2.2.1; simp only [List.length_cons] at h2; omega
  exact lv_istore_n C.1 C.2.1 hd rfl (zH_lv hl) hi rfl (fun ls' hl' => k p l e s m args below meth c H locs ls' C hP hz hS (zH_st1 (i := 0) (x := .int a) hl hl' (fun z _ h0 => absurd rfl h0)))
theorem z_astore_0 {o : Option Value} (hd : decode cc pc = .ok (.astore_n 0, 1)) (k : zA G y cc mL ret R Z (pc + 1) (some (.ref q) :: t) st w u v) : zA G y cc mL ret R Z pc (o :: t) (.ref q :: st) w u v := by
  intro p l e s m args below meth c H locs ls C hP hz hS hl
  have hi : 0 < mL := by have h2 := hl.2.2.1; simp only [List.length_cons] at h2; omega
  exact lv_astore_n C.1 C.2.1 hd rfl (zH_lv hl) hi rfl (fun ls' hl' => k p l e s m args below meth c H locs ls' C hP hz hS (zH_st1 (i := 0) (x := .ref q) hl hl' (fun z _ h0 => absurd rfl h0)))
theorem z_lstore_0 {o o2 : Option Value} (hd : decode cc pc = .ok (.lstore_n 0, 1)) (k : zA G y cc mL ret R Z (pc + 1) (some (.long f) :: none :: t) st w u v) : zA G y cc mL ret R Z pc (o :: o2 :: t) (.long f :: st) w u v := by
  intro p l e s m args below meth c H locs ls C hP hz hS hl
  have hi : 0 + 1 < mL := by have h2 := hl.2.2.1; simp only [List.length_cons] at h2; omega
  exact lv_lstore_n C.1 C.2.1 hd rfl (zH_lv hl) hi rfl (fun ls' hl' => k p l e s m args below meth c H locs ls' C hP hz hS (zH_st2 (i := 0) (x := .long f) hl hl' (fun z _ h0 => absurd rfl h0)))
theorem z_iinc_0 {n : Int} (hd : decode cc pc = .ok (.iinc 0 n, 3)) (hv : a + Int32.ofInt n = b) (k : zA G y cc mL ret R Z (pc + 3) (some (.int b) :: t) st w u v) : zA G y cc mL ret R Z pc (some (.int a) :: t) st w u v := by
  intro p l e s m args below meth c H locs ls C hP hz hS hl
  have hi : 0 < mL := by have h2 := hl.2.2.1; simp only [List.length_cons] at h2; omega
  obtain ⟨k0, hk0⟩ := List.getElem?_of_mem (zpr_mem (G := G) (lv := some (.int a) :: t) (q := (0, .int a)).mpr ⟨.int a, rfl, rfl⟩)
  exact lv_iinc C.1 C.2.1 hd (zH_lv hl) hk0 hv hi rfl (fun ls' hl' => k p l e s m args below meth c H locs ls' C hP hz hS (zH_st1 (i := 0) (x := .int b) hl hl' (fun z _ h0 => absurd rfl h0)))
theorem z_forget_0 {o : Option Value} (k : zA G y cc mL ret R Z pc (none :: t) st w u v) : zA G y cc mL ret R Z pc (o :: t) st w u v := by
  intro p l e s m args below meth c H locs ls C hP hz hS hl
  exact k p l e s m args below meth c H locs ls C hP hz hS (zH_none (i := 0) hl)
theorem z_iload_1 (hd : decode cc pc = .ok (.iload_n 1, 1)) (k : zA G y cc mL ret R Z (pc + 1) (a0 :: some (.int a) :: t) (.int a :: st) w u v) : zA G y cc mL ret R Z pc (a0 :: some (.int a) :: t) st w u v := by
  intro p l e s m args below meth c H locs ls C hP hz hS hl
  exact lv_iload_n C.1 C.2.1 hd rfl (hl.2.2.2 1 (.int a) rfl) (k p l e s m args below meth c H locs ls C hP hz hS hl)
theorem z_lload_1 (hd : decode cc pc = .ok (.lload_n 1, 1)) (k : zA G y cc mL ret R Z (pc + 1) (a0 :: some (.long f) :: t) (.long f :: st) w u v) : zA G y cc mL ret R Z pc (a0 :: some (.long f) :: t) st w u v := by
  intro p l e s m args below meth c H locs ls C hP hz hS hl
  exact lv_lload_n C.1 C.2.1 hd rfl (hl.2.2.2 1 (.long f) rfl) (k p l e s m args below meth c H locs ls C hP hz hS hl)
theorem z_aload_1 (hd : decode cc pc = .ok (.aload_n 1, 1)) (k : zA G y cc mL ret R Z (pc + 1) (a0 :: some (.ref q) :: t) (.ref q :: st) w u v) : zA G y cc mL ret R Z pc (a0 :: some (.ref q) :: t) st w u v := by
  intro p l e s m args below meth c H locs ls C hP hz hS hl
  exact lv_aload_n C.1 C.2.1 hd rfl (hl.2.2.2 1 (.ref q) rfl) (k p l e s m args below meth c H locs ls C hP hz hS hl)
theorem z_istore_1 {o : Option Value} (hd : decode cc pc = .ok (.istore_n 1, 1)) (hn : zn a0 = true) (k : zA G y cc mL ret R Z (pc + 1) (a0 :: some (.int a) :: t) st w u v) : zA G y cc mL ret R Z pc (a0 :: o :: t) (.int a :: st) w u v := by
  intro p l e s m args below meth c H locs ls C hP hz hS hl
  have hi : 1 < mL := by have h2 := hl.2.2.1; simp only [List.length_cons] at h2; omega
  exact lv_istore_n C.1 C.2.1 hd rfl (zH_lv hl) hi rfl (fun ls' hl' => k p l e s m args below meth c H locs ls' C hP hz hS (zH_st1 (i := 1) (x := .int a) hl hl' (fun z hz0 _ => zn_cat hn z (Option.some.inj hz0))))
theorem z_astore_1 {o : Option Value} (hd : decode cc pc = .ok (.astore_n 1, 1)) (hn : zn a0 = true) (k : zA G y cc mL ret R Z (pc + 1) (a0 :: some (.ref q) :: t) st w u v) : zA G y cc mL ret R Z pc (a0 :: o :: t) (.ref q :: st) w u v := by
  intro p l e s m args below meth c H locs ls C hP hz hS hl
  have hi : 1 < mL := by have h2 := hl.2.2.1; simp only [List.length_cons] at h2; omega
  exact lv_astore_n C.1 C.2.1 hd rfl (zH_lv hl) hi rfl (fun ls' hl' => k p l e s m args below meth c H locs ls' C hP hz hS (zH_st1 (i := 1) (x := .ref q) hl hl' (fun z hz0 _ => zn_cat hn z (Option.some.inj hz0))))
theorem z_lstore_1 {o o2 : Option Value} (hd : decode cc pc = .ok (.lstore_n 1, 1)) (hn : zn a0 = true) (k : zA G y cc mL ret R Z (pc + 1) (a0 :: some (.long f) :: none :: t) st w u v) : zA G y cc mL ret R Z pc (a0 :: o :: o2 :: t) (.long f :: st) w u v := by
  intro p l e s m args below meth c H locs ls C hP hz hS hl
  have hi : 1 + 1 < mL := by have h2 := hl.2.2.1; simp only [List.length_cons] at h2; omega
  exact lv_lstore_n C.1 C.2.1 hd rfl (zH_lv hl) hi rfl (fun ls' hl' => k p l e s m args below meth c H locs ls' C hP hz hS (zH_st2 (i := 1) (x := .long f) hl hl' (fun z hz0 _ => zn_cat hn z (Option.some.inj hz0))))
theorem z_iinc_1 {n : Int} (hd : decode cc pc = .ok (.iinc 1 n, 3)) (hn : zn a0 = true) (hv : a + Int32.ofInt n = b) (k : zA G y cc mL ret R Z (pc + 3) (a0 :: some (.int b) :: t) st w u v) : zA G y cc mL ret R Z pc (a0 :: some (.int a) :: t) st w u v := by
  intro p l e s m args below meth c H locs ls C hP hz hS hl
  have hi : 1 < mL := by have h2 := hl.2.2.1; simp only [List.length_cons] at h2; omega
  obtain ⟨k0, hk0⟩ := List.getElem?_of_mem (zpr_mem (G := G) (lv := a0 :: some (.int a) :: t) (q := (1, .int a)).mpr ⟨.int a, rfl, rfl⟩)
  exact lv_iinc C.1 C.2.1 hd (zH_lv hl) hk0 hv hi rfl (fun ls' hl' => k p l e s m args below meth c H locs ls' C hP hz hS (zH_st1 (i := 1) (x := .int b) hl hl' (fun z hz0 _ => zn_cat hn z (Option.some.inj hz0))))
theorem z_forget_1 {o : Option Value} (k : zA G y cc mL ret R Z pc (a0 :: none :: t) st w u v) : zA G y cc mL ret R Z pc (a0 :: o :: t) st w u v := by
  intro p l e s m args below meth c H locs ls C hP hz hS hl
  exact k p l e s m args below meth c H locs ls C hP hz hS (zH_none (i := 1) hl)
theorem z_iload_2 (hd : decode cc pc = .ok (.iload_n 2, 1)) (k : zA G y cc mL ret R Z (pc + 1) (a0 :: a1 :: some (.int a) :: t) (.int a :: st) w u v) : zA G y cc mL ret R Z pc (a0 :: a1 :: some (.int a) :: t) st w u v := by
  intro p l e s m args below meth c H locs ls C hP hz hS hl
  exact lv_iload_n C.1 C.2.1 hd rfl (hl.2.2.2 2 (.int a) rfl) (k p l e s m args below meth c H locs ls C hP hz hS hl)
theorem z_lload_2 (hd : decode cc pc = .ok (.lload_n 2, 1)) (k : zA G y cc mL ret R Z (pc + 1) (a0 :: a1 :: some (.long f) :: t) (.long f :: st) w u v) : zA G y cc mL ret R Z pc (a0 :: a1 :: some (.long f) :: t) st w u v := by
  intro p l e s m args below meth c H locs ls C hP hz hS hl
  exact lv_lload_n C.1 C.2.1 hd rfl (hl.2.2.2 2 (.long f) rfl) (k p l e s m args below meth c H locs ls C hP hz hS hl)
theorem z_aload_2 (hd : decode cc pc = .ok (.aload_n 2, 1)) (k : zA G y cc mL ret R Z (pc + 1) (a0 :: a1 :: some (.ref q) :: t) (.ref q :: st) w u v) : zA G y cc mL ret R Z pc (a0 :: a1 :: some (.ref q) :: t) st w u v := by
  intro p l e s m args below meth c H locs ls C hP hz hS hl
  exact lv_aload_n C.1 C.2.1 hd rfl (hl.2.2.2 2 (.ref q) rfl) (k p l e s m args below meth c H locs ls C hP hz hS hl)
theorem z_istore_2 {o : Option Value} (hd : decode cc pc = .ok (.istore_n 2, 1)) (hn : zn a1 = true) (k : zA G y cc mL ret R Z (pc + 1) (a0 :: a1 :: some (.int a) :: t) st w u v) : zA G y cc mL ret R Z pc (a0 :: a1 :: o :: t) (.int a :: st) w u v := by
  intro p l e s m args below meth c H locs ls C hP hz hS hl
  have hi : 2 < mL := by have h2 := hl.2.2.1; simp only [List.length_cons] at h2; omega
  exact lv_istore_n C.1 C.2.1 hd rfl (zH_lv hl) hi rfl (fun ls' hl' => k p l e s m args below meth c H locs ls' C hP hz hS (zH_st1 (i := 2) (x := .int a) hl hl' (fun z hz0 _ => zn_cat hn z (Option.some.inj hz0))))
theorem z_astore_2 {o : Option Value} (hd : decode cc pc = .ok (.astore_n 2, 1)) (hn : zn a1 = true) (k : zA G y cc mL ret R Z (pc + 1) (a0 :: a1 :: some (.ref q) :: t) st w u v) : zA G y cc mL ret R Z pc (a0 :: a1 :: o :: t) (.ref q :: st) w u v := by
  intro p l e s m args below meth c H locs ls C hP hz hS hl
  have hi : 2 < mL := by have h2 := hl.2.2.1; simp only [List.length_cons] at h2; omega
  exact lv_astore_n C.1 C.2.1 hd rfl (zH_lv hl) hi rfl (fun ls' hl' => k p l e s m args below meth c H locs ls' C hP hz hS (zH_st1 (i := 2) (x := .ref q) hl hl' (fun z hz0 _ => zn_cat hn z (Option.some.inj hz0))))
theorem z_lstore_2 {o o2 : Option Value} (hd : decode cc pc = .ok (.lstore_n 2, 1)) (hn : zn a1 = true) (k : zA G y cc mL ret R Z (pc + 1) (a0 :: a1 :: some (.long f) :: none :: t) st w u v) : zA G y cc mL ret R Z pc (a0 :: a1 :: o :: o2 :: t) (.long f :: st) w u v := by
  intro p l e s m args below meth c H locs ls C hP hz hS hl
  have hi : 2 + 1 < mL := by have h2 := hl.2.2.1; simp only [List.length_cons] at h2; omega
  exact lv_lstore_n C.1 C.2.1 hd rfl (zH_lv hl) hi rfl (fun ls' hl' => k p l e s m args below meth c H locs ls' C hP hz hS (zH_st2 (i := 2) (x := .long f) hl hl' (fun z hz0 _ => zn_cat hn z (Option.some.inj hz0))))
theorem z_iinc_2 {n : Int} (hd : decode cc pc = .ok (.iinc 2 n, 3)) (hn : zn a1 = true) (hv : a + Int32.ofInt n = b) (k : zA G y cc mL ret R Z (pc + 3) (a0 :: a1 :: some (.int b) :: t) st w u v) : zA G y cc mL ret R Z pc (a0 :: a1 :: some (.int a) :: t) st w u v := by
  intro p l e s m args below meth c H locs ls C hP hz hS hl
  have hi : 2 < mL := by have h2 := hl.2.2.1; simp only [List.length_cons] at h2; omega
  obtain ⟨k0, hk0⟩ := List.getElem?_of_mem (zpr_mem (G := G) (lv := a0 :: a1 :: some (.int a) :: t) (q := (2, .int a)).mpr ⟨.int a, rfl, rfl⟩)
  exact lv_iinc C.1 C.2.1 hd (zH_lv hl) hk0 hv hi rfl (fun ls' hl' => k p l e s m args below meth c H locs ls' C hP hz hS (zH_st1 (i := 2) (x := .int b) hl hl' (fun z hz0 _ => zn_cat hn z (Option.some.inj hz0))))
theorem z_forget_2 {o : Option Value} (k : zA G y cc mL ret R Z pc (a0 :: a1 :: none :: t) st w u v) : zA G y cc mL ret R Z pc (a0 :: a1 :: o :: t) st w u v := by
  intro p l e s m args below meth c H locs ls C hP hz hS hl
  exact k p l e s m args below meth c H locs ls C hP hz hS (zH_none (i := 2) hl)
theorem z_iload_3 (hd : decode cc pc = .ok (.iload_n 3, 1)) (k : zA G y cc mL ret R Z (pc + 1) (a0 :: a1 :: a2 :: some (.int a) :: t) (.int a :: st) w u v) : zA G y cc mL ret R Z pc (a0 :: a1 :: a2 :: some (.int a) :: t) st w u v := by
  intro p l e s m args below meth c H locs ls C hP hz hS hl
  exact lv_iload_n C.1 C.2.1 hd rfl (hl.2.2.2 3 (.int a) rfl) (k p l e s m args below meth c H locs ls C hP hz hS hl)
theorem z_lload_3 (hd : decode cc pc = .ok (.lload_n 3, 1)) (k : zA G y cc mL ret R Z (pc + 1) (a0 :: a1 :: a2 :: some (.long f) :: t) (.long f :: st) w u v) : zA G y cc mL ret R Z pc (a0 :: a1 :: a2 :: some (.long f) :: t) st w u v := by
  intro p l e s m args below meth c H locs ls C hP hz hS hl
  exact lv_lload_n C.1 C.2.1 hd rfl (hl.2.2.2 3 (.long f) rfl) (k p l e s m args below meth c H locs ls C hP hz hS hl)
theorem z_aload_3 (hd : decode cc pc = .ok (.aload_n 3, 1)) (k : zA G y cc mL ret R Z (pc + 1) (a0 :: a1 :: a2 :: some (.ref q) :: t) (.ref q :: st) w u v) : zA G y cc mL ret R Z pc (a0 :: a1 :: a2 :: some (.ref q) :: t) st w u v := by
  intro p l e s m args below meth c H locs ls C hP hz hS hl
  exact lv_aload_n C.1 C.2.1 hd rfl (hl.2.2.2 3 (.ref q) rfl) (k p l e s m args below meth c H locs ls C hP hz hS hl)
theorem z_istore_3 {o : Option Value} (hd : decode cc pc = .ok (.istore_n 3, 1)) (hn : zn a2 = true) (k : zA G y cc mL ret R Z (pc + 1) (a0 :: a1 :: a2 :: some (.int a) :: t) st w u v) : zA G y cc mL ret R Z pc (a0 :: a1 :: a2 :: o :: t) (.int a :: st) w u v := by
  intro p l e s m args below meth c H locs ls C hP hz hS hl
  have hi : 3 < mL := by have h2 := hl.2.2.1; simp only [List.length_cons] at h2; omega
  exact lv_istore_n C.1 C.2.1 hd rfl (zH_lv hl) hi rfl (fun ls' hl' => k p l e s m args below meth c H locs ls' C hP hz hS (zH_st1 (i := 3) (x := .int a) hl hl' (fun z hz0 _ => zn_cat hn z (Option.some.inj hz0))))
theorem z_astore_3 {o : Option Value} (hd : decode cc pc = .ok (.astore_n 3, 1)) (hn : zn a2 = true) (k : zA G y cc mL ret R Z (pc + 1) (a0 :: a1 :: a2 :: some (.ref q) :: t) st w u v) : zA G y cc mL ret R Z pc (a0 :: a1 :: a2 :: o :: t) (.ref q :: st) w u v := by
  intro p l e s m args below meth c H locs ls C hP hz hS hl
  have hi : 3 < mL := by have h2 := hl.2.2.1; simp only [List.length_cons] at h2; omega
  exact lv_astore_n C.1 C.2.1 hd rfl (zH_lv hl) hi rfl (fun ls' hl' => k p l e s m args below meth c H locs ls' C hP hz hS (zH_st1 (i := 3) (x := .ref q) hl hl' (fun z hz0 _ => zn_cat hn z (Option.some.inj hz0))))
theorem z_lstore_3 {o o2 : Option Value} (hd : decode cc pc = .ok (.lstore_n 3, 1)) (hn : zn a2 = true) (k : zA G y cc mL ret R Z (pc + 1) (a0 :: a1 :: a2 :: some (.long f) :: none :: t) st w u v) : zA G y cc mL ret R Z pc (a0 :: a1 :: a2 :: o :: o2 :: t) (.long f :: st) w u v := by
  intro p l e s m args below meth c H locs ls C hP hz hS hl
  have hi : 3 + 1 < mL := by have h2 := hl.2.2.1; simp only [List.length_cons] at h2; omega
  exact lv_lstore_n C.1 C.2.1 hd rfl (zH_lv hl) hi rfl (fun ls' hl' => k p l e s m args below meth c H locs ls' C hP hz hS (zH_st2 (i := 3) (x := .long f) hl hl' (fun z hz0 _ => zn_cat hn z (Option.some.inj hz0))))
theorem z_iinc_3 {n : Int} (hd : decode cc pc = .ok (.iinc 3 n, 3)) (hn : zn a2 = true) (hv : a + Int32.ofInt n = b) (k : zA G y cc mL ret R Z (pc + 3) (a0 :: a1 :: a2 :: some (.int b) :: t) st w u v) : zA G y cc mL ret R Z pc (a0 :: a1 :: a2 :: some (.int a) :: t) st w u v := by
  intro p l e s m args below meth c H locs ls C hP hz hS hl
  have hi : 3 < mL := by have h2 := hl.2.2.1; simp only [List.length_cons] at h2; omega
  obtain ⟨k0, hk0⟩ := List.getElem?_of_mem (zpr_mem (G := G) (lv := a0 :: a1 :: a2 :: some (.int a) :: t) (q := (3, .int a)).mpr ⟨.int a, rfl, rfl⟩)
  exact lv_iinc C.1 C.2.1 hd (zH_lv hl) hk0 hv hi rfl (fun ls' hl' => k p l e s m args below meth c H locs ls' C hP hz hS (zH_st1 (i := 3) (x := .int b) hl hl' (fun z hz0 _ => zn_cat hn z (Option.some.inj hz0))))
theorem z_forget_3 {o : Option Value} (k : zA G y cc mL ret R Z pc (a0 :: a1 :: a2 :: none :: t) st w u v) : zA G y cc mL ret R Z pc (a0 :: a1 :: a2 :: o :: t) st w u v := by
  intro p l e s m args below meth c H locs ls C hP hz hS hl
  exact k p l e s m args below meth c H locs ls C hP hz hS (zH_none (i := 3) hl)
theorem z_iload_4 (hd : decode cc pc = .ok (.iload 4, 2)) (k : zA G y cc mL ret R Z (pc + 2) (a0 :: a1 :: a2 :: a3 :: some (.int a) :: t) (.int a :: st) w u v) : zA G y cc mL ret R Z pc (a0 :: a1 :: a2 :: a3 :: some (.int a) :: t) st w u v := by
  intro p l e s m args below meth c H locs ls C hP hz hS hl
  exact lv_iload C.1 C.2.1 hd (hl.2.2.2 4 (.int a) rfl) (k p l e s m args below meth c H locs ls C hP hz hS hl)
theorem z_lload_4 (hd : decode cc pc = .ok (.lload 4, 2)) (k : zA G y cc mL ret R Z (pc + 2) (a0 :: a1 :: a2 :: a3 :: some (.long f) :: t) (.long f :: st) w u v) : zA G y cc mL ret R Z pc (a0 :: a1 :: a2 :: a3 :: some (.long f) :: t) st w u v := by
  intro p l e s m args below meth c H locs ls C hP hz hS hl
  exact lv_lload C.1 C.2.1 hd (hl.2.2.2 4 (.long f) rfl) (k p l e s m args below meth c H locs ls C hP hz hS hl)
theorem z_aload_4 (hd : decode cc pc = .ok (.aload 4, 2)) (k : zA G y cc mL ret R Z (pc + 2) (a0 :: a1 :: a2 :: a3 :: some (.ref q) :: t) (.ref q :: st) w u v) : zA G y cc mL ret R Z pc (a0 :: a1 :: a2 :: a3 :: some (.ref q) :: t) st w u v := by
  intro p l e s m args below meth c H locs ls C hP hz hS hl
  exact lv_aload C.1 C.2.1 hd (hl.2.2.2 4 (.ref q) rfl) (k p l e s m args below meth c H locs ls C hP hz hS hl)
theorem z_istore_4 {o : Option Value} (hd : decode cc pc = .ok (.istore 4, 2)) (hn : zn a3 = true) (k : zA G y cc mL ret R Z (pc + 2) (a0 :: a1 :: a2 :: a3 :: some (.int a) :: t) st w u v) : zA G y cc mL ret R Z pc (a0 :: a1 :: a2 :: a3 :: o :: t) (.int a :: st) w u v := by
  intro p l e s m args below meth c H locs ls C hP hz hS hl
  have hi : 4 < mL := by have h2 := hl.2.2.1; simp only [List.length_cons] at h2; omega
  exact lv_istore C.1 C.2.1 hd (zH_lv hl) hi rfl (fun ls' hl' => k p l e s m args below meth c H locs ls' C hP hz hS (zH_st1 (i := 4) (x := .int a) hl hl' (fun z hz0 _ => zn_cat hn z (Option.some.inj hz0))))
theorem z_astore_4 {o : Option Value} (hd : decode cc pc = .ok (.astore 4, 2)) (hn : zn a3 = true) (k : zA G y cc mL ret R Z (pc + 2) (a0 :: a1 :: a2 :: a3 :: some (.ref q) :: t) st w u v) : zA G y cc mL ret R Z pc (a0 :: a1 :: a2 :: a3 :: o :: t) (.ref q :: st) w u v := by
  intro p l e s m args below meth c H locs ls C hP hz hS hl
  have hi : 4 < mL := by have h2 := hl.2.2.1; simp only [List.length_cons] at h2; omega
  exact lv_astore C.1 C.2.1 hd (zH_lv hl) hi rfl (fun ls' hl' => k p l e s m args below meth c H locs ls' C hP hz hS (zH_st1 (i := 4) (x := .ref q) hl hl' (fun z hz0 _ => zn_cat hn z (Option.some.inj hz0))))
theorem z_lstore_4 {o o2 : Option Value} (hd : decode cc pc = .ok (.lstore 4, 2)) (hn : zn a3 = true) (k : zA G y cc mL ret R Z (pc + 2) (a0 :: a1 :: a2 :: a3 :: some (.long f) :: none :: t) st w u v) : zA G y cc mL ret R Z pc (a0 :: a1 :: a2 :: a3 :: o :: o2 :: t) (.long f :: st) w u v := by
  intro p l e s m args below meth c H locs ls C hP hz hS hl
  have hi : 4 + 1 < mL := by have h2 := hl.2.2.1; simp only [List.length_cons] at h2; omega
  exact lv_lstore C.1 C.2.1 hd (zH_lv hl) hi rfl (fun ls' hl' => k p l e s m args below meth c H locs ls' C hP hz hS (zH_st2 (i := 4) (x := .long f) hl hl' (fun z hz0 _ => zn_cat hn z (Option.some.inj hz0))))
theorem z_iinc_4 {n : Int} (hd : decode cc pc = .ok (.iinc 4 n, 3)) (hn : zn a3 = true) (hv : a + Int32.ofInt n = b) (k : zA G y cc mL ret R Z (pc + 3) (a0 :: a1 :: a2 :: a3 :: some (.int b) :: t) st w u v) : zA G y cc mL ret R Z pc (a0 :: a1 :: a2 :: a3 :: some (.int a) :: t) st w u v := by
  intro p l e s m args below meth c H locs ls C hP hz hS hl
  have hi : 4 < mL := by have h2 := hl.2.2.1; simp only [List.length_cons] at h2; omega
  obtain ⟨k0, hk0⟩ := List.getElem?_of_mem (zpr_mem (G := G) (lv := a0 :: a1 :: a2 :: a3 :: some (.int a) :: t) (q := (4, .int a)).mpr ⟨.int a, rfl, rfl⟩)
  exact lv_iinc C.1 C.2.1 hd (zH_lv hl) hk0 hv hi rfl (fun ls' hl' => k p l e s m args below meth c H locs ls' C hP hz hS (zH_st1 (i := 4) (x := .int b) hl hl' (fun z hz0 _ => zn_cat hn z (Option.some.inj hz0))))
theorem z_forget_4 {o : Option Value} (k : zA G y cc mL ret R Z pc (a0 :: a1 :: a2 :: a3 :: none :: t) st w u v) : zA G y cc mL ret R Z pc (a0 :: a1 :: a2 :: a3 :: o :: t) st w u v := by
  intro p l e s m args below meth c H locs ls C hP hz hS hl
  exact k p l e s m args below meth c H locs ls C hP hz hS (zH_none (i := 4) hl)
theorem z_iload_5 (hd : decode cc pc = .ok (.iload 5, 2)) (k : zA G y cc mL ret R Z (pc + 2) (a0 :: a1 :: a2 :: a3 :: a4 :: some (.int a) :: t) (.int a :: st) w u v) : zA G y cc mL ret R Z pc (a0 :: a1 :: a2 :: a3 :: a4 :: some (.int a) :: t) st w u v := by
  intro p l e s m args below meth c H locs ls C hP hz hS hl
  exact lv_iload C.1 C.2.1 hd (hl.2.2.2 5 (.int a) rfl) (k p l e s m args below meth c H locs ls C hP hz hS hl)
theorem z_lload_5 (hd : decode cc pc = .ok (.lload 5, 2)) (k : zA G y cc mL ret R Z (pc + 2) (a0 :: a1 :: a2 :: a3 :: a4 :: some (.long f) :: t) (.long f :: st) w u v) : zA G y cc mL ret R Z pc (a0 :: a1 :: a2 :: a3 :: a4 :: some (.long f) :: t) st w u v := by
  intro p l e s m args below meth c H locs ls C hP hz hS hl
  exact lv_lload C.1 C.2.1 hd (hl.2.2.2 5 (.long f) rfl) (k p l e s m args below meth c H locs ls C hP hz hS hl)
theorem z_aload_5 (hd : decode cc pc = .ok (.aload 5, 2)) (k : zA G y cc mL ret R Z (pc + 2) (a0 :: a1 :: a2 :: a3 :: a4 :: some (.ref q) :: t) (.ref q :: st) w u v) : zA G y cc mL ret R Z pc (a0 :: a1 :: a2 :: a3 :: a4 :: some (.ref q) :: t) st w u v := by
  intro p l e s m args below meth c H locs ls C hP hz hS hl
  exact lv_aload C.1 C.2.1 hd (hl.2.2.2 5 (.ref q) rfl) (k p l e s m args below meth c H locs ls C hP hz hS hl)
theorem z_istore_5 {o : Option Value} (hd : decode cc pc = .ok (.istore 5, 2)) (hn : zn a4 = true) (k : zA G y cc mL ret R Z (pc + 2) (a0 :: a1 :: a2 :: a3 :: a4 :: some (.int a) :: t) st w u v) : zA G y cc mL ret R Z pc (a0 :: a1 :: a2 :: a3 :: a4 :: o :: t) (.int a :: st) w u v := by
  intro p l e s m args below meth c H locs ls C hP hz hS hl
  have hi : 5 < mL := by have h2 := hl.2.2.1; simp only [List.length_cons] at h2; omega
  exact lv_istore C.1 C.2.1 hd (zH_lv hl) hi rfl (fun ls' hl' => k p l e s m args below meth c H locs ls' C hP hz hS (zH_st1 (i := 5) (x := .int a) hl hl' (fun z hz0 _ => zn_cat hn z (Option.some.inj hz0))))
theorem z_astore_5 {o : Option Value} (hd : decode cc pc = .ok (.astore 5, 2)) (hn : zn a4 = true) (k : zA G y cc mL ret R Z (pc + 2) (a0 :: a1 :: a2 :: a3 :: a4 :: some (.ref q) :: t) st w u v) : zA G y cc mL ret R Z pc (a0 :: a1 :: a2 :: a3 :: a4 :: o :: t) (.ref q :: st) w u v := by
  intro p l e s m args below meth c H locs ls C hP hz hS hl
  have hi : 5 < mL := by have h2 := hl.2.2.1; simp only [List.length_cons] at h2; omega
  exact lv_astore C.1 C.2.1 hd (zH_lv hl) hi rfl (fun ls' hl' => k p l e s m args below meth c H locs ls' C hP hz hS (zH_st1 (i := 5) (x := .ref q) hl hl' (fun z hz0 _ => zn_cat hn z (Option.some.inj hz0))))
theorem z_lstore_5 {o o2 : Option Value} (hd : decode cc pc = .ok (.lstore 5, 2)) (hn : zn a4 = true) (k : zA G y cc mL ret R Z (pc + 2) (a0 :: a1 :: a2 :: a3 :: a4 :: some (.long f) :: none :: t) st w u v) : zA G y cc mL ret R Z pc (a0 :: a1 :: a2 :: a3 :: a4 :: o :: o2 :: t) (.long f :: st) w u v := by
  intro p l e s m args below meth c H locs ls C hP hz hS hl
  have hi : 5 + 1 < mL := by have h2 := hl.2.2.1; simp only [List.length_cons] at h2; omega
  exact lv_lstore C.1 C.2.1 hd (zH_lv hl) hi rfl (fun ls' hl' => k p l e s m args below meth c H locs ls' C hP hz hS (zH_st2 (i := 5) (x := .long f) hl hl' (fun z hz0 _ => zn_cat hn z (Option.some.inj hz0))))
theorem z_iinc_5 {n : Int} (hd : decode cc pc = .ok (.iinc 5 n, 3)) (hn : zn a4 = true) (hv : a + Int32.ofInt n = b) (k : zA G y cc mL ret R Z (pc + 3) (a0 :: a1 :: a2 :: a3 :: a4 :: some (.int b) :: t) st w u v) : zA G y cc mL ret R Z pc (a0 :: a1 :: a2 :: a3 :: a4 :: some (.int a) :: t) st w u v := by
  intro p l e s m args below meth c H locs ls C hP hz hS hl
  have hi : 5 < mL := by have h2 := hl.2.2.1; simp only [List.length_cons] at h2; omega
  obtain ⟨k0, hk0⟩ := List.getElem?_of_mem (zpr_mem (G := G) (lv := a0 :: a1 :: a2 :: a3 :: a4 :: some (.int a) :: t) (q := (5, .int a)).mpr ⟨.int a, rfl, rfl⟩)
  exact lv_iinc C.1 C.2.1 hd (zH_lv hl) hk0 hv hi rfl (fun ls' hl' => k p l e s m args below meth c H locs ls' C hP hz hS (zH_st1 (i := 5) (x := .int b) hl hl' (fun z hz0 _ => zn_cat hn z (Option.some.inj hz0))))
theorem z_forget_5 {o : Option Value} (k : zA G y cc mL ret R Z pc (a0 :: a1 :: a2 :: a3 :: a4 :: none :: t) st w u v) : zA G y cc mL ret R Z pc (a0 :: a1 :: a2 :: a3 :: a4 :: o :: t) st w u v := by
  intro p l e s m args below meth c H locs ls C hP hz hS hl
  exact k p l e s m args below meth c H locs ls C hP hz hS (zH_none (i := 5) hl)
theorem z_iload_6 (hd : decode cc pc = .ok (.iload 6, 2)) (k : zA G y cc mL ret R Z (pc + 2) (a0 :: a1 :: a2 :: a3 :: a4 :: a5 :: some (.int a) :: t) (.int a :: st) w u v) : zA G y cc mL ret R Z pc (a0 :: a1 :: a2 :: a3 :: a4 :: a5 :: some (.int a) :: t) st w u v := by
  intro p l e s m args below meth c H locs ls C hP hz hS hl
  exact lv_iload C.1 C.2.1 hd (hl.2.2.2 6 (.int a) rfl) (k p l e s m args below meth c H locs ls C hP hz hS hl)
theorem z_lload_6 (hd : decode cc pc = .ok (.lload 6, 2)) (k : zA G y cc mL ret R Z (pc + 2) (a0 :: a1 :: a2 :: a3 :: a4 :: a5 :: some (.long f) :: t) (.long f :: st) w u v) : zA G y cc mL ret R Z pc (a0 :: a1 :: a2 :: a3 :: a4 :: a5 :: some (.long f) :: t) st w u v := by
  intro p l e s m args below meth c H locs ls C hP hz hS hl
  exact lv_lload C.1 C.2.1 hd (hl.2.2.2 6 (.long f) rfl) (k p l e s m args below meth c H locs ls C hP hz hS hl)
theorem z_aload_6 (hd : decode cc pc = .ok (.aload 6, 2)) (k : zA G y cc mL ret R Z (pc + 2) (a0 :: a1 :: a2 :: a3 :: a4 :: a5 :: some (.ref q) :: t) (.ref q :: st) w u v) : zA G y cc mL ret R Z pc (a0 :: a1 :: a2 :: a3 :: a4 :: a5 :: some (.ref q) :: t) st w u v := by
  intro p l e s m args below meth c H locs ls C hP hz hS hl
  exact lv_aload C.1 C.2.1 hd (hl.2.2.2 6 (.ref q) rfl) (k p l e s m args below meth c H locs ls C hP hz hS hl)
theorem z_istore_6 {o : Option Value} (hd : decode cc pc = .ok (.istore 6, 2)) (hn : zn a5 = true) (k : zA G y cc mL ret R Z (pc + 2) (a0 :: a1 :: a2 :: a3 :: a4 :: a5 :: some (.int a) :: t) st w u v) : zA G y cc mL ret R Z pc (a0 :: a1 :: a2 :: a3 :: a4 :: a5 :: o :: t) (.int a :: st) w u v := by
  intro p l e s m args below meth c H locs ls C hP hz hS hl
  have hi : 6 < mL := by have h2 := hl.2.2.1; simp only [List.length_cons] at h2; omega
  exact lv_istore C.1 C.2.1 hd (zH_lv hl) hi rfl (fun ls' hl' => k p l e s m args below meth c H locs ls' C hP hz hS (zH_st1 (i := 6) (x := .int a) hl hl' (fun z hz0 _ => zn_cat hn z (Option.some.inj hz0))))
theorem z_astore_6 {o : Option Value} (hd : decode cc pc = .ok (.astore 6, 2)) (hn : zn a5 = true) (k : zA G y cc mL ret R Z (pc + 2) (a0 :: a1 :: a2 :: a3 :: a4 :: a5 :: some (.ref q) :: t) st w u v) : zA G y cc mL ret R Z pc (a0 :: a1 :: a2 :: a3 :: a4 :: a5 :: o :: t) (.ref q :: st) w u v := by
  intro p l e s m args below meth c H locs ls C hP hz hS hl
  have hi : 6 < mL := by have h2 := hl.2.2.1; simp only [List.length_cons] at h2; omega
  exact lv_astore C.1 C.2.1 hd (zH_lv hl) hi rfl (fun ls' hl' => k p l e s m args below meth c H locs ls' C hP hz hS (zH_st1 (i := 6) (x := .ref q) hl hl' (fun z hz0 _ => zn_cat hn z (Option.some.inj hz0))))
theorem z_lstore_6 {o o2 : Option Value} (hd : decode cc pc = .ok (.lstore 6, 2)) (hn : zn a5 = true) (k : zA G y cc mL ret R Z (pc + 2) (a0 :: a1 :: a2 :: a3 :: a4 :: a5 :: some (.long f) :: none :: t) st w u v) : zA G y cc mL ret R Z pc (a0 :: a1 :: a2 :: a3 :: a4 :: a5 :: o :: o2 :: t) (.long f :: st) w u v := by
  intro p l e s m args below meth c H locs ls C hP hz hS hl
  have hi : 6 + 1 < mL := by have h2 := hl.2.2.1; simp only [List.length_cons] at h2; omega
  exact lv_lstore C.1 C.2.1 hd (zH_lv hl) hi rfl (fun ls' hl' => k p l e s m args below meth c H locs ls' C hP hz hS (zH_st2 (i := 6) (x := .long f) hl hl' (fun z hz0 _ => zn_cat hn z (Option.some.inj hz0))))
theorem z_iinc_6 {n : Int} (hd : decode cc pc = .ok (.iinc 6 n, 3)) (hn : zn a5 = true) (hv : a + Int32.ofInt n = b) (k : zA G y cc mL ret R Z (pc + 3) (a0 :: a1 :: a2 :: a3 :: a4 :: a5 :: some (.int b) :: t) st w u v) : zA G y cc mL ret R Z pc (a0 :: a1 :: a2 :: a3 :: a4 :: a5 :: some (.int a) :: t) st w u v := by
  intro p l e s m args below meth c H locs ls C hP hz hS hl
  have hi : 6 < mL := by have h2 := hl.2.2.1; simp only [List.length_cons] at h2; omega
  obtain ⟨k0, hk0⟩ := List.getElem?_of_mem (zpr_mem (G := G) (lv := a0 :: a1 :: a2 :: a3 :: a4 :: a5 :: some (.int a) :: t) (q := (6, .int a)).mpr ⟨.int a, rfl, rfl⟩)
  exact lv_iinc C.1 C.2.1 hd (zH_lv hl) hk0 hv hi rfl (fun ls' hl' => k p l e s m args below meth c H locs ls' C hP hz hS (zH_st1 (i := 6) (x := .int b) hl hl' (fun z hz0 _ => zn_cat hn z (Option.some.inj hz0))))
theorem z_forget_6 {o : Option Value} (k : zA G y cc mL ret R Z pc (a0 :: a1 :: a2 :: a3 :: a4 :: a5 :: none :: t) st w u v) : zA G y cc mL ret R Z pc (a0 :: a1 :: a2 :: a3 :: a4 :: a5 :: o :: t) st w u v := by
  intro p l e s m args below meth c H locs ls C hP hz hS hl
  exact k p l e s m args below meth c H locs ls C hP hz hS (zH_none (i := 6) hl)
theorem z_iload_7 (hd : decode cc pc = .ok (.iload 7, 2)) (k : zA G y cc mL ret R Z (pc + 2) (a0 :: a1 :: a2 :: a3 :: a4 :: a5 :: a6 :: some (.int a) :: t) (.int a :: st) w u v) : zA G y cc mL ret R Z pc (a0 :: a1 :: a2 :: a3 :: a4 :: a5 :: a6 :: some (.int a) :: t) st w u v := by
  intro p l e s m args below meth c H locs ls C hP hz hS hl
  exact lv_iload C.1 C.2.1 hd (hl.2.2.2 7 (.int a) rfl) (k p l e s m args below meth c H locs ls C hP hz hS hl)
theorem z_lload_7 (hd : decode cc pc = .ok (.lload 7, 2)) (k : zA G y cc mL ret R Z (pc + 2) (a0 :: a1 :: a2 :: a3 :: a4 :: a5 :: a6 :: some (.long f) :: t) (.long f :: st) w u v) : zA G y cc mL ret R Z pc (a0 :: a1 :: a2 :: a3 :: a4 :: a5 :: a6 :: some (.long f) :: t) st w u v := by
  intro p l e s m args below meth c H locs ls C hP hz hS hl
  exact lv_lload C.1 C.2.1 hd (hl.2.2.2 7 (.long f) rfl) (k p l e s m args below meth c H locs ls C hP hz hS hl)
theorem z_aload_7 (hd : decode cc pc = .ok (.aload 7, 2)) (k : zA G y cc mL ret R Z (pc + 2) (a0 :: a1 :: a2 :: a3 :: a4 :: a5 :: a6 :: some (.ref q) :: t) (.ref q :: st) w u v) : zA G y cc mL ret R Z pc (a0 :: a1 :: a2 :: a3 :: a4 :: a5 :: a6 :: some (.ref q) :: t) st w u v := by
  intro p l e s m args below meth c H locs ls C hP hz hS hl
  exact lv_aload C.1 C.2.1 hd (hl.2.2.2 7 (.ref q) rfl) (k p l e s m args below meth c H locs ls C hP hz hS hl)
theorem z_istore_7 {o : Option Value} (hd : decode cc pc = .ok (.istore 7, 2)) (hn : zn a6 = true) (k : zA G y cc mL ret R Z (pc + 2) (a0 :: a1 :: a2 :: a3 :: a4 :: a5 :: a6 :: some (.int a) :: t) st w u v) : zA G y cc mL ret R Z pc (a0 :: a1 :: a2 :: a3 :: a4 :: a5 :: a6 :: o :: t) (.int a :: st) w u v := by
  intro p l e s m args below meth c H locs ls C hP hz hS hl
  have hi : 7 < mL := by have h2 := hl.2.2.1; simp only [List.length_cons] at h2; omega
  exact lv_istore C.1 C.2.1 hd (zH_lv hl) hi rfl (fun ls' hl' => k p l e s m args below meth c H locs ls' C hP hz hS (zH_st1 (i := 7) (x := .int a) hl hl' (fun z hz0 _ => zn_cat hn z (Option.some.inj hz0))))
theorem z_astore_7 {o : Option Value} (hd : decode cc pc = .ok (.astore 7, 2)) (hn : zn a6 = true) (k : zA G y cc mL ret R Z (pc + 2) (a0 :: a1 :: a2 :: a3 :: a4 :: a5 :: a6 :: some (.ref q) :: t) st w u v) : zA G y cc mL ret R Z pc (a0 :: a1 :: a2 :: a3 :: a4 :: a5 :: a6 :: o :: t) (.ref q :: st) w u v := by
  intro p l e s m args below meth c H locs ls C hP hz hS hl
  have hi : 7 < mL := by have h2 := hl.2.2.1; simp only [List.length_cons] at h2; omega
  exact lv_astore C.1 C.2.1 hd (zH_lv hl) hi rfl (fun ls' hl' => k p l e s m args below meth c H locs ls' C hP hz hS (zH_st1 (i := 7) (x := .ref q) hl hl' (fun z hz0 _ => zn_cat hn z (Option.some.inj hz0))))
theorem z_lstore_7 {o o2 : Option Value} (hd : decode cc pc = .ok (.lstore 7, 2)) (hn : zn a6 = true) (k : zA G y cc mL ret R Z (pc + 2) (a0 :: a1 :: a2 :: a3 :: a4 :: a5 :: a6 :: some (.long f) :: none :: t) st w u v) : zA G y cc mL ret R Z pc (a0 :: a1 :: a2 :: a3 :: a4 :: a5 :: a6 :: o :: o2 :: t) (.long f :: st) w u v := by
  intro p l e s m args below meth c H locs ls C hP hz hS hl
  have hi : 7 + 1 < mL := by have h2 := hl.2.2.1; simp only [List.length_cons] at h2; omega
  exact lv_lstore C.1 C.2.1 hd (zH_lv hl) hi rfl (fun ls' hl' => k p l e s m args below meth c H locs ls' C hP hz hS (zH_st2 (i := 7) (x := .long f) hl hl' (fun z hz0 _ => zn_cat hn z (Option.some.inj hz0))))
theorem z_iinc_7 {n : Int} (hd : decode cc pc = .ok (.iinc 7 n, 3)) (hn : zn a6 = true) (hv : a + Int32.ofInt n = b) (k : zA G y cc mL ret R Z (pc + 3) (a0 :: a1 :: a2 :: a3 :: a4 :: a5 :: a6 :: some (.int b) :: t) st w u v) : zA G y cc mL ret R Z pc (a0 :: a1 :: a2 :: a3 :: a4 :: a5 :: a6 :: some (.int a) :: t) st w u v := by
  intro p l e s m args below meth c H locs ls C hP hz hS hl
  have hi : 7 < mL := by have h2 := hl.2.2.1; simp only [List.length_cons] at h2; omega
  obtain ⟨k0, hk0⟩ := List.getElem?_of_mem (zpr_mem (G := G) (lv := a0 :: a1 :: a2 :: a3 :: a4 :: a5 :: a6 :: some (.int a) :: t) (q := (7, .int a)).mpr ⟨.int a, rfl, rfl⟩)
  exact lv_iinc C.1 C.2.1 hd (zH_lv hl) hk0 hv hi rfl (fun ls' hl' => k p l e s m args below meth c H locs ls' C hP hz hS (zH_st1 (i := 7) (x := .int b) hl hl' (fun z hz0 _ => zn_cat hn z (Option.some.inj hz0))))
theorem z_forget_7 {o : Option Value} (k : zA G y cc mL ret R Z pc (a0 :: a1 :: a2 :: a3 :: a4 :: a5 :: a6 :: none :: t) st w u v) : zA G y cc mL ret R Z pc (a0 :: a1 :: a2 :: a3 :: a4 :: a5 :: a6 :: o :: t) st w u v := by
  intro p l e s m args below meth c H locs ls C hP hz hS hl
  exact k p l e s m args below meth c H locs ls C hP hz hS (zH_none (i := 7) hl)
theorem z_iload_8 (hd : decode cc pc = .ok (.iload 8, 2)) (k : zA G y cc mL ret R Z (pc + 2) (a0 :: a1 :: a2 :: a3 :: a4 :: a5 :: a6 :: a7 :: some (.int a) :: t) (.int a :: st) w u v) : zA G y cc mL ret R Z pc (a0 :: a1 :: a2 :: a3 :: a4 :: a5 :: a6 :: a7 :: some (.int a) :: t) st w u v := by
  intro p l e s m args below meth c H locs ls C hP hz hS hl
  exact lv_iload C.1 C.2.1 hd (hl.2.2.2 8 (.int a) rfl) (k p l e s m args below meth c H locs ls C hP hz hS hl)
theorem z_lload_8 (hd : decode cc pc = .ok (.lload 8, 2)) (k : zA G y cc mL ret R Z (pc + 2) (a0 :: a1 :: a2 :: a3 :: a4 :: a5 :: a6 :: a7 :: some (.long f) :: t) (.long f :: st) w u v) : zA G y cc mL ret R Z pc (a0 :: a1 :: a2 :: a3 :: a4 :: a5 :: a6 :: a7 :: some (.long f) :: t) st w u v := by
  intro p l e s m args below meth c H locs ls C hP hz hS hl
  exact lv_lload C.1 C.2.1 hd (hl.2.2.2 8 (.long f) rfl) (k p l e s m args below meth c H locs ls C hP hz hS hl)
theorem z_aload_8 (hd : decode cc pc = .ok (.aload 8, 2)) (k : zA G y cc mL ret R Z (pc + 2) (a0 :: a1 :: a2 :: a3 :: a4 :: a5 :: a6 :: a7 :: some (.ref q) :: t) (.ref q :: st) w u v) : zA G y cc mL ret R Z pc (a0 :: a1 :: a2 :: a3 :: a4 :: a5 :: a6 :: a7 :: some (.ref q) :: t) st w u v := by
  intro p l e s m args below meth c H locs ls C hP hz hS hl
  exact lv_aload C.1 C.2.1 hd (hl.2.2.2 8 (.ref q) rfl) (k p l e s m args below meth c H locs ls C hP hz hS hl)
theorem z_istore_8 {o : Option Value} (hd : decode cc pc = .ok (.istore 8, 2)) (hn : zn a7 = true) (k : zA G y cc mL ret R Z (pc + 2) (a0 :: a1 :: a2 :: a3 :: a4 :: a5 :: a6 :: a7 :: some (.int a) :: t) st w u v) : zA G y cc mL ret R Z pc (a0 :: a1 :: a2 :: a3 :: a4 :: a5 :: a6 :: a7 :: o :: t) (.int a :: st) w u v := by
  intro p l e s m args below meth c H locs ls C hP hz hS hl
  have hi : 8 < mL := by have h2 := hl.2.2.1; simp only [List.length_cons] at h2; omega
  exact lv_istore C.1 C.2.1 hd (zH_lv hl) hi rfl (fun ls' hl' => k p l e s m args below meth c H locs ls' C hP hz hS (zH_st1 (i := 8) (x := .int a) hl hl' (fun z hz0 _ => zn_cat hn z (Option.some.inj hz0))))
theorem z_astore_8 {o : Option Value} (hd : decode cc pc = .ok (.astore 8, 2)) (hn : zn a7 = true) (k : zA G y cc mL ret R Z (pc + 2) (a0 :: a1 :: a2 :: a3 :: a4 :: a5 :: a6 :: a7 :: some (.ref q) :: t) st w u v) : zA G y cc mL ret R Z pc (a0 :: a1 :: a2 :: a3 :: a4 :: a5 :: a6 :: a7 :: o :: t) (.ref q :: st) w u v := by
  intro p l e s m args below meth c H locs ls C hP hz hS hl
  have hi : 8 < mL := by have h2 := hl.2.2.1; simp only [List.length_cons] at h2; omega
  exact lv_astore C.1 C.2.1 hd (zH_lv hl) hi rfl (fun ls' hl' => k p l e s m args below meth c H locs ls' C hP hz hS (zH_st1 (i := 8) (x := .ref q) hl hl' (fun z hz0 _ => zn_cat hn z (Option.some.inj hz0))))
theorem z_lstore_8 {o o2 : Option Value} (hd : decode cc pc = .ok (.lstore 8, 2)) (hn : zn a7 = true) (k : zA G y cc mL ret R Z (pc + 2) (a0 :: a1 :: a2 :: a3 :: a4 :: a5 :: a6 :: a7 :: some (.long f) :: none :: t) st w u v) : zA G y cc mL ret R Z pc (a0 :: a1 :: a2 :: a3 :: a4 :: a5 :: a6 :: a7 :: o :: o2 :: t) (.long f :: st) w u v := by
  intro p l e s m args below meth c H locs ls C hP hz hS hl
  have hi : 8 + 1 < mL := by have h2 := hl.2.2.1; simp only [List.length_cons] at h2; omega
  exact lv_lstore C.1 C.2.1 hd (zH_lv hl) hi rfl (fun ls' hl' => k p l e s m args below meth c H locs ls' C hP hz hS (zH_st2 (i := 8) (x := .long f) hl hl' (fun z hz0 _ => zn_cat hn z (Option.some.inj hz0))))
theorem z_iinc_8 {n : Int} (hd : decode cc pc = .ok (.iinc 8 n, 3)) (hn : zn a7 = true) (hv : a + Int32.ofInt n = b) (k : zA G y cc mL ret R Z (pc + 3) (a0 :: a1 :: a2 :: a3 :: a4 :: a5 :: a6 :: a7 :: some (.int b) :: t) st w u v) : zA G y cc mL ret R Z pc (a0 :: a1 :: a2 :: a3 :: a4 :: a5 :: a6 :: a7 :: some (.int a) :: t) st w u v := by
  intro p l e s m args below meth c H locs ls C hP hz hS hl
  have hi : 8 < mL := by have h2 := hl.2.2.1; simp only [List.length_cons] at h2; omega
  obtain ⟨k0, hk0⟩ := List.getElem?_of_mem (zpr_mem (G := G) (lv := a0 :: a1 :: a2 :: a3 :: a4 :: a5 :: a6 :: a7 :: some (.int a) :: t) (q := (8, .int a)).mpr ⟨.int a, rfl, rfl⟩)
  exact lv_iinc C.1 C.2.1 hd (zH_lv hl) hk0 hv hi rfl (fun ls' hl' => k p l e s m args below meth c H locs ls' C hP hz hS (zH_st1 (i := 8) (x := .int b) hl hl' (fun z hz0 _ => zn_cat hn z (Option.some.inj hz0))))
theorem z_forget_8 {o : Option Value} (k : zA G y cc mL ret R Z pc (a0 :: a1 :: a2 :: a3 :: a4 :: a5 :: a6 :: a7 :: none :: t) st w u v) : zA G y cc mL ret R Z pc (a0 :: a1 :: a2 :: a3 :: a4 :: a5 :: a6 :: a7 :: o :: t) st w u v := by
  intro p l e s m args below meth c H locs ls C hP hz hS hl
  exact k p l e s m args below meth c H locs ls C hP hz hS (zH_none (i := 8) hl)
theorem z_iload_9 (hd : decode cc pc = .ok (.iload 9, 2)) (k : zA G y cc mL ret R Z (pc + 2) (a0 :: a1 :: a2 :: a3 :: a4 :: a5 :: a6 :: a7 :: a8 :: some (.int a) :: t) (.int a :: st) w u v) : zA G y cc mL ret R Z pc (a0 :: a1 :: a2 :: a3 :: a4 :: a5 :: a6 :: a7 :: a8 :: some (.int a) :: t) st w u v := by
  intro p l e s m args below meth c H locs ls C hP hz hS hl
  exact lv_iload C.1 C.2.1 hd (hl.2.2.2 9 (.int a) rfl) (k p l e s m args below meth c H locs ls C hP hz hS hl)
theorem z_lload_9 (hd : decode cc pc = .ok (.lload 9, 2)) (k : zA G y cc mL ret R Z (pc + 2) (a0 :: a1 :: a2 :: a3 :: a4 :: a5 :: a6 :: a7 :: a8 :: some (.long f) :: t) (.long f :: st) w u v) : zA G y cc mL ret R Z pc (a0 :: a1 :: a2 :: a3 :: a4 :: a5 :: a6 :: a7 :: a8 :: some (.long f) :: t) st w u v := by
  intro p l e s m args below meth c H locs ls C hP hz hS hl
  exact lv_lload C.1 C.2.1 hd (hl.2.2.2 9 (.long f) rfl) (k p l e s m args below meth c H locs ls C hP hz hS hl)
theorem z_aload_9 (hd : decode cc pc = .ok (.aload 9, 2)) (k : zA G y cc mL ret R Z (pc + 2) (a0 :: a1 :: a2 :: a3 :: a4 :: a5 :: a6 :: a7 :: a8 :: some (.ref q) :: t) (.ref q :: st) w u v) : zA G y cc mL ret R Z pc (a0 :: a1 :: a2 :: a3 :: a4 :: a5 :: a6 :: a7 :: a8 :: some (.ref q) :: t) st w u v := by
  intro p l e s m args below meth c H locs ls C hP hz hS hl
  exact lv_aload C.1 C.2.1 hd (hl.2.2.2 9 (.ref q) rfl) (k p l e s m args below meth c H locs ls C hP hz hS hl)
theorem z_istore_9 {o : Option Value} (hd : decode cc pc = .ok (.istore 9, 2)) (hn : zn a8 = true) (k : zA G y cc mL ret R Z (pc + 2) (a0 :: a1 :: a2 :: a3 :: a4 :: a5 :: a6 :: a7 :: a8 :: some (.int a) :: t) st w u v) : zA G y cc mL ret R Z pc (a0 :: a1 :: a2 :: a3 :: a4 :: a5 :: a6 :: a7 :: a8 :: o :: t) (.int a :: st) w u v := by
  intro p l e s m args below meth c H locs ls C hP hz hS hl
  have hi : 9 < mL := by have h2 := hl.2.2.1; simp only [List.length_cons] at h2; omega
  exact lv_istore C.1 C.2.1 hd (zH_lv hl) hi rfl (fun ls' hl' => k p l e s m args below meth c H locs ls' C hP hz hS (zH_st1 (i := 9) (x := .int a) hl hl' (fun z hz0 _ => zn_cat hn z (Option.some.inj hz0))))
theorem z_astore_9 {o : Option Value} (hd : decode cc pc = .ok (.astore 9, 2)) (hn : zn a8 = true) (k : zA G y cc mL ret R Z (pc + 2) (a0 :: a1 :: a2 :: a3 :: a4 :: a5 :: a6 :: a7 :: a8 :: some (.ref q) :: t) st w u v) : zA G y cc mL ret R Z pc (a0 :: a1 :: a2 :: a3 :: a4 :: a5 :: a6 :: a7 :: a8 :: o :: t) (.ref q :: st) w u v := by
  intro p l e s m args below meth c H locs ls C hP hz hS hl
  have hi : 9 < mL := by have h2 := hl.2.2.1; simp only [List.length_cons] at h2; omega
  exact lv_astore C.1 C.2.1 hd (zH_lv hl) hi rfl (fun ls' hl' => k p l e s m args below meth c H locs ls' C hP hz hS (zH_st1 (i := 9) (x := .ref q) hl hl' (fun z hz0 _ => zn_cat hn z (Option.some.inj hz0))))
theorem z_lstore_9 {o o2 : Option Value} (hd : decode cc pc = .ok (.lstore 9, 2)) (hn : zn a8 = true) (k : zA G y cc mL ret R Z (pc + 2) (a0 :: a1 :: a2 :: a3 :: a4 :: a5 :: a6 :: a7 :: a8 :: some (.long f) :: none :: t) st w u v) : zA G y cc mL ret R Z pc (a0 :: a1 :: a2 :: a3 :: a4 :: a5 :: a6 :: a7 :: a8 :: o :: o2 :: t) (.long f :: st) w u v := by
  intro p l e s m args below meth c H locs ls C hP hz hS hl
  have hi : 9 + 1 < mL := by have h2 := hl.2.2.1; simp only [List.length_cons] at h2; omega
  exact lv_lstore C.1 C.2.1 hd (zH_lv hl) hi rfl (fun ls' hl' => k p l e s m args below meth c H locs ls' C hP hz hS (zH_st2 (i := 9) (x := .long f) hl hl' (fun z hz0 _ => zn_cat hn z (Option.some.inj hz0))))
theorem z_iinc_9 {n : Int} (hd : decode cc pc = .ok (.iinc 9 n, 3)) (hn : zn a8 = true) (hv : a + Int32.ofInt n = b) (k : zA G y cc mL ret R Z (pc + 3) (a0 :: a1 :: a2 :: a3 :: a4 :: a5 :: a6 :: a7 :: a8 :: some (.int b) :: t) st w u v) : zA G y cc mL ret R Z pc (a0 :: a1 :: a2 :: a3 :: a4 :: a5 :: a6 :: a7 :: a8 :: some (.int a) :: t) st w u v := by
  intro p l e s m args below meth c H locs ls C hP hz hS hl
  have hi : 9 < mL := by have h2 := hl.2.2.1; simp only [List.length_cons] at h2; omega
  obtain ⟨k0, hk0⟩ := List.getElem?_of_mem (zpr_mem (G := G) (lv := a0 :: a1 :: a2 :: a3 :: a4 :: a5 :: a6 :: a7 :: a8 :: some (.int a) :: t) (q := (9, .int a)).mpr ⟨.int a, rfl, rfl⟩)
  exact lv_iinc C.1 C.2.1 hd (zH_lv hl) hk0 hv hi rfl (fun ls' hl' => k p l e s m args below meth c H locs ls' C hP hz hS (zH_st1 (i := 9) (x := .int b) hl hl' (fun z hz0 _ => zn_cat hn z (Option.some.inj hz0))))
theorem z_forget_9 {o : Option Value} (k : zA G y cc mL ret R Z pc (a0 :: a1 :: a2 :: a3 :: a4 :: a5 :: a6 :: a7 :: a8 :: none :: t) st w u v) : zA G y cc mL ret R Z pc (a0 :: a1 :: a2 :: a3 :: a4 :: a5 :: a6 :: a7 :: a8 :: o :: t) st w u v := by
  intro p l e s m args below meth c H locs ls C hP hz hS hl
  exact k p l e s m args below meth c H locs ls C hP hz hS (zH_none (i := 9) hl)
theorem z_iload_10 (hd : decode cc pc = .ok (.iload 10, 2)) (k : zA G y cc mL ret R Z (pc + 2) (a0 :: a1 :: a2 :: a3 :: a4 :: a5 :: a6 :: a7 :: a8 :: a9 :: some (.int a) :: t) (.int a :: st) w u v) : zA G y cc mL ret R Z pc (a0 :: a1 :: a2 :: a3 :: a4 :: a5 :: a6 :: a7 :: a8 :: a9 :: some (.int a) :: t) st w u v := by
  intro p l e s m args below meth c H locs ls C hP hz hS hl
  exact lv_iload C.1 C.2.1 hd (hl.2.2.2 10 (.int a) rfl) (k p l e s m args below meth c H locs ls C hP hz hS hl)
theorem z_lload_10 (hd : decode cc pc = .ok (.lload 10, 2)) (k : zA G y cc mL ret R Z (pc + 2) (a0 :: a1 :: a2 :: a3 :: a4 :: a5 :: a6 :: a7 :: a8 :: a9 :: some (.long f) :: t) (.long f :: st) w u v) : zA G y cc mL ret R Z pc (a0 :: a1 :: a2 :: a3 :: a4 :: a5 :: a6 :: a7 :: a8 :: a9 :: some (.long f) :: t) st w u v := by
  intro p l e s m args below meth c H locs ls C hP hz hS hl
  exact lv_lload C.1 C.2.1 hd (hl.2.2.2 10 (.long f) rfl) (k p l e s m args below meth c H locs ls C hP hz hS hl)
theorem z_aload_10 (hd : decode cc pc = .ok (.aload 10, 2)) (k : zA G y cc mL ret R Z (pc + 2) (a0 :: a1 :: a2 :: a3 :: a4 :: a5 :: a6 :: a7 :: a8 :: a9 :: some (.ref q) :: t) (.ref q :: st) w u v) : zA G y cc mL ret R Z pc (a0 :: a1 :: a2 :: a3 :: a4 :: a5 :: a6 :: a7 :: a8 :: a9 :: some (.ref q) :: t) st w u v := by
  intro p l e s m args below meth c H locs ls C hP hz hS hl
  exact lv_aload C.1 C.2.1 hd (hl.2.2.2 10 (.ref q) rfl) (k p l e s m args below meth c H locs ls C hP hz hS hl)
theorem z_istore_10 {o : Option Value} (hd : decode cc pc = .ok (.istore 10, 2)) (hn : zn a9 = true) (k : zA G y cc mL ret R Z (pc + 2) (a0 :: a1 :: a2 :: a3 :: a4 :: a5 :: a6 :: a7 :: a8 :: a9 :: some (.int a) :: t) st w u v) : zA G y cc mL ret R Z pc (a0 :: a1 :: a2 :: a3 :: a4 :: a5 :: a6 :: a7 :: a8 :: a9 :: o :: t) (.int a :: st) w u v := by
  intro p l e s m args below meth c H locs ls C hP hz hS hl
  have hi : 10 < mL := by have h2 := hl.2.2.1; simp only [List.length_cons] at h2; omega
  exact lv_istore C.1 C.2.1 hd (zH_lv hl) hi rfl (fun ls' hl' => k p l e s m args below meth c H locs ls' C hP hz hS (zH_st1 (i := 10) (x := .int a) hl hl' (fun z hz0 _ => zn_cat hn z (Option.some.inj hz0))))
theorem z_astore_10 {o : Option Value} (hd : decode cc pc = .ok (.astore 10, 2)) (hn : zn a9 = true) (k : zA G y cc mL ret R Z (pc + 2) (a0 :: a1 :: a2 :: a3 :: a4 :: a5 :: a6 :: a7 :: a8 :: a9 :: some (.ref q) :: t) st w u v) : zA G y cc mL ret R Z pc (a0 :: a1 :: a2 :: a3 :: a4 :: a5 :: a6 :: a7 :: a8 :: a9 :: o :: t) (.ref q :: st) w u v := by
  intro p l e s m args below meth c H locs ls C hP hz hS hl
  have hi : 10 < mL := by have h2 := hl.2.2.1; simp only [List.length_cons] at h2; omega
  exact lv_astore C.1 C.2.1 hd (zH_lv hl) hi rfl (fun ls' hl' => k p l e s m args below meth c H locs ls' C hP hz hS (zH_st1 (i := 10) (x := .ref q) hl hl' (fun z hz0 _ => zn_cat hn z (Option.some.inj hz0))))
theorem z_lstore_10 {o o2 : Option Value} (hd : decode cc pc = .ok (.lstore 10, 2)) (hn : zn a9 = true) (k : zA G y cc mL ret R Z (pc + 2) (a0 :: a1 :: a2 :: a3 :: a4 :: a5 :: a6 :: a7 :: a8 :: a9 :: some (.long f) :: none :: t) st w u v) : zA G y cc mL ret R Z pc (a0 :: a1 :: a2 :: a3 :: a4 :: a5 :: a6 :: a7 :: a8 :: a9 :: o :: o2 :: t) (.long f :: st) w u v := by
  intro p l e s m args below meth c H locs ls C hP hz hS hl
  have hi : 10 + 1 < mL := by have h2 := hl.2.2.1; simp only [List.length_cons] at h2; omega
  exact lv_lstore C.1 C.2.1 hd (zH_lv hl) hi rfl (fun ls' hl' => k p l e s m args below meth c H locs ls' C hP hz hS (zH_st2 (i := 10) (x := .long f) hl hl' (fun z hz0 _ => zn_cat hn z (Option.some.inj hz0))))
theorem z_iinc_10 {n : Int} (hd : decode cc pc = .ok (.iinc 10 n, 3)) (hn : zn a9 = true) (hv : a + Int32.ofInt n = b) (k : zA G y cc mL ret R Z (pc + 3) (a0 :: a1 :: a2 :: a3 :: a4 :: a5 :: a6 :: a7 :: a8 :: a9 :: some (.int b) :: t) st w u v) : zA G y cc mL ret R Z pc (a0 :: a1 :: a2 :: a3 :: a4 :: a5 :: a6 :: a7 :: a8 :: a9 :: some (.int a) :: t) st w u v := by
  intro p l e s m args below meth c H locs ls C hP hz hS hl
  have hi : 10 < mL := by have h2 := hl.2.2.1; simp only [List.length_cons] at h2; omega
  obtain ⟨k0, hk0⟩ := List.getElem?_of_mem (zpr_mem (G := G) (lv := a0 :: a1 :: a2 :: a3 :: a4 :: a5 :: a6 :: a7 :: a8 :: a9 :: some (.int a) :: t) (q := (10, .int a)).mpr ⟨.int a, rfl, rfl⟩)
  exact lv_iinc C.1 C.2.1 hd (zH_lv hl) hk0 hv hi rfl (fun ls' hl' => k p l e s m args below meth c H locs ls' C hP hz hS (zH_st1 (i := 10) (x := .int b) hl hl' (fun z hz0 _ => zn_cat hn z (Option.some.inj hz0))))
theorem z_forget_10 {o : Option Value} (k : zA G y cc mL ret R Z pc (a0 :: a1 :: a2 :: a3 :: a4 :: a5 :: a6 :: a7 :: a8 :: a9 :: none :: t) st w u v) : zA G y cc mL ret R Z pc (a0 :: a1 :: a2 :: a3 :: a4 :: a5 :: a6 :: a7 :: a8 :: a9 :: o :: t) st w u v := by
  intro p l e s m args below meth c H locs ls C hP hz hS hl
  exact k p l e s m args below meth c H locs ls C hP hz hS (zH_none (i := 10) hl)
theorem z_iload_11 (hd : decode cc pc = .ok (.iload 11, 2)) (k : zA G y cc mL ret R Z (pc + 2) (a0 :: a1 :: a2 :: a3 :: a4 :: a5 :: a6 :: a7 :: a8 :: a9 :: a10 :: some (.int a) :: t) (.int a :: st) w u v) : zA G y cc mL ret R Z pc (a0 :: a1 :: a2 :: a3 :: a4 :: a5 :: a6 :: a7 :: a8 :: a9 :: a10 :: some (.int a) :: t) st w u v := by
  intro p l e s m args below meth c H locs ls C hP hz hS hl
  exact lv_iload C.1 C.2.1 hd (hl.2.2.2 11 (.int a) rfl) (k p l e s m args below meth c H locs ls C hP hz hS hl)
theorem z_lload_11 (hd : decode cc pc = .ok (.lload 11, 2)) (k : zA G y cc mL ret R Z (pc + 2) (a0 :: a1 :: a2 :: a3 :: a4 :: a5 :: a6 :: a7 :: a8 :: a9 :: a10 :: some (.long f) :: t) (.long f :: st) w u v) : zA G y cc mL ret R Z pc (a0 :: a1 :: a2 :: a3 :: a4 :: a5 :: a6 :: a7 :: a8 :: a9 :: a10 :: some (.long f) :: t) st w u v := by
  intro p l e s m args below meth c H locs ls C hP hz hS hl
  exact lv_lload C.1 C.2.1 hd (hl.2.2.2 11 (.long f) rfl) (k p l e s m args below meth c H locs ls C hP hz hS hl)
theorem z_aload_11 (hd : decode cc pc = .ok (.aload 11, 2)) (k : zA G y cc mL ret R Z (pc + 2) (a0 :: a1 :: a2 :: a3 :: a4 :: a5 :: a6 :: a7 :: a8 :: a9 :: a10 :: some (.ref q) :: t) (.ref q :: st) w u v) : zA G y cc mL ret R Z pc (a0 :: a1 :: a2 :: a3 :: a4 :: a5 :: a6 :: a7 :: a8 :: a9 :: a10 :: some (.ref q) :: t) st w u v := by
  intro p l e s m args below meth c H locs ls C hP hz hS hl
  exact lv_aload C.1 C.2.1 hd (hl.2.2.2 11 (.ref q) rfl) (k p l e s m args below meth c H locs ls C hP hz hS hl)
theorem z_istore_11 {o : Option Value} (hd : decode cc pc = .ok (.istore 11, 2)) (hn : zn a10 = true) (k : zA G y cc mL ret R Z (pc + 2) (a0 :: a1 :: a2 :: a3 :: a4 :: a5 :: a6 :: a7 :: a8 :: a9 :: a10 :: some (.int a) :: t) st w u v) : zA G y cc mL ret R Z pc (a0 :: a1 :: a2 :: a3 :: a4 :: a5 :: a6 :: a7 :: a8 :: a9 :: a10 :: o :: t) (.int a :: st) w u v := by
  intro p l e s m args below meth c H locs ls C hP hz hS hl
  have hi : 11 < mL := by have h2 := hl.2.2.1; simp only [List.length_cons] at h2; omega
  exact lv_istore C.1 C.2.1 hd (zH_lv hl) hi rfl (fun ls' hl' => k p l e s m args below meth c H locs ls' C hP hz hS (zH_st1 (i := 11) (x := .int a) hl hl' (fun z hz0 _ => zn_cat hn z (Option.some.inj hz0))))
theorem z_astore_11 {o : Option Value} (hd : decode cc pc = .ok (.astore 11, 2)) (hn : zn a10 = true) (k : zA G y cc mL ret R Z (pc + 2) (a0 :: a1 :: a2 :: a3 :: a4 :: a5 :: a6 :: a7 :: a8 :: a9 :: a10 :: some (.ref q) :: t) st w u v) : zA G y cc mL ret R Z pc (a0 :: a1 :: a2 :: a3 :: a4 :: a5 :: a6 :: a7 :: a8 :: a9 :: a10 :: o :: t) (.ref q :: st) w u v := by
  intro p l e s m args below meth c H locs ls C hP hz hS hl
  have hi : 11 < mL := by have h2 := hl.2.2.1; simp only [List.length_cons] at h2; omega
  exact lv_astore C.1 C.2.1 hd (zH_lv hl) hi rfl (fun ls' hl' => k p l e s m args below meth c H locs ls' C hP hz hS (zH_st1 (i := 11) (x := .ref q) hl hl' (fun z hz0 _ => zn_cat hn z (Option.some.inj hz0))))
theorem z_lstore_11 {o o2 : Option Value} (hd : decode cc pc = .ok (.lstore 11, 2)) (hn : zn a10 = true) (k : zA G y cc mL ret R Z (pc + 2) (a0 :: a1 :: a2 :: a3 :: a4 :: a5 :: a6 :: a7 :: a8 :: a9 :: a10 :: some (.long f) :: none :: t) st w u v) : zA G y cc mL ret R Z pc (a0 :: a1 :: a2 :: a3 :: a4 :: a5 :: a6 :: a7 :: a8 :: a9 :: a10 :: o :: o2 :: t) (.long f :: st) w u v := by
  intro p l e s m args below meth c H locs ls C hP hz hS hl
  have hi : 11 + 1 < mL := by have h2 := hl.2.2.1; simp only [List.length_cons] at h2; omega
  exact lv_lstore C.1 C.2.1 hd (zH_lv hl) hi rfl (fun ls' hl' => k p l e s m args below meth c H locs ls' C hP hz hS (zH_st2 (i := 11) (x := .long f) hl hl' (fun z hz0 _ => zn_cat hn z (Option.some.inj hz0))))
theorem z_iinc_11 {n : Int} (hd : decode cc pc = .ok (.iinc 11 n, 3)) (hn : zn a10 = true) (hv : a + Int32.ofInt n = b) (k : zA G y cc mL ret R Z (pc + 3) (a0 :: a1 :: a2 :: a3 :: a4 :: a5 :: a6 :: a7 :: a8 :: a9 :: a10 :: some (.int b) :: t) st w u v) : zA G y cc mL ret R Z pc (a0 :: a1 :: a2 :: a3 :: a4 :: a5 :: a6 :: a7 :: a8 :: a9 :: a10 :: some (.int a) :: t) st w u v := by
  intro p l e s m args below meth c H locs ls C hP hz hS hl
  have hi : 11 < mL := by have h2 := hl.2.2.1; simp only [List.length_cons] at h2; omega
  obtain ⟨k0, hk0⟩ := List.getElem?_of_mem (zpr_mem (G := G) (lv := a0 :: a1 :: a2 :: a3 :: a4 :: a5 :: a6 :: a7 :: a8 :: a9 :: a10 :: some (.int a) :: t) (q := (11, .int a)).mpr ⟨.int a, rfl, rfl⟩)
  exact lv_iinc C.1 C.2.1 hd (zH_lv hl) hk0 hv hi rfl (fun ls' hl' => k p l e s m args below meth c H locs ls' C hP hz hS (zH_st1 (i := 11) (x := .int b) hl hl' (fun z hz0 _ => zn_cat hn z (Option.some.inj hz0))))
theorem z_forget_11 {o : Option Value} (k : zA G y cc mL ret R Z pc (a0 :: a1 :: a2 :: a3 :: a4 :: a5 :: a6 :: a7 :: a8 :: a9 :: a10 :: none :: t) st w u v) : zA G y cc mL ret R Z pc (a0 :: a1 :: a2 :: a3 :: a4 :: a5 :: a6 :: a7 :: a8 :: a9 :: a10 :: o :: t) st w u v := by
  intro p l e s m args below meth c H locs ls C hP hz hS hl
  exact k p l e s m args below meth c H locs ls C hP hz hS (zH_none (i := 11) hl)
end ZS
