/-! the bits of a long -/
section LB0
variable {G : zG} {I I' I1 I2 I3 : Nat → Nat → Int32} {J J' J2 : Nat → Nat → Int64} {P : Nat → Nat → Option Nat} {S : List (Nat × Nat)} {x y : Int64}
def U64 (x : Int64) : Nat := x.toBitVec.toNat
theorem U_lt : U64 x < 2 ^ 64 := x.toBitVec.isLt
theorem U_add (h : U64 x + U64 y < 2 ^ 64) : U64 (x + y) = U64 x + U64 y := by
  unfold U64 at *
  rw [Int64.toBitVec_add, BitVec.toNat_add, Nat.mod_eq_of_lt h]
theorem U_sub (h : U64 y ≤ U64 x) : U64 (x - y) = U64 x - U64 y := by
  unfold U64 at *
  rw [Int64.toBitVec_sub, BitVec.toNat_sub_of_le h]
theorem U_and : U64 (x &&& y) = U64 x &&& U64 y := by
  unfold U64
  rw [Int64.toBitVec_and, BitVec.toNat_and]
theorem U_shr {b : Int32} {s : Nat} (h : (b.toInt64.toUInt64 &&& Int64.toUInt64 63).toNat = s) (hs : s < 64) : U64 ((x.toUInt64 >>> (b.toInt64.toUInt64 &&& Int64.toUInt64 63)).toInt64) = U64 x / 2 ^ s := by
  show (x.toUInt64 >>> (b.toInt64.toUInt64 &&& Int64.toUInt64 63)).toNat = _
  rw [UInt64.toNat_shiftRight, h, Nat.mod_eq_of_lt hs, Nat.shiftRight_eq_div_pow]
  rfl
theorem U_l2i : x.toInt32 &&& nI 127 = nI (U64 x % 128) := by
  apply Int32.toBitVec_inj.1
  rw [Int32.toBitVec_and]
  apply BitVec.eq_of_toNat_eq
  rw [BitVec.toNat_and]
  show (BitVec.signExtend 32 x.toBitVec).toNat &&& 2 ^ 7 - 1 = (BitVec.ofNat 32 (U64 x % 128)).toNat
  rw [BitVec.signExtend_eq_setWidth_of_le _ (by decide), BitVec.toNat_setWidth, Nat.and_two_pow_sub_one_eq_mod, BitVec.toNat_ofNat]
  show U64 x % 2 ^ 32 % 2 ^ 7 = U64 x % 128 % 2 ^ 32
  omega
def l_sh (x : Int64) (b : Int32) : Int64 := (x.toUInt64 >>> (b.toInt64.toUInt64 &&& Int64.toUInt64 63)).toInt64
def l_1 (x : Int64) : Int64 := x - (l_sh x (nI 1) &&& 6148914691236517205)
def l_2 (x : Int64) : Int64 := (x &&& 3689348814741910323) + (l_sh x (nI 2) &&& 3689348814741910323)
def l_3 (x : Int64) : Int64 := (x + l_sh x (nI 4)) &&& 1085102592571150095
def l_4 (x : Int64) : Int64 := x + l_sh x (nI 8)
def l_5 (x : Int64) : Int64 := x + l_sh x (nI 16)
def l_6 (x : Int64) : Int64 := x + l_sh x (nI 32)
theorem l_bc (x : Int64) : (l_6 (l_5 (l_4 (l_3 (l_2 (l_1 x)))))).toInt32 &&& nI 127 = nI (pcL (U64 x)) := by
  obtain ⟨n1, n2, n3, n4, n5, n6, k0, k1, k2, k3, k4, k5, k6, b2, b6, k7⟩ := pc64 (U_lt (x := x))
  have c1 : U64 6148914691236517205 = 6148914691236517205 := by decide
  have c2 : U64 3689348814741910323 = 3689348814741910323 := by decide
  have c3 : U64 1085102592571150095 = 1085102592571150095 := by decide
  have s1 : ∀ x, U64 (l_sh x (nI 1)) = U64 x / 2 := fun x => U_shr (s := 1) (by decide) (by decide)
  have s2 : ∀ x, U64 (l_sh x (nI 2)) = U64 x / 4 := fun x => U_shr (s := 2) (by decide) (by decide)
  have s4 : ∀ x, U64 (l_sh x (nI 4)) = U64 x / 16 := fun x => U_shr (s := 4) (by decide) (by decide)
  have s8 : ∀ x, U64 (l_sh x (nI 8)) = U64 x / 256 := fun x => U_shr (s := 8) (by decide) (by decide)
  have s16 : ∀ x, U64 (l_sh x (nI 16)) = U64 x / 65536 := fun x => U_shr (s := 16) (by decide) (by decide)
  have s32 : ∀ x, U64 (l_sh x (nI 32)) = U64 x / 4294967296 := fun x => U_shr (s := 32) (by decide) (by decide)
  have e1 : U64 (l_1 x) = n1 := by
    unfold l_1
    rw [U_sub (by rw [U_and, s1, c1]; exact k0), U_and, s1, c1, k1]
  have e2 : U64 (l_2 (l_1 x)) = n2 := by
    unfold l_2
    rw [U_add (by rw [U_and, U_and, s2, c2, e1, ← k2]; omega), U_and, U_and, s2, c2, e1, k2]
  have e3 : U64 (l_3 (l_2 (l_1 x))) = n3 := by
    unfold l_3
    rw [U_and, U_add (by rw [s4, e2]; omega), s4, c3, e2, k3]
  have e4 : U64 (l_4 (l_3 (l_2 (l_1 x)))) = n4 := by
    unfold l_4
    rw [U_add (by rw [s8, e3]; omega), s8, e3, k4]
  have e5 : U64 (l_5 (l_4 (l_3 (l_2 (l_1 x))))) = n5 := by
    unfold l_5
    rw [U_add (by rw [s16, e4]; omega), s16, e4, k5]
  have e6 : U64 (l_6 (l_5 (l_4 (l_3 (l_2 (l_1 x)))))) = n6 := by
    unfold l_6
    rw [U_add (by rw [s32, e5]; omega), s32, e5, k6]
  rw [U_l2i, e6, k7]
theorem t_JLong_bitCount : zEi G y_JLong_bitCount prog_16_method_50_code 2 (some .int) 1 [.long x] (I, J, P, S) (fun r w => r = nI (pcL (U64 x)) ∧ w = (I, J, P, S)) := by
  refine zEi_of (lv := [some (.long x), none]) (by decide) rfl (Nat.le_of_ble_eq_true rfl) ?_
  refine z_lload_0 d_JLong_bitCount_0 ?_
  refine z_lload_0 d_JLong_bitCount_1 ?_
  refine z_iconst (a := nI 1) d_JLong_bitCount_2 (by decide) ?_
  refine z_lushr d_JLong_bitCount_3 ?_
  refine z_ldc2 d_JLong_bitCount_4 c_JLong_314 ?_
  refine z_land d_JLong_bitCount_7 ?_
  refine z_lsub d_JLong_bitCount_8 ?_
  refine z_lstore_0 d_JLong_bitCount_9 ?_
  refine z_lload_0 d_JLong_bitCount_10 ?_
  refine z_ldc2 d_JLong_bitCount_11 c_JLong_316 ?_
  refine z_land d_JLong_bitCount_14 ?_
  refine z_lload_0 d_JLong_bitCount_15 ?_
  refine z_iconst (a := nI 2) d_JLong_bitCount_16 (by decide) ?_
  refine z_lushr d_JLong_bitCount_17 ?_
  refine z_ldc2 d_JLong_bitCount_18 c_JLong_316 ?_
  refine z_land d_JLong_bitCount_21 ?_
  refine z_ladd d_JLong_bitCount_22 ?_
  refine z_lstore_0 d_JLong_bitCount_23 ?_
  refine z_lload_0 d_JLong_bitCount_24 ?_
  refine z_lload_0 d_JLong_bitCount_25 ?_
  refine z_iconst (a := nI 4) d_JLong_bitCount_26 (by decide) ?_
  refine z_lushr d_JLong_bitCount_27 ?_
  refine z_ladd d_JLong_bitCount_28 ?_
  refine z_ldc2 d_JLong_bitCount_29 c_JLong_318 ?_
  refine z_land d_JLong_bitCount_32 ?_
  refine z_lstore_0 d_JLong_bitCount_33 ?_
  refine z_lload_0 d_JLong_bitCount_34 ?_
  refine z_lload_0 d_JLong_bitCount_35 ?_
  refine z_bipush (a := nI 8) d_JLong_bitCount_36 (by decide) ?_
  refine z_lushr d_JLong_bitCount_38 ?_
  refine z_ladd d_JLong_bitCount_39 ?_
  refine z_lstore_0 d_JLong_bitCount_40 ?_
  refine z_lload_0 d_JLong_bitCount_41 ?_
  refine z_lload_0 d_JLong_bitCount_42 ?_
  refine z_bipush (a := nI 16) d_JLong_bitCount_43 (by decide) ?_
  refine z_lushr d_JLong_bitCount_45 ?_
  refine z_ladd d_JLong_bitCount_46 ?_
  refine z_lstore_0 d_JLong_bitCount_47 ?_
  refine z_lload_0 d_JLong_bitCount_48 ?_
  refine z_lload_0 d_JLong_bitCount_49 ?_
  refine z_bipush (a := nI 32) d_JLong_bitCount_50 (by decide) ?_
  refine z_lushr d_JLong_bitCount_52 ?_
  refine z_ladd d_JLong_bitCount_53 ?_
  refine z_lstore_0 d_JLong_bitCount_54 ?_
  refine z_lload_0 d_JLong_bitCount_55 ?_
  refine z_l2i d_JLong_bitCount_56 ?_
  refine z_bipush (a := nI 127) d_JLong_bitCount_57 (by decide) ?_
  refine z_iand d_JLong_bitCount_59 ?_
  refine z_reti d_JLong_bitCount_60 ?_
  exact ⟨l_bc x, rfl⟩
end LB0
