/-! fractions, both sides -/
section ZAB
variable {G : zG} {y : MethodName} {cc : ByteArray} {mL : Nat} {ret : Option FieldType} {R : Room} {Z : List Frame → Array Value → State → State → Prop} {pc : Nat} {lv : List (Option Value)} {st : List Value} {w : zW} {u v idx : Nat} {x : Int64}
theorem o_labs : Cond.code Lib.MathLoose.abs_long.x Lib.MathLoose.abs_long.code 2 (some .long) ∈ zT := zt 1959 (by decide +kernel) (by decide +kernel)
theorem z_labs (hd : decode cc pc = .ok (.invokestatic idx, 3)) (hk : Cond.methodLink y.cls idx y_JMath_abs ∈ zT) (hR : 1 ≤ R.frames ∧ 21 ≤ R.locals ∧ u ≤ R.cells ∧ v ≤ R.slots) (hw : (st.map (fun x => x.category)).sum ≤ 8) (kk : zA G y cc mL ret R Z (pc + 3) lv (.long (if 0 < x then x else -x) :: st) w u v) : zA G y cc mL ret R Z pc lv (.long x :: st) w u v := by
  intro p l e s m args below meth c H locs ls C hP hz hS hl
  have hts := C.2.2.2.2.2.2.2.1
  exact va_mabs_long C.1 C.2.1 (C.2.2.2.1.trans hl.1.symm) C.2.2.2.2.2.1 (hts _ hk) (hts _ (zt 1958 (by decide +kernel) (by decide +kernel))) (hts _ m_JMath_abs.2.1) (hts _ o_labs) hR.1 (by simp only [List.map_map, Function.comp_def, zv_cat]; omega) hR.2.2.1 hR.2.2.2 hd (kk p l e s m args below meth c H locs ls C hP hz hS hl)
theorem labsN {n : Nat} (h : n < 2 ^ 62) : (if 0 < lN n then lN n else -(lN n)) = lN n := by
  rcases Nat.eq_zero_or_pos n with e | e
  · subst e; decide
  · exact if_pos ((pk_lLT (a := 0) (by omega) (by omega)).mpr e)
end ZAB
section FR0
variable {G : zG} {I : Nat → Nat → Int32} {J : Nat → Nat → Int64} {P : Nat → Nat → Option Nat} {S : List (Nat × Nat)} {o u : Nat}
theorem lN_ne0 {n : Nat} (h0 : 0 < n) (h : n < 2 ^ 62) : ¬ lN n = 0 := by
  intro e
  have := (pk_lEQ (a := n) (b := 0) (by omega) (by omega)).mp e
  omega
theorem gcd_step {a b : Nat} : Nat.gcd (b % a) a = Nat.gcd a b := (Nat.gcd_rec a b).symm
theorem half_step {a b k : Nat} (hab : a < b) (ha : 0 < a) (h : a * b < 2 ^ (k + 1)) : b % a * a < 2 ^ k := by
  have h1 : b % a < a := Nat.mod_lt _ ha
  have h2 : a + b % a ≤ b := by
    have := Nat.div_add_mod b a
    have h3 : 0 < b / a := Nat.div_pos (by omega) ha
    have h4 : a * 1 ≤ a * (b / a) := Nat.mul_le_mul_left a h3
    omega
  have h3 : 2 * (b % a) ≤ b := by omega
  have h4 : a * (2 * (b % a)) ≤ a * b := Nat.mul_le_mul_left a h3
  have h5 : a * (2 * (b % a)) = 2 * (b % a * a) := by rw [Nat.mul_left_comm, Nat.mul_comm a]
  rw [Nat.pow_succ] at h
  omega
theorem t_Tf_tell (h0 : S[0]? = some (11, 20)) (ho : o < 2 ^ 40) (hu : u < 2 ^ 40) (hu0 : 0 < u) : zEi G y_Tf_tellFraction prog_1_method_71_code 12 (some .boolean) 2 [.ref 0, .long (lN o), .long (lN u)] (I, J, P, S) (fun r w => r = nI 1 ∧ w = (zu I 0 0 (nI 0), zu (zu J 0 1 (lN (o / Nat.gcd o u))) 0 2 (lN (u / Nat.gcd o u)), P, S)) := by
  have hg0 : 0 < Nat.gcd o u := Nat.gcd_pos_of_pos_right _ hu0
  have hgu : Nat.gcd o u ≤ u := Nat.gcd_le_right _ hu0
  refine zEi_of (lv := [some (.ref 0), some (.long (lN o)), none, some (.long (lN u)), none, none, none, none, none, none, none, none]) (by decide) rfl (Nat.le_of_ble_eq_true rfl) ?_
  have exitF : ∀ (j a b : Nat), Nat.gcd a b = Nat.gcd o u → a = 0 → 0 < b → b < 2 ^ 40 → zA G y_Tf_tellFraction prog_1_method_71_code 12 (some .boolean) (zRm 2 0 0) (zM G 0 0 (fun r w' => ∃ x, r = some (.int x) ∧ (fun r w => r = nI 1 ∧ w = (zu I 0 0 (nI 0), zu (zu J 0 1 (lN (o / Nat.gcd o u))) 0 2 (lN (u / Nat.gcd o u)), P, S)) x w')) 44 [some (.ref 0), some (.long (lN o)), none, some (.long (lN u)), none, some (.long (lN a)), none, some (.long (lN b)), none, some (.int (nI j)), none, none] [] (I, J, P, S) 0 0 := by
    intro j a b hg ha hb hb4
    subst ha
    rw [Nat.gcd_zero_left] at hg
    subst hg
    have hne : ¬ lN (Nat.gcd o u) = 0 := lN_ne0 hb (by omega)
    refine z_lload_7 d_Tf_tellFraction_44 ?_
    refine z_lconst (f := lN 0) d_Tf_tellFraction_46 rfl ?_
    refine z_lcmp d_Tf_tellFraction_47 ?_
    refine z_if_le (tgt := 56) d_Tf_tellFraction_48 (by decide) (fun h => absurd ((lg_cmp_le _ _).mp h) (fun q => absurd ((pk_lLE (by omega) (by omega)).mp q) (by omega))) (fun _ => ?_)
    refine z_lload_7 d_Tf_tellFraction_51 ?_
    refine z_goto (tgt := 57) d_Tf_tellFraction_53 (by decide) ?_
    refine z_lstore_9 d_Tf_tellFraction_57 rfl ?_
    refine z_aload_0 d_Tf_tellFraction_59 ?_
    refine z_lload_1 d_Tf_tellFraction_60 ?_
    refine z_lload_9 d_Tf_tellFraction_61 ?_
    refine z_ldiv hne d_Tf_tellFraction_63 ?_
    rw [pk_lDiv (by omega) hb (by omega)]
    refine z_putJ d_Tf_tellFraction_64 f_Tf_13 (by first | assumption | exact zS0_at (by assumption) (by omega) | exact zS0_at rfl (by omega)) ?_
    refine z_aload_0 d_Tf_tellFraction_67 ?_
    refine z_lload_3 d_Tf_tellFraction_68 ?_
    refine z_lload_9 d_Tf_tellFraction_69 ?_
    refine z_ldiv hne d_Tf_tellFraction_71 ?_
    rw [pk_lDiv (by omega) hb (by omega)]
    refine z_putJ d_Tf_tellFraction_72 f_Tf_17 (by first | assumption | exact zS0_at (by assumption) (by omega) | exact zS0_at rfl (by omega)) ?_
    refine z_aload_0 d_Tf_tellFraction_75 ?_
    refine z_Vi0 d_Tf_tellFraction_76 k_Tf_126 (by first | assumption | exact zS0_at (by assumption) (by omega) | exact zS0_at rfl (by omega)) (t_Tf_agree h0) ⟨Nat.le_of_ble_eq_true rfl, Nat.le_of_ble_eq_true rfl, Nat.le_of_ble_eq_true rfl, Nat.le_of_ble_eq_true rfl⟩ (Nat.le_of_ble_eq_true rfl) ?_
    intro r w hq
    obtain ⟨rfl, rfl⟩ := hq
    refine z_retz d_Tf_tellFraction_79 (by first | exact zb0 | exact zb1 | assumption) ?_
    exact ⟨rfl, rfl⟩
  have loop : ∀ m j a b, 100 - j < m → j ≤ 100 → Nat.gcd a b = Nat.gcd o u → 0 < b → a < 2 ^ 40 → b < 2 ^ 40 → (1 ≤ j → a < b ∧ a * b < 2 ^ (100 - j)) → zA G y_Tf_tellFraction prog_1_method_71_code 12 (some .boolean) (zRm 2 0 0) (zM G 0 0 (fun r w' => ∃ x, r = some (.int x) ∧ (fun r w => r = nI 1 ∧ w = (zu I 0 0 (nI 0), zu (zu J 0 1 (lN (o / Nat.gcd o u))) 0 2 (lN (u / Nat.gcd o u)), P, S)) x w')) 9 [some (.ref 0), some (.long (lN o)), none, some (.long (lN u)), none, some (.long (lN a)), none, some (.long (lN b)), none, some (.int (nI j)), none, none] [] (I, J, P, S) 0 0 := by
    intro m
    induction m with
    | zero => intro j a b h; exact absurd h (Nat.not_lt_zero _)
    | succ m ih =>
      intro j a b hm hj hg hb ha4 hb4 hp
      have za : lN 0 = 0 := rfl
      refine z_iload_9 d_Tf_tellFraction_9 ?_
      refine z_bipush (a := nI 100) d_Tf_tellFraction_11 (by decide) ?_
      refine z_icmp_ge (tgt := 44) d_Tf_tellFraction_13 (by decide) (fun hc => ?_) (fun hc => ?_)
      · have hc := (nI_leI (by omega) (by omega)).mp hc
        obtain ⟨q1, q2⟩ := hp (by omega)
        obtain rfl : j = 100 := by omega
        have ha : a = 0 := by
          rcases Nat.eq_zero_or_pos a with h | h
          · exact h
          · have := Nat.mul_pos h hb
            simp at q2
            omega
        exact exitF 100 a b hg ha hb hb4
      · have hc : j < 100 := Nat.lt_of_not_le (fun q => hc (nI_le q (by omega)))
        refine z_lload_5 d_Tf_tellFraction_16 ?_
        refine z_lconst (f := lN 0) d_Tf_tellFraction_18 rfl ?_
        refine z_lcmp d_Tf_tellFraction_19 ?_
        refine z_if_eq (tgt := 44) d_Tf_tellFraction_20 (by decide) (fun hz => ?_) (fun hz => ?_)
        · have hz := (lg_cmp_eq _ _).mp hz
          have ha : a = 0 := (pk_lEQ (by omega) (by omega)).mp hz
          exact exitF j a b hg ha hb hb4
        · have ha : 0 < a := by
            rcases Nat.eq_zero_or_pos a with h | h
            · subst h; exact absurd ((lg_cmp_eq _ _).mpr rfl) hz
            · exact h
          have hne : ¬ lN a = 0 := lN_ne0 ha (by omega)
          have hlt : b % a < a := Nat.mod_lt _ ha
          refine z_lload_7 d_Tf_tellFraction_23 ?_
          refine z_lload_5 d_Tf_tellFraction_25 ?_
          refine z_lrem hne d_Tf_tellFraction_27 ?_
          rw [pk_lRem (by omega) ha (by omega)]
          refine z_lstore_10 d_Tf_tellFraction_28 rfl ?_
          refine z_lload_5 d_Tf_tellFraction_30 ?_
          first | refine z_lstore_7 d_Tf_tellFraction_32 rfl ?_ | (refine z_forget_6 ?_; refine z_lstore_7 d_Tf_tellFraction_32 rfl ?_)
          refine z_lload_10 d_Tf_tellFraction_34 ?_
          first | refine z_lstore_5 d_Tf_tellFraction_36 rfl ?_ | (refine z_forget_4 ?_; refine z_lstore_5 d_Tf_tellFraction_36 rfl ?_)
          first | refine z_iinc_9 d_Tf_tellFraction_38 rfl (zi_inc _) ?_ | refine z_iinc_9 d_Tf_tellFraction_38 rfl rfl ?_
          refine z_goto (tgt := 9) d_Tf_tellFraction_41 (by decide) ?_
          refine z_forget_10 ?_
          refine ih (j + 1) (b % a) a (by omega) (by omega) (gcd_step.trans hg) ha (by omega) ha4 (fun _ => ⟨hlt, ?_⟩)
          rcases Nat.eq_zero_or_pos j with h | h
          · subst h
            have h1 : b % a * a < 2 ^ 40 * 2 ^ 40 := Nat.mul_lt_mul_of_lt_of_lt (by omega) ha4
            exact Nat.lt_of_lt_of_le h1 (by decide)
          · obtain ⟨q1, q2⟩ := hp h
            exact half_step q1 ha (by rw [show 100 - (j + 1) + 1 = 100 - j by omega]; exact q2)
  refine z_lload_1 d_Tf_tellFraction_0 ?_
  first | refine z_lstore_5 d_Tf_tellFraction_1 rfl ?_ | (refine z_forget_4 ?_; refine z_lstore_5 d_Tf_tellFraction_1 rfl ?_)
  refine z_lload_3 d_Tf_tellFraction_3 ?_
  first | refine z_lstore_7 d_Tf_tellFraction_4 rfl ?_ | (refine z_forget_6 ?_; refine z_lstore_7 d_Tf_tellFraction_4 rfl ?_)
  refine z_iconst (a := nI 0) d_Tf_tellFraction_6 (by decide) ?_
  first | refine z_istore_9 d_Tf_tellFraction_7 rfl ?_ | (refine z_forget_8 ?_; refine z_istore_9 d_Tf_tellFraction_7 rfl ?_)
  exact loop 101 0 o u (by omega) (by omega) rfl hu0 ho hu (fun h => by omega)
theorem t_Mo_fraction (M : modOk P S) (ho : o < 2 ^ 40) (hu : u < 2 ^ 40) (hu0 : 0 < u) : zEi G y_Mo_fraction prog_14_method_9_code 11 (some .boolean) 2 [.ref 145, .long (lN o), .long (lN u)] (I, J, P, S) (fun r w => r = nI 1 ∧ w = (I, zu (zu J 145 2 (lN (o / Nat.gcd o u))) 145 3 (lN (u / Nat.gcd o u)), P, S)) := by
  obtain ⟨M0, ⟨M4, M4s⟩, ⟨M5, M5s⟩, ⟨M6, M6s⟩, ⟨M7, M7s⟩, ⟨M20, M20s⟩, ⟨M21, M21s⟩, ⟨M22, M22s⟩, ⟨M26, M26s⟩, ⟨M27, M27s⟩, ⟨M28, M28s⟩, ⟨M30, M30s⟩, ⟨M34, M34s⟩, ⟨M36, M36s⟩, ⟨M37, M37s⟩⟩ := id M
  refine zEi_of (lv := [some (.ref 145), some (.long (lN o)), none, some (.long (lN u)), none, none, none, none, none, none, none]) (by decide) rfl (Nat.le_of_ble_eq_true rfl) ?_
  have loop : ∀ m a b, b < m → Nat.gcd a b = Nat.gcd o u → a < 2 ^ 40 → b < 2 ^ 40 → zA G y_Mo_fraction prog_14_method_9_code 11 (some .boolean) (zRm 2 0 0) (zM G 0 0 (fun r w' => ∃ x, r = some (.int x) ∧ (fun r w => r = nI 1 ∧ w = (I, zu (zu J 145 2 (lN (o / Nat.gcd o u))) 145 3 (lN (u / Nat.gcd o u)), P, S)) x w')) 9 [some (.ref 145), some (.long (lN o)), none, some (.long (lN u)), none, some (.long (lN a)), none, some (.long (lN b)), none, none, none] [] (I, J, P, S) 0 0 := by
    intro m
    induction m with
    | zero => intro a b h; exact absurd h (Nat.not_lt_zero _)
    | succ m ih =>
      intro a b hm hg ha4 hb4
      refine z_lload_7 d_Mo_fraction_9 ?_
      refine z_lconst (f := lN 0) d_Mo_fraction_11 rfl ?_
      refine z_lcmp d_Mo_fraction_12 ?_
      refine z_if_eq (tgt := 34) d_Mo_fraction_13 (by decide) (fun hz => ?_) (fun hz => ?_)
      · have hz := (lg_cmp_eq _ _).mp hz
        have hb : b = 0 := (pk_lEQ (by omega) (by omega)).mp hz
        subst hb
        rw [Nat.gcd_zero_right] at hg
        have ha0 : 0 < a := by rw [hg]; exact Nat.gcd_pos_of_pos_right _ hu0
        subst hg
        have hne : ¬ lN (Nat.gcd o u) = 0 := lN_ne0 ha0 (by omega)
        refine z_aload_0 d_Mo_fraction_34 ?_
        refine z_lload_1 d_Mo_fraction_35 ?_
        refine z_lload_5 d_Mo_fraction_36 ?_
        refine z_ldiv hne d_Mo_fraction_38 ?_
        rw [pk_lDiv (by omega) ha0 (by omega)]
        refine z_putJ d_Mo_fraction_39 f_Mo_76 (by first | assumption | exact zS0_at (by assumption) (by omega) | exact zS0_at rfl (by omega)) ?_
        refine z_aload_0 d_Mo_fraction_42 ?_
        refine z_lload_3 d_Mo_fraction_43 ?_
        refine z_lload_5 d_Mo_fraction_44 ?_
        refine z_ldiv hne d_Mo_fraction_46 ?_
        rw [pk_lDiv (by omega) ha0 (by omega)]
        refine z_putJ d_Mo_fraction_47 f_Mo_7 (by first | assumption | exact zS0_at (by assumption) (by omega) | exact zS0_at rfl (by omega)) ?_
        refine z_iconst (a := nI 1) d_Mo_fraction_50 (by decide) ?_
        refine z_retz d_Mo_fraction_51 (by first | exact zb0 | exact zb1 | assumption) ?_
        exact ⟨rfl, rfl⟩
      · have hb : 0 < b := by
          rcases Nat.eq_zero_or_pos b with h | h
          · subst h; exact absurd ((lg_cmp_eq _ _).mpr rfl) hz
          · exact h
        have hne : ¬ lN b = 0 := lN_ne0 hb (by omega)
        have hlt : a % b < b := Nat.mod_lt _ hb
        refine z_lload_5 d_Mo_fraction_16 ?_
        refine z_lload_7 d_Mo_fraction_18 ?_
        refine z_lrem hne d_Mo_fraction_20 ?_
        rw [pk_lRem (by omega) hb (by omega)]
        refine z_lstore_9 d_Mo_fraction_21 rfl ?_
        refine z_lload_7 d_Mo_fraction_23 ?_
        first | refine z_lstore_5 d_Mo_fraction_25 rfl ?_ | (refine z_forget_4 ?_; refine z_lstore_5 d_Mo_fraction_25 rfl ?_)
        refine z_lload_9 d_Mo_fraction_27 ?_
        first | refine z_lstore_7 d_Mo_fraction_29 rfl ?_ | (refine z_forget_6 ?_; refine z_lstore_7 d_Mo_fraction_29 rfl ?_)
        refine z_goto (tgt := 9) d_Mo_fraction_31 (by decide) ?_
        refine z_forget_9 ?_
        exact ih b (a % b) (by omega) (by rw [Nat.gcd_comm, gcd_step, Nat.gcd_comm]; exact hg) hb4 (by omega)
  refine z_lload_1 d_Mo_fraction_0 ?_
  refine z_labs d_Mo_fraction_1 k_Mo_79.2.1 ⟨Nat.le_of_ble_eq_true rfl, Nat.le_of_ble_eq_true rfl, Nat.le_of_ble_eq_true rfl, Nat.le_of_ble_eq_true rfl⟩ (Nat.le_of_ble_eq_true rfl) ?_
  rw [labsN (by omega)]
  first | refine z_lstore_5 d_Mo_fraction_4 rfl ?_ | (refine z_forget_4 ?_; refine z_lstore_5 d_Mo_fraction_4 rfl ?_)
  refine z_lload_3 d_Mo_fraction_6 ?_
  first | refine z_lstore_7 d_Mo_fraction_7 rfl ?_ | (refine z_forget_6 ?_; refine z_lstore_7 d_Mo_fraction_7 rfl ?_)
  exact loop (u + 1) o u (by omega) rfl ho hu
end FR0
