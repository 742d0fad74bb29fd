/-! the reference's givings -/
section LG0
variable {G : zG} {I I' I1 I2 I3 : Nat → Nat → Int32} {J J' J2 : Nat → Nat → Int64} {P : Nat → Nat → Option Nat} {S : List (Nat × Nat)} {f d nt np nl nn n fed mk t k p q s al r fr us m : Nat} {a c x : Int32} {w : zW} {kk : Nat → Nat} {b : Nat → Bool} {W : Nat → Nat} {tr : Nat → Nat → Bool} {inS : Nat → Bool}
def gN1 (al : Nat) (b : Nat → Bool) (W : Nat → Nat) (s : Nat) : Nat := if al = 1 then gW1 b W s else min 1 (W s + gW1 b W s)
def gX (tr : Nat → Nat → Bool) (inS : Nat → Bool) (al fr us : Nat) : Nat → Nat → Nat
  | 0, s => if s = us then 1 else 0
  | m + 1, s => if inS (fr + m) then gN1 al (tr (fr + m)) (gX tr inS al fr us m) s else gX tr inS al fr us m s
theorem gX_R : ∀ m s, gX tr inS 1 fr us m s = gR tr inS fr us m s := by
  intro m
  induction m with
  | zero => intro s; rfl
  | succ m ih =>
    intro s
    rw [gX, gR, ih s, show gX tr inS 1 fr us m = gR tr inS fr us m from funext ih]
    rfl
theorem gX_1 : ∀ m s, gX tr inS 0 fr us m s ≤ 1 := by
  intro m
  induction m with
  | zero =>
    intro s
    rw [gX]
    split <;> omega
  | succ m ih =>
    intro s
    rw [gX]
    split
    · rw [gN1, if_neg (by decide)]; omega
    · exact ih s
theorem sl_pos {f : Nat → Nat} : 0 < sl n f ↔ ∃ i, i < n ∧ 0 < f i := by
  induction n with
  | zero =>
    constructor
    · intro h; exact absurd h (Nat.lt_irrefl _)
    · rintro ⟨i, hi, -⟩; exact absurd hi (Nat.not_lt_zero _)
  | succ n ih =>
    rw [sl_s]
    constructor
    · intro h
      by_cases h1 : 0 < sl n f
      · obtain ⟨i, i1, i2⟩ := ih.mp h1
        exact ⟨i, by omega, i2⟩
      · exact ⟨n, by omega, by omega⟩
    · rintro ⟨i, i1, i2⟩
      by_cases e : i = n
      · subst e; omega
      · have := ih.mpr ⟨i, by omega, i2⟩; omega
theorem gX_Q : ∀ m s, 0 < gX tr inS 0 0 0 m s ↔ gQ tr inS m s := by
  intro m
  induction m with
  | zero =>
    intro s
    rw [gX, gQ]
    split <;> omega
  | succ m ih =>
    intro s
    rw [gX, gQ, Nat.zero_add]
    by_cases h : inS m = true
    · rw [if_pos h, gN1, if_neg (by decide)]
      constructor
      · intro h1
        by_cases h2 : 0 < gX tr inS 0 0 0 m s
        · exact Or.inl ((ih s).mp h2)
        · obtain ⟨p, p1, p2⟩ := sl_pos.mp (show 0 < gW1 (tr m) (gX tr inS 0 0 0 m) s by omega)
          split at p2
          · rename_i hb
            rw [Bool.and_eq_true] at hb
            exact Or.inr ⟨h, p, p1, hb.1, hb.2, (ih _).mp p2⟩
          · exact absurd p2 (Nat.lt_irrefl _)
      · rintro (h1 | ⟨-, p, p1, p2, p3, p4⟩)
        · have := (ih s).mpr h1; omega
        · have : 0 < gW1 (tr m) (gX tr inS 0 0 0 m) s := sl_pos.mpr ⟨p, p1, by rw [if_pos (by rw [p2, p3]; rfl)]; exact (ih _).mpr p4⟩
          omega
    · rw [if_neg h, ih]
      constructor
      · intro h1; exact Or.inl h1
      · rintro (h1 | ⟨h2, -⟩)
        · exact h1
        · exact absurd h2 h
theorem sl_up {g : Nat → Nat} (h : ∀ i, n ≤ i → i < n + m → g i = 0) : sl (n + m) g = sl n g := by
  induction m with
  | zero => rfl
  | succ m ih => rw [show n + (m + 1) = n + m + 1 by omega, sl_s, h (n + m) (by omega) (by omega), Nat.add_zero, ih (fun i h1 h2 => h i h1 (by omega))]
theorem clr_nI : ∀ s, s < 128 → ∀ p, p < 7 → s.testBit p = true → nI s &&& ((nI 1 <<< (nI p &&& 31)) ^^^ -1) = nI (s ^^^ 2 ^ p) := by decide +kernel
theorem clr_lt : ∀ s, s < 128 → ∀ p, p < 7 → s.testBit p = true → s ^^^ 2 ^ p < s := by decide +kernel
theorem gTr_bit {A : Nat → Int32} (hn : np ≤ 7) (hp : p < np) : gTr A kk np t p = zB (A p) (kk t) := by
  unfold gTr
  rw [s_set_bit _ (by omega) (by omega), decide_eq_true hp, Bool.true_and]
theorem t_Mo_laysTin (M : modOk P S) (N : modIn I nt np nl nn) (ht : t < nn) (hk : I 150 (33 + t) = nI (kk t)) (hal : al = 1 ∨ al = 0) (hW : ∀ s, s < 128 → I 156 s = nI (W s)) (hW1 : al = 0 → ∀ s, W s ≤ 1) : zEv G y_Mo_laysTin prog_14_method_114_code 6 3 0 0 [.ref 145, .int (nI t), .int (nI al)] (I, J, P, S) (fun w => ∃ I', w = (I', J, P, S) ∧ xF 156 I I' ∧ ∀ s, s < 128 → I' 156 s = nI (gN1 al (gTr (fun p => I 150 (12 + p)) kk np t) W s)) := by
  obtain ⟨M0, ⟨M4, M4s⟩, ⟨M5, M5s⟩, ⟨M6, M6s⟩, ⟨M7, M7s⟩, ⟨M20, M20s⟩, ⟨M21, M21s⟩, ⟨M22, M22s⟩, ⟨M26, M26s⟩, ⟨M27, M27s⟩, ⟨M28, M28s⟩, ⟨M30, M30s⟩, ⟨M34, M34s⟩, ⟨M36, M36s⟩, ⟨M37, M37s⟩⟩ := id M
  obtain ⟨⟨m0, m0b⟩, ⟨m1, m1b⟩, ⟨m2, m2b⟩, ⟨m3, m3b⟩, mof, mon⟩ := id N
  refine zEv_of (lv := [some (.ref 145), some (.int (nI t)), some (.int (nI al)), none, none, none]) (by decide) rfl (Nat.le_of_ble_eq_true rfl) ?_
  have out : ∀ j I2, j ≤ 128 → xF 156 I I2 → (∀ s, s < j → I2 156 s = nI (W s)) → (∀ s, j ≤ s → s < 128 → I2 156 s = nI (gN1 al (gTr (fun p => I 150 (12 + p)) kk np t) W s)) → zA G y_Mo_laysTin prog_14_method_114_code 6 none (zRm 3 0 0) (zM G 0 0 (fun r w' => r = none ∧ (fun w => ∃ I', w = (I', J, P, S) ∧ xF 156 I I' ∧ ∀ s, s < 128 → I' 156 s = nI (gN1 al (gTr (fun p => I 150 (12 + p)) kk np t) W s)) w')) 3 [some (.ref 145), some (.int (nI t)), some (.int (nI al)), some (.int (nI j - nI 1)), none, none] [] (I2, J, P, S) 0 0 := by
    intro j
    induction j with
    | zero =>
      intro I2 _ h1 h2 h3
      refine z_iload_3 d_Mo_laysTin_3 ?_
      refine z_if_lt (tgt := 108) d_Mo_laysTin_4 (by decide) (fun _ => ?_) (fun h => absurd (by decide) h)
      refine z_retv d_Mo_laysTin_108 ?_
      exact ⟨I2, rfl, h1, fun s hs => h3 s (Nat.zero_le _) hs⟩
    | succ j ihj =>
      intro I2 hj h1 h2 h3
      rw [nI_dec]
      have m1' : I2 150 1 = nI np := by rw [h1 150 (by decide)]; exact m1
      have hk2 : I2 150 (33 + t) = nI (kk t) := by rw [h1 150 (by decide)]; exact hk
      have fin : ∀ x, x = nI (gN1 al (gTr (fun p => I 150 (12 + p)) kk np t) W j) → ∀ y : Int32, ∀ z : Nat, zA G y_Mo_laysTin prog_14_method_114_code 6 none (zRm 3 0 0) (zM G 0 0 (fun r w' => r = none ∧ (fun w => ∃ I', w = (I', J, P, S) ∧ xF 156 I I' ∧ ∀ s, s < 128 → I' 156 s = nI (gN1 al (gTr (fun p => I 150 (12 + p)) kk np t) W s)) w')) 102 [some (.ref 145), some (.int (nI t)), some (.int (nI al)), some (.int (nI j)), some (.int y), some (.int (nI z))] [] (zu I2 156 j x, J, P, S) 0 0 := by
        intro x hx y z
        refine z_iinc_3 d_Mo_laysTin_102 rfl rfl ?_
        refine z_goto (tgt := 3) d_Mo_laysTin_105 (by decide) ?_
        rw [zi_dec]
        refine z_forget_4 ?_
        refine z_forget_5 ?_
        refine ihj _ (by omega) (xF_u h1) (fun s hs => ?_) (fun s s1 s2 => ?_)
        · rw [zu_ne _ _ _ _ (by omega)]; exact h2 s (by omega)
        · by_cases e : s = j
          · subst e; rw [zu_same]; exact hx
          · rw [zu_ne _ _ _ _ (by omega)]; exact h3 s (by omega) s2
      obtain ⟨v0, hv0⟩ : ∃ v0, v0 = if al = 1 then 0 else W j := ⟨_, rfl⟩
      obtain ⟨g, hg⟩ : ∃ g : Nat → Nat, g = (fun p => if j.testBit p && gTr (fun p => I 150 (12 + p)) kk np t p then W (j ^^^ 2 ^ p) else 0) := ⟨_, rfl⟩
      have g7 : sl np g = sl 7 g := by
        have := sl_up (n := np) (m := 7 - np) (g := g) (fun i h1 h2 => by
          rw [hg]
          show (if j.testBit i && gTr (fun p => I 150 (12 + p)) kk np t i then W (j ^^^ 2 ^ i) else 0) = 0
          rw [if_neg (fun q => by
            rw [Bool.and_eq_true] at q
            have := gTr_lt m1b (by omega) q.2
            omega)])
        rw [show np + (7 - np) = 7 by omega] at this
        exact this.symm
      have gle : al = 0 → sl np g ≤ 7 := fun h => by
        rw [g7]
        refine sl_le (c := 1) (fun i _ => ?_)
        rw [hg]
        show (if j.testBit i && gTr (fun p => I 150 (12 + p)) kk np t i then W (j ^^^ 2 ^ i) else 0) ≤ 1
        split
        · exact hW1 h _
        · exact Nat.zero_le _
      have inn : ∀ z pp, np - pp < z → pp ≤ np → zA G y_Mo_laysTin prog_14_method_114_code 6 none (zRm 3 0 0) (zM G 0 0 (fun r w' => r = none ∧ (fun w => ∃ I', w = (I', J, P, S) ∧ xF 156 I I' ∧ ∀ s, s < 128 → I' 156 s = nI (gN1 al (gTr (fun p => I 150 (12 + p)) kk np t) W s)) w')) 26 [some (.ref 145), some (.int (nI t)), some (.int (nI al)), some (.int (nI j)), some (.int (nI (v0 + sl pp g))), some (.int (nI pp))] [] (I2, J, P, S) 0 0 := by
        intro z
        induction z with
        | zero => intro pp h; exact absurd h (Nat.not_lt_zero _)
        | succ z ihz =>
          intro pp hz hpp
          refine z_iload_5 d_Mo_laysTin_26 ?_
          refine z_aload_0 d_Mo_laysTin_28 ?_
          refine z_getR d_Mo_laysTin_29 f_Mo_35 (by first | assumption | exact zS0_at (by assumption) (by omega) | exact zS0_at rfl (by omega)) (by first | assumption | exact zS0_at (by assumption) (by omega) | exact zS0_at rfl (by omega)) ?_
          refine z_iconst (a := nI 1) d_Mo_laysTin_32 (by decide) ?_
          first | refine z_ialdNv d_Mo_laysTin_33 (by first | assumption | exact zS0_at (by assumption) (by omega) | exact zS0_at rfl (by omega)) (by omega) (by first | decide | omega) (by first | assumption | ((try simp (disch := omega) only [zu_same, zu_ne, zcp_ne, zfl_ne]); first | assumption | rfl)) ?_ | refine z_iald d_Mo_laysTin_33 (by first | assumption | exact zS0_at (by assumption) (by omega) | exact zS0_at rfl (by omega)) (by first | assumption | exact zS0_at (by assumption) (by omega) | exact zS0_at rfl (by omega)) ?_
          refine z_icmp_ge (tgt := 80) d_Mo_laysTin_34 (by decide) (fun hb => ?_) (fun hb => ?_)
          · have hb := (nI_leI (by omega) (by omega)).mp hb
            obtain rfl : pp = np := by omega
            refine z_aload_0 d_Mo_laysTin_80 ?_
            refine z_getR d_Mo_laysTin_81 f_Mo_53 (by first | assumption | exact zS0_at (by assumption) (by omega) | exact zS0_at rfl (by omega)) (by first | assumption | exact zS0_at (by assumption) (by omega) | exact zS0_at rfl (by omega)) ?_
            refine z_iload_3 d_Mo_laysTin_84 ?_
            refine z_iload_2 d_Mo_laysTin_85 ?_
            rcases hal with rfl | rfl
            · refine z_if_ne (tgt := 95) d_Mo_laysTin_86 (by decide) (fun _ => ?_) (fun h => absurd h (by decide))
              refine z_iload_4 d_Mo_laysTin_95 ?_
              refine z_goto (tgt := 101) d_Mo_laysTin_97 (by decide) ?_
              first | refine z_iastN d_Mo_laysTin_101 (by first | assumption | exact zS0_at (by assumption) (by omega) | exact zS0_at rfl (by omega)) (by omega) (by first | decide | omega) ?_ | refine z_iast d_Mo_laysTin_101 (by first | assumption | exact zS0_at (by assumption) (by omega) | exact zS0_at rfl (by omega)) (by first | assumption | exact zS0_at (by assumption) (by omega) | exact zS0_at rfl (by omega)) ?_
              refine fin _ ?_ _ _
              rw [hv0, if_pos rfl, Nat.zero_add, g7, gN1, if_pos rfl, hg]
            · have gl := gle rfl
              have hw := hW1 rfl j
              rw [if_neg (by decide)] at hv0
              refine z_if_ne (tgt := 95) d_Mo_laysTin_86 (by decide) (fun h => absurd (by decide) h) (fun _ => ?_)
              refine z_iload_4 d_Mo_laysTin_89 ?_
              refine z_iconst (a := nI 1) d_Mo_laysTin_91 (by decide) ?_
              refine z_icmp_ge (tgt := 100) d_Mo_laysTin_92 (by decide) (fun hc => ?_) (fun hc => ?_)
              · have hc := (nI_leI (by omega) (by omega)).mp hc
                refine z_iconst (a := nI 1) d_Mo_laysTin_100 (by decide) ?_
                first | refine z_iastN d_Mo_laysTin_101 (by first | assumption | exact zS0_at (by assumption) (by omega) | exact zS0_at rfl (by omega)) (by omega) (by first | decide | omega) ?_ | refine z_iast d_Mo_laysTin_101 (by first | assumption | exact zS0_at (by assumption) (by omega) | exact zS0_at rfl (by omega)) (by first | assumption | exact zS0_at (by assumption) (by omega) | exact zS0_at rfl (by omega)) ?_
                refine fin _ ?_ _ _
                rw [gN1, if_neg (by decide), gW1, ← hg, ← g7]
                congr 1
                omega
              · have hc : v0 + sl pp g < 1 := Nat.lt_of_not_le (fun q => hc (nI_le q (by omega)))
                refine z_iload_4 d_Mo_laysTin_95 ?_
                refine z_goto (tgt := 101) d_Mo_laysTin_97 (by decide) ?_
                first | refine z_iastN d_Mo_laysTin_101 (by first | assumption | exact zS0_at (by assumption) (by omega) | exact zS0_at rfl (by omega)) (by omega) (by first | decide | omega) ?_ | refine z_iast d_Mo_laysTin_101 (by first | assumption | exact zS0_at (by assumption) (by omega) | exact zS0_at rfl (by omega)) (by first | assumption | exact zS0_at (by assumption) (by omega) | exact zS0_at rfl (by omega)) ?_
                refine fin _ ?_ _ _
                rw [gN1, if_neg (by decide), gW1, ← hg, ← g7]
                congr 1
                omega
          · have hb : pp < np := Nat.lt_of_not_le (fun q => hb (nI_le q (by omega)))
            have q0 := ihz (pp + 1) (by omega) (by omega)
            rw [sl_s, show g pp = if j.testBit pp && gTr (fun p => I 150 (12 + p)) kk np t pp then W (j ^^^ 2 ^ pp) else 0 by rw [hg], gTr_bit m1b hb] at q0
            have no : (j.testBit pp && zB (I 150 (12 + pp)) (kk t)) = false → zA G y_Mo_laysTin prog_14_method_114_code 6 none (zRm 3 0 0) (zM G 0 0 (fun r w' => r = none ∧ (fun w => ∃ I', w = (I', J, P, S) ∧ xF 156 I I' ∧ ∀ s, s < 128 → I' 156 s = nI (gN1 al (gTr (fun p => I 150 (12 + p)) kk np t) W s)) w')) 74 [some (.ref 145), some (.int (nI t)), some (.int (nI al)), some (.int (nI j)), some (.int (nI (v0 + sl pp g))), some (.int (nI pp))] [] (I2, J, P, S) 0 0 := by
              intro hno
              rw [hno, if_neg (by decide), Nat.add_zero] at q0
              first | refine z_iinc_5 d_Mo_laysTin_74 rfl (zi_inc _) ?_ | refine z_iinc_5 d_Mo_laysTin_74 rfl rfl ?_
              refine z_goto (tgt := 26) d_Mo_laysTin_77 (by decide) ?_
              exact q0
            have ebit : zbit (nI j) pp ↔ j.testBit pp = true := by rw [zbit, zB_nI (by omega)]
            refine z_iload_3 d_Mo_laysTin_37 ?_
            refine z_iload_5 d_Mo_laysTin_38 ?_
            refine z_Si2 d_Mo_laysTin_40 k_Mo_109 (t_Mo_has) ⟨Nat.le_of_ble_eq_true rfl, Nat.le_of_ble_eq_true rfl, Nat.le_of_ble_eq_true rfl, Nat.le_of_ble_eq_true rfl⟩ (Nat.le_of_ble_eq_true rfl) ?_
            intro r w hq
            rcases hq with ⟨⟨hz1, rfl⟩ | ⟨hz1, rfl⟩, rfl⟩
            · refine z_if_eq (tgt := 74) d_Mo_laysTin_43 (by decide) (fun h => absurd h (by decide)) (fun _ => ?_)
              refine z_aload_0 d_Mo_laysTin_46 ?_
              refine z_iload_1 d_Mo_laysTin_47 ?_
              refine z_iload_5 d_Mo_laysTin_48 ?_
              refine z_Vi2 d_Mo_laysTin_50 k_Mo_354 (by first | assumption | exact zS0_at (by assumption) (by omega) | exact zS0_at rfl (by omega)) (t_Mo_isTrue M (by omega) (by omega) hk2) ⟨Nat.le_of_ble_eq_true rfl, Nat.le_of_ble_eq_true rfl, Nat.le_of_ble_eq_true rfl, Nat.le_of_ble_eq_true rfl⟩ (Nat.le_of_ble_eq_true rfl) ?_
              intro r w hq
              rw [h1 150 (by decide)] at hq
              rcases hq with ⟨⟨hz2, rfl⟩ | ⟨hz2, rfl⟩, rfl⟩
              · refine z_if_eq (tgt := 74) d_Mo_laysTin_53 (by decide) (fun h => absurd h (by decide)) (fun _ => ?_)
                have hbt := ebit.mp hz1
                have hz2 : zB (I 150 (12 + pp)) (kk t) = true := hz2
                rw [hbt, hz2, if_pos (by decide)] at q0
                have hlt := clr_lt j (by omega) pp (by omega) hbt
                have hrd := h2 (j ^^^ 2 ^ pp) (by omega)
                refine z_iload_4 d_Mo_laysTin_56 ?_
                refine z_aload_0 d_Mo_laysTin_58 ?_
                refine z_getR d_Mo_laysTin_59 f_Mo_53 (by first | assumption | exact zS0_at (by assumption) (by omega) | exact zS0_at rfl (by omega)) (by first | assumption | exact zS0_at (by assumption) (by omega) | exact zS0_at rfl (by omega)) ?_
                refine z_iload_3 d_Mo_laysTin_62 ?_
                refine z_iconst (a := nI 1) d_Mo_laysTin_63 (by decide) ?_
                refine z_iload_5 d_Mo_laysTin_64 ?_
                refine z_ishl d_Mo_laysTin_66 ?_
                refine z_iconst (a := -1) d_Mo_laysTin_67 (by decide) ?_
                refine z_ixor d_Mo_laysTin_68 ?_
                refine z_iand d_Mo_laysTin_69 ?_
                rw [clr_nI j (by omega) pp (by omega) hbt]
                first | refine z_ialdNv d_Mo_laysTin_70 (by first | assumption | exact zS0_at (by assumption) (by omega) | exact zS0_at rfl (by omega)) (by omega) (by first | decide | omega) (by first | assumption | ((try simp (disch := omega) only [zu_same, zu_ne, zcp_ne, zfl_ne]); first | assumption | rfl)) ?_ | refine z_iald d_Mo_laysTin_70 (by first | assumption | exact zS0_at (by assumption) (by omega) | exact zS0_at rfl (by omega)) (by first | assumption | exact zS0_at (by assumption) (by omega) | exact zS0_at rfl (by omega)) ?_
                refine z_iaddN d_Mo_laysTin_71 ?_
                rw [show v0 + sl pp g + W (j ^^^ 2 ^ pp) = v0 + (sl pp g + W (j ^^^ 2 ^ pp)) by omega]
                first | refine z_istore_4 d_Mo_laysTin_72 rfl ?_ | (refine z_forget_3 ?_; refine z_istore_4 d_Mo_laysTin_72 rfl ?_)
                first | refine z_iinc_5 d_Mo_laysTin_74 rfl (zi_inc _) ?_ | refine z_iinc_5 d_Mo_laysTin_74 rfl rfl ?_
                refine z_goto (tgt := 26) d_Mo_laysTin_77 (by decide) ?_
                exact q0
              · refine z_if_eq (tgt := 74) d_Mo_laysTin_53 (by decide) (fun _ => ?_) (fun h => absurd (by decide) h)
                refine no ?_
                rw [show zB (I 150 (12 + pp)) (kk t) = false from Bool.eq_false_iff.mpr hz2, Bool.and_false]
            · refine z_if_eq (tgt := 74) d_Mo_laysTin_43 (by decide) (fun _ => ?_) (fun h => absurd (by decide) h)
              refine no ?_
              rw [show j.testBit pp = false from Bool.eq_false_iff.mpr (fun q => hz1 (ebit.mpr q)), Bool.false_and]
      have hin := inn (np + 1) 0 (by omega) (by omega)
      rw [sl_0, Nat.add_zero] at hin
      refine z_iload_3 d_Mo_laysTin_3 ?_
      refine z_if_lt (tgt := 108) d_Mo_laysTin_4 (by decide) (fun h => absurd h (nI_pos (by omega))) (fun _ => ?_)
      refine z_iload_2 d_Mo_laysTin_7 ?_
      rcases hal with rfl | rfl
      · rw [if_pos rfl] at hv0
        rw [hv0] at hin
        refine z_if_eq (tgt := 15) d_Mo_laysTin_8 (by decide) (fun h => absurd h (by decide)) (fun _ => ?_)
        refine z_iconst (a := nI 0) d_Mo_laysTin_11 (by decide) ?_
        refine z_goto (tgt := 21) d_Mo_laysTin_12 (by decide) ?_
        first | refine z_istore_4 d_Mo_laysTin_21 rfl ?_ | (refine z_forget_3 ?_; refine z_istore_4 d_Mo_laysTin_21 rfl ?_)
        refine z_iconst (a := nI 0) d_Mo_laysTin_23 (by decide) ?_
        first | refine z_istore_5 d_Mo_laysTin_24 rfl ?_ | (refine z_forget_4 ?_; refine z_istore_5 d_Mo_laysTin_24 rfl ?_)
        exact hin
      · rw [if_neg (by decide)] at hv0
        rw [hv0] at hin
        have hrd := h2 j (by omega)
        refine z_if_eq (tgt := 15) d_Mo_laysTin_8 (by decide) (fun _ => ?_) (fun h => absurd (by decide) h)
        refine z_aload_0 d_Mo_laysTin_15 ?_
        refine z_getR d_Mo_laysTin_16 f_Mo_53 (by first | assumption | exact zS0_at (by assumption) (by omega) | exact zS0_at rfl (by omega)) (by first | assumption | exact zS0_at (by assumption) (by omega) | exact zS0_at rfl (by omega)) ?_
        refine z_iload_3 d_Mo_laysTin_19 ?_
        first | refine z_ialdNv d_Mo_laysTin_20 (by first | assumption | exact zS0_at (by assumption) (by omega) | exact zS0_at rfl (by omega)) (by omega) (by first | decide | omega) (by first | assumption | ((try simp (disch := omega) only [zu_same, zu_ne, zcp_ne, zfl_ne]); first | assumption | rfl)) ?_ | refine z_iald d_Mo_laysTin_20 (by first | assumption | exact zS0_at (by assumption) (by omega) | exact zS0_at rfl (by omega)) (by first | assumption | exact zS0_at (by assumption) (by omega) | exact zS0_at rfl (by omega)) ?_
        first | refine z_istore_4 d_Mo_laysTin_21 rfl ?_ | (refine z_forget_3 ?_; refine z_istore_4 d_Mo_laysTin_21 rfl ?_)
        refine z_iconst (a := nI 0) d_Mo_laysTin_23 (by decide) ?_
        first | refine z_istore_5 d_Mo_laysTin_24 rfl ?_ | (refine z_forget_4 ?_; refine z_istore_5 d_Mo_laysTin_24 rfl ?_)
        exact hin
  refine z_bipush (a := nI 127) d_Mo_laysTin_0 (by decide) ?_
  first | refine z_istore_3 d_Mo_laysTin_2 rfl ?_ | (refine z_forget_2 ?_; refine z_istore_3 d_Mo_laysTin_2 rfl ?_)
  have q := out 128 I (Nat.le_refl _) xF_r (fun s hs => hW s hs) (fun s h1 h2 => absurd h2 (by omega))
  rw [nI_dec 127] at q
  exact q
theorem inv0 : ∀ s, s < 128 → nI s &&& (nI 0 ^^^ -1) = nI s := by decide +kernel
def mxS (W : Nat → Nat) : Nat → Nat
  | 0 => 0
  | n + 1 => if 0 < W n then max (mxS W n) (pcN n) else mxS W n
theorem mxS_le : ∀ n k, k ≤ mxS W n ↔ k = 0 ∨ ∃ s, s < n ∧ 0 < W s ∧ k ≤ pcN s := by
  intro n
  induction n with
  | zero =>
    intro k
    rw [mxS]
    constructor
    · intro h; exact Or.inl (by omega)
    · rintro (h | ⟨s, s1, -⟩)
      · omega
      · exact absurd s1 (Nat.not_lt_zero _)
  | succ n ih =>
    intro k
    rw [mxS]
    by_cases h : 0 < W n
    · rw [if_pos h]
      constructor
      · intro h1
        by_cases h2 : k ≤ mxS W n
        · rcases (ih k).mp h2 with h3 | ⟨s, s1, s2⟩
          · exact Or.inl h3
          · exact Or.inr ⟨s, by omega, s2⟩
        · exact Or.inr ⟨n, by omega, h, by omega⟩
      · rintro (h1 | ⟨s, s1, s2, s3⟩)
        · omega
        · by_cases e : s = n
          · subst e; omega
          · have := (ih k).mpr (Or.inr ⟨s, by omega, s2, s3⟩); omega
    · rw [if_neg h, ih]
      constructor
      · rintro (h1 | ⟨s, s1, s2⟩)
        · exact Or.inl h1
        · exact Or.inr ⟨s, by omega, s2⟩
      · rintro (h1 | ⟨s, s1, s2, s3⟩)
        · exact Or.inl h1
        · by_cases e : s = n
          · subst e; exact absurd s2 h
          · exact Or.inr ⟨s, by omega, s2, s3⟩
theorem mxS_bd : ∀ n, n ≤ 128 → mxS W n ≤ 7 := by
  intro n
  induction n with
  | zero => intro _; exact Nat.zero_le _
  | succ n ih =>
    intro hn
    rw [mxS]
    have := ih (by omega)
    have := pc_le n (by omega)
    split <;> omega
theorem t_Mo_laysGivings (M : modOk P S) (N : modIn I nt np nl nn) (hK : ∀ t, t < nn → I 150 (33 + t) = nI (kk t)) (hal : al = 1 ∨ al = 0 ∧ us = 0) (hfr : fr ≤ nn) (hus : us < 128) : zEi G y_Mo_laysGivings prog_14_method_113_code 7 (some .int) 4 [.ref 145, .int a, .int (nI fr), .int (nI us), .int (nI al)] (I, J, P, S) (fun r w => r = nI (if al = 1 then sl 128 (gX (gTr (fun p => I 150 (12 + p)) kk np) (zB a) al fr us (nn - fr)) else mxS (gX (gTr (fun p => I 150 (12 + p)) kk np) (zB a) al fr us (nn - fr)) 128) ∧ ∃ I', w = (I', J, P, S) ∧ xF 156 I I') := by
  obtain ⟨M0, ⟨M4, M4s⟩, ⟨M5, M5s⟩, ⟨M6, M6s⟩, ⟨M7, M7s⟩, ⟨M20, M20s⟩, ⟨M21, M21s⟩, ⟨M22, M22s⟩, ⟨M26, M26s⟩, ⟨M27, M27s⟩, ⟨M28, M28s⟩, ⟨M30, M30s⟩, ⟨M34, M34s⟩, ⟨M36, M36s⟩, ⟨M37, M37s⟩⟩ := id M
  obtain ⟨⟨m0, m0b⟩, ⟨m1, m1b⟩, ⟨m2, m2b⟩, ⟨m3, m3b⟩, mof, mon⟩ := id N
  have hal' : al = 1 ∨ al = 0 := by omega
  obtain ⟨X, hX⟩ : ∃ X, X = gX (gTr (fun p => I 150 (12 + p)) kk np) (zB a) al fr us := ⟨_, rfl⟩
  rw [← hX]
  refine zEi_of (lv := [some (.ref 145), some (.int a), some (.int (nI fr)), some (.int (nI us)), some (.int (nI al)), none, none]) (by decide) rfl (Nat.le_of_ble_eq_true rfl) ?_
  have l3 : ∀ I2, xF 156 I I2 → (∀ s, s < 128 → I2 156 s = nI (X (nn - fr) s)) → zA G y_Mo_laysGivings prog_14_method_113_code 7 (some .int) (zRm 4 0 0) (zM G 0 0 (fun r w' => ∃ x, r = some (.int x) ∧ (fun r w => r = nI (if al = 1 then sl 128 (X (nn - fr)) else mxS (X (nn - fr)) 128) ∧ ∃ I', w = (I', J, P, S) ∧ xF 156 I I') x w')) 72 [some (.ref 145), some (.int a), some (.int (nI fr)), some (.int (nI us)), some (.int (nI al)), some (.int (nI nn)), none] [] (I2, J, P, S) 0 0 := by
    intro I2 h1 h2
    rcases hal with e1 | ⟨e0, eu⟩
    · have lp : ∀ m s, 128 - s < m → s ≤ 128 → zA G y_Mo_laysGivings prog_14_method_113_code 7 (some .int) (zRm 4 0 0) (zM G 0 0 (fun r w' => ∃ x, r = some (.int x) ∧ (fun r w => r = nI (if al = 1 then sl 128 (X (nn - fr)) else mxS (X (nn - fr)) 128) ∧ ∃ I', w = (I', J, P, S) ∧ xF 156 I I') x w')) 78 [some (.ref 145), some (.int a), some (.int (nI fr)), some (.int (nI us)), some (.int (nI al)), some (.int (nI (sl s (X (nn - fr))))), some (.int (nI s))] [] (I2, J, P, S) 0 0 := by
        intro m
        induction m with
        | zero => intro s h; exact absurd h (Nat.not_lt_zero _)
        | succ m ih =>
          intro s hm hs
          refine z_iload_6 d_Mo_laysGivings_78 ?_
          refine z_sipush (a := nI 128) d_Mo_laysGivings_80 (by decide) ?_
          refine z_icmp_ge (tgt := 141) d_Mo_laysGivings_83 (by decide) (fun hb => ?_) (fun hb => ?_)
          · have hb := (nI_leI (by omega) (by omega)).mp hb
            obtain rfl : s = 128 := by omega
            refine z_iload_5 d_Mo_laysGivings_141 ?_
            refine z_reti d_Mo_laysGivings_143 ?_
            exact ⟨by rw [if_pos e1], I2, rfl, h1⟩
          · have hb : s < 128 := Nat.lt_of_not_le (fun q => hb (nI_le q (by omega)))
            have hv := h2 s hb
            have q := ih (s + 1) (by omega) (by omega)
            rw [show sl (s + 1) (X (nn - fr)) = sl s (X (nn - fr)) + X (nn - fr) s from sl_s] at q
            refine z_iload_4 d_Mo_laysGivings_86 ?_
            refine z_if_eq (tgt := 104) d_Mo_laysGivings_88 (by decide) (fun h => absurd h (by rw [e1]; decide)) (fun _ => ?_)
            refine z_iload_5 d_Mo_laysGivings_91 ?_
            refine z_aload_0 d_Mo_laysGivings_93 ?_
            refine z_getR d_Mo_laysGivings_94 f_Mo_53 (by first | assumption | exact zS0_at (by assumption) (by omega) | exact zS0_at rfl (by omega)) (by first | assumption | exact zS0_at (by assumption) (by omega) | exact zS0_at rfl (by omega)) ?_
            refine z_iload_6 d_Mo_laysGivings_97 ?_
            first | refine z_ialdNv d_Mo_laysGivings_99 (by first | assumption | exact zS0_at (by assumption) (by omega) | exact zS0_at rfl (by omega)) (by omega) (by first | decide | omega) (by first | assumption | ((try simp (disch := omega) only [zu_same, zu_ne, zcp_ne, zfl_ne]); first | assumption | rfl)) ?_ | refine z_iald d_Mo_laysGivings_99 (by first | assumption | exact zS0_at (by assumption) (by omega) | exact zS0_at rfl (by omega)) (by first | assumption | exact zS0_at (by assumption) (by omega) | exact zS0_at rfl (by omega)) ?_
            first | refine z_iaddN d_Mo_laysGivings_100 ?_ | refine z_iadd d_Mo_laysGivings_100 ?_
            refine z_goto (tgt := 133) d_Mo_laysGivings_101 (by decide) ?_
            first | refine z_istore_5 d_Mo_laysGivings_133 rfl ?_ | (refine z_forget_4 ?_; refine z_istore_5 d_Mo_laysGivings_133 rfl ?_)
            first | refine z_iinc_6 d_Mo_laysGivings_135 rfl (zi_inc _) ?_ | refine z_iinc_6 d_Mo_laysGivings_135 rfl rfl ?_
            refine z_goto (tgt := 78) d_Mo_laysGivings_138 (by decide) ?_
            exact q
      refine z_iconst (a := nI 0) d_Mo_laysGivings_72 (by decide) ?_
      first | refine z_istore_5 d_Mo_laysGivings_73 rfl ?_ | (refine z_forget_4 ?_; refine z_istore_5 d_Mo_laysGivings_73 rfl ?_)
      refine z_iconst (a := nI 0) d_Mo_laysGivings_75 (by decide) ?_
      first | refine z_istore_6 d_Mo_laysGivings_76 rfl ?_ | (refine z_forget_5 ?_; refine z_istore_6 d_Mo_laysGivings_76 rfl ?_)
      exact lp 129 0 (by omega) (by omega)
    · have hX1 : ∀ s, X (nn - fr) s ≤ 1 := fun s => by rw [hX, e0]; exact gX_1 _ _
      have lp : ∀ m s, 128 - s < m → s ≤ 128 → zA G y_Mo_laysGivings prog_14_method_113_code 7 (some .int) (zRm 4 0 0) (zM G 0 0 (fun r w' => ∃ x, r = some (.int x) ∧ (fun r w => r = nI (if al = 1 then sl 128 (X (nn - fr)) else mxS (X (nn - fr)) 128) ∧ ∃ I', w = (I', J, P, S) ∧ xF 156 I I') x w')) 78 [some (.ref 145), some (.int a), some (.int (nI fr)), some (.int (nI us)), some (.int (nI al)), some (.int (nI (mxS (X (nn - fr)) s))), some (.int (nI s))] [] (I2, J, P, S) 0 0 := by
        intro m
        induction m with
        | zero => intro s h; exact absurd h (Nat.not_lt_zero _)
        | succ m ih =>
          intro s hm hs
          refine z_iload_6 d_Mo_laysGivings_78 ?_
          refine z_sipush (a := nI 128) d_Mo_laysGivings_80 (by decide) ?_
          refine z_icmp_ge (tgt := 141) d_Mo_laysGivings_83 (by decide) (fun hb => ?_) (fun hb => ?_)
          · have hb := (nI_leI (by omega) (by omega)).mp hb
            obtain rfl : s = 128 := by omega
            refine z_iload_5 d_Mo_laysGivings_141 ?_
            refine z_reti d_Mo_laysGivings_143 ?_
            exact ⟨by rw [if_neg (by omega)], I2, rfl, h1⟩
          · have hb : s < 128 := Nat.lt_of_not_le (fun q => hb (nI_le q (by omega)))
            have hv := h2 s hb
            have hx1 := hX1 s
            have hmb := mxS_bd (W := X (nn - fr)) s hs
            have hpb := pc_le s hb
            have q := ih (s + 1) (by omega) (by omega)
            rw [show mxS (X (nn - fr)) (s + 1) = if 0 < X (nn - fr) s then max (mxS (X (nn - fr)) s) (pcN s) else mxS (X (nn - fr)) s from rfl] at q
            refine z_iload_4 d_Mo_laysGivings_86 ?_
            refine z_if_eq (tgt := 104) d_Mo_laysGivings_88 (by decide) (fun _ => ?_) (fun h => absurd (by rw [e0]; decide) h)
            refine z_aload_0 d_Mo_laysGivings_104 ?_
            refine z_getR d_Mo_laysGivings_105 f_Mo_53 (by first | assumption | exact zS0_at (by assumption) (by omega) | exact zS0_at rfl (by omega)) (by first | assumption | exact zS0_at (by assumption) (by omega) | exact zS0_at rfl (by omega)) ?_
            refine z_iload_6 d_Mo_laysGivings_108 ?_
            first | refine z_ialdNv d_Mo_laysGivings_110 (by first | assumption | exact zS0_at (by assumption) (by omega) | exact zS0_at rfl (by omega)) (by omega) (by first | decide | omega) (by first | assumption | ((try simp (disch := omega) only [zu_same, zu_ne, zcp_ne, zfl_ne]); first | assumption | rfl)) ?_ | refine z_iald d_Mo_laysGivings_110 (by first | assumption | exact zS0_at (by assumption) (by omega) | exact zS0_at rfl (by omega)) (by first | assumption | exact zS0_at (by assumption) (by omega) | exact zS0_at rfl (by omega)) ?_
            refine z_if_le (tgt := 131) d_Mo_laysGivings_111 (by decide) (fun hc => ?_) (fun hc => ?_)
            · have hc : X (nn - fr) s ≤ 0 := by
                rw [← nI_0] at hc
                exact (nI_leI (by omega) (by omega)).mp hc
              rw [if_neg (show ¬ 0 < X (nn - fr) s by omega)] at q
              refine z_iload_5 d_Mo_laysGivings_131 ?_
              first | refine z_istore_5 d_Mo_laysGivings_133 rfl ?_ | (refine z_forget_4 ?_; refine z_istore_5 d_Mo_laysGivings_133 rfl ?_)
              first | refine z_iinc_6 d_Mo_laysGivings_135 rfl (zi_inc _) ?_ | refine z_iinc_6 d_Mo_laysGivings_135 rfl rfl ?_
              refine z_goto (tgt := 78) d_Mo_laysGivings_138 (by decide) ?_
              exact q
            · have hc : 0 < X (nn - fr) s := by
                rcases Nat.eq_zero_or_pos (X (nn - fr) s) with h | h
                · rw [h] at hc; exact absurd (by decide) hc
                · exact h
              rw [if_pos hc] at q
              refine z_iload_5 d_Mo_laysGivings_114 ?_
              refine z_iload_6 d_Mo_laysGivings_116 ?_
              refine z_iload_3 d_Mo_laysGivings_118 ?_
              refine z_iconst (a := -1) d_Mo_laysGivings_119 (by decide) ?_
              refine z_ixor d_Mo_laysGivings_120 ?_
              refine z_iand d_Mo_laysGivings_121 ?_
              rw [show nI s &&& (nI us ^^^ -1) = nI s by rw [eu]; exact inv0 s hb]
              refine z_Si1 d_Mo_laysGivings_122 k_Mo_396 (t_Mo_sizeOf) ⟨Nat.le_of_ble_eq_true rfl, Nat.le_of_ble_eq_true rfl, Nat.le_of_ble_eq_true rfl, Nat.le_of_ble_eq_true rfl⟩ (Nat.le_of_ble_eq_true rfl) ?_
              intro r w hq
              obtain ⟨rfl, rfl⟩ := hq
              rw [pc_cnt]
              refine z_max d_Mo_laysGivings_125 k_Mo_233.2.1 ⟨Nat.le_of_ble_eq_true rfl, Nat.le_of_ble_eq_true rfl, Nat.le_of_ble_eq_true rfl, Nat.le_of_ble_eq_true rfl⟩ (Nat.le_of_ble_eq_true rfl) ?_
              rw [z_maxN (by omega) (by omega)]
              refine z_goto (tgt := 133) d_Mo_laysGivings_128 (by decide) ?_
              first | refine z_istore_5 d_Mo_laysGivings_133 rfl ?_ | (refine z_forget_4 ?_; refine z_istore_5 d_Mo_laysGivings_133 rfl ?_)
              first | refine z_iinc_6 d_Mo_laysGivings_135 rfl (zi_inc _) ?_ | refine z_iinc_6 d_Mo_laysGivings_135 rfl rfl ?_
              refine z_goto (tgt := 78) d_Mo_laysGivings_138 (by decide) ?_
              exact q
      refine z_iconst (a := nI 0) d_Mo_laysGivings_72 (by decide) ?_
      first | refine z_istore_5 d_Mo_laysGivings_73 rfl ?_ | (refine z_forget_4 ?_; refine z_istore_5 d_Mo_laysGivings_73 rfl ?_)
      refine z_iconst (a := nI 0) d_Mo_laysGivings_75 (by decide) ?_
      first | refine z_istore_6 d_Mo_laysGivings_76 rfl ?_ | (refine z_forget_5 ?_; refine z_istore_6 d_Mo_laysGivings_76 rfl ?_)
      exact lp 129 0 (by omega) (by omega)
  have l2 : ∀ m t I2, nn - t < m → fr ≤ t → t ≤ nn → xF 156 I I2 → (∀ s, s < 128 → I2 156 s = nI (X (t - fr) s)) → zA G y_Mo_laysGivings prog_14_method_113_code 7 (some .int) (zRm 4 0 0) (zM G 0 0 (fun r w' => ∃ x, r = some (.int x) ∧ (fun r w => r = nI (if al = 1 then sl 128 (X (nn - fr)) else mxS (X (nn - fr)) 128) ∧ ∃ I', w = (I', J, P, S) ∧ xF 156 I I') x w')) 38 [some (.ref 145), some (.int a), some (.int (nI fr)), some (.int (nI us)), some (.int (nI al)), some (.int (nI t)), none] [] (I2, J, P, S) 0 0 := by
    intro m
    induction m with
    | zero => intro t I2 h; exact absurd h (Nat.not_lt_zero _)
    | succ m ih =>
      intro t I2 hm ht1 ht2 h1 h2
      have m3' : I2 150 3 = nI nn := by rw [h1 150 (by decide)]; exact m3
      refine z_iload_5 d_Mo_laysGivings_38 ?_
      refine z_aload_0 d_Mo_laysGivings_40 ?_
      refine z_getR d_Mo_laysGivings_41 f_Mo_35 (by first | assumption | exact zS0_at (by assumption) (by omega) | exact zS0_at rfl (by omega)) (by first | assumption | exact zS0_at (by assumption) (by omega) | exact zS0_at rfl (by omega)) ?_
      refine z_iconst (a := nI 3) d_Mo_laysGivings_44 (by decide) ?_
      first | refine z_ialdNv d_Mo_laysGivings_45 (by first | assumption | exact zS0_at (by assumption) (by omega) | exact zS0_at rfl (by omega)) (by omega) (by first | decide | omega) (by first | assumption | ((try simp (disch := omega) only [zu_same, zu_ne, zcp_ne, zfl_ne]); first | assumption | rfl)) ?_ | refine z_iald d_Mo_laysGivings_45 (by first | assumption | exact zS0_at (by assumption) (by omega) | exact zS0_at rfl (by omega)) (by first | assumption | exact zS0_at (by assumption) (by omega) | exact zS0_at rfl (by omega)) ?_
      refine z_icmp_ge (tgt := 72) d_Mo_laysGivings_46 (by decide) (fun hb => ?_) (fun hb => ?_)
      · have hb := (nI_leI (by omega) (by omega)).mp hb
        obtain rfl : t = nn := by omega
        exact l3 I2 h1 h2
      · have hb : t < nn := Nat.lt_of_not_le (fun q => hb (nI_le q (by omega)))
        have eX : ∀ s, X (t + 1 - fr) s = if zB a t then gN1 al (gTr (fun p => I 150 (12 + p)) kk np t) (X (t - fr)) s else X (t - fr) s := fun s => by
          rw [hX, show t + 1 - fr = t - fr + 1 by omega, gX, show fr + (t - fr) = t by omega]
        refine z_iload_1 d_Mo_laysGivings_49 ?_
        refine z_iload_5 d_Mo_laysGivings_50 ?_
        refine z_Si2 d_Mo_laysGivings_52 k_Mo_109 (t_Mo_has) ⟨Nat.le_of_ble_eq_true rfl, Nat.le_of_ble_eq_true rfl, Nat.le_of_ble_eq_true rfl, Nat.le_of_ble_eq_true rfl⟩ (Nat.le_of_ble_eq_true rfl) ?_
        intro r w hq
        rcases hq with ⟨⟨hz, rfl⟩ | ⟨hz, rfl⟩, rfl⟩
        · refine z_if_eq (tgt := 66) d_Mo_laysGivings_55 (by decide) (fun h => absurd h (by decide)) (fun _ => ?_)
          refine z_aload_0 d_Mo_laysGivings_58 ?_
          refine z_iload_5 d_Mo_laysGivings_59 ?_
          refine z_iload_4 d_Mo_laysGivings_61 ?_
          refine z_Vv2 d_Mo_laysGivings_63 k_Mo_392 (by first | assumption | exact zS0_at (by assumption) (by omega) | exact zS0_at rfl (by omega)) (t_Mo_laysTin (kk := kk) (W := X (t - fr)) M (modIn_c N (h1 150 (by decide))) hb (by rw [h1 150 (by decide)]; exact hK t hb) hal' h2 (fun h => by subst h; rw [hX]; exact gX_1 _)) ⟨Nat.le_of_ble_eq_true rfl, Nat.le_of_ble_eq_true rfl, Nat.le_of_ble_eq_true rfl, Nat.le_of_ble_eq_true rfl⟩ (Nat.le_of_ble_eq_true rfl) ?_
          rintro w ⟨I3, rfl, g1, g2⟩
          rw [h1 150 (by decide)] at g2
          first | refine z_iinc_5 d_Mo_laysGivings_66 rfl (zi_inc _) ?_ | refine z_iinc_5 d_Mo_laysGivings_66 rfl rfl ?_
          refine z_goto (tgt := 38) d_Mo_laysGivings_69 (by decide) ?_
          refine ih (t + 1) I3 (by omega) (by omega) (by omega) (fun q hq => (g1 q hq).trans (h1 q hq)) (fun s hs => ?_)
          rw [eX, if_pos hz]
          exact g2 s hs
        · refine z_if_eq (tgt := 66) d_Mo_laysGivings_55 (by decide) (fun _ => ?_) (fun h => absurd (by decide) h)
          first | refine z_iinc_5 d_Mo_laysGivings_66 rfl (zi_inc _) ?_ | refine z_iinc_5 d_Mo_laysGivings_66 rfl rfl ?_
          refine z_goto (tgt := 38) d_Mo_laysGivings_69 (by decide) ?_
          refine ih (t + 1) I2 (by omega) (by omega) (by omega) h1 (fun s hs => ?_)
          rw [eX, if_neg hz]
          exact h2 s hs
  have l1 : ∀ m j I2, 128 - j < m → j ≤ 128 → xF 156 I I2 → (∀ s, s < j → I2 156 s = nI (X 0 s)) → zA G y_Mo_laysGivings prog_14_method_113_code 7 (some .int) (zRm 4 0 0) (zM G 0 0 (fun r w' => ∃ x, r = some (.int x) ∧ (fun r w => r = nI (if al = 1 then sl 128 (X (nn - fr)) else mxS (X (nn - fr)) 128) ∧ ∃ I', w = (I', J, P, S) ∧ xF 156 I I') x w')) 3 [some (.ref 145), some (.int a), some (.int (nI fr)), some (.int (nI us)), some (.int (nI al)), some (.int (nI j)), none] [] (I2, J, P, S) 0 0 := by
    intro m
    induction m with
    | zero => intro j I2 h; exact absurd h (Nat.not_lt_zero _)
    | succ m ih =>
      intro j I2 hm hj h1 h2
      refine z_iload_5 d_Mo_laysGivings_3 ?_
      refine z_sipush (a := nI 128) d_Mo_laysGivings_5 (by decide) ?_
      refine z_icmp_ge (tgt := 35) d_Mo_laysGivings_8 (by decide) (fun hb => ?_) (fun hb => ?_)
      · have hb := (nI_leI (by omega) (by omega)).mp hb
        obtain rfl : j = 128 := by omega
        refine z_iload_2 d_Mo_laysGivings_35 ?_
        first | refine z_istore_5 d_Mo_laysGivings_36 rfl ?_ | (refine z_forget_4 ?_; refine z_istore_5 d_Mo_laysGivings_36 rfl ?_)
        refine l2 (nn + 1) fr I2 (by omega) (Nat.le_refl _) hfr h1 ?_
        rw [Nat.sub_self]
        exact h2
      · have hb : j < 128 := Nat.lt_of_not_le (fun q => hb (nI_le q (by omega)))
        have rest : ∀ x, x = nI (X 0 j) → zA G y_Mo_laysGivings prog_14_method_113_code 7 (some .int) (zRm 4 0 0) (zM G 0 0 (fun r w' => ∃ x, r = some (.int x) ∧ (fun r w => r = nI (if al = 1 then sl 128 (X (nn - fr)) else mxS (X (nn - fr)) 128) ∧ ∃ I', w = (I', J, P, S) ∧ xF 156 I I') x w')) 3 [some (.ref 145), some (.int a), some (.int (nI fr)), some (.int (nI us)), some (.int (nI al)), some (.int (nI (j + 1))), none] [] (zu I2 156 j x, J, P, S) 0 0 := by
          intro x hx
          refine ih (j + 1) _ (by omega) (by omega) (xF_u h1) (fun s hs => ?_)
          by_cases e : s = j
          · subst e; rw [zu_same]; exact hx
          · rw [zu_ne _ _ _ _ (by omega)]; exact h2 s (by omega)
        refine z_aload_0 d_Mo_laysGivings_11 ?_
        refine z_getR d_Mo_laysGivings_12 f_Mo_53 (by first | assumption | exact zS0_at (by assumption) (by omega) | exact zS0_at rfl (by omega)) (by first | assumption | exact zS0_at (by assumption) (by omega) | exact zS0_at rfl (by omega)) ?_
        refine z_iload_5 d_Mo_laysGivings_15 ?_
        refine z_iload_5 d_Mo_laysGivings_17 ?_
        refine z_iload_3 d_Mo_laysGivings_19 ?_
        refine z_icmp_ne (tgt := 27) d_Mo_laysGivings_20 (by decide) (fun hc => ?_) (fun hc => ?_)
        · have q := rest (nI 0) (by rw [hX, gX, if_neg (fun e => hc (by rw [e]))])
          refine z_iconst (a := nI 0) d_Mo_laysGivings_27 (by decide) ?_
          first | refine z_iastN d_Mo_laysGivings_28 (by first | assumption | exact zS0_at (by assumption) (by omega) | exact zS0_at rfl (by omega)) (by omega) (by first | decide | omega) ?_ | refine z_iast d_Mo_laysGivings_28 (by first | assumption | exact zS0_at (by assumption) (by omega) | exact zS0_at rfl (by omega)) (by first | assumption | exact zS0_at (by assumption) (by omega) | exact zS0_at rfl (by omega)) ?_
          first | refine z_iinc_5 d_Mo_laysGivings_29 rfl (zi_inc _) ?_ | refine z_iinc_5 d_Mo_laysGivings_29 rfl rfl ?_
          refine z_goto (tgt := 3) d_Mo_laysGivings_32 (by decide) ?_
          exact q
        · have hc := (nI_eq (by omega) (by omega)).mp hc
          have q := rest (nI 1) (by rw [hX, gX, if_pos hc])
          refine z_iconst (a := nI 1) d_Mo_laysGivings_23 (by decide) ?_
          refine z_goto (tgt := 28) d_Mo_laysGivings_24 (by decide) ?_
          first | refine z_iastN d_Mo_laysGivings_28 (by first | assumption | exact zS0_at (by assumption) (by omega) | exact zS0_at rfl (by omega)) (by omega) (by first | decide | omega) ?_ | refine z_iast d_Mo_laysGivings_28 (by first | assumption | exact zS0_at (by assumption) (by omega) | exact zS0_at rfl (by omega)) (by first | assumption | exact zS0_at (by assumption) (by omega) | exact zS0_at rfl (by omega)) ?_
          first | refine z_iinc_5 d_Mo_laysGivings_29 rfl (zi_inc _) ?_ | refine z_iinc_5 d_Mo_laysGivings_29 rfl rfl ?_
          refine z_goto (tgt := 3) d_Mo_laysGivings_32 (by decide) ?_
          exact q
  refine z_iconst (a := nI 0) d_Mo_laysGivings_0 (by decide) ?_
  first | refine z_istore_5 d_Mo_laysGivings_1 rfl ?_ | (refine z_forget_4 ?_; refine z_istore_5 d_Mo_laysGivings_1 rfl ?_)
  exact l1 129 0 I (by omega) (by omega) xF_r (fun s hs => absurd hs (Nat.not_lt_zero _))
/-- the answers -/
theorem t_Mo_lays1 (M : modOk P S) (N : modIn I nt np nl nn) (hK : ∀ t, t < nn → I 150 (33 + t) = nI (kk t)) (hfr : fr ≤ nn) (hus : us < 128) : zEi G y_Mo_laysGivings prog_14_method_113_code 7 (some .int) 4 [.ref 145, .int a, .int (nI fr), .int (nI us), .int (nI 1)] (I, J, P, S) (fun r w => r = nI (gW (gTr (fun p => I 150 (12 + p)) kk np) (zB a) nn (nn - fr) us) ∧ ∃ I', w = (I', J, P, S) ∧ xF 156 I I') := by
  refine zEi_mono (t_Mo_laysGivings (al := 1) (kk := kk) M N hK (Or.inl rfl) hfr hus) ?_
  rintro r w ⟨rfl, h⟩
  refine ⟨?_, h⟩
  rw [if_pos rfl, ← g_all hfr hus, show gX (gTr (fun p => I 150 (12 + p)) kk np) (zB a) 1 fr us (nn - fr) = gR (gTr (fun p => I 150 (12 + p)) kk np) (zB a) fr us (nn - fr) from funext (gX_R _)]
theorem t_Mo_lays0 (M : modOk P S) (N : modIn I nt np nl nn) (hK : ∀ t, t < nn → I 150 (33 + t) = nI (kk t)) : zEi G y_Mo_laysGivings prog_14_method_113_code 7 (some .int) 4 [.ref 145, .int a, .int (nI 0), .int (nI 0), .int (nI 0)] (I, J, P, S) (fun r w => r = nI (gB (gTr (fun p => I 150 (12 + p)) kk np) (zB a) nn nn 0) ∧ ∃ I', w = (I', J, P, S) ∧ xF 156 I I') := by
  refine zEi_mono (t_Mo_laysGivings (al := 0) (us := 0) (fr := 0) (kk := kk) M N hK (Or.inr ⟨rfl, rfl⟩) (Nat.zero_le _) (by decide)) ?_
  rintro r w ⟨rfl, h⟩
  refine ⟨?_, h⟩
  rw [if_neg (by decide), Nat.sub_zero]
  congr 1
  refine gB_all _ (fun k => ?_)
  rw [mxS_le]
  constructor
  · rintro (h | ⟨s, s1, s2, s3⟩)
    · exact Or.inl h
    · exact Or.inr ⟨s, s1, (gX_Q _ _).mp s2, s3⟩
  · rintro (h | ⟨s, s1, s2, s3⟩)
    · exact Or.inl h
    · exact Or.inr ⟨s, s1, (gX_Q _ _).mpr s2, s3⟩
end LG0
