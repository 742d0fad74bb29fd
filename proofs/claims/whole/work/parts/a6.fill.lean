/-! the class's givings -/
section FI0
variable {G : zG} {I I' I1 I2 I3 : Nat → Nat → Int32} {J J' J2 : Nat → Nat → Int64} {P : Nat → Nat → Option Nat} {S : List (Nat × Nat)} {f d nt np nl nn n fed mk t k p q s al r : Nat} {a c x : Int32} {w : zW} {kk : Nat → Nat}
theorem zi_dec (n : Nat) : nI n + Int32.ofInt (-1) = nI n - nI 1 := by
  rw [Int32.sub_eq_add_neg]; rfl
theorem nI_dec (n : Nat) : nI (n + 1) - nI 1 = nI n := by
  rw [← nI_add, Int32.add_sub_cancel]
/-- who may take which TIN -/
def gTr (A : Nat → Int32) (kk : Nat → Nat) (np : Nat) : Nat → Nat → Bool := fun t p => zB (s_set (fun p => zB (A p) (kk t)) np) p
def gV (tr : Nat → Nat → Bool) (inS : Nat → Bool) (nn al r s : Nat) : Nat := if al = 1 then gW tr inS nn r s else gB tr inS nn r s
theorem gTr_lt {A : Nat → Int32} (hn : np ≤ 7) {i : Nat} (hi : i < 32) (h : gTr A kk np t i = true) : i < np := set_lt hn i hi h
theorem sum_V {X : Nat → Int32} {b b' : Nat → Bool} {T : Nat → Nat} (hb : ∀ i, i < 7 → b' i = (b i && !s.testBit i)) (hX : ∀ i, i < 7 → b' i = true → X i = nI (T (s ||| 2 ^ i))) : s_sum b' X 7 = nI (gT1 b T s) := by
  have : ∀ m, m ≤ 7 → s_sum b' X m = nI (sl m (fun p => if b p && !s.testBit p then T (s ||| 2 ^ p) else 0)) := by
    intro m
    induction m with
    | zero => intro _; rfl
    | succ m ih =>
      intro hm
      rw [s_sum, sl_s, ih (by omega), ← hb m (by omega)]
      by_cases h : b' m = true
      · rw [if_pos h, if_pos h, hX m (by omega) h, nI_add]
      · rw [if_neg h, if_neg h, Nat.add_zero]
  exact this 7 (Nat.le_refl _)
theorem bst_V {X : Nat → Int32} {x0 : Int32} {b b' : Nat → Bool} {T : Nat → Nat} {v0 : Nat} (hb : ∀ i, i < 7 → b' i = b i) (h0 : x0 = nI v0) (hv : v0 ≤ 9) (hT : ∀ i, T i ≤ 9) (hX : ∀ i, i < 7 → b' i = true → X i = nI (T i)) : s_bst b' X x0 7 = nI (gM b T v0 7) := by
  have : ∀ m, m ≤ 7 → s_bst b' X x0 m = nI (gM b T v0 m) := by
    intro m
    induction m with
    | zero => intro _; exact h0
    | succ m ih =>
      intro hm
      rw [s_bst, gM, ih (by omega), ← hb m (by omega)]
      by_cases h : b' m = true
      · rw [if_pos h, if_pos h, hX m (by omega) h, nI_add]
        have g1 := gM_bd (b := b) (v := T) (n := m) hv hT
        have g2 := hT m
        by_cases hl : gM b T v0 m < 1 + T m
        · rw [if_pos (nI_lt hl (by omega))]; congr 1; omega
        · rw [if_neg (fun q => hl ((nI_ltI (by omega) (by omega)).mp q))]; congr 1; omega
      · rw [if_neg h, if_neg h]
  exact this 7 (Nat.le_refl _)
def tbF (I I' : Nat → Nat → Int32) : Prop := ∀ q, ¬ (129 ≤ q ∧ q ≤ 138) → I' q = I q
theorem t_Giv_fill (Z : clOk f d P S) (N : fenIn I f nt np nl nn) (hK : ∀ t, t < nn → I (f + 5) t = nI (kk t)) (hal : al = 1 ∨ al = 0) : zEv G y_Giv_fill prog_5_method_6_code 9 3 0 0 [.ref 127, .ref f, .int a, .int (nI al)] (I, J, P, S) (fun w => ∃ I', w = (I', J, P, S) ∧ tbF I I' ∧ ∀ t, t ≤ nn → ∀ s, s < 2 ^ np → I' (129 + t) s = nI (gV (gTr (I (f + 2)) kk np) (zB a) nn al (nn - t) s)) := by
  have hf := clOk_f Z
  obtain ⟨⟨c0, c3, c1s⟩, ⟨c5, c2s, ctr⟩, ⟨c6, c11s, c11, c13s⟩, ⟨c7, c15s, c15⟩, ⟨c8, c16s, c16a, c16b, c17s⟩, ⟨c9, c10, cfd, F, Fd⟩, ⟨c11b, Ft⟩, ⟨c12, c69s, cmk⟩, ⟨c14, c121s, c121, c122s⟩, ⟨c15b, c123s, c123, c124s⟩, ⟨c16, c125s, c125, c126s⟩, ⟨c17, c127s, c127, c128s, ctb⟩, ⟨c18, c139s, c139, c140s⟩, ⟨c19, c141s, ⟨c141a, c142s⟩, ⟨c141b, c143s⟩, ⟨c141c, c144s⟩⟩, M⟩ := id Z
  obtain ⟨F0, ⟨F8, F8s⟩, ⟨F9, F9s⟩, ⟨F10, F10s⟩, ⟨F11, F11s⟩, ⟨F12, F12s⟩, ⟨F13, F13s⟩, ⟨F14, F14s⟩, ⟨F15, F15s⟩, ⟨F16, F16s⟩, ⟨F17, F17s⟩, ⟨F18, F18s⟩, ⟨F19, F19s⟩, ⟨Y3, Y3s⟩, ⟨Y4, Y4s⟩, ⟨Y5, Y5s⟩, ⟨Y6, Y6s⟩⟩ := id F
  obtain ⟨⟨n1, n1b⟩, ⟨n2, n2b⟩, ⟨n3, n3b⟩, ⟨n4, n4b⟩, nof, non⟩ := id N
  have h128 : 2 ^ np ≤ 128 := Nat.pow_le_pow_right (n := 2) (by decide) n2b
  have h0p : 0 < 2 ^ np := Nat.pow_pos (by decide)
  have pn := (ctb nn (by omega)).1
  have sn := (ctb nn (by omega)).2
  refine zEv_of (lv := [some (.ref 127), some (.ref f), some (.int a), some (.int (nI al)), none, none, none, none, none]) (by decide) rfl (Nat.le_of_ble_eq_true rfl) ?_
  have fN : ∀ {I2}, tbF I I2 → fenIn I2 f nt np nl nn := fun {I2} h => by
    unfold fenIn
    rw [h f (by omega), h (f + 5) (by omega), h (f + 6) (by omega)]
    exact N
  have fr : ∀ {I2 : Nat → Nat → Int32} {q i : Nat} {x : Int32}, tbF I I2 → 129 ≤ q ∧ q ≤ 138 → tbF I (zu I2 q i x) := fun h hq q' hq' => (zu_row _ _ _ _ (by omega)).trans (h q' hq')
  have inn : ∀ (j e6 : Nat) (x7 : Int32), j < nn → ((zB a j = false ∧ e6 = 0) ∨ (zB a j = true ∧ e6 = 1 ∧ x7 = s_set (fun p => zB (I (f + 2) p) (kk j)) np)) → (∀ I2, tbF I I2 → (∀ t, j ≤ t → t ≤ nn → ∀ s, s < 2 ^ np → I2 (129 + t) s = nI (gV (gTr (I (f + 2)) kk np) (zB a) nn al (nn - t) s)) → zA G y_Giv_fill prog_5_method_6_code 9 none (zRm 3 0 0) (zM G 0 0 (fun r w' => r = none ∧ (fun w => ∃ I', w = (I', J, P, S) ∧ tbF I I' ∧ ∀ t, t ≤ nn → ∀ s, s < 2 ^ np → I' (129 + t) s = nI (gV (gTr (I (f + 2)) kk np) (zB a) nn al (nn - t) s)) w')) 37 [some (.ref 127), some (.ref f), some (.int a), some (.int (nI al)), some (.int (nI (2 ^ np))), some (.int (nI j - nI 1)), none, none, none] [] (I2, J, P, S) 0 0) → ∀ m s I2, 2 ^ np - s < m → s ≤ 2 ^ np → tbF I I2 → (∀ t, j + 1 ≤ t → t ≤ nn → ∀ s, s < 2 ^ np → I2 (129 + t) s = nI (gV (gTr (I (f + 2)) kk np) (zB a) nn al (nn - t) s)) → (∀ x, x < s → I2 (129 + j) x = nI (gV (gTr (I (f + 2)) kk np) (zB a) nn al (nn - j) x)) → zA G y_Giv_fill prog_5_method_6_code 9 none (zRm 3 0 0) (zM G 0 0 (fun r w' => r = none ∧ (fun w => ∃ I', w = (I', J, P, S) ∧ tbF I I' ∧ ∀ t, t ≤ nn → ∀ s, s < 2 ^ np → I' (129 + t) s = nI (gV (gTr (I (f + 2)) kk np) (zB a) nn al (nn - t) s)) w')) 78 [some (.ref 127), some (.ref f), some (.int a), some (.int (nI al)), some (.int (nI (2 ^ np))), some (.int (nI j)), some (.int (nI e6)), some (.int x7), some (.int (nI s))] [] (I2, J, P, S) 0 0 := by
    intro j e6 x7 hj h67 K m
    have pj := (ctb j (by omega)).1
    have sj := (ctb j (by omega)).2
    have pj1 := (ctb (j + 1) (by omega)).1
    have sj1 := (ctb (j + 1) (by omega)).2
    induction m with
    | zero => intro s I2 h; exact absurd h (Nat.not_lt_zero _)
    | succ m ih =>
      intro s I2 hm hs h1 h2 h3
      refine z_iload_8 d_Giv_fill_78 ?_
      refine z_iload_4 d_Giv_fill_80 ?_
      refine z_icmp_ge (tgt := 190) d_Giv_fill_82 (by decide) (fun hb => ?_) (fun hb => ?_)
      · have hb := (nI_leI (by omega) (by omega)).mp hb
        obtain rfl : s = 2 ^ np := by omega
        refine z_iinc_5 d_Giv_fill_190 rfl rfl ?_
        refine z_goto (tgt := 37) d_Giv_fill_193 (by decide) ?_
        rw [zi_dec]
        refine z_forget_6 ?_
        refine z_forget_7 ?_
        refine z_forget_8 ?_
        refine K I2 h1 (fun t t1 t2 => ?_)
        by_cases e : t = j
        · subst e; exact h3
        · exact h2 t (by omega) t2
      · have hb : s < 2 ^ np := Nat.lt_of_not_le (fun q => hb (nI_le q (by omega)))
        have rest : ∀ x, x = nI (gV (gTr (I (f + 2)) kk np) (zB a) nn al (nn - j) s) → zA G y_Giv_fill prog_5_method_6_code 9 none (zRm 3 0 0) (zM G 0 0 (fun r w' => r = none ∧ (fun w => ∃ I', w = (I', J, P, S) ∧ tbF I I' ∧ ∀ t, t ≤ nn → ∀ s, s < 2 ^ np → I' (129 + t) s = nI (gV (gTr (I (f + 2)) kk np) (zB a) nn al (nn - t) s)) w')) 184 [some (.ref 127), some (.ref f), some (.int a), some (.int (nI al)), some (.int (nI (2 ^ np))), some (.int (nI j)), some (.int (nI e6)), some (.int x7), some (.int (nI s))] [] (zu I2 (129 + j) s x, J, P, S) 0 0 := by
          intro x hx
          first | refine z_iinc_8 d_Giv_fill_184 rfl (zi_inc _) ?_ | refine z_iinc_8 d_Giv_fill_184 rfl rfl ?_
          refine z_goto (tgt := 78) d_Giv_fill_187 (by decide) ?_
          refine ih (s + 1) _ (by omega) (by omega) (fr h1 (by omega)) (fun t t1 t2 y hy => ?_) (fun y hy => ?_)
          · rw [zu_row _ _ _ _ (by omega)]; exact h2 t t1 t2 y hy
          · by_cases e : y = s
            · subst e; rw [zu_same]; exact hx
            · rw [zu_ne _ _ _ _ (by omega)]; exact h3 y (by omega)
        have hr : nn - j = nn - (j + 1) + 1 := by omega
        have ej : nn - (nn - (j + 1) + 1) = j := by omega
        rcases h67 with ⟨ha, rfl⟩ | ⟨ha, rfl, rfl⟩
        · have hv := h2 (j + 1) (by omega) (by omega) s hb
          have q := rest (nI (gV (gTr (I (f + 2)) kk np) (zB a) nn al (nn - (j + 1)) s)) (by
            rw [hr]
            unfold gV
            rw [gW, gB, ej, ha]
            rfl)
          refine z_iload_6 d_Giv_fill_85 ?_
          refine z_if_ne (tgt := 115) d_Giv_fill_87 (by decide) (fun h => absurd (by decide) h) (fun _ => ?_)
          refine z_aload_0 d_Giv_fill_90 ?_
          refine z_getR d_Giv_fill_91 f_Giv_13 (by first | assumption | exact zS0_at (by assumption) (by omega) | exact zS0_at rfl (by omega)) (by first | assumption | exact zS0_at (by assumption) (by omega) | exact zS0_at rfl (by omega)) ?_
          refine z_iload_5 d_Giv_fill_94 ?_
          first | refine z_ald4N d_Giv_fill_96 (by first | assumption | exact zS0_at (by assumption) (by omega) | exact zS0_at rfl (by omega)) (by omega) (by first | decide | omega) (by first | assumption | exact zS0_at (by assumption) (by omega) | exact zS0_at rfl (by omega)) ?_ | refine z_ald5N d_Giv_fill_96 (by first | assumption | exact zS0_at (by assumption) (by omega) | exact zS0_at rfl (by omega)) (by omega) (by first | decide | omega) (by first | assumption | exact zS0_at (by assumption) (by omega) | exact zS0_at rfl (by omega)) ?_ | refine z_ald6N d_Giv_fill_96 (by first | assumption | exact zS0_at (by assumption) (by omega) | exact zS0_at rfl (by omega)) (by omega) (by first | decide | omega) (by first | assumption | exact zS0_at (by assumption) (by omega) | exact zS0_at rfl (by omega)) ?_
          refine z_iload_8 d_Giv_fill_97 ?_
          refine z_aload_0 d_Giv_fill_99 ?_
          refine z_getR d_Giv_fill_100 f_Giv_13 (by first | assumption | exact zS0_at (by assumption) (by omega) | exact zS0_at rfl (by omega)) (by first | assumption | exact zS0_at (by assumption) (by omega) | exact zS0_at rfl (by omega)) ?_
          refine z_iload_5 d_Giv_fill_103 ?_
          refine z_iconst (a := nI 1) d_Giv_fill_105 (by decide) ?_
          first | refine z_iaddN d_Giv_fill_106 ?_ | refine z_iadd d_Giv_fill_106 ?_
          first | refine z_ald4N d_Giv_fill_107 (by first | assumption | exact zS0_at (by assumption) (by omega) | exact zS0_at rfl (by omega)) (by omega) (by first | decide | omega) (by first | assumption | exact zS0_at (by assumption) (by omega) | exact zS0_at rfl (by omega)) ?_ | refine z_ald5N d_Giv_fill_107 (by first | assumption | exact zS0_at (by assumption) (by omega) | exact zS0_at rfl (by omega)) (by omega) (by first | decide | omega) (by first | assumption | exact zS0_at (by assumption) (by omega) | exact zS0_at rfl (by omega)) ?_ | refine z_ald6N d_Giv_fill_107 (by first | assumption | exact zS0_at (by assumption) (by omega) | exact zS0_at rfl (by omega)) (by omega) (by first | decide | omega) (by first | assumption | exact zS0_at (by assumption) (by omega) | exact zS0_at rfl (by omega)) ?_
          refine z_iload_8 d_Giv_fill_108 ?_
          first | refine z_ialdNv d_Giv_fill_110 (by first | assumption | exact zS0_at (by assumption) (by omega) | exact zS0_at rfl (by omega)) (by omega) (by first | decide | omega) (by first | assumption | ((try simp (disch := omega) only [zu_same, zu_ne, zcp_ne, zfl_ne]); first | assumption | rfl)) ?_ | refine z_iald d_Giv_fill_110 (by first | assumption | exact zS0_at (by assumption) (by omega) | exact zS0_at rfl (by omega)) (by first | assumption | exact zS0_at (by assumption) (by omega) | exact zS0_at rfl (by omega)) ?_
          first | refine z_iastN d_Giv_fill_111 (by first | assumption | exact zS0_at (by assumption) (by omega) | exact zS0_at rfl (by omega)) (by omega) (by first | decide | omega) ?_ | refine z_iast d_Giv_fill_111 (by first | assumption | exact zS0_at (by assumption) (by omega) | exact zS0_at rfl (by omega)) (by first | assumption | exact zS0_at (by assumption) (by omega) | exact zS0_at rfl (by omega)) ?_
          refine z_goto (tgt := 184) d_Giv_fill_112 (by decide) ?_
          exact q
        · have hbit : ∀ i, i < 7 → zB (s_set (fun p => zB (I (f + 2) p) (kk j)) np &&& (nI s ^^^ -1)) i = (gTr (I (f + 2)) kk np j i && !s.testBit i) := fun i hi => by
            rw [zB_and (by omega), zB_not (by omega), zB_nI (by omega)]
            rfl
          have hor : ∀ i, i < 7 → zB (s_set (fun p => zB (I (f + 2) p) (kk j)) np &&& (nI s ^^^ -1)) i = true → s ||| 2 ^ i < 2 ^ np := fun i hi h => by
            rw [hbit i hi, Bool.and_eq_true] at h
            exact Nat.or_lt_two_pow hb (Nat.pow_lt_pow_right (by decide) (gTr_lt n2b (by omega) h.1))
          rcases hal with rfl | rfl
          · refine z_iload_6 d_Giv_fill_85 ?_
            refine z_if_ne (tgt := 115) d_Giv_fill_87 (by decide) (fun _ => ?_) (fun h => absurd h (by decide))
            refine z_iload_3 d_Giv_fill_115 ?_
            refine z_if_eq (tgt := 153) d_Giv_fill_116 (by decide) (fun h => absurd h (by decide)) (fun _ => ?_)
            refine z_aload_0 d_Giv_fill_119 ?_
            refine z_getR d_Giv_fill_120 f_Giv_13 (by first | assumption | exact zS0_at (by assumption) (by omega) | exact zS0_at rfl (by omega)) (by first | assumption | exact zS0_at (by assumption) (by omega) | exact zS0_at rfl (by omega)) ?_
            refine z_iload_5 d_Giv_fill_123 ?_
            first | refine z_ald4N d_Giv_fill_125 (by first | assumption | exact zS0_at (by assumption) (by omega) | exact zS0_at rfl (by omega)) (by omega) (by first | decide | omega) (by first | assumption | exact zS0_at (by assumption) (by omega) | exact zS0_at rfl (by omega)) ?_ | refine z_ald5N d_Giv_fill_125 (by first | assumption | exact zS0_at (by assumption) (by omega) | exact zS0_at rfl (by omega)) (by omega) (by first | decide | omega) (by first | assumption | exact zS0_at (by assumption) (by omega) | exact zS0_at rfl (by omega)) ?_ | refine z_ald6N d_Giv_fill_125 (by first | assumption | exact zS0_at (by assumption) (by omega) | exact zS0_at rfl (by omega)) (by omega) (by first | decide | omega) (by first | assumption | exact zS0_at (by assumption) (by omega) | exact zS0_at rfl (by omega)) ?_
            refine z_iload_8 d_Giv_fill_126 ?_
            refine z_aload_0 d_Giv_fill_128 ?_
            refine z_getR d_Giv_fill_129 f_Giv_13 (by first | assumption | exact zS0_at (by assumption) (by omega) | exact zS0_at rfl (by omega)) (by first | assumption | exact zS0_at (by assumption) (by omega) | exact zS0_at rfl (by omega)) ?_
            refine z_iload_5 d_Giv_fill_132 ?_
            refine z_iconst (a := nI 1) d_Giv_fill_134 (by decide) ?_
            first | refine z_iaddN d_Giv_fill_135 ?_ | refine z_iadd d_Giv_fill_135 ?_
            first | refine z_ald4N d_Giv_fill_136 (by first | assumption | exact zS0_at (by assumption) (by omega) | exact zS0_at rfl (by omega)) (by omega) (by first | decide | omega) (by first | assumption | exact zS0_at (by assumption) (by omega) | exact zS0_at rfl (by omega)) ?_ | refine z_ald5N d_Giv_fill_136 (by first | assumption | exact zS0_at (by assumption) (by omega) | exact zS0_at rfl (by omega)) (by omega) (by first | decide | omega) (by first | assumption | exact zS0_at (by assumption) (by omega) | exact zS0_at rfl (by omega)) ?_ | refine z_ald6N d_Giv_fill_136 (by first | assumption | exact zS0_at (by assumption) (by omega) | exact zS0_at rfl (by omega)) (by omega) (by first | decide | omega) (by first | assumption | exact zS0_at (by assumption) (by omega) | exact zS0_at rfl (by omega)) ?_
            refine z_iload_8 d_Giv_fill_137 ?_
            refine z_iload_7 d_Giv_fill_139 ?_
            refine z_iload_8 d_Giv_fill_141 ?_
            refine z_iconst (a := -1) d_Giv_fill_143 (by decide) ?_
            refine z_ixor d_Giv_fill_144 ?_
            refine z_iand d_Giv_fill_145 ?_
            refine z_Si3 d_Giv_fill_146 k_Giv_42 (t_Giv_sumOver sj1 (by omega)) ⟨Nat.le_of_ble_eq_true rfl, Nat.le_of_ble_eq_true rfl, Nat.le_of_ble_eq_true rfl, Nat.le_of_ble_eq_true rfl⟩ (Nat.le_of_ble_eq_true rfl) ?_
            intro r w hq
            obtain ⟨rfl, rfl⟩ := hq
            first | refine z_iastN d_Giv_fill_149 (by first | assumption | exact zS0_at (by assumption) (by omega) | exact zS0_at rfl (by omega)) (by omega) (by first | decide | omega) ?_ | refine z_iast d_Giv_fill_149 (by first | assumption | exact zS0_at (by assumption) (by omega) | exact zS0_at rfl (by omega)) (by first | assumption | exact zS0_at (by assumption) (by omega) | exact zS0_at rfl (by omega)) ?_
            refine z_goto (tgt := 184) d_Giv_fill_150 (by decide) ?_
            refine rest _ ?_
            rw [hr]
            unfold gV
            rw [if_pos rfl, gW, ej, if_pos ha]
            refine sum_V hbit (fun i hi h => ?_)
            have := h2 (j + 1) (by omega) (by omega) (s ||| 2 ^ i) (hor i hi h)
            unfold gV at this
            rw [if_pos rfl] at this
            exact this
          · refine z_iload_6 d_Giv_fill_85 ?_
            refine z_if_ne (tgt := 115) d_Giv_fill_87 (by decide) (fun _ => ?_) (fun h => absurd h (by decide))
            refine z_iload_3 d_Giv_fill_115 ?_
            refine z_if_eq (tgt := 153) d_Giv_fill_116 (by decide) (fun _ => ?_) (fun h => absurd (by decide) h)
            refine z_aload_0 d_Giv_fill_153 ?_
            refine z_getR d_Giv_fill_154 f_Giv_13 (by first | assumption | exact zS0_at (by assumption) (by omega) | exact zS0_at rfl (by omega)) (by first | assumption | exact zS0_at (by assumption) (by omega) | exact zS0_at rfl (by omega)) ?_
            refine z_iload_5 d_Giv_fill_157 ?_
            first | refine z_ald4N d_Giv_fill_159 (by first | assumption | exact zS0_at (by assumption) (by omega) | exact zS0_at rfl (by omega)) (by omega) (by first | decide | omega) (by first | assumption | exact zS0_at (by assumption) (by omega) | exact zS0_at rfl (by omega)) ?_ | refine z_ald5N d_Giv_fill_159 (by first | assumption | exact zS0_at (by assumption) (by omega) | exact zS0_at rfl (by omega)) (by omega) (by first | decide | omega) (by first | assumption | exact zS0_at (by assumption) (by omega) | exact zS0_at rfl (by omega)) ?_ | refine z_ald6N d_Giv_fill_159 (by first | assumption | exact zS0_at (by assumption) (by omega) | exact zS0_at rfl (by omega)) (by omega) (by first | decide | omega) (by first | assumption | exact zS0_at (by assumption) (by omega) | exact zS0_at rfl (by omega)) ?_
            refine z_iload_8 d_Giv_fill_160 ?_
            refine z_aload_0 d_Giv_fill_162 ?_
            refine z_getR d_Giv_fill_163 f_Giv_13 (by first | assumption | exact zS0_at (by assumption) (by omega) | exact zS0_at rfl (by omega)) (by first | assumption | exact zS0_at (by assumption) (by omega) | exact zS0_at rfl (by omega)) ?_
            refine z_iload_5 d_Giv_fill_166 ?_
            refine z_iconst (a := nI 1) d_Giv_fill_168 (by decide) ?_
            first | refine z_iaddN d_Giv_fill_169 ?_ | refine z_iadd d_Giv_fill_169 ?_
            first | refine z_ald4N d_Giv_fill_170 (by first | assumption | exact zS0_at (by assumption) (by omega) | exact zS0_at rfl (by omega)) (by omega) (by first | decide | omega) (by first | assumption | exact zS0_at (by assumption) (by omega) | exact zS0_at rfl (by omega)) ?_ | refine z_ald5N d_Giv_fill_170 (by first | assumption | exact zS0_at (by assumption) (by omega) | exact zS0_at rfl (by omega)) (by omega) (by first | decide | omega) (by first | assumption | exact zS0_at (by assumption) (by omega) | exact zS0_at rfl (by omega)) ?_ | refine z_ald6N d_Giv_fill_170 (by first | assumption | exact zS0_at (by assumption) (by omega) | exact zS0_at rfl (by omega)) (by omega) (by first | decide | omega) (by first | assumption | exact zS0_at (by assumption) (by omega) | exact zS0_at rfl (by omega)) ?_
            refine z_iload_8 d_Giv_fill_171 ?_
            refine z_iload_7 d_Giv_fill_173 ?_
            refine z_iload_8 d_Giv_fill_175 ?_
            refine z_iconst (a := -1) d_Giv_fill_177 (by decide) ?_
            refine z_ixor d_Giv_fill_178 ?_
            refine z_iand d_Giv_fill_179 ?_
            refine z_Si3 d_Giv_fill_180 k_Giv_46 (t_Giv_bestOver sj1 (by omega)) ⟨Nat.le_of_ble_eq_true rfl, Nat.le_of_ble_eq_true rfl, Nat.le_of_ble_eq_true rfl, Nat.le_of_ble_eq_true rfl⟩ (Nat.le_of_ble_eq_true rfl) ?_
            intro r w hq
            obtain ⟨rfl, rfl⟩ := hq
            first | refine z_iastN d_Giv_fill_183 (by first | assumption | exact zS0_at (by assumption) (by omega) | exact zS0_at rfl (by omega)) (by omega) (by first | decide | omega) ?_ | refine z_iast d_Giv_fill_183 (by first | assumption | exact zS0_at (by assumption) (by omega) | exact zS0_at rfl (by omega)) (by first | assumption | exact zS0_at (by assumption) (by omega) | exact zS0_at rfl (by omega)) ?_
            refine rest _ ?_
            have gv0 : ∀ r x, gV (gTr (I (f + 2)) kk np) (zB a) nn 0 r x = gB (gTr (I (f + 2)) kk np) (zB a) nn r x := fun r x => if_neg (by decide)
            rw [hr, gv0, gB, ej, if_pos ha]
            refine bst_V (T := fun p => gB (gTr (I (f + 2)) kk np) (zB a) nn (nn - (j + 1)) (s ||| 2 ^ p)) hbit ?_ (Nat.le_trans (gB_le _ _) (by omega)) (fun i => Nat.le_trans (gB_le _ _) (by omega)) (fun i hi h => ?_)
            · have := h2 (j + 1) (by omega) (by omega) s hb
              rw [gv0] at this
              exact this
            · have := h2 (j + 1) (by omega) (by omega) (s ||| 2 ^ i) (hor i hi h)
              rw [gv0] at this
              exact this
  have out : ∀ j I2, j ≤ nn → tbF I I2 → (∀ t, j ≤ t → t ≤ nn → ∀ s, s < 2 ^ np → I2 (129 + t) s = nI (gV (gTr (I (f + 2)) kk np) (zB a) nn al (nn - t) s)) → zA G y_Giv_fill prog_5_method_6_code 9 none (zRm 3 0 0) (zM G 0 0 (fun r w' => r = none ∧ (fun w => ∃ I', w = (I', J, P, S) ∧ tbF I I' ∧ ∀ t, t ≤ nn → ∀ s, s < 2 ^ np → I' (129 + t) s = nI (gV (gTr (I (f + 2)) kk np) (zB a) nn al (nn - t) s)) w')) 37 [some (.ref 127), some (.ref f), some (.int a), some (.int (nI al)), some (.int (nI (2 ^ np))), some (.int (nI j - nI 1)), none, none, none] [] (I2, J, P, S) 0 0 := by
    intro j
    induction j with
    | zero =>
      intro I2 _ h1 h2
      refine z_iload_5 d_Giv_fill_37 ?_
      refine z_if_lt (tgt := 196) d_Giv_fill_39 (by decide) (fun _ => ?_) (fun h => absurd (by decide) h)
      refine z_retv d_Giv_fill_196 ?_
      exact ⟨I2, rfl, h1, fun t ht => h2 t (Nat.zero_le _) ht⟩
    | succ j ihj =>
      intro I2 hj h1 h2
      rw [nI_dec]
      refine z_iload_5 d_Giv_fill_37 ?_
      refine z_if_lt (tgt := 196) d_Giv_fill_39 (by decide) (fun h => absurd h (nI_pos (by omega))) (fun _ => ?_)
      refine z_iload_2 d_Giv_fill_42 ?_
      refine z_iload_5 d_Giv_fill_43 ?_
      refine z_ishr d_Giv_fill_45 ?_
      refine z_iconst (a := nI 1) d_Giv_fill_46 (by decide) ?_
      refine z_iand d_Giv_fill_47 ?_
      have Kj : ∀ I2, tbF I I2 → (∀ t, j ≤ t → t ≤ nn → ∀ s, s < 2 ^ np → I2 (129 + t) s = nI (gV (gTr (I (f + 2)) kk np) (zB a) nn al (nn - t) s)) → zA G y_Giv_fill prog_5_method_6_code 9 none (zRm 3 0 0) (zM G 0 0 (fun r w' => r = none ∧ (fun w => ∃ I', w = (I', J, P, S) ∧ tbF I I' ∧ ∀ t, t ≤ nn → ∀ s, s < 2 ^ np → I' (129 + t) s = nI (gV (gTr (I (f + 2)) kk np) (zB a) nn al (nn - t) s)) w')) 37 [some (.ref 127), some (.ref f), some (.int a), some (.int (nI al)), some (.int (nI (2 ^ np))), some (.int (nI j - nI 1)), none, none, none] [] (I2, J, P, S) 0 0 := fun I2 g1 g2 => ihj I2 (by omega) g1 g2
      refine z_if_eq (tgt := 55) d_Giv_fill_48 (by decide) (fun hz => ?_) (fun hz => ?_)
      · have hz : zB a j = false := Bool.eq_false_iff.mpr (zbit_n.mp hz)
        have q := inn j 0 (nI 0) (by omega) (Or.inl ⟨hz, rfl⟩) Kj (2 ^ np + 1) 0 I2 (by omega) (by omega) h1 h2 (fun x hx => absurd hx (Nat.not_lt_zero _))
        refine z_iconst (a := nI 0) d_Giv_fill_55 (by decide) ?_
        first | refine z_istore_6 d_Giv_fill_56 rfl ?_ | (refine z_forget_5 ?_; refine z_istore_6 d_Giv_fill_56 rfl ?_)
        refine z_iload_6 d_Giv_fill_58 ?_
        refine z_if_eq (tgt := 72) d_Giv_fill_60 (by decide) (fun _ => ?_) (fun h => absurd (by decide) h)
        refine z_iconst (a := nI 0) d_Giv_fill_72 (by decide) ?_
        first | refine z_istore_7 d_Giv_fill_73 rfl ?_ | (refine z_forget_6 ?_; refine z_istore_7 d_Giv_fill_73 rfl ?_)
        refine z_iconst (a := nI 0) d_Giv_fill_75 (by decide) ?_
        first | refine z_istore_8 d_Giv_fill_76 rfl ?_ | (refine z_forget_7 ?_; refine z_istore_8 d_Giv_fill_76 rfl ?_)
        exact q
      · have hz : zB a j = true := zbit_p.mp hz
        have q := inn j 1 _ (by omega) (Or.inr ⟨hz, rfl, rfl⟩) Kj (2 ^ np + 1) 0 I2 (by omega) (by omega) h1 h2 (fun x hx => absurd hx (Nat.not_lt_zero _))
        refine z_iconst (a := nI 1) d_Giv_fill_51 (by decide) ?_
        refine z_goto (tgt := 56) d_Giv_fill_52 (by decide) ?_
        first | refine z_istore_6 d_Giv_fill_56 rfl ?_ | (refine z_forget_5 ?_; refine z_istore_6 d_Giv_fill_56 rfl ?_)
        refine z_iload_6 d_Giv_fill_58 ?_
        refine z_if_eq (tgt := 72) d_Giv_fill_60 (by decide) (fun h => absurd h (by decide)) (fun _ => ?_)
        refine z_aload_1 d_Giv_fill_63 ?_
        refine z_iload_5 d_Giv_fill_64 ?_
        refine z_Vi1 d_Giv_fill_66 k_Giv_24 (by first | assumption | exact zS0_at (by assumption) (by omega) | exact zS0_at rfl (by omega)) (t_Fen_believersIn (k := kk j) F (fN h1) (by omega) (by rw [h1 (f + 5) (by omega)]; exact hK j (by omega))) ⟨Nat.le_of_ble_eq_true rfl, Nat.le_of_ble_eq_true rfl, Nat.le_of_ble_eq_true rfl, Nat.le_of_ble_eq_true rfl⟩ (Nat.le_of_ble_eq_true rfl) ?_
        intro r w hq
        obtain ⟨rfl, rfl⟩ := hq
        rw [h1 (f + 2) (by omega)]
        refine z_goto (tgt := 73) d_Giv_fill_69 (by decide) ?_
        first | refine z_istore_7 d_Giv_fill_73 rfl ?_ | (refine z_forget_6 ?_; refine z_istore_7 d_Giv_fill_73 rfl ?_)
        refine z_iconst (a := nI 0) d_Giv_fill_75 (by decide) ?_
        first | refine z_istore_8 d_Giv_fill_76 rfl ?_ | (refine z_forget_7 ?_; refine z_istore_8 d_Giv_fill_76 rfl ?_)
        exact q
  refine z_iconst (a := nI 1) d_Giv_fill_0 (by decide) ?_
  refine z_aload_1 d_Giv_fill_1 ?_
  refine z_getIv d_Giv_fill_2 f_Giv_30 (by first | assumption | exact zS0_at (by assumption) (by omega) | exact zS0_at rfl (by omega)) (by first | assumption | ((try simp (disch := omega) only [zu_same, zu_ne, zcp_ne, zfl_ne]); first | assumption | rfl)) ?_
  refine z_ishl d_Giv_fill_5 ?_
  rw [nx_sh np (by omega)]
  first | refine z_istore_4 d_Giv_fill_6 rfl ?_ | (refine z_forget_3 ?_; refine z_istore_4 d_Giv_fill_6 rfl ?_)
  refine z_aload_0 d_Giv_fill_8 ?_
  refine z_getR d_Giv_fill_9 f_Giv_13 (by first | assumption | exact zS0_at (by assumption) (by omega) | exact zS0_at rfl (by omega)) (by first | assumption | exact zS0_at (by assumption) (by omega) | exact zS0_at rfl (by omega)) ?_
  refine z_aload_1 d_Giv_fill_12 ?_
  refine z_getIv d_Giv_fill_13 f_Giv_34 (by first | assumption | exact zS0_at (by assumption) (by omega) | exact zS0_at rfl (by omega)) (by first | assumption | ((try simp (disch := omega) only [zu_same, zu_ne, zcp_ne, zfl_ne]); first | assumption | rfl)) ?_
  first | refine z_ald4N d_Giv_fill_16 (by first | assumption | exact zS0_at (by assumption) (by omega) | exact zS0_at rfl (by omega)) (by omega) (by first | decide | omega) (by first | assumption | exact zS0_at (by assumption) (by omega) | exact zS0_at rfl (by omega)) ?_ | refine z_ald5N d_Giv_fill_16 (by first | assumption | exact zS0_at (by assumption) (by omega) | exact zS0_at rfl (by omega)) (by omega) (by first | decide | omega) (by first | assumption | exact zS0_at (by assumption) (by omega) | exact zS0_at rfl (by omega)) ?_ | refine z_ald6N d_Giv_fill_16 (by first | assumption | exact zS0_at (by assumption) (by omega) | exact zS0_at rfl (by omega)) (by omega) (by first | decide | omega) (by first | assumption | exact zS0_at (by assumption) (by omega) | exact zS0_at rfl (by omega)) ?_
  refine z_iload_3 d_Giv_fill_17 ?_
  have go : ∀ x : Int32, (∀ s, x = nI (gV (gTr (I (f + 2)) kk np) (zB a) nn al 0 s)) → tbF I (zfl I (129 + nn) 128 x) ∧ ∀ t, nn ≤ t → t ≤ nn → ∀ s, s < 2 ^ np → zfl I (129 + nn) 128 x (129 + t) s = nI (gV (gTr (I (f + 2)) kk np) (zB a) nn al (nn - t) s) := by
    intro x hx
    refine ⟨fun q hq => zfl_ne (by omega), fun t t1 t2 s hs => ?_⟩
    obtain rfl : t = nn := by omega
    rw [zfl_in (by omega), Nat.sub_self]
    exact hx s
  rcases hal with rfl | rfl
  · obtain ⟨g1, g2⟩ := go (nI 1) (fun s => rfl)
    have n4' : zfl I (129 + nn) 128 (nI 1) f 4 = nI nn := by rw [zfl_ne (by omega)]; exact n4
    refine z_if_eq (tgt := 25) d_Giv_fill_18 (by decide) (fun h => absurd h (by decide)) (fun _ => ?_)
    refine z_iconst (a := nI 1) d_Giv_fill_21 (by decide) ?_
    refine z_goto (tgt := 26) d_Giv_fill_22 (by decide) ?_
    refine z_Sv2 d_Giv_fill_26 k_Giv_37 (t_JArr_fillI sn (by decide)) ⟨Nat.le_of_ble_eq_true rfl, Nat.le_of_ble_eq_true rfl, Nat.le_of_ble_eq_true rfl, Nat.le_of_ble_eq_true rfl⟩ (Nat.le_of_ble_eq_true rfl) ?_
    intro w hq
    obtain rfl := hq
    refine z_aload_1 d_Giv_fill_29 ?_
    refine z_getIv d_Giv_fill_30 f_Giv_34 (by first | assumption | exact zS0_at (by assumption) (by omega) | exact zS0_at rfl (by omega)) (by first | assumption | ((try simp (disch := omega) only [zu_same, zu_ne, zcp_ne, zfl_ne]); first | assumption | rfl)) ?_
    refine z_iconst (a := nI 1) d_Giv_fill_33 (by decide) ?_
    refine z_isub d_Giv_fill_34 ?_
    first | refine z_istore_5 d_Giv_fill_35 rfl ?_ | (refine z_forget_4 ?_; refine z_istore_5 d_Giv_fill_35 rfl ?_)
    exact out nn _ (Nat.le_refl _) g1 g2
  · obtain ⟨g1, g2⟩ := go (nI 0) (fun s => rfl)
    have n4' : zfl I (129 + nn) 128 (nI 0) f 4 = nI nn := by rw [zfl_ne (by omega)]; exact n4
    refine z_if_eq (tgt := 25) d_Giv_fill_18 (by decide) (fun _ => ?_) (fun h => absurd (by decide) h)
    refine z_iconst (a := nI 0) d_Giv_fill_25 (by decide) ?_
    refine z_Sv2 d_Giv_fill_26 k_Giv_37 (t_JArr_fillI sn (by decide)) ⟨Nat.le_of_ble_eq_true rfl, Nat.le_of_ble_eq_true rfl, Nat.le_of_ble_eq_true rfl, Nat.le_of_ble_eq_true rfl⟩ (Nat.le_of_ble_eq_true rfl) ?_
    intro w hq
    obtain rfl := hq
    refine z_aload_1 d_Giv_fill_29 ?_
    refine z_getIv d_Giv_fill_30 f_Giv_34 (by first | assumption | exact zS0_at (by assumption) (by omega) | exact zS0_at rfl (by omega)) (by first | assumption | ((try simp (disch := omega) only [zu_same, zu_ne, zcp_ne, zfl_ne]); first | assumption | rfl)) ?_
    refine z_iconst (a := nI 1) d_Giv_fill_33 (by decide) ?_
    refine z_isub d_Giv_fill_34 ?_
    first | refine z_istore_5 d_Giv_fill_35 rfl ?_ | (refine z_forget_4 ?_; refine z_istore_5 d_Giv_fill_35 rfl ?_)
    exact out nn _ (Nat.le_refl _) g1 g2
end FI0
