/-! the class's reader of YEARS: a step, the whole -/
section YR3
variable {G : zG} {I I1 I2 : Nat → Nat → Int32} {J J1 J2 : Nat → Nat → Int64} {P : Nat → Nat → Option Nat} {S : List (Nat × Nat)} {L f g ns sz dp : Nat} {T : Nat → Int32} {K : Nat → Int64} {t t' : tk} {s s' : yS} {e : Nat × Nat} {w : zW} {n : yN} {op : Nat → Nat} {A : Nat → Nat → Int32}
theorem t_YearsR_readStep (C : yrC T K L f g n I J P S ((ns, sz, dp), op, A) t) (hw : y_word t) (h30 : ns < 30) (h3 : y_opens t → dp < 3) : zEi G y_YearsR_readStep prog_12_method_5_code 6 (some .boolean) 6 [.ref 16, .ref g, .ref f] (I, J, P, S) (fun r w => pQ (y_step (tA T L K) n ((ns, sz, dp), op, A) t) (fun e => r = nI 0 ∧ yrE g I J P S e w) (fun x => r = nI 1 ∧ yrN T K L f g n I J P S x w)) := by
  have X0 := C.1.1.1
  have F := C.2.1
  have Y := C.2.2.1
  have R := C.2.2.2.1
  have N := C.2.2.2.2.2.1
  obtain ⟨Y0, ⟨Y3, Y3s⟩, ⟨Y4, Y4s⟩, ⟨Y5, Y5s⟩, ⟨Y6, Y6s⟩⟩ := id C.2.2.1
  obtain ⟨R0, R1, R2, R3⟩ := id C.2.2.2.1
  obtain ⟨d1, d2, d3⟩ := id C.2.2.2.2.1
  obtain ⟨cA, ⟨c6, c6b⟩, c7, ⟨c8, c8b⟩, c9, c10, c11, c12⟩ := id C.2.2.2.2.2.2
  dsimp only at cA c6 c6b c7 c8 c8b c9 c10
  have k7 : I 11 7 = tkw t := C.1.2.2.2.2.2.1.2.2.2.2.1
  have nb : n.2.1 ≤ 6 ∧ n.2.2.1 ≤ 7 ∧ n.2.2.2 ≤ 9 := ⟨N.2.2.2.1.2, N.2.2.2.2.1.2, N.2.2.2.2.2.2⟩
  refine zEi_of (lv := [some (.ref 16), some (.ref g), some (.ref f), none, none, none]) (by decide) rfl (Nat.le_of_ble_eq_true rfl) ?_
  obtain ⟨y, hy⟩ : ∃ y, y_step (tA T L K) n ((ns, sz, dp), op, A) t = y := ⟨_, rfl⟩
  rw [hy]
  unfold y_step at hy
  have mid : ∀ (I0 : Nat → Nat → Int32), (∀ a, a ≠ 16 → a ≠ 17 → I0 a = I a) → (I0 16 2 = nI (if y_opens t then dp + 1 else dp)) → (∀ d, d < (if y_opens t then dp + 1 else dp) → I0 17 d = nI ((if y_opens t then (fun d => if d = dp then sz else op d) else op) d) ∧ (if y_opens t then (fun d => if d = dp then sz else op d) else op) d < sz + 1) → zA G y_YearsR_readStep prog_12_method_5_code 6 (some .boolean) (zRm 6 0 0) (zM G 0 0 (fun r w' => ∃ x, r = some (.int x) ∧ (fun r w => pQ (y) (fun e => r = nI 0 ∧ yrE g I J P S e w) (fun x => r = nI 1 ∧ yrN T K L f g n I J P S x w)) x w')) 43 [some (.ref 16), some (.ref g), some (.ref f), some (.int (tkw t)), none, none] [] (I0, J, P, S) 0 0 := by
    intro I0 hI0 h16 h17
    have C0 : tkC T K 1 900 L I0 J P S t := tkC_c C.1 (hI0 11 (by decide) (by decide)) (hI0 1 (by decide) (by decide)) rfl rfl
    have N0 : yfN f I0 J n := by
      obtain ⟨b1, b2, b3, b4, b5, b6⟩ := N
      have e2 : I0 f = I f := hI0 f (by omega) (by omega)
      exact ⟨b1, b2, b3, by rw [e2]; exact b4, by rw [e2]; exact b5, by rw [e2]; exact b6⟩
    have fr0 : yrF g I I0 := fun a _ g2 g3 _ => hI0 a g2 g3
    have g0 : I0 g = I g := hI0 g (by omega) (by omega)
    have bad : ∀ (e : Nat × Nat) (Ix : Nat → Nat → Int32) (Jx : Nat → Nat → Int64) (w : zW), tkF I0 Ix → tkJ J Jx → tkE Ix Jx P S e w → yrE g I J P S e w := by
      intro e Ix Jx w h1 h2 h3
      exact yrE_t (yrF_t fr0 (yrF_tk h1)) (yrF_tj h2) (yrE_tk h3)
    have c159 : ∀ (k : Nat) (v1 : Int32) (t1 : tk) (I1 : Nat → Nat → Int32) (J1 : Nat → Nat → Int64), tkF I0 I1 → tkJ J J1 → tkC T K 1 900 L I1 J1 P S t1 → (k = 8 ∨ k = 10 ∨ k = 11 ∨ k = 12 ∨ k = 13 ∨ k = 14 ∨ k = 17 ∨ k = 18 ∨ k = 20 ∨ k = 60 ∨ k = 61 ∨ k = 62) → pb (y_second (tA T L K) n (nI k) t1) (fun u => pb (p_semi (tA T L K) u.2) (fun t' => .inr (y_add ((ns, sz, dp), op, A) (y_opens t) (nI k) v1 u.1, t'))) = y → zA G y_YearsR_readStep prog_12_method_5_code 6 (some .boolean) (zRm 6 0 0) (zM G 0 0 (fun r w' => ∃ x, r = some (.int x) ∧ (fun r w => pQ (y) (fun e => r = nI 0 ∧ yrE g I J P S e w) (fun x => r = nI 1 ∧ yrN T K L f g n I J P S x w)) x w')) 159 [some (.ref 16), some (.ref g), some (.ref f), some (.int (nI k)), some (.int v1), none] [] (I1, J1, P, S) 0 0 := by
      intro k v1 t1 I1 J1 h1 h2 C1 hk hy
      refine z_aload_0 d_YearsR_readStep_159 ?_
      refine z_aload_2 d_YearsR_readStep_160 ?_
      refine z_iload_3 d_YearsR_readStep_161 ?_
      refine z_Vi2 d_YearsR_readStep_162 k_YearsR_86 (by first | assumption | exact zS0_at (by assumption) (by omega) | exact zS0_at rfl (by omega)) (t_YearsR_takeSecond C1 F R (yfN_c N0 d1 h1.1 h2) hk) ⟨Nat.le_of_ble_eq_true rfl, Nat.le_of_ble_eq_true rfl, Nat.le_of_ble_eq_true rfl, Nat.le_of_ble_eq_true rfl⟩ (Nat.le_of_ble_eq_true rfl) ?_
      intro r w hq
      rcases hx : y_second (tA T L K) n (nI k) t1 with e | u <;> rw [hx] at hq hy <;> dsimp only [pb] at hy
      · obtain ⟨rfl, hq⟩ := hq
        obtain ⟨I9, J9, rfl, hq2⟩ := bad e I1 J1 w h1 h2 hq
        rw [← hy]
        first | refine z_istore_5 d_YearsR_readStep_165 rfl ?_ | (refine z_forget_4 ?_; refine z_istore_5 d_YearsR_readStep_165 rfl ?_)
        refine z_iload_5 d_YearsR_readStep_167 ?_
        refine z_if_ge (tgt := 174) d_YearsR_readStep_169 (by decide) (fun h => absurd h (by decide)) (fun _ => ?_)
        refine z_iconst (a := nI 0) d_YearsR_readStep_172 (by decide) ?_
        refine z_retz d_YearsR_readStep_173 (by first | exact zb0 | exact zb1 | assumption) ?_
        exact ⟨rfl, I9, J9, rfl, hq2⟩
      obtain ⟨rfl, I2, J2, rfl, g1, g2, C2⟩ := hq
      have hu := y_second_nn ⟨nb.1, nb.2.1⟩ hx
      have f2 := tkF_t h1 g1
      have j2 := tkJ_t h2 g2
      have s2 : I2 g 2 = nI sz := by rw [f2.1 g (by omega), g0]; exact c7
      have s1 : I2 g 1 = nI ns := by rw [f2.1 g (by omega), g0]; exact c6
      first | refine z_istore_5 d_YearsR_readStep_165 rfl ?_ | (refine z_forget_4 ?_; refine z_istore_5 d_YearsR_readStep_165 rfl ?_)
      refine z_iload_5 d_YearsR_readStep_167 ?_
      refine z_if_ge (tgt := 174) d_YearsR_readStep_169 (by decide) (fun _ => ?_) (fun h => absurd hu h)
      refine z_aload_1 d_YearsR_readStep_174 ?_
      refine z_iload_3 d_YearsR_readStep_175 ?_
      refine z_iload_4 d_YearsR_readStep_176 ?_
      refine z_iload_5 d_YearsR_readStep_178 ?_
      refine z_Vv3 d_YearsR_readStep_180 k_YearsR_89 (by first | assumption | exact zS0_at (by assumption) (by omega) | exact zS0_at rfl (by omega)) (t_Years_addStep Y s2 (by omega) s1) ⟨Nat.le_of_ble_eq_true rfl, Nat.le_of_ble_eq_true rfl, Nat.le_of_ble_eq_true rfl, Nat.le_of_ble_eq_true rfl⟩ (Nat.le_of_ble_eq_true rfl) ?_
      intro w hq
      obtain rfl := hq
      have C3 : tkC T K 1 900 L (zu (s_addOp I2 g sz (nI k) v1 u.1) g 1 (nI (ns + 1))) J2 P S u.2 := tkC_c C2 (by rw [zu_row _ _ _ _ (by omega), addOp_row (by omega)]) (by rw [zu_row _ _ _ _ (by omega), addOp_row (by omega)]) rfl rfl
      refine z_aload_0 d_YearsR_readStep_183 ?_
      refine z_getR d_YearsR_readStep_184 f_YearsR_15 (by first | assumption | exact zS0_at (by assumption) (by omega) | exact zS0_at rfl (by omega)) (by first | assumption | exact zS0_at (by assumption) (by omega) | exact zS0_at rfl (by omega)) ?_
      refine z_Vi0 d_YearsR_readStep_187 k_YearsR_62 (by first | assumption | exact zS0_at (by assumption) (by omega) | exact zS0_at rfl (by omega)) (t_Tok_takeSemicolon C3) ⟨Nat.le_of_ble_eq_true rfl, Nat.le_of_ble_eq_true rfl, Nat.le_of_ble_eq_true rfl, Nat.le_of_ble_eq_true rfl⟩ (Nat.le_of_ble_eq_true rfl) ?_
      intro r w hq
      have fr3 : yrF g I (zu (s_addOp I2 g sz (nI k) v1 u.1) g 1 (nI (ns + 1))) := by
        intro a q1 q2 q3 q4
        rw [zu_row _ _ _ _ (by omega), addOp_row q4, f2.1 a q1, hI0 a q2 q3]
      rcases hx3 : p_semi (tA T L K) u.2 with e | t2 <;> rw [hx3] at hq hy <;> dsimp only [pb] at hy
      · obtain ⟨rfl, hq⟩ := hq
        obtain ⟨I9, J9, rfl, hq2⟩ := yrE_t fr3 (yrF_tj j2) (yrE_tk hq)
        rw [← hy]
        refine z_retz d_YearsR_readStep_190 (by first | exact zb0 | exact zb1 | assumption) ?_
        exact ⟨rfl, I9, J9, rfl, hq2⟩
      · obtain ⟨rfl, I4, J4, rfl, g4, k4, C4⟩ := hq
        rw [← hy]
        refine z_retz d_YearsR_readStep_190 (by first | exact zb0 | exact zb1 | assumption) ?_
        have hdp : (if y_opens t then dp + 1 else dp) ≤ 3 ∧ (if y_opens t then dp + 1 else dp) ≤ dp + 1 := by
          by_cases ho : y_opens t
          · have := h3 ho; rw [if_pos ho]; omega
          · rw [if_neg ho]; omega
        refine ⟨rfl, I4, J4, rfl, yrF_t fr3 (yrF_tk g4), yrF_t (yrF_tj j2) (yrF_tj k4), ?_⟩
        refine yrC_mk C C4 (fun a q1 q2 q3 q4 => ?_) (fun a ha => ?_) ?_ ⟨?_, show ns + 1 ≤ 30 by omega⟩ ?_ ⟨?_, hdp.1⟩ ?_ (fun d hd => ?_) ?_ ?_
        · rw [g4.1 a q1]; exact fr3 a q1 q2 q3 q4
        · rw [k4 a ha, j2 a ha]
        · show sf g I4 = zu (s_addOp A 0 sz (nI k) v1 u.1) 0 1 (nI (ns + 1))
          have e1 : sf g I4 = sf g (zu (s_addOp I2 g sz (nI k) v1 u.1) g 1 (nI (ns + 1))) := by funext i; exact g4.1 (g + i) (by omega)
          have e2 : sf g I2 = A := by rw [← cA]; funext i; show I2 (g + i) = I (g + i); rw [f2.1 _ (by omega), hI0 _ (by omega) (by omega)]
          rw [e1, sf_zu0, sf_addOp, e2]
        · rw [g4.1 g (by omega)]; exact zu_same _ _ _ _
        · rw [g4.1 g (by omega), zu_ne _ _ _ _ (by omega)]; unfold s_addOp; exact zu_same _ _ _ _
        · rw [g4.1 16 (by decide), zu_row _ _ _ _ (by omega), addOp_row (by omega), f2.1 16 (by decide)]; exact h16
        · show sz + 1 + (if y_opens t then dp + 1 else dp) ≤ 2 * (ns + 1)
          omega
        · rw [g4.1 17 (by decide), zu_row _ _ _ _ (by omega), addOp_row (by omega), f2.1 17 (by decide)]; exact h17 d hd
        · rw [g4.2.2.1, zu_row _ _ _ _ (by omega), addOp_row (by omega), f2.2.2.1, hI0 11 (by decide) (by decide)]; exact c11
        · rw [g4.2.2.2, zu_row _ _ _ _ (by omega), addOp_row (by omega), f2.2.2.2, hI0 11 (by decide) (by decide)]; exact c12
    have c97 : ∀ (k : Nat) (t1 : tk) (I1 : Nat → Nat → Int32) (J1 : Nat → Nat → Int64), tkF I0 I1 → tkJ J J1 → tkC T K 1 900 L I1 J1 P S t1 → (k = 8 ∨ k = 10 ∨ k = 11 ∨ k = 12 ∨ k = 13 ∨ k = 14 ∨ k = 16 ∨ k = 17 ∨ k = 18 ∨ k = 20) → pb (y_first (tA T L K) n (nI k) t1) (fun v => pb (y_cmp (tA T L K) (nI k) v.2) (fun c => pb (y_second (tA T L K) n c.1 c.2) (fun u => pb (p_semi (tA T L K) u.2) (fun t' => .inr (y_add ((ns, sz, dp), op, A) (y_opens t) c.1 v.1 u.1, t'))))) = y → zA G y_YearsR_readStep prog_12_method_5_code 6 (some .boolean) (zRm 6 0 0) (zM G 0 0 (fun r w' => ∃ x, r = some (.int x) ∧ (fun r w => pQ (y) (fun e => r = nI 0 ∧ yrE g I J P S e w) (fun x => r = nI 1 ∧ yrN T K L f g n I J P S x w)) x w')) 97 [some (.ref 16), some (.ref g), some (.ref f), some (.int (nI k)), none, none] [] (I1, J1, P, S) 0 0 := by
      intro k t1 I1 J1 h1 h2 C1 hk hy
      refine z_aload_0 d_YearsR_readStep_97 ?_
      refine z_aload_2 d_YearsR_readStep_98 ?_
      refine z_iload_3 d_YearsR_readStep_99 ?_
      refine z_Vi2 d_YearsR_readStep_100 k_YearsR_79 (by first | assumption | exact zS0_at (by assumption) (by omega) | exact zS0_at rfl (by omega)) (t_YearsR_takeFirst C1 F R (yfN_c N0 d1 h1.1 h2) hk) ⟨Nat.le_of_ble_eq_true rfl, Nat.le_of_ble_eq_true rfl, Nat.le_of_ble_eq_true rfl, Nat.le_of_ble_eq_true rfl⟩ (Nat.le_of_ble_eq_true rfl) ?_
      intro r w hq
      rcases hx : y_first (tA T L K) n (nI k) t1 with e | v <;> rw [hx] at hq hy <;> dsimp only [pb] at hy
      · obtain ⟨rfl, hq⟩ := hq
        obtain ⟨I9, J9, rfl, hq2⟩ := bad e I1 J1 w h1 h2 hq
        rw [← hy]
        first | refine z_istore_4 d_YearsR_readStep_103 rfl ?_ | (refine z_forget_3 ?_; refine z_istore_4 d_YearsR_readStep_103 rfl ?_)
        refine z_iload_4 d_YearsR_readStep_105 ?_
        refine z_if_ge (tgt := 112) d_YearsR_readStep_107 (by decide) (fun h => absurd h (by decide)) (fun _ => ?_)
        refine z_iconst (a := nI 0) d_YearsR_readStep_110 (by decide) ?_
        refine z_retz d_YearsR_readStep_111 (by first | exact zb0 | exact zb1 | assumption) ?_
        exact ⟨rfl, I9, J9, rfl, hq2⟩
      obtain ⟨rfl, I2, J2, rfl, g1, g2, C2⟩ := hq
      have hu := y_first_nn nb.2 hx
      have f2 := tkF_t h1 g1
      have j2 := tkJ_t h2 g2
      have k9 : I2 11 9 = tsg v.2 := C2.2.2.2.2.2.1.2.2.2.2.2.2
      first | refine z_istore_4 d_YearsR_readStep_103 rfl ?_ | (refine z_forget_3 ?_; refine z_istore_4 d_YearsR_readStep_103 rfl ?_)
      refine z_iload_4 d_YearsR_readStep_105 ?_
      refine z_if_ge (tgt := 112) d_YearsR_readStep_107 (by decide) (fun _ => ?_) (fun h => absurd hu h)
      refine z_iload_3 d_YearsR_readStep_112 ?_
      refine z_bipush (a := nI 16) d_YearsR_readStep_113 (by decide) ?_
      refine z_icmp_ne (tgt := 159) d_YearsR_readStep_115 (by decide) (fun h16 => ?_) (fun h16 => ?_)
      · have e1 : y_cmp (tA T L K) (nI k) v.2 = .inr (nI k, v.2) := by unfold y_cmp; rw [if_neg h16]
        rw [e1] at hy
        dsimp only [pb] at hy
        exact c159 k v.1 v.2 I2 J2 f2 j2 C2 (by
          have : k ≠ 16 := fun h => h16 (by rw [h])
          omega) hy
      · have hk16 : k = 16 := (nI_eq (by omega) (by omega)).mp h16
        subst hk16
        unfold y_cmp at hy
        rw [if_pos rfl] at hy
        have go : ∀ j : Nat, (j = 60 ∨ j = 61 ∨ j = 62) → tsg v.2 = nI j → zA G y_YearsR_readStep prog_12_method_5_code 6 (some .boolean) (zRm 6 0 0) (zM G 0 0 (fun r w' => ∃ x, r = some (.int x) ∧ (fun r w => pQ (y) (fun e => r = nI 0 ∧ yrE g I J P S e w) (fun x => r = nI 1 ∧ yrN T K L f g n I J P S x w)) x w')) 152 [some (.ref 16), some (.ref g), some (.ref f), some (.int (tsg v.2)), some (.int v.1), none] [] (I2, J2, P, S) 0 0 := by
          intro j hj hs
          rw [if_pos (by rw [hs]; rcases hj with rfl | rfl | rfl <;> decide), hs] at hy
          dsimp only [pb] at hy
          rw [hs]
          refine z_aload_0 d_YearsR_readStep_152 ?_
          refine z_getR d_YearsR_readStep_153 f_YearsR_15 (by first | assumption | exact zS0_at (by assumption) (by omega) | exact zS0_at rfl (by omega)) (by first | assumption | exact zS0_at (by assumption) (by omega) | exact zS0_at rfl (by omega)) ?_
          refine z_Vv0 d_YearsR_readStep_156 k_YearsR_59 (by first | assumption | exact zS0_at (by assumption) (by omega) | exact zS0_at rfl (by omega)) (t_adv C2) ⟨Nat.le_of_ble_eq_true rfl, Nat.le_of_ble_eq_true rfl, Nat.le_of_ble_eq_true rfl, Nat.le_of_ble_eq_true rfl⟩ (Nat.le_of_ble_eq_true rfl) ?_
          intro w hq
          obtain ⟨I3, J3, rfl, g3, k3, C3⟩ := hq
          exact c159 j v.1 _ I3 J3 (tkF_t f2 g3) (tkJ_t j2 k3) C3 (by omega) hy
        refine z_aload_0 d_YearsR_readStep_118 ?_
        refine z_getR d_YearsR_readStep_119 f_YearsR_15 (by first | assumption | exact zS0_at (by assumption) (by omega) | exact zS0_at rfl (by omega)) (by first | assumption | exact zS0_at (by assumption) (by omega) | exact zS0_at rfl (by omega)) ?_
        refine z_getIv d_YearsR_readStep_122 f_YearsR_83 (by first | assumption | exact zS0_at (by assumption) (by omega) | exact zS0_at rfl (by omega)) (by first | assumption | ((try simp (disch := omega) only [zu_same, zu_ne, zcp_ne, zfl_ne]); first | assumption | rfl)) ?_
        first | refine z_istore_3 d_YearsR_readStep_125 rfl ?_ | (refine z_forget_2 ?_; refine z_istore_3 d_YearsR_readStep_125 rfl ?_)
        refine z_iload_3 d_YearsR_readStep_126 ?_
        refine z_bipush (a := nI 60) d_YearsR_readStep_127 (by decide) ?_
        refine z_icmp_eq (tgt := 152) d_YearsR_readStep_129 (by decide) (fun h60 => ?_) (fun h60 => ?_)
        · exact go 60 (by omega) h60
        refine z_iload_3 d_YearsR_readStep_132 ?_
        refine z_bipush (a := nI 62) d_YearsR_readStep_133 (by decide) ?_
        refine z_icmp_eq (tgt := 152) d_YearsR_readStep_135 (by decide) (fun h62 => ?_) (fun h62 => ?_)
        · exact go 62 (by omega) h62
        refine z_iload_3 d_YearsR_readStep_138 ?_
        refine z_bipush (a := nI 61) d_YearsR_readStep_139 (by decide) ?_
        refine z_icmp_eq (tgt := 152) d_YearsR_readStep_141 (by decide) (fun h61 => ?_) (fun h61 => ?_)
        · exact go 61 (by omega) h61
        rw [if_neg (by rintro (h | h | h); exact h60 h; exact h62 h; exact h61 h)] at hy
        dsimp only [pb] at hy
        refine z_aload_0 d_YearsR_readStep_144 ?_
        refine z_getR d_YearsR_readStep_145 f_YearsR_15 (by first | assumption | exact zS0_at (by assumption) (by omega) | exact zS0_at rfl (by omega)) (by first | assumption | exact zS0_at (by assumption) (by omega) | exact zS0_at rfl (by omega)) ?_
        refine z_Vi0 d_YearsR_readStep_148 k_YearsR_55 (by first | assumption | exact zS0_at (by assumption) (by omega) | exact zS0_at rfl (by omega)) (t_Tok_misplaced C2) ⟨Nat.le_of_ble_eq_true rfl, Nat.le_of_ble_eq_true rfl, Nat.le_of_ble_eq_true rfl, Nat.le_of_ble_eq_true rfl⟩ (Nat.le_of_ble_eq_true rfl) ?_
        intro r w hq
        obtain ⟨rfl, hq⟩ := hq
        obtain ⟨I9, J9, rfl, hq2⟩ := bad _ I2 J2 w f2 j2 hq
        rw [← hy]
        refine z_retz d_YearsR_readStep_151 (by first | exact zb0 | exact zb1 | assumption) ?_
        exact ⟨rfl, I9, J9, rfl, hq2⟩
    refine z_aload_0 d_YearsR_readStep_43 ?_
    refine z_getR d_YearsR_readStep_44 f_YearsR_15 (by first | assumption | exact zS0_at (by assumption) (by omega) | exact zS0_at rfl (by omega)) (by first | assumption | exact zS0_at (by assumption) (by omega) | exact zS0_at rfl (by omega)) ?_
    refine z_Vv0 d_YearsR_readStep_47 k_YearsR_59 (by first | assumption | exact zS0_at (by assumption) (by omega) | exact zS0_at rfl (by omega)) (t_adv C0) ⟨Nat.le_of_ble_eq_true rfl, Nat.le_of_ble_eq_true rfl, Nat.le_of_ble_eq_true rfl, Nat.le_of_ble_eq_true rfl⟩ (Nat.le_of_ble_eq_true rfl) ?_
    intro w hq
    obtain ⟨I1, J1, rfl, h1, h2, C1⟩ := hq
    have q7 : I1 11 7 = tkw (tA T L K t) := C1.2.2.2.2.2.1.2.2.2.2.1
    unfold y_op at hy
    refine z_iload_3 d_YearsR_readStep_50 ?_
    refine z_bipush (a := nI 15) d_YearsR_readStep_51 (by decide) ?_
    refine z_icmp_ne (tgt := 97) d_YearsR_readStep_53 (by decide) (fun h15 => ?_) (fun h15 => ?_)
    · rw [if_neg h15] at hy
      dsimp only [pb] at hy
      have hkk : ∃ k, (k = 8 ∨ k = 10 ∨ k = 11 ∨ k = 12 ∨ k = 13 ∨ k = 14 ∨ k = 16 ∨ k = 17 ∨ k = 18 ∨ k = 20) ∧ tkw t = nI k := by
        rcases hw with (h | h) | h | h
        · exact absurd h h15
        · exact ⟨18, by omega, h⟩
        · exact ⟨20, by omega, h⟩
        · rcases tkC_kw C.1 with h' | ⟨k, hk, h'⟩
          · rw [h'] at h; exact absurd h (by decide)
          · rw [h', nI_leI (by omega) (by omega), nI_leI (by omega) (by omega)] at h
            exact ⟨k, by omega, h'⟩
      obtain ⟨k, hk, hkw⟩ := hkk
      rw [hkw]
      exact c97 k _ I1 J1 h1 h2 C1 hk (by rw [← hkw]; exact hy)
    · rw [if_pos h15] at hy
      have go : ∀ j : Nat, (j = 8 ∨ j = 16 ∨ j = 17) → tkw (tA T L K t) = nI j → zA G y_YearsR_readStep prog_12_method_5_code 6 (some .boolean) (zRm 6 0 0) (zM G 0 0 (fun r w' => ∃ x, r = some (.int x) ∧ (fun r w => pQ (y) (fun e => r = nI 0 ∧ yrE g I J P S e w) (fun x => r = nI 1 ∧ yrN T K L f g n I J P S x w)) x w')) 90 [some (.ref 16), some (.ref g), some (.ref f), some (.int (tkw (tA T L K t))), none, none] [] (I1, J1, P, S) 0 0 := by
        intro j hj hs
        rw [if_pos (by rw [hs]; rcases hj with rfl | rfl | rfl <;> decide), hs] at hy
        dsimp only [pb] at hy
        rw [hs]
        refine z_aload_0 d_YearsR_readStep_90 ?_
        refine z_getR d_YearsR_readStep_91 f_YearsR_15 (by first | assumption | exact zS0_at (by assumption) (by omega) | exact zS0_at rfl (by omega)) (by first | assumption | exact zS0_at (by assumption) (by omega) | exact zS0_at rfl (by omega)) ?_
        refine z_Vv0 d_YearsR_readStep_94 k_YearsR_59 (by first | assumption | exact zS0_at (by assumption) (by omega) | exact zS0_at rfl (by omega)) (t_adv C1) ⟨Nat.le_of_ble_eq_true rfl, Nat.le_of_ble_eq_true rfl, Nat.le_of_ble_eq_true rfl, Nat.le_of_ble_eq_true rfl⟩ (Nat.le_of_ble_eq_true rfl) ?_
        intro w hq
        obtain ⟨I2, J2, rfl, g1, g2, C2⟩ := hq
        exact c97 j _ I2 J2 (tkF_t h1 g1) (tkJ_t h2 g2) C2 (by omega) hy
      refine z_aload_0 d_YearsR_readStep_56 ?_
      refine z_getR d_YearsR_readStep_57 f_YearsR_15 (by first | assumption | exact zS0_at (by assumption) (by omega) | exact zS0_at rfl (by omega)) (by first | assumption | exact zS0_at (by assumption) (by omega) | exact zS0_at rfl (by omega)) ?_
      refine z_getIv d_YearsR_readStep_60 f_YearsR_41 (by first | assumption | exact zS0_at (by assumption) (by omega) | exact zS0_at rfl (by omega)) (by first | assumption | ((try simp (disch := omega) only [zu_same, zu_ne, zcp_ne, zfl_ne]); first | assumption | rfl)) ?_
      first | refine z_istore_3 d_YearsR_readStep_63 rfl ?_ | (refine z_forget_2 ?_; refine z_istore_3 d_YearsR_readStep_63 rfl ?_)
      refine z_iload_3 d_YearsR_readStep_64 ?_
      refine z_bipush (a := nI 8) d_YearsR_readStep_65 (by decide) ?_
      refine z_icmp_eq (tgt := 90) d_YearsR_readStep_67 (by decide) (fun h8 => ?_) (fun h8 => ?_)
      · exact go 8 (by omega) h8
      refine z_iload_3 d_YearsR_readStep_70 ?_
      refine z_bipush (a := nI 16) d_YearsR_readStep_71 (by decide) ?_
      refine z_icmp_eq (tgt := 90) d_YearsR_readStep_73 (by decide) (fun h16 => ?_) (fun h16 => ?_)
      · exact go 16 (by omega) h16
      refine z_iload_3 d_YearsR_readStep_76 ?_
      refine z_bipush (a := nI 17) d_YearsR_readStep_77 (by decide) ?_
      refine z_icmp_eq (tgt := 90) d_YearsR_readStep_79 (by decide) (fun h17 => ?_) (fun h17 => ?_)
      · exact go 17 (by omega) h17
      rw [if_neg (by rintro (h | h | h); exact h8 h; exact h16 h; exact h17 h)] at hy
      dsimp only [pb] at hy
      refine z_aload_0 d_YearsR_readStep_82 ?_
      refine z_getR d_YearsR_readStep_83 f_YearsR_15 (by first | assumption | exact zS0_at (by assumption) (by omega) | exact zS0_at rfl (by omega)) (by first | assumption | exact zS0_at (by assumption) (by omega) | exact zS0_at rfl (by omega)) ?_
      refine z_Vi0 d_YearsR_readStep_86 k_YearsR_55 (by first | assumption | exact zS0_at (by assumption) (by omega) | exact zS0_at rfl (by omega)) (t_Tok_misplaced C1) ⟨Nat.le_of_ble_eq_true rfl, Nat.le_of_ble_eq_true rfl, Nat.le_of_ble_eq_true rfl, Nat.le_of_ble_eq_true rfl⟩ (Nat.le_of_ble_eq_true rfl) ?_
      intro r w hq
      obtain ⟨rfl, hq⟩ := hq
      obtain ⟨I9, J9, rfl, hq2⟩ := bad _ I1 J1 w h1 h2 hq
      rw [← hy]
      refine z_retz d_YearsR_readStep_89 (by first | exact zb0 | exact zb1 | assumption) ?_
      exact ⟨rfl, I9, J9, rfl, hq2⟩
  have opn : y_opens t → zA G y_YearsR_readStep prog_12_method_5_code 6 (some .boolean) (zRm 6 0 0) (zM G 0 0 (fun r w' => ∃ x, r = some (.int x) ∧ (fun r w => pQ (y) (fun e => r = nI 0 ∧ yrE g I J P S e w) (fun x => r = nI 1 ∧ yrN T K L f g n I J P S x w)) x w')) 20 [some (.ref 16), some (.ref g), some (.ref f), some (.int (tkw t)), none, none] [] (I, J, P, S) 0 0 := by
    intro ho
    have hd := h3 ho
    refine z_aload_0 d_YearsR_readStep_20 ?_
    refine z_getR d_YearsR_readStep_21 f_YearsR_11 (by first | assumption | exact zS0_at (by assumption) (by omega) | exact zS0_at rfl (by omega)) (by first | assumption | exact zS0_at (by assumption) (by omega) | exact zS0_at rfl (by omega)) ?_
    refine z_aload_0 d_YearsR_readStep_24 ?_
    refine z_getIv d_YearsR_readStep_25 f_YearsR_28 (by first | assumption | exact zS0_at (by assumption) (by omega) | exact zS0_at rfl (by omega)) (by first | assumption | ((try simp (disch := omega) only [zu_same, zu_ne, zcp_ne, zfl_ne]); first | assumption | rfl)) ?_
    refine z_aload_1 d_YearsR_readStep_28 ?_
    refine z_getIv d_YearsR_readStep_29 f_YearsR_76 (by first | assumption | exact zS0_at (by assumption) (by omega) | exact zS0_at rfl (by omega)) (by first | assumption | ((try simp (disch := omega) only [zu_same, zu_ne, zcp_ne, zfl_ne]); first | assumption | rfl)) ?_
    first | refine z_iastN d_YearsR_readStep_32 (by first | assumption | exact zS0_at (by assumption) (by omega) | exact zS0_at rfl (by omega)) (by omega) (by first | decide | omega) ?_ | refine z_iast d_YearsR_readStep_32 (by first | assumption | exact zS0_at (by assumption) (by omega) | exact zS0_at rfl (by omega)) (by first | assumption | exact zS0_at (by assumption) (by omega) | exact zS0_at rfl (by omega)) ?_
    refine z_aload_0 d_YearsR_readStep_33 ?_
    refine z_dup rfl d_YearsR_readStep_34 ?_
    refine z_getIv d_YearsR_readStep_35 f_YearsR_28 (by first | assumption | exact zS0_at (by assumption) (by omega) | exact zS0_at rfl (by omega)) (by first | assumption | ((try simp (disch := omega) only [zu_same, zu_ne, zcp_ne, zfl_ne]); first | assumption | rfl)) ?_
    refine z_iconst (a := nI 1) d_YearsR_readStep_38 (by decide) ?_
    first | refine z_iaddN d_YearsR_readStep_39 ?_ | refine z_iadd d_YearsR_readStep_39 ?_
    refine z_putI d_YearsR_readStep_40 f_YearsR_28 (by first | assumption | exact zS0_at (by assumption) (by omega) | exact zS0_at rfl (by omega)) ?_
    refine mid _ (fun a g1 g2 => by rw [zu_row _ _ _ _ g1, zu_row _ _ _ _ g2]) (by rw [if_pos ho, zu_same]) (fun d hd => ?_)
    rw [if_pos ho] at hd ⊢
    rw [zu_row _ _ _ _ (by decide)]
    by_cases hdd : d = dp
    · subst hdd
      rw [zu_same]
      simp
    · rw [zu_ne _ _ _ _ (by omega), (c10 d (by omega)).1]
      have := (c10 d (by omega)).2
      simp only [hdd, if_false, true_and]
      omega
  refine z_aload_0 d_YearsR_readStep_0 ?_
  refine z_getR d_YearsR_readStep_1 f_YearsR_15 (by first | assumption | exact zS0_at (by assumption) (by omega) | exact zS0_at rfl (by omega)) (by first | assumption | exact zS0_at (by assumption) (by omega) | exact zS0_at rfl (by omega)) ?_
  refine z_getIv d_YearsR_readStep_4 f_YearsR_41 (by first | assumption | exact zS0_at (by assumption) (by omega) | exact zS0_at rfl (by omega)) (by first | assumption | ((try simp (disch := omega) only [zu_same, zu_ne, zcp_ne, zfl_ne]); first | assumption | rfl)) ?_
  first | refine z_istore_3 d_YearsR_readStep_7 rfl ?_ | (refine z_forget_2 ?_; refine z_istore_3 d_YearsR_readStep_7 rfl ?_)
  refine z_iload_3 d_YearsR_readStep_8 ?_
  refine z_bipush (a := nI 15) d_YearsR_readStep_9 (by decide) ?_
  refine z_icmp_eq (tgt := 20) d_YearsR_readStep_11 (by decide) (fun h15 => ?_) (fun h15 => ?_)
  · exact opn (Or.inl h15)
  refine z_iload_3 d_YearsR_readStep_14 ?_
  refine z_bipush (a := nI 18) d_YearsR_readStep_15 (by decide) ?_
  refine z_icmp_ne (tgt := 43) d_YearsR_readStep_17 (by decide) (fun h18 => ?_) (fun h18 => ?_)
  · have ho : ¬ y_opens t := by rintro (h | h); exact h15 h; exact h18 h
    refine mid I (fun _ _ _ => rfl) (by rw [if_neg ho]; exact c8) (fun d hd => ?_)
    rw [if_neg ho] at hd ⊢
    have := c10 d hd
    exact ⟨this.1, by omega⟩
  · exact opn (Or.inr h18)
def y_clear (A : Nat → Nat → Int32) : Nat → Nat → Int32 := zu (zu (zu (zu A 0 0 (nI 0)) 0 1 (nI 0)) 0 2 (nI 0)) 0 0 (nI 1)
def y_all (T : Nat → Int32) (L : Nat) (K : Nat → Int64) (n : yN) (A : Nat → Nat → Int32) : pR yS := y_parts (tA T L K) n 300 ((0, 0, 0), (fun _ => 0), y_clear A) (s_tok T L K 0)
theorem t_YearsR_readInto {ln : Nat} (F : fenOk P S f) (Y : yrOk P S g) (R : S[16]? = some (10, 3) ∧ P 16 0 = some 11 ∧ P 16 1 = some 17 ∧ S[17]? = some (100, 3)) (hfg : 17 < f ∧ 17 < g ∧ (f + 12 < g ∨ g + 4 < f)) (N : yfN f I J n) (X0 : S[11]? = some (7, 12)) (X3 : P 11 3 = some 13) (X4 : S[13]? = some (101, 21)) (X1 : S[1]? = some (102, 900)) (hm : ln ≤ 900) : zEi G y_YearsR_readInto prog_12_method_2_code 7 (some .boolean) 7 [.ref 16, .ref g, .ref f, .ref 1, .int (nI ln)] (I, J, P, S) (fun r w => pQ (y_all (I 1) ln (J 13) n (sf g I)) (fun e => r = nI 0 ∧ yrE g I J (zu P 11 0 (some 1)) S e w) (fun s => r = nI 1 ∧ s.1.2.2 = 0 ∧ ∃ t, yrN (I 1) (J 13) ln f g n I J (zu P 11 0 (some 1)) S (s, t) w)) := by
  obtain ⟨Y0, ⟨Y3, Y3s⟩, ⟨Y4, Y4s⟩, ⟨Y5, Y5s⟩, ⟨Y6, Y6s⟩⟩ := id Y
  obtain ⟨R0, R1, R2, R3⟩ := id R
  obtain ⟨d1, d2, d3⟩ := id hfg
  refine zEi_of (lv := [some (.ref 16), some (.ref g), some (.ref f), some (.ref 1), some (.int (nI ln)), none, none]) (by decide) rfl (Nat.le_of_ble_eq_true rfl) ?_
  refine z_aload_1 d_YearsR_readInto_0 ?_
  refine z_Vv0 d_YearsR_readInto_1 k_YearsR_19 (by first | assumption | exact zS0_at (by assumption) (by omega) | exact zS0_at rfl (by omega)) (t_Years_clear Y0) ⟨Nat.le_of_ble_eq_true rfl, Nat.le_of_ble_eq_true rfl, Nat.le_of_ble_eq_true rfl, Nat.le_of_ble_eq_true rfl⟩ (Nat.le_of_ble_eq_true rfl) ?_
  intro w hq
  obtain rfl := hq
  refine z_aload_1 d_YearsR_readInto_4 ?_
  refine z_iconst (a := nI 1) d_YearsR_readInto_5 (by decide) ?_
  refine z_putZ d_YearsR_readInto_6 f_YearsR_24 (by first | assumption | exact zS0_at (by assumption) (by omega) | exact zS0_at rfl (by omega)) (by first | exact zb0 | exact zb1 | assumption) ?_
  refine z_aload_0 d_YearsR_readInto_9 ?_
  refine z_iconst (a := nI 0) d_YearsR_readInto_10 (by decide) ?_
  refine z_putI d_YearsR_readInto_11 f_YearsR_28 (by first | assumption | exact zS0_at (by assumption) (by omega) | exact zS0_at rfl (by omega)) ?_
  refine z_aload_0 d_YearsR_readInto_14 ?_
  refine z_getR d_YearsR_readInto_15 f_YearsR_15 (by first | assumption | exact zS0_at (by assumption) (by omega) | exact zS0_at rfl (by omega)) (by first | assumption | exact zS0_at (by assumption) (by omega) | exact zS0_at rfl (by omega)) ?_
  refine z_aload_3 d_YearsR_readInto_18 ?_
  refine z_iload_4 d_YearsR_readInto_19 ?_
  refine z_Vv2 d_YearsR_readInto_21 k_YearsR_32 (by first | assumption | exact zS0_at (by assumption) (by omega) | exact zS0_at rfl (by omega)) (t_Tok_open (q := 1) (l := 900) X0 X3 X4 X1 (by decide) hm (by decide)) ⟨Nat.le_of_ble_eq_true rfl, Nat.le_of_ble_eq_true rfl, Nat.le_of_ble_eq_true rfl, Nat.le_of_ble_eq_true rfl⟩ (Nat.le_of_ble_eq_true rfl) ?_
  intro w hq
  obtain ⟨I1, J1, rfl, h1, h2, h3, h4, h5⟩ := hq
  have eZ : ∀ a, a ≠ 16 → a ≠ g → zu (zu (zu (zu (zu I g 0 (nI 0)) g 1 (nI 0)) g 2 (nI 0)) g 0 (nI 1)) 16 2 (nI 0) a = I a := fun a g1 g2 => by rw [zu_row _ _ _ _ g1, zu_row _ _ _ _ g2, zu_row _ _ _ _ g2, zu_row _ _ _ _ g2, zu_row _ _ _ _ g2]
  rw [eZ 1 (by decide) (by omega)] at h5
  have F' : fenOk (zu P 11 0 (some 1)) S f := fenOk_P F (fun a ha => zu_row _ _ _ _ (by omega))
  have Y' : yrOk (zu P 11 0 (some 1)) S g := by
    unfold yrOk
    rw [zu_row _ _ _ _ (by omega)]
    exact Y
  have R' : S[16]? = some (10, 3) ∧ zu P 11 0 (some 1) 16 0 = some 11 ∧ zu P 11 0 (some 1) 16 1 = some 17 ∧ S[17]? = some (100, 3) := by
    rw [zu_row _ _ _ _ (by decide)]
    exact R
  obtain ⟨-, R1', R2', -⟩ := id R'
  have sA : sf g I1 = y_clear (sf g I) := by
    have : sf g I1 = sf g (zu (zu (zu (zu (zu I g 0 (nI 0)) g 1 (nI 0)) g 2 (nI 0)) g 0 (nI 1)) 16 2 (nI 0)) := by funext i; exact h1 (g + i) (by omega)
    rw [this, sf_out (by omega), sf_zu0, sf_zu0, sf_zu0, sf_zu0]
    rfl
  have fr1 : yrF g I I1 := fun a g1 g2 g3 g4 => by rw [h1 a g1]; exact eZ a g2 (by omega)
  have gr1 : yrF g J J1 := fun a g1 _ _ _ => h4 a g1
  have C1 : yrC (I 1) (J 13) ln f g n I1 J1 (zu P 11 0 (some 1)) S ((0, 0, 0), (fun _ => 0), y_clear (sf g I)) (s_tok (I 1) ln (J 13) 0) := by
    obtain ⟨b1, b2, b3, b4, b5, b6⟩ := N
    have e2 : I1 f = I f := by rw [h1 f (by omega)]; exact eZ f (by omega) (by omega)
    have cf : ∀ k, I1 g k = y_clear (sf g I) 0 k := fun k => congrFun (congrFun sA 0) k
    refine ⟨h5, F', Y', R', hfg, ⟨(h4 _ (by omega)).trans b1, (h4 _ (by omega)).trans b2, (h4 _ (by omega)).trans b3, by rw [e2]; exact b4, by rw [e2]; exact b5, by rw [e2]; exact b6⟩, sA, ⟨(cf 1).trans ?_, show 0 ≤ 30 by omega⟩, (cf 2).trans ?_, ⟨?_, show 0 ≤ 3 by omega⟩, show 0 + 0 ≤ 2 * 0 by omega, fun d hd => absurd hd (show ¬ d < 0 by omega), h2, h3⟩
    · simp [y_clear, zu]
    · simp [y_clear, zu]
    · rw [h1 16 (by decide)]; exact zu_same _ _ _ _
  have loop : ∀ m j, 300 - j < m → j ≤ 300 → ∀ s : yS, ∀ t : tk, ∀ I2 : Nat → Nat → Int32, ∀ J2 : Nat → Nat → Int64, (yrF g I I2) → (yrF g J J2) → (yrC (I 1) (J 13) ln f g n I2 J2 (zu P 11 0 (some 1)) S s t) → (y_parts (tA (I 1) ln (J 13)) n (300 - j) s t = y_all (I 1) ln (J 13) n (sf g I)) → zA G y_YearsR_readInto prog_12_method_2_code 7 (some .boolean) (zRm 7 0 0) (zM G 0 0 (fun r w' => ∃ x, r = some (.int x) ∧ (fun r w => pQ (y_all (I 1) ln (J 13) n (sf g I)) (fun e => r = nI 0 ∧ yrE g I J (zu P 11 0 (some 1)) S e w) (fun s => r = nI 1 ∧ s.1.2.2 = 0 ∧ ∃ t, yrN (I 1) (J 13) ln f g n I J (zu P 11 0 (some 1)) S (s, t) w)) x w')) 27 [some (.ref 16), some (.ref g), some (.ref f), some (.ref 1), some (.int (nI ln)), some (.int (nI j)), none] [] (I2, J2, zu P 11 0 (some 1), S) 0 0 := by
    intro m
    induction m with
    | zero => intro j h; omega
    | succ m ih =>
      intro j hm hj s t I2 J2 fr2 gr2 C2 hI
      obtain ⟨⟨ns, sz, dp⟩, op, A⟩ := s
      have k7 : I2 11 7 = tkw t := C2.1.2.2.2.2.2.1.2.2.2.2.1
      have k4 : I2 11 4 = nI (tkd t) := C2.1.2.2.2.2.2.1.2.1
      have h9 := tkC_9 C2.1
      obtain ⟨cA, ⟨c6, c6b⟩, c7, ⟨c8, c8b⟩, c9, c10, c11, c12⟩ := id C2.2.2.2.2.2.2
      dsimp only at cA c6 c6b c7 c8 c8b c9 c10
      have hz : y_parts (tA (I 1) ln (J 13)) n 0 ((ns, sz, dp), op, A) t = y_all (I 1) ln (J 13) n (sf g I) → zA G y_YearsR_readInto prog_12_method_2_code 7 (some .boolean) (zRm 7 0 0) (zM G 0 0 (fun r w' => ∃ x, r = some (.int x) ∧ (fun r w => pQ (y_all (I 1) ln (J 13) n (sf g I)) (fun e => r = nI 0 ∧ yrE g I J (zu P 11 0 (some 1)) S e w) (fun s => r = nI 1 ∧ s.1.2.2 = 0 ∧ ∃ t, yrN (I 1) (J 13) ln f g n I J (zu P 11 0 (some 1)) S (s, t) w)) x w')) 105 [some (.ref 16), some (.ref g), some (.ref f), some (.ref 1), some (.int (nI ln)), some (.int (nI j)), none] [] (I2, J2, zu P 11 0 (some 1), S) 0 0 := by
        intro hz
        rw [← hz, y_parts]
        dsimp only
        refine z_aload_0 d_YearsR_readInto_105 ?_
        refine z_getIv d_YearsR_readInto_106 f_YearsR_28 (by first | assumption | exact zS0_at (by assumption) (by omega) | exact zS0_at rfl (by omega)) (by first | assumption | ((try simp (disch := omega) only [zu_same, zu_ne, zcp_ne, zfl_ne]); first | assumption | rfl)) ?_
        refine z_if_eq (tgt := 122) d_YearsR_readInto_109 (by decide) (fun hd => ?_) (fun hd => ?_)
        · have hd : dp = 0 := (nI_eq (by omega) (by omega)).mp (by rw [nI_0]; exact hd)
          rw [if_pos hd]
          refine z_iconst (a := nI 1) d_YearsR_readInto_122 (by decide) ?_
          refine z_goto (tgt := 127) d_YearsR_readInto_123 (by decide) ?_
          refine z_retz d_YearsR_readInto_127 (by first | exact zb0 | exact zb1 | assumption) ?_
          exact ⟨rfl, hd, t, I2, J2, rfl, fr2, gr2, C2⟩
        · have hd : ¬ dp = 0 := fun h => hd (by rw [h, nI_0])
          rw [if_neg hd]
          refine z_aload_0 d_YearsR_readInto_112 ?_
          refine z_getR d_YearsR_readInto_113 f_YearsR_15 (by first | assumption | exact zS0_at (by assumption) (by omega) | exact zS0_at rfl (by omega)) (by first | assumption | exact zS0_at (by assumption) (by omega) | exact zS0_at rfl (by omega)) ?_
          refine z_Vi0 d_YearsR_readInto_116 k_YearsR_55 (by first | assumption | exact zS0_at (by assumption) (by omega) | exact zS0_at rfl (by omega)) (t_Tok_misplaced C2.1) ⟨Nat.le_of_ble_eq_true rfl, Nat.le_of_ble_eq_true rfl, Nat.le_of_ble_eq_true rfl, Nat.le_of_ble_eq_true rfl⟩ (Nat.le_of_ble_eq_true rfl) ?_
          intro r w hq
          obtain ⟨rfl, hq⟩ := hq
          obtain ⟨I9, J9, rfl, hq2⟩ := yrE_t fr2 gr2 (yrE_tk hq)
          refine z_if_eq (tgt := 126) d_YearsR_readInto_119 (by decide) (fun _ => ?_) (fun h => absurd (by decide) h)
          refine z_iconst (a := nI 0) d_YearsR_readInto_126 (by decide) ?_
          refine z_retz d_YearsR_readInto_127 (by first | exact zb0 | exact zb1 | assumption) ?_
          exact ⟨rfl, I9, J9, rfl, hq2⟩
      refine z_iload_5 d_YearsR_readInto_27 ?_
      refine z_sipush (a := nI 300) d_YearsR_readInto_29 (by decide) ?_
      refine z_icmp_ge (tgt := 105) d_YearsR_readInto_32 (by decide) (fun hb => ?_) (fun hb => ?_)
      · have hb := (nI_leI (by omega) (by omega)).mp hb
        obtain rfl : j = 300 := by omega
        exact hz hI
      · have hb : j < 300 := Nat.lt_of_not_le (fun q => hb (nI_le q (by omega)))
        rw [show 300 - j = (300 - (j + 1)) + 1 by omega, y_parts] at hI
        refine z_aload_0 d_YearsR_readInto_35 ?_
        refine z_getR d_YearsR_readInto_36 f_YearsR_15 (by first | assumption | exact zS0_at (by assumption) (by omega) | exact zS0_at rfl (by omega)) (by first | assumption | exact zS0_at (by assumption) (by omega) | exact zS0_at rfl (by omega)) ?_
        refine z_getIv d_YearsR_readInto_39 f_YearsR_38 (by first | assumption | exact zS0_at (by assumption) (by omega) | exact zS0_at rfl (by omega)) (by first | assumption | ((try simp (disch := omega) only [zu_same, zu_ne, zcp_ne, zfl_ne]); first | assumption | rfl)) ?_
        refine z_if_eq (tgt := 105) d_YearsR_readInto_42 (by decide) (fun hc => ?_) (fun hc => ?_)
        · have hc : tkd t = 0 := (nI_eq (by omega) (by omega)).mp (by rw [nI_0]; exact hc)
          rw [if_pos hc] at hI
          exact hz (by rw [y_parts]; exact hI)
        · have hc : ¬ tkd t = 0 := fun h => hc (by rw [h, nI_0])
          rw [if_neg hc] at hI
          unfold y_it at hI
          have nxt : ∀ (x : yS × tk) (w : zW), yrN (I 1) (J 13) ln f g n I2 J2 (zu P 11 0 (some 1)) S x w → y_parts (tA (I 1) ln (J 13)) n (300 - (j + 1)) x.1 x.2 = y_all (I 1) ln (J 13) n (sf g I) → ∀ o : Int32, zA G y_YearsR_readInto prog_12_method_2_code 7 (some .boolean) (zRm 7 0 0) (zM G 0 0 (fun r w' => ∃ x, r = some (.int x) ∧ (fun r w => pQ (y_all (I 1) ln (J 13) n (sf g I)) (fun e => r = nI 0 ∧ yrE g I J (zu P 11 0 (some 1)) S e w) (fun s => r = nI 1 ∧ s.1.2.2 = 0 ∧ ∃ t, yrN (I 1) (J 13) ln f g n I J (zu P 11 0 (some 1)) S (s, t) w)) x w')) 99 [some (.ref 16), some (.ref g), some (.ref f), some (.ref 1), some (.int (nI ln)), some (.int (nI j)), some (.int o)] [] w 0 0 := by
            intro x w hN hx o
            obtain ⟨I3, J3, rfl, fr3, gr3, C3⟩ := yrN_t fr2 gr2 hN
            first | refine z_iinc_5 d_YearsR_readInto_99 rfl (zi_inc _) ?_ | refine z_iinc_5 d_YearsR_readInto_99 rfl rfl ?_
            refine z_goto (tgt := 27) d_YearsR_readInto_102 (by decide) ?_
            refine z_forget_6 ?_
            exact ih (j + 1) (by omega) (by omega) x.1 x.2 I3 J3 fr3 gr3 C3 hx
          refine z_aload_0 d_YearsR_readInto_45 ?_
          refine z_getR d_YearsR_readInto_46 f_YearsR_15 (by first | assumption | exact zS0_at (by assumption) (by omega) | exact zS0_at rfl (by omega)) (by first | assumption | exact zS0_at (by assumption) (by omega) | exact zS0_at rfl (by omega)) ?_
          refine z_getIv d_YearsR_readInto_49 f_YearsR_41 (by first | assumption | exact zS0_at (by assumption) (by omega) | exact zS0_at rfl (by omega)) (by first | assumption | ((try simp (disch := omega) only [zu_same, zu_ne, zcp_ne, zfl_ne]); first | assumption | rfl)) ?_
          refine z_bipush (a := nI 19) d_YearsR_readInto_52 (by decide) ?_
          refine z_icmp_ne (tgt := 61) d_YearsR_readInto_54 (by decide) (fun he => ?_) (fun he => ?_)
          · rw [if_neg he] at hI
            refine z_iconst (a := nI 0) d_YearsR_readInto_61 (by decide) ?_
            first | refine z_istore_6 d_YearsR_readInto_62 rfl ?_ | (refine z_forget_5 ?_; refine z_istore_6 d_YearsR_readInto_62 rfl ?_)
            refine z_iload_6 d_YearsR_readInto_64 ?_
            refine z_if_eq (tgt := 80) d_YearsR_readInto_66 (by decide) (fun _ => ?_) (fun h => absurd (by decide) h)
            refine z_aload_0 d_YearsR_readInto_80 ?_
            refine z_aload_1 d_YearsR_readInto_81 ?_
            refine z_Vi1 d_YearsR_readInto_82 k_YearsR_48 (by first | assumption | exact zS0_at (by assumption) (by omega) | exact zS0_at rfl (by omega)) (t_YearsR_mayBegin C2) ⟨Nat.le_of_ble_eq_true rfl, Nat.le_of_ble_eq_true rfl, Nat.le_of_ble_eq_true rfl, Nat.le_of_ble_eq_true rfl⟩ (Nat.le_of_ble_eq_true rfl) ?_
            intro r w hq
            rcases hx : y_beg ((ns, sz, dp), op, A) t with e | v <;> rw [hx] at hq hI <;> dsimp only [pb] at hI
            · obtain ⟨rfl, hq⟩ := hq
              obtain ⟨I9, J9, rfl, hq2⟩ := yrE_t fr2 gr2 (yrE_tk hq)
              rw [← hI]
              refine z_if_eq (tgt := 97) d_YearsR_readInto_85 (by decide) (fun _ => ?_) (fun h => absurd (by decide) h)
              refine z_iconst (a := nI 0) d_YearsR_readInto_97 (by decide) ?_
              refine z_retz d_YearsR_readInto_98 (by first | exact zb0 | exact zb1 | assumption) ?_
              exact ⟨rfl, I9, J9, rfl, hq2⟩
            · obtain ⟨rfl, rfl⟩ := hq
              have hbg : y_word t ∧ ns < 30 ∧ (y_opens t → dp < 3) := by
                unfold y_beg at hx
                dsimp only at hx
                split at hx
                · rename_i hw
                  split at hx
                  · cases hx
                  · split at hx
                    · cases hx
                    · rename_i h5 h6
                      exact ⟨hw, by omega, fun ho => by
                        rcases Nat.lt_or_ge dp 3 with h | h
                        · exact h
                        · exact absurd ⟨ho, h⟩ h6⟩
                · cases hx
              refine z_if_eq (tgt := 97) d_YearsR_readInto_85 (by decide) (fun h => absurd h (by decide)) (fun _ => ?_)
              refine z_aload_0 d_YearsR_readInto_88 ?_
              refine z_aload_1 d_YearsR_readInto_89 ?_
              refine z_aload_2 d_YearsR_readInto_90 ?_
              refine z_Vi2 d_YearsR_readInto_91 k_YearsR_51 (by first | assumption | exact zS0_at (by assumption) (by omega) | exact zS0_at rfl (by omega)) (t_YearsR_readStep C2 hbg.1 hbg.2.1 hbg.2.2) ⟨Nat.le_of_ble_eq_true rfl, Nat.le_of_ble_eq_true rfl, Nat.le_of_ble_eq_true rfl, Nat.le_of_ble_eq_true rfl⟩ (Nat.le_of_ble_eq_true rfl) ?_
              intro r w hq
              rcases hx2 : y_step (tA (I 1) ln (J 13)) n ((ns, sz, dp), op, A) t with e | v <;> rw [hx2] at hq hI <;> dsimp only [pb] at hI
              · obtain ⟨rfl, hq⟩ := hq
                obtain ⟨I9, J9, rfl, hq2⟩ := yrE_t fr2 gr2 hq
                rw [← hI]
                refine z_if_ne (tgt := 99) d_YearsR_readInto_94 (by decide) (fun h => absurd (by decide) h) (fun _ => ?_)
                refine z_iconst (a := nI 0) d_YearsR_readInto_97 (by decide) ?_
                refine z_retz d_YearsR_readInto_98 (by first | exact zb0 | exact zb1 | assumption) ?_
                exact ⟨rfl, I9, J9, rfl, hq2⟩
              · obtain ⟨rfl, hq⟩ := hq
                obtain ⟨I3, J3, hw3, -⟩ := id hq
                subst hw3
                refine z_if_ne (tgt := 99) d_YearsR_readInto_94 (by decide) (fun _ => ?_) (fun h => absurd h (by decide))
                exact nxt v _ hq hI _
          · rw [if_pos he] at hI
            refine z_iconst (a := nI 1) d_YearsR_readInto_57 (by decide) ?_
            refine z_goto (tgt := 62) d_YearsR_readInto_58 (by decide) ?_
            first | refine z_istore_6 d_YearsR_readInto_62 rfl ?_ | (refine z_forget_5 ?_; refine z_istore_6 d_YearsR_readInto_62 rfl ?_)
            refine z_iload_6 d_YearsR_readInto_64 ?_
            refine z_if_eq (tgt := 80) d_YearsR_readInto_66 (by decide) (fun h => absurd h (by decide)) (fun _ => ?_)
            refine z_aload_0 d_YearsR_readInto_69 ?_
            refine z_aload_1 d_YearsR_readInto_70 ?_
            refine z_Vi1 d_YearsR_readInto_71 k_YearsR_44 (by first | assumption | exact zS0_at (by assumption) (by omega) | exact zS0_at rfl (by omega)) (t_YearsR_readEnd C2) ⟨Nat.le_of_ble_eq_true rfl, Nat.le_of_ble_eq_true rfl, Nat.le_of_ble_eq_true rfl, Nat.le_of_ble_eq_true rfl⟩ (Nat.le_of_ble_eq_true rfl) ?_
            intro r w hq
            rcases hx2 : y_end (tA (I 1) ln (J 13)) ((ns, sz, dp), op, A) t with e | v <;> rw [hx2] at hq hI <;> dsimp only [pb] at hI
            · obtain ⟨rfl, hq⟩ := hq
              obtain ⟨I9, J9, rfl, hq2⟩ := yrE_t fr2 gr2 hq
              rw [← hI]
              refine z_if_ne (tgt := 99) d_YearsR_readInto_74 (by decide) (fun h => absurd (by decide) h) (fun _ => ?_)
              refine z_goto (tgt := 97) d_YearsR_readInto_77 (by decide) ?_
              refine z_iconst (a := nI 0) d_YearsR_readInto_97 (by decide) ?_
              refine z_retz d_YearsR_readInto_98 (by first | exact zb0 | exact zb1 | assumption) ?_
              exact ⟨rfl, I9, J9, rfl, hq2⟩
            · obtain ⟨rfl, hq⟩ := hq
              obtain ⟨I3, J3, hw3, -⟩ := id hq
              subst hw3
              refine z_if_ne (tgt := 99) d_YearsR_readInto_74 (by decide) (fun _ => ?_) (fun h => absurd h (by decide))
              exact nxt v _ hq hI _
  refine z_iconst (a := nI 0) d_YearsR_readInto_24 (by decide) ?_
  first | refine z_istore_5 d_YearsR_readInto_25 rfl ?_ | (refine z_forget_4 ?_; refine z_istore_5 d_YearsR_readInto_25 rfl ?_)
  exact loop 301 0 (by omega) (by omega) _ _ I1 J1 fr1 gr1 C1 rfl
end YR3
