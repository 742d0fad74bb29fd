/-! settle: the class -/
section GC0
variable {G : zG} {I I' I1 I2 I3 : Nat → Nat → Int32} {J J' J2 : Nat → Nat → Int64} {P : Nat → Nat → Option Nat} {S : List (Nat × Nat)} {f d dd nt np nl nn n t k p q s i mv ot one T : Nat} {a b : Int32} {w : zW} {mt mt' tk tk' C C' : Nat → Int32} {g : Nat → Nat} {kk : Nat → Nat} {bb bb' : Nat → Bool} {v v' : Nat → Int} {x x' : Int} {o : Option Nat}
theorem gaA_skip : ∀ m, (∀ i, n ≤ i → i < n + m → bb i = false) → gaA bb v (n + m) = gaA bb v n := by
  intro m
  induction m with
  | zero => intro _; rfl
  | succ m ih =>
    intro h
    rw [← Nat.add_assoc, gaA_f (h _ (by omega) (by omega)), ih (fun i h1 h2 => h i h1 (by omega))]
theorem gaIs_c (h : ∀ k, k < 63 → bb' k = bb k) (hv : ∀ k, k < 63 → bb k = true → v' k = v k) (hx : x' = x) (ho : gaIs bb' v' x' o) : gaIs bb v x o := by
  cases o with
  | none =>
    intro k h1 h2
    have := ho k h1 ((h k h1).trans h2)
    rw [hv k h1 h2, hx] at this
    exact this
  | some k =>
    obtain ⟨⟨a1, a2, a3⟩, a4, a5⟩ := ho
    have b2 : bb k = true := (h k a1).symm.trans a2
    rw [hv k a1 b2] at a3 a4 a5
    refine ⟨⟨a1, b2, by rw [← hx]; exact a3⟩, fun i h1 h2 => ?_, fun i h1 h2 => ?_⟩
    · have := a4 i h1 ((h i h1).trans h2)
      rw [hv i h1 h2] at this; exact this
    · have := a5 i h1 ((h i (by omega)).trans h2)
      rw [hv i (by omega) h2] at this; exact this
def gaT : Option Nat → Int32
  | none => -1
  | some k => nI (k / 7)
def gaP : Option Nat → Int32
  | none => -1
  | some k => nI (k % 7)
def bV (v : Nat → Int) : Option Nat → Int32
  | none => nI 0
  | some k => zI (v k)
theorem k7_nn {k : Nat} (h : k < 63) : ¬ nI (k / 7) < 0 := by
  rw [← nI_0, nI_ltI (by omega) (by omega)]
  omega
/-- what settle tells -/
def seQ (nn : Nat) (mt tk : Nat → Int32) (g : Nat → Nat) (C : Nat → Int32) (one ot T : Nat) (r : Int32) (I' : Nat → Nat → Int32) : Prop := r = zI (gaB nn mt tk g T C one ot) ∧ ∀ d, T = d + 1 → ∃ o, gaIs (gaOk nn mt tk C one) (gaV nn mt tk g d C one ot) (-gaB nn mt tk g d C ot one) o ∧ I' 141 0 = gaT o ∧ I' 141 1 = gaP o
theorem t_Game_settle (Z : clOk f dd P S) (N : fenIn I f nt np nl nn) (hK : ∀ t, t < nn → I (f + 5) t = nI (kk t) ∧ kk t < 6) (hW : ∀ t, t < nn → I (f + 1) (kk t) = nI (g t) ∧ g t ≤ 99) (htk : tk = fun t => s_set (fun q => zB (I (f + 2) q) (kk t)) np) (h1 : one < np) (h2 : ot < np) (hT : T ≤ 3) : zEi G y_Game_settle prog_4_method_2_code 10 (some .int) 9 [.ref 141, .ref f, .int (nI one), .int (nI ot), .int (nI T)] (I, J, P, S) (fun r w => ∃ I', w = (I', J, P, S) ∧ (∀ a, ¬ (141 ≤ a ∧ a ≤ 144) → I' a = I a) ∧ seQ nn (I (f + 3)) tk g (I (f + 6)) one ot T r I') := by
  have hf := clOk_f Z
  obtain ⟨⟨c0, c3, c1s⟩, ⟨c5, c2s, ctr⟩, ⟨c6, c11s, c11, c13s⟩, ⟨c7, c15s, c15⟩, ⟨c8, c16s, c16a, c16b, c17s⟩, ⟨c9, c10, cfd, F, Fd⟩, ⟨c11b, Ft⟩, ⟨c12, c69s, cmk⟩, ⟨c14, c121s, c121, c122s⟩, ⟨c15b, c123s, c123, c124s⟩, ⟨c16, c125s, c125, c126s⟩, ⟨c17, c127s, c127, c128s, ctb⟩, ⟨c18, c139s, c139, c140s⟩, ⟨c19, c141s, ⟨c141a, c142s⟩, ⟨c141b, c143s⟩, ⟨c141c, c144s⟩⟩, M⟩ := id Z
  obtain ⟨F0, ⟨F8, F8s⟩, ⟨F9, F9s⟩, ⟨F10, F10s⟩, ⟨F11, F11s⟩, ⟨F12, F12s⟩, ⟨F13, F13s⟩, ⟨F14, F14s⟩, ⟨F15, F15s⟩, ⟨F16, F16s⟩, ⟨F17, F17s⟩, ⟨F18, F18s⟩, ⟨F19, F19s⟩, ⟨Y3, Y3s⟩, ⟨Y4, Y4s⟩, ⟨Y5, Y5s⟩, ⟨Y6, Y6s⟩⟩ := id F
  obtain ⟨⟨n1, n1b⟩, ⟨n2, n2b⟩, ⟨n3, n3b⟩, ⟨n4, n4b⟩, nof, non⟩ := id N
  have K : gmS nn np tk g := ⟨n4b, n2b, fun t ht => (hW t ht).2, fun t ht i hi q => by rw [htk] at q; exact set_lt n2b i hi q⟩
  obtain ⟨mt, hmt⟩ : ∃ mt, mt = I (f + 3) := ⟨_, rfl⟩
  rw [← hmt]
  obtain ⟨C, hC⟩ : ∃ C, C = I (f + 6) := ⟨_, rfl⟩
  rw [← hC]
  refine zEi_of (lv := [some (.ref 141), some (.ref f), some (.int (nI one)), some (.int (nI ot)), some (.int (nI T)), none, none, none, none, none]) (by decide) rfl (Nat.le_of_ble_eq_true rfl) ?_
  have l2 : ∀ I2, (∀ a, ¬ (141 ≤ a ∧ a ≤ 144) → I2 a = I a) → I2 141 5 = nI nn → (∀ t, t < nn → I2 142 t = C t ∧ I2 143 t = tk t ∧ I2 144 t = nI (g t)) → zA G y_Game_settle prog_4_method_2_code 10 (some .int) (zRm 9 0 0) (zM G 0 0 (fun r w' => ∃ x, r = some (.int x) ∧ (fun r w => ∃ I', w = (I', J, P, S) ∧ (∀ a, ¬ (141 ≤ a ∧ a ≤ 144) → I' a = I a) ∧ seQ nn mt tk g C one ot T r I') x w')) 72 [some (.ref 141), some (.ref f), some (.int (nI one)), some (.int (nI ot)), some (.int (nI T)), none, none, none, none, none] [] (I2, J, P, S) 0 0 := by
    intro I2 g1 g2 g3
    refine z_aload_0 d_Game_settle_72 ?_
    refine z_iconst (a := -1) d_Game_settle_73 (by decide) ?_
    refine z_putI d_Game_settle_74 f_Game_41 (by first | assumption | exact zS0_at (by assumption) (by omega) | exact zS0_at rfl (by omega)) ?_
    refine z_aload_0 d_Game_settle_77 ?_
    refine z_iconst (a := -1) d_Game_settle_78 (by decide) ?_
    refine z_putI d_Game_settle_79 f_Game_44 (by first | assumption | exact zS0_at (by assumption) (by omega) | exact zS0_at rfl (by omega)) ?_
    refine z_iload_4 d_Game_settle_82 ?_
    refine z_iconst (a := nI 1) d_Game_settle_84 (by decide) ?_
    refine z_icmp_ge (tgt := 90) d_Game_settle_85 (by decide) (fun hb => ?_) (fun hb => ?_)
    rotate_left
    ·
      have hb : T = 0 := by
        rcases Nat.eq_zero_or_pos T with h | h
        · exact h
        · exact absurd (nI_le h (by omega)) hb
      refine z_iconst (a := nI 0) d_Game_settle_88 (by decide) ?_
      refine z_reti d_Game_settle_89 ?_
      refine ⟨_, rfl, fun a ha => ?_, ?_, fun d hd => by omega⟩
      · rw [zu_row _ _ _ _ (by omega), zu_row _ _ _ _ (by omega)]; exact g1 a ha
      · rw [hb, gaB]; decide
    have hb := (nI_leI (by omega) (by omega)).mp hb
    obtain ⟨d, hd⟩ : ∃ d, T = d + 1 := ⟨T - 1, by omega⟩
    subst hd
    obtain ⟨W, hW0⟩ : ∃ W, W = I2 142 := ⟨_, rfl⟩
    have eW : ∀ t, t < nn → W t = C t := fun t ht => by rw [hW0]; exact (g3 t ht).1
    obtain ⟨bb, hbb⟩ : ∃ bb : Nat → Bool, bb = gaOk nn mt tk W one := ⟨_, rfl⟩
    obtain ⟨vv, hvv⟩ : ∃ vv : Nat → Int, vv = gaV nn mt tk g d W one ot := ⟨_, rfl⟩
    obtain ⟨x0, hx0⟩ : ∃ x0 : Int, x0 = -gaB nn mt tk g d W ot one := ⟨_, rfl⟩
    have bx : -400 ≤ x0 ∧ x0 ≤ 400 := by
      have b0 := gaB_bd (mt := mt) (tk := tk) (fun t ht => (hW t ht).2) d W ot one
      rw [hx0]; omega
    have bv : ∀ k, bb k = true → -400 ≤ vv k ∧ vv k ≤ 400 := fun k hb => by
      rw [hbb] at hb
      have := gaV_bd (d := d) (ot := ot) (fun t ht => (hW t ht).2) hb
      rw [hvv]; omega
    have gI : ∀ I3 : Nat → Nat → Int32, (∀ a, a ≠ 141 → I3 a = I2 a) → I3 141 5 = nI nn → gmI f nn np mt tk g I3 := fun I3 e1 e2 => ⟨e2, fun t ht => by rw [e1 143 (by decide)]; exact (g3 t ht).2.1, fun t ht => by rw [e1 144 (by decide)]; exact (g3 t ht).2.2, fun p hp => by rw [e1 (f + 3) (by omega), g1 (f + 3) (by omega), hmt], by rw [e1 f (by omega), g1 f (by omega)]; exact n2⟩
    have fin : ∀ (I3 : Nat → Nat → Int32) (o : Option Nat) (y : Int32), (∀ a, a ≠ 141 → I3 a = I2 a) → gaIs bb vv x0 o → I3 141 0 = gaT o → I3 141 1 = gaP o → zA G y_Game_settle prog_4_method_2_code 10 (some .int) (zRm 9 0 0) (zM G 0 0 (fun r w' => ∃ x, r = some (.int x) ∧ (fun r w => ∃ I', w = (I', J, P, S) ∧ (∀ a, ¬ (141 ≤ a ∧ a ≤ 144) → I' a = I a) ∧ seQ nn mt tk g C one ot (d + 1) r I') x w')) 256 [some (.ref 141), some (.ref f), some (.int (nI one)), some (.int (nI ot)), some (.int (nI (d + 1))), some (.int (zI (gaW vv x0 o))), some (.int y), none, none, none] [] (I3, J, P, S) 0 0 := by
      intro I3 o y e1 e2 e3 e4
      refine z_iload_5 d_Game_settle_256 ?_
      refine z_reti d_Game_settle_258 ?_
      refine ⟨_, rfl, fun a ha => (e1 a (by omega)).trans (g1 a ha), ?_, fun d' hd' => ⟨o, ?_, e3, e4⟩⟩
      · rw [gaIs_w e2, hbb, hvv, hx0, ← gaB_s, gaB_c (tk := tk) (g := g) (fun t ht => rfl) (fun t ht => rfl) (d + 1) C W one ot eW rfl rfl]
      · obtain rfl : d = d' := by omega
        refine gaIs_c (fun k hk => ?_) (fun k hk hb => ?_) ?_ e2
        · rw [hbb]; exact gaOk_c eW (fun t ht => rfl) rfl
        · rw [hvv]; exact gaV_c (fun t ht => rfl) (fun t ht => rfl) eW rfl rfl (gaOk_lt hb)
        · rw [hx0, gaB_c (tk := tk) (g := g) (fun t ht => rfl) (fun t ht => rfl) d C W ot one eW rfl rfl]
    have l4 : ∀ I3, (∀ a, a ≠ 141 → I3 a = I2 a) → I3 141 5 = nI nn → I3 141 0 = gaT (gaA bb vv 63) → I3 141 1 = gaP (gaA bb vv 63) → zA G y_Game_settle prog_4_method_2_code 10 (some .int) (zRm 9 0 0) (zM G 0 0 (fun r w' => ∃ x, r = some (.int x) ∧ (fun r w => ∃ I', w = (I', J, P, S) ∧ (∀ a, ¬ (141 ≤ a ∧ a ≤ 144) → I' a = I a) ∧ seQ nn mt tk g C one ot (d + 1) r I') x w')) 214 [some (.ref 141), some (.ref f), some (.int (nI one)), some (.int (nI ot)), some (.int (nI (d + 1))), some (.int (bV vv (gaA bb vv 63))), none, none, none, none] [] (I3, J, P, S) 0 0 := by
      intro I3 e1 e2 e3 e4
      refine z_aload_0 d_Game_settle_214 ?_
      refine z_aload_1 d_Game_settle_215 ?_
      refine z_iload_3 d_Game_settle_216 ?_
      refine z_iload_2 d_Game_settle_217 ?_
      refine z_iload_4 d_Game_settle_218 ?_
      refine z_iconst (a := nI 1) d_Game_settle_220 (by decide) ?_
      first | refine z_isubN d_Game_settle_221 (by omega) ?_ | refine z_isub d_Game_settle_221 ?_
      rw [Nat.add_sub_cancel]
      refine z_Vi4 d_Game_settle_222 k_Game_57 (by first | assumption | exact zS0_at (by assumption) (by omega) | exact zS0_at rfl (by omega)) (t_Game_best Z K d I3 ot one (by omega) (gI I3 e1 e2) (by omega) (by omega)) (by refine ⟨?_, ?_, ?_, ?_⟩ <;> simp only [zRm] <;> omega) (Nat.le_of_ble_eq_true rfl) ?_
      intro r w hq
      obtain ⟨rfl, rfl⟩ := hq
      rw [e1 142 (by decide), ← hW0]
      refine z_ineg d_Game_settle_225 ?_
      rw [zI_neg, ← hx0]
      have hE := gaE_is (bb := bb) (v := vv) (x := x0)
      have idle : gaE vv x0 (gaA bb vv 63) = none → zA G y_Game_settle prog_4_method_2_code 10 (some .int) (zRm 9 0 0) (zM G 0 0 (fun r w' => ∃ x, r = some (.int x) ∧ (fun r w => ∃ I', w = (I', J, P, S) ∧ (∀ a, ¬ (141 ≤ a ∧ a ≤ 144) → I' a = I a) ∧ seQ nn mt tk g C one ot (d + 1) r I') x w')) 242 [some (.ref 141), some (.ref f), some (.int (nI one)), some (.int (nI ot)), some (.int (nI (d + 1))), some (.int (bV vv (gaA bb vv 63))), some (.int (zI x0)), none, none, none] [] (I3, J, P, S) 0 0 := by
        intro h
        rw [h] at hE
        refine z_iload_6 d_Game_settle_242 ?_
        first | refine z_istore_5 d_Game_settle_244 rfl ?_ | (refine z_forget_4 ?_; refine z_istore_5 d_Game_settle_244 rfl ?_)
        refine z_aload_0 d_Game_settle_246 ?_
        refine z_iconst (a := -1) d_Game_settle_247 (by decide) ?_
        refine z_putI d_Game_settle_248 f_Game_41 (by first | assumption | exact zS0_at (by assumption) (by omega) | exact zS0_at rfl (by omega)) ?_
        refine z_aload_0 d_Game_settle_251 ?_
        refine z_iconst (a := -1) d_Game_settle_252 (by decide) ?_
        refine z_putI d_Game_settle_253 f_Game_44 (by first | assumption | exact zS0_at (by assumption) (by omega) | exact zS0_at rfl (by omega)) ?_
        refine fin _ none _ (fun a ha => ?_) hE ?_ (zu_same _ _ _ _)
        · rw [zu_row _ _ _ _ ha, zu_row _ _ _ _ ha]; exact e1 a ha
        · rw [zu_ne _ _ _ _ (by decide), zu_same]; rfl
      cases hk : gaA bb vv 63 with
      | none =>
        rw [hk] at idle e3
        have e3 : I3 141 0 = -1 := e3
        first | refine z_istore_6 d_Game_settle_226 rfl ?_ | (refine z_forget_5 ?_; refine z_istore_6 d_Game_settle_226 rfl ?_)
        refine z_aload_0 d_Game_settle_228 ?_
        refine z_getIv d_Game_settle_229 f_Game_41 (by first | assumption | exact zS0_at (by assumption) (by omega) | exact zS0_at rfl (by omega)) (by first | assumption | ((try simp (disch := omega) only [zu_same, zu_ne, zcp_ne, zfl_ne]); first | assumption | rfl)) ?_
        refine z_if_lt (tgt := 242) d_Game_settle_232 (by decide) (fun _ => ?_) (fun h => absurd (by decide) h)
        exact idle rfl
      | some k =>
        have hAi := gaA_is (bb := bb) (v := vv) 63
        rw [hk] at hAi idle hE e3 e4
        have hAi : (k < 63 ∧ bb k = true) ∧ (∀ i, i < 63 → bb i = true → vv i ≤ vv k) ∧ ∀ i, i < k → bb i = true → vv i < vv k := hAi
        have b1 := bv k hAi.1.2
        have e5 : I3 141 0 = nI (k / 7) := e3
        first | refine z_istore_6 d_Game_settle_226 rfl ?_ | (refine z_forget_5 ?_; refine z_istore_6 d_Game_settle_226 rfl ?_)
        refine z_aload_0 d_Game_settle_228 ?_
        refine z_getIv d_Game_settle_229 f_Game_41 (by first | assumption | exact zS0_at (by assumption) (by omega) | exact zS0_at rfl (by omega)) (by first | assumption | ((try simp (disch := omega) only [zu_same, zu_ne, zcp_ne, zfl_ne]); first | assumption | rfl)) ?_
        refine z_if_lt (tgt := 242) d_Game_settle_232 (by decide) (fun h => absurd h (k7_nn hAi.1.1)) (fun _ => ?_)
        refine z_iload_6 d_Game_settle_235 ?_
        refine z_iload_5 d_Game_settle_237 ?_
        refine z_icmp_le (tgt := 256) d_Game_settle_239 (by decide) (fun hc => ?_) (fun hc => ?_)
        · have hc := (zI_le (by omega) (by omega)).mp hc
          rw [show gaE vv x0 (some k) = some k from if_neg (by omega)] at hE
          exact fin I3 (some k) _ e1 hE e3 e4
        · refine idle (if_pos ?_)
          rcases Int.lt_or_le (vv k) x0 with h | h
          · exact h
          · exact absurd ((zI_le (by omega) (by omega)).mpr h) hc
    have l3 : ∀ m j I3, nn - j < m → j ≤ nn → (∀ a, a ≠ 141 → I3 a = I2 a) → I3 141 5 = nI nn → I3 141 0 = gaT (gaA bb vv (7 * j)) → I3 141 1 = gaP (gaA bb vv (7 * j)) → zA G y_Game_settle prog_4_method_2_code 10 (some .int) (zRm 9 0 0) (zM G 0 0 (fun r w' => ∃ x, r = some (.int x) ∧ (fun r w => ∃ I', w = (I', J, P, S) ∧ (∀ a, ¬ (141 ≤ a ∧ a ≤ 144) → I' a = I a) ∧ seQ nn mt tk g C one ot (d + 1) r I') x w')) 96 [some (.ref 141), some (.ref f), some (.int (nI one)), some (.int (nI ot)), some (.int (nI (d + 1))), some (.int (bV vv (gaA bb vv (7 * j)))), some (.int (nI j)), none, none, none] [] (I3, J, P, S) 0 0 := by
      intro m
      induction m with
      | zero => intro j I3 h; exact absurd h (Nat.not_lt_zero _)
      | succ m ih =>
        intro j I3 hm hj e1 e2 e3 e4
        refine z_iload_6 d_Game_settle_96 ?_
        refine z_aload_0 d_Game_settle_98 ?_
        refine z_getIv d_Game_settle_99 f_Game_27 (by first | assumption | exact zS0_at (by assumption) (by omega) | exact zS0_at rfl (by omega)) (by first | assumption | ((try simp (disch := omega) only [zu_same, zu_ne, zcp_ne, zfl_ne]); first | assumption | rfl)) ?_
        refine z_icmp_ge (tgt := 214) d_Game_settle_102 (by decide) (fun hb2 => ?_) (fun hb2 => ?_)
        · have hb2 := (nI_leI (by omega) (by omega)).mp hb2
          have e63 := gaA_skip (bb := bb) (v := vv) (n := 7 * j) (63 - 7 * j) (fun i q1 q2 => Bool.eq_false_iff.mpr (fun q => by rw [hbb] at q; have := gaOk_lt q; omega))
          rw [show 7 * j + (63 - 7 * j) = 63 by omega] at e63
          rw [← e63] at e3 e4 ⊢
          refine z_forget_6 ?_
          exact l4 I3 e1 e2 e3 e4
        · have hb2 : j < nn := Nat.lt_of_not_le (fun q => hb2 (nI_le q (by omega)))
          obtain ⟨op, hop⟩ : ∃ op, op = if W j = nI one then mt one &&& tk j else nI 0 := ⟨_, rfl⟩
          have ebb : ∀ i, i < 7 → bb (7 * j + i) = zB op i := fun i hi => by rw [hbb, gaOk_op hb2 hi, hop]
          have hnp : ∀ i, i < 32 → np ≤ i → zB op i = false := fun i hi hn => Bool.eq_false_iff.mpr (fun q => by
            rw [hop] at q
            by_cases hc : W j = nI one
            · rw [if_pos hc, zB_and (by omega), Bool.and_eq_true] at q
              have := K.2.2.2 j hb2 i (by omega) q.2; omega
            · rw [if_neg hc, zB_nI (by omega), Nat.zero_testBit] at q; cases q)
          have inn : ∀ z i I4, np - i < z → i ≤ np → (∀ a, a ≠ 141 → I4 a = I2 a) → I4 141 5 = nI nn → I4 141 0 = gaT (gaA bb vv (7 * j + i)) → I4 141 1 = gaP (gaA bb vv (7 * j + i)) → zA G y_Game_settle prog_4_method_2_code 10 (some .int) (zRm 9 0 0) (zM G 0 0 (fun r w' => ∃ x, r = some (.int x) ∧ (fun r w => ∃ I', w = (I', J, P, S) ∧ (∀ a, ¬ (141 ≤ a ∧ a ≤ 144) → I' a = I a) ∧ seQ nn mt tk g C one ot (d + 1) r I') x w')) 139 [some (.ref 141), some (.ref f), some (.int (nI one)), some (.int (nI ot)), some (.int (nI (d + 1))), some (.int (bV vv (gaA bb vv (7 * j + i)))), some (.int (nI j)), some (.int op), some (.int (nI i)), none] [] (I4, J, P, S) 0 0 := by
            intro z
            induction z with
            | zero => intro i I4 h; exact absurd h (Nat.not_lt_zero _)
            | succ z ihz =>
              intro i I4 hz hi f1 f2 f3 f4
              have n2' : I4 f 2 = nI np := by rw [f1 f (by omega), g1 f (by omega)]; exact n2
              refine z_iload_8 d_Game_settle_139 ?_
              refine z_aload_1 d_Game_settle_141 ?_
              refine z_getIv d_Game_settle_142 f_Game_50 (by first | assumption | exact zS0_at (by assumption) (by omega) | exact zS0_at rfl (by omega)) (by first | assumption | ((try simp (disch := omega) only [zu_same, zu_ne, zcp_ne, zfl_ne]); first | assumption | rfl)) ?_
              refine z_icmp_ge (tgt := 208) d_Game_settle_145 (by decide) (fun he => ?_) (fun he => ?_)
              · have he := (nI_leI (by omega) (by omega)).mp he
                have e := gaA_skip (bb := bb) (v := vv) (n := 7 * j + i) (7 - i) (fun k q1 q2 => by
                  have e1 := ebb (k - 7 * j) (by omega)
                  rw [show 7 * j + (k - 7 * j) = k by omega] at e1
                  rw [e1]
                  exact hnp _ (by omega) (by omega))
                rw [show 7 * j + i + (7 - i) = 7 * (j + 1) by omega] at e
                rw [← e] at f3 f4 ⊢
                first | refine z_iinc_6 d_Game_settle_208 rfl (zi_inc _) ?_ | refine z_iinc_6 d_Game_settle_208 rfl rfl ?_
                refine z_goto (tgt := 96) d_Game_settle_211 (by decide) ?_
                refine z_forget_7 ?_
                refine z_forget_8 ?_
                exact ih (j + 1) I4 (by omega) (by omega) f1 f2 f3 f4
              · have he : i < np := Nat.lt_of_not_le (fun q => he (nI_le q (by omega)))
                have qz := fun I5 => ihz (i + 1) I5 (by omega) (by omega)
                rw [show 7 * j + (i + 1) = 7 * j + i + 1 from rfl] at qz
                refine z_iload_7 d_Game_settle_148 ?_
                refine z_iload_8 d_Game_settle_150 ?_
                refine z_ishr d_Game_settle_152 ?_
                refine z_iconst (a := nI 1) d_Game_settle_153 (by decide) ?_
                refine z_iand d_Game_settle_154 ?_
                refine z_if_eq (tgt := 202) d_Game_settle_155 (by decide) (fun hz2 => ?_) (fun hz2 => ?_)
                · have hz2 : bb (7 * j + i) = false := by rw [ebb i (by omega)]; exact Bool.eq_false_iff.mpr (zbit_n.mp hz2)
                  rw [gaA_f hz2] at qz
                  first | refine z_iinc_8 d_Game_settle_202 rfl (zi_inc _) ?_ | refine z_iinc_8 d_Game_settle_202 rfl rfl ?_
                  refine z_goto (tgt := 139) d_Game_settle_205 (by decide) ?_
                  exact qz I4 f1 f2 f3 f4
                · have hz2 : bb (7 * j + i) = true := by rw [ebb i (by omega)]; exact zbit_p.mp hz2
                  have hok : gaOk nn mt tk W one (7 * j + i) = true := by rw [← hbb]; exact hz2
                  have hCj : I4 142 j = nI one := by
                    have := gaOk_at hok
                    rw [show (7 * j + i) / 7 = j by omega] at this
                    rw [f1 142 (by decide), ← hW0]
                    exact this
                  have ev : ((g j : Int) - gaB nn mt tk g d (gaU W j (nI i)) ot one) = vv (7 * j + i) := by
                    rw [hvv]
                    unfold gaV
                    rw [show (7 * j + i) / 7 = j by omega, show (7 * j + i) % 7 = i by omega]
                  have b2 := bv _ hz2
                  have new : gaA bb vv (7 * j + i + 1) = some (7 * j + i) → zA G y_Game_settle prog_4_method_2_code 10 (some .int) (zRm 9 0 0) (zM G 0 0 (fun r w' => ∃ x, r = some (.int x) ∧ (fun r w => ∃ I', w = (I', J, P, S) ∧ (∀ a, ¬ (141 ≤ a ∧ a ≤ 144) → I' a = I a) ∧ seQ nn mt tk g C one ot (d + 1) r I') x w')) 186 [some (.ref 141), some (.ref f), some (.int (nI one)), some (.int (nI ot)), some (.int (nI (d + 1))), some (.int (bV vv (gaA bb vv (7 * j + i)))), some (.int (nI j)), some (.int op), some (.int (nI i)), some (.int (zI (vv (7 * j + i))))] [] (I4, J, P, S) 0 0 := by
                    intro hn
                    rw [hn] at qz
                    refine z_iload_9 d_Game_settle_186 ?_
                    first | refine z_istore_5 d_Game_settle_188 rfl ?_ | (refine z_forget_4 ?_; refine z_istore_5 d_Game_settle_188 rfl ?_)
                    refine z_aload_0 d_Game_settle_190 ?_
                    refine z_iload_6 d_Game_settle_191 ?_
                    refine z_putI d_Game_settle_193 f_Game_41 (by first | assumption | exact zS0_at (by assumption) (by omega) | exact zS0_at rfl (by omega)) ?_
                    refine z_aload_0 d_Game_settle_196 ?_
                    refine z_iload_8 d_Game_settle_197 ?_
                    refine z_putI d_Game_settle_199 f_Game_44 (by first | assumption | exact zS0_at (by assumption) (by omega) | exact zS0_at rfl (by omega)) ?_
                    first | refine z_iinc_8 d_Game_settle_202 rfl (zi_inc _) ?_ | refine z_iinc_8 d_Game_settle_202 rfl rfl ?_
                    refine z_goto (tgt := 139) d_Game_settle_205 (by decide) ?_
                    refine z_forget_9 ?_
                    refine qz _ (fun a ha => ?_) ?_ ?_ ?_
                    · rw [zu_row _ _ _ _ ha, zu_row _ _ _ _ ha]; exact f1 a ha
                    · rw [zu_ne _ _ _ _ (by decide), zu_ne _ _ _ _ (by decide)]; exact f2
                    · rw [zu_ne _ _ _ _ (by decide), zu_same]
                      show nI j = nI ((7 * j + i) / 7)
                      rw [show (7 * j + i) / 7 = j by omega]
                    · rw [zu_same]
                      show nI i = nI ((7 * j + i) % 7)
                      rw [show (7 * j + i) % 7 = i by omega]
                  refine z_aload_0 d_Game_settle_158 ?_
                  refine z_aload_1 d_Game_settle_159 ?_
                  refine z_iload_6 d_Game_settle_160 ?_
                  refine z_iload_8 d_Game_settle_162 ?_
                  refine z_iload_3 d_Game_settle_164 ?_
                  refine z_iload_4 d_Game_settle_165 ?_
                  refine z_Vi5 d_Game_settle_167 k_Game_53 (by first | assumption | exact zS0_at (by assumption) (by omega) | exact zS0_at rfl (by omega)) (t_Game_after (d := d) (mt := mt) (tk := tk) (g := g) (nn := nn) (np := np) (mv := one) Z K (gI I4 f1 f2) (by omega) (fun I mv ot q1 q2 q3 => t_Game_best Z K d I mv ot (by omega) q1 q2 q3) hb2 hCj (by omega) (by omega) (by omega)) (by refine ⟨?_, ?_, ?_, ?_⟩ <;> simp only [zRm] <;> omega) (Nat.le_of_ble_eq_true rfl) ?_
                  intro r w hq
                  obtain ⟨rfl, rfl⟩ := hq
                  rw [f1 142 (by decide), ← hW0, ev]
                  cases hk : gaA bb vv (7 * j + i) with
                  | none =>
                    rw [hk] at new f3
                    have f3 : I4 141 0 = -1 := f3
                    first | refine z_istore_9 d_Game_settle_170 rfl ?_ | (refine z_forget_8 ?_; refine z_istore_9 d_Game_settle_170 rfl ?_)
                    refine z_aload_0 d_Game_settle_172 ?_
                    refine z_getIv d_Game_settle_173 f_Game_41 (by first | assumption | exact zS0_at (by assumption) (by omega) | exact zS0_at rfl (by omega)) (by first | assumption | ((try simp (disch := omega) only [zu_same, zu_ne, zcp_ne, zfl_ne]); first | assumption | rfl)) ?_
                    refine z_if_lt (tgt := 186) d_Game_settle_176 (by decide) (fun _ => ?_) (fun h => absurd (by decide) h)
                    exact new (by rw [gaA_s hz2, hk])
                  | some k =>
                    have hAi := gaA_is (bb := bb) (v := vv) (7 * j + i)
                    rw [hk] at hAi new f3 f4
                    have hAi : (k < 7 * j + i ∧ bb k = true) ∧ (∀ i', i' < 7 * j + i → bb i' = true → vv i' ≤ vv k) ∧ ∀ i', i' < k → bb i' = true → vv i' < vv k := hAi
                    have b1 := bv k hAi.1.2
                    have f5 : I4 141 0 = nI (k / 7) := f3
                    first | refine z_istore_9 d_Game_settle_170 rfl ?_ | (refine z_forget_8 ?_; refine z_istore_9 d_Game_settle_170 rfl ?_)
                    refine z_aload_0 d_Game_settle_172 ?_
                    refine z_getIv d_Game_settle_173 f_Game_41 (by first | assumption | exact zS0_at (by assumption) (by omega) | exact zS0_at rfl (by omega)) (by first | assumption | ((try simp (disch := omega) only [zu_same, zu_ne, zcp_ne, zfl_ne]); first | assumption | rfl)) ?_
                    refine z_if_lt (tgt := 186) d_Game_settle_176 (by decide) (fun h => absurd h (k7_nn (by omega))) (fun _ => ?_)
                    refine z_iload_9 d_Game_settle_179 ?_
                    refine z_iload_5 d_Game_settle_181 ?_
                    refine z_icmp_le (tgt := 202) d_Game_settle_183 (by decide) (fun hc => ?_) (fun hc => ?_)
                    · have hc := (zI_le (by omega) (by omega)).mp hc
                      have hn : gaA bb vv (7 * j + i + 1) = some k := by
                        rw [gaA_s hz2, hk]
                        exact if_neg (by omega)
                      rw [hn] at qz
                      first | refine z_iinc_8 d_Game_settle_202 rfl (zi_inc _) ?_ | refine z_iinc_8 d_Game_settle_202 rfl rfl ?_
                      refine z_goto (tgt := 139) d_Game_settle_205 (by decide) ?_
                      refine z_forget_9 ?_
                      exact qz I4 f1 f2 f3 f4
                    · refine new ?_
                      rw [gaA_s hz2, hk]
                      refine if_pos ?_
                      rcases Int.lt_or_le (vv k) (vv (7 * j + i)) with h | h
                      · exact h
                      · exact absurd ((zI_le (by omega) (by omega)).mpr h) hc
          have hCj : I3 142 j = W j := by rw [e1 142 (by decide), hW0]
          refine z_aload_0 d_Game_settle_105 ?_
          refine z_getR d_Game_settle_106 f_Game_9 (by first | assumption | exact zS0_at (by assumption) (by omega) | exact zS0_at rfl (by omega)) (by first | assumption | exact zS0_at (by assumption) (by omega) | exact zS0_at rfl (by omega)) ?_
          refine z_iload_6 d_Game_settle_109 ?_
          first | refine z_ialdNv d_Game_settle_111 (by first | assumption | exact zS0_at (by assumption) (by omega) | exact zS0_at rfl (by omega)) (by omega) (by first | decide | omega) (by first | assumption | ((try simp (disch := omega) only [zu_same, zu_ne, zcp_ne, zfl_ne]); first | assumption | rfl)) ?_ | refine z_iald d_Game_settle_111 (by first | assumption | exact zS0_at (by assumption) (by omega) | exact zS0_at rfl (by omega)) (by first | assumption | exact zS0_at (by assumption) (by omega) | exact zS0_at rfl (by omega)) ?_
          refine z_iload_2 d_Game_settle_112 ?_
          refine z_icmp_ne (tgt := 133) d_Game_settle_113 (by decide) (fun hc => ?_) (fun hc => ?_)
          · rw [if_neg hc] at hop
            subst hop
            refine z_iconst (a := nI 0) d_Game_settle_133 (by decide) ?_
            first | refine z_istore_7 d_Game_settle_134 rfl ?_ | (refine z_forget_6 ?_; refine z_istore_7 d_Game_settle_134 rfl ?_)
            refine z_iconst (a := nI 0) d_Game_settle_136 (by decide) ?_
            first | refine z_istore_8 d_Game_settle_137 rfl ?_ | (refine z_forget_7 ?_; refine z_istore_8 d_Game_settle_137 rfl ?_)
            exact inn (np + 1) 0 I3 (by omega) (by omega) e1 e2 e3 e4
          · rw [if_pos hc] at hop
            subst hop
            have hm1 : I3 (f + 3) one = mt one := by rw [e1 (f + 3) (by omega), g1 (f + 3) (by omega), hmt]
            have ht1 : I3 143 j = tk j := by rw [e1 143 (by decide)]; exact (g3 j hb2).2.1
            refine z_aload_1 d_Game_settle_116 ?_
            refine z_getR d_Game_settle_117 f_Game_47 (by first | assumption | exact zS0_at (by assumption) (by omega) | exact zS0_at rfl (by omega)) (by first | assumption | exact zS0_at (by assumption) (by omega) | exact zS0_at rfl (by omega)) ?_
            refine z_iload_2 d_Game_settle_120 ?_
            first | refine z_ialdNv d_Game_settle_121 (by first | assumption | exact zS0_at (by assumption) (by omega) | exact zS0_at rfl (by omega)) (by omega) (by first | decide | omega) (by first | assumption | ((try simp (disch := omega) only [zu_same, zu_ne, zcp_ne, zfl_ne]); first | assumption | rfl)) ?_ | refine z_iald d_Game_settle_121 (by first | assumption | exact zS0_at (by assumption) (by omega) | exact zS0_at rfl (by omega)) (by first | assumption | exact zS0_at (by assumption) (by omega) | exact zS0_at rfl (by omega)) ?_
            refine z_aload_0 d_Game_settle_122 ?_
            refine z_getR d_Game_settle_123 f_Game_15 (by first | assumption | exact zS0_at (by assumption) (by omega) | exact zS0_at rfl (by omega)) (by first | assumption | exact zS0_at (by assumption) (by omega) | exact zS0_at rfl (by omega)) ?_
            refine z_iload_6 d_Game_settle_126 ?_
            first | refine z_ialdNv d_Game_settle_128 (by first | assumption | exact zS0_at (by assumption) (by omega) | exact zS0_at rfl (by omega)) (by omega) (by first | decide | omega) (by first | assumption | ((try simp (disch := omega) only [zu_same, zu_ne, zcp_ne, zfl_ne]); first | assumption | rfl)) ?_ | refine z_iald d_Game_settle_128 (by first | assumption | exact zS0_at (by assumption) (by omega) | exact zS0_at rfl (by omega)) (by first | assumption | exact zS0_at (by assumption) (by omega) | exact zS0_at rfl (by omega)) ?_
            refine z_iand d_Game_settle_129 ?_
            refine z_goto (tgt := 134) d_Game_settle_130 (by decide) ?_
            first | refine z_istore_7 d_Game_settle_134 rfl ?_ | (refine z_forget_6 ?_; refine z_istore_7 d_Game_settle_134 rfl ?_)
            refine z_iconst (a := nI 0) d_Game_settle_136 (by decide) ?_
            first | refine z_istore_8 d_Game_settle_137 rfl ?_ | (refine z_forget_7 ?_; refine z_istore_8 d_Game_settle_137 rfl ?_)
            exact inn (np + 1) 0 I3 (by omega) (by omega) e1 e2 e3 e4
    refine z_iconst (a := nI 0) d_Game_settle_90 (by decide) ?_
    first | refine z_istore_5 d_Game_settle_91 rfl ?_ | (refine z_forget_4 ?_; refine z_istore_5 d_Game_settle_91 rfl ?_)
    refine z_iconst (a := nI 0) d_Game_settle_93 (by decide) ?_
    first | refine z_istore_6 d_Game_settle_94 rfl ?_ | (refine z_forget_5 ?_; refine z_istore_6 d_Game_settle_94 rfl ?_)
    refine l3 (nn + 1) 0 _ (by omega) (by omega) (fun a ha => ?_) ?_ ?_ (zu_same _ _ _ _)
    · rw [zu_row _ _ _ _ ha, zu_row _ _ _ _ ha]
    · rw [zu_ne _ _ _ _ (by decide), zu_ne _ _ _ _ (by decide)]; exact g2
    · rw [zu_ne _ _ _ _ (by decide), zu_same]; rfl
  have l1 : ∀ m j I2, nn - j < m → j ≤ nn → (∀ a, ¬ (141 ≤ a ∧ a ≤ 144) → I2 a = I a) → I2 141 5 = nI nn → (∀ t, t < j → I2 142 t = C t ∧ I2 143 t = tk t ∧ I2 144 t = nI (g t)) → zA G y_Game_settle prog_4_method_2_code 10 (some .int) (zRm 9 0 0) (zM G 0 0 (fun r w' => ∃ x, r = some (.int x) ∧ (fun r w => ∃ I', w = (I', J, P, S) ∧ (∀ a, ¬ (141 ≤ a ∧ a ≤ 144) → I' a = I a) ∧ seQ nn mt tk g C one ot T r I') x w')) 11 [some (.ref 141), some (.ref f), some (.int (nI one)), some (.int (nI ot)), some (.int (nI T)), some (.int (nI j)), none, none, none, none] [] (I2, J, P, S) 0 0 := by
    intro m
    induction m with
    | zero => intro j I2 h; exact absurd h (Nat.not_lt_zero _)
    | succ m ih =>
      intro j I2 hm hj g1 g2 g3
      refine z_iload_5 d_Game_settle_11 ?_
      refine z_aload_0 d_Game_settle_13 ?_
      refine z_getIv d_Game_settle_14 f_Game_27 (by first | assumption | exact zS0_at (by assumption) (by omega) | exact zS0_at rfl (by omega)) (by first | assumption | ((try simp (disch := omega) only [zu_same, zu_ne, zcp_ne, zfl_ne]); first | assumption | rfl)) ?_
      refine z_icmp_ge (tgt := 72) d_Game_settle_17 (by decide) (fun hb => ?_) (fun hb => ?_)
      · have hb := (nI_leI (by omega) (by omega)).mp hb
        obtain rfl : j = nn := by omega
        refine z_forget_5 ?_
        exact l2 I2 g1 g2 g3
      · have hb : j < nn := Nat.lt_of_not_le (fun q => hb (nI_le q (by omega)))
        have hk1 : I2 (f + 5) j = nI (kk j) := by rw [g1 (f + 5) (by omega)]; exact (hK j hb).1
        have hk2 := (hK j hb).2
        have hw1 : I2 (f + 1) (kk j) = nI (g j) := by rw [g1 (f + 1) (by omega)]; exact (hW j hb).1
        have hc1 : I2 (f + 6) j = C j := by rw [g1 (f + 6) (by omega), hC]
        have N2 : fenIn (zu I2 142 j (C j)) f nt np nl nn := by
          unfold fenIn
          rw [zu_row _ _ _ _ (by omega), zu_row _ _ _ _ (by omega), zu_row _ _ _ _ (by omega), g1 f (by omega), g1 (f + 5) (by omega), g1 (f + 6) (by omega)]
          exact N
        refine z_aload_0 d_Game_settle_20 ?_
        refine z_getR d_Game_settle_21 f_Game_9 (by first | assumption | exact zS0_at (by assumption) (by omega) | exact zS0_at rfl (by omega)) (by first | assumption | exact zS0_at (by assumption) (by omega) | exact zS0_at rfl (by omega)) ?_
        refine z_iload_5 d_Game_settle_24 ?_
        refine z_aload_1 d_Game_settle_26 ?_
        refine z_getR d_Game_settle_27 f_Game_28 (by first | assumption | exact zS0_at (by assumption) (by omega) | exact zS0_at rfl (by omega)) (by first | assumption | exact zS0_at (by assumption) (by omega) | exact zS0_at rfl (by omega)) ?_
        refine z_iload_5 d_Game_settle_30 ?_
        first | refine z_ialdNv d_Game_settle_32 (by first | assumption | exact zS0_at (by assumption) (by omega) | exact zS0_at rfl (by omega)) (by omega) (by first | decide | omega) (by first | assumption | ((try simp (disch := omega) only [zu_same, zu_ne, zcp_ne, zfl_ne]); first | assumption | rfl)) ?_ | refine z_iald d_Game_settle_32 (by first | assumption | exact zS0_at (by assumption) (by omega) | exact zS0_at rfl (by omega)) (by first | assumption | exact zS0_at (by assumption) (by omega) | exact zS0_at rfl (by omega)) ?_
        first | refine z_iastN d_Game_settle_33 (by first | assumption | exact zS0_at (by assumption) (by omega) | exact zS0_at rfl (by omega)) (by omega) (by first | decide | omega) ?_ | refine z_iast d_Game_settle_33 (by first | assumption | exact zS0_at (by assumption) (by omega) | exact zS0_at rfl (by omega)) (by first | assumption | exact zS0_at (by assumption) (by omega) | exact zS0_at rfl (by omega)) ?_
        refine z_aload_0 d_Game_settle_34 ?_
        refine z_getR d_Game_settle_35 f_Game_15 (by first | assumption | exact zS0_at (by assumption) (by omega) | exact zS0_at rfl (by omega)) (by first | assumption | exact zS0_at (by assumption) (by omega) | exact zS0_at rfl (by omega)) ?_
        refine z_iload_5 d_Game_settle_38 ?_
        refine z_aload_1 d_Game_settle_40 ?_
        refine z_iload_5 d_Game_settle_41 ?_
        refine z_Vi1 d_Game_settle_43 k_Game_31 (by first | assumption | exact zS0_at (by assumption) (by omega) | exact zS0_at rfl (by omega)) (t_Fen_believersIn (k := kk j) F N2 hb (by rw [zu_row _ _ _ _ (by omega)]; exact hk1)) (by refine ⟨?_, ?_, ?_, ?_⟩ <;> simp only [zRm] <;> omega) (Nat.le_of_ble_eq_true rfl) ?_
        intro r w hq
        obtain ⟨rfl, rfl⟩ := hq
        rw [zu_row _ _ _ _ (by omega), g1 (f + 2) (by omega), show s_set (fun p => zB (I (f + 2) p) (kk j)) np = tk j by rw [htk]]
        first | refine z_iastN d_Game_settle_46 (by first | assumption | exact zS0_at (by assumption) (by omega) | exact zS0_at rfl (by omega)) (by omega) (by first | decide | omega) ?_ | refine z_iast d_Game_settle_46 (by first | assumption | exact zS0_at (by assumption) (by omega) | exact zS0_at rfl (by omega)) (by first | assumption | exact zS0_at (by assumption) (by omega) | exact zS0_at rfl (by omega)) ?_
        refine z_aload_0 d_Game_settle_47 ?_
        refine z_getR d_Game_settle_48 f_Game_18 (by first | assumption | exact zS0_at (by assumption) (by omega) | exact zS0_at rfl (by omega)) (by first | assumption | exact zS0_at (by assumption) (by omega) | exact zS0_at rfl (by omega)) ?_
        refine z_iload_5 d_Game_settle_51 ?_
        refine z_aload_1 d_Game_settle_53 ?_
        refine z_getR d_Game_settle_54 f_Game_35 (by first | assumption | exact zS0_at (by assumption) (by omega) | exact zS0_at rfl (by omega)) (by first | assumption | exact zS0_at (by assumption) (by omega) | exact zS0_at rfl (by omega)) ?_
        refine z_aload_1 d_Game_settle_57 ?_
        refine z_getR d_Game_settle_58 f_Game_38 (by first | assumption | exact zS0_at (by assumption) (by omega) | exact zS0_at rfl (by omega)) (by first | assumption | exact zS0_at (by assumption) (by omega) | exact zS0_at rfl (by omega)) ?_
        refine z_iload_5 d_Game_settle_61 ?_
        first | refine z_ialdNv d_Game_settle_63 (by first | assumption | exact zS0_at (by assumption) (by omega) | exact zS0_at rfl (by omega)) (by omega) (by first | decide | omega) (by first | assumption | ((try simp (disch := omega) only [zu_same, zu_ne, zcp_ne, zfl_ne]); first | assumption | rfl)) ?_ | refine z_iald d_Game_settle_63 (by first | assumption | exact zS0_at (by assumption) (by omega) | exact zS0_at rfl (by omega)) (by first | assumption | exact zS0_at (by assumption) (by omega) | exact zS0_at rfl (by omega)) ?_
        first | refine z_ialdNv d_Game_settle_64 (by first | assumption | exact zS0_at (by assumption) (by omega) | exact zS0_at rfl (by omega)) (by omega) (by first | decide | omega) (by first | assumption | ((try simp (disch := omega) only [zu_same, zu_ne, zcp_ne, zfl_ne]); first | assumption | rfl)) ?_ | refine z_iald d_Game_settle_64 (by first | assumption | exact zS0_at (by assumption) (by omega) | exact zS0_at rfl (by omega)) (by first | assumption | exact zS0_at (by assumption) (by omega) | exact zS0_at rfl (by omega)) ?_
        first | refine z_iastN d_Game_settle_65 (by first | assumption | exact zS0_at (by assumption) (by omega) | exact zS0_at rfl (by omega)) (by omega) (by first | decide | omega) ?_ | refine z_iast d_Game_settle_65 (by first | assumption | exact zS0_at (by assumption) (by omega) | exact zS0_at rfl (by omega)) (by first | assumption | exact zS0_at (by assumption) (by omega) | exact zS0_at rfl (by omega)) ?_
        first | refine z_iinc_5 d_Game_settle_66 rfl (zi_inc _) ?_ | refine z_iinc_5 d_Game_settle_66 rfl rfl ?_
        refine z_goto (tgt := 11) d_Game_settle_69 (by decide) ?_
        refine ih (j + 1) _ (by omega) (by omega) (fun a ha => ?_) ?_ (fun t ht => ?_)
        · rw [zu_row _ _ _ _ (by omega), zu_row _ _ _ _ (by omega), zu_row _ _ _ _ (by omega)]; exact g1 a ha
        · rw [zu_row _ _ _ _ (by omega), zu_row _ _ _ _ (by omega), zu_row _ _ _ _ (by omega)]; exact g2
        · by_cases e : t = j
          · subst e
            refine ⟨?_, ?_, zu_same _ _ _ _⟩
            · rw [zu_row _ _ _ _ (by omega), zu_row _ _ _ _ (by omega), zu_same]
            · rw [zu_row _ _ _ _ (by omega), zu_same]
          · have q := g3 t (by omega)
            refine ⟨?_, ?_, ?_⟩
            · rw [zu_row _ _ _ _ (by omega), zu_row _ _ _ _ (by omega), zu_ne _ _ _ _ (by omega)]; exact q.1
            · rw [zu_row _ _ _ _ (by omega), zu_ne _ _ _ _ (by omega), zu_row _ _ _ _ (by omega)]; exact q.2.1
            · rw [zu_ne _ _ _ _ (by omega), zu_row _ _ _ _ (by omega), zu_row _ _ _ _ (by omega)]; exact q.2.2
  refine z_aload_0 d_Game_settle_0 ?_
  refine z_aload_1 d_Game_settle_1 ?_
  refine z_getIv d_Game_settle_2 f_Game_21 (by first | assumption | exact zS0_at (by assumption) (by omega) | exact zS0_at rfl (by omega)) (by first | assumption | ((try simp (disch := omega) only [zu_same, zu_ne, zcp_ne, zfl_ne]); first | assumption | rfl)) ?_
  refine z_putI d_Game_settle_5 f_Game_27 (by first | assumption | exact zS0_at (by assumption) (by omega) | exact zS0_at rfl (by omega)) ?_
  refine z_iconst (a := nI 0) d_Game_settle_8 (by decide) ?_
  first | refine z_istore_5 d_Game_settle_9 rfl ?_ | (refine z_forget_4 ?_; refine z_istore_5 d_Game_settle_9 rfl ?_)
  exact l1 (nn + 1) 0 _ (by omega) (by omega) (fun a ha => zu_row _ _ _ _ (by omega)) (zu_same _ _ _ _) (fun t h => absurd h (Nat.not_lt_zero _))
end GC0
