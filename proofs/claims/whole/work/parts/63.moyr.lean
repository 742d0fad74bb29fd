/-! the reference's reader of YEARS: what stands behind a step's word -/
section MY0
def y_rest (a : tk → tk) (n : yN) (t : tk) : pR ((Int32 × Int32 × Int32) × tk) := pb (y_op a t) (fun o => pb (y_first a n o.1 o.2) (fun f => pb (y_cmp a o.1 f.2) (fun c => pb (y_second a n c.1 c.2) (fun g => .inr ((c.1, f.1, g.1), g.2)))))
theorem y_step_rest {a : tk → tk} {n : yN} {s : yS} {t : tk} : y_step a n s t = pb (y_rest a n t) (fun v => pb (p_semi a v.2) (fun t' => .inr (y_add s (y_opens t) v.1.1 v.1.2.1 v.1.2.2, t'))) := by
  unfold y_step y_rest
  rcases y_op a t with e | o
  · rfl
  · dsimp only [pb]
    rcases y_first a n o.1 o.2 with e | f
    · rfl
    · dsimp only [pb]
      rcases y_cmp a o.1 f.2 with e | c
      · rfl
      · dsimp only [pb]
        rcases y_second a n c.1 c.2 with e | g <;> rfl
/-- a step of the class (row i) and of the reference (row s) -/
def yst (n : yN) (A Q : Nat → Nat → Int32) (i s : Nat) : Prop :=
  (∃ x p, x < n.2.2.2 ∧ p < n.2.2.1 ∧ A 1 i = nI 10 ∧ Q s 0 = nI 0 ∧ A 2 i = nI x ∧ Q s 1 = nI x ∧ A 3 i = nI p ∧ Q s 2 = nI p) ∨
  (∃ x, x < n.2.2.2 ∧ A 1 i = nI 11 ∧ Q s 0 = nI 1 ∧ A 2 i = nI x ∧ Q s 1 = nI x) ∨
  (∃ p k, p < n.2.2.1 ∧ k < n.2.1 ∧ (A 1 i = nI 12 ∧ Q s 0 = nI 2 ∨ A 1 i = nI 13 ∧ Q s 0 = nI 3) ∧ A 2 i = nI p ∧ Q s 1 = nI p ∧ A 3 i = nI k ∧ Q s 2 = nI k) ∨
  (A 1 i = nI 14 ∧ Q s 0 = nI 4) ∨ (A 1 i = nI 20 ∧ Q s 0 = nI 7)
def ybk (n : yN) (A Q : Nat → Nat → Int32) (i s : Nat) : Prop :=
  (∃ m, 1 ≤ m ∧ m ≤ 99 ∧ A 1 i = nI 18 ∧ Q s 0 = nI 6 ∧ A 2 i = nI m ∧ Q s 1 = nI m) ∨
  (Q s 0 = nI 5 ∧ ((∃ x p, x < n.2.2.2 ∧ p < n.2.2.1 ∧ A 1 i = nI 8 ∧ Q s 5 = nI 0 ∧ A 2 i = nI x ∧ Q s 1 = nI x ∧ A 3 i = nI p ∧ Q s 2 = nI p) ∨
    (∃ x, x < n.2.2.2 ∧ A 1 i = nI 17 ∧ Q s 5 = nI 2 ∧ A 2 i = nI x ∧ Q s 1 = nI x) ∨
    (∃ p j v, p < n.2.2.1 ∧ (j = 60 ∨ j = 61 ∨ j = 62) ∧ v ≤ 9999 ∧ A 1 i = nI j ∧ Q s 5 = nI 1 ∧ Q s 7 = nI j ∧ A 2 i = nI p ∧ Q s 1 = nI p ∧ A 3 i = nI v ∧ Q s 6 = nI v)))
def yfit (n : yN) (t : tk) (v : Int32 × Int32 × Int32) (q : Nat → Int32) : Prop :=
  (¬ y_opens t ∧ ∀ (A Q : Nat → Nat → Int32) (i s : Nat), A 1 i = v.1 → A 2 i = v.2.1 → A 3 i = v.2.2 → (∀ k, k < 8 → Q s k = q k) → yst n A Q i s) ∨
  (y_opens t ∧ ∀ (A Q : Nat → Nat → Int32) (i s : Nat), A 1 i = v.1 → A 2 i = v.2.1 → A 3 i = v.2.2 → (∀ k, k < 8 → Q s k = q k) → ybk n A Q i s)
variable {G : zG} {I I1 I2 : Nat → Nat → Int32} {J J1 J2 : Nat → Nat → Int64} {P : Nat → Nat → Option Nat} {S : List (Nat × Nat)} {L x : Nat} {a b : Int32} {T : Nat → Int32} {K : Nat → Int64} {t : tk} {z : Nat} {n : yN}
/-- only the token and the step at x are others -/
def mR (x : Nat) (I I' : Nat → Nat → Int32) : Prop := (∀ a, a ≠ 145 → a ≠ 150 → I' a = I a) ∧ (∀ k, ¬ (x < k ∧ k < x + 8) → I' 150 k = I 150 k) ∧ (∀ k, ¬ (14 ≤ k ∧ k ≤ 18) → I' 145 k = I 145 k)
theorem mR_r : mR x I I := ⟨fun _ _ _ => rfl, fun _ _ => rfl, fun _ _ => rfl⟩
theorem mR_t (h1 : mR x I I1) (h2 : mR x I1 I2) : mR x I I2 := ⟨fun a g g2 => (h2.1 a g g2).trans (h1.1 a g g2), fun k g => (h2.2.1 k g).trans (h1.2.1 k g), fun k g => (h2.2.2 k g).trans (h1.2.2 k g)⟩
theorem mR_tk (h : mF I I1) : mR x I I1 := ⟨fun a g _ => h.1 a g, fun k _ => by rw [h.1 150 (by decide)], fun k g => h.2 k g⟩
theorem mR_c {k : Nat} {v : Int32} (h : mR x I I1) (hk : x < k ∧ k < x + 8) : mR x I (zu I1 150 k v) := ⟨fun a g g2 => (zu_row _ _ _ _ g2).trans (h.1 a g g2), fun i g => (zu_ne _ _ _ _ (by omega)).trans (h.2.1 i g), fun i g => (zu_ne _ _ _ _ (by omega)).trans (h.2.2 i g)⟩
theorem mR_P (h : mR x I I1) (hx : 1436 ≤ x) : mP I I1 := ⟨h.1, fun k hk => h.2.1 k (by omega), fun k g _ _ => h.2.2 k (by omega)⟩
/-- the FEN's names in the reference's first block -/
def myN (I : Nat → Nat → Int32) (J : Nat → Nat → Int64) (n : yN) : Prop := (I 150 0 = nI n.2.1 ∧ n.2.1 ≤ 6) ∧ (I 150 1 = nI n.2.2.1 ∧ n.2.2.1 ≤ 7) ∧ (I 150 3 = nI n.2.2.2 ∧ n.2.2.2 ≤ 9) ∧ (∀ k, k < n.2.1 → J 152 k = n.1 9 k) ∧ (∀ k, k < n.2.2.1 → J 152 (6 + k) = n.1 10 k) ∧ (∀ k, k < n.2.2.2 → J 152 (13 + k) = n.1 11 k)
theorem myN_P (h : myN I J n) (h1 : mP I I1) (h2 : mQ J J1) : myN I1 J1 n := by
  obtain ⟨a1, a2, a3, a4, a5, a6⟩ := h
  exact ⟨⟨(h1.2.1 0 (by decide)).trans a1.1, a1.2⟩, ⟨(h1.2.1 1 (by decide)).trans a2.1, a2.2⟩, ⟨(h1.2.1 3 (by decide)).trans a3.1, a3.2⟩, fun k hk => (h2.2.1 k (by omega)).trans (a4 k hk), fun k hk => (h2.2.1 _ (by omega)).trans (a5 k hk), fun k hk => (h2.2.1 _ (by omega)).trans (a6 k hk)⟩
theorem m_rd {so off m : Nat} {N : Nat → Int64} (C : moC T K L 0 I J P S t) (hs : so = 0 ∧ off = 0 ∨ so = 1 ∧ off = 6 ∨ so = 3 ∧ off = 13) (hn : I 150 so = nI m) (hm : m ≤ 9) (hN : ∀ k, k < m → J 152 (off + k) = N k) : zEi G y_Mo_readTold prog_14_method_59_code 4 (some .int) 7 [.ref 145, .int (nI 0), .int (nI so)] (I, J, P, S) (fun r w => pQ (p_known N m t) (fun e => r = nI 0 ∧ w = (mB I e, J, P, S) ∧ 0 < e.1 ∧ e.1 < 9) (fun v => r = v ∧ moN T K L 0 I J P S (tA T L K t) w)) := by
  have h := m_readTold0 (G := G) (c := 0) (so := so) (off := off) (n := m) C (by decide) hs (by rw [show 359 * 0 + so = so by omega]; exact hn) (by omega)
  rw [p_known_g (t := t) (N := fun k => J 152 (22 * 0 + off + k)) (N' := N) (fun k hk => by rw [show 22 * 0 + off + k = off + k by omega]; exact hN k hk)] at h
  exact h
def moV (T : Nat → Int32) (K : Nat → Int64) (L x : Nat) (n : yN) (t : tk) (I : Nat → Nat → Int32) (J : Nat → Nat → Int64) (P : Nat → Nat → Option Nat) (S : List (Nat × Nat)) (v : (Int32 × Int32 × Int32) × tk) (w : zW) : Prop := ∃ I' J', w = (I', J', P, S) ∧ mR x I I' ∧ mJ J J' ∧ moC T K L 0 I' J' P S v.2 ∧ yfit n t v.1 (fun k => I' 150 (x + k))
theorem mJ_t (h1 : mJ J J1) (h2 : mJ J1 J2) : mJ J J2 := ⟨fun a g => (h2.1 a g).trans (h1.1 a g), fun k g => (h2.2 k g).trans (h1.2 k g)⟩
theorem moC_z {k : Nat} {v : Int32} (C : moC T K L z I J P S t) : moC T K L z (zu I 150 k v) J P S t := moC_c C (fun i hi => zu_ne _ _ _ _ (by omega)) (zu_row _ _ _ _ (by decide)) rfl
theorem moX_z {e : Nat × Nat} {k : Nat} {v : Int32} (h : moX T K L I J P S e (I1, J1, P, S)) (hk : 1436 ≤ k) : moX T K L I J P S e (zu I1 150 k v, J1, P, S) := by
  obtain ⟨I', J', t', hw, q1, q2, q3, q4, q5, q6⟩ := h
  cases hw
  exact ⟨_, _, t', rfl, mP_c q1 hk, q2, moC_z q3, by rw [zu_ne _ _ _ _ (by omega)]; exact q4, q5, q6⟩
/-- p_numb's number -/
theorem p_numb_d {a : tk → tk} {lo hi : Nat} {v : Int32 × tk} (hl : lo < 2 ^ 31) (hh : hi < 2 ^ 31) (h : p_numb a (nI lo) (nI hi) t = .inr v) : ∃ m, lo ≤ m ∧ m ≤ hi ∧ v.1 = nI m ∧ v.2 = a t := by
  unfold p_numb at h
  split at h
  · split at h
    · cases h
    · rename_i h1 h2
      cases h
      have h3 : nI lo ≤ tnu t := Int32.not_lt.mp (fun h => h2 (Or.inl h))
      have h4 : tnu t ≤ nI hi := Int32.not_lt.mp (fun h => h2 (Or.inr h))
      rw [Int32.le_iff_toInt_le, nI_toInt (by omega)] at h3 h4
      refine ⟨(tnu t).toInt.toNat, by omega, by omega, ?_, rfl⟩
      apply Int32.toInt_inj.mp
      rw [nI_toInt (by omega)]
      show (tnu t).toInt = _
      omega
  · cases h
theorem m_readTest (C : moC T K L 0 I J P S (tA T L K t)) (N : myN I J n) (h15 : tkw t = nI 15) (hx : 1436 ≤ x ∧ x ≤ 1786) (h0 : I 150 x = nI 5) : zEv G y_Mo_readTest prog_14_method_69_code 3 8 0 0 [.ref 145, .int (nI x)] (I, J, P, S) (fun w => pQ (y_rest (tA T L K) n t) (fun e => moX T K L I J P S e w) (fun v => moV T K L x n t I J P S v w)) := by
  have M := C.1
  obtain ⟨M0, ⟨M4, M4s⟩, ⟨M5, M5s⟩, ⟨M6, M6s⟩, ⟨M7, M7s⟩, ⟨M20, M20s⟩, ⟨M21, M21s⟩, ⟨M22, M22s⟩, ⟨M26, M26s⟩, ⟨M27, M27s⟩, ⟨M28, M28s⟩, ⟨M30, M30s⟩, ⟨M34, M34s⟩, ⟨M36, M36s⟩, ⟨M37, M37s⟩⟩ := id M
  obtain ⟨a1, a2, a3, h4, h5, h6, -⟩ := moC_n C
  obtain ⟨⟨b1, b1b⟩, ⟨b2, b2b⟩, ⟨b3, b3b⟩, b4, b5, b6⟩ := id N
  refine zEv_of (lv := [some (.ref 145), some (.int (nI x)), none]) (by decide) rfl (Nat.le_of_ble_eq_true rfl) ?_
  obtain ⟨y, hy⟩ : ∃ y, y_rest (tA T L K) n t = y := ⟨_, rfl⟩
  rw [hy]
  unfold y_rest y_op at hy
  rw [if_pos h15] at hy
  have ho : y_opens t := Or.inl h15
  have main : ∀ (j k : Nat), (j = 0 ∧ k = 8 ∨ j = 1 ∧ k = 16 ∨ j = 2 ∧ k = 17) → tkw (tA T L K t) = nI k → zA G y_Mo_readTest prog_14_method_69_code 3 none (zRm 8 0 0) (zM G 0 0 (fun r w' => r = none ∧ (fun w => pQ (y) (fun e => moX T K L I J P S e w) (fun v => moV T K L x n t I J P S v w)) w')) 5 [some (.ref 145), some (.int (nI x)), some (.int (nI j))] [] (I, J, P, S) 0 0 := by
    intro j k hjk hk
    rw [if_pos (by rw [hk]; rcases hjk with ⟨rfl, rfl⟩ | ⟨rfl, rfl⟩ | ⟨rfl, rfl⟩ <;> decide), hk] at hy
    dsimp only [pb] at hy
    refine z_aload_0 d_Mo_readTest_5 ?_
    refine z_iload_2 d_Mo_readTest_6 ?_
    refine z_if_lt (tgt := 14) d_Mo_readTest_7 (by decide) (fun h => absurd h (nI_pos (by omega))) (fun _ => ?_)
    refine z_iconst (a := nI 1) d_Mo_readTest_10 (by decide) ?_
    refine z_goto (tgt := 15) d_Mo_readTest_11 (by decide) ?_
    refine z_Vv1 d_Mo_readTest_15 k_Mo_239 (by first | assumption | exact zS0_at (by assumption) (by omega) | exact zS0_at rfl (by omega)) (m_must1 C) ⟨Nat.le_of_ble_eq_true rfl, Nat.le_of_ble_eq_true rfl, Nat.le_of_ble_eq_true rfl, Nat.le_of_ble_eq_true rfl⟩ (Nat.le_of_ble_eq_true rfl) ?_
    intro w hq
    obtain ⟨I1, J1, rfl, h1, h2, C1⟩ := hq
    generalize tA T L K (tA T L K t) = t1 at hy C1
    obtain ⟨-, -, d3, -⟩ := moC_n C1
    have e150 := h1.1 150 (by decide)
    have e152 := h2.1 152 (by decide)
    have C1z : moC T K L 0 (zu I1 150 (x + 5) (nI j)) J1 P S t1 := moC_z C1
    have r1 : mR x I (zu I1 150 (x + 5) (nI j)) := mR_c (mR_tk h1) (by omega)
    refine z_aload_0 d_Mo_readTest_18 ?_
    refine z_getR d_Mo_readTest_19 f_Mo_35 (by first | assumption | exact zS0_at (by assumption) (by omega) | exact zS0_at rfl (by omega)) (by first | assumption | exact zS0_at (by assumption) (by omega) | exact zS0_at rfl (by omega)) ?_
    refine z_iload_1 d_Mo_readTest_22 ?_
    refine z_iconst (a := nI 5) d_Mo_readTest_23 (by decide) ?_
    first | refine z_iaddN d_Mo_readTest_24 ?_ | refine z_iadd d_Mo_readTest_24 ?_
    refine z_iload_2 d_Mo_readTest_25 ?_
    first | refine z_iastN d_Mo_readTest_26 (by first | assumption | exact zS0_at (by assumption) (by omega) | exact zS0_at rfl (by omega)) (by omega) (by first | decide | omega) ?_ | refine z_iast d_Mo_readTest_26 (by first | assumption | exact zS0_at (by assumption) (by omega) | exact zS0_at rfl (by omega)) (by first | assumption | exact zS0_at (by assumption) (by omega) | exact zS0_at rfl (by omega)) ?_
    refine z_aload_0 d_Mo_readTest_27 ?_
    refine z_getIv d_Mo_readTest_28 f_Mo_202 (by first | assumption | exact zS0_at (by assumption) (by omega) | exact zS0_at rfl (by omega)) (by first | assumption | ((try simp (disch := omega) only [zu_same, zu_ne, zcp_ne, zfl_ne]); first | assumption | rfl)) ?_
    refine z_if_le (tgt := 35) d_Mo_readTest_31 (by decide) (fun _ => ?_) (fun h => absurd (by decide) h)
    have tail0 : ∀ (I2 : Nat → Nat → Int32) (J2 : Nat → Nat → Int64) (t2 : tk), moC T K L 0 I2 J2 P S t2 → j ≠ 1 → pQ y (fun e => moX T K L I J P S e (I2, J2, P, S)) (fun v => moV T K L x n t I J P S v (I2, J2, P, S)) → zA G y_Mo_readTest prog_14_method_69_code 3 none (zRm 8 0 0) (zM G 0 0 (fun r w' => r = none ∧ (fun w => pQ (y) (fun e => moX T K L I J P S e w) (fun v => moV T K L x n t I J P S v w)) w')) 76 [some (.ref 145), some (.int (nI x)), some (.int (nI j))] [] (I2, J2, P, S) 0 0 := by
      intro I2 J2 t2 C2 hj hp
      obtain ⟨-, -, c3, -⟩ := moC_n C2
      refine z_aload_0 d_Mo_readTest_76 ?_
      refine z_getIv d_Mo_readTest_77 f_Mo_202 (by first | assumption | exact zS0_at (by assumption) (by omega) | exact zS0_at rfl (by omega)) (by first | assumption | ((try simp (disch := omega) only [zu_same, zu_ne, zcp_ne, zfl_ne]); first | assumption | rfl)) ?_
      refine z_if_gt (tgt := 88) d_Mo_readTest_80 (by decide) (fun h => absurd h (by decide)) (fun _ => ?_)
      refine z_iload_2 d_Mo_readTest_83 ?_
      refine z_iconst (a := nI 1) d_Mo_readTest_84 (by decide) ?_
      refine z_icmp_eq (tgt := 89) d_Mo_readTest_85 (by decide) (fun h => absurd ((nI_eq (by omega) (by omega)).mp h) hj) (fun _ => ?_)
      refine z_retv d_Mo_readTest_88 ?_
      exact hp
    have tailb : ∀ (e : Nat × Nat) (I2 : Nat → Nat → Int32) (J2 : Nat → Nat → Int64), Sum.inl e = y → moX T K L I J P S e (I2, J2, P, S) → zA G y_Mo_readTest prog_14_method_69_code 3 none (zRm 8 0 0) (zM G 0 0 (fun r w' => r = none ∧ (fun w => pQ (y) (fun e => moX T K L I J P S e w) (fun v => moV T K L x n t I J P S v w)) w')) 76 [some (.ref 145), some (.int (nI x)), some (.int (nI j))] [] (I2, J2, P, S) 0 0 := by
      intro e I2 J2 he hX
      rw [← he]
      obtain ⟨I', J', t', hw, q1, q2, q3, q4, q5, q6⟩ := id hX
      cases hw
      obtain ⟨-, -, c3, -⟩ := moC_n q3
      refine z_aload_0 d_Mo_readTest_76 ?_
      refine z_getIv d_Mo_readTest_77 f_Mo_202 (by first | assumption | exact zS0_at (by assumption) (by omega) | exact zS0_at rfl (by omega)) (by first | assumption | ((try simp (disch := omega) only [zu_same, zu_ne, zcp_ne, zfl_ne]); first | assumption | rfl)) ?_
      refine z_if_gt (tgt := 88) d_Mo_readTest_80 (by decide) (fun _ => ?_) (fun h => absurd (Int32.not_le.mp (nz_le q5 q6)) h)
      refine z_retv d_Mo_readTest_88 ?_
      exact hX
    rcases hjk with ⟨rfl, rfl⟩ | ⟨rfl, rfl⟩ | ⟨rfl, rfl⟩
    · have e1 : y_first (tA T L K) n (nI 8) t1 = pb (p_known (n.1 11) n.2.2.2 t1) (fun k => .inr (k, tA T L K t1)) := by unfold y_first; rw [if_pos (by decide)]
      rw [e1] at hy
      refine z_aload_0 d_Mo_readTest_35 ?_
      refine z_getR d_Mo_readTest_36 f_Mo_35 (by first | assumption | exact zS0_at (by assumption) (by omega) | exact zS0_at rfl (by omega)) (by first | assumption | exact zS0_at (by assumption) (by omega) | exact zS0_at rfl (by omega)) ?_
      refine z_iload_1 d_Mo_readTest_39 ?_
      refine z_iconst (a := nI 1) d_Mo_readTest_40 (by decide) ?_
      first | refine z_iaddN d_Mo_readTest_41 ?_ | refine z_iadd d_Mo_readTest_41 ?_
      refine z_aload_0 d_Mo_readTest_42 ?_
      refine z_iconst (a := nI 0) d_Mo_readTest_43 (by decide) ?_
      refine z_iload_2 d_Mo_readTest_44 ?_
      refine z_iconst (a := nI 1) d_Mo_readTest_45 (by decide) ?_
      refine z_icmp_ne (tgt := 53) d_Mo_readTest_46 (by decide) (fun _ => ?_) (fun h => absurd h (by decide))
      refine z_iconst (a := nI 3) d_Mo_readTest_53 (by decide) ?_
      refine z_Vi2 d_Mo_readTest_54 k_Mo_257 (by first | assumption | exact zS0_at (by assumption) (by omega) | exact zS0_at rfl (by omega)) (m_rd (so := 3) (off := 13) (N := n.1 11) C1z (by omega) (by rw [zu_ne _ _ _ _ (by omega), e150]; exact b3) b3b (fun k hk => by rw [e152]; exact b6 k hk)) ⟨Nat.le_of_ble_eq_true rfl, Nat.le_of_ble_eq_true rfl, Nat.le_of_ble_eq_true rfl, Nat.le_of_ble_eq_true rfl⟩ (Nat.le_of_ble_eq_true rfl) ?_
      intro r w hq
      rcases hx1 : p_known (n.1 11) n.2.2.2 t1 with e | v <;> rw [hx1] at hq hy <;> dsimp only [pb] at hy
      · obtain ⟨rfl, rfl, e2⟩ := hq
        have hX := moX_z (k := x + 1) (v := nI 0) (moX_B C1z (mR_P r1 hx.1) (mQ_tk h2) e2) (by omega)
        obtain ⟨I', J', t', hw, q1, q2, q3, q4, q5, q6⟩ := id hX
        cases hw
        first | refine z_iastN d_Mo_readTest_57 (by first | assumption | exact zS0_at (by assumption) (by omega) | exact zS0_at rfl (by omega)) (by omega) (by first | decide | omega) ?_ | refine z_iast d_Mo_readTest_57 (by first | assumption | exact zS0_at (by assumption) (by omega) | exact zS0_at rfl (by omega)) (by first | assumption | exact zS0_at (by assumption) (by omega) | exact zS0_at rfl (by omega)) ?_
        refine z_iload_2 d_Mo_readTest_58 ?_
        refine z_if_ne (tgt := 76) d_Mo_readTest_59 (by decide) (fun h => absurd (by decide) h) (fun _ => ?_)
        refine z_aload_0 d_Mo_readTest_62 ?_
        refine z_getR d_Mo_readTest_63 f_Mo_35 (by first | assumption | exact zS0_at (by assumption) (by omega) | exact zS0_at rfl (by omega)) (by first | assumption | exact zS0_at (by assumption) (by omega) | exact zS0_at rfl (by omega)) ?_
        refine z_iload_1 d_Mo_readTest_66 ?_
        refine z_iconst (a := nI 2) d_Mo_readTest_67 (by decide) ?_
        first | refine z_iaddN d_Mo_readTest_68 ?_ | refine z_iadd d_Mo_readTest_68 ?_
        refine z_aload_0 d_Mo_readTest_69 ?_
        refine z_iconst (a := nI 0) d_Mo_readTest_70 (by decide) ?_
        refine z_iconst (a := nI 1) d_Mo_readTest_71 (by decide) ?_
        refine z_Vi2 d_Mo_readTest_72 k_Mo_257 (by first | assumption | exact zS0_at (by assumption) (by omega) | exact zS0_at rfl (by omega)) (m_readToldz q3 q5 q6) ⟨Nat.le_of_ble_eq_true rfl, Nat.le_of_ble_eq_true rfl, Nat.le_of_ble_eq_true rfl, Nat.le_of_ble_eq_true rfl⟩ (Nat.le_of_ble_eq_true rfl) ?_
        intro r w hr
        obtain ⟨rfl, rfl⟩ := hr
        first | refine z_iastN d_Mo_readTest_75 (by first | assumption | exact zS0_at (by assumption) (by omega) | exact zS0_at rfl (by omega)) (by omega) (by first | decide | omega) ?_ | refine z_iast d_Mo_readTest_75 (by first | assumption | exact zS0_at (by assumption) (by omega) | exact zS0_at rfl (by omega)) (by first | assumption | exact zS0_at (by assumption) (by omega) | exact zS0_at rfl (by omega)) ?_
        exact tailb e _ _ hy (moX_z hX (by omega))
      obtain ⟨rfl, I2, J2, rfl, g1, g2, C2⟩ := hq
      obtain ⟨xx, hxx, rfl, -⟩ := p_known_c hx1
      have C2z : moC T K L 0 (zu I2 150 (x + 1) (nI xx)) J2 P S (tA T L K t1) := moC_z C2
      have r2 : mR x I (zu I2 150 (x + 1) (nI xx)) := mR_c (mR_t r1 (mR_tk g1)) (by omega)
      have e150b := g1.1 150 (by decide)
      have e152b := g2.1 152 (by decide)
      have ec : y_cmp (tA T L K) (nI 8) (tA T L K t1) = .inr (nI 8, tA T L K t1) := by unfold y_cmp; rw [if_neg (by decide)]
      rw [ec] at hy
      dsimp only [pb] at hy
      have e3 : y_second (tA T L K) n (nI 8) (tA T L K t1) = pb (p_known (n.1 10) n.2.2.1 (tA T L K t1)) (fun k => .inr (k, tA T L K (tA T L K t1))) := by unfold y_second; rw [if_pos (by decide)]
      rw [e3] at hy
      first | refine z_iastN d_Mo_readTest_57 (by first | assumption | exact zS0_at (by assumption) (by omega) | exact zS0_at rfl (by omega)) (by omega) (by first | decide | omega) ?_ | refine z_iast d_Mo_readTest_57 (by first | assumption | exact zS0_at (by assumption) (by omega) | exact zS0_at rfl (by omega)) (by first | assumption | exact zS0_at (by assumption) (by omega) | exact zS0_at rfl (by omega)) ?_
      refine z_iload_2 d_Mo_readTest_58 ?_
      refine z_if_ne (tgt := 76) d_Mo_readTest_59 (by decide) (fun h => absurd (by decide) h) (fun _ => ?_)
      refine z_aload_0 d_Mo_readTest_62 ?_
      refine z_getR d_Mo_readTest_63 f_Mo_35 (by first | assumption | exact zS0_at (by assumption) (by omega) | exact zS0_at rfl (by omega)) (by first | assumption | exact zS0_at (by assumption) (by omega) | exact zS0_at rfl (by omega)) ?_
      refine z_iload_1 d_Mo_readTest_66 ?_
      refine z_iconst (a := nI 2) d_Mo_readTest_67 (by decide) ?_
      first | refine z_iaddN d_Mo_readTest_68 ?_ | refine z_iadd d_Mo_readTest_68 ?_
      refine z_aload_0 d_Mo_readTest_69 ?_
      refine z_iconst (a := nI 0) d_Mo_readTest_70 (by decide) ?_
      refine z_iconst (a := nI 1) d_Mo_readTest_71 (by decide) ?_
      refine z_Vi2 d_Mo_readTest_72 k_Mo_257 (by first | assumption | exact zS0_at (by assumption) (by omega) | exact zS0_at rfl (by omega)) (m_rd (so := 1) (off := 6) (N := n.1 10) C2z (by omega) (by rw [zu_ne _ _ _ _ (by omega), e150b, zu_ne _ _ _ _ (by omega), e150]; exact b2) (by omega) (fun k hk => by rw [e152b, e152]; exact b5 k hk)) ⟨Nat.le_of_ble_eq_true rfl, Nat.le_of_ble_eq_true rfl, Nat.le_of_ble_eq_true rfl, Nat.le_of_ble_eq_true rfl⟩ (Nat.le_of_ble_eq_true rfl) ?_
      intro r w hq
      rcases hx2 : p_known (n.1 10) n.2.2.1 (tA T L K t1) with e | v <;> rw [hx2] at hq hy <;> dsimp only [pb] at hy
      · obtain ⟨rfl, rfl, e2⟩ := hq
        first | refine z_iastN d_Mo_readTest_75 (by first | assumption | exact zS0_at (by assumption) (by omega) | exact zS0_at rfl (by omega)) (by omega) (by first | decide | omega) ?_ | refine z_iast d_Mo_readTest_75 (by first | assumption | exact zS0_at (by assumption) (by omega) | exact zS0_at rfl (by omega)) (by first | assumption | exact zS0_at (by assumption) (by omega) | exact zS0_at rfl (by omega)) ?_
        exact tailb e _ _ hy (moX_z (moX_B C2z (mR_P r2 hx.1) (mQ_t (mQ_tk h2) (mQ_tk g2)) e2) (by omega))
      obtain ⟨rfl, I3, J3, rfl, k1, k2, C3⟩ := hq
      obtain ⟨p, hp, rfl, -⟩ := p_known_c hx2
      have e150c := k1.1 150 (by decide)
      first | refine z_iastN d_Mo_readTest_75 (by first | assumption | exact zS0_at (by assumption) (by omega) | exact zS0_at rfl (by omega)) (by omega) (by first | decide | omega) ?_ | refine z_iast d_Mo_readTest_75 (by first | assumption | exact zS0_at (by assumption) (by omega) | exact zS0_at rfl (by omega)) (by first | assumption | exact zS0_at (by assumption) (by omega) | exact zS0_at rfl (by omega)) ?_
      refine tail0 _ _ _ (moC_z C3) (by decide) ?_
      rw [← hy]
      refine ⟨_, _, rfl, mR_c (mR_t r2 (mR_tk k1)) (by omega), mJ_t (mJ_t h2 g2) k2, moC_z C3, Or.inr ⟨ho, fun A Q i s f1 f2 f3 f4 => Or.inr ⟨?_, Or.inl ⟨xx, p, hxx, hp, f1, ?_, f2, ?_, f3, ?_⟩⟩⟩⟩
      · rw [f4 0 (by decide)]; simp (disch := omega) only [zu_ne, e150c, e150b, e150]; exact h0
      · rw [f4 5 (by decide)]; simp (disch := omega) only [zu_ne, e150c, e150b, zu_same]
      · rw [f4 1 (by decide)]; simp (disch := omega) only [zu_ne, e150c, zu_same]
      · rw [f4 2 (by decide)]; simp (disch := omega) only [zu_same]
    · have e1 : y_first (tA T L K) n (nI 16) t1 = pb (p_known (n.1 10) n.2.2.1 t1) (fun k => .inr (k, tA T L K t1)) := by unfold y_first; rw [if_neg (by decide), if_pos (by decide)]
      rw [e1] at hy
      refine z_aload_0 d_Mo_readTest_35 ?_
      refine z_getR d_Mo_readTest_36 f_Mo_35 (by first | assumption | exact zS0_at (by assumption) (by omega) | exact zS0_at rfl (by omega)) (by first | assumption | exact zS0_at (by assumption) (by omega) | exact zS0_at rfl (by omega)) ?_
      refine z_iload_1 d_Mo_readTest_39 ?_
      refine z_iconst (a := nI 1) d_Mo_readTest_40 (by decide) ?_
      first | refine z_iaddN d_Mo_readTest_41 ?_ | refine z_iadd d_Mo_readTest_41 ?_
      refine z_aload_0 d_Mo_readTest_42 ?_
      refine z_iconst (a := nI 0) d_Mo_readTest_43 (by decide) ?_
      refine z_iload_2 d_Mo_readTest_44 ?_
      refine z_iconst (a := nI 1) d_Mo_readTest_45 (by decide) ?_
      refine z_icmp_ne (tgt := 53) d_Mo_readTest_46 (by decide) (fun h => absurd (by decide) h) (fun _ => ?_)
      refine z_iconst (a := nI 1) d_Mo_readTest_49 (by decide) ?_
      refine z_goto (tgt := 54) d_Mo_readTest_50 (by decide) ?_
      refine z_Vi2 d_Mo_readTest_54 k_Mo_257 (by first | assumption | exact zS0_at (by assumption) (by omega) | exact zS0_at rfl (by omega)) (m_rd (so := 1) (off := 6) (N := n.1 10) C1z (by omega) (by rw [zu_ne _ _ _ _ (by omega), e150]; exact b2) (by omega) (fun k hk => by rw [e152]; exact b5 k hk)) ⟨Nat.le_of_ble_eq_true rfl, Nat.le_of_ble_eq_true rfl, Nat.le_of_ble_eq_true rfl, Nat.le_of_ble_eq_true rfl⟩ (Nat.le_of_ble_eq_true rfl) ?_
      intro r w hq
      rcases hx1 : p_known (n.1 10) n.2.2.1 t1 with e | v <;> rw [hx1] at hq hy <;> dsimp only [pb] at hy
      · obtain ⟨rfl, rfl, e2⟩ := hq
        first | refine z_iastN d_Mo_readTest_57 (by first | assumption | exact zS0_at (by assumption) (by omega) | exact zS0_at rfl (by omega)) (by omega) (by first | decide | omega) ?_ | refine z_iast d_Mo_readTest_57 (by first | assumption | exact zS0_at (by assumption) (by omega) | exact zS0_at rfl (by omega)) (by first | assumption | exact zS0_at (by assumption) (by omega) | exact zS0_at rfl (by omega)) ?_
        refine z_iload_2 d_Mo_readTest_58 ?_
        refine z_if_ne (tgt := 76) d_Mo_readTest_59 (by decide) (fun _ => ?_) (fun h => absurd h (by decide))
        exact tailb e _ _ hy (moX_z (moX_B C1z (mR_P r1 hx.1) (mQ_tk h2) e2) (by omega))
      obtain ⟨rfl, I2, J2, rfl, g1, g2, C2⟩ := hq
      obtain ⟨p, hp, rfl, -⟩ := p_known_c hx1
      generalize tA T L K t1 = t2 at hy C2
      have C2z : moC T K L 0 (zu I2 150 (x + 1) (nI p)) J2 P S t2 := moC_z C2
      have r2 : mR x I (zu I2 150 (x + 1) (nI p)) := mR_c (mR_t r1 (mR_tk g1)) (by omega)
      have e150b := g1.1 150 (by decide)
      obtain ⟨f14, f15, f12, f4b, -⟩ := moC_n C2z
      have f17 := C2z.2.2.2.1.2.2.2.2.2
      have fsg := C2z.2.2.2.2.1.2.2.2.2.1
      first | refine z_iastN d_Mo_readTest_57 (by first | assumption | exact zS0_at (by assumption) (by omega) | exact zS0_at rfl (by omega)) (by omega) (by first | decide | omega) ?_ | refine z_iast d_Mo_readTest_57 (by first | assumption | exact zS0_at (by assumption) (by omega) | exact zS0_at rfl (by omega)) (by first | assumption | exact zS0_at (by assumption) (by omega) | exact zS0_at rfl (by omega)) ?_
      refine z_iload_2 d_Mo_readTest_58 ?_
      refine z_if_ne (tgt := 76) d_Mo_readTest_59 (by decide) (fun _ => ?_) (fun h => absurd h (by decide))
      refine z_aload_0 d_Mo_readTest_76 ?_
      refine z_getIv d_Mo_readTest_77 f_Mo_202 (by first | assumption | exact zS0_at (by assumption) (by omega) | exact zS0_at rfl (by omega)) (by first | assumption | ((try simp (disch := omega) only [zu_same, zu_ne, zcp_ne, zfl_ne]); first | assumption | rfl)) ?_
      refine z_if_gt (tgt := 88) d_Mo_readTest_80 (by decide) (fun h => absurd h (by decide)) (fun _ => ?_)
      refine z_iload_2 d_Mo_readTest_83 ?_
      refine z_iconst (a := nI 1) d_Mo_readTest_84 (by decide) ?_
      refine z_icmp_eq (tgt := 89) d_Mo_readTest_85 (by decide) (fun _ => ?_) (fun h => absurd (by decide) h)
      have c113 : zA G y_Mo_readTest prog_14_method_69_code 3 none (zRm 8 0 0) (zM G 0 0 (fun r w' => r = none ∧ (fun w => pQ (y) (fun e => moX T K L I J P S e w) (fun v => moV T K L x n t I J P S v w)) w')) 114 [some (.ref 145), some (.int (nI x)), some (.int (nI 1))] [] (zu (zu I2 150 (x + 1) (nI p)) 150 (x + 7) (tsg t2), J2, P, S) 0 0 := by
        have C3 : moC T K L 0 (zu (zu I2 150 (x + 1) (nI p)) 150 (x + 7) (tsg t2)) J2 P S t2 := moC_z C2z
        have r3 : mR x I (zu (zu I2 150 (x + 1) (nI p)) 150 (x + 7) (tsg t2)) := mR_c r2 (by omega)
        have yes : ∀ k : Nat, (k = 60 ∨ k = 61 ∨ k = 62) → tsg t2 = nI k → zA G y_Mo_readTest prog_14_method_69_code 3 none (zRm 8 0 0) (zM G 0 0 (fun r w' => r = none ∧ (fun w => pQ y (fun e => moX T K L I J P S e w) (fun v => moV T K L x n t I J P S v w)) w')) 142 [some (.ref 145), some (.int (nI x)), some (.int (nI 1))] [.ref 145] (zu (zu I2 150 (x + 1) (nI p)) 150 (x + 7) (tsg t2), J2, P, S) 0 0 := by
          intro k hk hs
          have ec : y_cmp (tA T L K) (nI 16) t2 = .inr (nI k, tA T L K t2) := by
            unfold y_cmp
            rw [if_pos rfl, if_pos (by rw [hs]; rcases hk with rfl | rfl | rfl <;> decide), hs]
          rw [ec] at hy
          dsimp only [pb] at hy
          have e3 : y_second (tA T L K) n (nI k) (tA T L K t2) = p_numb (tA T L K) (nI 0) (nI 9999) (tA T L K t2) := by
            unfold y_second
            rw [if_neg, if_neg, if_pos]
            · rcases hk with rfl | rfl | rfl <;> decide
            · rcases hk with rfl | rfl | rfl <;> decide
            · rcases hk with rfl | rfl | rfl <;> decide
          rw [e3] at hy
          refine z_iconst (a := nI 1) d_Mo_readTest_142 (by decide) ?_
          refine z_goto (tgt := 147) d_Mo_readTest_143 (by decide) ?_
          refine z_Vv1 d_Mo_readTest_147 k_Mo_239 (by first | assumption | exact zS0_at (by assumption) (by omega) | exact zS0_at rfl (by omega)) (m_must1 C3) ⟨Nat.le_of_ble_eq_true rfl, Nat.le_of_ble_eq_true rfl, Nat.le_of_ble_eq_true rfl, Nat.le_of_ble_eq_true rfl⟩ (Nat.le_of_ble_eq_true rfl) ?_
          intro w hr
          obtain ⟨I4, J4, rfl, k1, k2, C4⟩ := hr
          have e150c := k1.1 150 (by decide)
          refine z_aload_0 d_Mo_readTest_150 ?_
          refine z_getR d_Mo_readTest_151 f_Mo_35 (by first | assumption | exact zS0_at (by assumption) (by omega) | exact zS0_at rfl (by omega)) (by first | assumption | exact zS0_at (by assumption) (by omega) | exact zS0_at rfl (by omega)) ?_
          refine z_iload_1 d_Mo_readTest_154 ?_
          refine z_bipush (a := nI 6) d_Mo_readTest_155 (by decide) ?_
          first | refine z_iaddN d_Mo_readTest_157 ?_ | refine z_iadd d_Mo_readTest_157 ?_
          refine z_aload_0 d_Mo_readTest_158 ?_
          refine z_iconst (a := nI 0) d_Mo_readTest_159 (by decide) ?_
          refine z_sipush (a := nI 9999) d_Mo_readTest_160 (by decide) ?_
          refine z_Vi2 d_Mo_readTest_163 k_Mo_247 (by first | assumption | exact zS0_at (by assumption) (by omega) | exact zS0_at rfl (by omega)) (m_count0 C4) ⟨Nat.le_of_ble_eq_true rfl, Nat.le_of_ble_eq_true rfl, Nat.le_of_ble_eq_true rfl, Nat.le_of_ble_eq_true rfl⟩ (Nat.le_of_ble_eq_true rfl) ?_
          intro r w hr
          rcases hx2 : p_numb (tA T L K) (nI 0) (nI 9999) (tA T L K t2) with e | v <;> rw [hx2] at hr hy <;> dsimp only [pb] at hy
          · obtain ⟨rfl, rfl, e2⟩ := hr
            rw [← hy]
            first | refine z_iastN d_Mo_readTest_166 (by first | assumption | exact zS0_at (by assumption) (by omega) | exact zS0_at rfl (by omega)) (by omega) (by first | decide | omega) ?_ | refine z_iast d_Mo_readTest_166 (by first | assumption | exact zS0_at (by assumption) (by omega) | exact zS0_at rfl (by omega)) (by first | assumption | exact zS0_at (by assumption) (by omega) | exact zS0_at rfl (by omega)) ?_
            refine z_retv d_Mo_readTest_167 ?_
            exact moX_z (moX_B C4 (mR_P (mR_t r3 (mR_tk k1)) hx.1) (mQ_t (mQ_t (mQ_tk h2) (mQ_tk g2)) (mQ_tk k2)) e2) (by omega)
          · obtain ⟨rfl, I5, J5, rfl, l1, l2, C5⟩ := hr
            obtain ⟨m, hm1, hm2, hm3, -⟩ := p_numb_d (by decide) (by decide) hx2
            have e150d := l1.1 150 (by decide)
            rw [← hy]
            first | refine z_iastN d_Mo_readTest_166 (by first | assumption | exact zS0_at (by assumption) (by omega) | exact zS0_at rfl (by omega)) (by omega) (by first | decide | omega) ?_ | refine z_iast d_Mo_readTest_166 (by first | assumption | exact zS0_at (by assumption) (by omega) | exact zS0_at rfl (by omega)) (by first | assumption | exact zS0_at (by assumption) (by omega) | exact zS0_at rfl (by omega)) ?_
            refine z_retv d_Mo_readTest_167 ?_
            refine ⟨_, _, rfl, mR_c (mR_t (mR_t r3 (mR_tk k1)) (mR_tk l1)) (by omega), mJ_t (mJ_t (mJ_t h2 g2) k2) l2, moC_z C5, Or.inr ⟨ho, fun A Q i s f1 f2 f3 f4 => Or.inr ⟨?_, Or.inr (Or.inr ⟨p, k, m, hp, hk, hm2, f1, ?_, ?_, f2, ?_, f3.trans hm3, ?_⟩)⟩⟩⟩
            · rw [f4 0 (by decide)]; simp (disch := omega) only [zu_ne, e150d, e150c, e150b, e150]; exact h0
            · rw [f4 5 (by decide)]; simp (disch := omega) only [zu_ne, e150d, e150c, e150b, zu_same]
            · rw [f4 7 (by decide)]; simp (disch := omega) only [zu_ne, e150d, e150c, zu_same]; exact hs
            · rw [f4 1 (by decide)]; simp (disch := omega) only [zu_ne, e150d, e150c, zu_same]
            · rw [f4 6 (by decide)]; simp (disch := omega) only [zu_same]; exact hm3
        refine z_aload_0 d_Mo_readTest_114 ?_
        refine z_aload_0 d_Mo_readTest_115 ?_
        refine z_bipush (a := nI 60) d_Mo_readTest_116 (by decide) ?_
        refine z_Vi1 d_Mo_readTest_118 k_Mo_289 (by first | assumption | exact zS0_at (by assumption) (by omega) | exact zS0_at rfl (by omega)) (m_isSign C3 (by omega)) ⟨Nat.le_of_ble_eq_true rfl, Nat.le_of_ble_eq_true rfl, Nat.le_of_ble_eq_true rfl, Nat.le_of_ble_eq_true rfl⟩ (Nat.le_of_ble_eq_true rfl) ?_
        intro r w hr
        rcases hr with ⟨⟨hs, rfl⟩ | ⟨h60, rfl⟩, rfl⟩
        · refine z_if_ne (tgt := 142) d_Mo_readTest_121 (by decide) (fun _ => ?_) (fun h => absurd h (by decide))
          exact yes 60 (by omega) hs
        refine z_if_ne (tgt := 142) d_Mo_readTest_121 (by decide) (fun h => absurd (by decide) h) (fun _ => ?_)
        refine z_aload_0 d_Mo_readTest_124 ?_
        refine z_bipush (a := nI 62) d_Mo_readTest_125 (by decide) ?_
        refine z_Vi1 d_Mo_readTest_127 k_Mo_289 (by first | assumption | exact zS0_at (by assumption) (by omega) | exact zS0_at rfl (by omega)) (m_isSign C3 (by omega)) ⟨Nat.le_of_ble_eq_true rfl, Nat.le_of_ble_eq_true rfl, Nat.le_of_ble_eq_true rfl, Nat.le_of_ble_eq_true rfl⟩ (Nat.le_of_ble_eq_true rfl) ?_
        intro r w hr
        rcases hr with ⟨⟨hs, rfl⟩ | ⟨h62, rfl⟩, rfl⟩
        · refine z_if_ne (tgt := 142) d_Mo_readTest_130 (by decide) (fun _ => ?_) (fun h => absurd h (by decide))
          exact yes 62 (by omega) hs
        refine z_if_ne (tgt := 142) d_Mo_readTest_130 (by decide) (fun h => absurd (by decide) h) (fun _ => ?_)
        refine z_aload_0 d_Mo_readTest_133 ?_
        refine z_bipush (a := nI 61) d_Mo_readTest_134 (by decide) ?_
        refine z_Vi1 d_Mo_readTest_136 k_Mo_289 (by first | assumption | exact zS0_at (by assumption) (by omega) | exact zS0_at rfl (by omega)) (m_isSign C3 (by omega)) ⟨Nat.le_of_ble_eq_true rfl, Nat.le_of_ble_eq_true rfl, Nat.le_of_ble_eq_true rfl, Nat.le_of_ble_eq_true rfl⟩ (Nat.le_of_ble_eq_true rfl) ?_
        intro r w hr
        rcases hr with ⟨⟨hs, rfl⟩ | ⟨h61, rfl⟩, rfl⟩
        · refine z_if_eq (tgt := 146) d_Mo_readTest_139 (by decide) (fun h => absurd h (by decide)) (fun _ => ?_)
          exact yes 61 (by omega) hs
        refine z_if_eq (tgt := 146) d_Mo_readTest_139 (by decide) (fun _ => ?_) (fun h => absurd (by decide) h)
        refine z_iconst (a := nI 0) d_Mo_readTest_146 (by decide) ?_
        have ec : y_cmp (tA T L K) (nI 16) t2 = .inl (p_mis t2) := by
          unfold y_cmp
          rw [if_pos rfl, if_neg (by rintro (h | h | h); exact h60 h; exact h62 h; exact h61 h)]
        rw [ec] at hy
        dsimp only [pb] at hy
        refine z_Vv1 d_Mo_readTest_147 k_Mo_239 (by first | assumption | exact zS0_at (by assumption) (by omega) | exact zS0_at rfl (by omega)) (m_must0 C3) ⟨Nat.le_of_ble_eq_true rfl, Nat.le_of_ble_eq_true rfl, Nat.le_of_ble_eq_true rfl, Nat.le_of_ble_eq_true rfl⟩ (Nat.le_of_ble_eq_true rfl) ?_
        intro w hr
        obtain rfl := hr
        have hX := moX_B C3 (mR_P r3 hx.1) (mQ_t (mQ_tk h2) (mQ_tk g2)) (p_mis_b (t := t2))
        obtain ⟨I', J', t', hw, q1, q2, q3, q4, q5, q6⟩ := id hX
        cases hw
        refine z_aload_0 d_Mo_readTest_150 ?_
        refine z_getR d_Mo_readTest_151 f_Mo_35 (by first | assumption | exact zS0_at (by assumption) (by omega) | exact zS0_at rfl (by omega)) (by first | assumption | exact zS0_at (by assumption) (by omega) | exact zS0_at rfl (by omega)) ?_
        refine z_iload_1 d_Mo_readTest_154 ?_
        refine z_bipush (a := nI 6) d_Mo_readTest_155 (by decide) ?_
        first | refine z_iaddN d_Mo_readTest_157 ?_ | refine z_iadd d_Mo_readTest_157 ?_
        refine z_aload_0 d_Mo_readTest_158 ?_
        refine z_iconst (a := nI 0) d_Mo_readTest_159 (by decide) ?_
        refine z_sipush (a := nI 9999) d_Mo_readTest_160 (by decide) ?_
        refine z_Vi2 d_Mo_readTest_163 k_Mo_247 (by first | assumption | exact zS0_at (by assumption) (by omega) | exact zS0_at rfl (by omega)) (m_countz (c := 0) q3 q5 q6) ⟨Nat.le_of_ble_eq_true rfl, Nat.le_of_ble_eq_true rfl, Nat.le_of_ble_eq_true rfl, Nat.le_of_ble_eq_true rfl⟩ (Nat.le_of_ble_eq_true rfl) ?_
        intro r w hr
        obtain ⟨rfl, rfl⟩ := hr
        rw [← hy]
        first | refine z_iastN d_Mo_readTest_166 (by first | assumption | exact zS0_at (by assumption) (by omega) | exact zS0_at rfl (by omega)) (by omega) (by first | decide | omega) ?_ | refine z_iast d_Mo_readTest_166 (by first | assumption | exact zS0_at (by assumption) (by omega) | exact zS0_at rfl (by omega)) (by first | assumption | exact zS0_at (by assumption) (by omega) | exact zS0_at rfl (by omega)) ?_
        refine z_retv d_Mo_readTest_167 ?_
        exact moX_z hX (by omega)
      refine z_aload_0 d_Mo_readTest_89 ?_
      refine z_getR d_Mo_readTest_90 f_Mo_35 (by first | assumption | exact zS0_at (by assumption) (by omega) | exact zS0_at rfl (by omega)) (by first | assumption | exact zS0_at (by assumption) (by omega) | exact zS0_at rfl (by omega)) ?_
      refine z_iload_1 d_Mo_readTest_93 ?_
      refine z_bipush (a := nI 7) d_Mo_readTest_94 (by decide) ?_
      first | refine z_iaddN d_Mo_readTest_96 ?_ | refine z_iadd d_Mo_readTest_96 ?_
      refine z_aload_0 d_Mo_readTest_97 ?_
      refine z_getIv d_Mo_readTest_98 f_Mo_125 (by first | assumption | exact zS0_at (by assumption) (by omega) | exact zS0_at rfl (by omega)) (by first | assumption | ((try simp (disch := omega) only [zu_same, zu_ne, zcp_ne, zfl_ne]); first | assumption | rfl)) ?_
      refine z_iconst (a := nI 3) d_Mo_readTest_101 (by decide) ?_
      refine z_icmp_ne (tgt := 112) d_Mo_readTest_102 (by decide) (fun h3 => ?_) (fun h3 => ?_)
      · have h3 : ¬ tkd t2 = 3 := fun h => h3 (by rw [h])
        rw [fsg h3] at c113
        refine z_iconst (a := nI 0) d_Mo_readTest_112 (by decide) ?_
        first | refine z_iastN d_Mo_readTest_113 (by first | assumption | exact zS0_at (by assumption) (by omega) | exact zS0_at rfl (by omega)) (by omega) (by first | decide | omega) ?_ | refine z_iast d_Mo_readTest_113 (by first | assumption | exact zS0_at (by assumption) (by omega) | exact zS0_at rfl (by omega)) (by first | assumption | exact zS0_at (by assumption) (by omega) | exact zS0_at rfl (by omega)) ?_
        exact c113
      · have h3 : tkd t2 = 3 := (nI_eq (by omega) (by omega)).mp h3
        have f17 := f17 h3
        refine z_aload_0 d_Mo_readTest_105 ?_
        refine z_getIv d_Mo_readTest_106 f_Mo_144 (by first | assumption | exact zS0_at (by assumption) (by omega) | exact zS0_at rfl (by omega)) (by first | assumption | ((try simp (disch := omega) only [zu_same, zu_ne, zcp_ne, zfl_ne]); first | assumption | rfl)) ?_
        refine z_goto (tgt := 113) d_Mo_readTest_109 (by decide) ?_
        first | refine z_iastN d_Mo_readTest_113 (by first | assumption | exact zS0_at (by assumption) (by omega) | exact zS0_at rfl (by omega)) (by omega) (by first | decide | omega) ?_ | refine z_iast d_Mo_readTest_113 (by first | assumption | exact zS0_at (by assumption) (by omega) | exact zS0_at rfl (by omega)) (by first | assumption | exact zS0_at (by assumption) (by omega) | exact zS0_at rfl (by omega)) ?_
        exact c113
    · have e1 : y_first (tA T L K) n (nI 17) t1 = pb (p_known (n.1 11) n.2.2.2 t1) (fun k => .inr (k, tA T L K t1)) := by unfold y_first; rw [if_pos (by decide)]
      rw [e1] at hy
      refine z_aload_0 d_Mo_readTest_35 ?_
      refine z_getR d_Mo_readTest_36 f_Mo_35 (by first | assumption | exact zS0_at (by assumption) (by omega) | exact zS0_at rfl (by omega)) (by first | assumption | exact zS0_at (by assumption) (by omega) | exact zS0_at rfl (by omega)) ?_
      refine z_iload_1 d_Mo_readTest_39 ?_
      refine z_iconst (a := nI 1) d_Mo_readTest_40 (by decide) ?_
      first | refine z_iaddN d_Mo_readTest_41 ?_ | refine z_iadd d_Mo_readTest_41 ?_
      refine z_aload_0 d_Mo_readTest_42 ?_
      refine z_iconst (a := nI 0) d_Mo_readTest_43 (by decide) ?_
      refine z_iload_2 d_Mo_readTest_44 ?_
      refine z_iconst (a := nI 1) d_Mo_readTest_45 (by decide) ?_
      refine z_icmp_ne (tgt := 53) d_Mo_readTest_46 (by decide) (fun _ => ?_) (fun h => absurd h (by decide))
      refine z_iconst (a := nI 3) d_Mo_readTest_53 (by decide) ?_
      refine z_Vi2 d_Mo_readTest_54 k_Mo_257 (by first | assumption | exact zS0_at (by assumption) (by omega) | exact zS0_at rfl (by omega)) (m_rd (so := 3) (off := 13) (N := n.1 11) C1z (by omega) (by rw [zu_ne _ _ _ _ (by omega), e150]; exact b3) b3b (fun k hk => by rw [e152]; exact b6 k hk)) ⟨Nat.le_of_ble_eq_true rfl, Nat.le_of_ble_eq_true rfl, Nat.le_of_ble_eq_true rfl, Nat.le_of_ble_eq_true rfl⟩ (Nat.le_of_ble_eq_true rfl) ?_
      intro r w hq
      rcases hx1 : p_known (n.1 11) n.2.2.2 t1 with e | v <;> rw [hx1] at hq hy <;> dsimp only [pb] at hy
      · obtain ⟨rfl, rfl, e2⟩ := hq
        first | refine z_iastN d_Mo_readTest_57 (by first | assumption | exact zS0_at (by assumption) (by omega) | exact zS0_at rfl (by omega)) (by omega) (by first | decide | omega) ?_ | refine z_iast d_Mo_readTest_57 (by first | assumption | exact zS0_at (by assumption) (by omega) | exact zS0_at rfl (by omega)) (by first | assumption | exact zS0_at (by assumption) (by omega) | exact zS0_at rfl (by omega)) ?_
        refine z_iload_2 d_Mo_readTest_58 ?_
        refine z_if_ne (tgt := 76) d_Mo_readTest_59 (by decide) (fun _ => ?_) (fun h => absurd h (by decide))
        exact tailb e _ _ hy (moX_z (moX_B C1z (mR_P r1 hx.1) (mQ_tk h2) e2) (by omega))
      obtain ⟨rfl, I2, J2, rfl, g1, g2, C2⟩ := hq
      obtain ⟨xx, hxx, rfl, -⟩ := p_known_c hx1
      have e150b := g1.1 150 (by decide)
      have ec : y_cmp (tA T L K) (nI 17) (tA T L K t1) = .inr (nI 17, tA T L K t1) := by unfold y_cmp; rw [if_neg (by decide)]
      rw [ec] at hy
      dsimp only [pb] at hy
      have e3 : y_second (tA T L K) n (nI 17) (tA T L K t1) = .inr (nI 0, tA T L K t1) := by unfold y_second; rw [if_neg (by decide), if_neg (by decide), if_neg (by decide)]
      rw [e3] at hy
      dsimp only [pb] at hy
      first | refine z_iastN d_Mo_readTest_57 (by first | assumption | exact zS0_at (by assumption) (by omega) | exact zS0_at rfl (by omega)) (by omega) (by first | decide | omega) ?_ | refine z_iast d_Mo_readTest_57 (by first | assumption | exact zS0_at (by assumption) (by omega) | exact zS0_at rfl (by omega)) (by first | assumption | exact zS0_at (by assumption) (by omega) | exact zS0_at rfl (by omega)) ?_
      refine z_iload_2 d_Mo_readTest_58 ?_
      refine z_if_ne (tgt := 76) d_Mo_readTest_59 (by decide) (fun _ => ?_) (fun h => absurd h (by decide))
      refine tail0 _ _ _ (moC_z C2) (by decide) ?_
      rw [← hy]
      refine ⟨_, _, rfl, mR_c (mR_t r1 (mR_tk g1)) (by omega), mJ_t h2 g2, moC_z C2, Or.inr ⟨ho, fun A Q i s f1 f2 f3 f4 => Or.inr ⟨?_, Or.inr (Or.inl ⟨xx, hxx, f1, ?_, f2, ?_⟩)⟩⟩⟩
      · rw [f4 0 (by decide)]; simp (disch := omega) only [zu_ne, e150b, e150]; exact h0
      · rw [f4 5 (by decide)]; simp (disch := omega) only [zu_ne, e150b, zu_same]
      · rw [f4 1 (by decide)]; simp (disch := omega) only [zu_same]
  refine z_aload_0 d_Mo_readTest_0 ?_
  refine z_Vi0 d_Mo_readTest_1 k_Mo_193 (by first | assumption | exact zS0_at (by assumption) (by omega) | exact zS0_at rfl (by omega)) (m_testWord C) ⟨Nat.le_of_ble_eq_true rfl, Nat.le_of_ble_eq_true rfl, Nat.le_of_ble_eq_true rfl, Nat.le_of_ble_eq_true rfl⟩ (Nat.le_of_ble_eq_true rfl) ?_
  intro r w hq
  obtain ⟨rfl, rfl⟩ := hq
  by_cases k8 : tkw (tA T L K t) = nI 8
  · rw [show s_tsw (tkw (tA T L K t)) = nI 0 by rw [k8]; decide]
    first | refine z_istore_2 d_Mo_readTest_4 rfl ?_ | (refine z_forget_1 ?_; refine z_istore_2 d_Mo_readTest_4 rfl ?_)
    exact main 0 8 (by omega) k8
  by_cases k16 : tkw (tA T L K t) = nI 16
  · rw [show s_tsw (tkw (tA T L K t)) = nI 1 by rw [k16]; decide]
    first | refine z_istore_2 d_Mo_readTest_4 rfl ?_ | (refine z_forget_1 ?_; refine z_istore_2 d_Mo_readTest_4 rfl ?_)
    exact main 1 16 (by omega) k16
  by_cases k17 : tkw (tA T L K t) = nI 17
  · rw [show s_tsw (tkw (tA T L K t)) = nI 2 by rw [k17]; decide]
    first | refine z_istore_2 d_Mo_readTest_4 rfl ?_ | (refine z_forget_1 ?_; refine z_istore_2 d_Mo_readTest_4 rfl ?_)
    exact main 2 17 (by omega) k17
  rw [show s_tsw (tkw (tA T L K t)) = -1 by unfold s_tsw; rw [if_neg k8, if_neg k16, if_neg k17]]
  rw [if_neg (by rintro (h | h | h); exact k8 h; exact k16 h; exact k17 h)] at hy
  dsimp only [pb] at hy
  first | refine z_istore_2 d_Mo_readTest_4 rfl ?_ | (refine z_forget_1 ?_; refine z_istore_2 d_Mo_readTest_4 rfl ?_)
  refine z_aload_0 d_Mo_readTest_5 ?_
  refine z_iload_2 d_Mo_readTest_6 ?_
  refine z_if_lt (tgt := 14) d_Mo_readTest_7 (by decide) (fun _ => ?_) (fun h => absurd (by decide) h)
  refine z_iconst (a := nI 0) d_Mo_readTest_14 (by decide) ?_
  refine z_Vv1 d_Mo_readTest_15 k_Mo_239 (by first | assumption | exact zS0_at (by assumption) (by omega) | exact zS0_at rfl (by omega)) (m_must0 C) ⟨Nat.le_of_ble_eq_true rfl, Nat.le_of_ble_eq_true rfl, Nat.le_of_ble_eq_true rfl, Nat.le_of_ble_eq_true rfl⟩ (Nat.le_of_ble_eq_true rfl) ?_
  intro w hr
  obtain rfl := hr
  have hX := moX_z (k := x + 5) (v := -1) (moX_B C mP_r mQ_r (p_mis_b (t := tA T L K t))) (by omega)
  obtain ⟨I', J', t', hw, q1, q2, q3, q4, q5, q6⟩ := id hX
  cases hw
  obtain ⟨-, -, c3, -⟩ := moC_n q3
  rw [← hy]
  refine z_aload_0 d_Mo_readTest_18 ?_
  refine z_getR d_Mo_readTest_19 f_Mo_35 (by first | assumption | exact zS0_at (by assumption) (by omega) | exact zS0_at rfl (by omega)) (by first | assumption | exact zS0_at (by assumption) (by omega) | exact zS0_at rfl (by omega)) ?_
  refine z_iload_1 d_Mo_readTest_22 ?_
  refine z_iconst (a := nI 5) d_Mo_readTest_23 (by decide) ?_
  first | refine z_iaddN d_Mo_readTest_24 ?_ | refine z_iadd d_Mo_readTest_24 ?_
  refine z_iload_2 d_Mo_readTest_25 ?_
  first | refine z_iastN d_Mo_readTest_26 (by first | assumption | exact zS0_at (by assumption) (by omega) | exact zS0_at rfl (by omega)) (by omega) (by first | decide | omega) ?_ | refine z_iast d_Mo_readTest_26 (by first | assumption | exact zS0_at (by assumption) (by omega) | exact zS0_at rfl (by omega)) (by first | assumption | exact zS0_at (by assumption) (by omega) | exact zS0_at rfl (by omega)) ?_
  refine z_aload_0 d_Mo_readTest_27 ?_
  refine z_getIv d_Mo_readTest_28 f_Mo_202 (by first | assumption | exact zS0_at (by assumption) (by omega) | exact zS0_at rfl (by omega)) (by first | assumption | ((try simp (disch := omega) only [zu_same, zu_ne, zcp_ne, zfl_ne]); first | assumption | rfl)) ?_
  refine z_if_le (tgt := 35) d_Mo_readTest_31 (by decide) (fun h => absurd h (nz_le q5 q6)) (fun _ => ?_)
  refine z_retv d_Mo_readTest_34 ?_
  exact hX
end MY0
