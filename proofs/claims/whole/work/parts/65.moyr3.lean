/-! the reference's reader of YEARS: steps, the whole; both pictures of YEARS side by side -/
section MY2
/-- the reference's steps from x up to y stand in the class's rows from i up to j -/
def yb (n : yN) (A Q : Nat → Nat → Int32) : Nat → Nat → Nat → Nat → Nat → Prop
  | 0, x, y, i, j => x = y ∧ i = j
  | m + 1, x, y, i, j => (x = y ∧ i = j) ∨ (yst n A Q i x ∧ Q x 8 = nI (x + 1) ∧ yb n A Q m (x + 1) y (i + 1) j) ∨ (∃ e E, ybk n A Q i x ∧ Q x 8 = nI e ∧ A 4 i = nI E ∧ A 1 E = nI 19 ∧ A 4 E = nI i ∧ yb n A Q m (x + 1) e (i + 1) E ∧ yb n A Q m e y (E + 1) j)
theorem yb_le {n : yN} {A Q : Nat → Nat → Int32} : ∀ m x y i j, yb n A Q m x y i j → x ≤ y ∧ i ≤ j := by
  intro m
  induction m with
  | zero => rintro x y i j ⟨rfl, rfl⟩; exact ⟨Nat.le_refl _, Nat.le_refl _⟩
  | succ m ih =>
    rintro x y i j (⟨rfl, rfl⟩ | ⟨-, -, h⟩ | ⟨e, E, -, -, -, -, -, h1, h2⟩)
    · exact ⟨Nat.le_refl _, Nat.le_refl _⟩
    · have := ih _ _ _ _ h; omega
    · have := ih _ _ _ _ h1; have := ih _ _ _ _ h2; omega
theorem yst_c {n : yN} {A A' Q Q' : Nat → Nat → Int32} {i s : Nat} (hA : ∀ r, 1 ≤ r → r ≤ 3 → A' r i = A r i) (hQ : ∀ k, k < 8 → Q' s k = Q s k) (h : yst n A Q i s) : yst n A' Q' i s := by
  unfold yst
  rw [hA 1 (by decide) (by decide), hA 2 (by decide) (by decide), hA 3 (by decide) (by decide), hQ 0 (by decide), hQ 1 (by decide), hQ 2 (by decide)]
  exact h
theorem ybk_c {n : yN} {A A' Q Q' : Nat → Nat → Int32} {i s : Nat} (hA : ∀ r, 1 ≤ r → r ≤ 3 → A' r i = A r i) (hQ : ∀ k, k < 8 → Q' s k = Q s k) (h : ybk n A Q i s) : ybk n A' Q' i s := by
  unfold ybk
  rw [hA 1 (by decide) (by decide), hA 2 (by decide) (by decide), hA 3 (by decide) (by decide), hQ 0 (by decide), hQ 1 (by decide), hQ 2 (by decide), hQ 5 (by decide), hQ 6 (by decide), hQ 7 (by decide)]
  exact h
theorem yb_c {n : yN} {A A' Q Q' : Nat → Nat → Int32} : ∀ m x y i j, (∀ r k, 1 ≤ r → r ≤ 4 → i ≤ k → k < j → A' r k = A r k) → (∀ s k, x ≤ s → s < y → k < 9 → Q' s k = Q s k) → yb n A Q m x y i j → yb n A' Q' m x y i j := by
  intro m
  induction m with
  | zero => intro x y i j _ _ h; exact h
  | succ m ih =>
    rintro x y i j hA hQ (⟨rfl, rfl⟩ | ⟨h1, h2, h3⟩ | ⟨e, E, h1, h2, h3, h4, h5, h6, h7⟩)
    · exact Or.inl ⟨rfl, rfl⟩
    · have l := yb_le _ _ _ _ _ h3
      refine Or.inr (Or.inl ⟨yst_c (fun r g1 g2 => hA r i g1 (by omega) (Nat.le_refl _) (by omega)) (fun k hk => hQ x k (Nat.le_refl _) (by omega) (by omega)) h1, ?_, ih _ _ _ _ (fun r k g1 g2 g3 g4 => hA r k g1 g2 (by omega) g4) (fun s k g1 g2 g3 => hQ s k (by omega) g2 g3) h3⟩)
      rw [hQ x 8 (Nat.le_refl _) (by omega) (by omega)]; exact h2
    · have l := yb_le _ _ _ _ _ h6
      have l2 := yb_le _ _ _ _ _ h7
      refine Or.inr (Or.inr ⟨e, E, ybk_c (fun r g1 g2 => hA r i g1 (by omega) (Nat.le_refl _) (by omega)) (fun k hk => hQ x k (Nat.le_refl _) (by omega) (by omega)) h1, ?_, ?_, ?_, ?_, ih _ _ _ _ (fun r k g1 g2 g3 g4 => hA r k g1 g2 (by omega) (by omega)) (fun s k g1 g2 g3 => hQ s k (by omega) (by omega) g3) h6, ih _ _ _ _ (fun r k g1 g2 g3 g4 => hA r k g1 g2 (by omega) g4) (fun s k g1 g2 g3 => hQ s k (by omega) g2 g3) h7⟩)
      · rw [hQ x 8 (Nat.le_refl _) (by omega) (by omega)]; exact h2
      · rw [hA 4 i (by omega) (by omega) (by omega) (by omega)]; exact h3
      · rw [hA 1 E (by omega) (by omega) (by omega) (by omega)]; exact h4
      · rw [hA 4 E (by omega) (by omega) (by omega) (by omega)]; exact h5
theorem yb_s {n : yN} {A Q : Nat → Nat → Int32} : ∀ m x y i j, yb n A Q m x y i j → yb n A Q (m + 1) x y i j := by
  intro m
  induction m with
  | zero => intro x y i j h; exact Or.inl h
  | succ m ih =>
    rintro x y i j (h | ⟨h1, h2, h3⟩ | ⟨e, E, h1, h2, h3, h4, h5, h6, h7⟩)
    · exact Or.inl h
    · exact Or.inr (Or.inl ⟨h1, h2, ih _ _ _ _ h3⟩)
    · exact Or.inr (Or.inr ⟨e, E, h1, h2, h3, h4, h5, ih _ _ _ _ h6, ih _ _ _ _ h7⟩)
theorem yb_m {n : yN} {A Q : Nat → Nat → Int32} {m x y i j : Nat} (h : yb n A Q m x y i j) : ∀ k, yb n A Q (m + k) x y i j := by
  intro k
  induction k with
  | zero => exact h
  | succ k ih => exact yb_s _ _ _ _ _ ih
theorem yb_app {n : yN} {A Q : Nat → Nat → Int32} {m' y z j k : Nat} (g : yb n A Q m' y z j k) : ∀ m x i, yb n A Q m x y i j → yb n A Q (m + m') x z i k := by
  intro m
  induction m with
  | zero =>
    rintro x i ⟨rfl, rfl⟩
    rw [Nat.zero_add]; exact g
  | succ m ih =>
    rintro x i (⟨rfl, rfl⟩ | ⟨h1, h2, h3⟩ | ⟨e, E, h1, h2, h3, h4, h5, h6, h7⟩)
    · rw [Nat.add_comm]; exact yb_m g _
    · rw [show m + 1 + m' = (m + m') + 1 by omega]
      exact Or.inr (Or.inl ⟨h1, h2, ih _ _ h3⟩)
    · rw [show m + 1 + m' = (m + m') + 1 by omega]
      exact Or.inr (Or.inr ⟨e, E, h1, h2, h3, h4, h5, yb_m h6 _, ih _ _ h7⟩)
theorem y_it_sz {a : tk → tk} {n : yN} {s : yS} {t : tk} {x : yS × tk} (h : y_it a n s t = .inr x) : x.1.1.2.1 = s.1.2.1 + 1 := by
  unfold y_it at h
  split at h
  · unfold y_end at h
    split at h
    · cases h
    · obtain ⟨v, -, h⟩ := pb_r h
      cases h
      rfl
  · obtain ⟨v, -, h⟩ := pb_r h
    rw [y_step_rest] at h
    obtain ⟨v, -, h⟩ := pb_r h
    obtain ⟨v, -, h⟩ := pb_r h
    cases h
    rfl
def yY (a : tk → tk) (n : yN) (s : yS) (t : tk) : pR yS := y_parts a n (300 - s.1.2.1) s t
theorem yY_eq {a : tk → tk} {n : yN} {s : yS} {t : tk} (h : s.1.2.1 < 300) : yY a n s t = if tkd t = 0 then (if s.1.2.2 = 0 then .inr s else .inl (p_mis t)) else pb (y_it a n s t) (fun x => yY a n x.1 x.2) := by
  unfold yY
  rw [show 300 - s.1.2.1 = (299 - s.1.2.1) + 1 by omega, y_parts]
  split
  · rfl
  · rcases hx : y_it a n s t with e | x
    · rfl
    · dsimp only [pb]
      rw [y_it_sz hx, show 300 - (s.1.2.1 + 1) = 299 - s.1.2.1 by omega]
def yI (s : yS) : Prop := s.1.1 ≤ 30 ∧ s.1.2.2 ≤ 3 ∧ s.1.2.1 + s.1.2.2 ≤ 2 * s.1.1 ∧ ∀ d, d < s.1.2.2 → s.2.1 d < s.1.2.1
theorem ao_1 {A : Nat → Nat → Int32} {z : Nat} {a b c : Int32} : s_addOp A 0 z a b c 1 z = a := by simp [s_addOp, zu]
theorem ao_2 {A : Nat → Nat → Int32} {z : Nat} {a b c : Int32} : s_addOp A 0 z a b c 2 z = b := by simp [s_addOp, zu]
theorem ao_3 {A : Nat → Nat → Int32} {z : Nat} {a b c : Int32} : s_addOp A 0 z a b c 3 z = c := by simp [s_addOp, zu]
theorem ao_4 {A : Nat → Nat → Int32} {z i : Nat} {a b c : Int32} : s_addOp A 0 z a b c 4 i = A 4 i := by simp [s_addOp, zu]
theorem ao_o {A : Nat → Nat → Int32} {z r i : Nat} {a b c : Int32} (hr : 1 ≤ r) (h : i ≠ z) : s_addOp A 0 z a b c r i = A r i := by
  have : r ≠ 0 := by omega
  simp [s_addOp, zu, h, this]
theorem stw_c : ∀ k, k < 21 → ((k = 10 ∧ s_stw (nI k) = nI 0) ∨ (k = 11 ∧ s_stw (nI k) = nI 1) ∨ (k = 12 ∧ s_stw (nI k) = nI 2) ∨ (k = 13 ∧ s_stw (nI k) = nI 3) ∨ (k = 14 ∧ s_stw (nI k) = nI 4) ∨ (k = 15 ∧ s_stw (nI k) = nI 5) ∨ (k = 18 ∧ s_stw (nI k) = nI 6) ∨ (k = 20 ∧ s_stw (nI k) = nI 7)) ∨ (¬ (k = 15 ∨ k = 18 ∨ k = 20 ∨ (10 ≤ k ∧ k ≤ 14)) ∧ s_stw (nI k) = -1) := by decide +kernel
variable {G : zG} {I I1 I2 : Nat → Nat → Int32} {J J1 J2 : Nat → Nat → Int64} {P : Nat → Nat → Option Nat} {S : List (Nat × Nat)} {L x : Nat} {a b : Int32} {T : Nat → Int32} {K : Nat → Int64} {t : tk} {z : Nat} {n : yN} {s : yS} {w : zW}
theorem moX_t {e : Nat × Nat} (h1 : mP I I1) (h2 : mQ J J1) (h : moX T K L I1 J1 P S e w) : moX T K L I J P S e w := by
  obtain ⟨I', J', t', hw, q1, q2, q3⟩ := h
  exact ⟨I', J', t', hw, mP_t h1 q1, mQ_t h2 q2, q3⟩
/-- how the reference's reading of a step ends -/
def yZ (T : Nat → Int32) (K : Nat → Int64) (L : Nat) (n : yN) (I : Nat → Nat → Int32) (J : Nat → Nat → Int64) (P : Nat → Nat → Option Nat) (S : List (Nat × Nat)) (s : yS) (t : tk) (w : zW) : Prop :=
  (∃ e, moX T K L I J P S e w ∧ yY (tA T L K) n s t = .inl e) ∨
  (∃ (s' : yS) (t' : tk) (I' : Nat → Nat → Int32) (J' : Nat → Nat → Int64) (m : Nat), w = (I', J', P, S) ∧ mP I I' ∧ mQ J J' ∧ moC T K L 0 I' J' P S t' ∧ I' 145 25 = nI s'.1.1 ∧ yI s' ∧ s.1.1 < s'.1.1 ∧ s'.1.2.2 = s.1.2.2 ∧ (∀ d, d < s.1.2.2 → s'.2.1 d = s.2.1 d) ∧ yY (tA T L K) n s t = yY (tA T L K) n s' t' ∧ (∀ k, 1436 ≤ k → k < 1525 + 9 * s.1.1 → I' 150 k = I 150 k) ∧ (∀ r i, i < s.1.2.1 → 1 ≤ r → s'.2.2 r i = s.2.2 r i) ∧ yb n s'.2.2 (fun c k => I' 150 (1525 + 9 * c + k)) m s.1.1 s'.1.1 s.1.2.1 s'.1.2.1)
theorem m_readStepG {D ns sz dp : Nat} {op : Nat → Nat} {A : Nat → Nat → Int32} (hD : 10 ≤ D) (hrec : dp < 3 → ∀ (I : Nat → Nat → Int32) (J : Nat → Nat → Int64) (s : yS) (t : tk), moC T K L 0 I J P S t → myN I J n → I 145 25 = nI s.1.1 → yI s → s.1.2.2 = dp + 1 → ¬ tkw t = nI 19 → zEv G y_Mo_readStep prog_14_method_71_code 5 D 0 0 [.ref 145, .int (nI (dp + 1))] (I, J, P, S) (fun w => yZ T K L n I J P S s t w)) (C : moC T K L 0 I J P S t) (N : myN I J n) (h25 : I 145 25 = nI ns) (Y : yI ((ns, sz, dp), op, A)) (ht0 : tkd t ≠ 0 ∨ dp ≠ 0) (ht19 : dp ≠ 0 → ¬ tkw t = nI 19) : zEv G y_Mo_readStep prog_14_method_71_code 5 (D+1) 0 0 [.ref 145, .int (nI dp)] (I, J, P, S) (fun w => yZ T K L n I J P S ((ns, sz, dp), op, A) t w) := by
  have M := C.1
  obtain ⟨M0, ⟨M4, M4s⟩, ⟨M5, M5s⟩, ⟨M6, M6s⟩, ⟨M7, M7s⟩, ⟨M20, M20s⟩, ⟨M21, M21s⟩, ⟨M22, M22s⟩, ⟨M26, M26s⟩, ⟨M27, M27s⟩, ⟨M28, M28s⟩, ⟨M30, M30s⟩, ⟨M34, M34s⟩, ⟨M36, M36s⟩, ⟨M37, M37s⟩⟩ := id M
  obtain ⟨a1, a2, a3, h4, h5, h6, -⟩ := moC_n C
  obtain ⟨y1, y2, y3, y4⟩ := id Y
  dsimp only at y1 y2 y3 y4
  have hkc := moC_kc C
  have yE := yY_eq (a := tA T L K) (n := n) (s := ((ns, sz, dp), op, A)) (t := t) (show sz < 300 by omega)
  dsimp only at yE
  refine zEv_of (lv := [some (.ref 145), some (.int (nI dp)), none, none, none]) (by decide) rfl (Nat.le_of_ble_eq_true rfl) ?_
  have badE : ∀ (e : Nat × Nat) (Ix : Nat → Nat → Int32) (Jx : Nat → Nat → Int64) (k o x : Int32), moX T K L I J P S e (Ix, Jx, P, S) → yY (tA T L K) n ((ns, sz, dp), op, A) t = .inl e → zA G y_Mo_readStep prog_14_method_71_code 5 none (zRm (D+1) 0 0) (zM G 0 0 (fun r w' => r = none ∧ (fun w => yZ T K L n I J P S ((ns, sz, dp), op, A) t w) w')) 82 [some (.ref 145), some (.int (nI dp)), some (.int k), some (.int o), none] [] (Ix, Jx, P, S) 0 0 := by
    intro e Ix Jx k o x hX hy
    obtain ⟨I', J', t', hw, q1, q2, q3, q4, q5, q6⟩ := id hX
    cases hw
    obtain ⟨-, -, c3, -⟩ := moC_n q3
    refine z_aload_0 d_Mo_readStep_82 ?_
    refine z_getIv d_Mo_readStep_83 f_Mo_202 (by first | assumption | exact zS0_at (by assumption) (by omega) | exact zS0_at rfl (by omega)) (by first | assumption | ((try simp (disch := omega) only [zu_same, zu_ne, zcp_ne, zfl_ne]); first | assumption | rfl)) ?_
    refine z_if_le (tgt := 90) d_Mo_readStep_86 (by decide) (fun h => absurd h (nz_le q5 q6)) (fun _ => ?_)
    refine z_retv d_Mo_readStep_89 ?_
    exact Or.inl ⟨e, hX, hy⟩
  refine z_aload_0 d_Mo_readStep_0 ?_
  refine z_Vi0 d_Mo_readStep_1 k_Mo_189 (by first | assumption | exact zS0_at (by assumption) (by omega) | exact zS0_at rfl (by omega)) (m_stepWord C) (by refine ⟨?_, ?_, ?_, ?_⟩ <;> simp only [zRm] <;> omega) (Nat.le_of_ble_eq_true rfl) ?_
  intro r w hq
  obtain ⟨rfl, rfl⟩ := hq
  by_cases hwd : y_word t
  rotate_left
  · have e1 : s_stw (tkw t) = -1 := by
      rcases hkc with h | ⟨k, hk, h⟩
      · rw [h]; decide
      · rw [h]
        rcases stw_c k hk with g | g
        · exfalso
          apply hwd
          rw [y_word, y_opens, h]
          rcases g with ⟨rfl, -⟩ | ⟨rfl, -⟩ | ⟨rfl, -⟩ | ⟨rfl, -⟩ | ⟨rfl, -⟩ | ⟨rfl, -⟩ | ⟨rfl, -⟩ | ⟨rfl, -⟩ <;> decide
        · exact g.2
    have e2 : yY (tA T L K) n ((ns, sz, dp), op, A) t = .inl (p_mis t) := by
      rw [yE]
      split
      · rw [if_neg]
        omega
      · unfold y_it
        split
        · rename_i h19
          have hd : dp = 0 := by
            rcases Nat.eq_zero_or_pos dp with h | h
            · exact h
            · exact absurd h19 (ht19 (by omega))
          unfold y_end
          dsimp only
          rw [if_pos hd]
          rfl
        · unfold y_beg
          rw [if_neg hwd]
          rfl
    rw [e1]
    first | refine z_istore_2 d_Mo_readStep_4 rfl ?_ | (refine z_forget_1 ?_; refine z_istore_2 d_Mo_readStep_4 rfl ?_)
    refine z_iload_2 d_Mo_readStep_5 ?_
    refine z_iconst (a := nI 5) d_Mo_readStep_6 (by decide) ?_
    refine z_icmp_eq (tgt := 16) d_Mo_readStep_7 (by decide) (fun h => absurd h (by decide)) (fun _ => ?_)
    refine z_iload_2 d_Mo_readStep_10 ?_
    refine z_bipush (a := nI 6) d_Mo_readStep_11 (by decide) ?_
    refine z_icmp_ne (tgt := 20) d_Mo_readStep_13 (by decide) (fun _ => ?_) (fun h => absurd h (by decide))
    refine z_iconst (a := nI 0) d_Mo_readStep_20 (by decide) ?_
    first | refine z_istore_3 d_Mo_readStep_21 rfl ?_ | (refine z_forget_2 ?_; refine z_istore_3 d_Mo_readStep_21 rfl ?_)
    refine z_iload_2 d_Mo_readStep_22 ?_
    refine z_if_ge (tgt := 30) d_Mo_readStep_23 (by decide) (fun h => absurd h (by decide)) (fun _ => ?_)
    refine z_aload_0 d_Mo_readStep_26 ?_
    refine z_Vv0 d_Mo_readStep_27 k_Mo_215 (by first | assumption | exact zS0_at (by assumption) (by omega) | exact zS0_at rfl (by omega)) (m_amiss0 C) (by refine ⟨?_, ?_, ?_, ?_⟩ <;> simp only [zRm] <;> omega) (Nat.le_of_ble_eq_true rfl) ?_
    intro w hq
    obtain rfl := hq
    have hm := p_mis_b (t := t)
    have hB12 : mB I (p_mis t) 145 12 = nI (p_mis t).1 := by simp [mB, zu]
    refine z_aload_0 d_Mo_readStep_30 ?_
    refine z_getIv d_Mo_readStep_31 f_Mo_202 (by first | assumption | exact zS0_at (by assumption) (by omega) | exact zS0_at rfl (by omega)) (by first | assumption | ((try simp (disch := omega) only [zu_same, zu_ne, zcp_ne, zfl_ne]); first | assumption | rfl)) ?_
    refine z_if_ne (tgt := 56) d_Mo_readStep_34 (by decide) (fun _ => ?_) (fun h => absurd h (nz_ne hm.1 hm.2))
    refine z_aload_0 d_Mo_readStep_56 ?_
    refine z_getIv d_Mo_readStep_57 f_Mo_202 (by first | assumption | exact zS0_at (by assumption) (by omega) | exact zS0_at rfl (by omega)) (by first | assumption | ((try simp (disch := omega) only [zu_same, zu_ne, zcp_ne, zfl_ne]); first | assumption | rfl)) ?_
    refine z_if_ne (tgt := 82) d_Mo_readStep_60 (by decide) (fun _ => ?_) (fun h => absurd h (nz_ne hm.1 hm.2))
    exact badE _ _ _ _ _ 0 (moX_B C mP_r mQ_r hm) e2
  have hkd : tkd t = 1 := by
    have p3 := C.2.2.2.2.1.2.2.1
    rcases Classical.em (tkd t = 1 ∧ ten t - tst t ≤ 8) with h | h
    · exact h.1
    · rw [y_word, y_opens, (p3 h).1] at hwd
      exact absurd hwd (by decide)
  have h19 : ¬ tkw t = nI 19 := by
    intro h
    rw [y_word, y_opens, h] at hwd
    exact absurd hwd (by decide)
  have e0 : yY (tA T L K) n ((ns, sz, dp), op, A) t = pb (pb (y_beg ((ns, sz, dp), op, A) t) (fun _ => y_step (tA T L K) n ((ns, sz, dp), op, A) t)) (fun x => yY (tA T L K) n x.1 x.2) := by
    rw [yE, if_neg (by omega)]
    unfold y_it
    rw [if_neg h19]
  unfold y_beg at e0
  rw [if_pos hwd] at e0
  dsimp only at e0
  have c30 : ∀ k o : Nat, k ≤ 7 → s_stw (tkw t) = nI k → (o = 1 ∧ y_opens t ∨ o = 0 ∧ ¬ y_opens t) → zA G y_Mo_readStep prog_14_method_71_code 5 none (zRm (D+1) 0 0) (zM G 0 0 (fun r w' => r = none ∧ (fun w => yZ T K L n I J P S ((ns, sz, dp), op, A) t w) w')) 30 [some (.ref 145), some (.int (nI dp)), some (.int (nI k)), some (.int (nI o)), none] [] (I, J, P, S) 0 0 := by
    intro k o hk7 hk ho
    refine z_aload_0 d_Mo_readStep_30 ?_
    refine z_getIv d_Mo_readStep_31 f_Mo_202 (by first | assumption | exact zS0_at (by assumption) (by omega) | exact zS0_at rfl (by omega)) (by first | assumption | ((try simp (disch := omega) only [zu_same, zu_ne, zcp_ne, zfl_ne]); first | assumption | rfl)) ?_
    refine z_if_ne (tgt := 56) d_Mo_readStep_34 (by decide) (fun h => absurd (by decide) h) (fun _ => ?_)
    refine z_aload_0 d_Mo_readStep_37 ?_
    refine z_getIv d_Mo_readStep_38 f_Mo_301 (by first | assumption | exact zS0_at (by assumption) (by omega) | exact zS0_at rfl (by omega)) (by first | assumption | ((try simp (disch := omega) only [zu_same, zu_ne, zcp_ne, zfl_ne]); first | assumption | rfl)) ?_
    refine z_bipush (a := nI 30) d_Mo_readStep_41 (by decide) ?_
    refine z_icmp_ne (tgt := 56) d_Mo_readStep_43 (by decide) (fun h30 => ?_) (fun h30 => ?_)
    rotate_left
    · have h30 : ns = 30 := (nI_eq (by omega) (by omega)).mp h30
      rw [if_pos (by omega)] at e0
      dsimp only [pb] at e0
      have hB12 : mB I (6, tst t) 145 12 = nI 6 := by simp [mB, zu]
      refine z_aload_0 d_Mo_readStep_46 ?_
      refine z_bipush (a := nI 6) d_Mo_readStep_47 (by decide) ?_
      refine z_aload_0 d_Mo_readStep_49 ?_
      refine z_getIv d_Mo_readStep_50 f_Mo_119 (by first | assumption | exact zS0_at (by assumption) (by omega) | exact zS0_at rfl (by omega)) (by first | assumption | ((try simp (disch := omega) only [zu_same, zu_ne, zcp_ne, zfl_ne]); first | assumption | rfl)) ?_
      refine z_Vv2 d_Mo_readStep_53 k_Mo_208 (by first | assumption | exact zS0_at (by assumption) (by omega) | exact zS0_at rfl (by omega)) (m_fail0 C) (by refine ⟨?_, ?_, ?_, ?_⟩ <;> simp only [zRm] <;> omega) (Nat.le_of_ble_eq_true rfl) ?_
      intro w hq
      obtain rfl := hq
      refine z_aload_0 d_Mo_readStep_56 ?_
      refine z_getIv d_Mo_readStep_57 f_Mo_202 (by first | assumption | exact zS0_at (by assumption) (by omega) | exact zS0_at rfl (by omega)) (by first | assumption | ((try simp (disch := omega) only [zu_same, zu_ne, zcp_ne, zfl_ne]); first | assumption | rfl)) ?_
      refine z_if_ne (tgt := 82) d_Mo_readStep_60 (by decide) (fun _ => ?_) (fun h => absurd h (by decide))
      exact badE _ _ _ _ _ 0 (moX_B C mP_r mQ_r ⟨show 0 < 6 by decide, show 6 < 9 by decide⟩) e0
    have h30 : ns < 30 := by
      have : ns ≠ 30 := fun h => h30 (by rw [h])
      omega
    rw [if_neg (by omega)] at e0
    have c82 : ¬ (y_opens t ∧ 3 ≤ dp) → zA G y_Mo_readStep prog_14_method_71_code 5 none (zRm (D+1) 0 0) (zM G 0 0 (fun r w' => r = none ∧ (fun w => yZ T K L n I J P S ((ns, sz, dp), op, A) t w) w')) 82 [some (.ref 145), some (.int (nI dp)), some (.int (nI k)), some (.int (nI o)), none] [] (I, J, P, S) 0 0 := by
      intro hno
      rw [if_neg hno] at e0
      dsimp only [pb] at e0
      rw [y_step_rest] at e0
      have C0 : moC T K L 0 (zu I 145 25 (nI (ns + 1))) J P S t := moC_c C (fun k hk => zu_ne _ _ _ _ (by omega)) (zu_row _ _ _ _ (by decide)) rfl
      refine z_aload_0 d_Mo_readStep_82 ?_
      refine z_getIv d_Mo_readStep_83 f_Mo_202 (by first | assumption | exact zS0_at (by assumption) (by omega) | exact zS0_at rfl (by omega)) (by first | assumption | ((try simp (disch := omega) only [zu_same, zu_ne, zcp_ne, zfl_ne]); first | assumption | rfl)) ?_
      refine z_if_le (tgt := 90) d_Mo_readStep_86 (by decide) (fun _ => ?_) (fun h => absurd (by decide) h)
      refine z_sipush (a := nI 1525) d_Mo_readStep_90 (by decide) ?_
      refine z_bipush (a := nI 9) d_Mo_readStep_93 (by decide) ?_
      refine z_aload_0 d_Mo_readStep_95 ?_
      refine z_getIv d_Mo_readStep_96 f_Mo_301 (by first | assumption | exact zS0_at (by assumption) (by omega) | exact zS0_at rfl (by omega)) (by first | assumption | ((try simp (disch := omega) only [zu_same, zu_ne, zcp_ne, zfl_ne]); first | assumption | rfl)) ?_
      first | refine z_imulN d_Mo_readStep_99 ?_ | refine z_imul d_Mo_readStep_99 ?_
      first | refine z_iaddN d_Mo_readStep_100 ?_ | refine z_iadd d_Mo_readStep_100 ?_
      first | refine z_istore_4 d_Mo_readStep_101 rfl ?_ | (refine z_forget_3 ?_; refine z_istore_4 d_Mo_readStep_101 rfl ?_)
      refine z_aload_0 d_Mo_readStep_103 ?_
      refine z_dup rfl d_Mo_readStep_104 ?_
      refine z_getIv d_Mo_readStep_105 f_Mo_301 (by first | assumption | exact zS0_at (by assumption) (by omega) | exact zS0_at rfl (by omega)) (by first | assumption | ((try simp (disch := omega) only [zu_same, zu_ne, zcp_ne, zfl_ne]); first | assumption | rfl)) ?_
      refine z_iconst (a := nI 1) d_Mo_readStep_108 (by decide) ?_
      first | refine z_iaddN d_Mo_readStep_109 ?_ | refine z_iadd d_Mo_readStep_109 ?_
      refine z_putI d_Mo_readStep_110 f_Mo_301 (by first | assumption | exact zS0_at (by assumption) (by omega) | exact zS0_at rfl (by omega)) ?_
      refine z_aload_0 d_Mo_readStep_113 ?_
      refine z_Vv0 d_Mo_readStep_114 k_Mo_212 (by first | assumption | exact zS0_at (by assumption) (by omega) | exact zS0_at rfl (by omega)) (m_adv C0) (by refine ⟨?_, ?_, ?_, ?_⟩ <;> simp only [zRm] <;> omega) (Nat.le_of_ble_eq_true rfl) ?_
      intro w hq
      obtain ⟨I1, J1, rfl, g1, g2, C1⟩ := hq
      have p1 : mP I (zu I1 150 (1525 + 9 * ns) (nI k)) := mP_c (mP_t (mP_p mP_r (by omega)) (mP_tk g1)) (by omega)
      have C1z : moC T K L 0 (zu I1 150 (1525 + 9 * ns) (nI k)) J1 P S (tA T L K t) := moC_z C1
      have N1 : myN (zu I1 150 (1525 + 9 * ns) (nI k)) J1 n := myN_P N p1 (mQ_tk g2)
      have b25 : I1 145 25 = nI (ns + 1) := by rw [g1.2 25 (by omega), zu_same]
      have b150 : ∀ q, q ≠ 1525 + 9 * ns → zu I1 150 (1525 + 9 * ns) (nI k) 150 q = I 150 q := fun q hq => by rw [zu_ne _ _ _ _ (by omega), g1.1 150 (by decide), zu_row _ _ _ _ (by decide)]
      have bad141 : ∀ (e : Nat × Nat) (Ix : Nat → Nat → Int32) (Jx : Nat → Nat → Int64), moX T K L I J P S e (Ix, Jx, P, S) → yY (tA T L K) n ((ns, sz, dp), op, A) t = .inl e → zA G y_Mo_readStep prog_14_method_71_code 5 none (zRm (D+1) 0 0) (zM G 0 0 (fun r w' => r = none ∧ (fun w => yZ T K L n I J P S ((ns, sz, dp), op, A) t w) w')) 141 [some (.ref 145), some (.int (nI dp)), some (.int (nI k)), some (.int (nI o)), some (.int (nI (1525 + 9 * ns)))] [] (Ix, Jx, P, S) 0 0 := by
        intro e Ix Jx hX hy
        obtain ⟨I', J', t', hw, q1, q2, q3, q4, q5, q6⟩ := id hX
        cases hw
        obtain ⟨-, -, c3, -⟩ := moC_n q3
        have fin : zA G y_Mo_readStep prog_14_method_71_code 5 none (zRm (D+1) 0 0) (zM G 0 0 (fun r w' => r = none ∧ (fun w => yZ T K L n I J P S ((ns, sz, dp), op, A) t w) w')) 191 [some (.ref 145), some (.int (nI dp)), some (.int (nI k)), some (.int (nI o)), some (.int (nI (1525 + 9 * ns)))] [] (Ix, Jx, P, S) 0 0 := by
          refine z_aload_0 d_Mo_readStep_191 ?_
          refine z_getR d_Mo_readStep_192 f_Mo_35 (by first | assumption | exact zS0_at (by assumption) (by omega) | exact zS0_at rfl (by omega)) (by first | assumption | exact zS0_at (by assumption) (by omega) | exact zS0_at rfl (by omega)) ?_
          refine z_iload_4 d_Mo_readStep_195 ?_
          refine z_bipush (a := nI 8) d_Mo_readStep_197 (by decide) ?_
          first | refine z_iaddN d_Mo_readStep_199 ?_ | refine z_iadd d_Mo_readStep_199 ?_
          refine z_aload_0 d_Mo_readStep_200 ?_
          refine z_getI d_Mo_readStep_201 f_Mo_301 M0 ?_
          first | refine z_iastN d_Mo_readStep_204 (by first | assumption | exact zS0_at (by assumption) (by omega) | exact zS0_at rfl (by omega)) (by omega) (by first | decide | omega) ?_ | refine z_iast d_Mo_readStep_204 (by first | assumption | exact zS0_at (by assumption) (by omega) | exact zS0_at rfl (by omega)) (by first | assumption | exact zS0_at (by assumption) (by omega) | exact zS0_at rfl (by omega)) ?_
          refine z_retv d_Mo_readStep_205 ?_
          exact Or.inl ⟨e, moX_z hX (by omega), hy⟩
        rcases ho with ⟨rfl, -⟩ | ⟨rfl, -⟩
        · refine z_iload_3 d_Mo_readStep_141 ?_
          refine z_if_eq (tgt := 169) d_Mo_readStep_142 (by decide) (fun h => absurd h (by decide)) (fun _ => ?_)
          refine z_aload_0 d_Mo_readStep_145 ?_
          refine z_getIv d_Mo_readStep_146 f_Mo_202 (by first | assumption | exact zS0_at (by assumption) (by omega) | exact zS0_at rfl (by omega)) (by first | assumption | ((try simp (disch := omega) only [zu_same, zu_ne, zcp_ne, zfl_ne]); first | assumption | rfl)) ?_
          refine z_if_ne (tgt := 169) d_Mo_readStep_149 (by decide) (fun _ => ?_) (fun h => absurd h (nz_ne q5 q6))
          refine z_iload_3 d_Mo_readStep_169 ?_
          refine z_if_eq (tgt := 191) d_Mo_readStep_170 (by decide) (fun h => absurd h (by decide)) (fun _ => ?_)
          refine z_aload_0 d_Mo_readStep_173 ?_
          refine z_aload_0 d_Mo_readStep_174 ?_
          refine z_Vi0 d_Mo_readStep_175 k_Mo_196 (by first | assumption | exact zS0_at (by assumption) (by omega) | exact zS0_at rfl (by omega)) (m_isEnd q3) (by refine ⟨?_, ?_, ?_, ?_⟩ <;> simp only [zRm] <;> omega) (Nat.le_of_ble_eq_true rfl) ?_
          intro r w hr
          have two : zA G y_Mo_readStep prog_14_method_71_code 5 none (zRm (D+1) 0 0) (zM G 0 0 (fun r w' => r = none ∧ (fun w => yZ T K L n I J P S ((ns, sz, dp), op, A) t w) w')) 181 [some (.ref 145), some (.int (nI dp)), some (.int (nI k)), some (.int (nI 1)), some (.int (nI (1525 + 9 * ns)))] [] (Ix, Jx, P, S) 0 0 := by
            refine z_aload_0 d_Mo_readStep_181 ?_
            refine z_aload_0 d_Mo_readStep_182 ?_
            refine z_bipush (a := nI 59) d_Mo_readStep_183 (by decide) ?_
            refine z_Vi1 d_Mo_readStep_185 k_Mo_289 (by first | assumption | exact zS0_at (by assumption) (by omega) | exact zS0_at rfl (by omega)) (m_isSign q3 (by omega)) (by refine ⟨?_, ?_, ?_, ?_⟩ <;> simp only [zRm] <;> omega) (Nat.le_of_ble_eq_true rfl) ?_
            intro r w hr
            rcases hr with ⟨⟨-, rfl⟩ | ⟨-, rfl⟩, rfl⟩
            · refine z_Vv1 d_Mo_readStep_188 k_Mo_239 (by first | assumption | exact zS0_at (by assumption) (by omega) | exact zS0_at rfl (by omega)) (m_mustz q3 q5 q6) (by refine ⟨?_, ?_, ?_, ?_⟩ <;> simp only [zRm] <;> omega) (Nat.le_of_ble_eq_true rfl) ?_
              intro w hr
              obtain rfl := hr
              exact fin
            · refine z_Vv1 d_Mo_readStep_188 k_Mo_239 (by first | assumption | exact zS0_at (by assumption) (by omega) | exact zS0_at rfl (by omega)) (m_mustz q3 q5 q6) (by refine ⟨?_, ?_, ?_, ?_⟩ <;> simp only [zRm] <;> omega) (Nat.le_of_ble_eq_true rfl) ?_
              intro w hr
              obtain rfl := hr
              exact fin
          rcases hr with ⟨⟨-, rfl⟩ | ⟨-, rfl⟩, rfl⟩
          · refine z_Vv1 d_Mo_readStep_178 k_Mo_239 (by first | assumption | exact zS0_at (by assumption) (by omega) | exact zS0_at rfl (by omega)) (m_mustz q3 q5 q6) (by refine ⟨?_, ?_, ?_, ?_⟩ <;> simp only [zRm] <;> omega) (Nat.le_of_ble_eq_true rfl) ?_
            intro w hr
            obtain rfl := hr
            exact two
          · refine z_Vv1 d_Mo_readStep_178 k_Mo_239 (by first | assumption | exact zS0_at (by assumption) (by omega) | exact zS0_at rfl (by omega)) (m_mustz q3 q5 q6) (by refine ⟨?_, ?_, ?_, ?_⟩ <;> simp only [zRm] <;> omega) (Nat.le_of_ble_eq_true rfl) ?_
            intro w hr
            obtain rfl := hr
            exact two
        · refine z_iload_3 d_Mo_readStep_141 ?_
          refine z_if_eq (tgt := 169) d_Mo_readStep_142 (by decide) (fun _ => ?_) (fun h => absurd (by decide) h)
          refine z_iload_3 d_Mo_readStep_169 ?_
          refine z_if_eq (tgt := 191) d_Mo_readStep_170 (by decide) (fun _ => ?_) (fun h => absurd (by decide) h)
          exact fin
      refine z_aload_0 d_Mo_readStep_117 ?_
      refine z_getR d_Mo_readStep_118 f_Mo_35 (by first | assumption | exact zS0_at (by assumption) (by omega) | exact zS0_at rfl (by omega)) (by first | assumption | exact zS0_at (by assumption) (by omega) | exact zS0_at rfl (by omega)) ?_
      refine z_iload_4 d_Mo_readStep_121 ?_
      refine z_iload_2 d_Mo_readStep_123 ?_
      first | refine z_iastN d_Mo_readStep_124 (by first | assumption | exact zS0_at (by assumption) (by omega) | exact zS0_at rfl (by omega)) (by omega) (by first | decide | omega) ?_ | refine z_iast d_Mo_readStep_124 (by first | assumption | exact zS0_at (by assumption) (by omega) | exact zS0_at rfl (by omega)) (by first | assumption | exact zS0_at (by assumption) (by omega) | exact zS0_at rfl (by omega)) ?_
      refine z_aload_0 d_Mo_readStep_125 ?_
      refine z_iload_4 d_Mo_readStep_126 ?_
      refine z_Vv1 d_Mo_readStep_128 k_Mo_304 (by first | assumption | exact zS0_at (by assumption) (by omega) | exact zS0_at rfl (by omega)) (m_readRest (t := t) C1z N1 hkc hwd (by omega) (by rw [zu_same]; exact hk.symm)) (by refine ⟨?_, ?_, ?_, ?_⟩ <;> simp only [zRm] <;> omega) (Nat.le_of_ble_eq_true rfl) ?_
      intro w hq
      rcases hx : y_rest (tA T L K) n t with e | v <;> rw [hx] at hq e0 <;> dsimp only [pb] at e0
      · have hX := moX_t p1 (mQ_tk g2) hq
        obtain ⟨I', J', t', rfl, q1, q2, q3, q4, q5, q6⟩ := id hX
        refine z_aload_0 d_Mo_readStep_131 ?_
        refine z_aload_0 d_Mo_readStep_132 ?_
        refine z_bipush (a := nI 59) d_Mo_readStep_133 (by decide) ?_
        refine z_Vi1 d_Mo_readStep_135 k_Mo_289 (by first | assumption | exact zS0_at (by assumption) (by omega) | exact zS0_at rfl (by omega)) (m_isSign q3 (by omega)) (by refine ⟨?_, ?_, ?_, ?_⟩ <;> simp only [zRm] <;> omega) (Nat.le_of_ble_eq_true rfl) ?_
        intro r w hr
        rcases hr with ⟨⟨-, rfl⟩ | ⟨-, rfl⟩, rfl⟩
        · refine z_Vv1 d_Mo_readStep_138 k_Mo_239 (by first | assumption | exact zS0_at (by assumption) (by omega) | exact zS0_at rfl (by omega)) (m_mustz q3 q5 q6) (by refine ⟨?_, ?_, ?_, ?_⟩ <;> simp only [zRm] <;> omega) (Nat.le_of_ble_eq_true rfl) ?_
          intro w hr
          obtain rfl := hr
          exact bad141 e _ _ hX e0
        · refine z_Vv1 d_Mo_readStep_138 k_Mo_239 (by first | assumption | exact zS0_at (by assumption) (by omega) | exact zS0_at rfl (by omega)) (m_mustz q3 q5 q6) (by refine ⟨?_, ?_, ?_, ?_⟩ <;> simp only [zRm] <;> omega) (Nat.le_of_ble_eq_true rfl) ?_
          intro w hr
          obtain rfl := hr
          exact bad141 e _ _ hX e0
      obtain ⟨I2, J2, rfl, r2, j2, C2, fit⟩ := hq
      have p2 : mP I I2 := mP_t p1 (mR_P r2 (by omega))
      have q2 : mQ J J2 := mQ_t (mQ_tk g2) (mQ_tk j2)
      refine z_aload_0 d_Mo_readStep_131 ?_
      refine z_aload_0 d_Mo_readStep_132 ?_
      refine z_bipush (a := nI 59) d_Mo_readStep_133 (by decide) ?_
      refine z_Vi1 d_Mo_readStep_135 k_Mo_289 (by first | assumption | exact zS0_at (by assumption) (by omega) | exact zS0_at rfl (by omega)) (m_isSign C2 (by omega)) (by refine ⟨?_, ?_, ?_, ?_⟩ <;> simp only [zRm] <;> omega) (Nat.le_of_ble_eq_true rfl) ?_
      intro r w hr
      rcases hr with ⟨⟨hsg, rfl⟩ | ⟨hsg, rfl⟩, rfl⟩
      rotate_left
      · have e4 : p_semi (tA T L K) v.2 = .inl (p_mis v.2) := by unfold p_semi; rw [if_neg hsg]
        rw [e4] at e0
        dsimp only [pb] at e0
        refine z_Vv1 d_Mo_readStep_138 k_Mo_239 (by first | assumption | exact zS0_at (by assumption) (by omega) | exact zS0_at rfl (by omega)) (m_must0 C2) (by refine ⟨?_, ?_, ?_, ?_⟩ <;> simp only [zRm] <;> omega) (Nat.le_of_ble_eq_true rfl) ?_
        intro w hr
        obtain rfl := hr
        exact bad141 _ _ _ (moX_B C2 p2 q2 p_mis_b) e0
      have e4 : p_semi (tA T L K) v.2 = .inr (tA T L K v.2) := by unfold p_semi; rw [if_pos hsg]
      rw [e4] at e0
      dsimp only [pb] at e0
      refine z_Vv1 d_Mo_readStep_138 k_Mo_239 (by first | assumption | exact zS0_at (by assumption) (by omega) | exact zS0_at rfl (by omega)) (m_must1 C2) (by refine ⟨?_, ?_, ?_, ?_⟩ <;> simp only [zRm] <;> omega) (Nat.le_of_ble_eq_true rfl) ?_
      intro w hr
      obtain ⟨I3, J3, rfl, g3, j3, C3⟩ := hr
      have p3 : mP I I3 := mP_t p2 (mP_tk g3)
      have q3 : mQ J J3 := mQ_t q2 (mQ_tk j3)
      have e150 := g3.1 150 (by decide)
      have n3 : I3 145 25 = nI (ns + 1) := by rw [g3.2 25 (by omega), r2.2.2 25 (by omega), zu_row _ _ _ _ (by decide)]; exact b25
      have k3 : ∀ q, 1436 ≤ q → q < 1525 + 9 * ns → I3 150 q = I 150 q := fun q f1 f2 => by rw [e150, r2.2.1 q (by omega)]; exact b150 q (by omega)
      generalize tA T L K v.2 = t1 at e0 C3
      rcases ho with ⟨rfl, ho⟩ | ⟨rfl, ho⟩
      rotate_left
      · have s1 : y_add ((ns, sz, dp), op, A) (y_opens t) v.1.1 v.1.2.1 v.1.2.2 = ((ns + 1, sz + 1, dp), op, zu (s_addOp A 0 sz v.1.1 v.1.2.1 v.1.2.2) 0 1 (nI (ns + 1))) := by unfold y_add; rw [if_neg ho, if_neg ho]
        rw [s1] at e0
        rcases fit with ⟨-, fit⟩ | ⟨fo, -⟩
        rotate_left
        · exact absurd fo ho
        refine z_iload_3 d_Mo_readStep_141 ?_
        refine z_if_eq (tgt := 169) d_Mo_readStep_142 (by decide) (fun _ => ?_) (fun h => absurd (by decide) h)
        refine z_iload_3 d_Mo_readStep_169 ?_
        refine z_if_eq (tgt := 191) d_Mo_readStep_170 (by decide) (fun _ => ?_) (fun h => absurd (by decide) h)
        refine z_aload_0 d_Mo_readStep_191 ?_
        refine z_getR d_Mo_readStep_192 f_Mo_35 (by first | assumption | exact zS0_at (by assumption) (by omega) | exact zS0_at rfl (by omega)) (by first | assumption | exact zS0_at (by assumption) (by omega) | exact zS0_at rfl (by omega)) ?_
        refine z_iload_4 d_Mo_readStep_195 ?_
        refine z_bipush (a := nI 8) d_Mo_readStep_197 (by decide) ?_
        first | refine z_iaddN d_Mo_readStep_199 ?_ | refine z_iadd d_Mo_readStep_199 ?_
        refine z_aload_0 d_Mo_readStep_200 ?_
        refine z_getIv d_Mo_readStep_201 f_Mo_301 (by first | assumption | exact zS0_at (by assumption) (by omega) | exact zS0_at rfl (by omega)) (by first | assumption | ((try simp (disch := omega) only [zu_same, zu_ne, zcp_ne, zfl_ne]); first | assumption | rfl)) ?_
        first | refine z_iastN d_Mo_readStep_204 (by first | assumption | exact zS0_at (by assumption) (by omega) | exact zS0_at rfl (by omega)) (by omega) (by first | decide | omega) ?_ | refine z_iast d_Mo_readStep_204 (by first | assumption | exact zS0_at (by assumption) (by omega) | exact zS0_at rfl (by omega)) (by first | assumption | exact zS0_at (by assumption) (by omega) | exact zS0_at rfl (by omega)) ?_
        refine z_retv d_Mo_readStep_205 ?_
        refine Or.inr ⟨((ns + 1, sz + 1, dp), op, zu (s_addOp A 0 sz v.1.1 v.1.2.1 v.1.2.2) 0 1 (nI (ns + 1))), t1, _, _, 1, rfl, mP_c p3 (by omega), q3, moC_z C3, ?_, ⟨show ns + 1 ≤ 30 by omega, y2, show sz + 1 + dp ≤ 2 * (ns + 1) by omega, fun d hd => Nat.lt_succ_of_lt (y4 d hd)⟩, Nat.lt_succ_self _, rfl, fun _ _ => rfl, e0, fun q f1 f2 => ?_, fun r i f1 f2 => ?_, Or.inr (Or.inl ⟨?_, ?_, rfl, rfl⟩)⟩
        · rw [zu_ne _ _ _ _ (by omega)]; exact n3
        · have f2 : q < 1525 + 9 * ns := f2
          rw [zu_ne _ _ _ _ (by omega)]; exact k3 q f1 f2
        · have f1 : i < sz := f1
          show zu (s_addOp A 0 sz v.1.1 v.1.2.1 v.1.2.2) 0 1 (nI (ns + 1)) r i = A r i
          rw [zu_ne _ _ _ _ (by omega), ao_o f2 (by omega)]
        · refine fit _ _ sz ns ?_ ?_ ?_ (fun q hq => ?_)
          · show zu (s_addOp A 0 sz v.1.1 v.1.2.1 v.1.2.2) 0 1 (nI (ns + 1)) 1 sz = _
            rw [zu_ne _ _ _ _ (by omega), ao_1]
          · show zu (s_addOp A 0 sz v.1.1 v.1.2.1 v.1.2.2) 0 1 (nI (ns + 1)) 2 sz = _
            rw [zu_ne _ _ _ _ (by omega), ao_2]
          · show zu (s_addOp A 0 sz v.1.1 v.1.2.1 v.1.2.2) 0 1 (nI (ns + 1)) 3 sz = _
            rw [zu_ne _ _ _ _ (by omega), ao_3]
          · show zu I3 150 (1525 + 9 * ns + 8) (nI (ns + 1)) 150 (1525 + 9 * ns + q) = I2 150 (1525 + 9 * ns + q)
            rw [zu_ne _ _ _ _ (by omega), e150]
        · show zu I3 150 (1525 + 9 * ns + 8) (nI (ns + 1)) 150 (1525 + 9 * ns + 8) = nI (ns + 1)
          exact zu_same _ _ _ _
      have hdp : dp < 3 := by
        rcases Nat.lt_or_ge dp 3 with h | h
        · exact h
        · exact absurd ⟨ho, h⟩ hno
      have s1 : y_add ((ns, sz, dp), op, A) (y_opens t) v.1.1 v.1.2.1 v.1.2.2 = ((ns + 1, sz + 1, dp + 1), (fun d => if d = dp then sz else op d), zu (s_addOp A 0 sz v.1.1 v.1.2.1 v.1.2.2) 0 1 (nI (ns + 1))) := by unfold y_add; rw [if_pos ho, if_pos ho]
      rw [s1] at e0
      rcases fit with ⟨fo, -⟩ | ⟨-, fit⟩
      · exact absurd ho fo
      have lp : ∀ (m : Nat) (sj : yS) (tj : tk) (Ij : Nat → Nat → Int32) (Jj : Nat → Nat → Int64) (mm : Nat), 30 - sj.1.1 < m → mP I Ij → mQ J Jj → moC T K L 0 Ij Jj P S tj → Ij 145 25 = nI sj.1.1 → yI sj → ns < sj.1.1 → sj.1.2.2 = dp + 1 → (∀ d, d < dp + 1 → sj.2.1 d = if d = dp then sz else op d) → yY (tA T L K) n ((ns, sz, dp), op, A) t = yY (tA T L K) n sj tj → (∀ q, 1436 ≤ q → q < 1525 + 9 * (ns + 1) → q ≠ 1525 + 9 * ns + 8 → Ij 150 q = I3 150 q) → (∀ r i, i < sz + 1 → 1 ≤ r → sj.2.2 r i = zu (s_addOp A 0 sz v.1.1 v.1.2.1 v.1.2.2) 0 1 (nI (ns + 1)) r i) → yb n sj.2.2 (fun c k => Ij 150 (1525 + 9 * c + k)) mm (ns + 1) sj.1.1 (sz + 1) sj.1.2.1 → zA G y_Mo_readStep prog_14_method_71_code 5 none (zRm (D+1) 0 0) (zM G 0 0 (fun r w' => r = none ∧ (fun w => yZ T K L n I J P S ((ns, sz, dp), op, A) t w) w')) 141 [some (.ref 145), some (.int (nI dp)), some (.int (nI k)), some (.int (nI 1)), some (.int (nI (1525 + 9 * ns)))] [] (Ij, Jj, P, S) 0 0 := by
        intro m
        induction m with
        | zero => intro sj tj Ij Jj mm h; omega
        | succ m ih =>
          intro sj tj Ij Jj mm hm pj qj Cj nj Yj lj dj oj ej kj rj bj
          obtain ⟨-, -, c3, -⟩ := moC_n Cj
          have l := yb_le _ _ _ _ _ bj
          refine z_iload_3 d_Mo_readStep_141 ?_
          refine z_if_eq (tgt := 169) d_Mo_readStep_142 (by decide) (fun h => absurd h (by decide)) (fun _ => ?_)
          refine z_aload_0 d_Mo_readStep_145 ?_
          refine z_getIv d_Mo_readStep_146 f_Mo_202 (by first | assumption | exact zS0_at (by assumption) (by omega) | exact zS0_at rfl (by omega)) (by first | assumption | ((try simp (disch := omega) only [zu_same, zu_ne, zcp_ne, zfl_ne]); first | assumption | rfl)) ?_
          refine z_if_ne (tgt := 169) d_Mo_readStep_149 (by decide) (fun h => absurd (by decide) h) (fun _ => ?_)
          refine z_aload_0 d_Mo_readStep_152 ?_
          refine z_Vi0 d_Mo_readStep_153 k_Mo_196 (by first | assumption | exact zS0_at (by assumption) (by omega) | exact zS0_at rfl (by omega)) (m_isEnd Cj) (by refine ⟨?_, ?_, ?_, ?_⟩ <;> simp only [zRm] <;> omega) (Nat.le_of_ble_eq_true rfl) ?_
          intro r w hr
          rcases hr with ⟨⟨hend, rfl⟩ | ⟨hend, rfl⟩, rfl⟩
          · have hkd : tkd tj = 1 := by
              have p3 := Cj.2.2.2.2.1.2.2.1
              rcases Classical.em (tkd tj = 1 ∧ ten tj - tst tj ≤ 8) with h | h
              · exact h.1
              · rw [(p3 h).1] at hend
                exact absurd hend (by decide)
            have hsj : sj.1.2.1 < 300 := by have := Yj.1; have := Yj.2.2.1; omega
            rw [yY_eq hsj, if_neg (by omega)] at ej
            unfold y_it y_end at ej
            rw [if_pos hend, if_neg (by omega)] at ej
            refine z_if_ne (tgt := 169) d_Mo_readStep_156 (by decide) (fun _ => ?_) (fun h => absurd h (by decide))
            refine z_iload_3 d_Mo_readStep_169 ?_
            refine z_if_eq (tgt := 191) d_Mo_readStep_170 (by decide) (fun h => absurd h (by decide)) (fun _ => ?_)
            refine z_aload_0 d_Mo_readStep_173 ?_
            refine z_aload_0 d_Mo_readStep_174 ?_
            refine z_Vi0 d_Mo_readStep_175 k_Mo_196 (by first | assumption | exact zS0_at (by assumption) (by omega) | exact zS0_at rfl (by omega)) (m_isEnd Cj) (by refine ⟨?_, ?_, ?_, ?_⟩ <;> simp only [zRm] <;> omega) (Nat.le_of_ble_eq_true rfl) ?_
            intro r w hr
            rcases hr with ⟨⟨-, rfl⟩ | ⟨hne, rfl⟩, rfl⟩
            rotate_left
            · exact absurd hend hne
            refine z_Vv1 d_Mo_readStep_178 k_Mo_239 (by first | assumption | exact zS0_at (by assumption) (by omega) | exact zS0_at rfl (by omega)) (m_must1 Cj) (by refine ⟨?_, ?_, ?_, ?_⟩ <;> simp only [zRm] <;> omega) (Nat.le_of_ble_eq_true rfl) ?_
            intro w hr
            obtain ⟨I5, J5, rfl, g5, j5, C5⟩ := hr
            refine z_aload_0 d_Mo_readStep_181 ?_
            refine z_aload_0 d_Mo_readStep_182 ?_
            refine z_bipush (a := nI 59) d_Mo_readStep_183 (by decide) ?_
            refine z_Vi1 d_Mo_readStep_185 k_Mo_289 (by first | assumption | exact zS0_at (by assumption) (by omega) | exact zS0_at rfl (by omega)) (m_isSign C5 (by omega)) (by refine ⟨?_, ?_, ?_, ?_⟩ <;> simp only [zRm] <;> omega) (Nat.le_of_ble_eq_true rfl) ?_
            intro r w hr
            rcases hr with ⟨⟨hsg5, rfl⟩ | ⟨hsg5, rfl⟩, rfl⟩
            rotate_left
            · have e5 : p_semi (tA T L K) (tA T L K tj) = .inl (p_mis (tA T L K tj)) := by unfold p_semi; rw [if_neg hsg5]
              rw [e5] at ej
              dsimp only [pb] at ej
              refine z_Vv1 d_Mo_readStep_188 k_Mo_239 (by first | assumption | exact zS0_at (by assumption) (by omega) | exact zS0_at rfl (by omega)) (m_must0 C5) (by refine ⟨?_, ?_, ?_, ?_⟩ <;> simp only [zRm] <;> omega) (Nat.le_of_ble_eq_true rfl) ?_
              intro w hr
              obtain rfl := hr
              have hX := moX_B C5 (mP_t pj (mP_tk g5)) (mQ_t qj (mQ_tk j5)) (p_mis_b (t := tA T L K tj))
              refine z_aload_0 d_Mo_readStep_191 ?_
              refine z_getR d_Mo_readStep_192 f_Mo_35 (by first | assumption | exact zS0_at (by assumption) (by omega) | exact zS0_at rfl (by omega)) (by first | assumption | exact zS0_at (by assumption) (by omega) | exact zS0_at rfl (by omega)) ?_
              refine z_iload_4 d_Mo_readStep_195 ?_
              refine z_bipush (a := nI 8) d_Mo_readStep_197 (by decide) ?_
              first | refine z_iaddN d_Mo_readStep_199 ?_ | refine z_iadd d_Mo_readStep_199 ?_
              refine z_aload_0 d_Mo_readStep_200 ?_
              refine z_getI d_Mo_readStep_201 f_Mo_301 M0 ?_
              first | refine z_iastN d_Mo_readStep_204 (by first | assumption | exact zS0_at (by assumption) (by omega) | exact zS0_at rfl (by omega)) (by omega) (by first | decide | omega) ?_ | refine z_iast d_Mo_readStep_204 (by first | assumption | exact zS0_at (by assumption) (by omega) | exact zS0_at rfl (by omega)) (by first | assumption | exact zS0_at (by assumption) (by omega) | exact zS0_at rfl (by omega)) ?_
              refine z_retv d_Mo_readStep_205 ?_
              exact Or.inl ⟨_, moX_z hX (by omega), ej⟩
            have e5 : p_semi (tA T L K) (tA T L K tj) = .inr (tA T L K (tA T L K tj)) := by unfold p_semi; rw [if_pos hsg5]
            rw [e5] at ej
            dsimp only [pb] at ej
            refine z_Vv1 d_Mo_readStep_188 k_Mo_239 (by first | assumption | exact zS0_at (by assumption) (by omega) | exact zS0_at rfl (by omega)) (m_must1 C5) (by refine ⟨?_, ?_, ?_, ?_⟩ <;> simp only [zRm] <;> omega) (Nat.le_of_ble_eq_true rfl) ?_
            intro w hr
            obtain ⟨I6, J6, rfl, g6, j6, C6⟩ := hr
            have n6 : I6 145 25 = nI sj.1.1 := by rw [g6.2 25 (by omega), g5.2 25 (by omega)]; exact nj
            have e150j : I6 150 = Ij 150 := by rw [g6.1 150 (by decide), g5.1 150 (by decide)]
            have hop : sj.2.1 (sj.1.2.2 - 1) = sz := by rw [dj, show dp + 1 - 1 = dp by omega, oj dp (by omega), if_pos rfl]
            rw [hop] at ej
            have hsz : sz ≠ sj.1.2.1 := by omega
            refine z_aload_0 d_Mo_readStep_191 ?_
            refine z_getR d_Mo_readStep_192 f_Mo_35 (by first | assumption | exact zS0_at (by assumption) (by omega) | exact zS0_at rfl (by omega)) (by first | assumption | exact zS0_at (by assumption) (by omega) | exact zS0_at rfl (by omega)) ?_
            refine z_iload_4 d_Mo_readStep_195 ?_
            refine z_bipush (a := nI 8) d_Mo_readStep_197 (by decide) ?_
            first | refine z_iaddN d_Mo_readStep_199 ?_ | refine z_iadd d_Mo_readStep_199 ?_
            refine z_aload_0 d_Mo_readStep_200 ?_
            refine z_getIv d_Mo_readStep_201 f_Mo_301 (by first | assumption | exact zS0_at (by assumption) (by omega) | exact zS0_at rfl (by omega)) (by first | assumption | ((try simp (disch := omega) only [zu_same, zu_ne, zcp_ne, zfl_ne]); first | assumption | rfl)) ?_
            first | refine z_iastN d_Mo_readStep_204 (by first | assumption | exact zS0_at (by assumption) (by omega) | exact zS0_at rfl (by omega)) (by omega) (by first | decide | omega) ?_ | refine z_iast d_Mo_readStep_204 (by first | assumption | exact zS0_at (by assumption) (by omega) | exact zS0_at rfl (by omega)) (by first | assumption | exact zS0_at (by assumption) (by omega) | exact zS0_at rfl (by omega)) ?_
            refine z_retv d_Mo_readStep_205 ?_
            refine Or.inr ⟨((sj.1.1, sj.1.2.1 + 1, sj.1.2.2 - 1), sj.2.1, s_addOp (zu (zu sj.2.2 4 sz (nI sj.1.2.1)) 4 sj.1.2.1 (nI sz)) 0 sj.1.2.1 (nI 19) (nI 0) (nI 0)), tA T L K (tA T L K tj), _, _, mm + 1, rfl, mP_c (mP_t (mP_t pj (mP_tk g5)) (mP_tk g6)) (by omega), mQ_t (mQ_t qj (mQ_tk j5)) (mQ_tk j6), moC_z C6, ?_, ⟨Yj.1, show sj.1.2.2 - 1 ≤ 3 by omega, ?_, fun d hd => ?_⟩, lj, show sj.1.2.2 - 1 = dp by omega, fun d hd => ?_, ej, fun q f1 f2 => ?_, fun r i f1 f2 => ?_, Or.inr (Or.inr ⟨sj.1.1, sj.1.2.1, ?_, ?_, ?_, ?_, ?_, ?_, ?_⟩)⟩
            · rw [zu_ne _ _ _ _ (by omega)]; exact n6
            · have := Yj.2.2.1
              show sj.1.2.1 + 1 + (sj.1.2.2 - 1) ≤ 2 * sj.1.1
              omega
            · have hd : d < sj.1.2.2 - 1 := hd
              exact Nat.lt_succ_of_lt (Yj.2.2.2 d (by omega))
            · have hd : d < dp := hd
              show sj.2.1 d = op d
              rw [oj d (by omega), if_neg (by omega)]
            · have f2 : q < 1525 + 9 * ns := f2
              rw [zu_ne _ _ _ _ (by omega), e150j, kj q f1 (by omega) (by omega)]; exact k3 q f1 f2
            · have f1 : i < sz := f1
              show s_addOp (zu (zu sj.2.2 4 sz (nI sj.1.2.1)) 4 sj.1.2.1 (nI sz)) 0 sj.1.2.1 (nI 19) (nI 0) (nI 0) r i = A r i
              rw [ao_o f2 (by omega), zu_ne _ _ _ _ (by omega), zu_ne _ _ _ _ (by omega), rj r i (by omega) f2, zu_ne _ _ _ _ (by omega), ao_o f2 (by omega)]
            · refine fit _ _ sz ns ?_ ?_ ?_ (fun q hq => ?_)
              · show s_addOp (zu (zu sj.2.2 4 sz (nI sj.1.2.1)) 4 sj.1.2.1 (nI sz)) 0 sj.1.2.1 (nI 19) (nI 0) (nI 0) 1 sz = _
                rw [ao_o (by omega) hsz, zu_ne _ _ _ _ (by omega), zu_ne _ _ _ _ (by omega), rj 1 sz (by omega) (by omega), zu_ne _ _ _ _ (by omega), ao_1]
              · show s_addOp (zu (zu sj.2.2 4 sz (nI sj.1.2.1)) 4 sj.1.2.1 (nI sz)) 0 sj.1.2.1 (nI 19) (nI 0) (nI 0) 2 sz = _
                rw [ao_o (by omega) hsz, zu_ne _ _ _ _ (by omega), zu_ne _ _ _ _ (by omega), rj 2 sz (by omega) (by omega), zu_ne _ _ _ _ (by omega), ao_2]
              · show s_addOp (zu (zu sj.2.2 4 sz (nI sj.1.2.1)) 4 sj.1.2.1 (nI sz)) 0 sj.1.2.1 (nI 19) (nI 0) (nI 0) 3 sz = _
                rw [ao_o (by omega) hsz, zu_ne _ _ _ _ (by omega), zu_ne _ _ _ _ (by omega), rj 3 sz (by omega) (by omega), zu_ne _ _ _ _ (by omega), ao_3]
              · show zu I6 150 (1525 + 9 * ns + 8) (nI sj.1.1) 150 (1525 + 9 * ns + q) = I2 150 (1525 + 9 * ns + q)
                rw [zu_ne _ _ _ _ (by omega), e150j, kj _ (by omega) (by omega) (by omega), e150]
            · show zu I6 150 (1525 + 9 * ns + 8) (nI sj.1.1) 150 (1525 + 9 * ns + 8) = nI sj.1.1
              exact zu_same _ _ _ _
            · show s_addOp (zu (zu sj.2.2 4 sz (nI sj.1.2.1)) 4 sj.1.2.1 (nI sz)) 0 sj.1.2.1 (nI 19) (nI 0) (nI 0) 4 sz = nI sj.1.2.1
              rw [ao_4, zu_ne _ _ _ _ (by omega), zu_same]
            · show s_addOp (zu (zu sj.2.2 4 sz (nI sj.1.2.1)) 4 sj.1.2.1 (nI sz)) 0 sj.1.2.1 (nI 19) (nI 0) (nI 0) 1 sj.1.2.1 = nI 19
              exact ao_1
            · show s_addOp (zu (zu sj.2.2 4 sz (nI sj.1.2.1)) 4 sj.1.2.1 (nI sz)) 0 sj.1.2.1 (nI 19) (nI 0) (nI 0) 4 sj.1.2.1 = nI sz
              rw [ao_4, zu_same]
            · refine yb_c _ _ _ _ _ (fun r q f1 f2 f3 f4 => ?_) (fun c q f1 f2 f3 => ?_) bj
              · have f3 : sz + 1 ≤ q := f3
                have f4 : q < sj.1.2.1 := f4
                show s_addOp (zu (zu sj.2.2 4 sz (nI sj.1.2.1)) 4 sj.1.2.1 (nI sz)) 0 sj.1.2.1 (nI 19) (nI 0) (nI 0) r q = _
                rw [ao_o f1 (by omega), zu_ne _ _ _ _ (by omega), zu_ne _ _ _ _ (by omega)]
              · have f1 : ns + 1 ≤ c := f1
                show zu I6 150 (1525 + 9 * ns + 8) (nI sj.1.1) 150 (1525 + 9 * c + q) = Ij 150 (1525 + 9 * c + q)
                rw [zu_ne _ _ _ _ (by omega), e150j]
            · exact yb_m (m := 0) ⟨rfl, rfl⟩ mm |> fun h => by rw [Nat.zero_add] at h; exact h
          · refine z_if_ne (tgt := 169) d_Mo_readStep_156 (by decide) (fun h => absurd (by decide) h) (fun _ => ?_)
            refine z_aload_0 d_Mo_readStep_159 ?_
            refine z_iload_1 d_Mo_readStep_160 ?_
            refine z_iconst (a := nI 1) d_Mo_readStep_161 (by decide) ?_
            first | refine z_iaddN d_Mo_readStep_162 ?_ | refine z_iadd d_Mo_readStep_162 ?_
            refine z_Vv1 d_Mo_readStep_163 k_Mo_307 (by first | assumption | exact zS0_at (by assumption) (by omega) | exact zS0_at rfl (by omega)) (hrec hdp Ij Jj sj tj Cj (myN_P N pj qj) nj Yj dj hend) (by refine ⟨?_, ?_, ?_, ?_⟩ <;> simp only [zRm] <;> omega) (Nat.le_of_ble_eq_true rfl) ?_
            intro w hr
            rcases hr with ⟨e, hX, hy⟩ | ⟨s', t', I', J', m', rfl, pp, qq, C', n', Y', l', d', o', e', k', r', b'⟩
            · have hX := moX_t pj qj hX
              obtain ⟨I', J', t', rfl, -⟩ := id hX
              refine z_goto (tgt := 141) d_Mo_readStep_166 (by decide) ?_
              exact bad141 e _ _ hX (ej.trans hy)
            · refine z_goto (tgt := 141) d_Mo_readStep_166 (by decide) ?_
              refine ih s' t' I' J' (mm + m') (by have := Y'.1; omega) (mP_t pj pp) (mQ_t qj qq) C' n' Y' (by omega) (by omega) (fun d hd => by rw [o' d (by omega)]; exact oj d hd) (ej.trans e') (fun q f1 f2 f3 => by rw [k' q f1 (by omega)]; exact kj q f1 f2 f3) (fun r i f1 f2 => by rw [r' r i (by omega) f2]; exact rj r i f1 f2) ?_
              refine yb_app b' _ _ _ (yb_c _ _ _ _ _ (fun r q f1 f2 f3 f4 => r' r q f4 f1) (fun c q f1 f2 f3 => ?_) bj)
              exact k' _ (by omega) (by omega)
      refine lp 31 _ t1 I3 J3 0 (by show 30 - (ns + 1) < 31; omega) p3 q3 C3 n3 ⟨show ns + 1 ≤ 30 by omega, show dp + 1 ≤ 3 by omega, show sz + 1 + (dp + 1) ≤ 2 * (ns + 1) by omega, fun d hd => ?_⟩ (Nat.lt_succ_self _) rfl (fun _ _ => rfl) e0 (fun _ _ _ _ => rfl) (fun _ _ _ _ => rfl) ⟨rfl, rfl⟩
      have hd : d < dp + 1 := hd
      show (if d = dp then sz else op d) < sz + 1
      split
      · omega
      · have := y4 d (by omega); omega
    refine z_aload_0 d_Mo_readStep_56 ?_
    refine z_getIv d_Mo_readStep_57 f_Mo_202 (by first | assumption | exact zS0_at (by assumption) (by omega) | exact zS0_at rfl (by omega)) (by first | assumption | ((try simp (disch := omega) only [zu_same, zu_ne, zcp_ne, zfl_ne]); first | assumption | rfl)) ?_
    refine z_if_ne (tgt := 82) d_Mo_readStep_60 (by decide) (fun h => absurd (by decide) h) (fun _ => ?_)
    refine z_iload_3 d_Mo_readStep_63 ?_
    rcases id ho with ⟨rfl, ho1⟩ | ⟨rfl, ho1⟩
    · refine z_if_eq (tgt := 82) d_Mo_readStep_64 (by decide) (fun h => absurd h (by decide)) (fun _ => ?_)
      refine z_iload_1 d_Mo_readStep_67 ?_
      refine z_iconst (a := nI 3) d_Mo_readStep_68 (by decide) ?_
      refine z_icmp_ne (tgt := 82) d_Mo_readStep_69 (by decide) (fun h3 => ?_) (fun h3 => ?_)
      · exact c82 (fun h => by
          have : dp = 3 := by omega
          exact h3 (by rw [this]))
      · have h3 : dp = 3 := (nI_eq (by omega) (by omega)).mp h3
        rw [if_pos ⟨ho1, by omega⟩] at e0
        dsimp only [pb] at e0
        have hB12 : mB I (7, tst t) 145 12 = nI 7 := by simp [mB, zu]
        refine z_aload_0 d_Mo_readStep_72 ?_
        refine z_bipush (a := nI 7) d_Mo_readStep_73 (by decide) ?_
        refine z_aload_0 d_Mo_readStep_75 ?_
        refine z_getIv d_Mo_readStep_76 f_Mo_119 (by first | assumption | exact zS0_at (by assumption) (by omega) | exact zS0_at rfl (by omega)) (by first | assumption | ((try simp (disch := omega) only [zu_same, zu_ne, zcp_ne, zfl_ne]); first | assumption | rfl)) ?_
        refine z_Vv2 d_Mo_readStep_79 k_Mo_208 (by first | assumption | exact zS0_at (by assumption) (by omega) | exact zS0_at rfl (by omega)) (m_fail0 C) (by refine ⟨?_, ?_, ?_, ?_⟩ <;> simp only [zRm] <;> omega) (Nat.le_of_ble_eq_true rfl) ?_
        intro w hq
        obtain rfl := hq
        exact badE _ _ _ _ _ 0 (moX_B C mP_r mQ_r ⟨show 0 < 7 by decide, show 7 < 9 by decide⟩) e0
    · refine z_if_eq (tgt := 82) d_Mo_readStep_64 (by decide) (fun _ => ?_) (fun h => absurd (by decide) h)
      exact c82 (fun h => ho1 h.1)
  have hk : tkw t = nI 10 ∨ tkw t = nI 11 ∨ tkw t = nI 12 ∨ tkw t = nI 13 ∨ tkw t = nI 14 ∨ tkw t = nI 15 ∨ tkw t = nI 18 ∨ tkw t = nI 20 := by
    rcases hkc with h | ⟨k, hk, h⟩
    · rw [y_word, y_opens, h] at hwd; exact absurd hwd (by decide)
    · rw [h]
      rcases stw_c k hk with g | ⟨g, -⟩
      · rcases g with ⟨rfl, -⟩ | ⟨rfl, -⟩ | ⟨rfl, -⟩ | ⟨rfl, -⟩ | ⟨rfl, -⟩ | ⟨rfl, -⟩ | ⟨rfl, -⟩ | ⟨rfl, -⟩ <;> simp
      · exfalso
        rw [y_word, y_opens, h, nI_eq (by omega) (by omega), nI_eq (by omega) (by omega), nI_eq (by omega) (by omega), nI_leI (by omega) (by omega), nI_leI (by omega) (by omega)] at hwd
        omega
  rcases hk with hk | hk | hk | hk | hk | hk | hk | hk
  · have e1 : s_stw (tkw t) = nI 0 := by rw [hk]; decide
    have ho : ¬ y_opens t := by rw [y_opens, hk]; decide
    have q := c30 0 0 (by omega) e1 (Or.inr ⟨rfl, ho⟩)
    rw [e1]
    first | refine z_istore_2 d_Mo_readStep_4 rfl ?_ | (refine z_forget_1 ?_; refine z_istore_2 d_Mo_readStep_4 rfl ?_)
    refine z_iload_2 d_Mo_readStep_5 ?_
    refine z_iconst (a := nI 5) d_Mo_readStep_6 (by decide) ?_
    refine z_icmp_eq (tgt := 16) d_Mo_readStep_7 (by decide) (fun h => absurd h (by decide)) (fun _ => ?_)
    refine z_iload_2 d_Mo_readStep_10 ?_
    refine z_bipush (a := nI 6) d_Mo_readStep_11 (by decide) ?_
    refine z_icmp_ne (tgt := 20) d_Mo_readStep_13 (by decide) (fun _ => ?_) (fun h => absurd h (by decide))
    refine z_iconst (a := nI 0) d_Mo_readStep_20 (by decide) ?_
    first | refine z_istore_3 d_Mo_readStep_21 rfl ?_ | (refine z_forget_2 ?_; refine z_istore_3 d_Mo_readStep_21 rfl ?_)
    refine z_iload_2 d_Mo_readStep_22 ?_
    refine z_if_ge (tgt := 30) d_Mo_readStep_23 (by decide) (fun _ => ?_) (fun h => absurd (by decide) h)
    exact q
  · have e1 : s_stw (tkw t) = nI 1 := by rw [hk]; decide
    have ho : ¬ y_opens t := by rw [y_opens, hk]; decide
    have q := c30 1 0 (by omega) e1 (Or.inr ⟨rfl, ho⟩)
    rw [e1]
    first | refine z_istore_2 d_Mo_readStep_4 rfl ?_ | (refine z_forget_1 ?_; refine z_istore_2 d_Mo_readStep_4 rfl ?_)
    refine z_iload_2 d_Mo_readStep_5 ?_
    refine z_iconst (a := nI 5) d_Mo_readStep_6 (by decide) ?_
    refine z_icmp_eq (tgt := 16) d_Mo_readStep_7 (by decide) (fun h => absurd h (by decide)) (fun _ => ?_)
    refine z_iload_2 d_Mo_readStep_10 ?_
    refine z_bipush (a := nI 6) d_Mo_readStep_11 (by decide) ?_
    refine z_icmp_ne (tgt := 20) d_Mo_readStep_13 (by decide) (fun _ => ?_) (fun h => absurd h (by decide))
    refine z_iconst (a := nI 0) d_Mo_readStep_20 (by decide) ?_
    first | refine z_istore_3 d_Mo_readStep_21 rfl ?_ | (refine z_forget_2 ?_; refine z_istore_3 d_Mo_readStep_21 rfl ?_)
    refine z_iload_2 d_Mo_readStep_22 ?_
    refine z_if_ge (tgt := 30) d_Mo_readStep_23 (by decide) (fun _ => ?_) (fun h => absurd (by decide) h)
    exact q
  · have e1 : s_stw (tkw t) = nI 2 := by rw [hk]; decide
    have ho : ¬ y_opens t := by rw [y_opens, hk]; decide
    have q := c30 2 0 (by omega) e1 (Or.inr ⟨rfl, ho⟩)
    rw [e1]
    first | refine z_istore_2 d_Mo_readStep_4 rfl ?_ | (refine z_forget_1 ?_; refine z_istore_2 d_Mo_readStep_4 rfl ?_)
    refine z_iload_2 d_Mo_readStep_5 ?_
    refine z_iconst (a := nI 5) d_Mo_readStep_6 (by decide) ?_
    refine z_icmp_eq (tgt := 16) d_Mo_readStep_7 (by decide) (fun h => absurd h (by decide)) (fun _ => ?_)
    refine z_iload_2 d_Mo_readStep_10 ?_
    refine z_bipush (a := nI 6) d_Mo_readStep_11 (by decide) ?_
    refine z_icmp_ne (tgt := 20) d_Mo_readStep_13 (by decide) (fun _ => ?_) (fun h => absurd h (by decide))
    refine z_iconst (a := nI 0) d_Mo_readStep_20 (by decide) ?_
    first | refine z_istore_3 d_Mo_readStep_21 rfl ?_ | (refine z_forget_2 ?_; refine z_istore_3 d_Mo_readStep_21 rfl ?_)
    refine z_iload_2 d_Mo_readStep_22 ?_
    refine z_if_ge (tgt := 30) d_Mo_readStep_23 (by decide) (fun _ => ?_) (fun h => absurd (by decide) h)
    exact q
  · have e1 : s_stw (tkw t) = nI 3 := by rw [hk]; decide
    have ho : ¬ y_opens t := by rw [y_opens, hk]; decide
    have q := c30 3 0 (by omega) e1 (Or.inr ⟨rfl, ho⟩)
    rw [e1]
    first | refine z_istore_2 d_Mo_readStep_4 rfl ?_ | (refine z_forget_1 ?_; refine z_istore_2 d_Mo_readStep_4 rfl ?_)
    refine z_iload_2 d_Mo_readStep_5 ?_
    refine z_iconst (a := nI 5) d_Mo_readStep_6 (by decide) ?_
    refine z_icmp_eq (tgt := 16) d_Mo_readStep_7 (by decide) (fun h => absurd h (by decide)) (fun _ => ?_)
    refine z_iload_2 d_Mo_readStep_10 ?_
    refine z_bipush (a := nI 6) d_Mo_readStep_11 (by decide) ?_
    refine z_icmp_ne (tgt := 20) d_Mo_readStep_13 (by decide) (fun _ => ?_) (fun h => absurd h (by decide))
    refine z_iconst (a := nI 0) d_Mo_readStep_20 (by decide) ?_
    first | refine z_istore_3 d_Mo_readStep_21 rfl ?_ | (refine z_forget_2 ?_; refine z_istore_3 d_Mo_readStep_21 rfl ?_)
    refine z_iload_2 d_Mo_readStep_22 ?_
    refine z_if_ge (tgt := 30) d_Mo_readStep_23 (by decide) (fun _ => ?_) (fun h => absurd (by decide) h)
    exact q
  · have e1 : s_stw (tkw t) = nI 4 := by rw [hk]; decide
    have ho : ¬ y_opens t := by rw [y_opens, hk]; decide
    have q := c30 4 0 (by omega) e1 (Or.inr ⟨rfl, ho⟩)
    rw [e1]
    first | refine z_istore_2 d_Mo_readStep_4 rfl ?_ | (refine z_forget_1 ?_; refine z_istore_2 d_Mo_readStep_4 rfl ?_)
    refine z_iload_2 d_Mo_readStep_5 ?_
    refine z_iconst (a := nI 5) d_Mo_readStep_6 (by decide) ?_
    refine z_icmp_eq (tgt := 16) d_Mo_readStep_7 (by decide) (fun h => absurd h (by decide)) (fun _ => ?_)
    refine z_iload_2 d_Mo_readStep_10 ?_
    refine z_bipush (a := nI 6) d_Mo_readStep_11 (by decide) ?_
    refine z_icmp_ne (tgt := 20) d_Mo_readStep_13 (by decide) (fun _ => ?_) (fun h => absurd h (by decide))
    refine z_iconst (a := nI 0) d_Mo_readStep_20 (by decide) ?_
    first | refine z_istore_3 d_Mo_readStep_21 rfl ?_ | (refine z_forget_2 ?_; refine z_istore_3 d_Mo_readStep_21 rfl ?_)
    refine z_iload_2 d_Mo_readStep_22 ?_
    refine z_if_ge (tgt := 30) d_Mo_readStep_23 (by decide) (fun _ => ?_) (fun h => absurd (by decide) h)
    exact q
  · have e1 : s_stw (tkw t) = nI 5 := by rw [hk]; decide
    have ho : y_opens t := by rw [y_opens, hk]; decide
    have q := c30 5 1 (by omega) e1 (Or.inl ⟨rfl, ho⟩)
    rw [e1]
    first | refine z_istore_2 d_Mo_readStep_4 rfl ?_ | (refine z_forget_1 ?_; refine z_istore_2 d_Mo_readStep_4 rfl ?_)
    refine z_iload_2 d_Mo_readStep_5 ?_
    refine z_iconst (a := nI 5) d_Mo_readStep_6 (by decide) ?_
    refine z_icmp_eq (tgt := 16) d_Mo_readStep_7 (by decide) (fun _ => ?_) (fun h => absurd (by decide) h)
    refine z_iconst (a := nI 1) d_Mo_readStep_16 (by decide) ?_
    refine z_goto (tgt := 21) d_Mo_readStep_17 (by decide) ?_
    first | refine z_istore_3 d_Mo_readStep_21 rfl ?_ | (refine z_forget_2 ?_; refine z_istore_3 d_Mo_readStep_21 rfl ?_)
    refine z_iload_2 d_Mo_readStep_22 ?_
    refine z_if_ge (tgt := 30) d_Mo_readStep_23 (by decide) (fun _ => ?_) (fun h => absurd (by decide) h)
    exact q
  · have e1 : s_stw (tkw t) = nI 6 := by rw [hk]; decide
    have ho : y_opens t := by rw [y_opens, hk]; decide
    have q := c30 6 1 (by omega) e1 (Or.inl ⟨rfl, ho⟩)
    rw [e1]
    first | refine z_istore_2 d_Mo_readStep_4 rfl ?_ | (refine z_forget_1 ?_; refine z_istore_2 d_Mo_readStep_4 rfl ?_)
    refine z_iload_2 d_Mo_readStep_5 ?_
    refine z_iconst (a := nI 5) d_Mo_readStep_6 (by decide) ?_
    refine z_icmp_eq (tgt := 16) d_Mo_readStep_7 (by decide) (fun h => absurd h (by decide)) (fun _ => ?_)
    refine z_iload_2 d_Mo_readStep_10 ?_
    refine z_bipush (a := nI 6) d_Mo_readStep_11 (by decide) ?_
    refine z_icmp_ne (tgt := 20) d_Mo_readStep_13 (by decide) (fun h => absurd (by decide) h) (fun _ => ?_)
    refine z_iconst (a := nI 1) d_Mo_readStep_16 (by decide) ?_
    refine z_goto (tgt := 21) d_Mo_readStep_17 (by decide) ?_
    first | refine z_istore_3 d_Mo_readStep_21 rfl ?_ | (refine z_forget_2 ?_; refine z_istore_3 d_Mo_readStep_21 rfl ?_)
    refine z_iload_2 d_Mo_readStep_22 ?_
    refine z_if_ge (tgt := 30) d_Mo_readStep_23 (by decide) (fun _ => ?_) (fun h => absurd (by decide) h)
    exact q
  · have e1 : s_stw (tkw t) = nI 7 := by rw [hk]; decide
    have ho : ¬ y_opens t := by rw [y_opens, hk]; decide
    have q := c30 7 0 (by omega) e1 (Or.inr ⟨rfl, ho⟩)
    rw [e1]
    first | refine z_istore_2 d_Mo_readStep_4 rfl ?_ | (refine z_forget_1 ?_; refine z_istore_2 d_Mo_readStep_4 rfl ?_)
    refine z_iload_2 d_Mo_readStep_5 ?_
    refine z_iconst (a := nI 5) d_Mo_readStep_6 (by decide) ?_
    refine z_icmp_eq (tgt := 16) d_Mo_readStep_7 (by decide) (fun h => absurd h (by decide)) (fun _ => ?_)
    refine z_iload_2 d_Mo_readStep_10 ?_
    refine z_bipush (a := nI 6) d_Mo_readStep_11 (by decide) ?_
    refine z_icmp_ne (tgt := 20) d_Mo_readStep_13 (by decide) (fun _ => ?_) (fun h => absurd h (by decide))
    refine z_iconst (a := nI 0) d_Mo_readStep_20 (by decide) ?_
    first | refine z_istore_3 d_Mo_readStep_21 rfl ?_ | (refine z_forget_2 ?_; refine z_istore_3 d_Mo_readStep_21 rfl ?_)
    refine z_iload_2 d_Mo_readStep_22 ?_
    refine z_if_ge (tgt := 30) d_Mo_readStep_23 (by decide) (fun _ => ?_) (fun h => absurd (by decide) h)
    exact q
theorem m_readStep : ∀ (q : Nat) (I : Nat → Nat → Int32) (J : Nat → Nat → Int64) (s : yS) (t : tk), moC T K L 0 I J P S t → myN I J n → I 145 25 = nI s.1.1 → yI s → s.1.2.2 + q = 3 → (tkd t ≠ 0 ∨ s.1.2.2 ≠ 0) → (s.1.2.2 ≠ 0 → ¬ tkw t = nI 19) → zEv G y_Mo_readStep prog_14_method_71_code 5 (q + 11) 0 0 [.ref 145, .int (nI s.1.2.2)] (I, J, P, S) (fun w => yZ T K L n I J P S s t w) := by
  intro q
  induction q with
  | zero =>
    intro I J s t C N h25 Y hq h1 h2
    obtain ⟨⟨ns, sz, dp⟩, op, A⟩ := s
    exact m_readStepG (D := 10) (ns := ns) (sz := sz) (dp := dp) (op := op) (A := A) (by omega) (fun h => by dsimp only at hq; omega) C N h25 Y h1 h2
  | succ q ih =>
    intro I J s t C N h25 Y hq h1 h2
    obtain ⟨⟨ns, sz, dp⟩, op, A⟩ := s
    dsimp only at hq
    refine m_readStepG (D := q + 11) (ns := ns) (sz := sz) (dp := dp) (op := op) (A := A) (by omega) (fun h I' J' s' t' C' N' h25' Y' hd h19 => ?_) C N h25 Y h1 h2
    have := ih I' J' s' t' C' N' h25' Y' (by omega) (Or.inr (by omega)) (fun _ => h19)
    rw [hd] at this
    exact this
end MY2
