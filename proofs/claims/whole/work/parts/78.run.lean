/-! a run of both -/
section RN0
variable {G : zG} {I I1 : Nat → Nat → Int32} {J : Nat → Nat → Int64} {P : Nat → Nat → Option Nat} {S : List (Nat × Nat)} {f l nt np nl nn sz g s : Nat} {a b fa : Int32} {C C' C0 A Q : Nat → Nat → Int32}
theorem yb_opv {n : yN} : ∀ m x y i j, yb n A Q m x y i j → ∀ sz, j ≤ sz → ∀ k, i ≤ k → k < j → opv n A sz k := by
  intro m
  induction m with
  | zero => rintro x y i j ⟨rfl, rfl⟩ sz hj k h1 h2; omega
  | succ m ih =>
    rintro x y i j (⟨rfl, rfl⟩ | ⟨h1, h2, h⟩ | ⟨e, E, h1, h2, h3, h4, h5, h6, h7⟩) sz hj k g1 g2
    · omega
    · by_cases hk : k = i
      · subst hk; exact Or.inl ⟨Q, x, h1⟩
      · exact ih _ _ _ _ h sz hj k (by omega) g2
    · have q1 := (yb_le _ _ _ _ _ h6).2
      have q2 := (yb_le _ _ _ _ _ h7).2
      by_cases hk : k = i
      · subst hk; exact Or.inr (Or.inl ⟨⟨Q, x, h1⟩, E, by omega, h3⟩)
      · by_cases hk2 : k = E
        · subst hk2; exact Or.inr (Or.inr ⟨h4, i, by omega, h5⟩)
        · by_cases hk3 : k < E
          · exact ih _ _ _ _ h6 sz (by omega) k (by omega) hk3
          · exact ih _ _ _ _ h7 sz hj k (by omega) g2
theorem start_row {x : Nat} {v : Int32} (h : x ≠ l) : c_start C l v x = C x := by
  unfold c_start
  rw [zu_row _ _ _ _ h, zu_row _ _ _ _ h, zu_row _ _ _ _ h, zu_row _ _ _ _ h, zu_row _ _ _ _ h, zu_row _ _ _ _ h]
theorem start_l {v : Int32} : c_start C l v l 0 = nI 1 ∧ c_start C l v l 1 = nI 0 ∧ c_start C l v l 2 = nI 0 ∧ c_start C l v l 6 = nI 0 ∧ c_start C l v l 7 = v ∧ c_start C l v l 8 = nI 0 := by
  simp [c_start, zu]
theorem lifeV_start {sd m ns : Nat} (hl : f + 16 < l) (h : fmR g (sf f C) (I 150) nt np nl nn) (hy : yb (n3 nt np nn) (sf (f + 12) C) Q m 0 ns 0 sz) (hsz : C (f + 12) 2 = nI sz) (hz : sz ≤ 60) (hs : sd < 65536) : lifeV f l nt np nl nn sz (c_start C l (nI sd)) := by
  have e : ∀ x, x ≠ l → c_start C l (nI sd) x = C x := fun x hx => start_row hx
  obtain ⟨s0, s1, s2, s6, s7, s8⟩ := start_l (C := C) (l := l) (v := nI sd)
  refine ⟨⟨g, I, fmR_A h (fun r hr => e (f + r) (by omega))⟩, ⟨by rw [e _ (by omega)]; exact hsz, hz⟩, fun i hi => ?_, ⟨0, by omega, s8⟩, ⟨sd, hs, s7⟩, ⟨0, by omega, s1⟩⟩
  have q := yb_opv _ _ _ _ _ hy sz (Nat.le_refl _) i (by omega) hi
  have e2 : ∀ r, r ≤ 4 → sf (f + 12) (c_start C l (nI sd)) r = sf (f + 12) C r := fun r hr => e (f + 12 + r) (by omega)
  unfold opv yst ybk at q ⊢
  rw [e2 1 (by decide), e2 2 (by decide), e2 3 (by decide), e2 4 (by decide)]
  exact q
theorem its_stop {i' : Nat} (h8 : C l 8 = nI i') (hi : i' ≤ 61) (hz : C (f + 12) 2 = nI sz) (hsz : sz ≤ i') : ∀ n, c_its f l n C = C := by
  intro n
  cases n with
  | zero => rfl
  | succ n => rw [c_its, h8, hz, nI_clamp (by omega), nI_clamp (by omega), if_neg (by omega)]
def m_st (I : Nat → Nat → Int32) (sd x y : Int32) : Nat → Nat → Int32 := zu (zu (zu (zu (zu (zu (zu (zu I 145 40 sd) 145 41 (nI 0)) 145 42 (nI 0)) 145 43 x) 145 44 (nI 0)) 145 45 y) 145 46 (nI 0)) 145 39 (nI 0)
theorem m_st_row {x y sd : Int32} {k : Nat} (h : k ≠ 145) : m_st I sd x y k = I k := by
  unfold m_st
  rw [zu_row _ _ _ _ h, zu_row _ _ _ _ h, zu_row _ _ _ _ h, zu_row _ _ _ _ h, zu_row _ _ _ _ h, zu_row _ _ _ _ h, zu_row _ _ _ _ h, zu_row _ _ _ _ h]
theorem m_st_k {x y sd : Int32} : m_st I sd x y 145 39 = nI 0 ∧ m_st I sd x y 145 40 = sd ∧ m_st I sd x y 145 41 = nI 0 ∧ m_st I sd x y 145 42 = nI 0 ∧ m_st I sd x y 145 43 = x ∧ m_st I sd x y 145 44 = nI 0 ∧ m_st I sd x y 145 45 = y ∧ m_st I sd x y 145 46 = nI 0 := by
  simp [m_st, zu]
theorem m_st_o {x y sd : Int32} {k : Nat} (h : k < 39 ∨ 47 ≤ k) : m_st I sd x y 145 k = I 145 k := by
  unfold m_st
  rw [zu_ne _ _ _ _ (by omega), zu_ne _ _ _ _ (by omega), zu_ne _ _ _ _ (by omega), zu_ne _ _ _ _ (by omega), zu_ne _ _ _ _ (by omega), zu_ne _ _ _ _ (by omega), zu_ne _ _ _ _ (by omega), zu_ne _ _ _ _ (by omega)]
theorem fnd_self (x : Int32) : fnd x x = 0 := by
  unfold fnd
  have e : ∀ n, n ≤ 9 → s_cnt (zB (x &&& (x ^^^ -1))) n = 0 := by
    intro n
    induction n with
    | zero => intro _; rfl
    | succ n ih =>
      intro hn
      rw [s_cnt_f (by rw [zB_and (by omega), zB_not (by omega)]; simp)]
      exact ih (by omega)
  exact e 9 (by decide)
/-- what a run of the reference leaves as it is -/
def runF (I I' : Nat → Nat → Int32) : Prop := (∀ a, a ≠ 145 → a ≠ 150 → I' a = I a) ∧ (∀ k, 87 ≤ k → I' 150 k = I 150 k) ∧ (∀ k, (k < 39 ∨ 47 ≤ k) → I' 145 k = I 145 k)
/-- how both stand behind a run -/
def runZ (f l nt np nl nn g : Nat) (C0 : Nat → Nat → Int32) (sd : Nat) (I I' : Nat → Nat → Int32) : Prop := ∃ (C' : Nat → Nat → Int32) (s' : Nat), C' = c_its f l 1000000 (c_start C0 l (nI sd)) ∧ s' ≤ 300 ∧ fmR (g + 29700) (sf f C') (I' 150) nt np nl nn ∧ cK f l (c_start C0 l (nI sd)) C' ∧ runF I I' ∧ I' 145 41 = nI s' ∧ C' l 1 = nI s' ∧ I' 145 42 = C' l 2 ∧ I' 145 46 = C' l 6 ∧ I' 145 44 = nI (fnd (C0 f 7) (C' f 7)) ∧ I' 145 43 = I 150 5 ∧ I' 145 45 = s_sum (fun _ => true) (fun p => I 150 (26 + p)) np
theorem m_runs {sd m ns : Nat} (M : modOk P S) (hl : f + 16 < l) (h : fmR g (sf f C0) (I 150) nt np nl nn) (hy : yb (n3 nt np nn) (sf (f + 12) C0) (fun c k => I 150 (89 + 9 * c + k)) m 0 ns 0 sz) (hns : I 150 88 = nI ns) (hns3 : ns ≤ 30) (hsz : C0 (f + 12) 2 = nI sz) (hz : sz ≤ 60) (hs : sd < 65536) : zEv G y_Mo_runsYears prog_14_method_148_code 2 140 0 0 [.ref 145, .int (nI sd)] (I, J, P, S) (fun w => ∃ I', w = (I', J, P, S) ∧ runZ f l nt np nl nn g C0 sd I I') := by
  have M' := M
  obtain ⟨M0, ⟨M4, M4s⟩, ⟨M5, M5s⟩, ⟨M6, M6s⟩, ⟨M7, M7s⟩, ⟨M20, M20s⟩, ⟨M21, M21s⟩, ⟨M22, M22s⟩, ⟨M26, M26s⟩, ⟨M27, M27s⟩, ⟨M28, M28s⟩, ⟨M30, M30s⟩, ⟨M34, M34s⟩, ⟨M36, M36s⟩, ⟨M37, M37s⟩⟩ := id M
  have e : ∀ x, x ≠ l → c_start C0 l (nI sd) x = C0 x := fun x hx => start_row hx
  obtain ⟨s0, s1, s2, s6, s7, s8⟩ := start_l (C := C0) (l := l) (v := nI sd)
  have i5 : I 150 5 = I 150 5 := rfl
  have r150 : zu (zu (zu (zu (zu I 145 40 (nI sd)) 145 41 (nI 0)) 145 42 (nI 0)) 145 43 (I 150 5)) 145 44 (nI 0) 150 = I 150 := by
    rw [zu_row _ _ _ _ (by decide), zu_row _ _ _ _ (by decide), zu_row _ _ _ _ (by decide), zu_row _ _ _ _ (by decide), zu_row _ _ _ _ (by decide)]
  refine zEv_of (lv := [some (.ref 145), some (.int (nI sd))]) (by decide) rfl (Nat.le_of_ble_eq_true rfl) ?_
  refine z_aload_0 d_Mo_runsYears_0 ?_
  refine z_iload_1 d_Mo_runsYears_1 ?_
  refine z_putI d_Mo_runsYears_2 f_Mo_460 (by first | assumption | exact zS0_at (by assumption) (by omega) | exact zS0_at rfl (by omega)) ?_
  refine z_aload_0 d_Mo_runsYears_5 ?_
  refine z_iconst (a := nI 0) d_Mo_runsYears_6 (by decide) ?_
  refine z_putI d_Mo_runsYears_7 f_Mo_476 (by first | assumption | exact zS0_at (by assumption) (by omega) | exact zS0_at rfl (by omega)) ?_
  refine z_aload_0 d_Mo_runsYears_10 ?_
  refine z_iconst (a := nI 0) d_Mo_runsYears_11 (by decide) ?_
  refine z_putI d_Mo_runsYears_12 f_Mo_485 (by first | assumption | exact zS0_at (by assumption) (by omega) | exact zS0_at rfl (by omega)) ?_
  refine z_aload_0 d_Mo_runsYears_15 ?_
  refine z_aload_0 d_Mo_runsYears_16 ?_
  refine z_getR d_Mo_runsYears_17 f_Mo_35 (by first | assumption | exact zS0_at (by assumption) (by omega) | exact zS0_at rfl (by omega)) (by first | assumption | exact zS0_at (by assumption) (by omega) | exact zS0_at rfl (by omega)) ?_
  refine z_iconst (a := nI 5) d_Mo_runsYears_20 (by decide) ?_
  first | refine z_ialdNv d_Mo_runsYears_21 (by first | assumption | exact zS0_at (by assumption) (by omega) | exact zS0_at rfl (by omega)) (by omega) (by first | decide | omega) (by first | assumption | ((try simp (disch := omega) only [zu_same, zu_ne, zcp_ne, zfl_ne]); first | assumption | rfl)) ?_ | refine z_iald d_Mo_runsYears_21 (by first | assumption | exact zS0_at (by assumption) (by omega) | exact zS0_at rfl (by omega)) (by first | assumption | exact zS0_at (by assumption) (by omega) | exact zS0_at rfl (by omega)) ?_
  refine z_putI d_Mo_runsYears_22 f_Mo_500 (by first | assumption | exact zS0_at (by assumption) (by omega) | exact zS0_at rfl (by omega)) ?_
  refine z_aload_0 d_Mo_runsYears_25 ?_
  refine z_iconst (a := nI 0) d_Mo_runsYears_26 (by decide) ?_
  refine z_putI d_Mo_runsYears_27 f_Mo_467 (by first | assumption | exact zS0_at (by assumption) (by omega) | exact zS0_at rfl (by omega)) ?_
  refine z_aload_0 d_Mo_runsYears_30 ?_
  refine z_aload_0 d_Mo_runsYears_31 ?_
  refine z_Vi0 d_Mo_runsYears_32 k_Mo_503 (by first | assumption | exact zS0_at (by assumption) (by omega) | exact zS0_at rfl (by omega)) (t_Mo_allGot M' (fmR_mod (A := sf f C0) (g := g) (nt := nt) (np := np) (nl := nl) (nn := nn) (by rw [r150]; exact h))) ⟨Nat.le_of_ble_eq_true rfl, Nat.le_of_ble_eq_true rfl, Nat.le_of_ble_eq_true rfl, Nat.le_of_ble_eq_true rfl⟩ (Nat.le_of_ble_eq_true rfl) ?_
  intro r w hq
  obtain ⟨rfl, rfl⟩ := hq
  rw [r150]
  generalize hY : s_sum (fun _ => true) (fun p => I 150 (26 + p)) np = Y
  obtain ⟨k39, k40, k41, k42, k43, k44, k45, k46⟩ := m_st_k (I := I) (x := I 150 5) (y := Y) (sd := nI sd)
  have k150 : m_st I (nI sd) (I 150 5) Y 150 = I 150 := m_st_row (by decide)
  have W0 : rM f l nt np nl nn sz (C0 f 7) g (sf (f + 12) C0) (fun c k => I 150 (89 + 9 * c + k)) 0 0 (c_start C0 l (nI sd)) (m_st I (nI sd) (I 150 5) Y) := by
    refine ⟨⟨⟨?_, ⟨k40.trans s7.symm, sd, hs, s7⟩, ?_, ?_⟩, ⟨k41, s1, by omega⟩, k42.trans s2.symm, k46.trans s6.symm⟩, s8, fun r hr => e (f + 12 + r) (by omega), fun c k _ _ => by rw [k150], hsz, hz⟩
    · rw [k150]
      exact fmR_A h (fun r hr => e (f + r) (by omega))
    · rw [k44, e f (by omega), fnd_self]
    · intro t _ ht; rw [e f (by omega)]; exact ht
  have y88 : m_st I (nI sd) (I 150 5) Y 150 88 = nI ns := by rw [k150]; exact hns
  refine z_putI d_Mo_runsYears_35 f_Mo_506 (by first | assumption | exact zS0_at (by assumption) (by omega) | exact zS0_at rfl (by omega)) ?_
  refine z_aload_0 d_Mo_runsYears_38 ?_
  refine z_iconst (a := nI 0) d_Mo_runsYears_39 (by decide) ?_
  refine z_putI d_Mo_runsYears_40 f_Mo_482 (by first | assumption | exact zS0_at (by assumption) (by omega) | exact zS0_at rfl (by omega)) ?_
  refine z_aload_0 d_Mo_runsYears_43 ?_
  refine z_iconst (a := nI 0) d_Mo_runsYears_44 (by decide) ?_
  refine z_putZ d_Mo_runsYears_45 f_Mo_479 (by first | assumption | exact zS0_at (by assumption) (by omega) | exact zS0_at rfl (by omega)) (by first | exact zb0 | exact zb1 | assumption) ?_
  refine z_aload_0 d_Mo_runsYears_48 ?_
  refine z_iconst (a := nI 0) d_Mo_runsYears_49 (by decide) ?_
  refine z_aload_0 d_Mo_runsYears_50 ?_
  refine z_getR d_Mo_runsYears_51 f_Mo_35 (by assumption) (by assumption) ?_
  refine z_bipush (a := nI 88) d_Mo_runsYears_54 (by decide) ?_
  refine z_ialdNv d_Mo_runsYears_56 (by assumption) (by omega) (by decide) y88 ?_
  refine z_Vv2 d_Mo_runsYears_57 k_Mo_494 (by first | assumption | exact zS0_at (by assumption) (by omega) | exact zS0_at rfl (by omega)) (m_doAll M' hl sz 139 0 ns 0 sz 0 (c_start C0 l (nI sd)) (m_st I (nI sd) (I 150 5) Y) (by omega) (yb_f _ _ _ _ _ hy sz (by omega)) (Nat.le_refl _) hns3 W0 k39) ⟨Nat.le_of_ble_eq_true rfl, Nat.le_of_ble_eq_true rfl, Nat.le_of_ble_eq_true rfl, Nat.le_of_ble_eq_true rfl⟩ (Nat.le_of_ble_eq_true rfl) ?_
  intro w hq
  obtain ⟨C', I', s', N, i', rfl, F', W', hs', K', L', T', hend⟩ := hq
  refine z_retv d_Mo_runsYears_60 ?_
  obtain ⟨w1, w2, w3, w4, w5, w6⟩ := W'
  obtain ⟨q1, ⟨q2, q3, q4⟩, q5, q6⟩ := w1
  obtain ⟨p1, ⟨p2, p3⟩, p4, p5⟩ := q1
  have hi' : sz ≤ i' ∧ i' ≤ 61 ∧ N ≤ 60001 := by
    rcases hend with ⟨-, h1, h2⟩ | ⟨-, h1, h2⟩ <;> omega
  have h12 : C' (f + 12) 2 = nI sz := by rw [← hsz]; exact congrFun (w3 0 (by decide)) 2
  refine ⟨I', rfl, C', s', ?_, q4, fmR_g p1 (by omega), K', ⟨fun a g1 g2 => (F'.1 a g1 g2).trans (m_st_row g1), fun k hk => (F'.2.1 k hk).trans (by rw [k150]), fun k hk => (F'.2.2 k (by omega)).trans (m_st_o hk)⟩, q2, q3, q5, q6, p4, (F'.2.2 43 (by omega)).trans k43, (F'.2.2 45 (by omega)).trans (k45.trans hY.symm)⟩
  rw [show 1000000 = N + (1000000 - N) by omega, T']
  exact (its_stop w2 hi'.2.1 h12 hi'.1 _).symm
theorem pc_set (b : Nat → Bool) : pcN (s_setN b 9) = s_cnt b 9 := by
  have e : ∀ n, n ≤ 9 → ((List.range n).filter (fun i => (s_setN b 9).testBit i)).length = s_cnt b n := by
    intro n
    induction n with
    | zero => intro _; rfl
    | succ n ih =>
      intro hn
      rw [List.range_succ, List.filter_append, List.length_append, ih (by omega)]
      have q : (s_setN b 9).testBit n = b n := by rw [s_setN_bit]; simp; omega
      cases hb : b n with
      | false => rw [s_cnt_f (by rw [hb]; decide)]; simp [q, hb]
      | true => rw [s_cnt_t hb]; simp [q, hb]
  exact e 9 (by decide)
end RN0
