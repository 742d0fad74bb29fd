/-! way, wayAt: both sides -/
section WZ0
variable {G : zG} {I I' I1 I2 : Nat → Nat → Int32} {J J' J2 : Nat → Nat → Int64} {P : Nat → Nat → Option Nat} {S : List (Nat × Nat)} {f d nt np nl nn n fed mk t k p q to : Nat} {a b c x : Int32} {w : zW} {mt : Nat → Int32} {tk : Int32}
def xF (r : Nat) (I I' : Nat → Nat → Int32) : Prop := ∀ a, a ≠ r → I' a = I a
theorem xF_r {r : Nat} : xF r I I := fun _ _ => rfl
theorem xF_u {r k : Nat} (h : xF r I I') : xF r I (zu I' r k x) := fun a ha => (zu_row _ _ _ _ ha).trans (h a ha)
theorem xF_m {r : Nat} (h : xF r I I') (hr : 151 ≤ r ∧ r ≤ 158) : mqF I I' := ⟨fun a _ g => h a (by omega), fun k _ => by rw [h 145 (by omega)]⟩
def gAt (mt : Nat → Int32) (tk : Int32) (np to n : Nat) (x : Int32) (p : Nat) : Prop := x = nI 99 ∧ ¬ gP mt tk np n p to ∨ ∃ m, m ≤ n ∧ x = nI m ∧ gD mt tk np m p to
theorem gAt_q {n' : Nat} (h : gAt mt tk np to n' x q) (hn : n ≤ n') (h8 : n' ≤ 8) : x = nI n ↔ gD mt tk np n q to := by
  rcases h with ⟨rfl, h⟩ | ⟨m, m1, rfl, m2⟩
  · constructor
    · intro e
      have := (nI_eq (by omega) (by omega)).mp e
      omega
    · intro e
      exact absurd (gP_m e.1 hn) h
  · rw [nI_eq (by omega) (by omega)]
    constructor
    · rintro rfl; exact m2
    · intro e; exact gD_u m2 e
theorem gAt_s {m : Nat} (h : gAt mt tk np to n (nI m) p) (hm : m < 9) (hn : n ≤ 7) : gAt mt tk np to (n + 1) (nI m) p := by
  rcases h with ⟨h, -⟩ | ⟨m', m1, h, m2⟩
  · have := (nI_eq (by omega) (by omega)).mp h
    omega
  · exact Or.inr ⟨m', by omega, h, m2⟩
theorem gAt_y (hn : np ≤ 7) (ht : ∀ i, i < 32 → zbit tk i → i < np) (hp : p < np) (hto : to < 32) (h : ¬ gP mt tk np n p to) (hq : q < 7) (h1 : zbit (mt p &&& tk) q) (h2 : gD mt tk np n q to) : gAt mt tk np to (n + 1) (nI (n + 1)) p := by
  refine Or.inr ⟨n + 1, Nat.le_refl _, rfl, (gP_f hn ht hp n to hto).mpr (Or.inr ⟨q, ht q (by omega) ((zbit_and (by omega)).mp h1).2, h1, h2.1⟩), fun m hm h3 => h (gP_m h3 (by omega))⟩
theorem gAt_n (hn : np ≤ 7) (ht : ∀ i, i < 32 → zbit tk i → i < np) (hp : p < np) (hto : to < 32) (h : ¬ gP mt tk np n p to) (h1 : ∀ q, q < 7 → ¬ (zbit (mt p &&& tk) q ∧ gD mt tk np n q to)) : gAt mt tk np to (n + 1) (nI 99) p := by
  refine Or.inl ⟨rfl, fun h2 => ?_⟩
  rcases (gP_f hn ht hp n to hto).mp h2 with h2 | ⟨r, r1, r2, r3⟩
  · exact h h2
  · refine h1 r (by omega) ⟨r2, r3, fun m hm h4 => h ?_⟩
    exact gP_m ((gP_f hn ht hp m to hto).mpr (Or.inr ⟨r, r1, r2, h4⟩)) (by omega)
theorem gAt_o (hp : np ≤ p) (h : gAt mt tk np to n x p) : gAt mt tk np to (n + 1) x p := by
  rcases h with ⟨rfl, h⟩ | ⟨m, m1, m2, m3⟩
  · refine Or.inl ⟨rfl, fun h2 => h ?_⟩
    have := gP_out hp (n + 1) to h2
    subst this
    exact gP_m (n := 0) rfl (by omega)
  · exact Or.inr ⟨m, by omega, m2, m3⟩
theorem set_lt {b : Nat → Bool} (hn : np ≤ 7) : ∀ i, i < 32 → zbit (s_set b np) i → i < np := by
  intro i hi h
  unfold zbit at h
  rw [s_set_bit _ hi (by omega)] at h
  rcases Nat.lt_or_ge i np with h1 | h1
  · exact h1
  · rw [decide_eq_false (by omega)] at h; simp at h
theorem t_Mo_laysFar (M : modOk P S) (N : modIn I nt np nl nn) (ht : t < 9) (hk : I 150 (33 + t) = nI k) (hto : to < np) : zEv G y_Mo_laysFar prog_14_method_102_code 7 4 0 0 [.ref 145, .int (nI t), .int (nI to)] (I, J, P, S) (fun w => ∃ I', w = (I', J, P, S) ∧ xF 153 I I' ∧ ∀ q, q < 7 → gAt (mMt I) (mTk I np k) np to 7 (I' 153 q) q) := by
  obtain ⟨M0, ⟨M4, M4s⟩, ⟨M5, M5s⟩, ⟨M6, M6s⟩, ⟨M7, M7s⟩, ⟨M20, M20s⟩, ⟨M21, M21s⟩, ⟨M22, M22s⟩, ⟨M26, M26s⟩, ⟨M27, M27s⟩, ⟨M28, M28s⟩, ⟨M30, M30s⟩, ⟨M34, M34s⟩, ⟨M36, M36s⟩, ⟨M37, M37s⟩⟩ := id M
  obtain ⟨⟨m0, m0b⟩, ⟨m1, m1b⟩, ⟨m2, m2b⟩, ⟨m3, m3b⟩, mof, mon⟩ := id N
  have htk := set_lt (b := fun q => zB (I 150 (12 + q)) k) m1b
  have hin : in7 (mTk I np k) := in7_set m1b
  refine zEv_of (lv := [some (.ref 145), some (.int (nI t)), some (.int (nI to)), none, none, none, none]) (by decide) rfl (Nat.le_of_ble_eq_true rfl) ?_
  have l3 : ∀ (nx x0 : Int32) (n i : Nat), n < 7 → i < np → (zbit nx i → x0 ≠ nI n ∧ ¬ gD (mMt I) (mTk I np k) np n i to) → (∀ I2, xF 153 I I2 → (∀ q, q < 7 → q ≠ i → gAt (mMt I) (mTk I np k) np to (if q < i then n + 1 else n) (I2 153 q) q) → (I2 153 i = x0 ∧ (∀ q, q < 7 → ¬ (zbit nx q ∧ gD (mMt I) (mTk I np k) np n q to)) ∨ I2 153 i = nI (n + 1) ∧ ∃ q, q < 7 ∧ zbit nx q ∧ gD (mMt I) (mTk I np k) np n q to) → zA G y_Mo_laysFar prog_14_method_102_code 7 none (zRm 4 0 0) (zM G 0 0 (fun r w' => r = none ∧ (fun w => ∃ I', w = (I', J, P, S) ∧ xF 153 I I' ∧ ∀ q, q < 7 → gAt (mMt I) (mTk I np k) np to 7 (I' 153 q) q) w')) 42 [some (.ref 145), some (.int (nI t)), some (.int (nI to)), some (.int (nI n)), some (.int (nI (i + 1))), none, none] [] (I2, J, P, S) 0 0) → ∀ m j I2, 7 - j < m → j ≤ 7 → xF 153 I I2 → (∀ q, q < 7 → q ≠ i → gAt (mMt I) (mTk I np k) np to (if q < i then n + 1 else n) (I2 153 q) q) → (I2 153 i = x0 ∧ (∀ q, q < j → ¬ (zbit nx q ∧ gD (mMt I) (mTk I np k) np n q to)) ∨ I2 153 i = nI (n + 1) ∧ ∃ q, q < 7 ∧ zbit nx q ∧ gD (mMt I) (mTk I np k) np n q to) → zA G y_Mo_laysFar prog_14_method_102_code 7 none (zRm 4 0 0) (zM G 0 0 (fun r w' => r = none ∧ (fun w => ∃ I', w = (I', J, P, S) ∧ xF 153 I I' ∧ ∀ q, q < 7 → gAt (mMt I) (mTk I np k) np to 7 (I' 153 q) q) w')) 81 [some (.ref 145), some (.int (nI t)), some (.int (nI to)), some (.int (nI n)), some (.int (nI i)), some (.int nx), some (.int (nI j))] [] (I2, J, P, S) 0 0 := by
    intro nx x0 n i hn hi hnx K m
    induction m with
    | zero => intro j I2 h; exact absurd h (Nat.not_lt_zero _)
    | succ m ih =>
      intro j I2 hm hj h1 h2 h3
      refine z_iload_6 d_Mo_laysFar_81 ?_
      refine z_bipush (a := nI 7) d_Mo_laysFar_83 (by decide) ?_
      refine z_icmp_ge (tgt := 125) d_Mo_laysFar_85 (by decide) (fun hb => ?_) (fun hb => ?_)
      · have hb := (nI_leI (by omega) (by omega)).mp hb
        obtain rfl : j = 7 := by omega
        first | refine z_iinc_4 d_Mo_laysFar_125 rfl (zi_inc _) ?_ | refine z_iinc_4 d_Mo_laysFar_125 rfl rfl ?_
        refine z_goto (tgt := 42) d_Mo_laysFar_128 (by decide) ?_
        refine z_forget_5 ?_
        refine z_forget_6 ?_
        exact K I2 h1 h2 h3
      · have hb : j < 7 := Nat.lt_of_not_le (fun q => hb (nI_le q (by omega)))
        have no : (¬ (zbit nx j ∧ gD (mMt I) (mTk I np k) np n j to)) → zA G y_Mo_laysFar prog_14_method_102_code 7 none (zRm 4 0 0) (zM G 0 0 (fun r w' => r = none ∧ (fun w => ∃ I', w = (I', J, P, S) ∧ xF 153 I I' ∧ ∀ q, q < 7 → gAt (mMt I) (mTk I np k) np to 7 (I' 153 q) q) w')) 119 [some (.ref 145), some (.int (nI t)), some (.int (nI to)), some (.int (nI n)), some (.int (nI i)), some (.int nx), some (.int (nI j))] [] (I2, J, P, S) 0 0 := by
          intro hno
          first | refine z_iinc_6 d_Mo_laysFar_119 rfl (zi_inc _) ?_ | refine z_iinc_6 d_Mo_laysFar_119 rfl rfl ?_
          refine z_goto (tgt := 81) d_Mo_laysFar_122 (by decide) ?_
          refine ih (j + 1) I2 (by omega) (by omega) h1 h2 ?_
          rcases h3 with ⟨h3, h4⟩ | h3
          · refine Or.inl ⟨h3, fun q hq => ?_⟩
            by_cases e : q = j
            · subst e; exact hno
            · exact h4 q (by omega)
          · exact Or.inr h3
        have hv : zbit nx j → (I2 153 j = nI n ↔ gD (mMt I) (mTk I np k) np n j to) := by
          intro hz
          by_cases e : j = i
          · subst e
            obtain ⟨e1, e2⟩ := hnx hz
            constructor
            · intro e3
              rcases h3 with ⟨h3, -⟩ | ⟨h3, -⟩
              · exact absurd (h3.symm.trans e3) e1
              · have := (nI_eq (by omega) (by omega)).mp (h3.symm.trans e3)
                omega
            · intro e3; exact absurd e3 e2
          · refine gAt_q (h2 j hb e) ?_ ?_ <;> split <;> omega
        refine z_iload_5 d_Mo_laysFar_88 ?_
        refine z_iload_6 d_Mo_laysFar_90 ?_
        refine z_Si2 d_Mo_laysFar_92 k_Mo_109 (t_Mo_has) ⟨Nat.le_of_ble_eq_true rfl, Nat.le_of_ble_eq_true rfl, Nat.le_of_ble_eq_true rfl, Nat.le_of_ble_eq_true rfl⟩ (Nat.le_of_ble_eq_true rfl) ?_
        intro r w hq
        rcases hq with ⟨⟨hz, rfl⟩ | ⟨hz, rfl⟩, rfl⟩
        · refine z_if_eq (tgt := 119) d_Mo_laysFar_95 (by decide) (fun h => absurd h (by decide)) (fun _ => ?_)
          refine z_aload_0 d_Mo_laysFar_98 ?_
          refine z_getR d_Mo_laysFar_99 f_Mo_44 (by first | assumption | exact zS0_at (by assumption) (by omega) | exact zS0_at rfl (by omega)) (by first | assumption | exact zS0_at (by assumption) (by omega) | exact zS0_at rfl (by omega)) ?_
          refine z_iload_6 d_Mo_laysFar_102 ?_
          first | refine z_ialdNv d_Mo_laysFar_104 (by first | assumption | exact zS0_at (by assumption) (by omega) | exact zS0_at rfl (by omega)) (by omega) (by first | decide | omega) (by first | assumption | ((try simp (disch := omega) only [zu_same, zu_ne, zcp_ne, zfl_ne]); first | assumption | rfl)) ?_ | refine z_iald d_Mo_laysFar_104 (by first | assumption | exact zS0_at (by assumption) (by omega) | exact zS0_at rfl (by omega)) (by first | assumption | exact zS0_at (by assumption) (by omega) | exact zS0_at rfl (by omega)) ?_
          refine z_iload_3 d_Mo_laysFar_105 ?_
          refine z_icmp_ne (tgt := 119) d_Mo_laysFar_106 (by decide) (fun hc => ?_) (fun hc => ?_)
          · exact no (fun q => hc ((hv hz).mpr q.2))
          · refine z_aload_0 d_Mo_laysFar_109 ?_
            refine z_getR d_Mo_laysFar_110 f_Mo_44 (by first | assumption | exact zS0_at (by assumption) (by omega) | exact zS0_at rfl (by omega)) (by first | assumption | exact zS0_at (by assumption) (by omega) | exact zS0_at rfl (by omega)) ?_
            refine z_iload_4 d_Mo_laysFar_113 ?_
            refine z_iload_3 d_Mo_laysFar_115 ?_
            refine z_iconst (a := nI 1) d_Mo_laysFar_116 (by decide) ?_
            first | refine z_iaddN d_Mo_laysFar_117 ?_ | refine z_iadd d_Mo_laysFar_117 ?_
            first | refine z_iastN d_Mo_laysFar_118 (by first | assumption | exact zS0_at (by assumption) (by omega) | exact zS0_at rfl (by omega)) (by omega) (by first | decide | omega) ?_ | refine z_iast d_Mo_laysFar_118 (by first | assumption | exact zS0_at (by assumption) (by omega) | exact zS0_at rfl (by omega)) (by first | assumption | exact zS0_at (by assumption) (by omega) | exact zS0_at rfl (by omega)) ?_
            first | refine z_iinc_6 d_Mo_laysFar_119 rfl (zi_inc _) ?_ | refine z_iinc_6 d_Mo_laysFar_119 rfl rfl ?_
            refine z_goto (tgt := 81) d_Mo_laysFar_122 (by decide) ?_
            refine ih (j + 1) _ (by omega) (by omega) (xF_u h1) (fun q g1 g2 => ?_) (Or.inr ⟨zu_same _ _ _ _, j, hb, hz, (hv hz).mp hc⟩)
            rw [zu_ne _ _ _ _ (by omega)]
            exact h2 q g1 g2
        · refine z_if_eq (tgt := 119) d_Mo_laysFar_95 (by decide) (fun _ => ?_) (fun h => absurd (by decide) h)
          exact no (fun q => hz q.1)
  have l1 : ∀ m n I2, 7 - n < m → n ≤ 7 → xF 153 I I2 → (∀ q, q < 7 → gAt (mMt I) (mTk I np k) np to n (I2 153 q) q) → zA G y_Mo_laysFar prog_14_method_102_code 7 none (zRm 4 0 0) (zM G 0 0 (fun r w' => r = none ∧ (fun w => ∃ I', w = (I', J, P, S) ∧ xF 153 I I' ∧ ∀ q, q < 7 → gAt (mMt I) (mTk I np k) np to 7 (I' 153 q) q) w')) 33 [some (.ref 145), some (.int (nI t)), some (.int (nI to)), some (.int (nI n)), none, none, none] [] (I2, J, P, S) 0 0 := by
    intro m
    induction m with
    | zero => intro n I2 h; exact absurd h (Nat.not_lt_zero _)
    | succ m ih =>
      intro n I2 hm hj h1 h2
      refine z_iload_3 d_Mo_laysFar_33 ?_
      refine z_bipush (a := nI 7) d_Mo_laysFar_34 (by decide) ?_
      refine z_icmp_ge (tgt := 137) d_Mo_laysFar_36 (by decide) (fun hb => ?_) (fun hb => ?_)
      · have hb := (nI_leI (by omega) (by omega)).mp hb
        obtain rfl : n = 7 := by omega
        refine z_retv d_Mo_laysFar_137 ?_
        exact ⟨I2, rfl, h1, h2⟩
      · have hb : n < 7 := Nat.lt_of_not_le (fun q => hb (nI_le q (by omega)))
        have l2 : ∀ z i I2, np - i < z → i ≤ np → xF 153 I I2 → (∀ q, q < 7 → gAt (mMt I) (mTk I np k) np to (if q < i then n + 1 else n) (I2 153 q) q) → zA G y_Mo_laysFar prog_14_method_102_code 7 none (zRm 4 0 0) (zM G 0 0 (fun r w' => r = none ∧ (fun w => ∃ I', w = (I', J, P, S) ∧ xF 153 I I' ∧ ∀ q, q < 7 → gAt (mMt I) (mTk I np k) np to 7 (I' 153 q) q) w')) 42 [some (.ref 145), some (.int (nI t)), some (.int (nI to)), some (.int (nI n)), some (.int (nI i)), none, none] [] (I2, J, P, S) 0 0 := by
          intro z
          induction z with
          | zero => intro i I2 h; exact absurd h (Nat.not_lt_zero _)
          | succ z ihz =>
            intro i I2 hz hi h1 h2
            have m1' : I2 150 1 = nI np := by rw [h1 150 (by decide)]; exact m1
            refine z_iload_4 d_Mo_laysFar_42 ?_
            refine z_aload_0 d_Mo_laysFar_44 ?_
            refine z_getR d_Mo_laysFar_45 f_Mo_35 (by first | assumption | exact zS0_at (by assumption) (by omega) | exact zS0_at rfl (by omega)) (by first | assumption | exact zS0_at (by assumption) (by omega) | exact zS0_at rfl (by omega)) ?_
            refine z_iconst (a := nI 1) d_Mo_laysFar_48 (by decide) ?_
            first | refine z_ialdNv d_Mo_laysFar_49 (by first | assumption | exact zS0_at (by assumption) (by omega) | exact zS0_at rfl (by omega)) (by omega) (by first | decide | omega) (by first | assumption | ((try simp (disch := omega) only [zu_same, zu_ne, zcp_ne, zfl_ne]); first | assumption | rfl)) ?_ | refine z_iald d_Mo_laysFar_49 (by first | assumption | exact zS0_at (by assumption) (by omega) | exact zS0_at rfl (by omega)) (by first | assumption | exact zS0_at (by assumption) (by omega) | exact zS0_at rfl (by omega)) ?_
            refine z_icmp_ge (tgt := 131) d_Mo_laysFar_50 (by decide) (fun hb2 => ?_) (fun hb2 => ?_)
            · have hb2 := (nI_leI (by omega) (by omega)).mp hb2
              obtain rfl : i = np := by omega
              first | refine z_iinc_3 d_Mo_laysFar_131 rfl (zi_inc _) ?_ | refine z_iinc_3 d_Mo_laysFar_131 rfl rfl ?_
              refine z_goto (tgt := 33) d_Mo_laysFar_134 (by decide) ?_
              refine z_forget_4 ?_
              refine ih (n + 1) I2 (by omega) (by omega) h1 (fun q hq => ?_)
              have := h2 q hq
              split at this
              · exact this
              · exact gAt_o (by omega) this
            · have hb2 : i < np := Nat.lt_of_not_le (fun q => hb2 (nI_le q (by omega)))
              have h2i := h2 i (by omega)
              rw [if_neg (Nat.lt_irrefl _)] at h2i
              have h2o : ∀ q, q < 7 → q ≠ i → gAt (mMt I) (mTk I np k) np to (if q < i then n + 1 else n) (I2 153 q) q := fun q hq _ => h2 q hq
              have step : ∀ I3, xF 153 I I3 → (∀ q, q < 7 → q ≠ i → gAt (mMt I) (mTk I np k) np to (if q < i then n + 1 else n) (I3 153 q) q) → gAt (mMt I) (mTk I np k) np to (n + 1) (I3 153 i) i → zA G y_Mo_laysFar prog_14_method_102_code 7 none (zRm 4 0 0) (zM G 0 0 (fun r w' => r = none ∧ (fun w => ∃ I', w = (I', J, P, S) ∧ xF 153 I I' ∧ ∀ q, q < 7 → gAt (mMt I) (mTk I np k) np to 7 (I' 153 q) q) w')) 42 [some (.ref 145), some (.int (nI t)), some (.int (nI to)), some (.int (nI n)), some (.int (nI (i + 1))), none, none] [] (I3, J, P, S) 0 0 := by
                intro I3 g1 g2 g3
                refine ihz (i + 1) I3 (by omega) (by omega) g1 (fun q hq => ?_)
                by_cases e : q = i
                · subst e; rw [if_pos (by omega)]; exact g3
                · have := g2 q hq e
                  by_cases e2 : q < i
                  · rw [if_pos e2] at this; rw [if_pos (by omega)]; exact this
                  · rw [if_neg e2] at this; rw [if_neg (by omega)]; exact this
              rcases id h2i with ⟨hx, hg⟩ | ⟨mm, m9, hx, hg⟩
              · have q3 := l3 (mMt I i &&& mTk I np k) (nI 99) n i hb hb2 (fun _ => ⟨fun e => by have := (nI_eq (by omega) (by omega)).mp e; omega, fun e => hg e.1⟩) (fun I3 g1 g2 g3 => by
                  refine step I3 g1 g2 ?_
                  rcases g3 with ⟨e, g3⟩ | ⟨e, q, g3, g4, g5⟩
                  · rw [e]; exact gAt_n m1b htk hb2 (by omega) hg g3
                  · rw [e]; exact gAt_y m1b htk hb2 (by omega) hg g3 g4 g5) 8 0 I2 (by omega) (by omega) h1 h2o (Or.inl ⟨hx, fun q hq => absurd hq (Nat.not_lt_zero _)⟩)
                refine z_aload_0 d_Mo_laysFar_53 ?_
                refine z_getR d_Mo_laysFar_54 f_Mo_44 (by first | assumption | exact zS0_at (by assumption) (by omega) | exact zS0_at rfl (by omega)) (by first | assumption | exact zS0_at (by assumption) (by omega) | exact zS0_at rfl (by omega)) ?_
                refine z_iload_4 d_Mo_laysFar_57 ?_
                first | refine z_ialdNv d_Mo_laysFar_59 (by first | assumption | exact zS0_at (by assumption) (by omega) | exact zS0_at rfl (by omega)) (by omega) (by first | decide | omega) (by first | assumption | ((try simp (disch := omega) only [zu_same, zu_ne, zcp_ne, zfl_ne]); first | assumption | rfl)) ?_ | refine z_iald d_Mo_laysFar_59 (by first | assumption | exact zS0_at (by assumption) (by omega) | exact zS0_at rfl (by omega)) (by first | assumption | exact zS0_at (by assumption) (by omega) | exact zS0_at rfl (by omega)) ?_
                refine z_bipush (a := nI 99) d_Mo_laysFar_60 (by decide) ?_
                refine z_icmp_ge (tgt := 69) d_Mo_laysFar_62 (by decide) (fun _ => ?_) (fun h => absurd (by decide) h)
                refine z_aload_0 d_Mo_laysFar_69 ?_
                refine z_iload_1 d_Mo_laysFar_70 ?_
                refine z_iload_4 d_Mo_laysFar_71 ?_
                refine z_Vi2 d_Mo_laysFar_73 k_Mo_357 (by first | assumption | exact zS0_at (by assumption) (by omega) | exact zS0_at rfl (by omega)) (t_Mo_nextOf' M (modIn_c N (h1 150 (by decide))) ht (by rw [h1 150 (by decide)]; exact hk) (by omega)) ⟨Nat.le_of_ble_eq_true rfl, Nat.le_of_ble_eq_true rfl, Nat.le_of_ble_eq_true rfl, Nat.le_of_ble_eq_true rfl⟩ (Nat.le_of_ble_eq_true rfl) ?_
                intro r w hq
                obtain ⟨rfl, rfl⟩ := hq
                rw [mMt_c (h1 150 (by decide)), mTk_c (h1 150 (by decide))]
                first | refine z_istore_5 d_Mo_laysFar_76 rfl ?_ | (refine z_forget_4 ?_; refine z_istore_5 d_Mo_laysFar_76 rfl ?_)
                refine z_iconst (a := nI 0) d_Mo_laysFar_78 (by decide) ?_
                first | refine z_istore_6 d_Mo_laysFar_79 rfl ?_ | (refine z_forget_5 ?_; refine z_istore_6 d_Mo_laysFar_79 rfl ?_)
                exact q3
              · have z0 : ∀ q, ¬ zbit (nI 0) q := fun q h => by
                  by_cases e : q < 32
                  · unfold zbit at h; rw [zB_nI e] at h; simp at h
                  · unfold zbit zB at h; simp [nI] at h
                have q3 := l3 (nI 0) (nI mm) n i hb hb2 (fun h => absurd h (z0 i)) (fun I3 g1 g2 g3 => by
                  refine step I3 g1 g2 ?_
                  rcases g3 with ⟨e, g3⟩ | ⟨e, q, g3, g4, g5⟩
                  · rw [e]; exact Or.inr ⟨mm, by omega, rfl, hg⟩
                  · exact absurd g4 (z0 q)) 8 0 I2 (by omega) (by omega) h1 h2o (Or.inl ⟨hx, fun q hq => absurd hq (Nat.not_lt_zero _)⟩)
                refine z_aload_0 d_Mo_laysFar_53 ?_
                refine z_getR d_Mo_laysFar_54 f_Mo_44 (by first | assumption | exact zS0_at (by assumption) (by omega) | exact zS0_at rfl (by omega)) (by first | assumption | exact zS0_at (by assumption) (by omega) | exact zS0_at rfl (by omega)) ?_
                refine z_iload_4 d_Mo_laysFar_57 ?_
                first | refine z_ialdNv d_Mo_laysFar_59 (by first | assumption | exact zS0_at (by assumption) (by omega) | exact zS0_at rfl (by omega)) (by omega) (by first | decide | omega) (by first | assumption | ((try simp (disch := omega) only [zu_same, zu_ne, zcp_ne, zfl_ne]); first | assumption | rfl)) ?_ | refine z_iald d_Mo_laysFar_59 (by first | assumption | exact zS0_at (by assumption) (by omega) | exact zS0_at rfl (by omega)) (by first | assumption | exact zS0_at (by assumption) (by omega) | exact zS0_at rfl (by omega)) ?_
                refine z_bipush (a := nI 99) d_Mo_laysFar_60 (by decide) ?_
                refine z_icmp_ge (tgt := 69) d_Mo_laysFar_62 (by decide) (fun h => absurd h (fun q => by have := (nI_leI (by omega) (by omega)).mp q; omega)) (fun _ => ?_)
                refine z_iconst (a := nI 0) d_Mo_laysFar_65 (by decide) ?_
                refine z_goto (tgt := 76) d_Mo_laysFar_66 (by decide) ?_
                first | refine z_istore_5 d_Mo_laysFar_76 rfl ?_ | (refine z_forget_4 ?_; refine z_istore_5 d_Mo_laysFar_76 rfl ?_)
                refine z_iconst (a := nI 0) d_Mo_laysFar_78 (by decide) ?_
                first | refine z_istore_6 d_Mo_laysFar_79 rfl ?_ | (refine z_forget_5 ?_; refine z_istore_6 d_Mo_laysFar_79 rfl ?_)
                exact q3
        refine z_iconst (a := nI 0) d_Mo_laysFar_39 (by decide) ?_
        first | refine z_istore_4 d_Mo_laysFar_40 rfl ?_ | (refine z_forget_3 ?_; refine z_istore_4 d_Mo_laysFar_40 rfl ?_)
        refine l2 (np + 1) 0 I2 (by omega) (by omega) h1 (fun q hq => ?_)
        rw [if_neg (Nat.not_lt_zero _)]
        exact h2 q hq
  have l0 : ∀ m j I2, 7 - j < m → j ≤ 7 → xF 153 I I2 → (∀ q, q < j → gAt (mMt I) (mTk I np k) np to 0 (I2 153 q) q) → zA G y_Mo_laysFar prog_14_method_102_code 7 none (zRm 4 0 0) (zM G 0 0 (fun r w' => r = none ∧ (fun w => ∃ I', w = (I', J, P, S) ∧ xF 153 I I' ∧ ∀ q, q < 7 → gAt (mMt I) (mTk I np k) np to 7 (I' 153 q) q) w')) 2 [some (.ref 145), some (.int (nI t)), some (.int (nI to)), some (.int (nI j)), none, none, none] [] (I2, J, P, S) 0 0 := by
    intro m
    induction m with
    | zero => intro n I2 h; exact absurd h (Nat.not_lt_zero _)
    | succ m ih =>
      intro j I2 hm hj h1 h2
      refine z_iload_3 d_Mo_laysFar_2 ?_
      refine z_bipush (a := nI 7) d_Mo_laysFar_3 (by decide) ?_
      refine z_icmp_ge (tgt := 31) d_Mo_laysFar_5 (by decide) (fun hb => ?_) (fun hb => ?_)
      · have hb := (nI_leI (by omega) (by omega)).mp hb
        obtain rfl : j = 7 := by omega
        refine z_iconst (a := nI 0) d_Mo_laysFar_31 (by decide) ?_
        first | refine z_istore_3 d_Mo_laysFar_32 rfl ?_ | (refine z_forget_2 ?_; refine z_istore_3 d_Mo_laysFar_32 rfl ?_)
        exact l1 8 0 I2 (by omega) (by omega) h1 h2
      · have hb : j < 7 := Nat.lt_of_not_le (fun q => hb (nI_le q (by omega)))
        have rest : ∀ x, gAt (mMt I) (mTk I np k) np to 0 x j → zA G y_Mo_laysFar prog_14_method_102_code 7 none (zRm 4 0 0) (zM G 0 0 (fun r w' => r = none ∧ (fun w => ∃ I', w = (I', J, P, S) ∧ xF 153 I I' ∧ ∀ q, q < 7 → gAt (mMt I) (mTk I np k) np to 7 (I' 153 q) q) w')) 2 [some (.ref 145), some (.int (nI t)), some (.int (nI to)), some (.int (nI (j + 1))), none, none, none] [] (zu I2 153 j x, J, P, S) 0 0 := by
          intro x hx
          refine ih (j + 1) _ (by omega) (by omega) (xF_u h1) (fun q hq => ?_)
          by_cases e : q = j
          · subst e; rw [zu_same]; exact hx
          · rw [zu_ne _ _ _ _ (by omega)]; exact h2 q (by omega)
        refine z_aload_0 d_Mo_laysFar_8 ?_
        refine z_getR d_Mo_laysFar_9 f_Mo_44 (by first | assumption | exact zS0_at (by assumption) (by omega) | exact zS0_at rfl (by omega)) (by first | assumption | exact zS0_at (by assumption) (by omega) | exact zS0_at rfl (by omega)) ?_
        refine z_iload_3 d_Mo_laysFar_12 ?_
        refine z_iload_3 d_Mo_laysFar_13 ?_
        refine z_iload_2 d_Mo_laysFar_14 ?_
        refine z_icmp_ne (tgt := 22) d_Mo_laysFar_15 (by decide) (fun hc => ?_) (fun hc => ?_)
        · have q := rest (nI 99) (Or.inl ⟨rfl, fun e => hc (by have e : j = to := e; rw [e])⟩)
          refine z_bipush (a := nI 99) d_Mo_laysFar_22 (by decide) ?_
          first | refine z_iastN d_Mo_laysFar_24 (by first | assumption | exact zS0_at (by assumption) (by omega) | exact zS0_at rfl (by omega)) (by omega) (by first | decide | omega) ?_ | refine z_iast d_Mo_laysFar_24 (by first | assumption | exact zS0_at (by assumption) (by omega) | exact zS0_at rfl (by omega)) (by first | assumption | exact zS0_at (by assumption) (by omega) | exact zS0_at rfl (by omega)) ?_
          first | refine z_iinc_3 d_Mo_laysFar_25 rfl (zi_inc _) ?_ | refine z_iinc_3 d_Mo_laysFar_25 rfl rfl ?_
          refine z_goto (tgt := 2) d_Mo_laysFar_28 (by decide) ?_
          exact q
        · have hc := (nI_eq (by omega) (by omega)).mp hc
          have q := rest (nI 0) (Or.inr ⟨0, Nat.le_refl _, rfl, hc, fun m hm => absurd hm (Nat.not_lt_zero _)⟩)
          refine z_iconst (a := nI 0) d_Mo_laysFar_18 (by decide) ?_
          refine z_goto (tgt := 24) d_Mo_laysFar_19 (by decide) ?_
          first | refine z_iastN d_Mo_laysFar_24 (by first | assumption | exact zS0_at (by assumption) (by omega) | exact zS0_at rfl (by omega)) (by omega) (by first | decide | omega) ?_ | refine z_iast d_Mo_laysFar_24 (by first | assumption | exact zS0_at (by assumption) (by omega) | exact zS0_at rfl (by omega)) (by first | assumption | exact zS0_at (by assumption) (by omega) | exact zS0_at rfl (by omega)) ?_
          first | refine z_iinc_3 d_Mo_laysFar_25 rfl (zi_inc _) ?_ | refine z_iinc_3 d_Mo_laysFar_25 rfl rfl ?_
          refine z_goto (tgt := 2) d_Mo_laysFar_28 (by decide) ?_
          exact q
  refine z_iconst (a := nI 0) d_Mo_laysFar_0 (by decide) ?_
  first | refine z_istore_3 d_Mo_laysFar_1 rfl ?_ | (refine z_forget_2 ?_; refine z_istore_3 d_Mo_laysFar_1 rfl ?_)
  exact l0 8 0 I (by omega) (by omega) xF_r (fun q hq => absurd hq (Nat.not_lt_zero _))
theorem t_Tf_way_o (Z : clOk f d P S) (N : fenIn I f nt np nl nn) (h : ¬ zin a nn ∨ ¬ zin b np) : zEi G y_Tf_way prog_1_method_27_code 5 (some .int) 4 [.ref 0, .int a, .int b] (I, J, P, S) (fun r w => r = -1 ∧ cW I J P S 2 w) := by
  obtain ⟨⟨c0, c3, c1s⟩, ⟨c5, c2s, ctr⟩, ⟨c6, c11s, c11, c13s⟩, ⟨c7, c15s, c15⟩, ⟨c8, c16s, c16a, c16b, c17s⟩, ⟨c9, c10, cfd, F, Fd⟩, ⟨c11b, Ft⟩, ⟨c12, c69s, cmk⟩, ⟨c14, c121s, c121, c122s⟩, ⟨c15b, c123s, c123, c124s⟩, ⟨c16, c125s, c125, c126s⟩, ⟨c17, c127s, c127, c128s, ctb⟩, ⟨c18, c139s, c139, c140s⟩, ⟨c19, c141s, ⟨c141a, c142s⟩, ⟨c141b, c143s⟩, ⟨c141c, c144s⟩⟩, M⟩ := id Z
  refine zEi_of (lv := [some (.ref 0), some (.int a), some (.int b), none, none]) (by decide) rfl (Nat.le_of_ble_eq_true rfl) ?_
  refine z_aload_0 d_Tf_way_0 ?_
  refine z_iload_1 d_Tf_way_1 ?_
  refine z_iload_2 d_Tf_way_2 ?_
  refine z_Vi2 d_Tf_way_3 k_Tf_301 (by first | assumption | exact zS0_at (by assumption) (by omega) | exact zS0_at rfl (by omega)) (t_Tf_wayStatus_o Z N h) ⟨Nat.le_of_ble_eq_true rfl, Nat.le_of_ble_eq_true rfl, Nat.le_of_ble_eq_true rfl, Nat.le_of_ble_eq_true rfl⟩ (Nat.le_of_ble_eq_true rfl) ?_
  intro r w hq
  obtain ⟨rfl, rfl⟩ := hq
  first | refine z_istore_3 d_Tf_way_6 rfl ?_ | (refine z_forget_2 ?_; refine z_istore_3 d_Tf_way_6 rfl ?_)
  refine z_iload_3 d_Tf_way_7 ?_
  refine z_if_eq (tgt := 17) d_Tf_way_8 (by decide) (fun h8 => ?_) (fun h8 => ?_)
  · first
    | (simp (disch := omega) only [← nI_0, nI_leI, nI_ltI, nI_eq, not_true_eq_false, not_false_eq_true] at h8; done)
    | (simp (disch := omega) only [← nI_0, nI_leI, nI_ltI, nI_eq, not_true_eq_false, not_false_eq_true] at h8; omega)
    | contradiction
    | exact absurd h8 (Int32.not_lt.mpr (by assumption))
    | exact absurd h8 (Int32.not_le.mpr (by assumption))
    | exact absurd h8 (by decide)
    | exact absurd (by decide) h8
    | ( try simp (disch := omega) only [← nI_0, nI_leI, nI_ltI, nI_eq, not_true_eq_false, not_false_eq_true] at h8
        (try have h8b := zbit_n0.mp h8); (try have h8b := zbit_p0.mp h8)
        fail)
  · first
    | (simp (disch := omega) only [← nI_0, nI_leI, nI_ltI, nI_eq, not_true_eq_false, not_false_eq_true] at h8; done)
    | (simp (disch := omega) only [← nI_0, nI_leI, nI_ltI, nI_eq, not_true_eq_false, not_false_eq_true] at h8; omega)
    | contradiction
    | exact absurd h8 (Int32.not_lt.mpr (by assumption))
    | exact absurd h8 (Int32.not_le.mpr (by assumption))
    | exact absurd h8 (by decide)
    | exact absurd (by decide) h8
    | ( try simp (disch := omega) only [← nI_0, nI_leI, nI_ltI, nI_eq, not_true_eq_false, not_false_eq_true] at h8
        (try have h8b := zbit_n0.mp h8); (try have h8b := zbit_p0.mp h8)
        refine z_aload_0 d_Tf_way_11 ?_
        refine z_iload_3 d_Tf_way_12 ?_
        refine z_Vi1 d_Tf_way_13 k_Tf_138 (by first | assumption | exact zS0_at (by assumption) (by omega) | exact zS0_at rfl (by omega)) (t_Tf_fail (by assumption)) ⟨Nat.le_of_ble_eq_true rfl, Nat.le_of_ble_eq_true rfl, Nat.le_of_ble_eq_true rfl, Nat.le_of_ble_eq_true rfl⟩ (Nat.le_of_ble_eq_true rfl) ?_
        intro r w hq
        obtain ⟨rfl, rfl⟩ := hq
        refine z_reti d_Tf_way_16 ?_
        exact ⟨rfl, cW_0⟩)
theorem t_Tf_way_g (Z : clOk f d P S) (N : fenIn I f nt np nl nn) (ht : t < nn) (hg : I (f + 6) t = -1) (hq : q < np) : zEi G y_Tf_way prog_1_method_27_code 5 (some .int) 4 [.ref 0, .int (nI t), .int (nI q)] (I, J, P, S) (fun r w => r = -1 ∧ cW I J P S 9 w) := by
  obtain ⟨⟨c0, c3, c1s⟩, ⟨c5, c2s, ctr⟩, ⟨c6, c11s, c11, c13s⟩, ⟨c7, c15s, c15⟩, ⟨c8, c16s, c16a, c16b, c17s⟩, ⟨c9, c10, cfd, F, Fd⟩, ⟨c11b, Ft⟩, ⟨c12, c69s, cmk⟩, ⟨c14, c121s, c121, c122s⟩, ⟨c15b, c123s, c123, c124s⟩, ⟨c16, c125s, c125, c126s⟩, ⟨c17, c127s, c127, c128s, ctb⟩, ⟨c18, c139s, c139, c140s⟩, ⟨c19, c141s, ⟨c141a, c142s⟩, ⟨c141b, c143s⟩, ⟨c141c, c144s⟩⟩, M⟩ := id Z
  refine zEi_of (lv := [some (.ref 0), some (.int (nI t)), some (.int (nI q)), none, none]) (by decide) rfl (Nat.le_of_ble_eq_true rfl) ?_
  refine z_aload_0 d_Tf_way_0 ?_
  refine z_iload_1 d_Tf_way_1 ?_
  refine z_iload_2 d_Tf_way_2 ?_
  refine z_Vi2 d_Tf_way_3 k_Tf_301 (by first | assumption | exact zS0_at (by assumption) (by omega) | exact zS0_at rfl (by omega)) (t_Tf_wayStatus_g Z N ht hg hq) ⟨Nat.le_of_ble_eq_true rfl, Nat.le_of_ble_eq_true rfl, Nat.le_of_ble_eq_true rfl, Nat.le_of_ble_eq_true rfl⟩ (Nat.le_of_ble_eq_true rfl) ?_
  intro r w hq
  obtain ⟨rfl, rfl⟩ := hq
  first | refine z_istore_3 d_Tf_way_6 rfl ?_ | (refine z_forget_2 ?_; refine z_istore_3 d_Tf_way_6 rfl ?_)
  refine z_iload_3 d_Tf_way_7 ?_
  refine z_if_eq (tgt := 17) d_Tf_way_8 (by decide) (fun h8 => ?_) (fun h8 => ?_)
  · first
    | (simp (disch := omega) only [← nI_0, nI_leI, nI_ltI, nI_eq, not_true_eq_false, not_false_eq_true] at h8; done)
    | (simp (disch := omega) only [← nI_0, nI_leI, nI_ltI, nI_eq, not_true_eq_false, not_false_eq_true] at h8; omega)
    | contradiction
    | exact absurd h8 (Int32.not_lt.mpr (by assumption))
    | exact absurd h8 (Int32.not_le.mpr (by assumption))
    | exact absurd h8 (by decide)
    | exact absurd (by decide) h8
    | ( try simp (disch := omega) only [← nI_0, nI_leI, nI_ltI, nI_eq, not_true_eq_false, not_false_eq_true] at h8
        (try have h8b := zbit_n0.mp h8); (try have h8b := zbit_p0.mp h8)
        fail)
  · first
    | (simp (disch := omega) only [← nI_0, nI_leI, nI_ltI, nI_eq, not_true_eq_false, not_false_eq_true] at h8; done)
    | (simp (disch := omega) only [← nI_0, nI_leI, nI_ltI, nI_eq, not_true_eq_false, not_false_eq_true] at h8; omega)
    | contradiction
    | exact absurd h8 (Int32.not_lt.mpr (by assumption))
    | exact absurd h8 (Int32.not_le.mpr (by assumption))
    | exact absurd h8 (by decide)
    | exact absurd (by decide) h8
    | ( try simp (disch := omega) only [← nI_0, nI_leI, nI_ltI, nI_eq, not_true_eq_false, not_false_eq_true] at h8
        (try have h8b := zbit_n0.mp h8); (try have h8b := zbit_p0.mp h8)
        refine z_aload_0 d_Tf_way_11 ?_
        refine z_iload_3 d_Tf_way_12 ?_
        refine z_Vi1 d_Tf_way_13 k_Tf_138 (by first | assumption | exact zS0_at (by assumption) (by omega) | exact zS0_at rfl (by omega)) (t_Tf_fail (by assumption)) ⟨Nat.le_of_ble_eq_true rfl, Nat.le_of_ble_eq_true rfl, Nat.le_of_ble_eq_true rfl, Nat.le_of_ble_eq_true rfl⟩ (Nat.le_of_ble_eq_true rfl) ?_
        intro r w hq
        obtain ⟨rfl, rfl⟩ := hq
        refine z_reti d_Tf_way_16 ?_
        exact ⟨rfl, cW_0⟩)
theorem t_Tf_way_n (Z : clOk f d P S) (N : fenIn I f nt np nl nn) (ht : t < nn) (hk : I (f + 5) t = nI k) (hp : I (f + 6) t = nI p) (hp2 : p < np) (hq : q < np) (hd : s_dist (I (f + 3)) np (s_set (fun p => zB (I (f + 2) p) k) np) p q = -1) : zEi G y_Tf_way prog_1_method_27_code 5 (some .int) 4 [.ref 0, .int (nI t), .int (nI q)] (I, J, P, S) (fun r w => r = -1 ∧ cW I J P S 8 w) := by
  obtain ⟨⟨c0, c3, c1s⟩, ⟨c5, c2s, ctr⟩, ⟨c6, c11s, c11, c13s⟩, ⟨c7, c15s, c15⟩, ⟨c8, c16s, c16a, c16b, c17s⟩, ⟨c9, c10, cfd, F, Fd⟩, ⟨c11b, Ft⟩, ⟨c12, c69s, cmk⟩, ⟨c14, c121s, c121, c122s⟩, ⟨c15b, c123s, c123, c124s⟩, ⟨c16, c125s, c125, c126s⟩, ⟨c17, c127s, c127, c128s, ctb⟩, ⟨c18, c139s, c139, c140s⟩, ⟨c19, c141s, ⟨c141a, c142s⟩, ⟨c141b, c143s⟩, ⟨c141c, c144s⟩⟩, M⟩ := id Z
  obtain ⟨F0, ⟨F8, F8s⟩, ⟨F9, F9s⟩, ⟨F10, F10s⟩, ⟨F11, F11s⟩, ⟨F12, F12s⟩, ⟨F13, F13s⟩, ⟨F14, F14s⟩, ⟨F15, F15s⟩, ⟨F16, F16s⟩, ⟨F17, F17s⟩, ⟨F18, F18s⟩, ⟨F19, F19s⟩, ⟨Y3, Y3s⟩, ⟨Y4, Y4s⟩, ⟨Y5, Y5s⟩, ⟨Y6, Y6s⟩⟩ := id F
  obtain ⟨⟨n1, n1b⟩, ⟨n2, n2b⟩, ⟨n3, n3b⟩, ⟨n4, n4b⟩, nof, non⟩ := id N
  have hlt : (-1 : Int32) < 0 := by decide
  refine zEi_of (lv := [some (.ref 0), some (.int (nI t)), some (.int (nI q)), none, none]) (by decide) rfl (Nat.le_of_ble_eq_true rfl) ?_
  refine z_aload_0 d_Tf_way_0 ?_
  refine z_iload_1 d_Tf_way_1 ?_
  refine z_iload_2 d_Tf_way_2 ?_
  refine z_Vi2 d_Tf_way_3 k_Tf_301 (by first | assumption | exact zS0_at (by assumption) (by omega) | exact zS0_at rfl (by omega)) (t_Tf_wayStatus_p Z N ht hp hp2 hq) ⟨Nat.le_of_ble_eq_true rfl, Nat.le_of_ble_eq_true rfl, Nat.le_of_ble_eq_true rfl, Nat.le_of_ble_eq_true rfl⟩ (Nat.le_of_ble_eq_true rfl) ?_
  intro r w hq
  obtain ⟨rfl, rfl⟩ := hq
  first | refine z_istore_3 d_Tf_way_6 rfl ?_ | (refine z_forget_2 ?_; refine z_istore_3 d_Tf_way_6 rfl ?_)
  refine z_iload_3 d_Tf_way_7 ?_
  refine z_if_eq (tgt := 17) d_Tf_way_8 (by decide) (fun h8 => ?_) (fun h8 => ?_)
  · first
    | (simp (disch := omega) only [← nI_0, nI_leI, nI_ltI, nI_eq, not_true_eq_false, not_false_eq_true] at h8; done)
    | (simp (disch := omega) only [← nI_0, nI_leI, nI_ltI, nI_eq, not_true_eq_false, not_false_eq_true] at h8; omega)
    | contradiction
    | exact absurd h8 (Int32.not_lt.mpr (by assumption))
    | exact absurd h8 (Int32.not_le.mpr (by assumption))
    | exact absurd h8 (by decide)
    | exact absurd (by decide) h8
    | ( try simp (disch := omega) only [← nI_0, nI_leI, nI_ltI, nI_eq, not_true_eq_false, not_false_eq_true] at h8
        (try have h8b := zbit_n0.mp h8); (try have h8b := zbit_p0.mp h8)
        refine z_aload_0 d_Tf_way_17 ?_
        refine z_getR d_Tf_way_18 f_Tf_60 (by first | assumption | exact zS0_at (by assumption) (by omega) | exact zS0_at rfl (by omega)) (by first | assumption | exact zS0_at (by assumption) (by omega) | exact zS0_at rfl (by omega)) ?_
        refine z_aload_0 d_Tf_way_21 ?_
        refine z_getR d_Tf_way_22 f_Tf_60 (by first | assumption | exact zS0_at (by assumption) (by omega) | exact zS0_at rfl (by omega)) (by first | assumption | exact zS0_at (by assumption) (by omega) | exact zS0_at rfl (by omega)) ?_
        refine z_getR d_Tf_way_25 f_Tf_258 (by first | assumption | exact zS0_at (by assumption) (by omega) | exact zS0_at rfl (by omega)) (by first | assumption | exact zS0_at (by assumption) (by omega) | exact zS0_at rfl (by omega)) ?_
        refine z_iload_1 d_Tf_way_28 ?_
        first | refine z_ialdNv d_Tf_way_29 (by first | assumption | exact zS0_at (by assumption) (by omega) | exact zS0_at rfl (by omega)) (by omega) (by first | decide | omega) (by first | assumption | ((try simp (disch := omega) only [zu_same, zu_ne, zcp_ne, zfl_ne]); first | assumption | rfl)) ?_ | refine z_iald d_Tf_way_29 (by first | assumption | exact zS0_at (by assumption) (by omega) | exact zS0_at rfl (by omega)) (by first | assumption | exact zS0_at (by assumption) (by omega) | exact zS0_at rfl (by omega)) ?_
        refine z_iload_2 d_Tf_way_30 ?_
        refine z_aload_0 d_Tf_way_31 ?_
        refine z_getR d_Tf_way_32 f_Tf_60 (by first | assumption | exact zS0_at (by assumption) (by omega) | exact zS0_at rfl (by omega)) (by first | assumption | exact zS0_at (by assumption) (by omega) | exact zS0_at rfl (by omega)) ?_
        refine z_iload_1 d_Tf_way_35 ?_
        refine z_Vi1 d_Tf_way_36 k_Tf_304 (by first | assumption | exact zS0_at (by assumption) (by omega) | exact zS0_at rfl (by omega)) (t_Fen_believersIn (by assumption) (by assumption) (by omega) (by assumption)) ⟨Nat.le_of_ble_eq_true rfl, Nat.le_of_ble_eq_true rfl, Nat.le_of_ble_eq_true rfl, Nat.le_of_ble_eq_true rfl⟩ (Nat.le_of_ble_eq_true rfl) ?_
        intro r w hq
        obtain ⟨rfl, rfl⟩ := hq
        refine z_Si4 d_Tf_way_39 k_Tf_307 (t_Rows_distance F N) ⟨Nat.le_of_ble_eq_true rfl, Nat.le_of_ble_eq_true rfl, Nat.le_of_ble_eq_true rfl, Nat.le_of_ble_eq_true rfl⟩ (Nat.le_of_ble_eq_true rfl) ?_
        intro r w hq
        obtain ⟨rfl, rfl⟩ := hq
        rw [hd]
        first | refine z_istore_4 d_Tf_way_42 rfl ?_ | (refine z_forget_3 ?_; refine z_istore_4 d_Tf_way_42 rfl ?_)
        refine z_iload_4 d_Tf_way_44 ?_
        refine z_if_ge (tgt := 58) d_Tf_way_46 (by decide) (fun h46 => ?_) (fun h46 => ?_)
        · first
          | (simp (disch := omega) only [← nI_0, nI_leI, nI_ltI, nI_eq, not_true_eq_false, not_false_eq_true] at h46; done)
          | (simp (disch := omega) only [← nI_0, nI_leI, nI_ltI, nI_eq, not_true_eq_false, not_false_eq_true] at h46; omega)
          | contradiction
          | exact absurd h46 (Int32.not_lt.mpr (by assumption))
          | exact absurd h46 (Int32.not_le.mpr (by assumption))
          | exact absurd h46 (by decide)
          | exact absurd (by decide) h46
          | ( try simp (disch := omega) only [← nI_0, nI_leI, nI_ltI, nI_eq, not_true_eq_false, not_false_eq_true] at h46
              (try have h46b := zbit_n0.mp h46); (try have h46b := zbit_p0.mp h46)
              refine z_aload_0 d_Tf_way_58 ?_
              refine z_iload_4 d_Tf_way_59 ?_
              refine z_Vi1 d_Tf_way_61 k_Tf_174 (by first | assumption | exact zS0_at (by assumption) (by omega) | exact zS0_at rfl (by omega)) (t_Tf_give (by assumption)) ⟨Nat.le_of_ble_eq_true rfl, Nat.le_of_ble_eq_true rfl, Nat.le_of_ble_eq_true rfl, Nat.le_of_ble_eq_true rfl⟩ (Nat.le_of_ble_eq_true rfl) ?_
              intro r w hq
              obtain ⟨rfl, rfl⟩ := hq
              refine z_reti d_Tf_way_64 ?_
              exact ⟨rfl, cW_0⟩)
        · first
          | (simp (disch := omega) only [← nI_0, nI_leI, nI_ltI, nI_eq, not_true_eq_false, not_false_eq_true] at h46; done)
          | (simp (disch := omega) only [← nI_0, nI_leI, nI_ltI, nI_eq, not_true_eq_false, not_false_eq_true] at h46; omega)
          | contradiction
          | exact absurd h46 (Int32.not_lt.mpr (by assumption))
          | exact absurd h46 (Int32.not_le.mpr (by assumption))
          | exact absurd h46 (by decide)
          | exact absurd (by decide) h46
          | ( try simp (disch := omega) only [← nI_0, nI_leI, nI_ltI, nI_eq, not_true_eq_false, not_false_eq_true] at h46
              (try have h46b := zbit_n0.mp h46); (try have h46b := zbit_p0.mp h46)
              refine z_aload_0 d_Tf_way_49 ?_
              refine z_bipush (a := nI 8) d_Tf_way_50 (by decide) ?_
              refine z_Vi1 d_Tf_way_52 k_Tf_138 (by first | assumption | exact zS0_at (by assumption) (by omega) | exact zS0_at rfl (by omega)) (t_Tf_fail (by assumption)) ⟨Nat.le_of_ble_eq_true rfl, Nat.le_of_ble_eq_true rfl, Nat.le_of_ble_eq_true rfl, Nat.le_of_ble_eq_true rfl⟩ (Nat.le_of_ble_eq_true rfl) ?_
              intro r w hq
              obtain ⟨rfl, rfl⟩ := hq
              refine z_goto (tgt := 64) d_Tf_way_55 (by decide) ?_
              refine z_reti d_Tf_way_64 ?_
              exact ⟨rfl, cW_0⟩))
  · first
    | (simp (disch := omega) only [← nI_0, nI_leI, nI_ltI, nI_eq, not_true_eq_false, not_false_eq_true] at h8; done)
    | (simp (disch := omega) only [← nI_0, nI_leI, nI_ltI, nI_eq, not_true_eq_false, not_false_eq_true] at h8; omega)
    | contradiction
    | exact absurd h8 (Int32.not_lt.mpr (by assumption))
    | exact absurd h8 (Int32.not_le.mpr (by assumption))
    | exact absurd h8 (by decide)
    | exact absurd (by decide) h8
    | ( try simp (disch := omega) only [← nI_0, nI_leI, nI_ltI, nI_eq, not_true_eq_false, not_false_eq_true] at h8
        (try have h8b := zbit_n0.mp h8); (try have h8b := zbit_p0.mp h8)
        refine z_aload_0 d_Tf_way_11 ?_
        refine z_iload_3 d_Tf_way_12 ?_
        refine z_Vi1 d_Tf_way_13 k_Tf_138 (by first | assumption | exact zS0_at (by assumption) (by omega) | exact zS0_at rfl (by omega)) (t_Tf_fail (by assumption)) ⟨Nat.le_of_ble_eq_true rfl, Nat.le_of_ble_eq_true rfl, Nat.le_of_ble_eq_true rfl, Nat.le_of_ble_eq_true rfl⟩ (Nat.le_of_ble_eq_true rfl) ?_
        intro r w hq
        obtain ⟨rfl, rfl⟩ := hq
        refine z_reti d_Tf_way_16 ?_
        exact ⟨rfl, cW_0⟩)
theorem t_Tf_way (Z : clOk f d P S) (N : fenIn I f nt np nl nn) (ht : t < nn) (hk : I (f + 5) t = nI k) (hp : I (f + 6) t = nI p) (hp2 : p < np) (hq : q < np) {e : Nat} (he : e < 7) (hd : s_dist (I (f + 3)) np (s_set (fun p => zB (I (f + 2) p) k) np) p q = nI e) : zEi G y_Tf_way prog_1_method_27_code 5 (some .int) 4 [.ref 0, .int (nI t), .int (nI q)] (I, J, P, S) (fun r w => r = nI e ∧ cW I J P S 0 w) := by
  obtain ⟨⟨c0, c3, c1s⟩, ⟨c5, c2s, ctr⟩, ⟨c6, c11s, c11, c13s⟩, ⟨c7, c15s, c15⟩, ⟨c8, c16s, c16a, c16b, c17s⟩, ⟨c9, c10, cfd, F, Fd⟩, ⟨c11b, Ft⟩, ⟨c12, c69s, cmk⟩, ⟨c14, c121s, c121, c122s⟩, ⟨c15b, c123s, c123, c124s⟩, ⟨c16, c125s, c125, c126s⟩, ⟨c17, c127s, c127, c128s, ctb⟩, ⟨c18, c139s, c139, c140s⟩, ⟨c19, c141s, ⟨c141a, c142s⟩, ⟨c141b, c143s⟩, ⟨c141c, c144s⟩⟩, M⟩ := id Z
  obtain ⟨F0, ⟨F8, F8s⟩, ⟨F9, F9s⟩, ⟨F10, F10s⟩, ⟨F11, F11s⟩, ⟨F12, F12s⟩, ⟨F13, F13s⟩, ⟨F14, F14s⟩, ⟨F15, F15s⟩, ⟨F16, F16s⟩, ⟨F17, F17s⟩, ⟨F18, F18s⟩, ⟨F19, F19s⟩, ⟨Y3, Y3s⟩, ⟨Y4, Y4s⟩, ⟨Y5, Y5s⟩, ⟨Y6, Y6s⟩⟩ := id F
  obtain ⟨⟨n1, n1b⟩, ⟨n2, n2b⟩, ⟨n3, n3b⟩, ⟨n4, n4b⟩, nof, non⟩ := id N
  have hlt : ¬ nI e < 0 := nI_pos (by omega)
  refine zEi_of (lv := [some (.ref 0), some (.int (nI t)), some (.int (nI q)), none, none]) (by decide) rfl (Nat.le_of_ble_eq_true rfl) ?_
  refine z_aload_0 d_Tf_way_0 ?_
  refine z_iload_1 d_Tf_way_1 ?_
  refine z_iload_2 d_Tf_way_2 ?_
  refine z_Vi2 d_Tf_way_3 k_Tf_301 (by first | assumption | exact zS0_at (by assumption) (by omega) | exact zS0_at rfl (by omega)) (t_Tf_wayStatus_p Z N ht hp hp2 hq) ⟨Nat.le_of_ble_eq_true rfl, Nat.le_of_ble_eq_true rfl, Nat.le_of_ble_eq_true rfl, Nat.le_of_ble_eq_true rfl⟩ (Nat.le_of_ble_eq_true rfl) ?_
  intro r w hq
  obtain ⟨rfl, rfl⟩ := hq
  first | refine z_istore_3 d_Tf_way_6 rfl ?_ | (refine z_forget_2 ?_; refine z_istore_3 d_Tf_way_6 rfl ?_)
  refine z_iload_3 d_Tf_way_7 ?_
  refine z_if_eq (tgt := 17) d_Tf_way_8 (by decide) (fun h8 => ?_) (fun h8 => ?_)
  · first
    | (simp (disch := omega) only [← nI_0, nI_leI, nI_ltI, nI_eq, not_true_eq_false, not_false_eq_true] at h8; done)
    | (simp (disch := omega) only [← nI_0, nI_leI, nI_ltI, nI_eq, not_true_eq_false, not_false_eq_true] at h8; omega)
    | contradiction
    | exact absurd h8 (Int32.not_lt.mpr (by assumption))
    | exact absurd h8 (Int32.not_le.mpr (by assumption))
    | exact absurd h8 (by decide)
    | exact absurd (by decide) h8
    | ( try simp (disch := omega) only [← nI_0, nI_leI, nI_ltI, nI_eq, not_true_eq_false, not_false_eq_true] at h8
        (try have h8b := zbit_n0.mp h8); (try have h8b := zbit_p0.mp h8)
        refine z_aload_0 d_Tf_way_17 ?_
        refine z_getR d_Tf_way_18 f_Tf_60 (by first | assumption | exact zS0_at (by assumption) (by omega) | exact zS0_at rfl (by omega)) (by first | assumption | exact zS0_at (by assumption) (by omega) | exact zS0_at rfl (by omega)) ?_
        refine z_aload_0 d_Tf_way_21 ?_
        refine z_getR d_Tf_way_22 f_Tf_60 (by first | assumption | exact zS0_at (by assumption) (by omega) | exact zS0_at rfl (by omega)) (by first | assumption | exact zS0_at (by assumption) (by omega) | exact zS0_at rfl (by omega)) ?_
        refine z_getR d_Tf_way_25 f_Tf_258 (by first | assumption | exact zS0_at (by assumption) (by omega) | exact zS0_at rfl (by omega)) (by first | assumption | exact zS0_at (by assumption) (by omega) | exact zS0_at rfl (by omega)) ?_
        refine z_iload_1 d_Tf_way_28 ?_
        first | refine z_ialdNv d_Tf_way_29 (by first | assumption | exact zS0_at (by assumption) (by omega) | exact zS0_at rfl (by omega)) (by omega) (by first | decide | omega) (by first | assumption | ((try simp (disch := omega) only [zu_same, zu_ne, zcp_ne, zfl_ne]); first | assumption | rfl)) ?_ | refine z_iald d_Tf_way_29 (by first | assumption | exact zS0_at (by assumption) (by omega) | exact zS0_at rfl (by omega)) (by first | assumption | exact zS0_at (by assumption) (by omega) | exact zS0_at rfl (by omega)) ?_
        refine z_iload_2 d_Tf_way_30 ?_
        refine z_aload_0 d_Tf_way_31 ?_
        refine z_getR d_Tf_way_32 f_Tf_60 (by first | assumption | exact zS0_at (by assumption) (by omega) | exact zS0_at rfl (by omega)) (by first | assumption | exact zS0_at (by assumption) (by omega) | exact zS0_at rfl (by omega)) ?_
        refine z_iload_1 d_Tf_way_35 ?_
        refine z_Vi1 d_Tf_way_36 k_Tf_304 (by first | assumption | exact zS0_at (by assumption) (by omega) | exact zS0_at rfl (by omega)) (t_Fen_believersIn (by assumption) (by assumption) (by omega) (by assumption)) ⟨Nat.le_of_ble_eq_true rfl, Nat.le_of_ble_eq_true rfl, Nat.le_of_ble_eq_true rfl, Nat.le_of_ble_eq_true rfl⟩ (Nat.le_of_ble_eq_true rfl) ?_
        intro r w hq
        obtain ⟨rfl, rfl⟩ := hq
        refine z_Si4 d_Tf_way_39 k_Tf_307 (t_Rows_distance F N) ⟨Nat.le_of_ble_eq_true rfl, Nat.le_of_ble_eq_true rfl, Nat.le_of_ble_eq_true rfl, Nat.le_of_ble_eq_true rfl⟩ (Nat.le_of_ble_eq_true rfl) ?_
        intro r w hq
        obtain ⟨rfl, rfl⟩ := hq
        rw [hd]
        first | refine z_istore_4 d_Tf_way_42 rfl ?_ | (refine z_forget_3 ?_; refine z_istore_4 d_Tf_way_42 rfl ?_)
        refine z_iload_4 d_Tf_way_44 ?_
        refine z_if_ge (tgt := 58) d_Tf_way_46 (by decide) (fun h46 => ?_) (fun h46 => ?_)
        · first
          | (simp (disch := omega) only [← nI_0, nI_leI, nI_ltI, nI_eq, not_true_eq_false, not_false_eq_true] at h46; done)
          | (simp (disch := omega) only [← nI_0, nI_leI, nI_ltI, nI_eq, not_true_eq_false, not_false_eq_true] at h46; omega)
          | contradiction
          | exact absurd h46 (Int32.not_lt.mpr (by assumption))
          | exact absurd h46 (Int32.not_le.mpr (by assumption))
          | exact absurd h46 (by decide)
          | exact absurd (by decide) h46
          | ( try simp (disch := omega) only [← nI_0, nI_leI, nI_ltI, nI_eq, not_true_eq_false, not_false_eq_true] at h46
              (try have h46b := zbit_n0.mp h46); (try have h46b := zbit_p0.mp h46)
              refine z_aload_0 d_Tf_way_58 ?_
              refine z_iload_4 d_Tf_way_59 ?_
              refine z_Vi1 d_Tf_way_61 k_Tf_174 (by first | assumption | exact zS0_at (by assumption) (by omega) | exact zS0_at rfl (by omega)) (t_Tf_give (by assumption)) ⟨Nat.le_of_ble_eq_true rfl, Nat.le_of_ble_eq_true rfl, Nat.le_of_ble_eq_true rfl, Nat.le_of_ble_eq_true rfl⟩ (Nat.le_of_ble_eq_true rfl) ?_
              intro r w hq
              obtain ⟨rfl, rfl⟩ := hq
              refine z_reti d_Tf_way_64 ?_
              exact ⟨rfl, cW_0⟩)
        · first
          | (simp (disch := omega) only [← nI_0, nI_leI, nI_ltI, nI_eq, not_true_eq_false, not_false_eq_true] at h46; done)
          | (simp (disch := omega) only [← nI_0, nI_leI, nI_ltI, nI_eq, not_true_eq_false, not_false_eq_true] at h46; omega)
          | contradiction
          | exact absurd h46 (Int32.not_lt.mpr (by assumption))
          | exact absurd h46 (Int32.not_le.mpr (by assumption))
          | exact absurd h46 (by decide)
          | exact absurd (by decide) h46
          | ( try simp (disch := omega) only [← nI_0, nI_leI, nI_ltI, nI_eq, not_true_eq_false, not_false_eq_true] at h46
              (try have h46b := zbit_n0.mp h46); (try have h46b := zbit_p0.mp h46)
              refine z_aload_0 d_Tf_way_49 ?_
              refine z_bipush (a := nI 8) d_Tf_way_50 (by decide) ?_
              refine z_Vi1 d_Tf_way_52 k_Tf_138 (by first | assumption | exact zS0_at (by assumption) (by omega) | exact zS0_at rfl (by omega)) (t_Tf_fail (by assumption)) ⟨Nat.le_of_ble_eq_true rfl, Nat.le_of_ble_eq_true rfl, Nat.le_of_ble_eq_true rfl, Nat.le_of_ble_eq_true rfl⟩ (Nat.le_of_ble_eq_true rfl) ?_
              intro r w hq
              obtain ⟨rfl, rfl⟩ := hq
              refine z_goto (tgt := 64) d_Tf_way_55 (by decide) ?_
              refine z_reti d_Tf_way_64 ?_
              exact ⟨rfl, cW_0⟩))
  · first
    | (simp (disch := omega) only [← nI_0, nI_leI, nI_ltI, nI_eq, not_true_eq_false, not_false_eq_true] at h8; done)
    | (simp (disch := omega) only [← nI_0, nI_leI, nI_ltI, nI_eq, not_true_eq_false, not_false_eq_true] at h8; omega)
    | contradiction
    | exact absurd h8 (Int32.not_lt.mpr (by assumption))
    | exact absurd h8 (Int32.not_le.mpr (by assumption))
    | exact absurd h8 (by decide)
    | exact absurd (by decide) h8
    | ( try simp (disch := omega) only [← nI_0, nI_leI, nI_ltI, nI_eq, not_true_eq_false, not_false_eq_true] at h8
        (try have h8b := zbit_n0.mp h8); (try have h8b := zbit_p0.mp h8)
        refine z_aload_0 d_Tf_way_11 ?_
        refine z_iload_3 d_Tf_way_12 ?_
        refine z_Vi1 d_Tf_way_13 k_Tf_138 (by first | assumption | exact zS0_at (by assumption) (by omega) | exact zS0_at rfl (by omega)) (t_Tf_fail (by assumption)) ⟨Nat.le_of_ble_eq_true rfl, Nat.le_of_ble_eq_true rfl, Nat.le_of_ble_eq_true rfl, Nat.le_of_ble_eq_true rfl⟩ (Nat.le_of_ble_eq_true rfl) ?_
        intro r w hq
        obtain ⟨rfl, rfl⟩ := hq
        refine z_reti d_Tf_way_16 ?_
        exact ⟨rfl, cW_0⟩)
theorem t_Mo_way_o (M : modOk P S) (N : modIn I nt np nl nn) (h : ¬ zin a nn ∨ ¬ zin b np) : zEi G y_Mo_way prog_14_method_104_code 4 (some .int) 5 [.ref 145, .int a, .int b] (I, J, P, S) (fun r w => r = -1 ∧ mW I J P S 2 w) := by
  obtain ⟨M0, ⟨M4, M4s⟩, ⟨M5, M5s⟩, ⟨M6, M6s⟩, ⟨M7, M7s⟩, ⟨M20, M20s⟩, ⟨M21, M21s⟩, ⟨M22, M22s⟩, ⟨M26, M26s⟩, ⟨M27, M27s⟩, ⟨M28, M28s⟩, ⟨M30, M30s⟩, ⟨M34, M34s⟩, ⟨M36, M36s⟩, ⟨M37, M37s⟩⟩ := id M
  refine zEi_of (lv := [some (.ref 145), some (.int a), some (.int b), none]) (by decide) rfl (Nat.le_of_ble_eq_true rfl) ?_
  refine z_aload_0 d_Mo_way_0 ?_
  refine z_iconst (a := nI 0) d_Mo_way_1 (by decide) ?_
  refine z_putI d_Mo_way_2 f_Mo_70 (by first | assumption | exact zS0_at (by assumption) (by omega) | exact zS0_at rfl (by omega)) ?_
  refine z_aload_0 d_Mo_way_5 ?_
  refine z_aload_0 d_Mo_way_6 ?_
  refine z_iload_1 d_Mo_way_7 ?_
  refine z_iload_2 d_Mo_way_8 ?_
  refine z_Vi2 d_Mo_way_9 k_Mo_374 (by first | assumption | exact zS0_at (by assumption) (by omega) | exact zS0_at rfl (by omega)) (t_Mo_whyNoWay_o M (modIn_z N) h) ⟨Nat.le_of_ble_eq_true rfl, Nat.le_of_ble_eq_true rfl, Nat.le_of_ble_eq_true rfl, Nat.le_of_ble_eq_true rfl⟩ (Nat.le_of_ble_eq_true rfl) ?_
  intro r w hq
  obtain ⟨rfl, rfl⟩ := hq
  refine z_putI d_Mo_way_12 f_Mo_73 (by first | assumption | exact zS0_at (by assumption) (by omega) | exact zS0_at rfl (by omega)) ?_
  refine z_aload_0 d_Mo_way_15 ?_
  refine z_getIv d_Mo_way_16 f_Mo_73 (by first | assumption | exact zS0_at (by assumption) (by omega) | exact zS0_at rfl (by omega)) (by first | assumption | ((try simp (disch := omega) only [zu_same, zu_ne, zcp_ne, zfl_ne]); first | assumption | rfl)) ?_
  refine z_if_le (tgt := 24) d_Mo_way_19 (by decide) (fun h19 => ?_) (fun h19 => ?_)
  · first
    | (simp (disch := omega) only [← nI_0, nI_leI, nI_ltI, nI_eq, not_true_eq_false, not_false_eq_true] at h19; done)
    | (simp (disch := omega) only [← nI_0, nI_leI, nI_ltI, nI_eq, not_true_eq_false, not_false_eq_true] at h19; omega)
    | contradiction
    | exact absurd h19 (Int32.not_lt.mpr (by assumption))
    | exact absurd h19 (Int32.not_le.mpr (by assumption))
    | exact absurd h19 (by decide)
    | exact absurd (by decide) h19
    | ( try simp (disch := omega) only [← nI_0, nI_leI, nI_ltI, nI_eq, not_true_eq_false, not_false_eq_true] at h19
        (try have h19b := zbit_n0.mp h19); (try have h19b := zbit_p0.mp h19)
        fail)
  · first
    | (simp (disch := omega) only [← nI_0, nI_leI, nI_ltI, nI_eq, not_true_eq_false, not_false_eq_true] at h19; done)
    | (simp (disch := omega) only [← nI_0, nI_leI, nI_ltI, nI_eq, not_true_eq_false, not_false_eq_true] at h19; omega)
    | contradiction
    | exact absurd h19 (Int32.not_lt.mpr (by assumption))
    | exact absurd h19 (Int32.not_le.mpr (by assumption))
    | exact absurd h19 (by decide)
    | exact absurd (by decide) h19
    | ( try simp (disch := omega) only [← nI_0, nI_leI, nI_ltI, nI_eq, not_true_eq_false, not_false_eq_true] at h19
        (try have h19b := zbit_n0.mp h19); (try have h19b := zbit_p0.mp h19)
        refine z_iconst (a := -1) d_Mo_way_22 (by decide) ?_
        refine z_reti d_Mo_way_23 ?_
        exact ⟨rfl, _, _, rfl, mqF_z (mqF_z mqF_r (by decide)) (by decide), mqJ_r, zu_same _ _ _ _⟩)
theorem t_Mo_way_g (M : modOk P S) (N : modIn I nt np nl nn) (ht : t < nn) (hg : I 150 (42 + t) = -1) (hq : q < np) : zEi G y_Mo_way prog_14_method_104_code 4 (some .int) 5 [.ref 145, .int (nI t), .int (nI q)] (I, J, P, S) (fun r w => r = -1 ∧ mW I J P S 9 w) := by
  obtain ⟨M0, ⟨M4, M4s⟩, ⟨M5, M5s⟩, ⟨M6, M6s⟩, ⟨M7, M7s⟩, ⟨M20, M20s⟩, ⟨M21, M21s⟩, ⟨M22, M22s⟩, ⟨M26, M26s⟩, ⟨M27, M27s⟩, ⟨M28, M28s⟩, ⟨M30, M30s⟩, ⟨M34, M34s⟩, ⟨M36, M36s⟩, ⟨M37, M37s⟩⟩ := id M
  have hg' : zu I 145 1 (nI 0) 150 (42 + t) = -1 := by rw [zu_row _ _ _ _ (by decide)]; exact hg
  refine zEi_of (lv := [some (.ref 145), some (.int (nI t)), some (.int (nI q)), none]) (by decide) rfl (Nat.le_of_ble_eq_true rfl) ?_
  refine z_aload_0 d_Mo_way_0 ?_
  refine z_iconst (a := nI 0) d_Mo_way_1 (by decide) ?_
  refine z_putI d_Mo_way_2 f_Mo_70 (by first | assumption | exact zS0_at (by assumption) (by omega) | exact zS0_at rfl (by omega)) ?_
  refine z_aload_0 d_Mo_way_5 ?_
  refine z_aload_0 d_Mo_way_6 ?_
  refine z_iload_1 d_Mo_way_7 ?_
  refine z_iload_2 d_Mo_way_8 ?_
  refine z_Vi2 d_Mo_way_9 k_Mo_374 (by first | assumption | exact zS0_at (by assumption) (by omega) | exact zS0_at rfl (by omega)) (t_Mo_whyNoWay_g M (modIn_z N) ht hg' hq) ⟨Nat.le_of_ble_eq_true rfl, Nat.le_of_ble_eq_true rfl, Nat.le_of_ble_eq_true rfl, Nat.le_of_ble_eq_true rfl⟩ (Nat.le_of_ble_eq_true rfl) ?_
  intro r w hq
  obtain ⟨rfl, rfl⟩ := hq
  refine z_putI d_Mo_way_12 f_Mo_73 (by first | assumption | exact zS0_at (by assumption) (by omega) | exact zS0_at rfl (by omega)) ?_
  refine z_aload_0 d_Mo_way_15 ?_
  refine z_getIv d_Mo_way_16 f_Mo_73 (by first | assumption | exact zS0_at (by assumption) (by omega) | exact zS0_at rfl (by omega)) (by first | assumption | ((try simp (disch := omega) only [zu_same, zu_ne, zcp_ne, zfl_ne]); first | assumption | rfl)) ?_
  refine z_if_le (tgt := 24) d_Mo_way_19 (by decide) (fun h19 => ?_) (fun h19 => ?_)
  · first
    | (simp (disch := omega) only [← nI_0, nI_leI, nI_ltI, nI_eq, not_true_eq_false, not_false_eq_true] at h19; done)
    | (simp (disch := omega) only [← nI_0, nI_leI, nI_ltI, nI_eq, not_true_eq_false, not_false_eq_true] at h19; omega)
    | contradiction
    | exact absurd h19 (Int32.not_lt.mpr (by assumption))
    | exact absurd h19 (Int32.not_le.mpr (by assumption))
    | exact absurd h19 (by decide)
    | exact absurd (by decide) h19
    | ( try simp (disch := omega) only [← nI_0, nI_leI, nI_ltI, nI_eq, not_true_eq_false, not_false_eq_true] at h19
        (try have h19b := zbit_n0.mp h19); (try have h19b := zbit_p0.mp h19)
        fail)
  · first
    | (simp (disch := omega) only [← nI_0, nI_leI, nI_ltI, nI_eq, not_true_eq_false, not_false_eq_true] at h19; done)
    | (simp (disch := omega) only [← nI_0, nI_leI, nI_ltI, nI_eq, not_true_eq_false, not_false_eq_true] at h19; omega)
    | contradiction
    | exact absurd h19 (Int32.not_lt.mpr (by assumption))
    | exact absurd h19 (Int32.not_le.mpr (by assumption))
    | exact absurd h19 (by decide)
    | exact absurd (by decide) h19
    | ( try simp (disch := omega) only [← nI_0, nI_leI, nI_ltI, nI_eq, not_true_eq_false, not_false_eq_true] at h19
        (try have h19b := zbit_n0.mp h19); (try have h19b := zbit_p0.mp h19)
        refine z_iconst (a := -1) d_Mo_way_22 (by decide) ?_
        refine z_reti d_Mo_way_23 ?_
        exact ⟨rfl, _, _, rfl, mqF_z (mqF_z mqF_r (by decide)) (by decide), mqJ_r, zu_same _ _ _ _⟩)
theorem gAt_7 (hn : np ≤ 7) (ht : in7 tk) (hp : p < 7) (hto : to < 32) (h : gAt mt tk np to 7 x p) : (x = nI 99 ∧ ∀ n, ¬ gP mt tk np n p to) ∨ ∃ m, m < 7 ∧ x = nI m ∧ gD mt tk np m p to := by
  rcases h with ⟨h1, h2⟩ | ⟨m, h1, h2, h3⟩
  · refine Or.inl ⟨h1, fun n hg => ?_⟩
    rcases dist_eq (mt := mt) (tk := tk) hp hn hto ht with ⟨-, h⟩ | ⟨d, d1, -, d2⟩
    · exact h n hg
    · exact h2 (gP_m d2.1 (by omega))
  · refine Or.inr ⟨m, ?_, h2, h3⟩
    rcases Nat.lt_or_ge m 7 with h | h
    · exact h
    · obtain rfl : m = 7 := by omega
      exact absurd (gP_7 hn ht hp hto h3.1) (h3.2 6 (by omega))
theorem t_Mo_way (M : modOk P S) (N : modIn I nt np nl nn) (ht : t < nn) (hk : I 150 (33 + t) = nI k) (hp : I 150 (42 + t) = nI p) (hp2 : p < np) (hq : q < np) : zEi G y_Mo_way prog_14_method_104_code 4 (some .int) 5 [.ref 145, .int (nI t), .int (nI q)] (I, J, P, S) (fun r w => ((∀ n, ¬ gP (mMt I) (mTk I np k) np n p q) ∧ r = -1 ∧ mW I J P S 8 w) ∨ ∃ m, m < 7 ∧ gD (mMt I) (mTk I np k) np m p q ∧ r = nI m ∧ mW I J P S 0 w) := by
  obtain ⟨M0, ⟨M4, M4s⟩, ⟨M5, M5s⟩, ⟨M6, M6s⟩, ⟨M7, M7s⟩, ⟨M20, M20s⟩, ⟨M21, M21s⟩, ⟨M22, M22s⟩, ⟨M26, M26s⟩, ⟨M27, M27s⟩, ⟨M28, M28s⟩, ⟨M30, M30s⟩, ⟨M34, M34s⟩, ⟨M36, M36s⟩, ⟨M37, M37s⟩⟩ := id M
  obtain ⟨I1, hI1, N1, h1, h0, e150, er, ek⟩ := mo_beg N
  obtain ⟨⟨m0, m0b⟩, ⟨m1, m1b⟩, ⟨m2, m2b⟩, ⟨m3, m3b⟩, mof, mon⟩ := id N
  have hp' : zu I 145 1 (nI 0) 150 (42 + t) = nI p := by rw [zu_row _ _ _ _ (by decide)]; exact hp
  have hp1 : I1 150 (42 + t) = nI p := by rw [e150]; exact hp
  have hk1 : I1 150 (33 + t) = nI k := by rw [e150]; exact hk
  refine zEi_of (lv := [some (.ref 145), some (.int (nI t)), some (.int (nI q)), none]) (by decide) rfl (Nat.le_of_ble_eq_true rfl) ?_
  refine z_aload_0 d_Mo_way_0 ?_
  refine z_iconst (a := nI 0) d_Mo_way_1 (by decide) ?_
  refine z_putI d_Mo_way_2 f_Mo_70 (by first | assumption | exact zS0_at (by assumption) (by omega) | exact zS0_at rfl (by omega)) ?_
  refine z_aload_0 d_Mo_way_5 ?_
  refine z_aload_0 d_Mo_way_6 ?_
  refine z_iload_1 d_Mo_way_7 ?_
  refine z_iload_2 d_Mo_way_8 ?_
  refine z_Vi2 d_Mo_way_9 k_Mo_374 (by first | assumption | exact zS0_at (by assumption) (by omega) | exact zS0_at rfl (by omega)) (t_Mo_whyNoWay_p M (modIn_z N) ht hp' hp2 hq) ⟨Nat.le_of_ble_eq_true rfl, Nat.le_of_ble_eq_true rfl, Nat.le_of_ble_eq_true rfl, Nat.le_of_ble_eq_true rfl⟩ (Nat.le_of_ble_eq_true rfl) ?_
  intro r w hq
  obtain ⟨rfl, rfl⟩ := hq
  refine z_putI d_Mo_way_12 f_Mo_73 (by first | assumption | exact zS0_at (by assumption) (by omega) | exact zS0_at rfl (by omega)) ?_
  rw [← hI1]
  refine z_aload_0 d_Mo_way_15 ?_
  refine z_getIv d_Mo_way_16 f_Mo_73 (by first | assumption | exact zS0_at (by assumption) (by omega) | exact zS0_at rfl (by omega)) (by first | assumption | ((try simp (disch := omega) only [zu_same, zu_ne, zcp_ne, zfl_ne]); first | assumption | rfl)) ?_
  refine z_if_le (tgt := 24) d_Mo_way_19 (by decide) (fun _ => ?_) (fun h => absurd (by decide) h)
  refine z_aload_0 d_Mo_way_24 ?_
  refine z_iload_1 d_Mo_way_25 ?_
  refine z_iload_2 d_Mo_way_26 ?_
  refine z_Vv2 d_Mo_way_27 k_Mo_377 (by first | assumption | exact zS0_at (by assumption) (by omega) | exact zS0_at rfl (by omega)) (t_Mo_laysFar M N1 (by omega) hk1 hq) ⟨Nat.le_of_ble_eq_true rfl, Nat.le_of_ble_eq_true rfl, Nat.le_of_ble_eq_true rfl, Nat.le_of_ble_eq_true rfl⟩ (Nat.le_of_ble_eq_true rfl) ?_
  rintro w ⟨I2, rfl, g1, g2⟩
  rw [mMt_c e150, mTk_c e150] at g2
  have hp3 : I2 150 (42 + t) = nI p := by rw [g1 150 (by decide)]; exact hp1
  have f2 : mqF I I2 := mqF_t h1 (xF_m g1 (by omega))
  have s2 : I2 145 0 = nI 0 := by rw [g1 145 (by decide)]; exact h0
  rcases gAt_7 m1b (in7_set m1b) (show p < 7 by omega) (show q < 32 by omega) (g2 p (by omega)) with ⟨hx, hn⟩ | ⟨m, hm, hx, hd⟩
  · refine z_aload_0 d_Mo_way_30 ?_
    refine z_getR d_Mo_way_31 f_Mo_44 (by first | assumption | exact zS0_at (by assumption) (by omega) | exact zS0_at rfl (by omega)) (by first | assumption | exact zS0_at (by assumption) (by omega) | exact zS0_at rfl (by omega)) ?_
    refine z_aload_0 d_Mo_way_34 ?_
    refine z_getR d_Mo_way_35 f_Mo_35 (by first | assumption | exact zS0_at (by assumption) (by omega) | exact zS0_at rfl (by omega)) (by first | assumption | exact zS0_at (by assumption) (by omega) | exact zS0_at rfl (by omega)) ?_
    refine z_bipush (a := nI 42) d_Mo_way_38 (by decide) ?_
    refine z_iload_1 d_Mo_way_40 ?_
    first | refine z_iaddN d_Mo_way_41 ?_ | refine z_iadd d_Mo_way_41 ?_
    first | refine z_ialdNv d_Mo_way_42 (by first | assumption | exact zS0_at (by assumption) (by omega) | exact zS0_at rfl (by omega)) (by omega) (by first | decide | omega) (by first | assumption | ((try simp (disch := omega) only [zu_same, zu_ne, zcp_ne, zfl_ne]); first | assumption | rfl)) ?_ | refine z_iald d_Mo_way_42 (by first | assumption | exact zS0_at (by assumption) (by omega) | exact zS0_at rfl (by omega)) (by first | assumption | exact zS0_at (by assumption) (by omega) | exact zS0_at rfl (by omega)) ?_
    first | refine z_ialdNv d_Mo_way_43 (by first | assumption | exact zS0_at (by assumption) (by omega) | exact zS0_at rfl (by omega)) (by omega) (by first | decide | omega) (by first | assumption | ((try simp (disch := omega) only [zu_same, zu_ne, zcp_ne, zfl_ne]); first | assumption | rfl)) ?_ | refine z_iald d_Mo_way_43 (by first | assumption | exact zS0_at (by assumption) (by omega) | exact zS0_at rfl (by omega)) (by first | assumption | exact zS0_at (by assumption) (by omega) | exact zS0_at rfl (by omega)) ?_
    first | refine z_istore_3 d_Mo_way_44 rfl ?_ | (refine z_forget_2 ?_; refine z_istore_3 d_Mo_way_44 rfl ?_)
    refine z_iload_3 d_Mo_way_45 ?_
    refine z_bipush (a := nI 99) d_Mo_way_46 (by decide) ?_
    refine z_icmp_ge (tgt := 55) d_Mo_way_48 (by decide) (fun _ => ?_) (fun h => absurd (by decide) h)
    refine z_aload_0 d_Mo_way_55 ?_
    refine z_bipush (a := nI 8) d_Mo_way_56 (by decide) ?_
    refine z_Vi1 d_Mo_way_58 k_Mo_327 (by first | assumption | exact zS0_at (by assumption) (by omega) | exact zS0_at rfl (by omega)) (t_Mo_refuse (by assumption)) ⟨Nat.le_of_ble_eq_true rfl, Nat.le_of_ble_eq_true rfl, Nat.le_of_ble_eq_true rfl, Nat.le_of_ble_eq_true rfl⟩ (Nat.le_of_ble_eq_true rfl) ?_
    intro r w hq
    obtain ⟨rfl, rfl⟩ := hq
    refine z_reti d_Mo_way_61 ?_
    exact Or.inl ⟨hn, rfl, _, _, rfl, mqF_z f2 (by decide), mqJ_r, zu_same _ _ _ _⟩
  · refine z_aload_0 d_Mo_way_30 ?_
    refine z_getR d_Mo_way_31 f_Mo_44 (by first | assumption | exact zS0_at (by assumption) (by omega) | exact zS0_at rfl (by omega)) (by first | assumption | exact zS0_at (by assumption) (by omega) | exact zS0_at rfl (by omega)) ?_
    refine z_aload_0 d_Mo_way_34 ?_
    refine z_getR d_Mo_way_35 f_Mo_35 (by first | assumption | exact zS0_at (by assumption) (by omega) | exact zS0_at rfl (by omega)) (by first | assumption | exact zS0_at (by assumption) (by omega) | exact zS0_at rfl (by omega)) ?_
    refine z_bipush (a := nI 42) d_Mo_way_38 (by decide) ?_
    refine z_iload_1 d_Mo_way_40 ?_
    first | refine z_iaddN d_Mo_way_41 ?_ | refine z_iadd d_Mo_way_41 ?_
    first | refine z_ialdNv d_Mo_way_42 (by first | assumption | exact zS0_at (by assumption) (by omega) | exact zS0_at rfl (by omega)) (by omega) (by first | decide | omega) (by first | assumption | ((try simp (disch := omega) only [zu_same, zu_ne, zcp_ne, zfl_ne]); first | assumption | rfl)) ?_ | refine z_iald d_Mo_way_42 (by first | assumption | exact zS0_at (by assumption) (by omega) | exact zS0_at rfl (by omega)) (by first | assumption | exact zS0_at (by assumption) (by omega) | exact zS0_at rfl (by omega)) ?_
    first | refine z_ialdNv d_Mo_way_43 (by first | assumption | exact zS0_at (by assumption) (by omega) | exact zS0_at rfl (by omega)) (by omega) (by first | decide | omega) (by first | assumption | ((try simp (disch := omega) only [zu_same, zu_ne, zcp_ne, zfl_ne]); first | assumption | rfl)) ?_ | refine z_iald d_Mo_way_43 (by first | assumption | exact zS0_at (by assumption) (by omega) | exact zS0_at rfl (by omega)) (by first | assumption | exact zS0_at (by assumption) (by omega) | exact zS0_at rfl (by omega)) ?_
    first | refine z_istore_3 d_Mo_way_44 rfl ?_ | (refine z_forget_2 ?_; refine z_istore_3 d_Mo_way_44 rfl ?_)
    refine z_iload_3 d_Mo_way_45 ?_
    refine z_bipush (a := nI 99) d_Mo_way_46 (by decide) ?_
    refine z_icmp_ge (tgt := 55) d_Mo_way_48 (by decide) (fun h => absurd h (fun q => by have := (nI_leI (by omega) (by omega)).mp q; omega)) (fun _ => ?_)
    refine z_iload_3 d_Mo_way_51 ?_
    refine z_goto (tgt := 61) d_Mo_way_52 (by decide) ?_
    refine z_reti d_Mo_way_61 ?_
    exact Or.inr ⟨m, hm, hd, rfl, _, _, rfl, f2, mqJ_r, s2⟩
end WZ0
