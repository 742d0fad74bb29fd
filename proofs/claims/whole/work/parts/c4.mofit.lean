/-! laysWhose, mostAlike: the reference -/
section SN0
variable {G : zG} {I I' I1 I2 I3 : Nat → Nat → Int32} {J J' J2 : Nat → Nat → Int64} {P : Nat → Nat → Option Nat} {S : List (Nat × Nat)} {f d nt np nl nn n t k p q s g i u v l st y : Nat} {a b : Int32} {w : zW} {fb : Nat → Bool} {X X' : Nat → Int64} {A A' : Nat → Int32}
/-- what is in all that fit: the reference -/
def fA (fb : Nat → Bool) : Nat → Int32
  | 0 => -1
  | j + 1 => if fb j then fA fb j &&& nI j else fA fb j
theorem fitS_s (h1 : X (2 * i) = lN p) (h2 : p < 7) (h3 : X (2 * i + 1) = lN y) (h4 : y < 7) : fitS A X (i + 1) s ↔ fitS A X i s ∧ pcN (andN (A p) s) = y := by
  constructor
  · intro h
    exact ⟨fun j hj => h j (by omega), h i (by omega) p y h1 h2 h3 h4⟩
  · rintro ⟨h, e⟩ j hj p' y' a1 a2 a3 a4
    by_cases hi : j = i
    · subst hi
      rw [lN_inj (by omega) (by omega) (a1.symm.trans h1), lN_inj (by omega) (by omega) (a3.symm.trans h3)]
      exact e
    · exact h j (by omega) p' y' a1 a2 a3 a4
/-- what laysWhose leaves as it is -/
def lF (I I' : Nat → Nat → Int32) : Prop := (∀ a, a ≠ 145 → a ≠ 157 → I' a = I a) ∧ ∀ k, k ≠ 31 → k ≠ 32 → I' 145 k = I 145 k
theorem lF_r : lF I I := ⟨fun _ _ _ => rfl, fun _ _ _ => rfl⟩
theorem lF_u (h : lF I I') : lF I (zu I' 157 k a) := ⟨fun q h1 h2 => (zu_row _ _ _ _ h2).trans (h.1 q h1 h2), fun k h1 h2 => (zu_ne _ _ _ _ (by omega)).trans (h.2 k h1 h2)⟩
theorem lF_v (h : lF I I') (hk : k = 31 ∨ k = 32) : lF I (zu I' 145 k a) := ⟨fun q h1 h2 => (zu_row _ _ _ _ h1).trans (h.1 q h1 h2), fun k h1 h2 => (zu_ne _ _ _ _ (by omega)).trans (h.2 k h1 h2)⟩
theorem nar0 : vp_nar .boolean (nI 0) = nI 0 := by decide
theorem nar1 : vp_nar .boolean (nI 1) = nI 1 := by decide
def laQ (I : Nat → Nat → Int32) (J : Nat → Nat → Int64) (P : Nat → Nat → Option Nat) (S : List (Nat × Nat)) (fb : Nat → Bool) (nt : Nat) (w : zW) : Prop := ∃ I', w = (I', J, P, S) ∧ lF I I' ∧ I' 145 31 = nI (s_cnt fb (2 ^ nt)) ∧ I' 145 32 = fA fb (2 ^ nt) ∧ ∀ s, s < 2 ^ nt → I' 157 s = if fb s then nI 1 else nI 0
theorem t_Mo_laysWhose (M : modOk P S) (N : modIn I nt np nl nn) (ht : t < 4) (hX : X = fun k => J 148 (60 * t + k)) (hA : A = fun p => I 150 (12 + p)) (hn : n ≤ 7) (hw : tw X np n u) (hfb : ∀ s, s < 64 → (fb s = true ↔ fitS A X n s)) : zEv G y_Mo_laysWhose prog_14_method_129_code 5 3 0 0 [.ref 145, .int (nI t), .int (nI n)] (I, J, P, S) (fun w => laQ I J P S fb nt w) := by
  obtain ⟨M0, ⟨M4, M4s⟩, ⟨M5, M5s⟩, ⟨M6, M6s⟩, ⟨M7, M7s⟩, ⟨M20, M20s⟩, ⟨M21, M21s⟩, ⟨M22, M22s⟩, ⟨M26, M26s⟩, ⟨M27, M27s⟩, ⟨M28, M28s⟩, ⟨M30, M30s⟩, ⟨M34, M34s⟩, ⟨M36, M36s⟩, ⟨M37, M37s⟩⟩ := id M
  obtain ⟨⟨m0, m0b⟩, ⟨m1, m1b⟩, ⟨m2, m2b⟩, ⟨m3, m3b⟩, mof, mon⟩ := id N
  have h0p : 0 < 2 ^ nt := Nat.pow_pos (by decide)
  have h64 : 2 ^ nt ≤ 64 := Nat.pow_le_pow_right (n := 2) (i := nt) (j := 6) (by decide) (by omega)
  have eX : ∀ k, J 148 (60 * t + k) = X k := fun k => by rw [hX]
  refine zEv_of (lv := [some (.ref 145), some (.int (nI t)), some (.int (nI n)), none, none]) (by decide) rfl (Nat.le_of_ble_eq_true rfl) ?_
  have lp : ∀ m j I2, 2 ^ nt - j < m → j ≤ 2 ^ nt → lF I I2 → I2 145 31 = nI (s_cnt fb j) → I2 145 32 = fA fb j → (∀ s, s < j → I2 157 s = if fb s then nI 1 else nI 0) → zA G y_Mo_laysWhose prog_14_method_129_code 5 none (zRm 3 0 0) (zM G 0 0 (fun r w' => r = none ∧ (fun w => laQ I J P S fb nt w) w')) 12 [some (.ref 145), some (.int (nI t)), some (.int (nI n)), some (.int (nI j)), none] [] (I2, J, P, S) 0 0 := by
    intro m
    induction m with
    | zero => intro j I2 h; exact absurd h (Nat.not_lt_zero _)
    | succ m ih =>
      intro j I2 hm hj g1 g2 g3 g4
      have m0' : I2 150 0 = nI nt := by rw [g1.1 150 (by decide) (by decide)]; exact m0
      refine z_iload_3 d_Mo_laysWhose_12 ?_
      refine z_iconst (a := nI 1) d_Mo_laysWhose_13 (by decide) ?_
      refine z_aload_0 d_Mo_laysWhose_14 ?_
      refine z_getR d_Mo_laysWhose_15 f_Mo_35 (by first | assumption | exact zS0_at (by assumption) (by omega) | exact zS0_at rfl (by omega)) (by first | assumption | exact zS0_at (by assumption) (by omega) | exact zS0_at rfl (by omega)) ?_
      refine z_iconst (a := nI 0) d_Mo_laysWhose_18 (by decide) ?_
      first | refine z_ialdNv d_Mo_laysWhose_19 (by first | assumption | exact zS0_at (by assumption) (by omega) | exact zS0_at rfl (by omega)) (by omega) (by first | decide | omega) (by first | assumption | ((try simp (disch := omega) only [zu_same, zu_ne, zcp_ne, zfl_ne]); first | assumption | rfl)) ?_ | refine z_iald d_Mo_laysWhose_19 (by first | assumption | exact zS0_at (by assumption) (by omega) | exact zS0_at rfl (by omega)) (by first | assumption | exact zS0_at (by assumption) (by omega) | exact zS0_at rfl (by omega)) ?_
      refine z_ishl d_Mo_laysWhose_20 ?_
      rw [nx_sh nt (by omega)]
      refine z_icmp_ge (tgt := 143) d_Mo_laysWhose_21 (by decide) (fun hb => ?_) (fun hb => ?_)
      · have hb := (nI_leI (by omega) (by omega)).mp hb
        obtain rfl : j = 2 ^ nt := by omega
        refine z_retv d_Mo_laysWhose_143 ?_
        exact ⟨I2, rfl, g1, g2, g3, g4⟩
      · have hb : j < 2 ^ nt := Nat.lt_of_not_le (fun q => hb (nI_le q (by omega)))
        have hcl := s_cnt_le (b := fb) j
        have inn : ∀ z i I3, n - i < z → i ≤ n → lF I I3 → I3 145 31 = nI (s_cnt fb j) → I3 145 32 = fA fb j → (∀ s, s < j → I3 157 s = if fb s then nI 1 else nI 0) → (fitS A X i j ∧ I3 157 j = nI 1 ∨ ¬ fitS A X i j ∧ I3 157 j = nI 0) → zA G y_Mo_laysWhose prog_14_method_129_code 5 none (zRm 3 0 0) (zM G 0 0 (fun r w' => r = none ∧ (fun w => laQ I J P S fb nt w) w')) 34 [some (.ref 145), some (.int (nI t)), some (.int (nI n)), some (.int (nI j)), some (.int (nI i))] [] (I3, J, P, S) 0 0 := by
          intro z
          induction z with
          | zero => intro i I3 h; exact absurd h (Nat.not_lt_zero _)
          | succ z ihz =>
            intro i I3 hz hi e1 e2 e3 e4 e5
            refine z_iload_4 d_Mo_laysWhose_34 ?_
            refine z_iload_2 d_Mo_laysWhose_36 ?_
            refine z_icmp_ge (tgt := 105) d_Mo_laysWhose_37 (by decide) (fun hc => ?_) (fun hc => ?_)
            · have hc := (nI_leI (by omega) (by omega)).mp hc
              obtain rfl : i = n := by omega
              rw [← hfb j (by omega)] at e5
              rcases e5 with ⟨e5, e6⟩ | ⟨e5, e6⟩
              · have q := fun I4 => ih (j + 1) I4 (by omega) (by omega)
                rw [s_cnt_t e5, show fA fb (j + 1) = if fb j then fA fb j &&& nI j else fA fb j from rfl, if_pos e5] at q
                refine z_aload_0 d_Mo_laysWhose_105 ?_
                refine z_getR d_Mo_laysWhose_106 f_Mo_56 (by first | assumption | exact zS0_at (by assumption) (by omega) | exact zS0_at rfl (by omega)) (by first | assumption | exact zS0_at (by assumption) (by omega) | exact zS0_at rfl (by omega)) ?_
                refine z_iload_3 d_Mo_laysWhose_109 ?_
                first | refine z_baldNv d_Mo_laysWhose_110 (by first | assumption | exact zS0_at (by assumption) (by omega) | exact zS0_at rfl (by omega)) (by omega) (by first | decide | omega) (by first | assumption | ((try simp (disch := omega) only [zu_same, zu_ne, zcp_ne, zfl_ne]); first | assumption | rfl)) ?_ | refine z_zaldNv d_Mo_laysWhose_110 (by first | assumption | exact zS0_at (by assumption) (by omega) | exact zS0_at rfl (by omega)) (by omega) (by first | decide | omega) (by first | assumption | ((try simp (disch := omega) only [zu_same, zu_ne, zcp_ne, zfl_ne]); first | assumption | rfl)) ?_ | refine z_bald d_Mo_laysWhose_110 (by first | assumption | exact zS0_at (by assumption) (by omega) | exact zS0_at rfl (by omega)) (by first | assumption | exact zS0_at (by assumption) (by omega) | exact zS0_at rfl (by omega)) ?_ | refine z_zald d_Mo_laysWhose_110 (by first | assumption | exact zS0_at (by assumption) (by omega) | exact zS0_at rfl (by omega)) (by first | assumption | exact zS0_at (by assumption) (by omega) | exact zS0_at rfl (by omega)) ?_
                refine z_if_ne (tgt := 117) d_Mo_laysWhose_111 (by decide) (fun _ => ?_) (fun h => absurd h (by decide))
                refine z_aload_0 d_Mo_laysWhose_117 ?_
                refine z_dup rfl d_Mo_laysWhose_118 ?_
                refine z_getIv d_Mo_laysWhose_119 f_Mo_432 (by first | assumption | exact zS0_at (by assumption) (by omega) | exact zS0_at rfl (by omega)) (by first | assumption | ((try simp (disch := omega) only [zu_same, zu_ne, zcp_ne, zfl_ne]); first | assumption | rfl)) ?_
                refine z_iconst (a := nI 1) d_Mo_laysWhose_122 (by decide) ?_
                first | refine z_iaddN d_Mo_laysWhose_123 ?_ | refine z_iadd d_Mo_laysWhose_123 ?_
                refine z_putI d_Mo_laysWhose_124 f_Mo_432 (by first | assumption | exact zS0_at (by assumption) (by omega) | exact zS0_at rfl (by omega)) ?_
                refine z_aload_0 d_Mo_laysWhose_127 ?_
                refine z_dup rfl d_Mo_laysWhose_128 ?_
                refine z_getIv d_Mo_laysWhose_129 f_Mo_435 (by first | assumption | exact zS0_at (by assumption) (by omega) | exact zS0_at rfl (by omega)) (by first | assumption | ((try simp (disch := omega) only [zu_same, zu_ne, zcp_ne, zfl_ne]); first | assumption | rfl)) ?_
                refine z_iload_3 d_Mo_laysWhose_132 ?_
                refine z_iand d_Mo_laysWhose_133 ?_
                refine z_putI d_Mo_laysWhose_134 f_Mo_435 (by first | assumption | exact zS0_at (by assumption) (by omega) | exact zS0_at rfl (by omega)) ?_
                first | refine z_iinc_3 d_Mo_laysWhose_137 rfl (zi_inc _) ?_ | refine z_iinc_3 d_Mo_laysWhose_137 rfl rfl ?_
                refine z_goto (tgt := 12) d_Mo_laysWhose_140 (by decide) ?_
                refine z_forget_4 ?_
                refine q _ (lF_v (lF_v e1 (Or.inl rfl)) (Or.inr rfl)) ?_ (zu_same _ _ _ _) (fun s hs => ?_)
                · rw [zu_ne _ _ _ _ (by decide), zu_same]
                · rw [zu_row _ _ _ _ (by decide), zu_row _ _ _ _ (by decide)]
                  by_cases h : s = j
                  · subst h; rw [e6, if_pos e5]
                  · exact e4 s (by omega)
              · have q := fun I4 => ih (j + 1) I4 (by omega) (by omega)
                rw [s_cnt_f e5, show fA fb (j + 1) = if fb j then fA fb j &&& nI j else fA fb j from rfl, if_neg e5] at q
                refine z_aload_0 d_Mo_laysWhose_105 ?_
                refine z_getR d_Mo_laysWhose_106 f_Mo_56 (by first | assumption | exact zS0_at (by assumption) (by omega) | exact zS0_at rfl (by omega)) (by first | assumption | exact zS0_at (by assumption) (by omega) | exact zS0_at rfl (by omega)) ?_
                refine z_iload_3 d_Mo_laysWhose_109 ?_
                first | refine z_baldNv d_Mo_laysWhose_110 (by first | assumption | exact zS0_at (by assumption) (by omega) | exact zS0_at rfl (by omega)) (by omega) (by first | decide | omega) (by first | assumption | ((try simp (disch := omega) only [zu_same, zu_ne, zcp_ne, zfl_ne]); first | assumption | rfl)) ?_ | refine z_zaldNv d_Mo_laysWhose_110 (by first | assumption | exact zS0_at (by assumption) (by omega) | exact zS0_at rfl (by omega)) (by omega) (by first | decide | omega) (by first | assumption | ((try simp (disch := omega) only [zu_same, zu_ne, zcp_ne, zfl_ne]); first | assumption | rfl)) ?_ | refine z_bald d_Mo_laysWhose_110 (by first | assumption | exact zS0_at (by assumption) (by omega) | exact zS0_at rfl (by omega)) (by first | assumption | exact zS0_at (by assumption) (by omega) | exact zS0_at rfl (by omega)) ?_ | refine z_zald d_Mo_laysWhose_110 (by first | assumption | exact zS0_at (by assumption) (by omega) | exact zS0_at rfl (by omega)) (by first | assumption | exact zS0_at (by assumption) (by omega) | exact zS0_at rfl (by omega)) ?_
                refine z_if_ne (tgt := 117) d_Mo_laysWhose_111 (by decide) (fun h => absurd (by decide) h) (fun _ => ?_)
                refine z_goto (tgt := 137) d_Mo_laysWhose_114 (by decide) ?_
                first | refine z_iinc_3 d_Mo_laysWhose_137 rfl (zi_inc _) ?_ | refine z_iinc_3 d_Mo_laysWhose_137 rfl rfl ?_
                refine z_goto (tgt := 12) d_Mo_laysWhose_140 (by decide) ?_
                refine z_forget_4 ?_
                refine q _ e1 e2 e3 (fun s hs => ?_)
                by_cases h : s = j
                · subst h; rw [e6, if_neg e5]
                · exact e4 s (by omega)
            · have hc : i < n := Nat.lt_of_not_le (fun q => hc (nI_le q (by omega)))
              obtain ⟨p, y, ep, hp, ey, hy⟩ := tw_at m1b n u hw i hc
              have e32 : (X (2 * i)).toInt32 = nI p := by rw [ep]; exact l2i_N p (by omega)
              have fs := fitS_s (A := A) (s := j) ep (by omega) ey hy
              have hv : I3 150 (12 + p) = A p := by rw [e1.1 150 (by decide) (by decide), hA]
              have pl := pcN_9 _ (andN_lt (a := A p) (s := j))
              have key : (nI (pcN (andN (A p) j))).toInt64 = lN y ↔ pcN (andN (A p) j) = y := by
                rw [← Int64.toInt_inj, Int32.toInt_toInt64, nI_int (by omega), lN_int (by omega)]
                omega
              have fin0 : ¬ fitS A X (i + 1) j → zA G y_Mo_laysWhose prog_14_method_129_code 5 none (zRm 3 0 0) (zM G 0 0 (fun r w' => r = none ∧ (fun w => laQ I J P S fb nt w) w')) 34 [some (.ref 145), some (.int (nI t)), some (.int (nI n)), some (.int (nI j)), some (.int (nI (i + 1)))] [] (zu I3 157 j (nI 0), J, P, S) 0 0 := by
                intro h
                refine ihz (i + 1) _ (by omega) (by omega) (lF_u e1) ?_ ?_ (fun s hs => ?_) (Or.inr ⟨h, zu_same _ _ _ _⟩)
                · rw [zu_row _ _ _ _ (by decide)]; exact e2
                · rw [zu_row _ _ _ _ (by decide)]; exact e3
                · rw [zu_ne _ _ _ _ (by omega)]; exact e4 s hs
              have fin1 : fitS A X (i + 1) j → zA G y_Mo_laysWhose prog_14_method_129_code 5 none (zRm 3 0 0) (zM G 0 0 (fun r w' => r = none ∧ (fun w => laQ I J P S fb nt w) w')) 34 [some (.ref 145), some (.int (nI t)), some (.int (nI n)), some (.int (nI j)), some (.int (nI (i + 1)))] [] (zu I3 157 j (nI 1), J, P, S) 0 0 := by
                intro h
                refine ihz (i + 1) _ (by omega) (by omega) (lF_u e1) ?_ ?_ (fun s hs => ?_) (Or.inl ⟨h, zu_same _ _ _ _⟩)
                · rw [zu_row _ _ _ _ (by decide)]; exact e2
                · rw [zu_row _ _ _ _ (by decide)]; exact e3
                · rw [zu_ne _ _ _ _ (by omega)]; exact e4 s hs
              rcases e5 with ⟨e5, e6⟩ | ⟨e5, e6⟩
              · refine z_aload_0 d_Mo_laysWhose_40 ?_
                refine z_getR d_Mo_laysWhose_41 f_Mo_56 (by first | assumption | exact zS0_at (by assumption) (by omega) | exact zS0_at rfl (by omega)) (by first | assumption | exact zS0_at (by assumption) (by omega) | exact zS0_at rfl (by omega)) ?_
                refine z_iload_3 d_Mo_laysWhose_44 ?_
                refine z_aload_0 d_Mo_laysWhose_45 ?_
                refine z_getR d_Mo_laysWhose_46 f_Mo_56 (by first | assumption | exact zS0_at (by assumption) (by omega) | exact zS0_at rfl (by omega)) (by first | assumption | exact zS0_at (by assumption) (by omega) | exact zS0_at rfl (by omega)) ?_
                refine z_iload_3 d_Mo_laysWhose_49 ?_
                first | refine z_baldNv d_Mo_laysWhose_50 (by first | assumption | exact zS0_at (by assumption) (by omega) | exact zS0_at rfl (by omega)) (by omega) (by first | decide | omega) (by first | assumption | ((try simp (disch := omega) only [zu_same, zu_ne, zcp_ne, zfl_ne]); first | assumption | rfl)) ?_ | refine z_zaldNv d_Mo_laysWhose_50 (by first | assumption | exact zS0_at (by assumption) (by omega) | exact zS0_at rfl (by omega)) (by omega) (by first | decide | omega) (by first | assumption | ((try simp (disch := omega) only [zu_same, zu_ne, zcp_ne, zfl_ne]); first | assumption | rfl)) ?_ | refine z_bald d_Mo_laysWhose_50 (by first | assumption | exact zS0_at (by assumption) (by omega) | exact zS0_at rfl (by omega)) (by first | assumption | exact zS0_at (by assumption) (by omega) | exact zS0_at rfl (by omega)) ?_ | refine z_zald d_Mo_laysWhose_50 (by first | assumption | exact zS0_at (by assumption) (by omega) | exact zS0_at rfl (by omega)) (by first | assumption | exact zS0_at (by assumption) (by omega) | exact zS0_at rfl (by omega)) ?_
                refine z_if_eq (tgt := 97) d_Mo_laysWhose_51 (by decide) (fun h => absurd h (by decide)) (fun _ => ?_)
                refine z_iload_3 d_Mo_laysWhose_54 ?_
                refine z_aload_0 d_Mo_laysWhose_55 ?_
                refine z_getR d_Mo_laysWhose_56 f_Mo_35 (by first | assumption | exact zS0_at (by assumption) (by omega) | exact zS0_at rfl (by omega)) (by first | assumption | exact zS0_at (by assumption) (by omega) | exact zS0_at rfl (by omega)) ?_
                refine z_bipush (a := nI 12) d_Mo_laysWhose_59 (by decide) ?_
                refine z_aload_0 d_Mo_laysWhose_61 ?_
                refine z_iload_1 d_Mo_laysWhose_62 ?_
                refine z_iconst (a := nI 2) d_Mo_laysWhose_63 (by decide) ?_
                refine z_iload_4 d_Mo_laysWhose_64 ?_
                first | refine z_imulN d_Mo_laysWhose_66 ?_ | refine z_imul d_Mo_laysWhose_66 ?_
                refine z_Vl2 d_Mo_laysWhose_67 k_Mo_426 (by first | assumption | exact zS0_at (by assumption) (by omega) | exact zS0_at rfl (by omega)) (t_Mo_numberOf M ht (show 2 * i < 60 by omega)) ⟨Nat.le_of_ble_eq_true rfl, Nat.le_of_ble_eq_true rfl, Nat.le_of_ble_eq_true rfl, Nat.le_of_ble_eq_true rfl⟩ (Nat.le_of_ble_eq_true rfl) ?_
                intro r w hq
                obtain ⟨rfl, rfl⟩ := hq
                rw [eX]
                refine z_l2i d_Mo_laysWhose_70 ?_
                rw [e32]
                first | refine z_iaddN d_Mo_laysWhose_71 ?_ | refine z_iadd d_Mo_laysWhose_71 ?_
                first | refine z_ialdNv d_Mo_laysWhose_72 (by first | assumption | exact zS0_at (by assumption) (by omega) | exact zS0_at rfl (by omega)) (by omega) (by first | decide | omega) (by first | assumption | ((try simp (disch := omega) only [zu_same, zu_ne, zcp_ne, zfl_ne]); first | assumption | rfl)) ?_ | refine z_iald d_Mo_laysWhose_72 (by first | assumption | exact zS0_at (by assumption) (by omega) | exact zS0_at rfl (by omega)) (by first | assumption | exact zS0_at (by assumption) (by omega) | exact zS0_at rfl (by omega)) ?_
                refine z_iand d_Mo_laysWhose_73 ?_
                rw [(andN_eq (show j < 64 by omega)).2]
                refine z_Si1 d_Mo_laysWhose_74 k_Mo_396 (t_Mo_sizeOf) ⟨Nat.le_of_ble_eq_true rfl, Nat.le_of_ble_eq_true rfl, Nat.le_of_ble_eq_true rfl, Nat.le_of_ble_eq_true rfl⟩ (Nat.le_of_ble_eq_true rfl) ?_
                intro r w hq
                obtain ⟨rfl, rfl⟩ := hq
                rw [pc_cnt]
                refine z_i2l d_Mo_laysWhose_77 ?_
                refine z_aload_0 d_Mo_laysWhose_78 ?_
                refine z_iload_1 d_Mo_laysWhose_79 ?_
                refine z_iconst (a := nI 2) d_Mo_laysWhose_80 (by decide) ?_
                refine z_iload_4 d_Mo_laysWhose_81 ?_
                first | refine z_imulN d_Mo_laysWhose_83 ?_ | refine z_imul d_Mo_laysWhose_83 ?_
                refine z_iconst (a := nI 1) d_Mo_laysWhose_84 (by decide) ?_
                first | refine z_iaddN d_Mo_laysWhose_85 ?_ | refine z_iadd d_Mo_laysWhose_85 ?_
                refine z_Vl2 d_Mo_laysWhose_86 k_Mo_426 (by first | assumption | exact zS0_at (by assumption) (by omega) | exact zS0_at rfl (by omega)) (t_Mo_numberOf M ht (show 2 * i + 1 < 60 by omega)) ⟨Nat.le_of_ble_eq_true rfl, Nat.le_of_ble_eq_true rfl, Nat.le_of_ble_eq_true rfl, Nat.le_of_ble_eq_true rfl⟩ (Nat.le_of_ble_eq_true rfl) ?_
                intro r w hq
                obtain ⟨rfl, rfl⟩ := hq
                rw [eX, ey]
                refine z_lcmp d_Mo_laysWhose_89 ?_
                refine z_if_ne (tgt := 97) d_Mo_laysWhose_90 (by decide) (fun hd => ?_) (fun hd => ?_)
                · rw [lg_cmp_eq, key] at hd
                  refine z_iconst (a := nI 0) d_Mo_laysWhose_97 (by decide) ?_
                  first | refine z_bastN d_Mo_laysWhose_98 (by first | assumption | exact zS0_at (by assumption) (by omega) | exact zS0_at rfl (by omega)) (by omega) (by first | decide | omega) ?_ | refine z_zastN d_Mo_laysWhose_98 (by first | assumption | exact zS0_at (by assumption) (by omega) | exact zS0_at rfl (by omega)) (by omega) (by first | decide | omega) ?_ | refine z_bast d_Mo_laysWhose_98 (by first | assumption | exact zS0_at (by assumption) (by omega) | exact zS0_at rfl (by omega)) (by first | assumption | exact zS0_at (by assumption) (by omega) | exact zS0_at rfl (by omega)) ?_ | refine z_zast d_Mo_laysWhose_98 (by first | assumption | exact zS0_at (by assumption) (by omega) | exact zS0_at rfl (by omega)) (by first | assumption | exact zS0_at (by assumption) (by omega) | exact zS0_at rfl (by omega)) ?_
                  rw [nar0]
                  first | refine z_iinc_4 d_Mo_laysWhose_99 rfl (zi_inc _) ?_ | refine z_iinc_4 d_Mo_laysWhose_99 rfl rfl ?_
                  refine z_goto (tgt := 34) d_Mo_laysWhose_102 (by decide) ?_
                  exact fin0 (fun h => hd (fs.mp h).2)
                · rw [lg_cmp_eq, key] at hd
                  refine z_iconst (a := nI 1) d_Mo_laysWhose_93 (by decide) ?_
                  refine z_goto (tgt := 98) d_Mo_laysWhose_94 (by decide) ?_
                  first | refine z_bastN d_Mo_laysWhose_98 (by first | assumption | exact zS0_at (by assumption) (by omega) | exact zS0_at rfl (by omega)) (by omega) (by first | decide | omega) ?_ | refine z_zastN d_Mo_laysWhose_98 (by first | assumption | exact zS0_at (by assumption) (by omega) | exact zS0_at rfl (by omega)) (by omega) (by first | decide | omega) ?_ | refine z_bast d_Mo_laysWhose_98 (by first | assumption | exact zS0_at (by assumption) (by omega) | exact zS0_at rfl (by omega)) (by first | assumption | exact zS0_at (by assumption) (by omega) | exact zS0_at rfl (by omega)) ?_ | refine z_zast d_Mo_laysWhose_98 (by first | assumption | exact zS0_at (by assumption) (by omega) | exact zS0_at rfl (by omega)) (by first | assumption | exact zS0_at (by assumption) (by omega) | exact zS0_at rfl (by omega)) ?_
                  rw [nar1]
                  first | refine z_iinc_4 d_Mo_laysWhose_99 rfl (zi_inc _) ?_ | refine z_iinc_4 d_Mo_laysWhose_99 rfl rfl ?_
                  refine z_goto (tgt := 34) d_Mo_laysWhose_102 (by decide) ?_
                  exact fin1 (fs.mpr ⟨e5, hd⟩)
              · refine z_aload_0 d_Mo_laysWhose_40 ?_
                refine z_getR d_Mo_laysWhose_41 f_Mo_56 (by first | assumption | exact zS0_at (by assumption) (by omega) | exact zS0_at rfl (by omega)) (by first | assumption | exact zS0_at (by assumption) (by omega) | exact zS0_at rfl (by omega)) ?_
                refine z_iload_3 d_Mo_laysWhose_44 ?_
                refine z_aload_0 d_Mo_laysWhose_45 ?_
                refine z_getR d_Mo_laysWhose_46 f_Mo_56 (by first | assumption | exact zS0_at (by assumption) (by omega) | exact zS0_at rfl (by omega)) (by first | assumption | exact zS0_at (by assumption) (by omega) | exact zS0_at rfl (by omega)) ?_
                refine z_iload_3 d_Mo_laysWhose_49 ?_
                first | refine z_baldNv d_Mo_laysWhose_50 (by first | assumption | exact zS0_at (by assumption) (by omega) | exact zS0_at rfl (by omega)) (by omega) (by first | decide | omega) (by first | assumption | ((try simp (disch := omega) only [zu_same, zu_ne, zcp_ne, zfl_ne]); first | assumption | rfl)) ?_ | refine z_zaldNv d_Mo_laysWhose_50 (by first | assumption | exact zS0_at (by assumption) (by omega) | exact zS0_at rfl (by omega)) (by omega) (by first | decide | omega) (by first | assumption | ((try simp (disch := omega) only [zu_same, zu_ne, zcp_ne, zfl_ne]); first | assumption | rfl)) ?_ | refine z_bald d_Mo_laysWhose_50 (by first | assumption | exact zS0_at (by assumption) (by omega) | exact zS0_at rfl (by omega)) (by first | assumption | exact zS0_at (by assumption) (by omega) | exact zS0_at rfl (by omega)) ?_ | refine z_zald d_Mo_laysWhose_50 (by first | assumption | exact zS0_at (by assumption) (by omega) | exact zS0_at rfl (by omega)) (by first | assumption | exact zS0_at (by assumption) (by omega) | exact zS0_at rfl (by omega)) ?_
                refine z_if_eq (tgt := 97) d_Mo_laysWhose_51 (by decide) (fun _ => ?_) (fun h => absurd (by decide) h)
                refine z_iconst (a := nI 0) d_Mo_laysWhose_97 (by decide) ?_
                first | refine z_bastN d_Mo_laysWhose_98 (by first | assumption | exact zS0_at (by assumption) (by omega) | exact zS0_at rfl (by omega)) (by omega) (by first | decide | omega) ?_ | refine z_zastN d_Mo_laysWhose_98 (by first | assumption | exact zS0_at (by assumption) (by omega) | exact zS0_at rfl (by omega)) (by omega) (by first | decide | omega) ?_ | refine z_bast d_Mo_laysWhose_98 (by first | assumption | exact zS0_at (by assumption) (by omega) | exact zS0_at rfl (by omega)) (by first | assumption | exact zS0_at (by assumption) (by omega) | exact zS0_at rfl (by omega)) ?_ | refine z_zast d_Mo_laysWhose_98 (by first | assumption | exact zS0_at (by assumption) (by omega) | exact zS0_at rfl (by omega)) (by first | assumption | exact zS0_at (by assumption) (by omega) | exact zS0_at rfl (by omega)) ?_
                rw [nar0]
                first | refine z_iinc_4 d_Mo_laysWhose_99 rfl (zi_inc _) ?_ | refine z_iinc_4 d_Mo_laysWhose_99 rfl rfl ?_
                refine z_goto (tgt := 34) d_Mo_laysWhose_102 (by decide) ?_
                exact fin0 (fun h => e5 (fs.mp h).1)
        refine z_aload_0 d_Mo_laysWhose_24 ?_
        refine z_getR d_Mo_laysWhose_25 f_Mo_56 (by first | assumption | exact zS0_at (by assumption) (by omega) | exact zS0_at rfl (by omega)) (by first | assumption | exact zS0_at (by assumption) (by omega) | exact zS0_at rfl (by omega)) ?_
        refine z_iload_3 d_Mo_laysWhose_28 ?_
        refine z_iconst (a := nI 1) d_Mo_laysWhose_29 (by decide) ?_
        first | refine z_bastN d_Mo_laysWhose_30 (by first | assumption | exact zS0_at (by assumption) (by omega) | exact zS0_at rfl (by omega)) (by omega) (by first | decide | omega) ?_ | refine z_zastN d_Mo_laysWhose_30 (by first | assumption | exact zS0_at (by assumption) (by omega) | exact zS0_at rfl (by omega)) (by omega) (by first | decide | omega) ?_ | refine z_bast d_Mo_laysWhose_30 (by first | assumption | exact zS0_at (by assumption) (by omega) | exact zS0_at rfl (by omega)) (by first | assumption | exact zS0_at (by assumption) (by omega) | exact zS0_at rfl (by omega)) ?_ | refine z_zast d_Mo_laysWhose_30 (by first | assumption | exact zS0_at (by assumption) (by omega) | exact zS0_at rfl (by omega)) (by first | assumption | exact zS0_at (by assumption) (by omega) | exact zS0_at rfl (by omega)) ?_
        rw [nar1]
        refine z_iconst (a := nI 0) d_Mo_laysWhose_31 (by decide) ?_
        first | refine z_istore_4 d_Mo_laysWhose_32 rfl ?_ | (refine z_forget_3 ?_; refine z_istore_4 d_Mo_laysWhose_32 rfl ?_)
        refine inn (n + 1) 0 _ (by omega) (by omega) (lF_u g1) ?_ ?_ (fun s hs => ?_) (Or.inl ⟨fun i hi => absurd hi (Nat.not_lt_zero _), zu_same _ _ _ _⟩)
        · rw [zu_row _ _ _ _ (by decide)]; exact g2
        · rw [zu_row _ _ _ _ (by decide)]; exact g3
        · rw [zu_ne _ _ _ _ (by omega)]; exact g4 s hs
  refine z_aload_0 d_Mo_laysWhose_0 ?_
  refine z_iconst (a := nI 0) d_Mo_laysWhose_1 (by decide) ?_
  refine z_putI d_Mo_laysWhose_2 f_Mo_432 (by first | assumption | exact zS0_at (by assumption) (by omega) | exact zS0_at rfl (by omega)) ?_
  refine z_aload_0 d_Mo_laysWhose_5 ?_
  refine z_iconst (a := -1) d_Mo_laysWhose_6 (by decide) ?_
  refine z_putI d_Mo_laysWhose_7 f_Mo_435 (by first | assumption | exact zS0_at (by assumption) (by omega) | exact zS0_at rfl (by omega)) ?_
  refine z_iconst (a := nI 0) d_Mo_laysWhose_10 (by decide) ?_
  first | refine z_istore_3 d_Mo_laysWhose_11 rfl ?_ | (refine z_forget_2 ?_; refine z_istore_3 d_Mo_laysWhose_11 rfl ?_)
  refine lp (2 ^ nt + 1) 0 _ (by omega) (by omega) (lF_v (lF_v lF_r (Or.inl rfl)) (Or.inr rfl)) ?_ (zu_same _ _ _ _) (fun s hs => absurd hs (Nat.not_lt_zero _))
  rw [zu_ne _ _ _ _ (by decide), zu_same]
  rfl
/-- the most over the numbers below c -/
def mr (fb : Nat → Bool) (a : Int32) (m : Nat) : Nat → Nat
  | 0 => 0
  | c + 1 => max (mr fb a m c) (grN fb a c m)
theorem mr_le (m : Nat) : ∀ c, mr fb a m c ≤ mxA fb a m := by
  intro c
  induction c with
  | zero => exact Nat.zero_le _
  | succ c ih =>
    rw [mr]
    have := (mxA_is (fb := fb) (a := a) m).1 c
    omega
theorem mr_ge (m : Nat) : ∀ c k, k < c → grN fb a k m ≤ mr fb a m c := by
  intro c
  induction c with
  | zero => intro k h; exact absurd h (Nat.not_lt_zero _)
  | succ c ih =>
    intro k hk
    rw [mr]
    by_cases h : k = c
    · subst h; omega
    · have := ih k (by omega); omega
theorem mr_7 (m : Nat) : mr fb a m 7 = mxA fb a m := by
  have h1 := mr_le (fb := fb) (a := a) m 7
  rcases (mxA_is (fb := fb) (a := a) m).2 with h | ⟨c, hc, h⟩
  · omega
  · have := mr_ge (fb := fb) (a := a) m 7 c (by omega)
    omega
theorem t_Mo_mostAlike (M : modOk P S) (N : modIn I nt np nl nn) (hp : p < 7) (hF : ∀ s, s < 2 ^ nt → I 157 s = if fb s then nI 1 else nI 0) : zEi G y_Mo_mostAlike prog_14_method_132_code 6 (some .int) 3 [.ref 145, .int (nI p)] (I, J, P, S) (fun r w => r = nI (mxA fb (I 150 (12 + p)) (2 ^ nt)) ∧ w = (I, J, P, S)) := by
  obtain ⟨M0, ⟨M4, M4s⟩, ⟨M5, M5s⟩, ⟨M6, M6s⟩, ⟨M7, M7s⟩, ⟨M20, M20s⟩, ⟨M21, M21s⟩, ⟨M22, M22s⟩, ⟨M26, M26s⟩, ⟨M27, M27s⟩, ⟨M28, M28s⟩, ⟨M30, M30s⟩, ⟨M34, M34s⟩, ⟨M36, M36s⟩, ⟨M37, M37s⟩⟩ := id M
  obtain ⟨⟨m0, m0b⟩, ⟨m1, m1b⟩, ⟨m2, m2b⟩, ⟨m3, m3b⟩, mof, mon⟩ := id N
  have h0p : 0 < 2 ^ nt := Nat.pow_pos (by decide)
  have h64 : 2 ^ nt ≤ 64 := Nat.pow_le_pow_right (n := 2) (i := nt) (j := 6) (by decide) (by omega)
  obtain ⟨A0, hA0⟩ : ∃ A0, I 150 (12 + p) = A0 := ⟨_, rfl⟩
  rw [hA0]
  refine zEi_of (lv := [some (.ref 145), some (.int (nI p)), none, none, none, none]) (by decide) rfl (Nat.le_of_ble_eq_true rfl) ?_
  have lp : ∀ m c, 7 - c < m → c ≤ 7 → zA G y_Mo_mostAlike prog_14_method_132_code 6 (some .int) (zRm 3 0 0) (zM G 0 0 (fun r w' => ∃ x, r = some (.int x) ∧ (fun r w => r = nI (mxA fb A0 (2 ^ nt)) ∧ w = (I, J, P, S)) x w')) 4 [some (.ref 145), some (.int (nI p)), some (.int (nI (mr fb A0 (2 ^ nt) c))), some (.int (nI c)), none, none] [] (I, J, P, S) 0 0 := by
    intro m
    induction m with
    | zero => intro c h; exact absurd h (Nat.not_lt_zero _)
    | succ m ih =>
      intro c hm hc
      refine z_iload_3 d_Mo_mostAlike_4 ?_
      refine z_bipush (a := nI 6) d_Mo_mostAlike_5 (by decide) ?_
      refine z_icmp_gt (tgt := 87) d_Mo_mostAlike_7 (by decide) (fun hb => ?_) (fun hb => ?_)
      · have hb := (nI_ltI (by omega) (by omega)).mp hb
        obtain rfl : c = 7 := by omega
        rw [mr_7]
        refine z_iload_2 d_Mo_mostAlike_87 ?_
        refine z_reti d_Mo_mostAlike_88 ?_
        exact ⟨rfl, rfl⟩
      · have hb : c ≤ 6 := by
          rcases Nat.lt_or_ge 6 c with h | h
          · exact absurd (nI_lt h (by omega)) hb
          · exact h
        have q := ih (c + 1) (by omega) (by omega)
        rw [show mr fb A0 (2 ^ nt) (c + 1) = max (mr fb A0 (2 ^ nt) c) (grN fb A0 c (2 ^ nt)) from rfl] at q
        have mle := mr_le (fb := fb) (a := A0) (2 ^ nt) c
        have mle2 := mxA_le (fb := fb) (a := A0) (2 ^ nt)
        have inn : ∀ z j, 2 ^ nt - j < z → j ≤ 2 ^ nt → zA G y_Mo_mostAlike prog_14_method_132_code 6 (some .int) (zRm 3 0 0) (zM G 0 0 (fun r w' => ∃ x, r = some (.int x) ∧ (fun r w => r = nI (mxA fb A0 (2 ^ nt)) ∧ w = (I, J, P, S)) x w')) 16 [some (.ref 145), some (.int (nI p)), some (.int (nI (mr fb A0 (2 ^ nt) c))), some (.int (nI c)), some (.int (nI (grN fb A0 c j))), some (.int (nI j))] [] (I, J, P, S) 0 0 := by
          intro z
          induction z with
          | zero => intro j h; exact absurd h (Nat.not_lt_zero _)
          | succ z ihz =>
            intro j hz hj
            have gle := grN_le (fb := fb) (a := A0) j c
            refine z_iload_5 d_Mo_mostAlike_16 ?_
            refine z_iconst (a := nI 1) d_Mo_mostAlike_18 (by decide) ?_
            refine z_aload_0 d_Mo_mostAlike_19 ?_
            refine z_getR d_Mo_mostAlike_20 f_Mo_35 (by first | assumption | exact zS0_at (by assumption) (by omega) | exact zS0_at rfl (by omega)) (by first | assumption | exact zS0_at (by assumption) (by omega) | exact zS0_at rfl (by omega)) ?_
            refine z_iconst (a := nI 0) d_Mo_mostAlike_23 (by decide) ?_
            first | refine z_ialdNv d_Mo_mostAlike_24 (by first | assumption | exact zS0_at (by assumption) (by omega) | exact zS0_at rfl (by omega)) (by omega) (by first | decide | omega) (by first | assumption | ((try simp (disch := omega) only [zu_same, zu_ne, zcp_ne, zfl_ne]); first | assumption | rfl)) ?_ | refine z_iald d_Mo_mostAlike_24 (by first | assumption | exact zS0_at (by assumption) (by omega) | exact zS0_at rfl (by omega)) (by first | assumption | exact zS0_at (by assumption) (by omega) | exact zS0_at rfl (by omega)) ?_
            refine z_ishl d_Mo_mostAlike_25 ?_
            rw [nx_sh nt (by omega)]
            refine z_icmp_ge (tgt := 74) d_Mo_mostAlike_26 (by decide) (fun hd => ?_) (fun hd => ?_)
            · have hd := (nI_leI (by omega) (by omega)).mp hd
              obtain rfl : j = 2 ^ nt := by omega
              refine z_iload_2 d_Mo_mostAlike_74 ?_
              refine z_iload_4 d_Mo_mostAlike_75 ?_
              refine z_max d_Mo_mostAlike_77 k_Mo_233.2.1 ⟨Nat.le_of_ble_eq_true rfl, Nat.le_of_ble_eq_true rfl, Nat.le_of_ble_eq_true rfl, Nat.le_of_ble_eq_true rfl⟩ (Nat.le_of_ble_eq_true rfl) ?_
              rw [z_maxN (by omega) (by omega)]
              first | refine z_istore_2 d_Mo_mostAlike_80 rfl ?_ | (refine z_forget_1 ?_; refine z_istore_2 d_Mo_mostAlike_80 rfl ?_)
              first | refine z_iinc_3 d_Mo_mostAlike_81 rfl (zi_inc _) ?_ | refine z_iinc_3 d_Mo_mostAlike_81 rfl rfl ?_
              refine z_goto (tgt := 4) d_Mo_mostAlike_84 (by decide) ?_
              refine z_forget_4 ?_
              refine z_forget_5 ?_
              exact q
            · have hd : j < 2 ^ nt := Nat.lt_of_not_le (fun q => hd (nI_le q (by omega)))
              have qz := ihz (j + 1) (by omega) (by omega)
              have hFj := hF j hd
              by_cases hfj : fb j = true
              · rw [if_pos hfj] at hFj
                have lt64 := andN_lt (a := A0) (s := j)
                have lt6 := pcN_9 _ lt64
                refine z_iload_4 d_Mo_mostAlike_29 ?_
                refine z_aload_0 d_Mo_mostAlike_31 ?_
                refine z_getR d_Mo_mostAlike_32 f_Mo_56 (by first | assumption | exact zS0_at (by assumption) (by omega) | exact zS0_at rfl (by omega)) (by first | assumption | exact zS0_at (by assumption) (by omega) | exact zS0_at rfl (by omega)) ?_
                refine z_iload_5 d_Mo_mostAlike_35 ?_
                first | refine z_baldNv d_Mo_mostAlike_37 (by first | assumption | exact zS0_at (by assumption) (by omega) | exact zS0_at rfl (by omega)) (by omega) (by first | decide | omega) (by first | assumption | ((try simp (disch := omega) only [zu_same, zu_ne, zcp_ne, zfl_ne]); first | assumption | rfl)) ?_ | refine z_zaldNv d_Mo_mostAlike_37 (by first | assumption | exact zS0_at (by assumption) (by omega) | exact zS0_at rfl (by omega)) (by omega) (by first | decide | omega) (by first | assumption | ((try simp (disch := omega) only [zu_same, zu_ne, zcp_ne, zfl_ne]); first | assumption | rfl)) ?_ | refine z_bald d_Mo_mostAlike_37 (by first | assumption | exact zS0_at (by assumption) (by omega) | exact zS0_at rfl (by omega)) (by first | assumption | exact zS0_at (by assumption) (by omega) | exact zS0_at rfl (by omega)) ?_ | refine z_zald d_Mo_mostAlike_37 (by first | assumption | exact zS0_at (by assumption) (by omega) | exact zS0_at rfl (by omega)) (by first | assumption | exact zS0_at (by assumption) (by omega) | exact zS0_at rfl (by omega)) ?_
                refine z_if_eq (tgt := 64) d_Mo_mostAlike_38 (by decide) (fun h => absurd h (by decide)) (fun _ => ?_)
                refine z_iload_5 d_Mo_mostAlike_41 ?_
                refine z_aload_0 d_Mo_mostAlike_43 ?_
                refine z_getR d_Mo_mostAlike_44 f_Mo_35 (by first | assumption | exact zS0_at (by assumption) (by omega) | exact zS0_at rfl (by omega)) (by first | assumption | exact zS0_at (by assumption) (by omega) | exact zS0_at rfl (by omega)) ?_
                refine z_bipush (a := nI 12) d_Mo_mostAlike_47 (by decide) ?_
                refine z_iload_1 d_Mo_mostAlike_49 ?_
                first | refine z_iaddN d_Mo_mostAlike_50 ?_ | refine z_iadd d_Mo_mostAlike_50 ?_
                first | refine z_ialdNv d_Mo_mostAlike_51 (by first | assumption | exact zS0_at (by assumption) (by omega) | exact zS0_at rfl (by omega)) (by omega) (by first | decide | omega) (by first | assumption | ((try simp (disch := omega) only [zu_same, zu_ne, zcp_ne, zfl_ne]); first | assumption | rfl)) ?_ | refine z_iald d_Mo_mostAlike_51 (by first | assumption | exact zS0_at (by assumption) (by omega) | exact zS0_at rfl (by omega)) (by first | assumption | exact zS0_at (by assumption) (by omega) | exact zS0_at rfl (by omega)) ?_
                refine z_iand d_Mo_mostAlike_52 ?_
                rw [(andN_eq (show j < 64 by omega)).2]
                refine z_Si1 d_Mo_mostAlike_53 k_Mo_396 (t_Mo_sizeOf) ⟨Nat.le_of_ble_eq_true rfl, Nat.le_of_ble_eq_true rfl, Nat.le_of_ble_eq_true rfl, Nat.le_of_ble_eq_true rfl⟩ (Nat.le_of_ble_eq_true rfl) ?_
                intro r w hq
                obtain ⟨rfl, rfl⟩ := hq
                rw [pc_cnt]
                refine z_iload_3 d_Mo_mostAlike_56 ?_
                refine z_icmp_ne (tgt := 64) d_Mo_mostAlike_57 (by decide) (fun he => ?_) (fun he => ?_)
                · have he : ¬ pcN (andN A0 j) = c := fun h => he (by rw [h])
                  rw [show grN fb A0 c (j + 1) = grN fb A0 c j from if_neg (fun h => he h.2)] at qz
                  refine z_iconst (a := nI 0) d_Mo_mostAlike_64 (by decide) ?_
                  first | refine z_iaddN d_Mo_mostAlike_65 ?_ | refine z_iadd d_Mo_mostAlike_65 ?_
                  rw [Nat.add_zero]
                  first | refine z_istore_4 d_Mo_mostAlike_66 rfl ?_ | (refine z_forget_3 ?_; refine z_istore_4 d_Mo_mostAlike_66 rfl ?_)
                  first | refine z_iinc_5 d_Mo_mostAlike_68 rfl (zi_inc _) ?_ | refine z_iinc_5 d_Mo_mostAlike_68 rfl rfl ?_
                  refine z_goto (tgt := 16) d_Mo_mostAlike_71 (by decide) ?_
                  exact qz
                · have he : pcN (andN A0 j) = c := (nI_eq (by omega) (by omega)).mp he
                  rw [show grN fb A0 c (j + 1) = grN fb A0 c j + 1 from if_pos ⟨hfj, he⟩] at qz
                  refine z_iconst (a := nI 1) d_Mo_mostAlike_60 (by decide) ?_
                  refine z_goto (tgt := 65) d_Mo_mostAlike_61 (by decide) ?_
                  first | refine z_iaddN d_Mo_mostAlike_65 ?_ | refine z_iadd d_Mo_mostAlike_65 ?_
                  first | refine z_istore_4 d_Mo_mostAlike_66 rfl ?_ | (refine z_forget_3 ?_; refine z_istore_4 d_Mo_mostAlike_66 rfl ?_)
                  first | refine z_iinc_5 d_Mo_mostAlike_68 rfl (zi_inc _) ?_ | refine z_iinc_5 d_Mo_mostAlike_68 rfl rfl ?_
                  refine z_goto (tgt := 16) d_Mo_mostAlike_71 (by decide) ?_
                  exact qz
              · rw [if_neg hfj] at hFj
                rw [show grN fb A0 c (j + 1) = grN fb A0 c j from if_neg (fun h => hfj h.1)] at qz
                refine z_iload_4 d_Mo_mostAlike_29 ?_
                refine z_aload_0 d_Mo_mostAlike_31 ?_
                refine z_getR d_Mo_mostAlike_32 f_Mo_56 (by first | assumption | exact zS0_at (by assumption) (by omega) | exact zS0_at rfl (by omega)) (by first | assumption | exact zS0_at (by assumption) (by omega) | exact zS0_at rfl (by omega)) ?_
                refine z_iload_5 d_Mo_mostAlike_35 ?_
                first | refine z_baldNv d_Mo_mostAlike_37 (by first | assumption | exact zS0_at (by assumption) (by omega) | exact zS0_at rfl (by omega)) (by omega) (by first | decide | omega) (by first | assumption | ((try simp (disch := omega) only [zu_same, zu_ne, zcp_ne, zfl_ne]); first | assumption | rfl)) ?_ | refine z_zaldNv d_Mo_mostAlike_37 (by first | assumption | exact zS0_at (by assumption) (by omega) | exact zS0_at rfl (by omega)) (by omega) (by first | decide | omega) (by first | assumption | ((try simp (disch := omega) only [zu_same, zu_ne, zcp_ne, zfl_ne]); first | assumption | rfl)) ?_ | refine z_bald d_Mo_mostAlike_37 (by first | assumption | exact zS0_at (by assumption) (by omega) | exact zS0_at rfl (by omega)) (by first | assumption | exact zS0_at (by assumption) (by omega) | exact zS0_at rfl (by omega)) ?_ | refine z_zald d_Mo_mostAlike_37 (by first | assumption | exact zS0_at (by assumption) (by omega) | exact zS0_at rfl (by omega)) (by first | assumption | exact zS0_at (by assumption) (by omega) | exact zS0_at rfl (by omega)) ?_
                refine z_if_eq (tgt := 64) d_Mo_mostAlike_38 (by decide) (fun _ => ?_) (fun h => absurd (by decide) h)
                refine z_iconst (a := nI 0) d_Mo_mostAlike_64 (by decide) ?_
                first | refine z_iaddN d_Mo_mostAlike_65 ?_ | refine z_iadd d_Mo_mostAlike_65 ?_
                rw [Nat.add_zero]
                first | refine z_istore_4 d_Mo_mostAlike_66 rfl ?_ | (refine z_forget_3 ?_; refine z_istore_4 d_Mo_mostAlike_66 rfl ?_)
                first | refine z_iinc_5 d_Mo_mostAlike_68 rfl (zi_inc _) ?_ | refine z_iinc_5 d_Mo_mostAlike_68 rfl rfl ?_
                refine z_goto (tgt := 16) d_Mo_mostAlike_71 (by decide) ?_
                exact qz
        refine z_iconst (a := nI 0) d_Mo_mostAlike_10 (by decide) ?_
        first | refine z_istore_4 d_Mo_mostAlike_11 rfl ?_ | (refine z_forget_3 ?_; refine z_istore_4 d_Mo_mostAlike_11 rfl ?_)
        refine z_iconst (a := nI 0) d_Mo_mostAlike_13 (by decide) ?_
        first | refine z_istore_5 d_Mo_mostAlike_14 rfl ?_ | (refine z_forget_4 ?_; refine z_istore_5 d_Mo_mostAlike_14 rfl ?_)
        exact inn (2 ^ nt + 1) 0 (by omega) (by omega)
  refine z_iconst (a := nI 0) d_Mo_mostAlike_0 (by decide) ?_
  first | refine z_istore_2 d_Mo_mostAlike_1 rfl ?_ | (refine z_forget_1 ?_; refine z_istore_2 d_Mo_mostAlike_1 rfl ?_)
  refine z_iconst (a := nI 0) d_Mo_mostAlike_2 (by decide) ?_
  first | refine z_istore_3 d_Mo_mostAlike_3 rfl ?_ | (refine z_forget_2 ?_; refine z_istore_3 d_Mo_mostAlike_3 rfl ?_)
  exact lp 8 0 (by omega) (by omega)
end SN0
