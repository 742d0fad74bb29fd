/-! the class: one run through YEARS -/
section LF0
def c_miss (C : Nat → Nat → Int32) (l : Nat) : Nat → Nat → Int32 := zu C l 2 (C l 2 + nI 1)
def c_pass (C : Nat → Nat → Int32) (f l t q : Nat) : Nat → Nat → Int32 := if C (f + 6) t = -1 then c_miss C l else if zB (C (f + 3) (C (f + 6) t).toNatClampNeg) q && zB (C (f + 2) q) (C (f + 5) t).toNatClampNeg then s_hand C f t (C (f + 5) t).toNatClampNeg (C (f + 6) t).toNatClampNeg q else c_miss C l
def c_draw (C : Nat → Nat → Int32) (l : Nat) : Nat → Nat → Int32 := zu C l 7 (nI (s_rnd1 (C l 7).toNatClampNeg))
def c_dn (C : Nat → Nat → Int32) (l n : Nat) : Nat := s_rnd1 (C l 7).toNatClampNeg / 8 % n
def c_find (C : Nat → Nat → Int32) (f t : Nat) : Nat → Nat → Int32 := zu (zu C f 7 (C f 7 ||| (nI 1 <<< (nI t &&& 31)))) (f + 6) t (-1)
def c_bite (C : Nat → Nat → Int32) (f l t : Nat) : Nat → Nat → Int32 := if C (f + 6) t = -1 then c_miss C l else if zB (C f 6) t then (if c_dn C l 16 < (C f 0).toNatClampNeg then c_find (c_draw C l) f t else c_miss (c_draw C l) l) else c_miss C l
def c_turn (C : Nat → Nat → Int32) (f l p k : Nat) (b : Bool) : Nat → Nat → Int32 := if zB (C (f + 2) p) k = b then c_miss C l else zu C (f + 2) p (C (f + 2) p ^^^ (nI 1 <<< (nI k &&& 31)))
def c_any (C : Nat → Nat → Int32) (f l : Nat) : Nat → Nat → Int32 := if (C f 4).toNatClampNeg = 0 then c_miss C l else c_pass (c_draw (c_draw C l) l) f l (c_dn C l (C f 4).toNatClampNeg) (c_dn (c_draw C l) l (C f 2).toNatClampNeg)
def c_holds (C : Nat → Nat → Int32) (f : Nat) (o : Int32) (x : Nat) (b : Int32) : Bool := if o = nI 8 then decide (C (f + 6) x = b) else if o = nI 17 then decide (C (f + 6) x < 0) else if o = nI 60 then decide (C (f + 4) x < b) else if o = nI 62 then decide (b < C (f + 4) x) else decide (C (f + 4) x = b)
def c_do1 (C : Nat → Nat → Int32) (f l i : Nat) : Nat → Nat → Int32 :=
  if C (f + 13) i = nI 10 then c_pass C f l (C (f + 14) i).toNatClampNeg (C (f + 15) i).toNatClampNeg
  else if C (f + 13) i = nI 11 then c_bite C f l (C (f + 14) i).toNatClampNeg
  else if C (f + 13) i = nI 12 then c_turn C f l (C (f + 14) i).toNatClampNeg (C (f + 15) i).toNatClampNeg true
  else if C (f + 13) i = nI 13 then c_turn C f l (C (f + 14) i).toNatClampNeg (C (f + 15) i).toNatClampNeg false
  else if C (f + 13) i = nI 14 then c_any C f l
  else if C (f + 13) i = nI 20 then zu C l 8 (C (f + 12) 2)
  else if C (f + 13) i = nI 18 then zu C (l + 1) i (C (f + 14) i)
  else if c_holds C f (C (f + 13) i) (C (f + 14) i).toNatClampNeg (C (f + 15) i) then C else zu C l 8 (C (f + 16) i)
def c_do (C : Nat → Nat → Int32) (f l i : Nat) : Nat → Nat → Int32 := zu (c_do1 C f l i) l 8 (c_do1 C f l i l 8 + nI 1)
def c_end (C : Nat → Nat → Int32) (f l i : Nat) : Nat → Nat → Int32 :=
  if C (f + 13) (C (f + 16) i).toNatClampNeg = nI 18 then (if 0 < C (l + 1) (C (f + 16) i).toNatClampNeg - nI 1 then zu (zu C (l + 1) (C (f + 16) i).toNatClampNeg (C (l + 1) (C (f + 16) i).toNatClampNeg - nI 1)) l 8 (nI ((C (f + 16) i).toNatClampNeg + 1)) else zu (zu C (l + 1) (C (f + 16) i).toNatClampNeg (C (l + 1) (C (f + 16) i).toNatClampNeg - nI 1)) l 8 (nI (i + 1))) else zu C l 8 (nI (i + 1))
def c_it (C : Nat → Nat → Int32) (f l : Nat) : Nat → Nat → Int32 :=
  if C (f + 13) (C l 8).toNatClampNeg = nI 19 then c_end C f l (C l 8).toNatClampNeg
  else if (C l 1).toNatClampNeg < 300 then c_do (zu C l 1 (C l 1 + nI 1)) f l (C l 8).toNatClampNeg
  else zu (zu C l 6 (nI 1)) l 8 (C (f + 12) 2)
def c_its (f l : Nat) : Nat → (Nat → Nat → Int32) → (Nat → Nat → Int32)
  | 0, C => C
  | n + 1, C => if (C l 8).toNatClampNeg < (C (f + 12) 2).toNatClampNeg then c_its f l n (c_it C f l) else C
variable {G : zG} {I : Nat → Nat → Int32} {J : Nat → Nat → Int64} {P : Nat → Nat → Option Nat} {S : List (Nat × Nat)} {f l nt np nl nn : Nat} {a b : Int32}
theorem neg1_of {x : Int32} {n : Nat} (h : x = -1 ∨ ∃ p, p < n ∧ x = nI p) (hn : n ≤ 60) : (x < 0 ↔ x = -1) := by
  rcases h with h | ⟨p, hp, h⟩
  · rw [h]; decide
  · rw [h]
    exact ⟨fun g => absurd g (nI_pos (by omega)), fun g => absurd g (nI_m1 (by omega))⟩
theorem t_Life_draw {s n : Nat} (h0 : S[l]? = some (4, 10)) (h1 : I l 7 = nI s) (hs : s < 65536) (hn : 0 < n) (hn2 : n ≤ 16) : zEi G y_Life_draw prog_6_method_10_code 2 (some .int) 2 [.ref l, .int (nI n)] (I, J, P, S) (fun r w => r = nI (c_dn I l n) ∧ w = (c_draw I l, J, P, S)) := by
  have e1 : (65536 : Int32) = nI 65536 := by decide
  have hne : ¬ nI n = 0 := nI_ne0 hn (by omega)
  have hr : s_rnd1 s < 65536 := Nat.mod_lt _ (by decide)
  have e2 : (I l 7).toNatClampNeg = s := by rw [h1, nI_clamp (by omega)]
  unfold c_dn c_draw
  rw [e2]
  refine zEi_of (lv := [some (.ref l), some (.int (nI n))]) (by decide) rfl (Nat.le_of_ble_eq_true rfl) ?_
  refine z_aload_0 d_Life_draw_0 ?_
  refine z_aload_0 d_Life_draw_1 ?_
  refine z_getIv d_Life_draw_2 f_Life_31 (by first | assumption | exact zS0_at (by assumption) (by omega) | exact zS0_at rfl (by omega)) (by first | assumption | ((try simp (disch := omega) only [zu_same, zu_ne, zcp_ne, zfl_ne]); first | assumption | rfl)) ?_
  refine z_sipush (a := nI 2971) d_Life_draw_5 (by decide) ?_
  first | refine z_imulN d_Life_draw_8 ?_ | refine z_imul d_Life_draw_8 ?_
  refine z_sipush (a := nI 10891) d_Life_draw_9 (by decide) ?_
  first | refine z_iaddN d_Life_draw_12 ?_ | refine z_iadd d_Life_draw_12 ?_
  refine z_ldc d_Life_draw_13 c_Life_152 ?_
  rw [e1]
  refine z_irem (by decide) d_Life_draw_15 ?_
  rw [irem_N (by omega) (by decide) (by decide), show (s * 2971 + 10891) % 65536 = s_rnd1 s from rfl]
  generalize s_rnd1 s = z at hr ⊢
  refine z_putI d_Life_draw_16 f_Life_31 (by first | assumption | exact zS0_at (by assumption) (by omega) | exact zS0_at rfl (by omega)) ?_
  refine z_aload_0 d_Life_draw_19 ?_
  refine z_getIv d_Life_draw_20 f_Life_31 (by assumption) (zu_same _ _ _ _) ?_
  refine z_bipush (a := nI 8) d_Life_draw_23 (by decide) ?_
  refine z_idiv (by decide) d_Life_draw_25 ?_
  rw [pk_div (by omega) (by decide) (by decide)]
  refine z_iload_1 d_Life_draw_26 ?_
  refine z_iconst (a := nI 1) d_Life_draw_27 (by decide) ?_
  refine z_max d_Life_draw_28 k_Life_153.2.1 ⟨Nat.le_of_ble_eq_true rfl, Nat.le_of_ble_eq_true rfl, Nat.le_of_ble_eq_true rfl, Nat.le_of_ble_eq_true rfl⟩ (Nat.le_of_ble_eq_true rfl) ?_
  rw [z_maxN (by omega) (by omega), Nat.max_eq_left (by omega)]
  refine z_irem hne d_Life_draw_31 ?_
  rw [irem_N (by omega) hn (by omega)]
  refine z_reti d_Life_draw_32 ?_
  exact ⟨rfl, rfl⟩
theorem t_Life_doPass {t q : Nat} (h0 : S[l]? = some (4, 10)) (F : fenOk P S f) (N : fenIn I f nt np nl nn) (ht : t < nn) (hq : q < np) : zEv G y_Life_doPass prog_6_method_5_code 4 3 0 0 [.ref l, .ref f, .int (nI t), .int (nI q)] (I, J, P, S) (fun w => w = (c_pass I f l t q, J, P, S)) := by
  obtain ⟨F0, ⟨F8, F8s⟩, ⟨F9, F9s⟩, ⟨F10, F10s⟩, ⟨F11, F11s⟩, ⟨F12, F12s⟩, ⟨F13, F13s⟩, ⟨F14, F14s⟩, ⟨F15, F15s⟩, ⟨F16, F16s⟩, ⟨F17, F17s⟩, ⟨F18, F18s⟩, ⟨F19, F19s⟩, ⟨Y3, Y3s⟩, ⟨Y4, Y4s⟩, ⟨Y5, Y5s⟩, ⟨Y6, Y6s⟩⟩ := id F
  obtain ⟨⟨n1, n1b⟩, ⟨n2, n2b⟩, ⟨n3, n3b⟩, ⟨n4, n4b⟩, nof, non⟩ := id N
  obtain ⟨k, hk, hk2⟩ := nof t ht
  unfold c_pass
  refine zEv_of (lv := [some (.ref l), some (.ref f), some (.int (nI t)), some (.int (nI q))]) (by decide) rfl (Nat.le_of_ble_eq_true rfl) ?_
  rcases non t ht with hg | ⟨p, hp, hg⟩
  · rw [if_pos hg]
    refine z_aload_1 d_Life_doPass_0 ?_
    refine z_iload_2 d_Life_doPass_1 ?_
    refine z_iload_3 d_Life_doPass_2 ?_
    refine z_Vi2 d_Life_doPass_3 k_Life_109 (by first | assumption | exact zS0_at (by assumption) (by omega) | exact zS0_at rfl (by omega)) (t_Fen_canHand0 F N ht hg) ⟨Nat.le_of_ble_eq_true rfl, Nat.le_of_ble_eq_true rfl, Nat.le_of_ble_eq_true rfl, Nat.le_of_ble_eq_true rfl⟩ (Nat.le_of_ble_eq_true rfl) ?_
    intro r w hz
    obtain ⟨rfl, rfl⟩ := hz
    refine z_if_eq (tgt := 18) d_Life_doPass_6 (by decide) (fun _ => ?_) (fun h => absurd (by decide) h)
    refine z_aload_0 d_Life_doPass_18 ?_
    refine z_dup rfl d_Life_doPass_19 ?_
    refine z_getIv d_Life_doPass_20 f_Life_25 (by first | assumption | exact zS0_at (by assumption) (by omega) | exact zS0_at rfl (by omega)) (by first | assumption | ((try simp (disch := omega) only [zu_same, zu_ne, zcp_ne, zfl_ne]); first | assumption | rfl)) ?_
    refine z_iconst (a := nI 1) d_Life_doPass_23 (by decide) ?_
    first | refine z_iaddN d_Life_doPass_24 ?_ | refine z_iadd d_Life_doPass_24 ?_
    refine z_putI d_Life_doPass_25 f_Life_25 (by first | assumption | exact zS0_at (by assumption) (by omega) | exact zS0_at rfl (by omega)) ?_
    refine z_retv d_Life_doPass_28 ?_
    rfl
  · rw [if_neg (by rw [hg]; exact nI_m1 (by omega)), hg, hk2, nI_clamp (by omega), nI_clamp (by omega)]
    refine z_aload_1 d_Life_doPass_0 ?_
    refine z_iload_2 d_Life_doPass_1 ?_
    refine z_iload_3 d_Life_doPass_2 ?_
    refine z_Vi2 d_Life_doPass_3 k_Life_109 (by first | assumption | exact zS0_at (by assumption) (by omega) | exact zS0_at rfl (by omega)) (t_Fen_canHand F N ht hk2 hg hp hq) ⟨Nat.le_of_ble_eq_true rfl, Nat.le_of_ble_eq_true rfl, Nat.le_of_ble_eq_true rfl, Nat.le_of_ble_eq_true rfl⟩ (Nat.le_of_ble_eq_true rfl) ?_
    intro r w hz
    rcases hz with ⟨⟨hz, rfl⟩ | ⟨hz, rfl⟩, rfl⟩
    · rw [if_pos (by rw [Bool.and_eq_true]; exact hz)]
      refine z_if_eq (tgt := 18) d_Life_doPass_6 (by decide) (fun h => absurd h (by decide)) (fun _ => ?_)
      refine z_aload_1 d_Life_doPass_9 ?_
      refine z_iload_2 d_Life_doPass_10 ?_
      refine z_iload_3 d_Life_doPass_11 ?_
      refine z_Vv2 d_Life_doPass_12 k_Life_113 (by first | assumption | exact zS0_at (by assumption) (by omega) | exact zS0_at rfl (by omega)) (t_Fen_hand F N ht hk2 hk hg hp) ⟨Nat.le_of_ble_eq_true rfl, Nat.le_of_ble_eq_true rfl, Nat.le_of_ble_eq_true rfl, Nat.le_of_ble_eq_true rfl⟩ (Nat.le_of_ble_eq_true rfl) ?_
      intro w hz
      obtain rfl := hz
      refine z_goto (tgt := 28) d_Life_doPass_15 (by decide) ?_
      refine z_retv d_Life_doPass_28 ?_
      rfl
    · rw [if_neg (by rw [Bool.and_eq_true]; exact hz)]
      refine z_if_eq (tgt := 18) d_Life_doPass_6 (by decide) (fun _ => ?_) (fun h => absurd (by decide) h)
      refine z_aload_0 d_Life_doPass_18 ?_
      refine z_dup rfl d_Life_doPass_19 ?_
      refine z_getIv d_Life_doPass_20 f_Life_25 (by first | assumption | exact zS0_at (by assumption) (by omega) | exact zS0_at rfl (by omega)) (by first | assumption | ((try simp (disch := omega) only [zu_same, zu_ne, zcp_ne, zfl_ne]); first | assumption | rfl)) ?_
      refine z_iconst (a := nI 1) d_Life_doPass_23 (by decide) ?_
      first | refine z_iaddN d_Life_doPass_24 ?_ | refine z_iadd d_Life_doPass_24 ?_
      refine z_putI d_Life_doPass_25 f_Life_25 (by first | assumption | exact zS0_at (by assumption) (by omega) | exact zS0_at rfl (by omega)) ?_
      refine z_retv d_Life_doPass_28 ?_
      rfl
theorem t_Life_doTurn {p k j : Nat} {bb : Bool} (h0 : S[l]? = some (4, 10)) (F : fenOk P S f) (hp : p < 7) (hj : j = 1 ∧ bb = true ∨ j = 0 ∧ bb = false) : zEv G y_Life_doTurn prog_6_method_7_code 5 2 0 0 [.ref l, .ref f, .int (nI p), .int (nI k), .int (nI j)] (I, J, P, S) (fun w => w = (c_turn I f l p k bb, J, P, S)) := by
  obtain ⟨F0, ⟨F8, F8s⟩, ⟨F9, F9s⟩, ⟨F10, F10s⟩, ⟨F11, F11s⟩, ⟨F12, F12s⟩, ⟨F13, F13s⟩, ⟨F14, F14s⟩, ⟨F15, F15s⟩, ⟨F16, F16s⟩, ⟨F17, F17s⟩, ⟨F18, F18s⟩, ⟨F19, F19s⟩, ⟨Y3, Y3s⟩, ⟨Y4, Y4s⟩, ⟨Y5, Y5s⟩, ⟨Y6, Y6s⟩⟩ := id F
  unfold c_turn
  refine zEv_of (lv := [some (.ref l), some (.ref f), some (.int (nI p)), some (.int (nI k)), some (.int (nI j))]) (by decide) rfl (Nat.le_of_ble_eq_true rfl) ?_
  refine z_aload_1 d_Life_doTurn_0 ?_
  refine z_iload_2 d_Life_doTurn_1 ?_
  refine z_iload_3 d_Life_doTurn_2 ?_
  refine z_Vi2 d_Life_doTurn_3 k_Life_134 (by first | assumption | exact zS0_at (by assumption) (by omega) | exact zS0_at rfl (by omega)) (t_Fen_isTrue F hp) ⟨Nat.le_of_ble_eq_true rfl, Nat.le_of_ble_eq_true rfl, Nat.le_of_ble_eq_true rfl, Nat.le_of_ble_eq_true rfl⟩ (Nat.le_of_ble_eq_true rfl) ?_
  intro r w hz
  rcases hz with ⟨⟨hz, rfl⟩ | ⟨hz, rfl⟩, rfl⟩ <;> rcases hj with ⟨rfl, rfl⟩ | ⟨rfl, rfl⟩
  · rw [if_pos hz]
    refine z_iload_4 d_Life_doTurn_6 ?_
    refine z_icmp_ne (tgt := 24) d_Life_doTurn_8 (by decide) (fun h => absurd (by decide) h) (fun _ => ?_)
    refine z_aload_0 d_Life_doTurn_11 ?_
    refine z_dup rfl d_Life_doTurn_12 ?_
    refine z_getIv d_Life_doTurn_13 f_Life_25 (by first | assumption | exact zS0_at (by assumption) (by omega) | exact zS0_at rfl (by omega)) (by first | assumption | ((try simp (disch := omega) only [zu_same, zu_ne, zcp_ne, zfl_ne]); first | assumption | rfl)) ?_
    refine z_iconst (a := nI 1) d_Life_doTurn_16 (by decide) ?_
    first | refine z_iaddN d_Life_doTurn_17 ?_ | refine z_iadd d_Life_doTurn_17 ?_
    refine z_putI d_Life_doTurn_18 f_Life_25 (by first | assumption | exact zS0_at (by assumption) (by omega) | exact zS0_at rfl (by omega)) ?_
    refine z_goto (tgt := 30) d_Life_doTurn_21 (by decide) ?_
    refine z_retv d_Life_doTurn_30 ?_
    rfl
  · rw [if_neg (by rw [hz]; decide)]
    refine z_iload_4 d_Life_doTurn_6 ?_
    refine z_icmp_ne (tgt := 24) d_Life_doTurn_8 (by decide) (fun _ => ?_) (fun h => absurd h (by decide))
    refine z_aload_1 d_Life_doTurn_24 ?_
    refine z_iload_2 d_Life_doTurn_25 ?_
    refine z_iload_3 d_Life_doTurn_26 ?_
    refine z_Vv2 d_Life_doTurn_27 k_Life_137 (by first | assumption | exact zS0_at (by assumption) (by omega) | exact zS0_at rfl (by omega)) (t_Fen_turn F hp) ⟨Nat.le_of_ble_eq_true rfl, Nat.le_of_ble_eq_true rfl, Nat.le_of_ble_eq_true rfl, Nat.le_of_ble_eq_true rfl⟩ (Nat.le_of_ble_eq_true rfl) ?_
    intro w hz
    obtain rfl := hz
    refine z_retv d_Life_doTurn_30 ?_
    rfl
  · rw [if_neg hz]
    refine z_iload_4 d_Life_doTurn_6 ?_
    refine z_icmp_ne (tgt := 24) d_Life_doTurn_8 (by decide) (fun _ => ?_) (fun h => absurd h (by decide))
    refine z_aload_1 d_Life_doTurn_24 ?_
    refine z_iload_2 d_Life_doTurn_25 ?_
    refine z_iload_3 d_Life_doTurn_26 ?_
    refine z_Vv2 d_Life_doTurn_27 k_Life_137 (by first | assumption | exact zS0_at (by assumption) (by omega) | exact zS0_at rfl (by omega)) (t_Fen_turn F hp) ⟨Nat.le_of_ble_eq_true rfl, Nat.le_of_ble_eq_true rfl, Nat.le_of_ble_eq_true rfl, Nat.le_of_ble_eq_true rfl⟩ (Nat.le_of_ble_eq_true rfl) ?_
    intro w hz
    obtain rfl := hz
    refine z_retv d_Life_doTurn_30 ?_
    rfl
  · rw [if_pos (by simpa using hz)]
    refine z_iload_4 d_Life_doTurn_6 ?_
    refine z_icmp_ne (tgt := 24) d_Life_doTurn_8 (by decide) (fun h => absurd (by decide) h) (fun _ => ?_)
    refine z_aload_0 d_Life_doTurn_11 ?_
    refine z_dup rfl d_Life_doTurn_12 ?_
    refine z_getIv d_Life_doTurn_13 f_Life_25 (by first | assumption | exact zS0_at (by assumption) (by omega) | exact zS0_at rfl (by omega)) (by first | assumption | ((try simp (disch := omega) only [zu_same, zu_ne, zcp_ne, zfl_ne]); first | assumption | rfl)) ?_
    refine z_iconst (a := nI 1) d_Life_doTurn_16 (by decide) ?_
    first | refine z_iaddN d_Life_doTurn_17 ?_ | refine z_iadd d_Life_doTurn_17 ?_
    refine z_putI d_Life_doTurn_18 f_Life_25 (by first | assumption | exact zS0_at (by assumption) (by omega) | exact zS0_at rfl (by omega)) ?_
    refine z_goto (tgt := 30) d_Life_doTurn_21 (by decide) ?_
    refine z_retv d_Life_doTurn_30 ?_
    rfl
theorem t_Life_doBite {t s o : Nat} (h0 : S[l]? = some (4, 10)) (F : fenOk P S f) (N : fenIn I f nt np nl nn) (ht : t < nn) (h7 : I l 7 = nI s) (hs : s < 65536) (ho : I f 0 = nI o) (ho2 : o ≤ 16) (hlf : ¬ (f ≤ l ∧ l ≤ f + 16)) : zEv G y_Life_doBite prog_6_method_6_code 3 3 0 0 [.ref l, .ref f, .int (nI t)] (I, J, P, S) (fun w => w = (c_bite I f l t, J, P, S)) := by
  obtain ⟨F0, ⟨F8, F8s⟩, ⟨F9, F9s⟩, ⟨F10, F10s⟩, ⟨F11, F11s⟩, ⟨F12, F12s⟩, ⟨F13, F13s⟩, ⟨F14, F14s⟩, ⟨F15, F15s⟩, ⟨F16, F16s⟩, ⟨F17, F17s⟩, ⟨F18, F18s⟩, ⟨F19, F19s⟩, ⟨Y3, Y3s⟩, ⟨Y4, Y4s⟩, ⟨Y5, Y5s⟩, ⟨Y6, Y6s⟩⟩ := id F
  obtain ⟨⟨n1, n1b⟩, ⟨n2, n2b⟩, ⟨n3, n3b⟩, ⟨n4, n4b⟩, nof, non⟩ := id N
  have hx := neg1_of (non t ht) (by omega)
  have hlt : c_dn I l 16 < 16 := Nat.mod_lt _ (by decide)
  unfold c_bite
  rw [ho, nI_clamp (by omega)]
  refine zEv_of (lv := [some (.ref l), some (.ref f), some (.int (nI t))]) (by decide) rfl (Nat.le_of_ble_eq_true rfl) ?_
  refine z_aload_1 d_Life_doBite_0 ?_
  refine z_iload_2 d_Life_doBite_1 ?_
  refine z_Vi1 d_Life_doBite_2 k_Life_117 (by first | assumption | exact zS0_at (by assumption) (by omega) | exact zS0_at rfl (by omega)) (t_Fen_isGone F (by omega)) ⟨Nat.le_of_ble_eq_true rfl, Nat.le_of_ble_eq_true rfl, Nat.le_of_ble_eq_true rfl, Nat.le_of_ble_eq_true rfl⟩ (Nat.le_of_ble_eq_true rfl) ?_
  intro r w hz
  rcases hz with ⟨⟨hz, rfl⟩ | ⟨hz, rfl⟩, rfl⟩
  · rw [if_pos (hx.mp hz)]
    refine z_if_ne (tgt := 37) d_Life_doBite_5 (by decide) (fun _ => ?_) (fun h => absurd h (by decide))
    refine z_aload_0 d_Life_doBite_37 ?_
    refine z_dup rfl d_Life_doBite_38 ?_
    refine z_getIv d_Life_doBite_39 f_Life_25 (by first | assumption | exact zS0_at (by assumption) (by omega) | exact zS0_at rfl (by omega)) (by first | assumption | ((try simp (disch := omega) only [zu_same, zu_ne, zcp_ne, zfl_ne]); first | assumption | rfl)) ?_
    refine z_iconst (a := nI 1) d_Life_doBite_42 (by decide) ?_
    first | refine z_iaddN d_Life_doBite_43 ?_ | refine z_iadd d_Life_doBite_43 ?_
    refine z_putI d_Life_doBite_44 f_Life_25 (by first | assumption | exact zS0_at (by assumption) (by omega) | exact zS0_at rfl (by omega)) ?_
    refine z_retv d_Life_doBite_47 ?_
    rfl
  · rw [if_neg (fun h => hz (hx.mpr h))]
    refine z_if_ne (tgt := 37) d_Life_doBite_5 (by decide) (fun h => absurd (by decide) h) (fun _ => ?_)
    refine z_aload_1 d_Life_doBite_8 ?_
    refine z_iload_2 d_Life_doBite_9 ?_
    refine z_Vi1 d_Life_doBite_10 k_Life_121 (by first | assumption | exact zS0_at (by assumption) (by omega) | exact zS0_at rfl (by omega)) (t_Fen_isLead F) ⟨Nat.le_of_ble_eq_true rfl, Nat.le_of_ble_eq_true rfl, Nat.le_of_ble_eq_true rfl, Nat.le_of_ble_eq_true rfl⟩ (Nat.le_of_ble_eq_true rfl) ?_
    intro r w hz
    rcases hz with ⟨⟨hz, rfl⟩ | ⟨hz, rfl⟩, rfl⟩
    · rw [if_pos hz]
      refine z_if_eq (tgt := 37) d_Life_doBite_13 (by decide) (fun h => absurd h (by decide)) (fun _ => ?_)
      refine z_aload_0 d_Life_doBite_16 ?_
      refine z_bipush (a := nI 16) d_Life_doBite_17 (by decide) ?_
      refine z_Vi1 d_Life_doBite_19 k_Life_124 (by first | assumption | exact zS0_at (by assumption) (by omega) | exact zS0_at rfl (by omega)) (t_Life_draw h0 h7 hs (by decide) (by decide)) ⟨Nat.le_of_ble_eq_true rfl, Nat.le_of_ble_eq_true rfl, Nat.le_of_ble_eq_true rfl, Nat.le_of_ble_eq_true rfl⟩ (Nat.le_of_ble_eq_true rfl) ?_
      intro r w hz
      obtain ⟨rfl, rfl⟩ := hz
      have hoo : c_draw I l f 0 = nI o := by unfold c_draw; rw [zu_row _ _ _ _ (by omega)]; exact ho
      refine z_aload_1 d_Life_doBite_22 ?_
      refine z_getIv d_Life_doBite_23 f_Life_127 (by first | assumption | exact zS0_at (by assumption) (by omega) | exact zS0_at rfl (by omega)) (by first | assumption | ((try simp (disch := omega) only [zu_same, zu_ne, zcp_ne, zfl_ne]); first | assumption | rfl)) ?_
      refine z_icmp_ge (tgt := 37) d_Life_doBite_26 (by decide) (fun hb => ?_) (fun hb => ?_)
      · have hb := (nI_leI (by omega) (by omega)).mp hb
        rw [if_neg (by omega)]
        refine z_aload_0 d_Life_doBite_37 ?_
        refine z_dup rfl d_Life_doBite_38 ?_
        refine z_getIv d_Life_doBite_39 f_Life_25 (by first | assumption | exact zS0_at (by assumption) (by omega) | exact zS0_at rfl (by omega)) (by first | assumption | ((try simp (disch := omega) only [zu_same, zu_ne, zcp_ne, zfl_ne]); first | assumption | rfl)) ?_
        refine z_iconst (a := nI 1) d_Life_doBite_42 (by decide) ?_
        first | refine z_iaddN d_Life_doBite_43 ?_ | refine z_iadd d_Life_doBite_43 ?_
        refine z_putI d_Life_doBite_44 f_Life_25 (by first | assumption | exact zS0_at (by assumption) (by omega) | exact zS0_at rfl (by omega)) ?_
        refine z_retv d_Life_doBite_47 ?_
        rfl
      · have hb : c_dn I l 16 < o := Nat.lt_of_not_le (fun q => hb (nI_le q (by omega)))
        rw [if_pos hb]
        refine z_aload_1 d_Life_doBite_29 ?_
        refine z_iload_2 d_Life_doBite_30 ?_
        refine z_Vv1 d_Life_doBite_31 k_Life_130 (by first | assumption | exact zS0_at (by assumption) (by omega) | exact zS0_at rfl (by omega)) (t_Fen_find F (by omega)) ⟨Nat.le_of_ble_eq_true rfl, Nat.le_of_ble_eq_true rfl, Nat.le_of_ble_eq_true rfl, Nat.le_of_ble_eq_true rfl⟩ (Nat.le_of_ble_eq_true rfl) ?_
        intro w hz
        obtain rfl := hz
        refine z_goto (tgt := 47) d_Life_doBite_34 (by decide) ?_
        refine z_retv d_Life_doBite_47 ?_
        rfl
    · rw [if_neg hz]
      refine z_if_eq (tgt := 37) d_Life_doBite_13 (by decide) (fun _ => ?_) (fun h => absurd (by decide) h)
      refine z_aload_0 d_Life_doBite_37 ?_
      refine z_dup rfl d_Life_doBite_38 ?_
      refine z_getIv d_Life_doBite_39 f_Life_25 (by first | assumption | exact zS0_at (by assumption) (by omega) | exact zS0_at rfl (by omega)) (by first | assumption | ((try simp (disch := omega) only [zu_same, zu_ne, zcp_ne, zfl_ne]); first | assumption | rfl)) ?_
      refine z_iconst (a := nI 1) d_Life_doBite_42 (by decide) ?_
      first | refine z_iaddN d_Life_doBite_43 ?_ | refine z_iadd d_Life_doBite_43 ?_
      refine z_putI d_Life_doBite_44 f_Life_25 (by first | assumption | exact zS0_at (by assumption) (by omega) | exact zS0_at rfl (by omega)) ?_
      refine z_retv d_Life_doBite_47 ?_
      rfl
theorem fenIn_c {I' : Nat → Nat → Int32} (N : fenIn I f nt np nl nn) (h : ∀ a, f ≤ a → a ≤ f + 8 → I' a = I a) : fenIn I' f nt np nl nn := by
  unfold fenIn
  rw [h f (by omega) (by omega), h (f + 5) (by omega) (by omega), h (f + 6) (by omega) (by omega)]
  exact N
theorem t_Life_doAny {s : Nat} (h0 : S[l]? = some (4, 10)) (F : fenOk P S f) (N : fenIn I f nt np nl nn) (h7 : I l 7 = nI s) (hs : s < 65536) (hnp : 0 < nn → 0 < np) (hlf : ¬ (f ≤ l ∧ l ≤ f + 16)) : zEv G y_Life_doAny prog_6_method_8_code 4 4 0 0 [.ref l, .ref f] (I, J, P, S) (fun w => w = (c_any I f l, J, P, S)) := by
  obtain ⟨F0, ⟨F8, F8s⟩, ⟨F9, F9s⟩, ⟨F10, F10s⟩, ⟨F11, F11s⟩, ⟨F12, F12s⟩, ⟨F13, F13s⟩, ⟨F14, F14s⟩, ⟨F15, F15s⟩, ⟨F16, F16s⟩, ⟨F17, F17s⟩, ⟨F18, F18s⟩, ⟨F19, F19s⟩, ⟨Y3, Y3s⟩, ⟨Y4, Y4s⟩, ⟨Y5, Y5s⟩, ⟨Y6, Y6s⟩⟩ := id F
  obtain ⟨⟨n1, n1b⟩, ⟨n2, n2b⟩, ⟨n3, n3b⟩, ⟨n4, n4b⟩, nof, non⟩ := id N
  unfold c_any
  rw [n4, n2, nI_clamp (by omega), nI_clamp (by omega)]
  refine zEv_of (lv := [some (.ref l), some (.ref f), none, none]) (by decide) rfl (Nat.le_of_ble_eq_true rfl) ?_
  refine z_aload_1 d_Life_doAny_0 ?_
  refine z_getIv d_Life_doAny_1 f_Life_140 (by first | assumption | exact zS0_at (by assumption) (by omega) | exact zS0_at rfl (by omega)) (by first | assumption | ((try simp (disch := omega) only [zu_same, zu_ne, zcp_ne, zfl_ne]); first | assumption | rfl)) ?_
  refine z_iconst (a := nI 1) d_Life_doAny_4 (by decide) ?_
  refine z_icmp_lt (tgt := 16) d_Life_doAny_5 (by decide) (fun hb => ?_) (fun hb => ?_)
  · have hb := (nI_ltI (by omega) (by omega)).mp hb
    rw [if_pos (by omega)]
    refine z_aload_0 d_Life_doAny_16 ?_
    refine z_dup rfl d_Life_doAny_17 ?_
    refine z_getIv d_Life_doAny_18 f_Life_25 (by first | assumption | exact zS0_at (by assumption) (by omega) | exact zS0_at rfl (by omega)) (by first | assumption | ((try simp (disch := omega) only [zu_same, zu_ne, zcp_ne, zfl_ne]); first | assumption | rfl)) ?_
    refine z_iconst (a := nI 1) d_Life_doAny_21 (by decide) ?_
    first | refine z_iaddN d_Life_doAny_22 ?_ | refine z_iadd d_Life_doAny_22 ?_
    refine z_putI d_Life_doAny_23 f_Life_25 (by first | assumption | exact zS0_at (by assumption) (by omega) | exact zS0_at rfl (by omega)) ?_
    refine z_retv d_Life_doAny_26 ?_
    rfl
  · have hb : ¬ nn < 1 := fun h => hb (nI_lt h (by omega))
    have hnp := hnp (by omega)
    rw [if_neg (by omega)]
    have d1 : c_draw I l f 4 = nI nn ∧ c_draw I l f 2 = nI np := by unfold c_draw; rw [zu_row _ _ _ _ (by omega)]; exact ⟨n4, n2⟩
    have d7 : c_draw I l l 7 = nI (s_rnd1 s) := by unfold c_draw; rw [zu_same, h7, nI_clamp (by omega)]
    have hl1 : c_dn I l nn < nn := Nat.mod_lt _ (by omega)
    have hl2 : c_dn (c_draw I l) l np < np := Nat.mod_lt _ (by omega)
    refine z_aload_1 d_Life_doAny_8 ?_
    refine z_getIv d_Life_doAny_9 f_Life_143 (by first | assumption | exact zS0_at (by assumption) (by omega) | exact zS0_at rfl (by omega)) (by first | assumption | ((try simp (disch := omega) only [zu_same, zu_ne, zcp_ne, zfl_ne]); first | assumption | rfl)) ?_
    refine z_iconst (a := nI 1) d_Life_doAny_12 (by decide) ?_
    refine z_icmp_ge (tgt := 27) d_Life_doAny_13 (by decide) (fun _ => ?_) (fun h => absurd (nI_le (show 1 ≤ np by omega) (by omega)) h)
    refine z_aload_0 d_Life_doAny_27 ?_
    refine z_aload_1 d_Life_doAny_28 ?_
    refine z_getIv d_Life_doAny_29 f_Life_140 (by first | assumption | exact zS0_at (by assumption) (by omega) | exact zS0_at rfl (by omega)) (by first | assumption | ((try simp (disch := omega) only [zu_same, zu_ne, zcp_ne, zfl_ne]); first | assumption | rfl)) ?_
    refine z_Vi1 d_Life_doAny_32 k_Life_124 (by first | assumption | exact zS0_at (by assumption) (by omega) | exact zS0_at rfl (by omega)) (t_Life_draw h0 h7 hs (by omega) (by omega)) ⟨Nat.le_of_ble_eq_true rfl, Nat.le_of_ble_eq_true rfl, Nat.le_of_ble_eq_true rfl, Nat.le_of_ble_eq_true rfl⟩ (Nat.le_of_ble_eq_true rfl) ?_
    intro r w hz
    obtain ⟨rfl, rfl⟩ := hz
    have d2 := d1.2
    first | refine z_istore_2 d_Life_doAny_35 rfl ?_ | (refine z_forget_1 ?_; refine z_istore_2 d_Life_doAny_35 rfl ?_)
    refine z_aload_0 d_Life_doAny_36 ?_
    refine z_aload_1 d_Life_doAny_37 ?_
    refine z_getIv d_Life_doAny_38 f_Life_143 (by first | assumption | exact zS0_at (by assumption) (by omega) | exact zS0_at rfl (by omega)) (by first | assumption | ((try simp (disch := omega) only [zu_same, zu_ne, zcp_ne, zfl_ne]); first | assumption | rfl)) ?_
    refine z_Vi1 d_Life_doAny_41 k_Life_124 (by first | assumption | exact zS0_at (by assumption) (by omega) | exact zS0_at rfl (by omega)) (t_Life_draw h0 d7 (Nat.mod_lt _ (by decide)) (by omega) (by omega)) ⟨Nat.le_of_ble_eq_true rfl, Nat.le_of_ble_eq_true rfl, Nat.le_of_ble_eq_true rfl, Nat.le_of_ble_eq_true rfl⟩ (Nat.le_of_ble_eq_true rfl) ?_
    intro r w hz
    obtain ⟨rfl, rfl⟩ := hz
    first | refine z_istore_3 d_Life_doAny_44 rfl ?_ | (refine z_forget_2 ?_; refine z_istore_3 d_Life_doAny_44 rfl ?_)
    refine z_aload_0 d_Life_doAny_45 ?_
    refine z_aload_1 d_Life_doAny_46 ?_
    refine z_iload_2 d_Life_doAny_47 ?_
    refine z_iload_3 d_Life_doAny_48 ?_
    refine z_Vv3 d_Life_doAny_49 k_Life_90 (by first | assumption | exact zS0_at (by assumption) (by omega) | exact zS0_at rfl (by omega)) (t_Life_doPass h0 F (fenIn_c N (fun a g1 g2 => by unfold c_draw; rw [zu_row _ _ _ _ (by omega), zu_row _ _ _ _ (by omega)])) hl1 hl2) ⟨Nat.le_of_ble_eq_true rfl, Nat.le_of_ble_eq_true rfl, Nat.le_of_ble_eq_true rfl, Nat.le_of_ble_eq_true rfl⟩ (Nat.le_of_ble_eq_true rfl) ?_
    intro w hz
    obtain rfl := hz
    refine z_retv d_Life_doAny_52 ?_
    rfl
theorem t_Life_holds {o x : Nat} (F : fenOk P S f) (N : fenIn I f nt np nl nn) (ho : (o = 8 ∧ x < nn) ∨ (o = 17 ∧ x < nn) ∨ ((o = 60 ∨ o = 61 ∨ o = 62) ∧ x < np)) : zEi G y_Life_holds prog_6_method_9_code 4 (some .boolean) 2 [.ref f, .int (nI o), .int (nI x), .int b] (I, J, P, S) (fun r w => (c_holds I f (nI o) x b = true ∧ r = nI 1 ∨ ¬ c_holds I f (nI o) x b = true ∧ r = nI 0) ∧ w = (I, J, P, S)) := by
  obtain ⟨F0, ⟨F8, F8s⟩, ⟨F9, F9s⟩, ⟨F10, F10s⟩, ⟨F11, F11s⟩, ⟨F12, F12s⟩, ⟨F13, F13s⟩, ⟨F14, F14s⟩, ⟨F15, F15s⟩, ⟨F16, F16s⟩, ⟨F17, F17s⟩, ⟨F18, F18s⟩, ⟨F19, F19s⟩, ⟨Y3, Y3s⟩, ⟨Y4, Y4s⟩, ⟨Y5, Y5s⟩, ⟨Y6, Y6s⟩⟩ := id F
  obtain ⟨⟨n1, n1b⟩, ⟨n2, n2b⟩, ⟨n3, n3b⟩, ⟨n4, n4b⟩, nof, non⟩ := id N
  refine zEi_of (lv := [some (.ref f), some (.int (nI o)), some (.int (nI x)), some (.int b)]) (by decide) rfl (Nat.le_of_ble_eq_true rfl) ?_
  unfold c_holds
  rcases ho with ⟨rfl, hx⟩ | ⟨rfl, hx⟩ | ⟨rfl | rfl | rfl, hx⟩
  · rw [if_pos rfl]
    refine z_iload_1 d_Life_holds_0 ?_
    refine z_lookup (off := 43) (tgt := 44) d_Life_holds_1 (by decide) (by decide) (by decide) ?_
    refine z_aload_0 d_Life_holds_44 ?_
    refine z_getR d_Life_holds_45 f_Life_146 (by first | assumption | exact zS0_at (by assumption) (by omega) | exact zS0_at rfl (by omega)) (by first | assumption | exact zS0_at (by assumption) (by omega) | exact zS0_at rfl (by omega)) ?_
    refine z_iload_2 d_Life_holds_48 ?_
    first | refine z_ialdNv d_Life_holds_49 (by first | assumption | exact zS0_at (by assumption) (by omega) | exact zS0_at rfl (by omega)) (by omega) (by first | decide | omega) (by first | assumption | ((try simp (disch := omega) only [zu_same, zu_ne, zcp_ne, zfl_ne]); first | assumption | rfl)) ?_ | refine z_iald d_Life_holds_49 (by first | assumption | exact zS0_at (by assumption) (by omega) | exact zS0_at rfl (by omega)) (by first | assumption | exact zS0_at (by assumption) (by omega) | exact zS0_at rfl (by omega)) ?_
    refine z_iload_3 d_Life_holds_50 ?_
    refine z_icmp_ne (tgt := 58) d_Life_holds_51 (by decide) (fun h51 => ?_) (fun h51 => ?_)
    · first
      | (simp (disch := omega) only [← nI_0, nI_leI, nI_ltI, nI_eq, not_true_eq_false, not_false_eq_true] at h51; done)
      | (simp (disch := omega) only [← nI_0, nI_leI, nI_ltI, nI_eq, not_true_eq_false, not_false_eq_true] at h51; omega)
      | contradiction
      | exact absurd h51 (Int32.not_lt.mpr (by assumption))
      | exact absurd h51 (Int32.not_le.mpr (by assumption))
      | exact absurd h51 (by decide)
      | exact absurd (by decide) h51
      | ( try simp (disch := omega) only [← nI_0, nI_leI, nI_ltI, nI_eq, not_true_eq_false, not_false_eq_true] at h51
          refine z_iconst (a := nI 0) d_Life_holds_58 (by decide) ?_
          refine z_retz d_Life_holds_59 (by first | exact zb0 | exact zb1 | assumption) ?_
          first | exact ⟨Or.inl ⟨decide_eq_true (by assumption), rfl⟩, rfl⟩ | exact ⟨Or.inr ⟨fun h => absurd (of_decide_eq_true h) (by assumption), rfl⟩, rfl⟩)
    · first
      | (simp (disch := omega) only [← nI_0, nI_leI, nI_ltI, nI_eq, not_true_eq_false, not_false_eq_true] at h51; done)
      | (simp (disch := omega) only [← nI_0, nI_leI, nI_ltI, nI_eq, not_true_eq_false, not_false_eq_true] at h51; omega)
      | contradiction
      | exact absurd h51 (Int32.not_lt.mpr (by assumption))
      | exact absurd h51 (Int32.not_le.mpr (by assumption))
      | exact absurd h51 (by decide)
      | exact absurd (by decide) h51
      | ( try simp (disch := omega) only [← nI_0, nI_leI, nI_ltI, nI_eq, not_true_eq_false, not_false_eq_true] at h51
          refine z_iconst (a := nI 1) d_Life_holds_54 (by decide) ?_
          refine z_goto (tgt := 59) d_Life_holds_55 (by decide) ?_
          refine z_retz d_Life_holds_59 (by first | exact zb0 | exact zb1 | assumption) ?_
          first | exact ⟨Or.inl ⟨decide_eq_true (by assumption), rfl⟩, rfl⟩ | exact ⟨Or.inr ⟨fun h => absurd (of_decide_eq_true h) (by assumption), rfl⟩, rfl⟩)
  · rw [if_neg (by decide), if_pos rfl]
    refine z_iload_1 d_Life_holds_0 ?_
    refine z_lookup (off := 59) (tgt := 60) d_Life_holds_1 (by decide) (by decide) (by decide) ?_
    refine z_aload_0 d_Life_holds_60 ?_
    refine z_iload_2 d_Life_holds_61 ?_
    refine z_Vi1 d_Life_holds_62 k_Life_117 (by first | assumption | exact zS0_at (by assumption) (by omega) | exact zS0_at rfl (by omega)) (t_Fen_isGone F (by omega)) ⟨Nat.le_of_ble_eq_true rfl, Nat.le_of_ble_eq_true rfl, Nat.le_of_ble_eq_true rfl, Nat.le_of_ble_eq_true rfl⟩ (Nat.le_of_ble_eq_true rfl) ?_
    intro r w hz
    rcases hz with ⟨⟨hz, rfl⟩ | ⟨hz, rfl⟩, rfl⟩
    · refine z_retz d_Life_holds_65 (by first | exact zb0 | exact zb1 | assumption) ?_
      exact ⟨Or.inl ⟨decide_eq_true hz, rfl⟩, rfl⟩
    · refine z_retz d_Life_holds_65 (by first | exact zb0 | exact zb1 | assumption) ?_
      exact ⟨Or.inr ⟨fun h => hz (of_decide_eq_true h), rfl⟩, rfl⟩
  · rw [if_neg (by decide), if_neg (by decide), if_pos rfl]
    refine z_iload_1 d_Life_holds_0 ?_
    refine z_lookup (off := 65) (tgt := 66) d_Life_holds_1 (by decide) (by decide) (by decide) ?_
    refine z_aload_0 d_Life_holds_66 ?_
    refine z_getR d_Life_holds_67 f_Life_149 (by first | assumption | exact zS0_at (by assumption) (by omega) | exact zS0_at rfl (by omega)) (by first | assumption | exact zS0_at (by assumption) (by omega) | exact zS0_at rfl (by omega)) ?_
    refine z_iload_2 d_Life_holds_70 ?_
    first | refine z_ialdNv d_Life_holds_71 (by first | assumption | exact zS0_at (by assumption) (by omega) | exact zS0_at rfl (by omega)) (by omega) (by first | decide | omega) (by first | assumption | ((try simp (disch := omega) only [zu_same, zu_ne, zcp_ne, zfl_ne]); first | assumption | rfl)) ?_ | refine z_iald d_Life_holds_71 (by first | assumption | exact zS0_at (by assumption) (by omega) | exact zS0_at rfl (by omega)) (by first | assumption | exact zS0_at (by assumption) (by omega) | exact zS0_at rfl (by omega)) ?_
    refine z_iload_3 d_Life_holds_72 ?_
    refine z_icmp_ge (tgt := 80) d_Life_holds_73 (by decide) (fun hb => ?_) (fun hb => ?_)
    · refine z_iconst (a := nI 0) d_Life_holds_80 (by decide) ?_
      refine z_retz d_Life_holds_81 (by first | exact zb0 | exact zb1 | assumption) ?_
      exact ⟨Or.inr ⟨fun h => absurd (of_decide_eq_true h) (Int32.not_lt.mpr hb), rfl⟩, rfl⟩
    · refine z_iconst (a := nI 1) d_Life_holds_76 (by decide) ?_
      refine z_goto (tgt := 81) d_Life_holds_77 (by decide) ?_
      refine z_retz d_Life_holds_81 (by first | exact zb0 | exact zb1 | assumption) ?_
      exact ⟨Or.inl ⟨decide_eq_true (Int32.not_le.mp hb), rfl⟩, rfl⟩
  · rw [if_neg (by decide), if_neg (by decide), if_neg (by decide), if_neg (by decide)]
    refine z_iload_1 d_Life_holds_0 ?_
    refine z_lookup (off := 97) (tgt := 98) d_Life_holds_1 (by decide) (by decide) (by decide) ?_
    refine z_aload_0 d_Life_holds_98 ?_
    refine z_getR d_Life_holds_99 f_Life_149 (by first | assumption | exact zS0_at (by assumption) (by omega) | exact zS0_at rfl (by omega)) (by first | assumption | exact zS0_at (by assumption) (by omega) | exact zS0_at rfl (by omega)) ?_
    refine z_iload_2 d_Life_holds_102 ?_
    first | refine z_ialdNv d_Life_holds_103 (by first | assumption | exact zS0_at (by assumption) (by omega) | exact zS0_at rfl (by omega)) (by omega) (by first | decide | omega) (by first | assumption | ((try simp (disch := omega) only [zu_same, zu_ne, zcp_ne, zfl_ne]); first | assumption | rfl)) ?_ | refine z_iald d_Life_holds_103 (by first | assumption | exact zS0_at (by assumption) (by omega) | exact zS0_at rfl (by omega)) (by first | assumption | exact zS0_at (by assumption) (by omega) | exact zS0_at rfl (by omega)) ?_
    refine z_iload_3 d_Life_holds_104 ?_
    refine z_icmp_ne (tgt := 112) d_Life_holds_105 (by decide) (fun hb => ?_) (fun hb => ?_)
    · refine z_iconst (a := nI 0) d_Life_holds_112 (by decide) ?_
      refine z_retz d_Life_holds_113 (by first | exact zb0 | exact zb1 | assumption) ?_
      exact ⟨Or.inr ⟨fun h => hb (of_decide_eq_true h), rfl⟩, rfl⟩
    · refine z_iconst (a := nI 1) d_Life_holds_108 (by decide) ?_
      refine z_goto (tgt := 113) d_Life_holds_109 (by decide) ?_
      refine z_retz d_Life_holds_113 (by first | exact zb0 | exact zb1 | assumption) ?_
      exact ⟨Or.inl ⟨decide_eq_true hb, rfl⟩, rfl⟩
  · rw [if_neg (by decide), if_neg (by decide), if_neg (by decide), if_pos rfl]
    refine z_iload_1 d_Life_holds_0 ?_
    refine z_lookup (off := 81) (tgt := 82) d_Life_holds_1 (by decide) (by decide) (by decide) ?_
    refine z_aload_0 d_Life_holds_82 ?_
    refine z_getR d_Life_holds_83 f_Life_149 (by first | assumption | exact zS0_at (by assumption) (by omega) | exact zS0_at rfl (by omega)) (by first | assumption | exact zS0_at (by assumption) (by omega) | exact zS0_at rfl (by omega)) ?_
    refine z_iload_2 d_Life_holds_86 ?_
    first | refine z_ialdNv d_Life_holds_87 (by first | assumption | exact zS0_at (by assumption) (by omega) | exact zS0_at rfl (by omega)) (by omega) (by first | decide | omega) (by first | assumption | ((try simp (disch := omega) only [zu_same, zu_ne, zcp_ne, zfl_ne]); first | assumption | rfl)) ?_ | refine z_iald d_Life_holds_87 (by first | assumption | exact zS0_at (by assumption) (by omega) | exact zS0_at rfl (by omega)) (by first | assumption | exact zS0_at (by assumption) (by omega) | exact zS0_at rfl (by omega)) ?_
    refine z_iload_3 d_Life_holds_88 ?_
    refine z_icmp_le (tgt := 96) d_Life_holds_89 (by decide) (fun hb => ?_) (fun hb => ?_)
    · refine z_iconst (a := nI 0) d_Life_holds_96 (by decide) ?_
      refine z_retz d_Life_holds_97 (by first | exact zb0 | exact zb1 | assumption) ?_
      exact ⟨Or.inr ⟨fun h => absurd (of_decide_eq_true h) (Int32.not_lt.mpr hb), rfl⟩, rfl⟩
    · refine z_iconst (a := nI 1) d_Life_holds_92 (by decide) ?_
      refine z_goto (tgt := 97) d_Life_holds_93 (by decide) ?_
      refine z_retz d_Life_holds_97 (by first | exact zb0 | exact zb1 | assumption) ?_
      exact ⟨Or.inl ⟨decide_eq_true (Int32.not_le.mp hb), rfl⟩, rfl⟩
end LF0
