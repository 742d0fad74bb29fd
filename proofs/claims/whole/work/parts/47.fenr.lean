/-! a FEN's text, in pure words; the class's reader of it -/
section PF0
def sf {α : Type} (f : Nat) (I : Nat → Nat → α) : Nat → Nat → α := fun i => I (f + i)
theorem sf_zu {α : Type} {f : Nat} {I : Nat → Nat → α} {i k : Nat} {x : α} : sf f (zu I (f + i) k x) = zu (sf f I) i k x := by
  funext j y
  by_cases h : j = i ∧ y = k
  · obtain ⟨rfl, rfl⟩ := h
    simp [sf, zu]
  · have : ¬ (f + j = f + i ∧ y = k) := by omega
    simp only [sf, zu, if_neg h, if_neg this]
theorem sf_zu0 {α : Type} {f : Nat} {I : Nat → Nat → α} {k : Nat} {x : α} : sf f (zu I f k x) = zu (sf f I) 0 k x := sf_zu (i := 0)
theorem sf_out {α : Type} {f a k : Nat} {I : Nat → Nat → α} {x : α} (h : a < f) : sf f (zu I a k x) = sf f I := by
  funext j y
  show zu I a k x (f + j) y = I (f + j) y
  rw [zu_ne _ _ _ _ (by omega)]
/-- a FEN as it is read: how many traits, people, lanes, tins; whether the odds are told; its rows -/
abbrev pS : Type := (Nat × Nat × Nat × Nat × Nat) × (Nat → Nat → Int32) × (Nat → Nat → Int64)
def p_newn (a : tk → tk) (s : pS) (t : tk) : pR (Int64 × tk) := if p_isN t then (if 0 ≤ s_idx (s.2.2 9) (twd t) s.1.1 0 ∨ 0 ≤ s_idx (s.2.2 10) (twd t) s.1.2.1 0 ∨ 0 ≤ s_idx (s.2.2 11) (twd t) s.1.2.2.2.1 0 then .inl (3, tst t) else .inr (twd t, a t)) else .inl (p_mis t)
def p_odds (a : tk → tk) (s : pS) (t : tk) : pR (pS × tk) := if s.1.2.2.2.2 = 0 then pb (p_numb a (nI 0) (nI 16) (a t)) (fun v => pb (p_semi a v.2) (fun t' => .inr (((s.1.1, s.1.2.1, s.1.2.2.1, s.1.2.2.2.1, 1), zu s.2.1 0 0 v.1, s.2.2), t'))) else .inl (5, tst t)
def p_trait (a : tk → tk) (s : pS) (t : tk) : pR (pS × tk) := if s.1.1 < 6 then pb (p_newn a s (a t)) (fun n => pb (p_word a (nI 2) n.2) (fun t1 => pb (p_numb a (nI 0) (nI 99) t1) (fun v => pb (p_semi a v.2) (fun t' => .inr (((s.1.1 + 1, s.1.2.1, s.1.2.2.1, s.1.2.2.2.1, s.1.2.2.2.2), zu (zu s.2.1 1 s.1.1 v.1) 0 1 (nI (s.1.1 + 1)), zu s.2.2 9 s.1.1 n.1), t'))))) else .inl (6, tst t)
def p_truths (a : tk → tk) (N : Nat → Int64) (nt : Nat) : Nat → Int32 → tk → pR (Int32 × tk)
  | 0, s, t => .inr (s, t)
  | n + 1, s, t => if p_isN t then pb (p_known N nt t) (fun k => if zB s k.toNatClampNeg then .inl (5, tst t) else p_truths a N nt n (s ||| (nI 1 <<< (k &&& 31))) (a t)) else .inr (s, t)
def p_person (a : tk → tk) (s : pS) (t : tk) : pR (pS × tk) := if s.1.2.1 < 7 then pb (p_newn a s (a t)) (fun n => pb (if tkw n.2 = nI 4 then p_truths a (s.2.2 9) s.1.1 7 (nI 0) (a n.2) else .inr (nI 0, n.2)) (fun v => pb (p_semi a v.2) (fun t' => .inr (((s.1.1, s.1.2.1 + 1, s.1.2.2.1, s.1.2.2.2.1, s.1.2.2.2.2), zu (zu (zu (zu s.2.1 2 s.1.2.1 v.1) 3 s.1.2.1 (nI 0)) 4 s.1.2.1 (nI 0)) 0 2 (nI (s.1.2.1 + 1)), zu s.2.2 10 s.1.2.1 n.1), t')))) else .inl (6, tst t)
def p_lane (a : tk → tk) (s : pS) (t : tk) : pR (pS × tk) := if s.1.2.2.1 < 12 then pb (p_known (s.2.2 10) s.1.2.1 (a t)) (fun k => pb (p_known (s.2.2 10) s.1.2.1 (a (a t))) (fun m => if m = k then .inl (5, tst (a (a t))) else pb (p_semi a (a (a (a t)))) (fun t' => .inr (((s.1.1, s.1.2.1, s.1.2.2.1 + 1, s.1.2.2.2.1, s.1.2.2.2.2), zu (zu (zu s.2.1 3 k.toNatClampNeg (s.2.1 3 k.toNatClampNeg ||| (nI 1 <<< (m &&& 31)))) 3 m.toNatClampNeg (s.2.1 3 m.toNatClampNeg ||| (nI 1 <<< (k &&& 31)))) 0 3 (nI (s.1.2.2.1 + 1)), s.2.2), t')))) else .inl (6, tst t)
def p_addT (s : pS) (k p : Int32) (ld : Bool) (n : Int64) : pS := ((s.1.1, s.1.2.1, s.1.2.2.1, s.1.2.2.2.1 + 1, s.1.2.2.2.2), zu (if ld then zu (s_addTin s.2.1 0 s.1.2.2.2.1 k p) 0 6 (s.2.1 0 6 ||| (nI 1 <<< (nI s.1.2.2.2.1 &&& 31))) else s_addTin s.2.1 0 s.1.2.2.2.1 k p) 0 4 (nI (s.1.2.2.2.1 + 1)), zu s.2.2 11 s.1.2.2.2.1 n)
def p_tin (a : tk → tk) (s : pS) (t : tk) : pR (pS × tk) := if s.1.2.2.2.1 < 9 then pb (p_newn a s (a t)) (fun n => pb (p_word a (nI 7) n.2) (fun t1 => pb (p_known (s.2.2 9) s.1.1 t1) (fun k => pb (p_word a (nI 8) (a t1)) (fun t2 => pb (p_known (s.2.2 10) s.1.2.1 t2) (fun p => pb (p_semi a (if tkw (a t2) = nI 9 then a (a t2) else a t2)) (fun t' => .inr (p_addT s k p (decide (tkw (a t2) = nI 9)) n.1, t'))))))) else .inl (6, tst t)
def p_part (a : tk → tk) (s : pS) (t : tk) : pR (pS × tk) := if tkw t = nI 0 then p_odds a s t else if tkw t = nI 1 then p_trait a s t else if tkw t = nI 3 then p_person a s t else if tkw t = nI 5 then p_lane a s t else if tkw t = nI 6 then p_tin a s t else .inl (p_mis t)
def p_parts (a : tk → tk) : Nat → pS → tk → pR pS
  | 0, s, _ => .inr s
  | n + 1, s, t => if tkd t = 0 then .inr s else pb (p_part a s t) (fun x => p_parts a n x.1 x.2)
end PF0
section PF1
variable {G : zG} {I I1 I2 : Nat → Nat → Int32} {J J1 J2 : Nat → Nat → Int64} {P : Nat → Nat → Option Nat} {S : List (Nat × Nat)} {L f : Nat} {T : Nat → Int32} {K : Nat → Int64} {t t' : tk} {s : pS} {e : Nat × Nat} {w : zW}
/-- what a FEN's reading leaves as it is -/
def frF {α : Type} (f : Nat) (I I' : Nat → Nat → α) : Prop := ∀ a, a ≠ 11 → a ≠ 15 → ¬ (f ≤ a ∧ a ≤ f + 12) → I' a = I a
theorem frF_r {α : Type} {I : Nat → Nat → α} : frF f I I := fun _ _ _ _ => rfl
theorem frF_t {α : Type} {I I1 I2 : Nat → Nat → α} (h1 : frF f I I1) (h2 : frF f I1 I2) : frF f I I2 := fun a g1 g2 g3 => (h2 a g1 g2 g3).trans (h1 a g1 g2 g3)
theorem frF_u {α : Type} {I I1 : Nat → Nat → α} {a k : Nat} {x : α} (h1 : frF f I I1) (h : a = 11 ∨ a = 15 ∨ (f ≤ a ∧ a ≤ f + 12)) : frF f I (zu I1 a k x) := fun b g1 g2 g3 => (zu_row _ _ _ _ (by omega)).trans (h1 b g1 g2 g3)
theorem frF_tk (h : tkF I I1) : frF f I I1 := fun a g1 _ _ => h.1 a g1
theorem frF_tj (h : tkJ J J1) : frF f J J1 := fun a g1 _ _ => h a g1
def frC (T : Nat → Int32) (K : Nat → Int64) (L f : Nat) (I : Nat → Nat → Int32) (J : Nat → Nat → Int64) (P : Nat → Nat → Option Nat) (S : List (Nat × Nat)) (s : pS) (t : tk) : Prop := tkC T K 1 900 L I J P S t ∧ fenOk P S f ∧ (S[15]? = some (1, 2) ∧ P 15 0 = some 11 ∧ 17 < f) ∧ (sf f I = s.2.1 ∧ sf f J = s.2.2) ∧ (I f 1 = nI s.1.1 ∧ s.1.1 ≤ 6) ∧ (I f 2 = nI s.1.2.1 ∧ s.1.2.1 ≤ 7) ∧ (I f 3 = nI s.1.2.2.1 ∧ s.1.2.2.1 ≤ 12) ∧ (I f 4 = nI s.1.2.2.2.1 ∧ s.1.2.2.2.1 ≤ 9) ∧ (I 15 1 = nI s.1.2.2.2.2 ∧ s.1.2.2.2.2 ≤ 1) ∧ I 11 10 = nI 0 ∧ I 11 11 = -1
def frN (T : Nat → Int32) (K : Nat → Int64) (L f : Nat) (I : Nat → Nat → Int32) (J : Nat → Nat → Int64) (P : Nat → Nat → Option Nat) (S : List (Nat × Nat)) (x : pS × tk) (w : zW) : Prop := ∃ I' J', w = (I', J', P, S) ∧ frF f I I' ∧ frF f J J' ∧ frC T K L f I' J' P S x.1 x.2
def frE (f : Nat) (I : Nat → Nat → Int32) (J : Nat → Nat → Int64) (P : Nat → Nat → Option Nat) (S : List (Nat × Nat)) (e : Nat × Nat) (w : zW) : Prop := ∃ I' J', w = (I', J', P, S) ∧ frF f I I' ∧ frF f J J' ∧ I' 11 10 = nI e.1 ∧ I' 11 11 = nI e.2
theorem frN_tk (C : frC T K L f I J P S s t) (h : tkN T K 1 900 L I J P S t' w) : frN T K L f I J P S (s, t') w := by
  obtain ⟨I1, J1, rfl, h1, h2, h3⟩ := h
  obtain ⟨-, c1, c2, ⟨c3, c3b⟩, c4, c5, c6, c7, c8, c9, c10⟩ := C
  have e1 : I1 f = I f := h1.1 f (by omega)
  refine ⟨I1, J1, rfl, frF_tk h1, frF_tj h2, h3, c1, c2, ⟨?_, ?_⟩, ?_, ?_, ?_, ?_, ?_, h1.2.2.1.trans c9, h1.2.2.2.trans c10⟩
  · rw [← c3]; funext i; exact h1.1 (f + i) (by omega)
  · rw [← c3b]; funext i; exact h2 (f + i) (by omega)
  · rw [e1]; exact c4
  · rw [e1]; exact c5
  · rw [e1]; exact c6
  · rw [e1]; exact c7
  · rw [h1.1 15 (by decide)]; exact c8
theorem frE_tk (h : tkE I J P S e w) : frE f I J P S e w := by
  obtain ⟨I1, J1, rfl, h1, h2⟩ := h
  exact ⟨I1, J1, rfl, fun a g _ _ => h1.1 a g, frF_tj h2, h1.2.1, h1.2.2⟩
theorem frN_t {x : pS × tk} (h1 : frF f I I1) (h2 : frF f J J1) (h : frN T K L f I1 J1 P S x w) : frN T K L f I J P S x w := by
  obtain ⟨I2, J2, rfl, g1, g2, g3⟩ := h
  exact ⟨I2, J2, rfl, frF_t h1 g1, frF_t h2 g2, g3⟩
theorem frE_t (h1 : frF f I I1) (h2 : frF f J J1) (h : frE f I1 J1 P S e w) : frE f I J P S e w := by
  obtain ⟨I2, J2, rfl, g1, g2, g3⟩ := h
  exact ⟨I2, J2, rfl, frF_t h1 g1, frF_t h2 g2, g3⟩
theorem tkC_c {q l : Nat} (C : tkC T K q l L I J P S t) (h1 : I1 11 = I 11) (h2 : I1 q = I q) (h3 : J1 11 = J 11) (h4 : J1 13 = J 13) : tkC T K q l L I1 J1 P S t := by
  obtain ⟨c1, c2, c3, c4, c5, c6, c7⟩ := C
  refine ⟨c1, c2, by rw [h1]; exact c3, h2.trans c4, h4.trans c5, ?_, c7⟩
  obtain ⟨d1, d2, d3, d4, d5⟩ := c6
  unfold tokAt
  rw [h1, h3]
  exact ⟨d1, d2, d3, d4, d5⟩
theorem frC_n {nt np nl nn od : Nat} {A : Nat → Nat → Int32} {B : Nat → Nat → Int64} (C : frC T K L f I J P S ((nt, np, nl, nn, od), A, B) t) : (I f 1 = nI nt ∧ nt ≤ 6) ∧ (I f 2 = nI np ∧ np ≤ 7) ∧ (I f 3 = nI nl ∧ nl ≤ 12) ∧ (I f 4 = nI nn ∧ nn ≤ 9) ∧ I 15 1 = nI od ∧ I 11 7 = tkw t ∧ J 11 6 = twd t ∧ I 11 4 = nI (tkd t) ∧ tkd t < 9 ∧ sf f I = A ∧ sf f J = B := by
  have h9 := tkC_9 C.1
  obtain ⟨⟨-, -, -, -, -, c0, -⟩, c1, c2, c3, c4, c5, c6, c7, c8⟩ := C
  exact ⟨c4, c5, c6, c7, c8.1.1, c0.2.2.2.2.1, c0.2.2.2.1, c0.2.1, h9, c3.1, c3.2⟩
theorem p_isN_wd (h : p_isN t = true) : ¬ lg_cmp (twd t) (lN 0) = 0 := by
  rw [lg_cmp_eq]
  unfold p_isN at h
  simp only [Bool.and_eq_true, Bool.not_eq_true', decide_eq_false_iff_not] at h
  exact h.1.2
theorem p_newn_3 {a : tk → tk} (hb : p_isN t = true) (h : 0 ≤ s_idx (s.2.2 9) (twd t) s.1.1 0 ∨ 0 ≤ s_idx (s.2.2 10) (twd t) s.1.2.1 0 ∨ 0 ≤ s_idx (s.2.2 11) (twd t) s.1.2.2.2.1 0) : p_newn a s t = .inl (3, tst t) := by unfold p_newn; rw [if_pos hb, if_pos h]
theorem p_newn_ok {a : tk → tk} (hb : p_isN t = true) (h : ¬ (0 ≤ s_idx (s.2.2 9) (twd t) s.1.1 0 ∨ 0 ≤ s_idx (s.2.2 10) (twd t) s.1.2.1 0 ∨ 0 ≤ s_idx (s.2.2 11) (twd t) s.1.2.2.2.1 0)) : p_newn a s t = .inr (twd t, a t) := by unfold p_newn; rw [if_pos hb, if_neg h]
theorem p_newn_m {a : tk → tk} (hb : ¬ p_isN t = true) : p_newn a s t = .inl (p_mis t) := by unfold p_newn; rw [if_neg hb]
theorem t_FenR_takeNewName {nt np nl nn od : Nat} {A : Nat → Nat → Int32} {B : Nat → Nat → Int64} (C : frC T K L f I J P S ((nt, np, nl, nn, od), A, B) t) : zEl G y_FenR_takeNewName prog_3_method_10_code 5 (some .long) 3 [.ref 15, .ref f] (I, J, P, S) (fun r w => pQ (p_newn (tA T L K) ((nt, np, nl, nn, od), A, B) t) (fun e => r = lN 0 ∧ tkE I J P S e w) (fun v => r = v.1 ∧ ¬ lg_cmp v.1 (lN 0) = 0 ∧ tkN T K 1 900 L I J P S v.2 w)) := by
  obtain ⟨⟨k1, k1b⟩, ⟨k2, k2b⟩, ⟨k3, k3b⟩, ⟨k4, k4b⟩, k5, k6, k7, k8, k9, kA, kB⟩ := frC_n C
  have hB9 : B 9 = J (f + 9) := by rw [← kB]; rfl
  have hB10 : B 10 = J (f + 10) := by rw [← kB]; rfl
  have hB11 : B 11 = J (f + 11) := by rw [← kB]; rfl
  have F := C.2.1
  obtain ⟨R0, R1, hf⟩ := C.2.2.1
  have X0 := C.1.1.1
  obtain ⟨F0, ⟨F8, F8s⟩, ⟨F9, F9s⟩, ⟨F10, F10s⟩, ⟨F11, F11s⟩, ⟨F12, F12s⟩, ⟨F13, F13s⟩, ⟨F14, F14s⟩, ⟨F15, F15s⟩, ⟨F16, F16s⟩, ⟨F17, F17s⟩, ⟨F18, F18s⟩, ⟨F19, F19s⟩, ⟨Y3, Y3s⟩, ⟨Y4, Y4s⟩, ⟨Y5, Y5s⟩, ⟨Y6, Y6s⟩⟩ := id F
  refine zEl_of (lv := [some (.ref 15), some (.ref f), none, none, none]) (by decide) rfl (Nat.le_of_ble_eq_true rfl) ?_
  refine z_aload_0 d_FenR_takeNewName_0 ?_
  refine z_getR d_FenR_takeNewName_1 f_FenR_9 (by first | assumption | exact zS0_at (by assumption) (by omega) | exact zS0_at rfl (by omega)) (by first | assumption | exact zS0_at (by assumption) (by omega) | exact zS0_at rfl (by omega)) ?_
  refine z_Vi0 d_FenR_takeNewName_4 k_FenR_101 (by first | assumption | exact zS0_at (by assumption) (by omega) | exact zS0_at rfl (by omega)) (t_Tok_isName C.1) ⟨Nat.le_of_ble_eq_true rfl, Nat.le_of_ble_eq_true rfl, Nat.le_of_ble_eq_true rfl, Nat.le_of_ble_eq_true rfl⟩ (Nat.le_of_ble_eq_true rfl) ?_
  intro r w hq
  rcases hq with ⟨⟨hb, rfl⟩ | ⟨hb, rfl⟩, rfl⟩
  · refine z_if_ne (tgt := 20) d_FenR_takeNewName_7 (by decide) (fun _ => ?_) (fun h => absurd h (by decide))
    have tak : (0 ≤ s_idx (J (f + 9)) (twd t) nt 0 ∨ 0 ≤ s_idx (J (f + 10)) (twd t) np 0 ∨ 0 ≤ s_idx (J (f + 11)) (twd t) nn 0) → zA G y_FenR_takeNewName prog_3_method_10_code 5 (some .long) (zRm 3 0 0) (zM G 0 0 (fun r w' => ∃ x, r = some (.long x) ∧ (fun r w => pQ (p_newn (tA T L K) ((nt, np, nl, nn, od), A, B) t) (fun e => r = lN 0 ∧ tkE I J P S e w) (fun v => r = v.1 ∧ ¬ lg_cmp v.1 (lN 0) = 0 ∧ tkN T K 1 900 L I J P S v.2 w)) x w')) 73 [some (.ref 15), some (.ref f), some (.long (twd t)), none, none] [] (I, J, P, S) 0 0 := by
      intro h
      rw [p_newn_3 hb (by dsimp only; rw [hB9, hB10, hB11]; exact h)]
      refine z_iconst (a := nI 1) d_FenR_takeNewName_73 (by decide) ?_
      refine z_goto (tgt := 78) d_FenR_takeNewName_74 (by decide) ?_
      first | refine z_istore_4 d_FenR_takeNewName_78 rfl ?_ | (refine z_forget_3 ?_; refine z_istore_4 d_FenR_takeNewName_78 rfl ?_)
      refine z_iload_4 d_FenR_takeNewName_80 ?_
      refine z_if_eq (tgt := 96) d_FenR_takeNewName_82 (by decide) (fun h82 => ?_) (fun h82 => ?_)
      · first
        | (simp (disch := omega) only [← nI_0, nI_leI, nI_ltI, nI_eq, not_true_eq_false, not_false_eq_true] at h82; done)
        | (simp (disch := omega) only [← nI_0, nI_leI, nI_ltI, nI_eq, not_true_eq_false, not_false_eq_true] at h82; omega)
        | contradiction
        | exact absurd h82 (Int32.not_lt.mpr (by assumption))
        | exact absurd h82 (Int32.not_le.mpr (by assumption))
        | exact absurd h82 (by decide)
        | exact absurd (by decide) h82
        | ( try simp (disch := omega) only [← nI_0, nI_leI, nI_ltI, nI_eq, not_true_eq_false, not_false_eq_true] at h82
            (try have h82b := zbit_n0.mp h82); (try have h82b := zbit_p0.mp h82)
            refine z_aload_0 d_FenR_takeNewName_96 ?_
            refine z_getR d_FenR_takeNewName_97 f_FenR_9 (by first | assumption | exact zS0_at (by assumption) (by omega) | exact zS0_at rfl (by omega)) (by first | assumption | exact zS0_at (by assumption) (by omega) | exact zS0_at rfl (by omega)) ?_
            refine z_Vv0 d_FenR_takeNewName_100 k_FenR_64 (by first | assumption | exact zS0_at (by assumption) (by omega) | exact zS0_at rfl (by omega)) (t_adv C.1) ⟨Nat.le_of_ble_eq_true rfl, Nat.le_of_ble_eq_true rfl, Nat.le_of_ble_eq_true rfl, Nat.le_of_ble_eq_true rfl⟩ (Nat.le_of_ble_eq_true rfl) ?_
            intro w hq
            obtain ⟨I', J', rfl, hq⟩ := hq
            refine z_lload_2 d_FenR_takeNewName_103 ?_
            refine z_retl d_FenR_takeNewName_104 ?_
            exact ⟨rfl, I', J', rfl, hq⟩)
      · first
        | (simp (disch := omega) only [← nI_0, nI_leI, nI_ltI, nI_eq, not_true_eq_false, not_false_eq_true] at h82; done)
        | (simp (disch := omega) only [← nI_0, nI_leI, nI_ltI, nI_eq, not_true_eq_false, not_false_eq_true] at h82; omega)
        | contradiction
        | exact absurd h82 (Int32.not_lt.mpr (by assumption))
        | exact absurd h82 (Int32.not_le.mpr (by assumption))
        | exact absurd h82 (by decide)
        | exact absurd (by decide) h82
        | ( try simp (disch := omega) only [← nI_0, nI_leI, nI_ltI, nI_eq, not_true_eq_false, not_false_eq_true] at h82
            (try have h82b := zbit_n0.mp h82); (try have h82b := zbit_p0.mp h82)
            refine z_aload_0 d_FenR_takeNewName_85 ?_
            refine z_getR d_FenR_takeNewName_86 f_FenR_9 (by first | assumption | exact zS0_at (by assumption) (by omega) | exact zS0_at rfl (by omega)) (by first | assumption | exact zS0_at (by assumption) (by omega) | exact zS0_at rfl (by omega)) ?_
            refine z_iconst (a := nI 3) d_FenR_takeNewName_89 (by decide) ?_
            refine z_Vi1 d_FenR_takeNewName_90 k_FenR_60 (by first | assumption | exact zS0_at (by assumption) (by omega) | exact zS0_at rfl (by omega)) (t_Tok_faulty C.1) ⟨Nat.le_of_ble_eq_true rfl, Nat.le_of_ble_eq_true rfl, Nat.le_of_ble_eq_true rfl, Nat.le_of_ble_eq_true rfl⟩ (Nat.le_of_ble_eq_true rfl) ?_
            intro r w hq
            obtain ⟨rfl, I', J', rfl, hq⟩ := hq
            refine z_pop rfl d_FenR_takeNewName_93 ?_
            refine z_lconst (f := lN 0) d_FenR_takeNewName_94 rfl ?_
            refine z_retl d_FenR_takeNewName_95 ?_
            exact ⟨rfl, I', J', rfl, hq⟩)
    refine z_aload_0 d_FenR_takeNewName_20 ?_
    refine z_getR d_FenR_takeNewName_21 f_FenR_9 (by first | assumption | exact zS0_at (by assumption) (by omega) | exact zS0_at rfl (by omega)) (by first | assumption | exact zS0_at (by assumption) (by omega) | exact zS0_at rfl (by omega)) ?_
    refine z_getJv d_FenR_takeNewName_24 f_FenR_132 (by first | assumption | exact zS0_at (by assumption) (by omega) | exact zS0_at rfl (by omega)) (by first | assumption | ((try simp (disch := omega) only [zu_same, zu_ne, zcp_ne, zfl_ne]); first | assumption | rfl)) ?_
    first | refine z_lstore_2 d_FenR_takeNewName_27 rfl ?_ | (refine z_forget_1 ?_; refine z_lstore_2 d_FenR_takeNewName_27 rfl ?_)
    refine z_lload_2 d_FenR_takeNewName_28 ?_
    refine z_aload_1 d_FenR_takeNewName_29 ?_
    refine z_getR d_FenR_takeNewName_30 f_FenR_104 (by first | assumption | exact zS0_at (by assumption) (by omega) | exact zS0_at rfl (by omega)) (by first | assumption | exact zS0_at (by assumption) (by omega) | exact zS0_at rfl (by omega)) ?_
    refine z_aload_1 d_FenR_takeNewName_33 ?_
    refine z_getIv d_FenR_takeNewName_34 f_FenR_77 (by first | assumption | exact zS0_at (by assumption) (by omega) | exact zS0_at rfl (by omega)) (by first | assumption | ((try simp (disch := omega) only [zu_same, zu_ne, zcp_ne, zfl_ne]); first | assumption | rfl)) ?_
    refine z_Si3 d_FenR_takeNewName_37 k_FenR_136 (t_Tok_indexOf (by assumption) (by omega) (by omega)) ⟨Nat.le_of_ble_eq_true rfl, Nat.le_of_ble_eq_true rfl, Nat.le_of_ble_eq_true rfl, Nat.le_of_ble_eq_true rfl⟩ (Nat.le_of_ble_eq_true rfl) ?_
    intro r w hq
    obtain ⟨rfl, rfl⟩ := hq
    refine z_if_ge (tgt := 73) d_FenR_takeNewName_40 (by decide) (fun h1 => ?_) (fun h1 => ?_)
    · exact tak (Or.inl h1)
    · refine z_lload_2 d_FenR_takeNewName_43 ?_
      refine z_aload_1 d_FenR_takeNewName_44 ?_
      refine z_getR d_FenR_takeNewName_45 f_FenR_115 (by first | assumption | exact zS0_at (by assumption) (by omega) | exact zS0_at rfl (by omega)) (by first | assumption | exact zS0_at (by assumption) (by omega) | exact zS0_at rfl (by omega)) ?_
      refine z_aload_1 d_FenR_takeNewName_48 ?_
      refine z_getIv d_FenR_takeNewName_49 f_FenR_91 (by first | assumption | exact zS0_at (by assumption) (by omega) | exact zS0_at rfl (by omega)) (by first | assumption | ((try simp (disch := omega) only [zu_same, zu_ne, zcp_ne, zfl_ne]); first | assumption | rfl)) ?_
      refine z_Si3 d_FenR_takeNewName_52 k_FenR_136 (t_Tok_indexOf (by assumption) (by omega) (by omega)) ⟨Nat.le_of_ble_eq_true rfl, Nat.le_of_ble_eq_true rfl, Nat.le_of_ble_eq_true rfl, Nat.le_of_ble_eq_true rfl⟩ (Nat.le_of_ble_eq_true rfl) ?_
      intro r w hq
      obtain ⟨rfl, rfl⟩ := hq
      refine z_if_ge (tgt := 73) d_FenR_takeNewName_55 (by decide) (fun h2 => ?_) (fun h2 => ?_)
      · exact tak (Or.inr (Or.inl h2))
      · refine z_lload_2 d_FenR_takeNewName_58 ?_
        refine z_aload_1 d_FenR_takeNewName_59 ?_
        refine z_getR d_FenR_takeNewName_60 f_FenR_140 (by first | assumption | exact zS0_at (by assumption) (by omega) | exact zS0_at rfl (by omega)) (by first | assumption | exact zS0_at (by assumption) (by omega) | exact zS0_at rfl (by omega)) ?_
        refine z_aload_1 d_FenR_takeNewName_63 ?_
        refine z_getIv d_FenR_takeNewName_64 f_FenR_125 (by first | assumption | exact zS0_at (by assumption) (by omega) | exact zS0_at rfl (by omega)) (by first | assumption | ((try simp (disch := omega) only [zu_same, zu_ne, zcp_ne, zfl_ne]); first | assumption | rfl)) ?_
        refine z_Si3 d_FenR_takeNewName_67 k_FenR_136 (t_Tok_indexOf (by assumption) (by omega) (by omega)) ⟨Nat.le_of_ble_eq_true rfl, Nat.le_of_ble_eq_true rfl, Nat.le_of_ble_eq_true rfl, Nat.le_of_ble_eq_true rfl⟩ (Nat.le_of_ble_eq_true rfl) ?_
        intro r w hq
        obtain ⟨rfl, rfl⟩ := hq
        refine z_if_lt (tgt := 77) d_FenR_takeNewName_70 (by decide) (fun h3 => ?_) (fun h3 => ?_)
        · have h3 := Int32.not_le.mpr h3
          rw [p_newn_ok hb (by dsimp only; rw [hB9, hB10, hB11]; rintro (h | h | h); exact h1 h; exact h2 h; exact h3 h)]
          have hne := p_isN_wd hb
          refine z_iconst (a := nI 0) d_FenR_takeNewName_77 (by decide) ?_
          first | refine z_istore_4 d_FenR_takeNewName_78 rfl ?_ | (refine z_forget_3 ?_; refine z_istore_4 d_FenR_takeNewName_78 rfl ?_)
          refine z_iload_4 d_FenR_takeNewName_80 ?_
          refine z_if_eq (tgt := 96) d_FenR_takeNewName_82 (by decide) (fun h82 => ?_) (fun h82 => ?_)
          · first
            | (simp (disch := omega) only [← nI_0, nI_leI, nI_ltI, nI_eq, not_true_eq_false, not_false_eq_true] at h82; done)
            | (simp (disch := omega) only [← nI_0, nI_leI, nI_ltI, nI_eq, not_true_eq_false, not_false_eq_true] at h82; omega)
            | contradiction
            | exact absurd h82 (Int32.not_lt.mpr (by assumption))
            | exact absurd h82 (Int32.not_le.mpr (by assumption))
            | exact absurd h82 (by decide)
            | exact absurd (by decide) h82
            | ( try simp (disch := omega) only [← nI_0, nI_leI, nI_ltI, nI_eq, not_true_eq_false, not_false_eq_true] at h82
                (try have h82b := zbit_n0.mp h82); (try have h82b := zbit_p0.mp h82)
                refine z_aload_0 d_FenR_takeNewName_96 ?_
                refine z_getR d_FenR_takeNewName_97 f_FenR_9 (by first | assumption | exact zS0_at (by assumption) (by omega) | exact zS0_at rfl (by omega)) (by first | assumption | exact zS0_at (by assumption) (by omega) | exact zS0_at rfl (by omega)) ?_
                refine z_Vv0 d_FenR_takeNewName_100 k_FenR_64 (by first | assumption | exact zS0_at (by assumption) (by omega) | exact zS0_at rfl (by omega)) (t_adv C.1) ⟨Nat.le_of_ble_eq_true rfl, Nat.le_of_ble_eq_true rfl, Nat.le_of_ble_eq_true rfl, Nat.le_of_ble_eq_true rfl⟩ (Nat.le_of_ble_eq_true rfl) ?_
                intro w hq
                obtain ⟨I', J', rfl, hq⟩ := hq
                refine z_lload_2 d_FenR_takeNewName_103 ?_
                refine z_retl d_FenR_takeNewName_104 ?_
                exact ⟨rfl, hne, I', J', rfl, hq⟩)
          · first
            | (simp (disch := omega) only [← nI_0, nI_leI, nI_ltI, nI_eq, not_true_eq_false, not_false_eq_true] at h82; done)
            | (simp (disch := omega) only [← nI_0, nI_leI, nI_ltI, nI_eq, not_true_eq_false, not_false_eq_true] at h82; omega)
            | contradiction
            | exact absurd h82 (Int32.not_lt.mpr (by assumption))
            | exact absurd h82 (Int32.not_le.mpr (by assumption))
            | exact absurd h82 (by decide)
            | exact absurd (by decide) h82
            | ( try simp (disch := omega) only [← nI_0, nI_leI, nI_ltI, nI_eq, not_true_eq_false, not_false_eq_true] at h82
                (try have h82b := zbit_n0.mp h82); (try have h82b := zbit_p0.mp h82)
                refine z_aload_0 d_FenR_takeNewName_85 ?_
                refine z_getR d_FenR_takeNewName_86 f_FenR_9 (by first | assumption | exact zS0_at (by assumption) (by omega) | exact zS0_at rfl (by omega)) (by first | assumption | exact zS0_at (by assumption) (by omega) | exact zS0_at rfl (by omega)) ?_
                refine z_iconst (a := nI 3) d_FenR_takeNewName_89 (by decide) ?_
                refine z_Vi1 d_FenR_takeNewName_90 k_FenR_60 (by first | assumption | exact zS0_at (by assumption) (by omega) | exact zS0_at rfl (by omega)) (t_Tok_faulty C.1) ⟨Nat.le_of_ble_eq_true rfl, Nat.le_of_ble_eq_true rfl, Nat.le_of_ble_eq_true rfl, Nat.le_of_ble_eq_true rfl⟩ (Nat.le_of_ble_eq_true rfl) ?_
                intro r w hq
                obtain ⟨rfl, I', J', rfl, hq⟩ := hq
                refine z_pop rfl d_FenR_takeNewName_93 ?_
                refine z_lconst (f := lN 0) d_FenR_takeNewName_94 rfl ?_
                refine z_retl d_FenR_takeNewName_95 ?_
                exact ⟨rfl, hne, I', J', rfl, hq⟩)
        · have h3 := Int32.not_lt.mp h3
          exact tak (Or.inr (Or.inr h3))
  · rw [p_newn_m hb]
    refine z_if_ne (tgt := 20) d_FenR_takeNewName_7 (by decide) (fun h => absurd rfl h) (fun _ => ?_)
    refine z_aload_0 d_FenR_takeNewName_10 ?_
    refine z_getR d_FenR_takeNewName_11 f_FenR_9 (by first | assumption | exact zS0_at (by assumption) (by omega) | exact zS0_at rfl (by omega)) (by first | assumption | exact zS0_at (by assumption) (by omega) | exact zS0_at rfl (by omega)) ?_
    refine z_Vi0 d_FenR_takeNewName_14 k_FenR_56 (by first | assumption | exact zS0_at (by assumption) (by omega) | exact zS0_at rfl (by omega)) (t_Tok_misplaced C.1) ⟨Nat.le_of_ble_eq_true rfl, Nat.le_of_ble_eq_true rfl, Nat.le_of_ble_eq_true rfl, Nat.le_of_ble_eq_true rfl⟩ (Nat.le_of_ble_eq_true rfl) ?_
    intro r w hq
    obtain ⟨rfl, I', J', rfl, hq⟩ := hq
    refine z_pop rfl d_FenR_takeNewName_17 ?_
    refine z_lconst (f := lN 0) d_FenR_takeNewName_18 rfl ?_
    refine z_retl d_FenR_takeNewName_19 ?_
    exact ⟨rfl, I', J', rfl, hq⟩
theorem t_FenR_readOdds {nt np nl nn od : Nat} {A : Nat → Nat → Int32} {B : Nat → Nat → Int64} (C : frC T K L f I J P S ((nt, np, nl, nn, od), A, B) t) : zEi G y_FenR_readOdds prog_3_method_4_code 3 (some .boolean) 4 [.ref 15, .ref f] (I, J, P, S) (fun r w => pQ (p_odds (tA T L K) ((nt, np, nl, nn, od), A, B) t) (fun e => r = nI 0 ∧ frE f I J P S e w) (fun x => r = nI 1 ∧ frN T K L f I J P S x w)) := by
  obtain ⟨⟨k1, k1b⟩, ⟨k2, k2b⟩, ⟨k3, k3b⟩, ⟨k4, k4b⟩, k5, k6, k7, k8, k9, kA, kB⟩ := frC_n C
  have F := C.2.1
  obtain ⟨R0, R1, hf⟩ := C.2.2.1
  have X0 := C.1.1.1
  have k5b : od ≤ 1 := C.2.2.2.2.2.2.2.2.1.2
  have kf := C.2.2.2.2.2.2.2.2.2
  obtain ⟨F0, ⟨F8, F8s⟩, ⟨F9, F9s⟩, ⟨F10, F10s⟩, ⟨F11, F11s⟩, ⟨F12, F12s⟩, ⟨F13, F13s⟩, ⟨F14, F14s⟩, ⟨F15, F15s⟩, ⟨F16, F16s⟩, ⟨F17, F17s⟩, ⟨F18, F18s⟩, ⟨F19, F19s⟩, ⟨Y3, Y3s⟩, ⟨Y4, Y4s⟩, ⟨Y5, Y5s⟩, ⟨Y6, Y6s⟩⟩ := id F
  refine zEi_of (lv := [some (.ref 15), some (.ref f), none]) (by decide) rfl (Nat.le_of_ble_eq_true rfl) ?_
  unfold p_odds
  refine z_aload_0 d_FenR_readOdds_0 ?_
  refine z_getIv d_FenR_readOdds_1 f_FenR_20 (by first | assumption | exact zS0_at (by assumption) (by omega) | exact zS0_at rfl (by omega)) (by first | assumption | ((try simp (disch := omega) only [zu_same, zu_ne, zcp_ne, zfl_ne]); first | assumption | rfl)) ?_
  refine z_if_eq (tgt := 16) d_FenR_readOdds_4 (by decide) (fun hb => ?_) (fun hb => ?_)
  · have hb : od = 0 := by
      rcases (show od = 0 ∨ od = 1 by omega) with h | h
      · exact h
      · rw [h] at hb; exact absurd hb (by decide)
    subst hb
    rw [if_pos rfl]
    have C0 : frC T K L f (zu I 15 1 (nI 1)) J P S ((nt, np, nl, nn, 1), A, B) t := ⟨tkC_c C.1 (zu_row _ _ _ _ (by decide)) (zu_row _ _ _ _ (by decide)) rfl rfl, F, C.2.2.1, ⟨by rw [sf_out (by omega)]; exact kA, kB⟩, by rw [zu_row _ _ _ _ (by omega)]; exact ⟨k1, k1b⟩, by rw [zu_row _ _ _ _ (by omega)]; exact ⟨k2, k2b⟩, by rw [zu_row _ _ _ _ (by omega)]; exact ⟨k3, k3b⟩, by rw [zu_row _ _ _ _ (by omega)]; exact ⟨k4, k4b⟩, ⟨zu_same _ _ _ _, Nat.le_refl _⟩, by rw [zu_row _ _ _ _ (by omega)]; exact kf⟩
    have fr0 : frF f I (zu I 15 1 (nI 1)) := frF_u frF_r (by omega)
    refine z_aload_0 d_FenR_readOdds_16 ?_
    refine z_iconst (a := nI 1) d_FenR_readOdds_17 (by decide) ?_
    refine z_putZ d_FenR_readOdds_18 f_FenR_20 (by first | assumption | exact zS0_at (by assumption) (by omega) | exact zS0_at rfl (by omega)) (by first | exact zb0 | exact zb1 | assumption) ?_
    refine z_aload_0 d_FenR_readOdds_21 ?_
    refine z_getR d_FenR_readOdds_22 f_FenR_9 (by first | assumption | exact zS0_at (by assumption) (by omega) | exact zS0_at rfl (by omega)) (by first | assumption | exact zS0_at (by assumption) (by omega) | exact zS0_at rfl (by omega)) ?_
    refine z_Vv0 d_FenR_readOdds_25 k_FenR_64 (by first | assumption | exact zS0_at (by assumption) (by omega) | exact zS0_at rfl (by omega)) (t_adv C0.1) ⟨Nat.le_of_ble_eq_true rfl, Nat.le_of_ble_eq_true rfl, Nat.le_of_ble_eq_true rfl, Nat.le_of_ble_eq_true rfl⟩ (Nat.le_of_ble_eq_true rfl) ?_
    intro w hq
    obtain ⟨I1, J1, rfl, fr1, gr1, C1⟩ := frN_tk C0 hq
    refine z_aload_0 d_FenR_readOdds_28 ?_
    refine z_getR d_FenR_readOdds_29 f_FenR_9 (by first | assumption | exact zS0_at (by assumption) (by omega) | exact zS0_at rfl (by omega)) (by first | assumption | exact zS0_at (by assumption) (by omega) | exact zS0_at rfl (by omega)) ?_
    refine z_iconst (a := nI 0) d_FenR_readOdds_32 (by decide) ?_
    refine z_bipush (a := nI 16) d_FenR_readOdds_33 (by decide) ?_
    refine z_Vi2 d_FenR_readOdds_35 k_FenR_67 (by first | assumption | exact zS0_at (by assumption) (by omega) | exact zS0_at rfl (by omega)) (t_Tok_takeNumber C1.1) ⟨Nat.le_of_ble_eq_true rfl, Nat.le_of_ble_eq_true rfl, Nat.le_of_ble_eq_true rfl, Nat.le_of_ble_eq_true rfl⟩ (Nat.le_of_ble_eq_true rfl) ?_
    intro r w hq
    cases hx : p_numb (tA T L K) (nI 0) (nI 16) (tA T L K t) with
    | inl e =>
      rw [hx] at hq
      obtain ⟨rfl, hq⟩ := hq
      obtain ⟨I2, J2, rfl, hq2⟩ := frE_t (frF_t fr0 fr1) gr1 (frE_tk hq)
      first | refine z_istore_2 d_FenR_readOdds_38 rfl ?_ | (refine z_forget_1 ?_; refine z_istore_2 d_FenR_readOdds_38 rfl ?_)
      refine z_iload_2 d_FenR_readOdds_39 ?_
      refine z_if_ge (tgt := 45) d_FenR_readOdds_40 (by decide) (fun h => absurd h (by decide)) (fun _ => ?_)
      refine z_iconst (a := nI 0) d_FenR_readOdds_43 (by decide) ?_
      refine z_retz d_FenR_readOdds_44 (by first | exact zb0 | exact zb1 | assumption) ?_
      exact ⟨rfl, I2, J2, rfl, hq2⟩
    | inr v =>
      rw [hx] at hq
      obtain ⟨rfl, hq⟩ := hq
      obtain ⟨I2, J2, rfl, fr2, gr2, C2⟩ := frN_tk C1 hq
      have hv : (0 : Int32) ≤ v.1 := by
        unfold p_numb at hx
        split at hx
        · split at hx
          · cases hx
          · rename_i h1 h2
            cases hx
            exact Int32.not_lt.mp (fun h => h2 (Or.inl h))
        · cases hx
      first | refine z_istore_2 d_FenR_readOdds_38 rfl ?_ | (refine z_forget_1 ?_; refine z_istore_2 d_FenR_readOdds_38 rfl ?_)
      refine z_iload_2 d_FenR_readOdds_39 ?_
      refine z_if_ge (tgt := 45) d_FenR_readOdds_40 (by decide) (fun _ => ?_) (fun h => absurd hv h)
      refine z_aload_1 d_FenR_readOdds_45 ?_
      refine z_iload_2 d_FenR_readOdds_46 ?_
      refine z_putI d_FenR_readOdds_47 f_FenR_71 (by first | assumption | exact zS0_at (by assumption) (by omega) | exact zS0_at rfl (by omega)) ?_
      refine z_aload_0 d_FenR_readOdds_50 ?_
      refine z_getR d_FenR_readOdds_51 f_FenR_9 (by first | assumption | exact zS0_at (by assumption) (by omega) | exact zS0_at rfl (by omega)) (by first | assumption | exact zS0_at (by assumption) (by omega) | exact zS0_at rfl (by omega)) ?_
      have C3 : frC T K L f (zu I2 f 0 v.1) J2 P S ((nt, np, nl, nn, 1), zu A 0 0 v.1, B) v.2 := by
        obtain ⟨⟨d1, d1b⟩, ⟨d2, d2b⟩, ⟨d3, d3b⟩, ⟨d4, d4b⟩, d5, d6, d7, d8, d9, dA, dB⟩ := frC_n C2
        refine ⟨tkC_c C2.1 (zu_row _ _ _ _ (by omega)) (zu_row _ _ _ _ (by omega)) rfl rfl, F, C.2.2.1, ⟨by rw [sf_zu0, dA], dB⟩, ?_, ?_, ?_, ?_, ?_, by rw [zu_row _ _ _ _ (by omega)]; exact C2.2.2.2.2.2.2.2.2.2⟩
        · rw [zu_ne _ _ _ _ (by omega)]; exact ⟨d1, d1b⟩
        · rw [zu_ne _ _ _ _ (by omega)]; exact ⟨d2, d2b⟩
        · rw [zu_ne _ _ _ _ (by omega)]; exact ⟨d3, d3b⟩
        · rw [zu_ne _ _ _ _ (by omega)]; exact ⟨d4, d4b⟩
        · rw [zu_ne _ _ _ _ (by omega)]; exact ⟨d5, Nat.le_refl _⟩
      have fr3 : frF f I (zu I2 f 0 v.1) := frF_u (frF_t fr0 (frF_t fr1 fr2)) (by omega)
      refine z_Vi0 d_FenR_readOdds_54 k_FenR_74 (by first | assumption | exact zS0_at (by assumption) (by omega) | exact zS0_at rfl (by omega)) (t_Tok_takeSemicolon C3.1) ⟨Nat.le_of_ble_eq_true rfl, Nat.le_of_ble_eq_true rfl, Nat.le_of_ble_eq_true rfl, Nat.le_of_ble_eq_true rfl⟩ (Nat.le_of_ble_eq_true rfl) ?_
      intro r w hq
      dsimp only [pb]
      cases hy : p_semi (tA T L K) v.2 with
      | inl e =>
        rw [hy] at hq
        obtain ⟨rfl, hq⟩ := hq
        obtain ⟨I4, J4, rfl, hq2⟩ := frE_t fr3 (frF_t gr1 gr2) (frE_tk hq)
        refine z_retz d_FenR_readOdds_57 (by first | exact zb0 | exact zb1 | assumption) ?_
        exact ⟨rfl, I4, J4, rfl, hq2⟩
      | inr t' =>
        rw [hy] at hq
        obtain ⟨rfl, hq⟩ := hq
        obtain ⟨I4, J4, rfl, hq2⟩ := frN_t fr3 (frF_t gr1 gr2) (frN_tk C3 hq)
        refine z_retz d_FenR_readOdds_57 (by first | exact zb0 | exact zb1 | assumption) ?_
        exact ⟨rfl, I4, J4, rfl, hq2⟩
  · have hb : ¬ od = 0 := fun h => hb (by rw [h, nI_0])
    rw [if_neg hb]
    refine z_aload_0 d_FenR_readOdds_7 ?_
    refine z_getR d_FenR_readOdds_8 f_FenR_9 (by first | assumption | exact zS0_at (by assumption) (by omega) | exact zS0_at rfl (by omega)) (by first | assumption | exact zS0_at (by assumption) (by omega) | exact zS0_at rfl (by omega)) ?_
    refine z_iconst (a := nI 5) d_FenR_readOdds_11 (by decide) ?_
    refine z_Vi1 d_FenR_readOdds_12 k_FenR_60 (by first | assumption | exact zS0_at (by assumption) (by omega) | exact zS0_at rfl (by omega)) (t_Tok_faulty C.1) ⟨Nat.le_of_ble_eq_true rfl, Nat.le_of_ble_eq_true rfl, Nat.le_of_ble_eq_true rfl, Nat.le_of_ble_eq_true rfl⟩ (Nat.le_of_ble_eq_true rfl) ?_
    intro r w hq
    obtain ⟨rfl, hq⟩ := hq
    refine z_retz d_FenR_readOdds_15 (by first | exact zb0 | exact zb1 | assumption) ?_
    exact ⟨rfl, frE_tk hq⟩
theorem p_numb_c {a : tk → tk} {lo hi : Nat} {v : Int32 × tk} (hh : lo ≤ hi ∧ hi < 2 ^ 31 - 1) (h : p_numb a (nI lo) (nI hi) t = .inr v) : ∃ k, lo ≤ k ∧ k ≤ hi ∧ v = (nI k, a t) ∧ tnu t = nI k := by
  unfold p_numb at h
  split at h
  · split at h
    · cases h
    · rename_i h1 h2
      cases h
      have g1 := Int32.not_lt.mp (fun h => h2 (Or.inl h))
      have g2 := Int32.not_lt.mp (fun h => h2 (Or.inr h))
      rw [Int32.le_iff_toInt_le, nI_toInt (by omega)] at g1 g2
      obtain ⟨k, hk, hk2⟩ := vp_in_of (x := tnu t) (n := hi + 1) (vp_in_iff.mpr ⟨by omega, by omega⟩) (by omega)
      rw [hk2] at g1 g2 ⊢
      rw [nI_toInt (by omega)] at g1 g2
      exact ⟨k, by omega, by omega, rfl, rfl⟩
  · cases h
theorem frC_up {nt np nl nn od : Nat} {A : Nat → Nat → Int32} {B : Nat → Nat → Int64} {nt' np' nl' nn' : Nat} {A' : Nat → Nat → Int32} {B' : Nat → Nat → Int64} (C : frC T K L f I J P S ((nt, np, nl, nn, od), A, B) t) (hI : ∀ a, a < f → I1 a = I a) (hJ : ∀ a, a < f → J1 a = J a) (hA : sf f I1 = A') (hB : sf f J1 = B') (h1 : A' 0 1 = nI nt' ∧ nt' ≤ 6) (h2 : A' 0 2 = nI np' ∧ np' ≤ 7) (h3 : A' 0 3 = nI nl' ∧ nl' ≤ 12) (h4 : A' 0 4 = nI nn' ∧ nn' ≤ 9) : frC T K L f I1 J1 P S ((nt', np', nl', nn', od), A', B') t := by
  have hf : 17 < f := C.2.2.1.2.2
  subst hA
  subst hB
  refine ⟨tkC_c C.1 (hI _ (by omega)) (hI _ (by omega)) (hJ _ (by omega)) (hJ _ (by omega)), C.2.1, C.2.2.1, ⟨rfl, rfl⟩, h1, h2, h3, h4, ?_, ?_⟩
  · rw [hI 15 (by omega)]
    exact C.2.2.2.2.2.2.2.2.1
  · rw [hI 11 (by omega)]
    exact C.2.2.2.2.2.2.2.2.2
theorem frC_A {nt np nl nn od : Nat} {A : Nat → Nat → Int32} {B : Nat → Nat → Int64} (C : frC T K L f I J P S ((nt, np, nl, nn, od), A, B) t) : (A 0 1 = nI nt ∧ nt ≤ 6) ∧ (A 0 2 = nI np ∧ np ≤ 7) ∧ (A 0 3 = nI nl ∧ nl ≤ 12) ∧ (A 0 4 = nI nn ∧ nn ≤ 9) := by
  obtain ⟨-, -, -, ⟨h, -⟩, c1, c2, c3, c4, -⟩ := C
  dsimp only at h
  subst h
  exact ⟨c1, c2, c3, c4⟩
theorem t_FenR_readTrait {nt np nl nn od : Nat} {A : Nat → Nat → Int32} {B : Nat → Nat → Int64} (C : frC T K L f I J P S ((nt, np, nl, nn, od), A, B) t) : zEi G y_FenR_readTrait prog_3_method_5_code 5 (some .boolean) 4 [.ref 15, .ref f] (I, J, P, S) (fun r w => pQ (p_trait (tA T L K) ((nt, np, nl, nn, od), A, B) t) (fun e => r = nI 0 ∧ frE f I J P S e w) (fun x => r = nI 1 ∧ frN T K L f I J P S x w)) := by
  obtain ⟨⟨k1, k1b⟩, ⟨k2, k2b⟩, ⟨k3, k3b⟩, ⟨k4, k4b⟩, k5, k6, k7, k8, k9, kA, kB⟩ := frC_n C
  have F := C.2.1
  obtain ⟨R0, R1, hf⟩ := C.2.2.1
  have X0 := C.1.1.1
  obtain ⟨F0, ⟨F8, F8s⟩, ⟨F9, F9s⟩, ⟨F10, F10s⟩, ⟨F11, F11s⟩, ⟨F12, F12s⟩, ⟨F13, F13s⟩, ⟨F14, F14s⟩, ⟨F15, F15s⟩, ⟨F16, F16s⟩, ⟨F17, F17s⟩, ⟨F18, F18s⟩, ⟨F19, F19s⟩, ⟨Y3, Y3s⟩, ⟨Y4, Y4s⟩, ⟨Y5, Y5s⟩, ⟨Y6, Y6s⟩⟩ := id F
  refine zEi_of (lv := [some (.ref 15), some (.ref f), none, none, none]) (by decide) rfl (Nat.le_of_ble_eq_true rfl) ?_
  unfold p_trait
  dsimp only
  refine z_aload_1 d_FenR_readTrait_0 ?_
  refine z_getIv d_FenR_readTrait_1 f_FenR_77 (by first | assumption | exact zS0_at (by assumption) (by omega) | exact zS0_at rfl (by omega)) (by first | assumption | ((try simp (disch := omega) only [zu_same, zu_ne, zcp_ne, zfl_ne]); first | assumption | rfl)) ?_
  refine z_bipush (a := nI 6) d_FenR_readTrait_4 (by decide) ?_
  refine z_icmp_lt (tgt := 19) d_FenR_readTrait_6 (by decide) (fun hb => ?_) (fun hb => ?_)
  · have hb := (nI_ltI (by omega) (by omega)).mp hb
    rw [if_pos hb]
    refine z_aload_0 d_FenR_readTrait_19 ?_
    refine z_getR d_FenR_readTrait_20 f_FenR_9 (by first | assumption | exact zS0_at (by assumption) (by omega) | exact zS0_at rfl (by omega)) (by first | assumption | exact zS0_at (by assumption) (by omega) | exact zS0_at rfl (by omega)) ?_
    refine z_Vv0 d_FenR_readTrait_23 k_FenR_64 (by first | assumption | exact zS0_at (by assumption) (by omega) | exact zS0_at rfl (by omega)) (t_adv C.1) ⟨Nat.le_of_ble_eq_true rfl, Nat.le_of_ble_eq_true rfl, Nat.le_of_ble_eq_true rfl, Nat.le_of_ble_eq_true rfl⟩ (Nat.le_of_ble_eq_true rfl) ?_
    intro w hq
    obtain ⟨I1, J1, rfl, fr1, gr1, C1⟩ := frN_tk C hq
    refine z_aload_0 d_FenR_readTrait_26 ?_
    refine z_aload_1 d_FenR_readTrait_27 ?_
    refine z_Vl1 d_FenR_readTrait_28 k_FenR_80 (by first | assumption | exact zS0_at (by assumption) (by omega) | exact zS0_at rfl (by omega)) (t_FenR_takeNewName C1) ⟨Nat.le_of_ble_eq_true rfl, Nat.le_of_ble_eq_true rfl, Nat.le_of_ble_eq_true rfl, Nat.le_of_ble_eq_true rfl⟩ (Nat.le_of_ble_eq_true rfl) ?_
    intro r w hq
    rcases hx : p_newn (tA T L K) ((nt, np, nl, nn, od), A, B) (tA T L K t) with e | v <;> rw [hx] at hq <;> dsimp only [pb]
    · obtain ⟨rfl, hq⟩ := hq
      obtain ⟨I9, J9, rfl, hq2⟩ := frE_t fr1 gr1 (frE_tk hq)
      first | refine z_lstore_2 d_FenR_readTrait_31 rfl ?_ | (refine z_forget_1 ?_; refine z_lstore_2 d_FenR_readTrait_31 rfl ?_)
      refine z_lload_2 d_FenR_readTrait_32 ?_
      refine z_lconst (f := lN 0) d_FenR_readTrait_33 rfl ?_
      refine z_lcmp d_FenR_readTrait_34 ?_
      refine z_if_eq (tgt := 49) d_FenR_readTrait_35 (by decide) (fun _ => ?_) (fun h => absurd (by decide) h)
      refine z_iconst (a := nI 0) d_FenR_readTrait_49 (by decide) ?_
      refine z_retz d_FenR_readTrait_50 (by first | exact zb0 | exact zb1 | assumption) ?_
      exact ⟨rfl, I9, J9, rfl, hq2⟩
    obtain ⟨rfl, hne, hq⟩ := hq
    obtain ⟨I2, J2, rfl, fr2, gr2, C2⟩ := frN_t fr1 gr1 (frN_tk C1 hq)
    first | refine z_lstore_2 d_FenR_readTrait_31 rfl ?_ | (refine z_forget_1 ?_; refine z_lstore_2 d_FenR_readTrait_31 rfl ?_)
    refine z_lload_2 d_FenR_readTrait_32 ?_
    refine z_lconst (f := lN 0) d_FenR_readTrait_33 rfl ?_
    refine z_lcmp d_FenR_readTrait_34 ?_
    refine z_if_eq (tgt := 49) d_FenR_readTrait_35 (by decide) (fun h => absurd h hne) (fun _ => ?_)
    refine z_aload_0 d_FenR_readTrait_38 ?_
    refine z_getR d_FenR_readTrait_39 f_FenR_9 (by first | assumption | exact zS0_at (by assumption) (by omega) | exact zS0_at rfl (by omega)) (by first | assumption | exact zS0_at (by assumption) (by omega) | exact zS0_at rfl (by omega)) ?_
    refine z_iconst (a := nI 2) d_FenR_readTrait_42 (by decide) ?_
    refine z_Vi1 d_FenR_readTrait_43 k_FenR_84 (by first | assumption | exact zS0_at (by assumption) (by omega) | exact zS0_at rfl (by omega)) (t_Tok_takeWord C2.1) ⟨Nat.le_of_ble_eq_true rfl, Nat.le_of_ble_eq_true rfl, Nat.le_of_ble_eq_true rfl, Nat.le_of_ble_eq_true rfl⟩ (Nat.le_of_ble_eq_true rfl) ?_
    intro r w hq
    rcases hx2 : p_word (tA T L K) (nI 2) v.2 with e | t1 <;> rw [hx2] at hq <;> dsimp only [pb]
    · obtain ⟨rfl, hq⟩ := hq
      obtain ⟨I9, J9, rfl, hq2⟩ := frE_t fr2 gr2 (frE_tk hq)
      refine z_if_ne (tgt := 51) d_FenR_readTrait_46 (by decide) (fun h => absurd (by decide) h) (fun _ => ?_)
      refine z_iconst (a := nI 0) d_FenR_readTrait_49 (by decide) ?_
      refine z_retz d_FenR_readTrait_50 (by first | exact zb0 | exact zb1 | assumption) ?_
      exact ⟨rfl, I9, J9, rfl, hq2⟩
    obtain ⟨rfl, hq⟩ := hq
    obtain ⟨I3, J3, rfl, fr3, gr3, C3⟩ := frN_t fr2 gr2 (frN_tk C2 hq)
    refine z_if_ne (tgt := 51) d_FenR_readTrait_46 (by decide) (fun _ => ?_) (fun h => absurd h (by decide))
    refine z_aload_0 d_FenR_readTrait_51 ?_
    refine z_getR d_FenR_readTrait_52 f_FenR_9 (by first | assumption | exact zS0_at (by assumption) (by omega) | exact zS0_at rfl (by omega)) (by first | assumption | exact zS0_at (by assumption) (by omega) | exact zS0_at rfl (by omega)) ?_
    refine z_iconst (a := nI 0) d_FenR_readTrait_55 (by decide) ?_
    refine z_bipush (a := nI 99) d_FenR_readTrait_56 (by decide) ?_
    refine z_Vi2 d_FenR_readTrait_58 k_FenR_67 (by first | assumption | exact zS0_at (by assumption) (by omega) | exact zS0_at rfl (by omega)) (t_Tok_takeNumber C3.1) ⟨Nat.le_of_ble_eq_true rfl, Nat.le_of_ble_eq_true rfl, Nat.le_of_ble_eq_true rfl, Nat.le_of_ble_eq_true rfl⟩ (Nat.le_of_ble_eq_true rfl) ?_
    intro r w hq
    rcases hx3 : p_numb (tA T L K) (nI 0) (nI 99) t1 with e | u <;> rw [hx3] at hq <;> dsimp only [pb]
    · obtain ⟨rfl, hq⟩ := hq
      obtain ⟨I9, J9, rfl, hq2⟩ := frE_t fr3 gr3 (frE_tk hq)
      first | refine z_istore_4 d_FenR_readTrait_61 rfl ?_ | (refine z_forget_3 ?_; refine z_istore_4 d_FenR_readTrait_61 rfl ?_)
      refine z_iload_4 d_FenR_readTrait_63 ?_
      refine z_if_lt (tgt := 78) d_FenR_readTrait_65 (by decide) (fun _ => ?_) (fun h => absurd (by decide) h)
      refine z_iconst (a := nI 0) d_FenR_readTrait_78 (by decide) ?_
      refine z_retz d_FenR_readTrait_79 (by first | exact zb0 | exact zb1 | assumption) ?_
      exact ⟨rfl, I9, J9, rfl, hq2⟩
    obtain ⟨rfl, hq⟩ := hq
    obtain ⟨I4, J4, rfl, fr4, gr4, C4⟩ := frN_t fr3 gr3 (frN_tk C3 hq)
    obtain ⟨k, hk1, hk2, rfl, -⟩ := p_numb_c (by decide) hx3
    first | refine z_istore_4 d_FenR_readTrait_61 rfl ?_ | (refine z_forget_3 ?_; refine z_istore_4 d_FenR_readTrait_61 rfl ?_)
    refine z_iload_4 d_FenR_readTrait_63 ?_
    refine z_if_lt (tgt := 78) d_FenR_readTrait_65 (by decide) (fun h => absurd h (nI_pos (by omega))) (fun _ => ?_)
    refine z_aload_0 d_FenR_readTrait_68 ?_
    refine z_getR d_FenR_readTrait_69 f_FenR_9 (by first | assumption | exact zS0_at (by assumption) (by omega) | exact zS0_at rfl (by omega)) (by first | assumption | exact zS0_at (by assumption) (by omega) | exact zS0_at rfl (by omega)) ?_
    refine z_Vi0 d_FenR_readTrait_72 k_FenR_74 (by first | assumption | exact zS0_at (by assumption) (by omega) | exact zS0_at rfl (by omega)) (t_Tok_takeSemicolon C4.1) ⟨Nat.le_of_ble_eq_true rfl, Nat.le_of_ble_eq_true rfl, Nat.le_of_ble_eq_true rfl, Nat.le_of_ble_eq_true rfl⟩ (Nat.le_of_ble_eq_true rfl) ?_
    intro r w hq
    rcases hx4 : p_semi (tA T L K) (tA T L K t1) with e | t' <;> rw [hx4] at hq <;> dsimp only [pb]
    · obtain ⟨rfl, hq⟩ := hq
      obtain ⟨I9, J9, rfl, hq2⟩ := frE_t fr4 gr4 (frE_tk hq)
      refine z_if_ne (tgt := 80) d_FenR_readTrait_75 (by decide) (fun h => absurd (by decide) h) (fun _ => ?_)
      refine z_iconst (a := nI 0) d_FenR_readTrait_78 (by decide) ?_
      refine z_retz d_FenR_readTrait_79 (by first | exact zb0 | exact zb1 | assumption) ?_
      exact ⟨rfl, I9, J9, rfl, hq2⟩
    obtain ⟨rfl, hq⟩ := hq
    obtain ⟨I5, J5, rfl, fr5, gr5, C5⟩ := frN_t fr4 gr4 (frN_tk C4 hq)
    obtain ⟨⟨d1, -⟩, -, -, -, -, -, -, -, -, dA, dB⟩ := frC_n C5
    obtain ⟨a1, a2, a3, a4⟩ := frC_A C5
    refine z_if_ne (tgt := 80) d_FenR_readTrait_75 (by decide) (fun _ => ?_) (fun h => absurd h (by decide))
    refine z_aload_1 d_FenR_readTrait_80 ?_
    refine z_lload_2 d_FenR_readTrait_81 ?_
    refine z_iload_4 d_FenR_readTrait_82 ?_
    refine z_Vv2 d_FenR_readTrait_84 k_FenR_87 (by first | assumption | exact zS0_at (by assumption) (by omega) | exact zS0_at rfl (by omega)) (t_Fen_addTrait F d1 hb) ⟨Nat.le_of_ble_eq_true rfl, Nat.le_of_ble_eq_true rfl, Nat.le_of_ble_eq_true rfl, Nat.le_of_ble_eq_true rfl⟩ (Nat.le_of_ble_eq_true rfl) ?_
    intro w hq
    obtain rfl := hq
    refine z_iconst (a := nI 1) d_FenR_readTrait_87 (by decide) ?_
    refine z_retz d_FenR_readTrait_88 (by first | exact zb0 | exact zb1 | assumption) ?_
    exact ⟨rfl, _, _, rfl, frF_u (frF_u fr5 (by omega)) (by omega), frF_u gr5 (by omega), frC_up C5 (fun a ha => by rw [zu_row _ _ _ _ (by omega), zu_row _ _ _ _ (by omega)]) (fun a ha => by rw [zu_row _ _ _ _ (by omega)]) (by rw [sf_zu0, sf_zu, dA]) (by rw [sf_zu, dB]) ⟨zu_same _ _ _ _, by omega⟩ (by simp only [zu]; exact a2) (by simp only [zu]; exact a3) (by simp only [zu]; exact a4)⟩
  · have hb : ¬ nt < 6 := fun h => hb (nI_lt h (by omega))
    rw [if_neg hb]
    refine z_aload_0 d_FenR_readTrait_9 ?_
    refine z_getR d_FenR_readTrait_10 f_FenR_9 (by first | assumption | exact zS0_at (by assumption) (by omega) | exact zS0_at rfl (by omega)) (by first | assumption | exact zS0_at (by assumption) (by omega) | exact zS0_at rfl (by omega)) ?_
    refine z_bipush (a := nI 6) d_FenR_readTrait_13 (by decide) ?_
    refine z_Vi1 d_FenR_readTrait_15 k_FenR_60 (by first | assumption | exact zS0_at (by assumption) (by omega) | exact zS0_at rfl (by omega)) (t_Tok_faulty C.1) ⟨Nat.le_of_ble_eq_true rfl, Nat.le_of_ble_eq_true rfl, Nat.le_of_ble_eq_true rfl, Nat.le_of_ble_eq_true rfl⟩ (Nat.le_of_ble_eq_true rfl) ?_
    intro r w hq
    obtain ⟨rfl, hq⟩ := hq
    refine z_retz d_FenR_readTrait_18 (by first | exact zb0 | exact zb1 | assumption) ?_
    exact ⟨rfl, frE_tk hq⟩
end PF1
