/-! the reference's reader of a FEN's text -/
section MF0
def q_odds (a : tk → tk) (s : pS) (t : tk) : pR (pS × tk) := if s.1.2.2.2.2 = 0 then pb (p_numb a (nI 0) (nI 16) (a t)) (fun v => .inr (((s.1.1, s.1.2.1, s.1.2.2.1, s.1.2.2.2.1, 1), zu s.2.1 0 0 v.1, s.2.2), v.2)) else .inl (5, tst t)
def q_trait (a : tk → tk) (s : pS) (t : tk) : pR (pS × tk) := pb (if s.1.1 < 6 then p_newn a s (a t) else .inl (6, tst t)) (fun n => pb (p_word a (nI 2) n.2) (fun t1 => pb (p_numb a (nI 0) (nI 99) t1) (fun v => .inr (((s.1.1 + 1, s.1.2.1, s.1.2.2.1, s.1.2.2.2.1, s.1.2.2.2.2), zu (zu s.2.1 1 s.1.1 v.1) 0 1 (nI (s.1.1 + 1)), zu s.2.2 9 s.1.1 n.1), v.2))))
def q_lane (a : tk → tk) (s : pS) (t : tk) : pR (pS × tk) := if s.1.2.2.1 < 12 then pb (p_known (s.2.2 10) s.1.2.1 (a t)) (fun k => pb (p_known (s.2.2 10) s.1.2.1 (a (a t))) (fun m => if m = k then .inl (5, tst (a (a t))) else .inr (((s.1.1, s.1.2.1, s.1.2.2.1 + 1, s.1.2.2.2.1, s.1.2.2.2.2), zu (zu (zu s.2.1 3 k.toNatClampNeg (s.2.1 3 k.toNatClampNeg ||| (nI 1 <<< (m &&& 31)))) 3 m.toNatClampNeg (s.2.1 3 m.toNatClampNeg ||| (nI 1 <<< (k &&& 31)))) 0 3 (nI (s.1.2.2.1 + 1)), s.2.2), a (a (a t))))) else .inl (6, tst t)
def q_tin (a : tk → tk) (s : pS) (t : tk) : pR (pS × tk) := pb (if s.1.2.2.2.1 < 9 then p_newn a s (a t) else .inl (6, tst t)) (fun n => pb (p_word a (nI 7) n.2) (fun t1 => pb (p_known (s.2.2 9) s.1.1 t1) (fun k => pb (p_word a (nI 8) (a t1)) (fun t2 => pb (p_known (s.2.2 10) s.1.2.1 t2) (fun p => .inr (p_addT s k p (decide (tkw (a t2) = nI 9)) n.1, (if tkw (a t2) = nI 9 then a (a t2) else a t2)))))))
def q_semi (a : tk → tk) (x : pR (pS × tk)) : pR (pS × tk) := pb x (fun x => pb (p_semi a x.2) (fun t' => .inr (x.1, t')))
theorem q_odds_p {a : tk → tk} {s : pS} {t : tk} : p_odds a s t = q_semi a (q_odds a s t) := by
  unfold p_odds q_odds q_semi
  split
  · rcases p_numb a (nI 0) (nI 16) (a t) with e | v <;> rfl
  · rfl
theorem q_trait_p {a : tk → tk} {s : pS} {t : tk} : p_trait a s t = q_semi a (q_trait a s t) := by
  unfold p_trait q_trait q_semi
  split
  · rcases p_newn a s (a t) with e | n
    · rfl
    · dsimp only [pb]
      rcases p_word a (nI 2) n.2 with e | t1
      · rfl
      · dsimp only [pb]
        rcases p_numb a (nI 0) (nI 99) t1 with e | v <;> rfl
  · rfl
theorem q_lane_p {a : tk → tk} {s : pS} {t : tk} : p_lane a s t = q_semi a (q_lane a s t) := by
  unfold p_lane q_lane q_semi
  split
  · rcases p_known (s.2.2 10) s.1.2.1 (a t) with e | k
    · rfl
    · dsimp only [pb]
      rcases p_known (s.2.2 10) s.1.2.1 (a (a t)) with e | m
      · rfl
      · dsimp only [pb]
        split <;> rfl
  · rfl
theorem q_tin_p {a : tk → tk} {s : pS} {t : tk} : p_tin a s t = q_semi a (q_tin a s t) := by
  unfold p_tin q_tin q_semi
  split
  · rcases p_newn a s (a t) with e | n
    · rfl
    · dsimp only [pb]
      rcases p_word a (nI 7) n.2 with e | t1
      · rfl
      · dsimp only [pb]
        rcases p_known (s.2.2 9) s.1.1 t1 with e | k
        · rfl
        · dsimp only [pb]
          rcases p_word a (nI 8) (a t1) with e | t2
          · rfl
          · dsimp only [pb]
            rcases p_known (s.2.2 10) s.1.2.1 t2 with e | p <;> rfl
  · rfl
end MF0
section MF1
variable {G : zG} {I I1 I2 : Nat → Nat → Int32} {J J1 J2 : Nat → Nat → Int64} {P : Nat → Nat → Option Nat} {S : List (Nat × Nat)} {L : Nat} {a b : Int32} {T : Nat → Int32} {K : Nat → Int64} {t : tk} {z nt np nl nn od : Nat} {A : Nat → Nat → Int32} {B : Nat → Nat → Int64}
def mP (I I' : Nat → Nat → Int32) : Prop := (∀ a, a ≠ 145 → a ≠ 150 → I' a = I a) ∧ (∀ k, k < 1436 → I' 150 k = I 150 k) ∧ (∀ k, ¬ (12 ≤ k ∧ k ≤ 19) → k ≠ 24 → k ≠ 25 → I' 145 k = I 145 k)
def mQ (J J' : Nat → Nat → Int64) : Prop := (∀ a, a ≠ 145 → a ≠ 152 → J' a = J a) ∧ (∀ k, k < 88 → J' 152 k = J 152 k) ∧ (∀ k, k ≠ 19 → J' 145 k = J 145 k)
theorem mP_r : mP I I := ⟨fun _ _ _ => rfl, fun _ _ => rfl, fun _ _ _ _ => rfl⟩
theorem mQ_r : mQ J J := ⟨fun _ _ _ => rfl, fun _ _ => rfl, fun _ _ => rfl⟩
theorem mP_t (h1 : mP I I1) (h2 : mP I1 I2) : mP I I2 := ⟨fun a g g2 => (h2.1 a g g2).trans (h1.1 a g g2), fun k g => (h2.2.1 k g).trans (h1.2.1 k g), fun k g g2 g3 => (h2.2.2 k g g2 g3).trans (h1.2.2 k g g2 g3)⟩
theorem mQ_t (h1 : mQ J J1) (h2 : mQ J1 J2) : mQ J J2 := ⟨fun a g g2 => (h2.1 a g g2).trans (h1.1 a g g2), fun k g => (h2.2.1 k g).trans (h1.2.1 k g), fun k g => (h2.2.2 k g).trans (h1.2.2 k g)⟩
theorem mP_tk (h : mF I I1) : mP I I1 := ⟨fun a g _ => h.1 a g, fun k _ => by rw [h.1 150 (by decide)], fun k g _ _ => h.2 k (by omega)⟩
theorem mQ_tk (h : mJ J J1) : mQ J J1 := ⟨fun a g _ => h.1 a g, fun k _ => by rw [h.1 152 (by decide)], fun k g => h.2 k g⟩
theorem mP_B {e : Nat × Nat} : mP I (mB I e) := ⟨fun a g _ => mB_row g, fun k _ => by rw [mB_row (by decide)], fun k g _ _ => mB_ne (by omega) (by omega)⟩
theorem mP_c {k : Nat} {x : Int32} (h : mP I I1) (hk : 1436 ≤ k) : mP I (zu I1 150 k x) := ⟨fun a g g2 => (zu_row _ _ _ _ g2).trans (h.1 a g g2), fun i g => (zu_ne _ _ _ _ (by omega)).trans (h.2.1 i g), fun i g g2 g3 => (zu_ne _ _ _ _ (by omega)).trans (h.2.2 i g g2 g3)⟩
theorem mP_p {k : Nat} {x : Int32} (h : mP I I1) (hk : k = 24 ∨ k = 25 ∨ (12 ≤ k ∧ k ≤ 19)) : mP I (zu I1 145 k x) := ⟨fun a g g2 => (zu_row _ _ _ _ g).trans (h.1 a g g2), fun i g => (zu_ne _ _ _ _ (by omega)).trans (h.2.1 i g), fun i g g2 g3 => (zu_ne _ _ _ _ (by omega)).trans (h.2.2 i g g2 g3)⟩
theorem mQ_c {k : Nat} {x : Int64} (h : mQ J J1) (hk : 88 ≤ k) : mQ J (zu J1 152 k x) := ⟨fun a g g2 => (zu_row _ _ _ _ g2).trans (h.1 a g g2), fun i g => (zu_ne _ _ _ _ (by omega)).trans (h.2.1 i g), fun i g => (zu_ne _ _ _ _ (by omega)).trans (h.2.2 i g)⟩
/-- a fault's end -/
def moX (T : Nat → Int32) (K : Nat → Int64) (L : Nat) (I : Nat → Nat → Int32) (J : Nat → Nat → Int64) (P : Nat → Nat → Option Nat) (S : List (Nat × Nat)) (e : Nat × Nat) (w : zW) : Prop := ∃ I' J' t', w = (I', J', P, S) ∧ mP I I' ∧ mQ J J' ∧ moC T K L e.1 I' J' P S t' ∧ I' 145 13 = nI e.2 ∧ 0 < e.1 ∧ e.1 < 9
theorem moX_B {e : Nat × Nat} (C : moC T K L 0 I1 J1 P S t) (h1 : mP I I1) (h2 : mQ J J1) (h3 : 0 < e.1 ∧ e.1 < 9) : moX T K L I J P S e (mB I1 e, J1, P, S) := ⟨_, _, t, rfl, mP_t h1 mP_B, h2, moC_f C, by simp [mB, zu], h3⟩
theorem p_mis_b : 0 < (p_mis t).1 ∧ (p_mis t).1 < 9 := by unfold p_mis; dsimp only; split <;> decide
/-- the FEN that is being read, in the reference's last block -/
def moS (I : Nat → Nat → Int32) (J : Nat → Nat → Int64) (s : pS) : Prop :=
  (I 150 1436 = nI s.1.1 ∧ s.1.1 ≤ 6) ∧ (I 150 1437 = nI s.1.2.1 ∧ s.1.2.1 ≤ 7) ∧ (I 150 1438 = nI s.1.2.2.1 ∧ s.1.2.2.1 ≤ 12) ∧ (I 150 1439 = nI s.1.2.2.2.1 ∧ s.1.2.2.2.1 ≤ 9) ∧ (I 145 24 = nI s.1.2.2.2.2 ∧ s.1.2.2.2.2 ≤ 1) ∧ I 150 1440 = s.2.1 0 0 ∧
  (∀ k, k < s.1.1 → I 150 (1442 + k) = s.2.1 1 k ∧ J 152 (88 + k) = s.2.2 9 k) ∧
  (∀ k, k < s.1.2.1 → I 150 (1448 + k) = s.2.1 2 k ∧ I 150 (1455 + k) = s.2.1 3 k ∧ s.2.1 4 k = nI 0 ∧ J 152 (94 + k) = s.2.2 10 k) ∧
  (∀ k, k < 7 → s.1.2.1 ≤ k → I 150 (1455 + k) = nI 0) ∧ (∀ k, k < 7 → I 150 (1462 + k) = nI 0) ∧
  (∀ t, t < s.1.2.2.2.1 → I 150 (1469 + t) = s.2.1 5 t ∧ I 150 (1478 + t) = s.2.1 6 t ∧ I 150 (1487 + t) = (if zB (s.2.1 0 6) t then nI 1 else nI 0) ∧ I 150 (1496 + t) = nI 0 ∧ I 150 (1505 + t) = s.2.1 7 t ∧ I 150 (1514 + t) = s.2.1 8 t ∧ J 152 (101 + t) = s.2.2 11 t) ∧
  (∀ t, s.1.2.2.2.1 ≤ t → t < 32 → zB (s.2.1 0 6) t = false) ∧ (s.2.1 0 5 = nI 0 ∧ s.2.1 0 7 = nI 0) ∧ (I 150 1441 = nI 0 ∧ I 150 1523 = nI 0 ∧ I 150 1524 = nI 0)
theorem moS_c {s : pS} (h : moS I J s) (h1 : I1 150 = I 150) (h2 : I1 145 24 = I 145 24) (h3 : J1 152 = J 152) : moS I1 J1 s := by
  unfold moS
  rw [h1, h2, h3]
  exact h
theorem moS_tk {s : pS} (h : moS I J s) (h1 : mF I I1) (h2 : mJ J J1) : moS I1 J1 s := moS_c h (h1.1 _ (by decide)) (h1.2 _ (by decide)) (h2.1 _ (by decide))
def moY (T : Nat → Int32) (K : Nat → Int64) (L : Nat) (I : Nat → Nat → Int32) (J : Nat → Nat → Int64) (P : Nat → Nat → Option Nat) (S : List (Nat × Nat)) (x : pS × tk) (w : zW) : Prop := ∃ I' J', w = (I', J', P, S) ∧ mP I I' ∧ mQ J J' ∧ moC T K L 0 I' J' P S x.2 ∧ moS I' J' x.1
theorem moY_tk {s : pS} {t' : tk} {w : zW} (h0 : mP I I1) (g0 : mQ J J1) (h : moS I1 J1 s) (hq : moN T K L 0 I1 J1 P S t' w) : moY T K L I J P S (s, t') w := by
  obtain ⟨I2, J2, rfl, h1, h2, h3⟩ := hq
  exact ⟨I2, J2, rfl, mP_t h0 (mP_tk h1), mQ_t g0 (mQ_tk h2), h3, moS_tk h h1 h2⟩
theorem moC_c (C : moC T K L z I J P S t) (h1 : ∀ k, k ≤ 18 → I1 145 k = I 145 k) (h2 : I1 149 = I 149) (h3 : J1 145 19 = J 145 19) : moC T K L z I1 J1 P S t := by
  obtain ⟨M, ⟨h9, hL⟩, ⟨hT, hB, hK⟩, ⟨a1, a2, a3, a4, a5, a6⟩, hP, hE, h12⟩ := C
  exact ⟨M, ⟨(h1 9 (by omega)).trans h9, hL⟩, ⟨fun k hk => by rw [h2]; exact hT k hk, hB, hK⟩, ⟨(h1 _ (by omega)).trans a1, (h1 _ (by omega)).trans a2, (h1 _ (by omega)).trans a3, fun h => ⟨(h1 _ (by omega)).trans (a4 h).1, h3.trans (a4 h).2⟩, fun h => (h1 _ (by omega)).trans (a5 h), fun h => (h1 _ (by omega)).trans (a6 h)⟩, hP, hE, (h1 _ (by omega)).trans h12⟩
theorem moS_nm {s : pS} {c : Int64} (h : moS I J s) : s_idx (fun k => J 152 (22 * 4 + 0 + k)) c s.1.1 0 = s_idx (s.2.2 9) c s.1.1 0 ∧ s_idx (fun k => J 152 (22 * 4 + 6 + k)) c s.1.2.1 0 = s_idx (s.2.2 10) c s.1.2.1 0 ∧ s_idx (fun k => J 152 (22 * 4 + 13 + k)) c s.1.2.2.2.1 0 = s_idx (s.2.2 11) c s.1.2.2.2.1 0 := by
  obtain ⟨-, -, -, -, -, -, h1, h2, -, -, h3, -⟩ := h
  exact ⟨s_idx_g _ _ (fun k _ hk => (h1 k (by omega)).2), s_idx_g _ _ (fun k _ hk => (h2 k (by omega)).2.2.2), s_idx_g _ _ (fun k _ hk => (h3 k (by omega)).2.2.2.2.2.2)⟩
theorem moS_kn {s : pS} (h : moS I J s) : p_known (fun k => J 152 (22 * 4 + 0 + k)) s.1.1 t = p_known (s.2.2 9) s.1.1 t ∧ p_known (fun k => J 152 (22 * 4 + 6 + k)) s.1.2.1 t = p_known (s.2.2 10) s.1.2.1 t := by
  obtain ⟨-, -, -, -, -, -, h1, h2, -⟩ := h
  exact ⟨p_known_g (fun k hk => (h1 k (by omega)).2), p_known_g (fun k hk => (h2 k (by omega)).2.2.2)⟩
theorem m_readNew {so off n most : Nat} (C : moC T K L 0 I J P S t) (X : moS I J ((nt, np, nl, nn, od), A, B)) (hs : so = 0 ∧ off = 0 ∧ n = nt ∧ most = 6 ∨ so = 1 ∧ off = 6 ∧ n = np ∧ most = 7 ∨ so = 3 ∧ off = 13 ∧ n = nn ∧ most = 9) : zEi G y_Mo_readNew prog_14_method_57_code 4 (some .int) 6 [.ref 145, .int (nI so), .int (nI most)] (I, J, P, S) (fun r w => pQ (if n < most then p_newn (tA T L K) ((nt, np, nl, nn, od), A, B) (tA T L K t) else .inl (6, tst t)) (fun e => r = nI 0 ∧ moX T K L I J P S e w) (fun v => r = nI n ∧ n < most ∧ ∃ I' J', w = (I', J', P, S) ∧ mF I I' ∧ mJ (zu J 152 (88 + off + n) v.1) J' ∧ moC T K L 0 I' J' P S v.2)) := by
  have M := C.1
  obtain ⟨M0, ⟨M4, M4s⟩, ⟨M5, M5s⟩, ⟨M6, M6s⟩, ⟨M7, M7s⟩, ⟨M20, M20s⟩, ⟨M21, M21s⟩, ⟨M22, M22s⟩, ⟨M26, M26s⟩, ⟨M27, M27s⟩, ⟨M28, M28s⟩, ⟨M30, M30s⟩, ⟨M34, M34s⟩, ⟨M36, M36s⟩, ⟨M37, M37s⟩⟩ := id M
  obtain ⟨a1, a2, a3, h4, h5, h6, M0⟩ := moC_n C
  have hsf : so = 0 ∧ off = 0 ∨ so = 1 ∧ off = 6 ∨ so = 3 ∧ off = 13 := by rcases hs with h | h | h <;> omega
  have hcn : I 150 (1436 + so) = nI n ∧ n ≤ most ∧ most ≤ 9 ∧ off + n ≤ 22 ∧ so ≤ 3 := by
    obtain ⟨⟨x1, y1⟩, ⟨x2, y2⟩, -, ⟨x4, y4⟩, -⟩ := X
    dsimp only at x1 y1 x2 y2 x4 y4
    rcases hs with ⟨rfl, rfl, rfl, rfl⟩ | ⟨rfl, rfl, rfl, rfl⟩ | ⟨rfl, rfl, rfl, rfl⟩
    · exact ⟨x1, y1, by omega, by omega, by omega⟩
    · exact ⟨x2, y2, by omega, by omega, by omega⟩
    · exact ⟨x4, y4, by omega, by omega, by omega⟩
  obtain ⟨c1, c2, c3, c4, c5⟩ := hcn
  have hm6 : mB I (6, tst t) 145 12 = nI 6 := by simp [mB, zu]
  refine zEi_of (lv := [some (.ref 145), some (.int (nI so)), some (.int (nI most)), none]) (by decide) rfl (Nat.le_of_ble_eq_true rfl) ?_
  refine z_aload_0 d_Mo_readNew_0 ?_
  refine z_getR d_Mo_readNew_1 f_Mo_35 (by first | assumption | exact zS0_at (by assumption) (by omega) | exact zS0_at rfl (by omega)) (by first | assumption | exact zS0_at (by assumption) (by omega) | exact zS0_at rfl (by omega)) ?_
  refine z_sipush (a := nI 1436) d_Mo_readNew_4 (by decide) ?_
  refine z_iload_1 d_Mo_readNew_7 ?_
  first | refine z_iaddN d_Mo_readNew_8 ?_ | refine z_iadd d_Mo_readNew_8 ?_
  first | refine z_ialdNv d_Mo_readNew_9 (by first | assumption | exact zS0_at (by assumption) (by omega) | exact zS0_at rfl (by omega)) (by omega) (by first | decide | omega) (by first | assumption | ((try simp (disch := omega) only [zu_same, zu_ne, zcp_ne, zfl_ne]); first | assumption | rfl)) ?_ | refine z_iald d_Mo_readNew_9 (by first | assumption | exact zS0_at (by assumption) (by omega) | exact zS0_at rfl (by omega)) (by first | assumption | exact zS0_at (by assumption) (by omega) | exact zS0_at rfl (by omega)) ?_
  first | refine z_istore_3 d_Mo_readNew_10 rfl ?_ | (refine z_forget_2 ?_; refine z_istore_3 d_Mo_readNew_10 rfl ?_)
  refine z_iload_3 d_Mo_readNew_11 ?_
  refine z_iload_2 d_Mo_readNew_12 ?_
  refine z_icmp_ne (tgt := 26) d_Mo_readNew_13 (by decide) (fun hb => ?_) (fun hb => ?_)
  · have hb : n < most := by
      rcases Nat.lt_or_ge n most with h | h
      · exact h
      · exact absurd (congrArg nI (show n = most by omega)) hb
    rw [if_pos hb]
    refine z_aload_0 d_Mo_readNew_26 ?_
    refine z_getIv d_Mo_readNew_27 f_Mo_202 (by first | assumption | exact zS0_at (by assumption) (by omega) | exact zS0_at rfl (by omega)) (by first | assumption | ((try simp (disch := omega) only [zu_same, zu_ne, zcp_ne, zfl_ne]); first | assumption | rfl)) ?_
    refine z_if_le (tgt := 35) d_Mo_readNew_30 (by decide) (fun _ => ?_) (fun h => absurd (by decide) h)
    refine z_aload_0 d_Mo_readNew_35 ?_
    refine z_Vv0 d_Mo_readNew_36 k_Mo_212 (by first | assumption | exact zS0_at (by assumption) (by omega) | exact zS0_at rfl (by omega)) (m_adv C) ⟨Nat.le_of_ble_eq_true rfl, Nat.le_of_ble_eq_true rfl, Nat.le_of_ble_eq_true rfl, Nat.le_of_ble_eq_true rfl⟩ (Nat.le_of_ble_eq_true rfl) ?_
    intro w hq
    obtain ⟨I1, J1, rfl, h1, h2, C1⟩ := hq
    have X1 := moS_tk X h1 h2
    obtain ⟨b1, b2, b3, g4, g5, g6, -⟩ := moC_n C1
    refine z_aload_0 d_Mo_readNew_39 ?_
    refine z_Vi0 d_Mo_readNew_40 k_Mo_227 (by first | assumption | exact zS0_at (by assumption) (by omega) | exact zS0_at rfl (by omega)) (m_isName C1) ⟨Nat.le_of_ble_eq_true rfl, Nat.le_of_ble_eq_true rfl, Nat.le_of_ble_eq_true rfl, Nat.le_of_ble_eq_true rfl⟩ (Nat.le_of_ble_eq_true rfl) ?_
    intro r w hq
    rcases hq with ⟨⟨hN, rfl⟩ | ⟨hN, rfl⟩, rfl⟩
    · have hw := moC_wd C1 hN
      obtain ⟨i1, i2, i3⟩ := moS_nm (c := twd (tA T L K t)) X1
      dsimp only at i1 i2 i3
      have n0 : I1 150 (359 * 4 + 0) = nI nt := X1.1.1
      have n1 : I1 150 (359 * 4 + 1) = nI np := X1.2.1.1
      have n3 : I1 150 (359 * 4 + 3) = nI nn := X1.2.2.2.1.1
      have y1 : nt ≤ 6 := X1.1.2
      have y2 : np ≤ 7 := X1.2.1.2
      have y3 : nn ≤ 9 := X1.2.2.2.1.2
      have tak : (0 ≤ s_idx (B 9) (twd (tA T L K t)) nt 0 ∨ 0 ≤ s_idx (B 10) (twd (tA T L K t)) np 0 ∨ 0 ≤ s_idx (B 11) (twd (tA T L K t)) nn 0) → zA G y_Mo_readNew prog_14_method_57_code 4 (some .int) (zRm 6 0 0) (zM G 0 0 (fun r w' => ∃ x, r = some (.int x) ∧ (fun r w => pQ (if n < most then p_newn (tA T L K) ((nt, np, nl, nn, od), A, B) (tA T L K t) else .inl (6, tst t)) (fun e => r = nI 0 ∧ moX T K L I J P S e w) (fun v => r = nI n ∧ n < most ∧ ∃ I' J', w = (I', J', P, S) ∧ mF I I' ∧ mJ (zu J 152 (88 + off + n) v.1) J' ∧ moC T K L 0 I' J' P S v.2)) x w')) 84 [some (.ref 145), some (.int (nI so)), some (.int (nI most)), some (.int (nI n))] [] (I1, J1, P, S) 0 0 := by
        intro h
        rw [if_pos hb, p_newn_3 hN h]
        have hm3 : mB I1 (3, tst (tA T L K t)) 145 12 = nI 3 := by simp [mB, zu]
        refine z_aload_0 d_Mo_readNew_84 ?_
        refine z_iconst (a := nI 3) d_Mo_readNew_85 (by decide) ?_
        refine z_aload_0 d_Mo_readNew_86 ?_
        refine z_getIv d_Mo_readNew_87 f_Mo_119 (by first | assumption | exact zS0_at (by assumption) (by omega) | exact zS0_at rfl (by omega)) (by first | assumption | ((try simp (disch := omega) only [zu_same, zu_ne, zcp_ne, zfl_ne]); first | assumption | rfl)) ?_
        refine z_Vv2 d_Mo_readNew_90 k_Mo_208 (by first | assumption | exact zS0_at (by assumption) (by omega) | exact zS0_at rfl (by omega)) (m_fail0 C1) ⟨Nat.le_of_ble_eq_true rfl, Nat.le_of_ble_eq_true rfl, Nat.le_of_ble_eq_true rfl, Nat.le_of_ble_eq_true rfl⟩ (Nat.le_of_ble_eq_true rfl) ?_
        intro w hq
        obtain rfl := hq
        refine z_aload_0 d_Mo_readNew_93 ?_
        refine z_getIv d_Mo_readNew_94 f_Mo_202 (by first | assumption | exact zS0_at (by assumption) (by omega) | exact zS0_at rfl (by omega)) (by first | assumption | ((try simp (disch := omega) only [zu_same, zu_ne, zcp_ne, zfl_ne]); first | assumption | rfl)) ?_
        refine z_if_le (tgt := 102) d_Mo_readNew_97 (by decide) (fun h => absurd h (by decide)) (fun _ => ?_)
        refine z_iconst (a := nI 0) d_Mo_readNew_100 (by decide) ?_
        refine z_reti d_Mo_readNew_101 ?_
        exact ⟨rfl, moX_B C1 (mP_tk h1) (mQ_tk h2) ⟨show 0 < 3 by decide, show 3 < 9 by decide⟩⟩
      rw [if_pos hb] at tak
      refine z_if_ne (tgt := 50) d_Mo_readNew_43 (by decide) (fun _ => ?_) (fun h => absurd h (by decide))
      refine z_aload_0 d_Mo_readNew_50 ?_
      refine z_getIv d_Mo_readNew_51 f_Mo_202 (by first | assumption | exact zS0_at (by assumption) (by omega) | exact zS0_at rfl (by omega)) (by first | assumption | ((try simp (disch := omega) only [zu_same, zu_ne, zcp_ne, zfl_ne]); first | assumption | rfl)) ?_
      refine z_if_ne (tgt := 93) d_Mo_readNew_54 (by decide) (fun h => absurd (by decide) h) (fun _ => ?_)
      refine z_aload_0 d_Mo_readNew_57 ?_
      refine z_iconst (a := nI 4) d_Mo_readNew_58 (by decide) ?_
      refine z_iconst (a := nI 0) d_Mo_readNew_59 (by decide) ?_
      refine z_Vi2 d_Mo_readNew_60 k_Mo_230 (by first | assumption | exact zS0_at (by assumption) (by omega) | exact zS0_at rfl (by omega)) (t_Mo_named (off := 0) C1.1 (Nat.le_refl 4) (Or.inl ⟨rfl, rfl⟩) n0 (by omega)) ⟨Nat.le_of_ble_eq_true rfl, Nat.le_of_ble_eq_true rfl, Nat.le_of_ble_eq_true rfl, Nat.le_of_ble_eq_true rfl⟩ (Nat.le_of_ble_eq_true rfl) ?_
      rw [hw, i1]
      intro r w hq
      obtain ⟨rfl, rfl⟩ := hq
      refine z_if_ge (tgt := 84) d_Mo_readNew_63 (by decide) (fun k1 => ?_) (fun k1 => ?_)
      · exact tak (Or.inl k1)
      refine z_aload_0 d_Mo_readNew_66 ?_
      refine z_iconst (a := nI 4) d_Mo_readNew_67 (by decide) ?_
      refine z_iconst (a := nI 1) d_Mo_readNew_68 (by decide) ?_
      refine z_Vi2 d_Mo_readNew_69 k_Mo_230 (by first | assumption | exact zS0_at (by assumption) (by omega) | exact zS0_at rfl (by omega)) (t_Mo_named (off := 6) C1.1 (Nat.le_refl 4) (Or.inr (Or.inl ⟨rfl, rfl⟩)) n1 (by omega)) ⟨Nat.le_of_ble_eq_true rfl, Nat.le_of_ble_eq_true rfl, Nat.le_of_ble_eq_true rfl, Nat.le_of_ble_eq_true rfl⟩ (Nat.le_of_ble_eq_true rfl) ?_
      rw [hw, i2]
      intro r w hq
      obtain ⟨rfl, rfl⟩ := hq
      refine z_if_ge (tgt := 84) d_Mo_readNew_72 (by decide) (fun k2 => ?_) (fun k2 => ?_)
      · exact tak (Or.inr (Or.inl k2))
      refine z_aload_0 d_Mo_readNew_75 ?_
      refine z_iconst (a := nI 4) d_Mo_readNew_76 (by decide) ?_
      refine z_iconst (a := nI 3) d_Mo_readNew_77 (by decide) ?_
      refine z_Vi2 d_Mo_readNew_78 k_Mo_230 (by first | assumption | exact zS0_at (by assumption) (by omega) | exact zS0_at rfl (by omega)) (t_Mo_named (off := 13) C1.1 (Nat.le_refl 4) (Or.inr (Or.inr ⟨rfl, rfl⟩)) n3 (by omega)) ⟨Nat.le_of_ble_eq_true rfl, Nat.le_of_ble_eq_true rfl, Nat.le_of_ble_eq_true rfl, Nat.le_of_ble_eq_true rfl⟩ (Nat.le_of_ble_eq_true rfl) ?_
      rw [hw, i3]
      intro r w hq
      obtain ⟨rfl, rfl⟩ := hq
      refine z_if_lt (tgt := 93) d_Mo_readNew_81 (by decide) (fun k3 => ?_) (fun k3 => ?_)
      · have k3 := Int32.not_le.mpr k3
        rw [p_newn_ok hN (by rintro (h | h | h); exact k1 h; exact k2 h; exact k3 h)]
        refine z_aload_0 d_Mo_readNew_93 ?_
        refine z_getIv d_Mo_readNew_94 f_Mo_202 (by first | assumption | exact zS0_at (by assumption) (by omega) | exact zS0_at rfl (by omega)) (by first | assumption | ((try simp (disch := omega) only [zu_same, zu_ne, zcp_ne, zfl_ne]); first | assumption | rfl)) ?_
        refine z_if_le (tgt := 102) d_Mo_readNew_97 (by decide) (fun _ => ?_) (fun h => absurd (by decide) h)
        refine z_aload_0 d_Mo_readNew_102 ?_
        refine z_getR d_Mo_readNew_103 f_Mo_41 (by first | assumption | exact zS0_at (by assumption) (by omega) | exact zS0_at rfl (by omega)) (by first | assumption | exact zS0_at (by assumption) (by omega) | exact zS0_at rfl (by omega)) ?_
        refine z_bipush (a := nI 88) d_Mo_readNew_106 (by decide) ?_
        refine z_iload_1 d_Mo_readNew_108 ?_
        refine z_Si1 d_Mo_readNew_109 k_Mo_224 (t_Mo_namesFrom hsf) ⟨Nat.le_of_ble_eq_true rfl, Nat.le_of_ble_eq_true rfl, Nat.le_of_ble_eq_true rfl, Nat.le_of_ble_eq_true rfl⟩ (Nat.le_of_ble_eq_true rfl) ?_
        intro r w hq
        obtain ⟨rfl, rfl⟩ := hq
        first | refine z_iaddN d_Mo_readNew_112 ?_ | refine z_iadd d_Mo_readNew_112 ?_
        refine z_iload_3 d_Mo_readNew_113 ?_
        first | refine z_iaddN d_Mo_readNew_114 ?_ | refine z_iadd d_Mo_readNew_114 ?_
        refine z_aload_0 d_Mo_readNew_115 ?_
        refine z_getJv d_Mo_readNew_116 f_Mo_131 (by first | assumption | exact zS0_at (by assumption) (by omega) | exact zS0_at rfl (by omega)) (by first | assumption | ((try simp (disch := omega) only [zu_same, zu_ne, zcp_ne, zfl_ne]); first | assumption | rfl)) ?_
        refine z_lastN d_Mo_readNew_119 M22s (by omega) (by decide) ?_
        have C2 : moC T K L 0 I1 (zu J1 152 (88 + off + n) (twd (tA T L K t))) P S (tA T L K t) := moC_c C1 (fun _ _ => rfl) rfl (zu_ne _ _ _ _ (by omega))
        refine z_aload_0 d_Mo_readNew_120 ?_
        refine z_Vv0 d_Mo_readNew_121 k_Mo_212 (by first | assumption | exact zS0_at (by assumption) (by omega) | exact zS0_at rfl (by omega)) (m_adv C2) ⟨Nat.le_of_ble_eq_true rfl, Nat.le_of_ble_eq_true rfl, Nat.le_of_ble_eq_true rfl, Nat.le_of_ble_eq_true rfl⟩ (Nat.le_of_ble_eq_true rfl) ?_
        intro w hq
        obtain ⟨I3, J3, rfl, h13, h23, C3⟩ := hq
        have hj : mJ (zu J 152 (88 + off + n) (twd (tA T L K t))) J3 := by
          refine ⟨fun x hx => ?_, fun k hk => ?_⟩
          · rw [h23.1 x hx]
            by_cases e : x = 152
            · subst e
              funext y
              by_cases e2 : y = 88 + off + n
              · subst e2; rw [zu_same, zu_same]
              · rw [zu_ne _ _ _ _ (by omega), zu_ne _ _ _ _ (by omega), h2.1 152 (by decide)]
            · rw [zu_row _ _ _ _ e, zu_row _ _ _ _ e, h2.1 x hx]
          · rw [h23.2 k hk, zu_ne _ _ _ _ (by omega), zu_ne _ _ _ _ (by omega), h2.2 k hk]
        have hi : mF I I3 := ⟨fun x hx => (h13.1 x hx).trans (h1.1 x hx), fun k hk => (h13.2 k hk).trans (h1.2 k hk)⟩
        refine z_iload_3 d_Mo_readNew_124 ?_
        refine z_reti d_Mo_readNew_125 ?_
        exact ⟨rfl, hb, I3, J3, rfl, hi, hj, C3⟩
      · have k3 := Int32.not_lt.mp k3
        exact tak (Or.inr (Or.inr k3))
    · rw [p_newn_m hN]
      have hm := p_mis_b (t := tA T L K t)
      have hm12 : mB I1 (p_mis (tA T L K t)) 145 12 = nI (p_mis (tA T L K t)).1 := by simp [mB, zu]
      have hne : ¬ nI (p_mis (tA T L K t)).1 = 0 := by intro h; have := (nI_eq (by omega) (by omega)).mp (h.trans nI_0.symm); omega
      refine z_if_ne (tgt := 50) d_Mo_readNew_43 (by decide) (fun h => absurd (by decide) h) (fun _ => ?_)
      refine z_aload_0 d_Mo_readNew_46 ?_
      refine z_Vv0 d_Mo_readNew_47 k_Mo_215 (by first | assumption | exact zS0_at (by assumption) (by omega) | exact zS0_at rfl (by omega)) (m_amiss0 C1) ⟨Nat.le_of_ble_eq_true rfl, Nat.le_of_ble_eq_true rfl, Nat.le_of_ble_eq_true rfl, Nat.le_of_ble_eq_true rfl⟩ (Nat.le_of_ble_eq_true rfl) ?_
      intro w hq
      obtain rfl := hq
      refine z_aload_0 d_Mo_readNew_50 ?_
      refine z_getIv d_Mo_readNew_51 f_Mo_202 (by first | assumption | exact zS0_at (by assumption) (by omega) | exact zS0_at rfl (by omega)) (by first | assumption | ((try simp (disch := omega) only [zu_same, zu_ne, zcp_ne, zfl_ne]); first | assumption | rfl)) ?_
      refine z_if_ne (tgt := 93) d_Mo_readNew_54 (by decide) (fun _ => ?_) (fun h => absurd h hne)
      refine z_aload_0 d_Mo_readNew_93 ?_
      refine z_getIv d_Mo_readNew_94 f_Mo_202 (by first | assumption | exact zS0_at (by assumption) (by omega) | exact zS0_at rfl (by omega)) (by first | assumption | ((try simp (disch := omega) only [zu_same, zu_ne, zcp_ne, zfl_ne]); first | assumption | rfl)) ?_
      refine z_if_le (tgt := 102) d_Mo_readNew_97 (by decide) (fun h => absurd h (Int32.not_le.mpr (by rw [← nI_0]; exact nI_lt hm.1 (by omega)))) (fun _ => ?_)
      refine z_iconst (a := nI 0) d_Mo_readNew_100 (by decide) ?_
      refine z_reti d_Mo_readNew_101 ?_
      exact ⟨rfl, moX_B C1 (mP_tk h1) (mQ_tk h2) hm⟩
  · have hb : n = most := (nI_eq (by omega) (by omega)).mp hb
    rw [if_neg (by omega)]
    refine z_aload_0 d_Mo_readNew_16 ?_
    refine z_bipush (a := nI 6) d_Mo_readNew_17 (by decide) ?_
    refine z_aload_0 d_Mo_readNew_19 ?_
    refine z_getIv d_Mo_readNew_20 f_Mo_119 (by first | assumption | exact zS0_at (by assumption) (by omega) | exact zS0_at rfl (by omega)) (by first | assumption | ((try simp (disch := omega) only [zu_same, zu_ne, zcp_ne, zfl_ne]); first | assumption | rfl)) ?_
    refine z_Vv2 d_Mo_readNew_23 k_Mo_208 (by first | assumption | exact zS0_at (by assumption) (by omega) | exact zS0_at rfl (by omega)) (m_fail0 C) ⟨Nat.le_of_ble_eq_true rfl, Nat.le_of_ble_eq_true rfl, Nat.le_of_ble_eq_true rfl, Nat.le_of_ble_eq_true rfl⟩ (Nat.le_of_ble_eq_true rfl) ?_
    intro w hq
    obtain rfl := hq
    refine z_aload_0 d_Mo_readNew_26 ?_
    refine z_getIv d_Mo_readNew_27 f_Mo_202 (by first | assumption | exact zS0_at (by assumption) (by omega) | exact zS0_at rfl (by omega)) (by first | assumption | ((try simp (disch := omega) only [zu_same, zu_ne, zcp_ne, zfl_ne]); first | assumption | rfl)) ?_
    refine z_if_le (tgt := 35) d_Mo_readNew_30 (by decide) (fun h => absurd h (by decide)) (fun _ => ?_)
    refine z_iconst (a := nI 0) d_Mo_readNew_33 (by decide) ?_
    refine z_reti d_Mo_readNew_34 ?_
    exact ⟨rfl, moX_B C mP_r mQ_r ⟨show 0 < 6 by decide, show 6 < 9 by decide⟩⟩
end MF1
