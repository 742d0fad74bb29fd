/-! the reference reads odds, traits, lanes, tins -/
section MF2
variable {G : zG} {I I1 I2 : Nat → Nat → Int32} {J J1 J2 : Nat → Nat → Int64} {P : Nat → Nat → Option Nat} {S : List (Nat × Nat)} {L : Nat} {a b : Int32} {T : Nat → Int32} {K : Nat → Int64} {t : tk} {z nt np nl nn od : Nat} {A : Nat → Nat → Int32} {B : Nat → Nat → Int64}
theorem moS_odds {v : Int32} (X : moS I J ((nt, np, nl, nn, od), A, B)) (e1 : I1 150 = I 150) (h24 : I1 145 24 = nI 1) (e3 : J1 152 = J 152) : moS (zu I1 150 1440 v) J1 ((nt, np, nl, nn, 1), zu A 0 0 v, B) := by
  unfold moS at X
  rw [← e1, ← e3] at X
  obtain ⟨⟨x1, y1⟩, ⟨x2, y2⟩, ⟨x3, y3⟩, ⟨x4, y4⟩, -, x6, x7, x8, x9, x10, x11, x12, ⟨x13, x13b⟩, ⟨x14, x15, x16⟩⟩ := X
  unfold moS
  dsimp only at *
  refine ⟨⟨?_, y1⟩, ⟨?_, y2⟩, ⟨?_, y3⟩, ⟨?_, y4⟩, ⟨?_, Nat.le_refl _⟩, ?_, fun k hk => ?_, fun k hk => ?_, fun k hk hk2 => ?_, fun k hk => ?_, fun k hk => ?_, fun k hk hk2 => ?_, ⟨?_, ?_⟩, ⟨?_, ?_, ?_⟩⟩ <;> (try simp (disch := omega) only [zu_same, zu_ne]) <;> first | assumption | exact x7 k hk | exact x8 k hk | exact x9 k hk hk2 | exact x10 k hk | exact x11 k hk | exact x12 k hk hk2
theorem moS_trait {v : Int32} {nm : Int64} (X : moS I J ((nt, np, nl, nn, od), A, B)) (hn : nt < 6) (hj : J 152 (88 + nt) = nm) : moS (zu (zu I 150 (1442 + nt) v) 150 1436 (nI (nt + 1))) J ((nt + 1, np, nl, nn, od), zu (zu A 1 nt v) 0 1 (nI (nt + 1)), zu B 9 nt nm) := by
  obtain ⟨⟨x1, y1⟩, ⟨x2, y2⟩, ⟨x3, y3⟩, ⟨x4, y4⟩, ⟨x5, y5⟩, x6, x7, x8, x9, x10, x11, x12, ⟨x13, x13b⟩, ⟨x14, x15, x16⟩⟩ := X
  unfold moS
  dsimp only at *
  refine ⟨⟨?_, by omega⟩, ⟨?_, y2⟩, ⟨?_, y3⟩, ⟨?_, y4⟩, ⟨?_, y5⟩, ?_, fun k hk => ?_, fun k hk => ?_, fun k hk hk2 => ?_, fun k hk => ?_, fun k hk => ?_, fun k hk hk2 => ?_, ⟨?_, ?_⟩, ⟨?_, ?_, ?_⟩⟩
  rotate_left 6
  · by_cases e : k = nt
    · subst e
      simp (disch := omega) only [zu_same, zu_ne]
      exact ⟨trivial, hj⟩
    · simp (disch := omega) only [zu_same, zu_ne]
      exact x7 k (by omega)
  all_goals try (simp (disch := omega) only [zu_same, zu_ne])
  all_goals first | assumption | exact x8 k hk | exact x9 k hk hk2 | exact x10 k hk | exact x11 k hk | exact x12 k hk hk2
theorem moS_person {v : Int32} {nm : Int64} (X : moS I J ((nt, np, nl, nn, od), A, B)) (hn : np < 7) (hj : J 152 (94 + np) = nm) : moS (zu (zu I 150 (1448 + np) v) 150 1437 (nI (np + 1))) J ((nt, np + 1, nl, nn, od), zu (zu (zu (zu A 2 np v) 3 np (nI 0)) 4 np (nI 0)) 0 2 (nI (np + 1)), zu B 10 np nm) := by
  obtain ⟨⟨x1, y1⟩, ⟨x2, y2⟩, ⟨x3, y3⟩, ⟨x4, y4⟩, ⟨x5, y5⟩, x6, x7, x8, x9, x10, x11, x12, ⟨x13, x13b⟩, ⟨x14, x15, x16⟩⟩ := X
  unfold moS
  dsimp only at *
  refine ⟨⟨?_, y1⟩, ⟨?_, by omega⟩, ⟨?_, y3⟩, ⟨?_, y4⟩, ⟨?_, y5⟩, ?_, fun k hk => ?_, fun k hk => ?_, fun k hk hk2 => ?_, fun k hk => ?_, fun k hk => ?_, fun k hk hk2 => ?_, ⟨?_, ?_⟩, ⟨?_, ?_, ?_⟩⟩
  rotate_left 7
  · by_cases e : k = np
    · subst e
      simp (disch := omega) only [zu_same, zu_ne]
      exact ⟨trivial, x9 k hn (Nat.le_refl _), trivial, hj⟩
    · simp (disch := omega) only [zu_same, zu_ne]
      exact x8 k (by omega)
  · simp (disch := omega) only [zu_same, zu_ne]
    exact x9 k hk (by omega)
  all_goals try (simp (disch := omega) only [zu_same, zu_ne])
  all_goals first | assumption | exact x7 k hk | exact x8 k hk | exact x9 k hk hk2 | exact x10 k hk | exact x11 k hk | exact x12 k hk hk2
theorem moS_lane {p q : Nat} (X : moS I J ((nt, np, nl, nn, od), A, B)) (hn : nl < 12) (hp : p < np) (hq : q < np) (hpq : p ≠ q) : moS (zu (zu (zu I 150 (359 * 4 + 19 + p) (I 150 (359 * 4 + 19 + p) ||| (nI 1 <<< (nI q &&& 31)))) 150 (359 * 4 + 19 + q) (I 150 (359 * 4 + 19 + q) ||| (nI 1 <<< (nI p &&& 31)))) 150 (359 * 4 + 2) (I 150 (359 * 4 + 2) + nI 1)) J ((nt, np, nl + 1, nn, od), zu (zu (zu A 3 p (A 3 p ||| (nI 1 <<< (nI q &&& 31)))) 3 q (A 3 q ||| (nI 1 <<< (nI p &&& 31)))) 0 3 (nI (nl + 1)), B) := by
  obtain ⟨⟨x1, y1⟩, ⟨x2, y2⟩, ⟨x3, y3⟩, ⟨x4, y4⟩, ⟨x5, y5⟩, x6, x7, x8, x9, x10, x11, x12, ⟨x13, x13b⟩, ⟨x14, x15, x16⟩⟩ := X
  unfold moS
  dsimp only at *
  have e2 : I 150 (359 * 4 + 2) + nI 1 = nI (nl + 1) := by rw [show 359 * 4 + 2 = 1438 from rfl, x3, nI_add]
  have ep : I 150 (359 * 4 + 19 + p) = A 3 p := (x8 p hp).2.1
  have eq : I 150 (359 * 4 + 19 + q) = A 3 q := (x8 q hq).2.1
  rw [e2, ep, eq]
  refine ⟨⟨?_, y1⟩, ⟨?_, y2⟩, ⟨?_, by omega⟩, ⟨?_, y4⟩, ⟨?_, y5⟩, ?_, fun k hk => ?_, fun k hk => ?_, fun k hk hk2 => ?_, fun k hk => ?_, fun k hk => ?_, fun k hk hk2 => ?_, ⟨?_, ?_⟩, ⟨?_, ?_, ?_⟩⟩
  rotate_left 7
  · by_cases e : k = p
    · subst e
      simp (disch := omega) only [zu_same, zu_ne, show 359 * 4 + 19 + k = 1455 + k from rfl, show 359 * 4 + 19 + q = 1455 + q from rfl]
      exact ⟨(x8 k hk).1, trivial, (x8 k hk).2.2⟩
    · by_cases e' : k = q
      · subst e'
        simp (disch := omega) only [zu_same, zu_ne, show 359 * 4 + 19 + k = 1455 + k from rfl]
        exact ⟨(x8 k hk).1, trivial, (x8 k hk).2.2⟩
      · simp (disch := omega) only [zu_same, zu_ne]
        exact x8 k hk
  all_goals try (simp (disch := omega) only [zu_same, zu_ne])
  all_goals first | assumption | exact x7 k hk | exact x9 k hk hk2 | exact x10 k hk | exact x11 k hk | exact x12 k hk hk2
theorem moS_tin {k p : Nat} {ld : Bool} {nm : Int64} (X : moS I J ((nt, np, nl, nn, od), A, B)) (hn : nn < 9) (hj : J 152 (101 + nn) = nm) : moS (m_strikes I 4 nn (nI k) (nI p) (if ld then nI 1 else nI 0)) J (p_addT ((nt, np, nl, nn, od), A, B) (nI k) (nI p) ld nm) := by
  obtain ⟨⟨x1, y1⟩, ⟨x2, y2⟩, ⟨x3, y3⟩, ⟨x4, y4⟩, ⟨x5, y5⟩, x6, x7, x8, x9, x10, x11, x12, ⟨x13, x13b⟩, ⟨x14, x15, x16⟩⟩ := X
  unfold moS m_strikes p_addT s_addTin
  dsimp only at *
  have hz : ∀ t, t < 32 → zB (A 0 6 ||| (nI 1 <<< (nI nn &&& 31))) t = (zB (A 0 6) t || decide (t = nn)) := by
    intro t ht
    rw [zB_or ht, zB_sh (by omega) ht]
  cases ld
  · simp only [if_true, if_false, Bool.false_eq_true]
    refine ⟨⟨by simp (disch := omega) only [zu_same, zu_ne]; exact x1, y1⟩, ⟨by simp (disch := omega) only [zu_same, zu_ne]; exact x2, y2⟩, ⟨by simp (disch := omega) only [zu_same, zu_ne]; exact x3, y3⟩, ⟨by simp (disch := omega) only [zu_same, zu_ne], by omega⟩, ⟨by simp (disch := omega) only [zu_same, zu_ne]; exact x5, y5⟩, by simp (disch := omega) only [zu_same, zu_ne]; exact x6, fun i hi => by simp (disch := omega) only [zu_same, zu_ne]; exact x7 i hi, fun i hi => by simp (disch := omega) only [zu_same, zu_ne]; exact x8 i hi, fun i hi hi2 => by simp (disch := omega) only [zu_same, zu_ne]; exact x9 i hi hi2, fun i hi => by simp (disch := omega) only [zu_same, zu_ne]; exact x10 i hi, fun i hi => ?_, fun i hi hi2 => by simp (disch := omega) only [zu_same, zu_ne]; exact x12 i (by omega) hi2, ⟨by simp (disch := omega) only [zu_same, zu_ne]; exact x13, by simp (disch := omega) only [zu_same, zu_ne]; exact x13b⟩, ⟨by simp (disch := omega) only [zu_same, zu_ne]; exact x14, by simp (disch := omega) only [zu_same, zu_ne]; exact x15, by simp (disch := omega) only [zu_same, zu_ne]; exact x16⟩⟩
    by_cases e : i = nn
    · subst e
      simp (disch := omega) only [zu_same, zu_ne, show 359 * 4 + 33 + i = 1469 + i from rfl, show 359 * 4 + 42 + i = 1478 + i from rfl, show 359 * 4 + 51 + i = 1487 + i from rfl, show 359 * 4 + 60 + i = 1496 + i from rfl, show 359 * 4 + 69 + i = 1505 + i from rfl, show 359 * 4 + 78 + i = 1514 + i from rfl]
      refine ⟨trivial, trivial, ?_, trivial, trivial, trivial, hj⟩
      rw [x12 i (Nat.le_refl _) (by omega)]; rfl
    · simp (disch := omega) only [zu_same, zu_ne]
      exact x11 i (by omega)
  · simp only [if_true, if_false, Bool.false_eq_true]
    refine ⟨⟨by simp (disch := omega) only [zu_same, zu_ne]; exact x1, y1⟩, ⟨by simp (disch := omega) only [zu_same, zu_ne]; exact x2, y2⟩, ⟨by simp (disch := omega) only [zu_same, zu_ne]; exact x3, y3⟩, ⟨by simp (disch := omega) only [zu_same, zu_ne], by omega⟩, ⟨by simp (disch := omega) only [zu_same, zu_ne]; exact x5, y5⟩, by simp (disch := omega) only [zu_same, zu_ne]; exact x6, fun i hi => by simp (disch := omega) only [zu_same, zu_ne]; exact x7 i hi, fun i hi => by simp (disch := omega) only [zu_same, zu_ne]; exact x8 i hi, fun i hi hi2 => by simp (disch := omega) only [zu_same, zu_ne]; exact x9 i hi hi2, fun i hi => by simp (disch := omega) only [zu_same, zu_ne]; exact x10 i hi, fun i hi => ?_, fun i hi hi2 => by simp (disch := omega) only [zu_same, zu_ne]; rw [hz i hi2, x12 i (by omega) hi2, decide_eq_false (by omega)]; rfl, ⟨by simp (disch := omega) only [zu_same, zu_ne]; exact x13, by simp (disch := omega) only [zu_same, zu_ne]; exact x13b⟩, ⟨by simp (disch := omega) only [zu_same, zu_ne]; exact x14, by simp (disch := omega) only [zu_same, zu_ne]; exact x15, by simp (disch := omega) only [zu_same, zu_ne]; exact x16⟩⟩
    by_cases e : i = nn
    · subst e
      simp (disch := omega) only [zu_same, zu_ne, show 359 * 4 + 33 + i = 1469 + i from rfl, show 359 * 4 + 42 + i = 1478 + i from rfl, show 359 * 4 + 51 + i = 1487 + i from rfl, show 359 * 4 + 60 + i = 1496 + i from rfl, show 359 * 4 + 69 + i = 1505 + i from rfl, show 359 * 4 + 78 + i = 1514 + i from rfl]
      refine ⟨trivial, trivial, ?_, trivial, trivial, trivial, hj⟩
      rw [hz i (by omega)]; simp
    · simp (disch := omega) only [zu_same, zu_ne]
      rw [hz i (by omega), decide_eq_false e, Bool.or_false]; exact x11 i (by omega)
end MF2
