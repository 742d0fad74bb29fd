/-! the class: Fen's methods -/
section C2
variable {G : zG} {I : Nat → Nat → Int32} {J : Nat → Nat → Int64} {P : Nat → Nat → Option Nat} {S : List (Nat × Nat)} {f : Nat} {a b : Int32}
/-- the bit t of a number -/
def zbit (x : Int32) (t : Nat) : Prop := (x >>> (nI t &&& 31)) &&& nI 1 = nI 1
theorem zand1 (x : Int32) : x &&& nI 1 = 0 ∨ x &&& nI 1 = nI 1 := by
  obtain ⟨j, hj, e⟩ := pk_andE x (m := nI 1) 1 (by decide)
  rcases (show j = 0 ∨ j = 1 by omega) with rfl | rfl
  · exact Or.inl (by rw [e]; decide)
  · exact Or.inr e
theorem zbit_n {x : Int32} {t : Nat} : (x >>> (nI t &&& 31)) &&& nI 1 = 0 ↔ ¬ zbit x t := by
  constructor
  · intro h h2
    rw [zbit, h] at h2
    exact absurd h2 (by decide)
  · intro h
    rcases zand1 (x >>> (nI t &&& 31)) with h2 | h2
    · exact h2
    · exact absurd h2 h
theorem t_Fen_isTrue {p t : Nat} (F : fenOk P S f) (hp : p < 7) : zEi G y_Fen_isTrue prog_2_method_8_code 3 (some .boolean) 1 [.ref f, .int (nI p), .int (nI t)] (I, J, P, S) (fun r w => (zbit (I (f + 2) p) t ∧ r = nI 1 ∨ ¬ zbit (I (f + 2) p) t ∧ r = nI 0) ∧ w = (I, J, P, S)) := by
  obtain ⟨h0, -, ⟨h1, h2⟩, -⟩ := F
  refine zEi_of (lv := [some (.ref f), some (.int (nI p)), some (.int (nI t))]) (by decide) rfl (Nat.le_of_ble_eq_true rfl) ?_
  refine z_aload_0 d_Fen_isTrue_0 ?_
  refine z_getR d_Fen_isTrue_1 f_Fen_19 (by assumption) (by assumption) ?_
  refine z_iload_1 d_Fen_isTrue_4 ?_
  first | refine z_ialdN d_Fen_isTrue_5 (by assumption) (by omega) (by decide) ?_ | refine z_iald d_Fen_isTrue_5 (by assumption) (by assumption) ?_
  refine z_iload_2 d_Fen_isTrue_6 ?_
  refine z_ishr d_Fen_isTrue_7 ?_
  refine z_iconst (a := nI 1) d_Fen_isTrue_8 (by decide) ?_
  refine z_iand d_Fen_isTrue_9 ?_
  refine z_if_eq (tgt := 17) d_Fen_isTrue_10 (by decide) (fun h10 => ?_) (fun h10 => ?_)
  · first
    | (simp (disch := omega) only [← nI_0, nI_leI, nI_ltI, nI_eq, not_true_eq_false, not_false_eq_true] at h10; done)
    | (simp (disch := omega) only [← nI_0, nI_leI, nI_ltI, nI_eq, not_true_eq_false, not_false_eq_true] at h10; omega)
    | contradiction
    | exact absurd h10 (Int32.not_lt.mpr (by assumption))
    | exact absurd h10 (Int32.not_le.mpr (by assumption))
    | ( try simp (disch := omega) only [← nI_0, nI_leI, nI_ltI, nI_eq, not_true_eq_false, not_false_eq_true] at h10
        refine z_iconst (a := nI 0) d_Fen_isTrue_17 (by decide) ?_
        refine z_retz d_Fen_isTrue_18 (by first | exact zb0 | exact zb1 | assumption) ?_
        first | exact ⟨Or.inr ⟨zbit_n.mp (by assumption), rfl⟩, rfl⟩ | exact ⟨Or.inl ⟨Classical.not_not.mp (fun q => absurd (zbit_n.mpr q) (by assumption)), rfl⟩, rfl⟩)
  · first
    | (simp (disch := omega) only [← nI_0, nI_leI, nI_ltI, nI_eq, not_true_eq_false, not_false_eq_true] at h10; done)
    | (simp (disch := omega) only [← nI_0, nI_leI, nI_ltI, nI_eq, not_true_eq_false, not_false_eq_true] at h10; omega)
    | contradiction
    | exact absurd h10 (Int32.not_lt.mpr (by assumption))
    | exact absurd h10 (Int32.not_le.mpr (by assumption))
    | ( try simp (disch := omega) only [← nI_0, nI_leI, nI_ltI, nI_eq, not_true_eq_false, not_false_eq_true] at h10
        refine z_iconst (a := nI 1) d_Fen_isTrue_13 (by decide) ?_
        refine z_goto (tgt := 18) d_Fen_isTrue_14 (by decide) ?_
        refine z_retz d_Fen_isTrue_18 (by first | exact zb0 | exact zb1 | assumption) ?_
        first | exact ⟨Or.inr ⟨zbit_n.mp (by assumption), rfl⟩, rfl⟩ | exact ⟨Or.inl ⟨Classical.not_not.mp (fun q => absurd (zbit_n.mpr q) (by assumption)), rfl⟩, rfl⟩)
end C2
