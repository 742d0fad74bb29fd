def s_worn (h : Nat → Int32) (p : Int32) : Nat → Int32
  | 0 => nI 0
  | n + 1 => if h n = p then s_worn h p n ||| (nI 1 <<< (nI n &&& 31)) else s_worn h p n
theorem t_Fen_wornBy {G : zG} {I : Nat → Nat → Int32} {J : Nat → Nat → Int64} {P : Nat → Nat → Option Nat} {S : List (Nat × Nat)} {f n : Nat} {p : Int32} (h1 : S[f]? = some (0, 20)) (h2 : P f 13 = some (f + 6)) (h3 : S[f + 6]? = some (100, 9)) (hn : I f 4 = nI n) (h9 : n ≤ 9) : zEi G y_Fen_wornBy prog_2_method_12_code 4 (some .int) 1 [.ref f, .int p] (I, J, P, S) (fun r w => r = s_worn (I (f + 6)) p n ∧ w = (I, J, P, S)) := by
  refine zEi_of (lv := [some (.ref f), some (.int p), none, none]) (by decide) rfl (Nat.le_of_ble_eq_true rfl) ?_
  have loop : ∀ m j, n - j < m → j ≤ n → zA G y_Fen_wornBy prog_2_method_12_code 4 (some .int) (zRm 1 0 0) (zM G 0 0 (fun r w' => ∃ x, r = some (.int x) ∧ (x = s_worn (I (f + 6)) p n ∧ w' = (I, J, P, S)))) 4 [some (.ref f), some (.int p), some (.int (s_worn (I (f + 6)) p j)), some (.int (nI j))] [] (I, J, P, S) 0 0 := by
    intro m
    induction m with
    | zero => intro j h _; omega
    | succ m ih =>
      intro j hm hj
      refine z_iload_3 d_Fen_wornBy_4 ?_
      refine z_aload_0 d_Fen_wornBy_5 ?_
      refine z_getI d_Fen_wornBy_6 f_Fen_66 (by assumption) ?_
      rw [hn]
      refine z_icmp_ge (tgt := 34) d_Fen_wornBy_9 (by decide) (fun hb => ?_) (fun hb => ?_)
      · have hb := (nI_leI (by omega) (by omega)).mp hb
        obtain rfl : j = n := by omega
        refine z_iload_2 d_Fen_wornBy_34 ?_
        refine z_reti d_Fen_wornBy_35 ?_
        exact ⟨rfl, rfl⟩
      · have hb : j < n := Nat.lt_of_not_le (fun q => hb (nI_le q (by omega)))
        refine z_aload_0 d_Fen_wornBy_12 ?_
        refine z_getR d_Fen_wornBy_13 f_Fen_31 (by assumption) (by assumption) ?_
        refine z_iload_3 d_Fen_wornBy_16 ?_
        first | refine z_ialdN d_Fen_wornBy_17 (by assumption) (by omega) (by decide) ?_ | refine z_iald d_Fen_wornBy_17 (by assumption) (by assumption) ?_
        refine z_iload_1 d_Fen_wornBy_18 ?_
        refine z_icmp_ne (tgt := 28) d_Fen_wornBy_19 (by decide) (fun hc => ?_) (fun hc => ?_)
        · first | refine z_iinc_3 d_Fen_wornBy_28 rfl (zi_inc _) ?_ | refine z_iinc_3 d_Fen_wornBy_28 rfl rfl ?_
          refine z_goto (tgt := 4) d_Fen_wornBy_31 (by decide) ?_
          have e : s_worn (I (f + 6)) p (j + 1) = s_worn (I (f + 6)) p j := by rw [s_worn, if_neg hc]
          rw [← e]
          exact ih (j + 1) (by omega) (by omega)
        · refine z_iload_2 d_Fen_wornBy_22 ?_
          refine z_iconst (a := nI 1) d_Fen_wornBy_23 (by decide) ?_
          refine z_iload_3 d_Fen_wornBy_24 ?_
          refine z_ishl d_Fen_wornBy_25 ?_
          refine z_ior d_Fen_wornBy_26 ?_
          first | refine z_istore_2 d_Fen_wornBy_27 rfl ?_ | (refine z_forget_1 ?_; refine z_istore_2 d_Fen_wornBy_27 rfl ?_)
          first | refine z_iinc_3 d_Fen_wornBy_28 rfl (zi_inc _) ?_ | refine z_iinc_3 d_Fen_wornBy_28 rfl rfl ?_
          refine z_goto (tgt := 4) d_Fen_wornBy_31 (by decide) ?_
          have e : s_worn (I (f + 6)) p (j + 1) = s_worn (I (f + 6)) p j ||| (nI 1 <<< (nI j &&& 31)) := by rw [s_worn, if_pos hc]
          rw [← e]
          exact ih (j + 1) (by omega) (by omega)
  refine z_iconst (a := nI 0) d_Fen_wornBy_0 (by decide) ?_
  first | refine z_istore_2 d_Fen_wornBy_1 rfl ?_ | (refine z_forget_1 ?_; refine z_istore_2 d_Fen_wornBy_1 rfl ?_)
  refine z_iconst (a := nI 0) d_Fen_wornBy_2 (by decide) ?_
  first | refine z_istore_3 d_Fen_wornBy_3 rfl ?_ | (refine z_forget_2 ?_; refine z_istore_3 d_Fen_wornBy_3 rfl ?_)
  exact loop (n + 1) 0 (by omega) (by omega)
