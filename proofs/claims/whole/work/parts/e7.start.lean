/-! what holds where the law begins -/
section LS0
theorem z_lt {w : Cond} (i : Nat) (h : tables_1[i]? = some w) : w ∈ lw_tbl := List.mem_append_right _ (List.mem_of_getElem? h)
theorem ar_cl {s : State} {b : Nat} {ty : FieldType} (h : (Cond.arrayClass ty).before #[Value.ref b] s = true) : ∃ c, ArrOfT s c ty ∧ s.vm.findClass ("[" ++ ty.toString) = some c := by
  obtain ⟨c, k, comp, h1, h2, h3⟩ := Cond.arrayClass_spec h
  exact ⟨c, fun n z => ⟨fun k h => (by cases h), k, h2, comp, h3⟩, h1⟩
theorem ar_ob {s : State} {b : Nat} {C : String} (h : (Cond.arrayOver (.object C)).before #[Value.ref b] s = true) : ∃ c, ArrOfT s c (.object C) ∧ va_RA s c (.object C) := by
  obtain ⟨comp, c, k, h1, h2, h3, h4, h5⟩ := Cond.arrayOver_spec h
  exact ⟨c, fun n z => ⟨fun k h => (by cases h), k, h3, comp, h4⟩, k, comp, h3, h4, h1, h5⟩
theorem ar_ar {s : State} {b : Nat} {t : FieldType} (h : (Cond.arrayOver (.array t)).before #[Value.ref b] s = true) : ∃ c, ArrOfT s c (.array t) ∧ s.vm.findClass ("[" ++ (FieldType.array t).toString) = some c := by
  simp only [Cond.before, Cond.holds, Cond.value, beq_iff_eq] at h
  cases hc : s.vm.findClass (FieldType.array t).toString with
  | none => simp [hc] at h
  | some comp =>
    simp only [hc, Option.bind_some, Option.bind_eq_some_iff, Option.map_eq_some_iff] at h
    obtain ⟨c, hi, k, hk, hb⟩ := h
    cases hkind : k.kind with
    | array component ty =>
      rw [hkind] at hb
      simp at hb
      exact ⟨c, fun n z => ⟨fun k h => (by cases h), k, hk, component, by rw [hkind, hb.1]⟩, hb.2⟩
    | _ => rw [hkind] at hb; simp at hb
theorem nl_ok : ∀ q ∈ zNL, Cond.methodLinkNest q.1 q.2.1 q.2.2.1 q.2.2.2 ∈ lw_tbl := by
  unfold zNL
  refine List.forall_mem_cons.mpr ⟨z_lt 34 (by decide +kernel), ?_⟩
  refine List.forall_mem_cons.mpr ⟨z_lt 214 (by decide +kernel), ?_⟩
  refine List.forall_mem_cons.mpr ⟨z_lt 220 (by decide +kernel), ?_⟩
  refine List.forall_mem_cons.mpr ⟨z_lt 378 (by decide +kernel), ?_⟩
  refine List.forall_mem_cons.mpr ⟨z_lt 422 (by decide +kernel), ?_⟩
  refine List.forall_mem_cons.mpr ⟨z_lt 432 (by decide +kernel), ?_⟩
  refine List.forall_mem_cons.mpr ⟨z_lt 444 (by decide +kernel), ?_⟩
  refine List.forall_mem_cons.mpr ⟨z_lt 463 (by decide +kernel), ?_⟩
  exact fun _ h => absurd h List.not_mem_nil
theorem el_ok : ∀ j, j < 100 → Cond.eq (.elem (.field (.string "TinFen$Tokens" 26) "java/lang/String" "value" "[B") (.int (Int32.ofNat j))) (.int (zByt.getD j 0)) ∈ flatC (Jvm.Cond.and given_1 narrow_1) := by decide +kernel
set_option maxHeartbeats 4000000 in
theorem z_K0 {s : State} {b L : Nat} {xs : Nat → Int32} (hts : ∀ w ∈ lw_tbl, w.before #[Value.ref b] s = true) (hX : va_X b L xs s s.heap) (hbl : b < s.heap.size) (hgv : (Jvm.Cond.and given_1 narrow_1).before #[Value.ref b] s = true) : ∃ G : zG, zK G s ∧ G.2.2.1 = s.heap.size ∧ G.2.2.2.1 = b ∧ G.2.2.2.2.1 = L ∧ G.2.2.2.2.2.1 = xs := by
  have hT : ∀ w ∈ zT, w.before #[Value.ref b] s = true := fun w hw => hts w (List.mem_filter.mp hw).1
  have hs := flat_of_before _ hgv
  have hA : ∀ a : Nat, a < s.heap.size → ¬ (fun q : Nat => s.heap.size ≤ q) a := fun a ha => Nat.not_le.mpr ha
  have hcl : ∀ k : Nat, ∃ D : ClassId × (Nat → Nat), ∀ q : vw_C, zCl[k]? = some q → u_Kn s q.1 q.2.1 q.2.2 D.1 D.2 := by
    intro k
    match k with
    | 0 =>
      obtain ⟨cC, iS, hk⟩ := u_known (C := "TinFen$Fen") (T := cT0) (N := 20) (n := 20) hT cI0 (hT _ (zt 213 (by decide +kernel) (by decide +kernel)))
      exact ⟨(cC, iS), fun q hq => by cases hq; exact hk⟩
    | 1 =>
      obtain ⟨cC, iS, hk⟩ := u_known (C := "TinFen$FenReader") (T := cT1) (N := 2) (n := 2) hT cI1 (hT _ (zt 183 (by decide +kernel) (by decide +kernel)))
      exact ⟨(cC, iS), fun q hq => by cases hq; exact hk⟩
    | 2 =>
      obtain ⟨cC, iS, hk⟩ := u_known (C := "TinFen$Game") (T := cT2) (N := 6) (n := 6) hT cI2 (hT _ (zt 462 (by decide +kernel) (by decide +kernel)))
      exact ⟨(cC, iS), fun q hq => by cases hq; exact hk⟩
    | 3 =>
      obtain ⟨cC, iS, hk⟩ := u_known (C := "TinFen$Givings") (T := cT3) (N := 1) (n := 1) hT cI3 (hT _ (zt 431 (by decide +kernel) (by decide +kernel)))
      exact ⟨(cC, iS), fun q hq => by cases hq; exact hk⟩
    | 4 =>
      obtain ⟨cC, iS, hk⟩ := u_known (C := "TinFen$Life") (T := cT4) (N := 10) (n := 10) hT cI4 (hT _ (zt 377 (by decide +kernel) (by decide +kernel)))
      exact ⟨(cC, iS), fun q hq => by cases hq; exact hk⟩
    | 5 =>
      obtain ⟨cC, iS, hk⟩ := u_known (C := "TinFen$Rows") (T := cT5) (N := 1) (n := 1) hT cI5 (hT _ (zt 421 (by decide +kernel) (by decide +kernel)))
      exact ⟨(cC, iS), fun q hq => by cases hq; exact hk⟩
    | 6 =>
      obtain ⟨cC, iS, hk⟩ := u_known (C := "TinFen$Seen") (T := cT6) (N := 4) (n := 4) hT cI6 (hT _ (zt 443 (by decide +kernel) (by decide +kernel)))
      exact ⟨(cC, iS), fun q hq => by cases hq; exact hk⟩
    | 7 =>
      obtain ⟨cC, iS, hk⟩ := u_known (C := "TinFen$Tokens") (T := cT7) (N := 12) (n := 12) hT cI7 (hT _ (zt 59 (by decide +kernel) (by decide +kernel)))
      exact ⟨(cC, iS), fun q hq => by cases hq; exact hk⟩
    | 8 =>
      obtain ⟨cC, iS, hk⟩ := u_known (C := "TinFen$Tray") (T := cT8) (N := 4) (n := 4) hT cI8 (hT _ (zt 33 (by decide +kernel) (by decide +kernel)))
      exact ⟨(cC, iS), fun q hq => by cases hq; exact hk⟩
    | 9 =>
      obtain ⟨cC, iS, hk⟩ := u_known (C := "TinFen$Years") (T := cT9) (N := 7) (n := 7) hT cI9 (hT _ (zt 219 (by decide +kernel) (by decide +kernel)))
      exact ⟨(cC, iS), fun q hq => by cases hq; exact hk⟩
    | 10 =>
      obtain ⟨cC, iS, hk⟩ := u_known (C := "TinFen$YearsReader") (T := cT10) (N := 3) (n := 3) hT cI10 (hT _ (zt 196 (by decide +kernel) (by decide +kernel)))
      exact ⟨(cC, iS), fun q hq => by cases hq; exact hk⟩
    | 11 =>
      obtain ⟨cC, iS, hk⟩ := u_known (C := "TinFen") (T := cT11) (N := 20) (n := 20) hT cI11 (hT _ (zt 24 (by decide +kernel) (by decide +kernel)))
      exact ⟨(cC, iS), fun q hq => by cases hq; exact hk⟩
    | 12 =>
      obtain ⟨cC, iS, hk⟩ := u_known (C := "TinFenModel") (T := cT12) (N := 47) (n := 47) hT cI12 (hT _ (zt 1256 (by decide +kernel) (by decide +kernel)))
      exact ⟨(cC, iS), fun q hq => by cases hq; exact hk⟩
    | k + 13 =>
      obtain ⟨cC, iS, hk⟩ := u_known (C := "TinFen$Fen") (T := cT0) (N := 20) (n := 20) hT cI0 (hT _ (zt 213 (by decide +kernel) (by decide +kernel)))
      exact ⟨(cC, iS), fun q hq => by simp [zCl] at hq⟩
  obtain ⟨D, hD⟩ := Classical.axiomOfChoice hcl
  obtain ⟨c0, a0, r0⟩ := ar_cl (hts _ (z_lt 211 (by decide +kernel)) : (Cond.arrayClass .int).before #[Value.ref b] s = true)
  obtain ⟨c1, a1, r1⟩ := ar_cl (hts _ (z_lt 57 (by decide +kernel)) : (Cond.arrayClass .long).before #[Value.ref b] s = true)
  obtain ⟨c2, a2, r2⟩ := ar_cl (hts _ (z_lt 56 (by decide +kernel)) : (Cond.arrayClass .byte).before #[Value.ref b] s = true)
  obtain ⟨c3, a3, r3⟩ := ar_cl (hts _ (z_lt 1407 (by decide +kernel)) : (Cond.arrayClass .boolean).before #[Value.ref b] s = true)
  obtain ⟨c4, a4, r4⟩ := ar_ar (hts _ (z_lt 437 (by decide +kernel)) : (Cond.arrayOver (.array .int)).before #[Value.ref b] s = true)
  have hTr : (Cond.arrayOver (.object "TinFen$Tray")).before #[Value.ref b] s = true := hts _ (z_lt 32 (by decide +kernel))
  have hFe : (Cond.arrayOver (.object "TinFen$Fen")).before #[Value.ref b] s = true := hts _ (z_lt 375 (by decide +kernel))
  have hAi : (Cond.arrayOver (.array .int)).before #[Value.ref b] s = true := hts _ (z_lt 437 (by decide +kernel))
  obtain ⟨c5, a5, r5⟩ := ar_ob hTr
  obtain ⟨c6, a6, r6⟩ := ar_ob hFe
  obtain ⟨adK, adV, hV, hev⟩ := vk_Sof (args := #[Value.ref b]) (s := s) (N := 1) (tm := fun _ => Term.string "TinFen$Tokens" 26) (len := [zByt.length]) (byt := [zByt]) (A := fun q => s.heap.size ≤ q)
    (fun i hi => by obtain rfl : i = 0 := by omega
                    show zByt.length < _; rw [zByt_len]; decide)
    (fun i hi => hs (Cond.exactly (.string "TinFen$Tokens" 26) "java/lang/String") (by decide +kernel))
    (fun i hi => hs (Cond.eq (.field (.string "TinFen$Tokens" 26) "java/lang/String" "coder" "B") (.int 0)) (by decide +kernel))
    (fun i hi => hs (Cond.arrayOf (.field (.string "TinFen$Tokens" 26) "java/lang/String" "value" "[B") .byte) (by decide +kernel))
    (fun i hi => by obtain rfl : i = 0 := by omega
                    show (Cond.eq (.length (.field (.string "TinFen$Tokens" 26) "java/lang/String" "value" "[B")) (.int (Int32.ofNat zByt.length))).before _ s = true
                    rw [zByt_len]; exact hs _ (by decide +kernel))
    (fun i hi j hj => by obtain rfl : i = 0 := by omega
                         have hj : j < 100 := by rw [← zByt_len]; exact hj
                         exact hs _ (el_ok j hj))
    (fun i j hi hj hij => by omega) hA
  have hZ1 := va_Zof (A := fun q : Nat => s.heap.size ≤ q) (hts (Cond.laysStatic "java/lang/String" "COMPACT_STRINGS" "Z") (z_lt 74 (by decide +kernel))) (hts (Cond.initialized "java/lang/String") (z_lt 4 (by decide +kernel))) (va_eqt (z := 1) (hs (Cond.eq (.static "java/lang/String" "COMPACT_STRINGS" "Z") (.int 1)) (by decide +kernel))) hA
  have hZ2 := va_Zqof (A := fun q : Nat => s.heap.size ≤ q) (hts (Cond.laysStatic "jdk/internal/util/Preconditions" "SIOOBE_FORMATTER" "Ljava/util/function/BiFunction;") (z_lt 90 (by decide +kernel))) (hts (Cond.initialized "jdk/internal/util/Preconditions") (z_lt 6 (by decide +kernel))) (hs (Cond.isRef (.static "jdk/internal/util/Preconditions" "SIOOBE_FORMATTER" "Ljava/util/function/BiFunction;")) (by decide +kernel)) hA
  refine ⟨((fun k => (D k).1, fun k => (D k).2), fun i => if i = 100 then c0 else if i = 101 then c1 else if i = 102 then c2 else if i = 103 then c3 else if i = 104 then c4 else if i = 105 then c5 else c6, s.heap.size, b, L, xs, adK 0, adV 0), ⟨⟨fun c q hq => hD c q hq, fun k q hq => ?_⟩, hX, ⟨hbl, Nat.le_refl _⟩, fun q hq => va_Nw.of rfl (hts _ (nl_ok q hq)), va_AO.of hTr, va_AO.of hFe, hAi, vk_R.of (hts (Cond.stringRef "TinFen$Tokens" 26 zText) (z_lt 64 (by decide +kernel))) (hev 0 (by decide)), ⟨fun i hi => ?_, fun i j hi hj _ => by omega⟩, hZ1, hZ2⟩, rfl, rfl, rfl, rfl⟩
  · match k, hq with
    | 0, hq => cases hq; exact ⟨a0, r0⟩
    | 1, hq => cases hq; exact ⟨a1, r1⟩
    | 2, hq => cases hq; exact ⟨a2, r2⟩
    | 3, hq => cases hq; exact ⟨a3, r3⟩
    | 4, hq => cases hq; exact ⟨a4, r4⟩
    | 5, hq => cases hq; exact ⟨a5, r5⟩
    | 6, hq => cases hq; exact ⟨a6, r6⟩
    | k + 7, hq => simp [zTy] at hq
  · obtain rfl : i = 0 := by omega
    exact hV.1 0 hi
end LS0
