/-! plays: the reference -/
section GD0
variable {G : zG} {I I' I1 I2 I3 : Nat → Nat → Int32} {J J' J2 : Nat → Nat → Int64} {P : Nat → Nat → Option Nat} {S : List (Nat × Nat)} {f d dd nt np nl nn n t k p q s i mv ot one T : Nat} {a b : Int32} {w : zW} {mt mt' tk tk' C C' : Nat → Int32} {g : Nat → Nat} {kk : Nat → Nat} {bb bb' : Nat → Bool} {v v' : Nat → Int} {x x' : Int} {o : Option Nat}
def gsg (n : Nat) (x : Int) : Int := if n % 2 = 0 then x else -x
def gmv (n one ot : Nat) : Nat := if n % 2 = 0 then one else ot
theorem gsg_e (h : n % 2 = 0) : gsg n x = x := if_pos h
theorem gsg_o (h : n % 2 = 1) : gsg n x = -x := if_neg (by omega)
theorem gsg_s : gsg (n + 1) x = gsg n (-x) := by
  rcases Nat.mod_two_eq_zero_or_one n with h | h
  · rw [gsg_e h, gsg_o (by omega)]
  · rw [gsg_o h, gsg_e (by omega), Int.neg_neg]
theorem gmv_2 : gmv (n + 1 + 1) one ot = gmv n one ot := by
  unfold gmv
  rw [show (n + 1 + 1) % 2 = n % 2 by omega]
theorem gmv_lt (h1 : one < np) (h2 : ot < np) : gmv n one ot < np := by
  unfold gmv
  split <;> assumption
def plI (nt np nl nn : Nat) (kk : Nat → Nat) (mt tk : Nat → Int32) (g : Nat → Nat) (I : Nat → Nat → Int32) : Prop := modIn I nt np nl nn ∧ (∀ t, t < nn → I 150 (33 + t) = nI (kk t)) ∧ (∀ t, t < nn → I 150 (6 + kk t) = nI (g t)) ∧ (∀ p, p < 7 → I 150 (19 + p) = mt p) ∧ (∀ t, t < nn → mTk I np (kk t) = tk t)
theorem pl_u (h : plI nt np nl nn kk mt tk g I) (hkk : ∀ t, t < nn → kk t < 6) (hq : q < np) : plI nt np nl nn kk mt tk g (zu I 150 (42 + t) (nI q)) := by
  obtain ⟨⟨⟨a1, b1⟩, ⟨a2, b2⟩, ⟨a3, b3⟩, ⟨a4, b4⟩, h5, h6⟩, e1, e2, e3, e4⟩ := h
  refine ⟨⟨⟨?_, b1⟩, ⟨?_, b2⟩, ⟨?_, b3⟩, ⟨?_, b4⟩, fun s hs => ?_, fun s hs => ?_⟩, fun s hs => ?_, fun s hs => ?_, fun p hp => ?_, fun s hs => ?_⟩
  · rw [zu_ne _ _ _ _ (by omega)]; exact a1
  · rw [zu_ne _ _ _ _ (by omega)]; exact a2
  · rw [zu_ne _ _ _ _ (by omega)]; exact a3
  · rw [zu_ne _ _ _ _ (by omega)]; exact a4
  · rw [zu_ne _ _ _ _ (by omega)]; exact h5 s hs
  · by_cases e : s = t
    · subst e; right; exact ⟨q, hq, zu_same _ _ _ _⟩
    · rw [zu_ne _ _ _ _ (by omega)]; exact h6 s hs
  · rw [zu_ne _ _ _ _ (by omega)]; exact e1 s hs
  · have := hkk s hs
    rw [zu_ne _ _ _ _ (by omega)]; exact e2 s hs
  · rw [zu_ne _ _ _ _ (by omega)]; exact e3 p hp
  · rw [← e4 s hs]
    unfold mTk
    exact s_set_congr np (fun i hi => by rw [zu_ne _ _ _ _ (by omega)])
theorem zu_gaU2 : (fun s => (zu I 150 (42 + t) a) 150 (42 + s)) = gaU (fun s => I 150 (42 + s)) t a := by
  funext s
  unfold gaU
  by_cases h : s = t
  · subst h; rw [zu_same, if_pos rfl]
  · rw [zu_ne _ _ _ _ (by omega), if_neg h]
def plQ (nn : Nat) (mt tk : Nat → Int32) (g : Nat → Nat) (C : Nat → Int32) (one ot n d : Nat) (I I' : Nat → Nat → Int32) : Prop := (n ≠ 0 → I' = I) ∧ (∀ a, a ≠ 145 → I' a = I a) ∧ (∀ k, k ≠ 35 → I' 145 k = I 145 k) ∧ (n = 0 → ∀ d', d = d' + 1 → ∃ o, gaIs (gaOk nn mt tk C one) (gaV nn mt tk g d' C one ot) (-gaB nn mt tk g d' C ot one) o ∧ I' 145 35 = zo o)
theorem t_Mo_plays (M : modOk P S) (hg : ∀ t, t < nn → g t ≤ 99) (hkk : ∀ t, t < nn → kk t < 6) (k4 : ∀ t, t < nn → ∀ i, i < 32 → zB (tk t) i = true → i < np) (h1 : one < np) (h2 : ot < np) (hT : T ≤ 3) (d : Nat) : ∀ (I : Nat → Nat → Int32) (n : Nat), n + d = T → plI nt np nl nn kk mt tk g I → zEi G y_Mo_plays prog_14_method_134_code 12 (some .int) (d+4) [.ref 145, .int (nI one), .int (nI ot), .int (nI n), .int (nI T)] (I, J, P, S) (fun r w => r = zI (gsg n (gaB nn mt tk g d (fun t => I 150 (42 + t)) (gmv n one ot) (gmv (n + 1) one ot))) ∧ ∃ I', w = (I', J, P, S) ∧ plQ nn mt tk g (fun t => I 150 (42 + t)) one ot n d I I') := by
  obtain ⟨M0, ⟨M4, M4s⟩, ⟨M5, M5s⟩, ⟨M6, M6s⟩, ⟨M7, M7s⟩, ⟨M20, M20s⟩, ⟨M21, M21s⟩, ⟨M22, M22s⟩, ⟨M26, M26s⟩, ⟨M27, M27s⟩, ⟨M28, M28s⟩, ⟨M30, M30s⟩, ⟨M34, M34s⟩, ⟨M36, M36s⟩, ⟨M37, M37s⟩⟩ := id M
  induction d with
  | zero =>
    intro I n hn hpl
    refine zEi_of (lv := [some (.ref 145), some (.int (nI one)), some (.int (nI ot)), some (.int (nI n)), some (.int (nI T)), none, none, none, none, none, none, none]) (by decide) rfl (Nat.le_of_ble_eq_true rfl) ?_
    refine z_iload_3 d_Mo_plays_0 ?_
    refine z_iload_4 d_Mo_plays_1 ?_
    refine z_icmp_ne (tgt := 8) d_Mo_plays_3 (by decide) (fun h => absurd (by rw [show n = T by omega]) h) (fun _ => ?_)
    refine z_iconst (a := nI 0) d_Mo_plays_6 (by decide) ?_
    refine z_reti d_Mo_plays_7 ?_
    refine ⟨?_, I, rfl, fun _ => rfl, fun _ _ => rfl, fun _ _ => rfl, fun _ d' h => by omega⟩
    rw [gaB]
    unfold gsg
    split <;> decide
  | succ d ihd =>
    intro I n hn hpl
    obtain ⟨N, hK, hW, hmt, htk⟩ := id hpl
    obtain ⟨⟨m0, m0b⟩, ⟨m1, m1b⟩, ⟨m2, m2b⟩, ⟨m3, m3b⟩, mof, mon⟩ := id N
    obtain ⟨C, hC⟩ : ∃ C : Nat → Int32, C = fun t => I 150 (42 + t) := ⟨_, rfl⟩
    obtain ⟨mv, hmv⟩ : ∃ mv, mv = gmv n one ot := ⟨_, rfl⟩
    obtain ⟨ov, hov⟩ : ∃ ov, ov = gmv (n + 1) one ot := ⟨_, rfl⟩
    have lmv : mv < np := by rw [hmv]; exact gmv_lt h1 h2
    have lov : ov < np := by rw [hov]; exact gmv_lt h1 h2
    obtain ⟨bb, hbb⟩ : ∃ bb : Nat → Bool, bb = gaOk nn mt tk C mv := ⟨_, rfl⟩
    obtain ⟨vv, hvv⟩ : ∃ vv : Nat → Int, vv = gaV nn mt tk g d C mv ov := ⟨_, rfl⟩
    obtain ⟨x0, hx0⟩ : ∃ x0 : Int, x0 = -gaB nn mt tk g d C ov mv := ⟨_, rfl⟩
    rw [← hC, ← hmv, ← hov, show gaB nn mt tk g (d + 1) C mv ov = gaM bb vv x0 63 by rw [hbb, hvv, hx0]; rfl]
    have bx : -400 ≤ x0 ∧ x0 ≤ 400 := by
      have b0 := gaB_bd (mt := mt) (tk := tk) hg d C ov mv
      rw [hx0]; omega
    have bv : ∀ k, bb k = true → -400 ≤ vv k ∧ vv k ≤ 400 := fun k hb => by
      rw [hbb] at hb
      have := gaV_bd (d := d) (ot := ov) hg hb
      rw [hvv]; omega
    have bW : ∀ m, m ≤ 63 → -400 ≤ gaW vv x0 (gaD bb vv x0 m) ∧ gaW vv x0 (gaD bb vv x0 m) ≤ 400 := fun m hm => by
      have h := gaD_is (bb := bb) (v := vv) (x := x0) m hm
      cases hk : gaD bb vv x0 m with
      | none => exact bx
      | some k =>
        rw [hk] at h
        exact bv k h.1.2.2.1
    have rcl : ∀ I3 : Nat → Nat → Int32, plI nt np nl nn kk mt tk g I3 → zEi  G y_Mo_plays prog_14_method_134_code 12 (some .int) (d+4) [.ref 145, .int (nI one), .int (nI ot), .int (nI (n + 1)), .int (nI T)] (I3, J, P, S) (fun r w => r = zI (gsg n (-gaB nn mt tk g d (fun t => I3 150 (42 + t)) ov mv)) ∧ w = (I3, J, P, S)) := fun I3 h3 => by
      refine zEi_mono (ihd I3 (n + 1) (by omega) h3) ?_
      rintro r w ⟨rfl, I', rfl, e, -⟩
      refine ⟨?_, by rw [e (Nat.succ_ne_zero n)]⟩
      rw [gsg_s, gmv_2, ← hov, ← hmv]
    refine zEi_of (lv := [some (.ref 145), some (.int (nI one)), some (.int (nI ot)), some (.int (nI n)), some (.int (nI T)), none, none, none, none, none, none, none]) (by decide) rfl (Nat.le_of_ble_eq_true rfl) ?_
    have lp : ∀ z m, 63 - m < z → m ≤ 63 → zA G y_Mo_plays prog_14_method_134_code 12 (some .int) (zRm ((d + 1)+4) 0 0) (zM G 0 0 (fun r w' => ∃ x, r = some (.int x) ∧ (fun r w => r = zI (gsg n (gaM bb vv x0 63)) ∧ ∃ I', w = (I', J, P, S) ∧ plQ nn mt tk g C one ot n (d + 1) I I') x w')) 53 [some (.ref 145), some (.int (nI one)), some (.int (nI ot)), some (.int (nI n)), some (.int (nI T)), some (.int (nI (1 - n % 2))), some (.int (nI mv)), some (.int (zI (gsg n (gaW vv x0 (gaD bb vv x0 m))))), some (.int (zo (gaD bb vv x0 m))), some (.int (nI (63 - m) - nI 1)), none, none] [] (I, J, P, S) 0 0 := by
      intro z
      induction z with
      | zero => intro m h; exact absurd h (Nat.not_lt_zero _)
      | succ z ih =>
        intro m hz hm
        rcases Nat.lt_or_ge m 63 with hm3 | hm3
        case inr =>
          obtain rfl : m = 63 := by omega
          refine z_iload_9 d_Mo_plays_53 ?_
          refine z_if_lt (tgt := 214) d_Mo_plays_55 (by decide) (fun _ => ?_) (fun h => absurd (by decide) h)
          have hD := gaD_63 (bb := bb) (v := vv) (x := x0)
          refine z_iload_3 d_Mo_plays_214 ?_
          refine z_if_ne (tgt := 224) d_Mo_plays_215 (by decide) (fun hn0 => ?_) (fun hn0 => ?_)
          · have hn0 : n ≠ 0 := fun h => hn0 (by rw [h]; rfl)
            refine z_iload_7 d_Mo_plays_224 ?_
            refine z_reti d_Mo_plays_226 ?_
            exact ⟨by rw [gaIs_w hD], I, rfl, fun _ => rfl, fun _ _ => rfl, fun _ _ => rfl, fun h => absurd h hn0⟩
          · have hn0 : n = 0 := (nI_eq (by omega) (by decide)).mp hn0
            refine z_aload_0 d_Mo_plays_218 ?_
            refine z_iload_8 d_Mo_plays_219 ?_
            refine z_putI d_Mo_plays_221 f_Mo_450 (by first | assumption | exact zS0_at (by assumption) (by omega) | exact zS0_at rfl (by omega)) ?_
            refine z_iload_7 d_Mo_plays_224 ?_
            refine z_reti d_Mo_plays_226 ?_
            refine ⟨by rw [gaIs_w hD], _, rfl, fun h => absurd hn0 h, fun a ha => zu_row _ _ _ _ ha, fun k hk => zu_ne _ _ _ _ (by omega), fun _ d' hd' => ⟨_, ?_, zu_same _ _ _ _⟩⟩
            obtain rfl : d = d' := by omega
            have e1 : mv = one := by rw [hmv, hn0]; rfl
            have e2 : ov = ot := by rw [hov, hn0]; rfl
            rw [← e1, ← e2, ← hbb, ← hvv, ← hx0]
            exact hD
        · obtain ⟨k, hk⟩ : ∃ k, k = 62 - m := ⟨_, rfl⟩
          have ec : nI (63 - m) - nI 1 = nI k := by rw [show 63 - m = k + 1 by omega, nI_dec]
          have eD : gaD bb vv x0 (m + 1) = if bb k = true ∧ gaW vv x0 (gaD bb vv x0 m) ≤ vv k then some k else gaD bb vv x0 m := by rw [hk]; rfl
          have bw := bW m (by omega)
          have nxt : ∀ (y : Option Value) (o' : Option Nat), gaD bb vv x0 (m + 1) = o' → zA G y_Mo_plays prog_14_method_134_code 12 (some .int) (zRm ((d + 1)+4) 0 0) (zM G 0 0 (fun r w' => ∃ x, r = some (.int x) ∧ (fun r w => r = zI (gsg n (gaM bb vv x0 63)) ∧ ∃ I', w = (I', J, P, S) ∧ plQ nn mt tk g C one ot n (d + 1) I I') x w')) 208 [some (.ref 145), some (.int (nI one)), some (.int (nI ot)), some (.int (nI n)), some (.int (nI T)), some (.int (nI (1 - n % 2))), some (.int (nI mv)), some (.int (zI (gsg n (gaW vv x0 o')))), some (.int (zo o')), some (.int (nI k)), some (.int (nI (k / 7))), y] [] (I, J, P, S) 0 0 := by
            intro y o' ho
            have q := ih (m + 1) (by omega) (by omega)
            rw [ho, show 63 - (m + 1) = k by omega] at q
            refine z_iinc_9 d_Mo_plays_208 rfl rfl ?_
            refine z_goto (tgt := 53) d_Mo_plays_211 (by decide) ?_
            rw [zi_dec]
            refine z_forget_10 ?_
            refine z_forget_11 ?_
            exact q
          have skip : ∀ (y : Option Value), ¬ (bb k = true ∧ gaW vv x0 (gaD bb vv x0 m) ≤ vv k) → zA G y_Mo_plays prog_14_method_134_code 12 (some .int) (zRm ((d + 1)+4) 0 0) (zM G 0 0 (fun r w' => ∃ x, r = some (.int x) ∧ (fun r w => r = zI (gsg n (gaM bb vv x0 63)) ∧ ∃ I', w = (I', J, P, S) ∧ plQ nn mt tk g C one ot n (d + 1) I I') x w')) 208 [some (.ref 145), some (.int (nI one)), some (.int (nI ot)), some (.int (nI n)), some (.int (nI T)), some (.int (nI (1 - n % 2))), some (.int (nI mv)), some (.int (zI (gsg n (gaW vv x0 (gaD bb vv x0 m))))), some (.int (zo (gaD bb vv x0 m))), some (.int (nI k)), some (.int (nI (k / 7))), y] [] (I, J, P, S) 0 0 := fun y h => nxt y _ (by rw [eD, if_neg h])
          rw [ec]
          refine z_iload_9 d_Mo_plays_53 ?_
          refine z_if_lt (tgt := 214) d_Mo_plays_55 (by decide) (fun h => absurd h (nI_pos (by omega))) (fun _ => ?_)
          refine z_iload_9 d_Mo_plays_58 ?_
          refine z_bipush (a := nI 7) d_Mo_plays_60 (by decide) ?_
          refine z_idiv (by decide) d_Mo_plays_62 ?_
          rw [pk_div (by omega) (by decide) (by decide)]
          first | refine z_istore_10 d_Mo_plays_63 rfl ?_ | (refine z_forget_9 ?_; refine z_istore_10 d_Mo_plays_63 rfl ?_)
          refine z_iload_10 d_Mo_plays_65 ?_
          refine z_aload_0 d_Mo_plays_67 ?_
          refine z_getR d_Mo_plays_68 f_Mo_35 (by first | assumption | exact zS0_at (by assumption) (by omega) | exact zS0_at rfl (by omega)) (by first | assumption | exact zS0_at (by assumption) (by omega) | exact zS0_at rfl (by omega)) ?_
          refine z_iconst (a := nI 3) d_Mo_plays_71 (by decide) ?_
          first | refine z_ialdNv d_Mo_plays_72 (by first | assumption | exact zS0_at (by assumption) (by omega) | exact zS0_at rfl (by omega)) (by omega) (by first | decide | omega) (by first | assumption | ((try simp (disch := omega) only [zu_same, zu_ne, zcp_ne, zfl_ne]); first | assumption | rfl)) ?_ | refine z_iald d_Mo_plays_72 (by first | assumption | exact zS0_at (by assumption) (by omega) | exact zS0_at rfl (by omega)) (by first | assumption | exact zS0_at (by assumption) (by omega) | exact zS0_at rfl (by omega)) ?_
          refine z_icmp_ge (tgt := 208) d_Mo_plays_73 (by decide) (fun hgn => ?_) (fun hgn => ?_)
          · have hgn := (nI_leI (by omega) (by omega)).mp hgn
            refine skip _ (fun h => ?_)
            have := h.1
            rw [hbb] at this
            have := gaOk_lt this
            omega
          have hgn : k / 7 < nn := Nat.lt_of_not_le (fun q => hgn (nI_le q (by omega)))
          have hc1 : I 150 (42 + k / 7) = C (k / 7) := by rw [hC]
          refine z_aload_0 d_Mo_plays_76 ?_
          refine z_getR d_Mo_plays_77 f_Mo_35 (by first | assumption | exact zS0_at (by assumption) (by omega) | exact zS0_at rfl (by omega)) (by first | assumption | exact zS0_at (by assumption) (by omega) | exact zS0_at rfl (by omega)) ?_
          refine z_bipush (a := nI 42) d_Mo_plays_80 (by decide) ?_
          refine z_iload_10 d_Mo_plays_82 ?_
          first | refine z_iaddN d_Mo_plays_84 ?_ | refine z_iadd d_Mo_plays_84 ?_
          first | refine z_ialdNv d_Mo_plays_85 (by first | assumption | exact zS0_at (by assumption) (by omega) | exact zS0_at rfl (by omega)) (by omega) (by first | decide | omega) (by first | assumption | ((try simp (disch := omega) only [zu_same, zu_ne, zcp_ne, zfl_ne]); first | assumption | rfl)) ?_ | refine z_iald d_Mo_plays_85 (by first | assumption | exact zS0_at (by assumption) (by omega) | exact zS0_at rfl (by omega)) (by first | assumption | exact zS0_at (by assumption) (by omega) | exact zS0_at rfl (by omega)) ?_
          refine z_iload_6 d_Mo_plays_86 ?_
          refine z_icmp_ne (tgt := 208) d_Mo_plays_88 (by decide) (fun hcc => ?_) (fun hcc => ?_)
          · refine skip _ (fun h => ?_)
            have := h.1
            rw [hbb] at this
            exact hcc (gaOk_at this)
          refine z_aload_0 d_Mo_plays_91 ?_
          refine z_iload_10 d_Mo_plays_92 ?_
          refine z_iload_6 d_Mo_plays_94 ?_
          refine z_Vi2 d_Mo_plays_96 k_Mo_357 (by first | assumption | exact zS0_at (by assumption) (by omega) | exact zS0_at rfl (by omega)) (t_Mo_nextOf' M N (by omega) (hK (k / 7) hgn) (by omega)) (by refine ⟨?_, ?_, ?_, ?_⟩ <;> simp only [zRm] <;> omega) (Nat.le_of_ble_eq_true rfl) ?_
          intro r w hq
          obtain ⟨rfl, rfl⟩ := hq
          rw [show mMt I mv = mt mv from hmt mv (by omega), htk (k / 7) hgn]
          refine z_iload_9 d_Mo_plays_99 ?_
          refine z_bipush (a := nI 7) d_Mo_plays_101 (by decide) ?_
          refine z_irem (by decide) d_Mo_plays_103 ?_
          rw [irem_N (by omega) (by decide) (by decide)]
          refine z_Si2 d_Mo_plays_104 k_Mo_109 (t_Mo_has) (by refine ⟨?_, ?_, ?_, ?_⟩ <;> simp only [zRm] <;> omega) (Nat.le_of_ble_eq_true rfl) ?_
          intro r w hq
          rcases hq with ⟨⟨hz1, rfl⟩ | ⟨hz1, rfl⟩, rfl⟩
          case inr =>
            refine z_if_ne (tgt := 113) d_Mo_plays_107 (by decide) (fun h => absurd (by decide) h) (fun _ => ?_)
            refine z_goto (tgt := 208) d_Mo_plays_110 (by decide) ?_
            refine skip _ (fun h => ?_)
            have := h.1
            rw [hbb] at this
            exact hz1 (gaOk_bit this)
          have hok : gaOk nn mt tk C mv k = true := by
            unfold gaOk
            rw [decide_eq_true hgn, decide_eq_true hcc]
            exact hz1
          have hbk : bb k = true := by rw [hbb]; exact hok
          have b2 := bv k hbk
          have lq : k % 7 < np := by
            have h := hz1
            unfold zbit at h
            rw [zB_and (by omega), Bool.and_eq_true] at h
            exact k4 (k / 7) hgn (k % 7) (by omega) h.2
          refine z_if_ne (tgt := 113) d_Mo_plays_107 (by decide) (fun _ => ?_) (fun h => absurd h (by decide))
          refine z_aload_0 d_Mo_plays_113 ?_
          refine z_getR d_Mo_plays_114 f_Mo_35 (by first | assumption | exact zS0_at (by assumption) (by omega) | exact zS0_at rfl (by omega)) (by first | assumption | exact zS0_at (by assumption) (by omega) | exact zS0_at rfl (by omega)) ?_
          refine z_bipush (a := nI 42) d_Mo_plays_117 (by decide) ?_
          refine z_iload_10 d_Mo_plays_119 ?_
          first | refine z_iaddN d_Mo_plays_121 ?_ | refine z_iadd d_Mo_plays_121 ?_
          refine z_iload_9 d_Mo_plays_122 ?_
          refine z_bipush (a := nI 7) d_Mo_plays_124 (by decide) ?_
          refine z_irem (by decide) d_Mo_plays_126 ?_
          rw [irem_N (by omega) (by decide) (by decide)]
          first | refine z_iastN d_Mo_plays_127 (by first | assumption | exact zS0_at (by assumption) (by omega) | exact zS0_at rfl (by omega)) (by omega) (by first | decide | omega) ?_ | refine z_iast d_Mo_plays_127 (by first | assumption | exact zS0_at (by assumption) (by omega) | exact zS0_at rfl (by omega)) (by first | assumption | exact zS0_at (by assumption) (by omega) | exact zS0_at rfl (by omega)) ?_
          refine z_aload_0 d_Mo_plays_128 ?_
          refine z_iload_1 d_Mo_plays_129 ?_
          refine z_iload_2 d_Mo_plays_130 ?_
          refine z_iload_3 d_Mo_plays_131 ?_
          refine z_iconst (a := nI 1) d_Mo_plays_132 (by decide) ?_
          first | refine z_iaddN d_Mo_plays_133 ?_ | refine z_iadd d_Mo_plays_133 ?_
          refine z_iload_4 d_Mo_plays_134 ?_
          refine z_Vi4 d_Mo_plays_136 k_Mo_447 (by first | assumption | exact zS0_at (by assumption) (by omega) | exact zS0_at rfl (by omega)) (rcl _ (pl_u hpl hkk lq)) (by refine ⟨?_, ?_, ?_, ?_⟩ <;> simp only [zRm] <;> omega) (Nat.le_of_ble_eq_true rfl) ?_
          intro r w hq
          obtain ⟨rfl, rfl⟩ := hq
          rw [zu_gaU2, ← hC]
          have hk6 := hkk (k / 7) hgn
          have w33 : (zu I 150 (42 + k / 7) (nI (k % 7))) 150 (33 + k / 7) = nI (kk (k / 7)) := by rw [zu_ne _ _ _ _ (by omega)]; exact hK _ hgn
          have w6 : (zu I 150 (42 + k / 7) (nI (k % 7))) 150 (6 + kk (k / 7)) = nI (g (k / 7)) := by rw [zu_ne _ _ _ _ (by omega)]; exact hW _ hgn
          have evk : vv k = (g (k / 7) : Int) - gaB nn mt tk g d (gaU C (k / 7) (nI (k % 7))) ov mv := by rw [hvv]; rfl
          have hmvI : I 150 (42 + k / 7) = nI mv := hc1.trans hcc
          refine z_iload_5 d_Mo_plays_139 ?_
          refine z_if_eq (tgt := 153) d_Mo_plays_141 (by decide) (fun hp => ?_) (fun hp => ?_)
          · have hp : n % 2 = 1 := by
              have : 1 - n % 2 = 0 := (nI_eq (by omega) (by decide)).mp hp
              omega
            refine z_aload_0 d_Mo_plays_153 ?_
            refine z_iload_10 d_Mo_plays_154 ?_
            refine z_Vi1 d_Mo_plays_156 k_Mo_313 (by first | assumption | exact zS0_at (by assumption) (by omega) | exact zS0_at rfl (by omega)) (t_Mo_worthOf M (by omega) w33 hk6) (by refine ⟨?_, ?_, ?_, ?_⟩ <;> simp only [zRm] <;> omega) (Nat.le_of_ble_eq_true rfl) ?_
            intro r w hq
            obtain ⟨rfl, rfl⟩ := hq
            rw [w6]
            refine z_ineg d_Mo_plays_159 ?_
            refine z_iadd d_Mo_plays_160 ?_
            rw [zI_nI (g (k / 7)), zI_neg, zI_add, show gsg n (-gaB nn mt tk g d (gaU C (k / 7) (nI (k % 7))) ov mv) + -(g (k / 7) : Int) = gsg n (vv k) by rw [gsg_o hp, gsg_o hp, evk]; omega]
            first | refine z_istore_11 d_Mo_plays_161 rfl ?_ | (refine z_forget_10 ?_; refine z_istore_11 d_Mo_plays_161 rfl ?_)
            refine z_aload_0 d_Mo_plays_163 ?_
            refine z_getR d_Mo_plays_164 f_Mo_35 (by first | assumption | exact zS0_at (by assumption) (by omega) | exact zS0_at rfl (by omega)) (by first | assumption | exact zS0_at (by assumption) (by omega) | exact zS0_at rfl (by omega)) ?_
            refine z_bipush (a := nI 42) d_Mo_plays_167 (by decide) ?_
            refine z_iload_10 d_Mo_plays_169 ?_
            first | refine z_iaddN d_Mo_plays_171 ?_ | refine z_iadd d_Mo_plays_171 ?_
            refine z_iload_6 d_Mo_plays_172 ?_
            first | refine z_iastN d_Mo_plays_174 (by first | assumption | exact zS0_at (by assumption) (by omega) | exact zS0_at rfl (by omega)) (by omega) (by first | decide | omega) ?_ | refine z_iast d_Mo_plays_174 (by first | assumption | exact zS0_at (by assumption) (by omega) | exact zS0_at rfl (by omega)) (by first | assumption | exact zS0_at (by assumption) (by omega) | exact zS0_at rfl (by omega)) ?_
            rw [zu_zu, zu_id hmvI]
            refine z_iload_5 d_Mo_plays_175 ?_
            refine z_if_eq (tgt := 190) d_Mo_plays_177 (by decide) (fun _ => ?_) (fun h => absurd (by rw [hp]; decide) h)
            refine z_iload_11 d_Mo_plays_190 ?_
            refine z_iload_7 d_Mo_plays_192 ?_
            rw [gsg_o (x := vv k) hp, gsg_o (x := gaW vv x0 (gaD bb vv x0 m)) hp]
            refine z_icmp_le (tgt := 200) d_Mo_plays_194 (by decide) (fun hl => ?_) (fun hl => ?_)
            · have hl := (zI_le (by omega) (by omega)).mp hl
              refine z_iload_11 d_Mo_plays_200 ?_
              first | refine z_istore_7 d_Mo_plays_202 rfl ?_ | (refine z_forget_6 ?_; refine z_istore_7 d_Mo_plays_202 rfl ?_)
              refine z_iload_9 d_Mo_plays_204 ?_
              first | refine z_istore_8 d_Mo_plays_206 rfl ?_ | (refine z_forget_7 ?_; refine z_istore_8 d_Mo_plays_206 rfl ?_)
              have q := nxt (some (.int (zI (-vv k)))) (some k) (by rw [eD, if_pos ⟨hbk, by omega⟩])
              rw [show gaW vv x0 (some k) = vv k from rfl, gsg_o (x := vv k) hp] at q
              exact q
            · have hl : ¬ -vv k ≤ -gaW vv x0 (gaD bb vv x0 m) := fun q => hl ((zI_le (by omega) (by omega)).mpr q)
              refine z_goto (tgt := 208) d_Mo_plays_197 (by decide) ?_
              have q := skip (some (.int (zI (-vv k)))) (fun h => hl (by have := h.2; omega))
              rw [gsg_o (x := gaW vv x0 (gaD bb vv x0 m)) hp] at q
              exact q
          · have hp : n % 2 = 0 := by
              rcases Nat.mod_two_eq_zero_or_one n with h | h
              · exact h
              · exact absurd (by rw [h]; decide) hp
            refine z_aload_0 d_Mo_plays_144 ?_
            refine z_iload_10 d_Mo_plays_145 ?_
            refine z_Vi1 d_Mo_plays_147 k_Mo_313 (by first | assumption | exact zS0_at (by assumption) (by omega) | exact zS0_at rfl (by omega)) (t_Mo_worthOf M (by omega) w33 hk6) (by refine ⟨?_, ?_, ?_, ?_⟩ <;> simp only [zRm] <;> omega) (Nat.le_of_ble_eq_true rfl) ?_
            intro r w hq
            obtain ⟨rfl, rfl⟩ := hq
            rw [w6]
            refine z_goto (tgt := 160) d_Mo_plays_150 (by decide) ?_
            refine z_iadd d_Mo_plays_160 ?_
            rw [zI_nI (g (k / 7)), zI_add, show gsg n (-gaB nn mt tk g d (gaU C (k / 7) (nI (k % 7))) ov mv) + (g (k / 7) : Int) = gsg n (vv k) by rw [gsg_e hp, gsg_e hp, evk]; omega]
            first | refine z_istore_11 d_Mo_plays_161 rfl ?_ | (refine z_forget_10 ?_; refine z_istore_11 d_Mo_plays_161 rfl ?_)
            refine z_aload_0 d_Mo_plays_163 ?_
            refine z_getR d_Mo_plays_164 f_Mo_35 (by first | assumption | exact zS0_at (by assumption) (by omega) | exact zS0_at rfl (by omega)) (by first | assumption | exact zS0_at (by assumption) (by omega) | exact zS0_at rfl (by omega)) ?_
            refine z_bipush (a := nI 42) d_Mo_plays_167 (by decide) ?_
            refine z_iload_10 d_Mo_plays_169 ?_
            first | refine z_iaddN d_Mo_plays_171 ?_ | refine z_iadd d_Mo_plays_171 ?_
            refine z_iload_6 d_Mo_plays_172 ?_
            first | refine z_iastN d_Mo_plays_174 (by first | assumption | exact zS0_at (by assumption) (by omega) | exact zS0_at rfl (by omega)) (by omega) (by first | decide | omega) ?_ | refine z_iast d_Mo_plays_174 (by first | assumption | exact zS0_at (by assumption) (by omega) | exact zS0_at rfl (by omega)) (by first | assumption | exact zS0_at (by assumption) (by omega) | exact zS0_at rfl (by omega)) ?_
            rw [zu_zu, zu_id hmvI]
            refine z_iload_5 d_Mo_plays_175 ?_
            refine z_if_eq (tgt := 190) d_Mo_plays_177 (by decide) (fun h => absurd h (by rw [hp]; decide)) (fun _ => ?_)
            refine z_iload_11 d_Mo_plays_180 ?_
            refine z_iload_7 d_Mo_plays_182 ?_
            rw [gsg_e (x := vv k) hp, gsg_e (x := gaW vv x0 (gaD bb vv x0 m)) hp]
            refine z_icmp_ge (tgt := 200) d_Mo_plays_184 (by decide) (fun hl => ?_) (fun hl => ?_)
            · have hl := (zI_le (by omega) (by omega)).mp hl
              refine z_iload_11 d_Mo_plays_200 ?_
              first | refine z_istore_7 d_Mo_plays_202 rfl ?_ | (refine z_forget_6 ?_; refine z_istore_7 d_Mo_plays_202 rfl ?_)
              refine z_iload_9 d_Mo_plays_204 ?_
              first | refine z_istore_8 d_Mo_plays_206 rfl ?_ | (refine z_forget_7 ?_; refine z_istore_8 d_Mo_plays_206 rfl ?_)
              have q := nxt (some (.int (zI (vv k)))) (some k) (by rw [eD, if_pos ⟨hbk, hl⟩])
              rw [show gaW vv x0 (some k) = vv k from rfl, gsg_e (x := vv k) hp] at q
              exact q
            · have hl : ¬ gaW vv x0 (gaD bb vv x0 m) ≤ vv k := fun q => hl ((zI_le (by omega) (by omega)).mpr q)
              refine z_goto (tgt := 208) d_Mo_plays_187 (by decide) ?_
              have q := skip (some (.int (zI (vv k)))) (fun h => hl h.2)
              rw [gsg_e (x := gaW vv x0 (gaD bb vv x0 m)) hp] at q
              exact q
    have cm : zA G y_Mo_plays prog_14_method_134_code 12 (some .int) (zRm ((d + 1)+4) 0 0) (zM G 0 0 (fun r w' => ∃ x, r = some (.int x) ∧ (fun r w => r = zI (gsg n (gaM bb vv x0 63)) ∧ ∃ I', w = (I', J, P, S) ∧ plQ nn mt tk g C one ot n (d + 1) I I') x w')) 33 [some (.ref 145), some (.int (nI one)), some (.int (nI ot)), some (.int (nI n)), some (.int (nI T)), some (.int (nI (1 - n % 2))), some (.int (nI mv)), none, none, none, none, none] [] (I, J, P, S) 0 0 := by
      refine z_aload_0 d_Mo_plays_33 ?_
      refine z_iload_1 d_Mo_plays_34 ?_
      refine z_iload_2 d_Mo_plays_35 ?_
      refine z_iload_3 d_Mo_plays_36 ?_
      refine z_iconst (a := nI 1) d_Mo_plays_37 (by decide) ?_
      first | refine z_iaddN d_Mo_plays_38 ?_ | refine z_iadd d_Mo_plays_38 ?_
      refine z_iload_4 d_Mo_plays_39 ?_
      refine z_Vi4 d_Mo_plays_41 k_Mo_447 (by first | assumption | exact zS0_at (by assumption) (by omega) | exact zS0_at rfl (by omega)) (rcl I hpl) (by refine ⟨?_, ?_, ?_, ?_⟩ <;> simp only [zRm] <;> omega) (Nat.le_of_ble_eq_true rfl) ?_
      intro r w hq
      obtain ⟨rfl, rfl⟩ := hq
      rw [← hC, ← hx0]
      first | refine z_istore_7 d_Mo_plays_44 rfl ?_ | (refine z_forget_6 ?_; refine z_istore_7 d_Mo_plays_44 rfl ?_)
      refine z_iconst (a := -1) d_Mo_plays_46 (by decide) ?_
      first | refine z_istore_8 d_Mo_plays_47 rfl ?_ | (refine z_forget_7 ?_; refine z_istore_8 d_Mo_plays_47 rfl ?_)
      refine z_bipush (a := nI 62) d_Mo_plays_49 (by decide) ?_
      first | refine z_istore_9 d_Mo_plays_51 rfl ?_ | (refine z_forget_8 ?_; refine z_istore_9 d_Mo_plays_51 rfl ?_)
      rw [show nI 62 = nI (63 - 0) - nI 1 by decide]
      exact lp 64 0 (by omega) (by omega)
    refine z_iload_3 d_Mo_plays_0 ?_
    refine z_iload_4 d_Mo_plays_1 ?_
    refine z_icmp_ne (tgt := 8) d_Mo_plays_3 (by decide) (fun _ => ?_) (fun h => absurd h (fun q => by have := (nI_eq (by omega) (by omega)).mp q; omega))
    refine z_iload_3 d_Mo_plays_8 ?_
    refine z_iconst (a := nI 2) d_Mo_plays_9 (by decide) ?_
    refine z_irem (by decide) d_Mo_plays_10 ?_
    rw [irem_N (by omega) (by decide) (by decide)]
    refine z_if_ne (tgt := 18) d_Mo_plays_11 (by decide) (fun hp => ?_) (fun hp => ?_)
    · have hp : n % 2 = 1 := by
        rcases Nat.mod_two_eq_zero_or_one n with h | h
        · exact absurd (by rw [h]; rfl) hp
        · exact h
      rw [hp, hmv, show gmv n one ot = ot from if_neg (by omega)] at cm
      refine z_iconst (a := nI 0) d_Mo_plays_18 (by decide) ?_
      first | refine z_istore_5 d_Mo_plays_19 rfl ?_ | (refine z_forget_4 ?_; refine z_istore_5 d_Mo_plays_19 rfl ?_)
      refine z_iload_5 d_Mo_plays_21 ?_
      refine z_if_eq (tgt := 30) d_Mo_plays_23 (by decide) (fun _ => ?_) (fun h => absurd (by decide) h)
      refine z_iload_2 d_Mo_plays_30 ?_
      first | refine z_istore_6 d_Mo_plays_31 rfl ?_ | (refine z_forget_5 ?_; refine z_istore_6 d_Mo_plays_31 rfl ?_)
      exact cm
    · have hp : n % 2 = 0 := (nI_eq (by omega) (by decide)).mp hp
      rw [hp, hmv, show gmv n one ot = one from if_pos hp] at cm
      refine z_iconst (a := nI 1) d_Mo_plays_14 (by decide) ?_
      refine z_goto (tgt := 19) d_Mo_plays_15 (by decide) ?_
      first | refine z_istore_5 d_Mo_plays_19 rfl ?_ | (refine z_forget_4 ?_; refine z_istore_5 d_Mo_plays_19 rfl ?_)
      refine z_iload_5 d_Mo_plays_21 ?_
      refine z_if_eq (tgt := 30) d_Mo_plays_23 (by decide) (fun h => absurd h (by decide)) (fun _ => ?_)
      refine z_iload_1 d_Mo_plays_26 ?_
      refine z_goto (tgt := 31) d_Mo_plays_27 (by decide) ?_
      first | refine z_istore_6 d_Mo_plays_31 rfl ?_ | (refine z_forget_5 ?_; refine z_istore_6 d_Mo_plays_31 rfl ?_)
      exact cm
end GD0
