/-! ===== plans: the class's steps ===== -/
/-- below s the steps are as they were -/
def SB (h g : aH) (p s : Nat) : Prop := ∀ x, x < s → g.2.1 (p + 1) x = h.2.1 (p + 1) x ∧ g.2.1 (p + 2) x = h.2.1 (p + 2) x ∧ g.2.1 (p + 3) x = h.2.1 (p + 3) x ∧ g.2.1 (p + 4) x = h.2.1 (p + 4) x
theorem pc_up {h g : aH} {p : Nat} {C : Nat → Nat} {K : Nat → Nat → Nat} {N dp : Nat} {op : Nat → Nat} (pc : PCp h p K N) (pv : PVp C K N dp op) (sb : SB h g p (sgK K N)) {a b c : Nat} (ha : a ≠ 26) (w : g.2.1 (p + 1) (sgK K N) = nI (wkN a)) (f1 : a ≠ 19 → a ≠ 20 → g.2.1 (p + 2) (sgK K N) = nI b) (f2 : a = 20 → g.2.1 (p + 2) (sgK K N) = nI c) (f3 : a = 17 → g.2.1 (p + 3) (sgK K N) = nI c) : PCp (hI g p 6 (nI (sgK (rwK K N a b c 0) (N + 1)))) p (rwK K N a b c 0) (N + 1) := by
  obtain ⟨z0, z1, z2, z3⟩ := rw_N (K := K) (N := N) (a := a) (b := b) (c := c) (d := 0)
  refine ⟨rI_eq, fun r hr hcl => ?_⟩
  rw [rI_ne (show p + 1 ≠ p by omega), rI_ne (show p + 2 ≠ p by omega), rI_ne (show p + 3 ≠ p by omega), rI_ne (show p + 4 ≠ p by omega)]
  rcases Nat.lt_or_ge r N with u | u
  · rw [rw_cl (by omega)] at hcl
    have sl := sgk_lt u hcl
    obtain ⟨s1, s2, s3, s4⟩ := sb _ sl
    obtain ⟨q1, q2, q3, q4, q5⟩ := pc.2 r u hcl
    rw [rw_sg (by omega), rw_lt (by omega), s1, s2, s3, s4]
    refine ⟨q1, q2, q3, q4, fun h1 h2 => ?_⟩
    have k3 : K r 3 ≤ N := by
      rcases pv.2.2.2.1 r u hcl with ⟨e, -⟩ | ⟨e, -⟩ | e | ⟨e, -⟩ | ⟨x, x4, e, -, -, ⟨e2, -, -, e3⟩ | ⟨e3, e4, -⟩⟩ <;> omega
    rw [rw_sg k3]
    exact q5 h1 h2
  · obtain rfl : r = N := by omega
    rw [rw_sg (Nat.le_refl r), z0, z1, z2, z3]
    exact ⟨w, f1, f2, f3, fun _ h2 => absurd h2 (by omega)⟩
theorem po_up {h g : aH} {p : Nat} {C : Nat → Nat} {K : Nat → Nat → Nat} {N dp : Nat} {op : Nat → Nat} (po : POp h p K dp op) (pv : PVp C K N dp op) (e5 : g.2.1 p 5 = h.2.1 p 5) (e7 : g.2.1 p 7 = h.2.1 p 7) (eo : g.2.1 (p + 5) = h.2.1 (p + 5)) {a b c : Nat} : POp g p (rwK K N a b c 0) dp op := by
  refine ⟨e5.trans po.1, e7.trans po.2.1, fun e he => ?_⟩
  have := (pv.2.2.2.2 e he).1
  rw [eo, rw_sg (by omega)]
  exact po.2.2 e he
/-- a step's word, then what belongs to it -/
theorem x_head14 {h0 h : aH} {c : Nat} {T : Nat → Nat} {n m i : Nat} {C : Nat → Nat} {V : Nat → List Nat} {K : Nat → Nat → Nat} {N dp : Nat} {op : Nat → Nat} (mc : MCp h0 h 14 c T n m i C V K N dp op) (pv : PVp C K N dp op) (t1 : 25 ≤ tcI T n i) (t2 : tcI T n i ≤ 29) (s30 : sgK K N < 30) (td : tcI T n i = 29 → dp < 3) : ∃ g, (FR h0 g [4, 14, 15, 16, 17, 18, 19] [4] [] [] ∧ LC g T n m (i + 1) ∧ CS g c ∧ NCl g c C V ∧ SB h g 14 (sgK K N) ∧ g.2.1 14 = h.2.1 14 ∧ g.2.1 19 = h.2.1 19 ∧ g.2.1 15 (sgK K N) = nI (tcI T n i)) ∧ f_X8_readStep h 14 4 (c + 1) = if nI (tcI T n i) = nI 29 then bd2 (f_X8_readTest g 14 4 (c + 1)) fun t12 h13 => if t12 = nI 0 then some (nI 0, h13) else f_X8_readStep_j103 h13 14 4 else bd2 (f_X8_readNames g 14 4 (c + 1)) fun t10 h11 => if t10 = nI 0 then some (nI 0, h11) else f_X8_readStep_j103 h11 14 4 := by
  obtain ⟨hf, lc, hs, nc, pc, po⟩ := mc
  obtain ⟨hl, lx, ⟨e9, e10, e11, e12, e13, e6⟩, hi⟩ := id lc
  have p6 : h.2.1 14 6 = nI (sgK K N) := pc.1
  have p5 : h.2.1 14 5 = nI dp := po.1
  have d3 := pv.2.1
  obtain ⟨h6, r, f, l⟩ := x_adv lc (lc_lt lc (by omega))
  have l6 := l.1
  have q6 : h6.2.1 14 6 = nI (sgK K N) := by rw [f.I 14 (by decide) (by decide) (by decide)]; exact p6
  let g := hI h6 15 (sgK K N) (nI (tcI T n i))
  have lg : LAY g := l6
  have f6 : FR h h6 [4, 14, 15, 16, 17, 18, 19] [4] [] [] := f.mono (by decide) (by decide) (by decide) (by decide)
  have fg : FR h g [4, 14, 15, 16, 17, 18, 19] [4] [] [] := f6.tr (FR.hI (by decide) (by decide) (by decide))
  have f2 : FR h6 g [15] [] [] [] := FR.hI (by decide) (by decide) (by decide)
  obtain ⟨hsg, ncg⟩ := cp_st14 fg hs nc
  refine ⟨g, ⟨hf.tr fg, lc_fr f2 (by decide) (by decide) l, hsg, ncg, fun x hx => ⟨?_, ?_, ?_, ?_⟩, ?_, ?_, rI_eq⟩, ?_⟩
  · show (hI h6 15 (sgK K N) _).2.1 15 x = h.2.1 15 x
    rw [rI_nk (by omega), f.I 15 (by decide) (by decide) (by decide)]
  · show h6.2.1 16 x = h.2.1 16 x
    rw [f.I 16 (by decide) (by decide) (by decide)]
  · show h6.2.1 17 x = h.2.1 17 x
    rw [f.I 17 (by decide) (by decide) (by decide)]
  · show h6.2.1 18 x = h.2.1 18 x
    rw [f.I 18 (by decide) (by decide) (by decide)]
  · show h6.2.1 14 = h.2.1 14
    exact f.I 14 (by decide) (by decide) (by decide)
  · show h6.2.1 19 = h.2.1 19
    exact f.I 19 (by decide) (by decide) (by decide)
  · have hd : f_X8_readStep h 14 4 (c + 1) = f_X8_readStep_j60 h 14 4 (c + 1) (nI (tcI T n i)) := by
      by_cases h29 : tcI T n i = 29
      · have := td h29
        rw [h29] at e10 ⊢
        simp (disch := first | assumption | omega | decide | ((repeat first | apply lyI | apply lyJ | apply lywI | apply lywJ | apply csI | apply csJ | apply cswI | apply cswJ); assumption)) only [f_X8_readStep, SP14, SX, LI, ↓li_m1, nI_add, pk_mul, nn_sub, nn_m1, nn_div, nn_rem, nn_nz, nn_mod, nJ_l, lN_add, lN_mul, nn_tb1, nI_bt, nn_and, nn_or, nn_xor, nn_shr, nn_1shl, nn_31, il_p, il_n, it_p, it_n, ie_p, ie_n, ie_b, ie_b1, ie_m, ie_mm, it_m, it_m0, il_m0, bI_rZ, Option.bind_some, bd2_some, Nat.add_zero, Nat.zero_add, if_true, if_false, Bool.false_eq_true, eq_self, hI_R, hJ_R, ng_t, ng_e, e10, p6, p5]
      · simp (disch := first | assumption | omega | decide | ((repeat first | apply lyI | apply lyJ | apply lywI | apply lywJ | apply csI | apply csJ | apply cswI | apply cswJ); assumption)) only [f_X8_readStep, SP14, SX, LI, ↓li_m1, nI_add, pk_mul, nn_sub, nn_m1, nn_div, nn_rem, nn_nz, nn_mod, nJ_l, lN_add, lN_mul, nn_tb1, nI_bt, nn_and, nn_or, nn_xor, nn_shr, nn_1shl, nn_31, il_p, il_n, it_p, it_n, ie_p, ie_n, ie_b, ie_b1, ie_m, ie_mm, it_m, it_m0, il_m0, bI_rZ, Option.bind_some, bd2_some, Nat.add_zero, Nat.zero_add, if_true, if_false, Bool.false_eq_true, eq_self, hI_R, hJ_R, ng_t, ng_e, e10, p6, p5]
    rw [hd]
    simp (disch := first | assumption | omega | decide | ((repeat first | apply lyI | apply lyJ | apply lywI | apply lywJ | apply csI | apply csJ | apply cswI | apply cswJ); assumption)) only [f_X8_readStep_j60, SP14, SX, LI, ↓li_m1, nI_add, pk_mul, nn_sub, nn_m1, nn_div, nn_rem, nn_nz, nn_mod, nJ_l, lN_add, lN_mul, nn_tb1, nI_bt, nn_and, nn_or, nn_xor, nn_shr, nn_1shl, nn_31, il_p, il_n, it_p, it_n, ie_p, ie_n, ie_b, ie_b1, ie_m, ie_mm, it_m, it_m0, il_m0, bI_rZ, Option.bind_some, bd2_some, Nat.add_zero, Nat.zero_add, if_true, if_false, Bool.false_eq_true, eq_self, hI_R, hJ_R, ng_t, ng_e, r, q6]
    rfl
/-- ask -/
theorem x_ask14 {h0 h : aH} {c : Nat} {T : Nat → Nat} {n m i : Nat} {C : Nat → Nat} {V : Nat → List Nat} {K : Nat → Nat → Nat} {N dp : Nat} {op : Nat → Nat} (mc : MCp h0 h 14 c T n m i C V K N dp op) (pv : PVp C K N dp op) (nv : NV C V) (t : tcI T n i = 25) (s30 : sgK K N < 30) : OCp h0 14 c T n m C V N (f_X8_readStep h 14 4 (c + 1)) (pStep T n i C V K N dp op) := by
  obtain ⟨g, ⟨fg, lg, sg, ng, sb, gp, g5, gw⟩, hd⟩ := x_head14 mc pv (by omega) (by omega) s30 (by omega)
  obtain ⟨hf, lc, hs, nc, pc, po⟩ := mc
  have ll := lg.1
  have g6 : g.2.1 14 6 = nI (sgK K N) := by rw [gp]; exact pc.1
  have ep : pStep T n i C V K N dp op = (match nmO T n (i + 1) C V 3 with
    | none => .inl (nmF T n (i + 1), frI T n (i + 1))
    | some a => match nmO T n (i + 2) C V 2 with
      | none => .inl (nmF T n (i + 2), frI T n (i + 2))
      | some b => smS T n (i + 3) (rwK K N 17 a b 0) dp op) := by
    unfold pStep
    rw [if_neg (by omega), if_neg (by omega), if_neg (by omega), if_pos t]
    rfl
  rw [hd, ep, if_neg (d_ne (by rw [t]; decide) (by decide) (by omega))]
  rw [t] at gw
  have a1 : f_X8_readNames g 14 4 (c + 1) = f_X8_readNames_j22 g 14 4 (c + 1) (nI 25) := by simp (disch := first | assumption | omega | decide | ((repeat first | apply lyI | apply lyJ | apply lywI | apply lywJ | apply csI | apply csJ | apply cswI | apply cswJ); assumption)) only [f_X8_readNames, SP14, LI, ↓li_m1, nI_add, pk_mul, nn_sub, nn_m1, nn_div, nn_rem, nn_nz, nn_mod, nJ_l, lN_add, lN_mul, nn_tb1, nI_bt, nn_and, nn_or, nn_xor, nn_shr, nn_1shl, nn_31, il_p, il_n, it_p, it_n, ie_p, ie_n, ie_b, ie_b1, ie_m, ie_mm, it_m, it_m0, il_m0, bI_rZ, Option.bind_some, bd2_some, Nat.add_zero, Nat.zero_add, if_true, if_false, Bool.false_eq_true, eq_self, hI_R, hJ_R, ng_t, ng_e, g6, gw]
  obtain ⟨y1, y2⟩ := x_tkName lg sg ng nv (s := 3) (by decide)
  cases ha : nmO T n (i + 1) C V 3 with
  | none =>
    obtain ⟨h', r, f, l⟩ := y2 ha
    have l' := l.1
    have w12 : (hI h' 16 (sgK K N) m1).2.1 4 12 = nI (nmF T n (i + 1)) := l.2.1
    have w0 : ¬ nI (nmF T n (i + 1)) = nI 0 := d_ne (by unfold nmF fkN; (repeat' split) <;> decide) (by decide) (by unfold nmF fkN; (repeat' split) <;> decide)
    have f2 : FR h' (hI h' 16 (sgK K N) m1) [16] [] [] [] := FR.hI (by decide) (by decide) (by decide)
    refine ⟨hI h' 16 (sgK K N) m1, ?_, (fg.tr (f.mono (by decide) (by decide) (by decide) (by decide))).tr (f2.mono (by decide) (by decide) (by decide) (by decide)), fl_fr f2 (by decide) l⟩
    have b1 : f_X8_readNames_j22 g 14 4 (c + 1) (nI 25) = f_X8_readNames_j61 (hI h' 16 (sgK K N) m1) 14 4 (c + 1) (nI 25) := by simp (disch := first | assumption | omega | decide | ((repeat first | apply lyI | apply lyJ | apply lywI | apply lywJ | apply csI | apply csJ | apply cswI | apply cswJ); assumption)) only [f_X8_readNames_j22, SP14, SX, LI, ↓li_m1, nI_add, pk_mul, nn_sub, nn_m1, nn_div, nn_rem, nn_nz, nn_mod, nJ_l, lN_add, lN_mul, nn_tb1, nI_bt, nn_and, nn_or, nn_xor, nn_shr, nn_1shl, nn_31, il_p, il_n, it_p, it_n, ie_p, ie_n, ie_b, ie_b1, ie_m, ie_mm, it_m, it_m0, il_m0, bI_rZ, Option.bind_some, bd2_some, Nat.add_zero, Nat.zero_add, if_true, if_false, Bool.false_eq_true, eq_self, hI_R, hJ_R, ng_t, ng_e, g6, r]
    have b2 : f_X8_readNames_j61 (hI h' 16 (sgK K N) m1) 14 4 (c + 1) (nI 25) = some (nI 0, hI h' 16 (sgK K N) m1) := by simp (disch := first | assumption | omega | decide | ((repeat first | apply lyI | apply lyJ | apply lywI | apply lywJ | apply csI | apply csJ | apply cswI | apply cswJ); assumption)) only [f_X8_readNames_j61, f_X8_readNames_j89, SX, LI, ↓li_m1, nI_add, pk_mul, nn_sub, nn_m1, nn_div, nn_rem, nn_nz, nn_mod, nJ_l, lN_add, lN_mul, nn_tb1, nI_bt, nn_and, nn_or, nn_xor, nn_shr, nn_1shl, nn_31, il_p, il_n, it_p, it_n, ie_p, ie_n, ie_b, ie_b1, ie_m, ie_mm, it_m, it_m0, il_m0, bI_rZ, Option.bind_some, bd2_some, Nat.add_zero, Nat.zero_add, if_true, if_false, Bool.false_eq_true, eq_self, hI_R, hJ_R, ng_t, ng_e, w12, if_neg w0]
    rw [a1, b1, b2, bd2_some, if_pos rfl]
  | some a =>
    obtain ⟨h', r, f, l⟩ := y1 a ha
    have l' := l.1
    have f2 : FR h' (hI h' 16 (sgK K N) (nI a)) [16] [] [] [] := FR.hI (by decide) (by decide) (by decide)
    have lc2 := lc_fr f2 (by decide) (by decide) l
    have ff : FR g (hI h' 16 (sgK K N) (nI a)) [4, 14, 15, 16, 17, 18, 19] [4] [] [] := (f.mono (by decide) (by decide) (by decide) (by decide)).tr (f2.mono (by decide) (by decide) (by decide) (by decide))
    obtain ⟨s2, n2⟩ := cp_st14 ff sg ng
    have z12 : (hI h' 16 (sgK K N) (nI a)).2.1 4 12 = nI 0 := lc2.2.2.1.2.2.2.1
    have z6 : (hI h' 16 (sgK K N) (nI a)).2.1 14 6 = nI (sgK K N) := by
      show h'.2.1 14 6 = _
      rw [f.I 14 (by decide) (by decide) (by decide)]
      exact g6
    obtain ⟨u1, u2⟩ := x_tkName lc2 s2 n2 nv (s := 2) (by decide)
    have b1 : f_X8_readNames_j22 g 14 4 (c + 1) (nI 25) = f_X8_readNames_j61 (hI h' 16 (sgK K N) (nI a)) 14 4 (c + 1) (nI 25) := by simp (disch := first | assumption | omega | decide | ((repeat first | apply lyI | apply lyJ | apply lywI | apply lywJ | apply csI | apply csJ | apply cswI | apply cswJ); assumption)) only [f_X8_readNames_j22, SP14, SX, LI, ↓li_m1, nI_add, pk_mul, nn_sub, nn_m1, nn_div, nn_rem, nn_nz, nn_mod, nJ_l, lN_add, lN_mul, nn_tb1, nI_bt, nn_and, nn_or, nn_xor, nn_shr, nn_1shl, nn_31, il_p, il_n, it_p, it_n, ie_p, ie_n, ie_b, ie_b1, ie_m, ie_mm, it_m, it_m0, il_m0, bI_rZ, Option.bind_some, bd2_some, Nat.add_zero, Nat.zero_add, if_true, if_false, Bool.false_eq_true, eq_self, hI_R, hJ_R, ng_t, ng_e, g6, r]
    cases hb : nmO T n (i + 1 + 1) C V 2 with
    | none =>
      obtain ⟨k', r2, f3, l3⟩ := u2 hb
      have lk := l3.1
      have w12 : (hI k' 17 (sgK K N) m1).2.1 4 12 = nI (nmF T n (i + 1 + 1)) := l3.2.1
      have w0 : ¬ nI (nmF T n (i + 1 + 1)) = nI 0 := d_ne (by unfold nmF fkN; (repeat' split) <;> decide) (by decide) (by unfold nmF fkN; (repeat' split) <;> decide)
      have f4 : FR k' (hI k' 17 (sgK K N) m1) [17] [] [] [] := FR.hI (by decide) (by decide) (by decide)
      refine ⟨hI k' 17 (sgK K N) m1, ?_, ((fg.tr ff).tr (f3.mono (by decide) (by decide) (by decide) (by decide))).tr (f4.mono (by decide) (by decide) (by decide) (by decide)), fl_fr f4 (by decide) l3⟩
      have b2 : f_X8_readNames_j61 (hI h' 16 (sgK K N) (nI a)) 14 4 (c + 1) (nI 25) = f_X8_readNames_j89 (hI k' 17 (sgK K N) m1) 4 := by simp (disch := first | assumption | omega | decide | ((repeat first | apply lyI | apply lyJ | apply lywI | apply lywJ | apply csI | apply csJ | apply cswI | apply cswJ); assumption)) only [f_X8_readNames_j61, SP14, SX, LI, ↓li_m1, nI_add, pk_mul, nn_sub, nn_m1, nn_div, nn_rem, nn_nz, nn_mod, nJ_l, lN_add, lN_mul, nn_tb1, nI_bt, nn_and, nn_or, nn_xor, nn_shr, nn_1shl, nn_31, il_p, il_n, it_p, it_n, ie_p, ie_n, ie_b, ie_b1, ie_m, ie_mm, it_m, it_m0, il_m0, bI_rZ, Option.bind_some, bd2_some, Nat.add_zero, Nat.zero_add, if_true, if_false, Bool.false_eq_true, eq_self, hI_R, hJ_R, ng_t, ng_e, z12, z6, r2]
      have b3 : f_X8_readNames_j89 (hI k' 17 (sgK K N) m1) 4 = some (nI 0, hI k' 17 (sgK K N) m1) := by simp (disch := first | assumption | omega | decide | ((repeat first | apply lyI | apply lyJ | apply lywI | apply lywJ | apply csI | apply csJ | apply cswI | apply cswJ); assumption)) only [f_X8_readNames_j89, SX, LI, ↓li_m1, nI_add, pk_mul, nn_sub, nn_m1, nn_div, nn_rem, nn_nz, nn_mod, nJ_l, lN_add, lN_mul, nn_tb1, nI_bt, nn_and, nn_or, nn_xor, nn_shr, nn_1shl, nn_31, il_p, il_n, it_p, it_n, ie_p, ie_n, ie_b, ie_b1, ie_m, ie_mm, it_m, it_m0, il_m0, bI_rZ, Option.bind_some, bd2_some, Nat.add_zero, Nat.zero_add, if_true, if_false, Bool.false_eq_true, eq_self, hI_R, hJ_R, ng_t, ng_e, w12, if_neg w0]
      rw [a1, b1, b2, b3, bd2_some, if_pos rfl]
    | some b =>
      obtain ⟨k', r2, f3, l3⟩ := u1 b hb
      have lk := l3.1
      have f4 : FR k' (hI k' 17 (sgK K N) (nI b)) [17] [] [] [] := FR.hI (by decide) (by decide) (by decide)
      have lc4 := lc_fr f4 (by decide) (by decide) l3
      have w12 : (hI k' 17 (sgK K N) (nI b)).2.1 4 12 = nI 0 := lc4.2.2.1.2.2.2.1
      have fz : FR g (hI k' 17 (sgK K N) (nI b)) [4, 14, 15, 16, 17, 18, 19] [4] [] [] := (ff.tr (f3.mono (by decide) (by decide) (by decide) (by decide))).tr (f4.mono (by decide) (by decide) (by decide) (by decide))
      obtain ⟨s4, n4⟩ := cp_st14 fz sg ng
      have k1 : ∀ y, y ≠ 4 → y ≠ 0 → y ≠ 113 → k'.2.1 y = (hI h' 16 (sgK K N) (nI a)).2.1 y := fun y h1 h2 h3 => f3.I y (by simpa using h1) h2 h3
      have k2 : ∀ y, y ≠ 4 → y ≠ 0 → y ≠ 113 → h'.2.1 y = g.2.1 y := fun y h1 h2 h3 => f.I y (by simpa using h1) h2 h3
      have sb2 : SB h (hI k' 17 (sgK K N) (nI b)) 14 (sgK K N) := fun x hx => by
        obtain ⟨t1, t2, t3, t4⟩ := sb x hx
        refine ⟨?_, ?_, ?_, ?_⟩
        · show k'.2.1 15 x = _
          rw [k1 15 (by decide) (by decide) (by decide)]
          show h'.2.1 15 x = _
          rw [k2 15 (by decide) (by decide) (by decide)]
          exact t1
        · show k'.2.1 16 x = _
          rw [k1 16 (by decide) (by decide) (by decide), rI_nk (by omega), k2 16 (by decide) (by decide) (by decide)]
          exact t2
        · show (hI k' 17 (sgK K N) (nI b)).2.1 17 x = _
          rw [rI_nk (by omega), k1 17 (by decide) (by decide) (by decide)]
          show h'.2.1 17 x = _
          rw [k2 17 (by decide) (by decide) (by decide)]
          exact t3
        · show k'.2.1 18 x = _
          rw [k1 18 (by decide) (by decide) (by decide)]
          show h'.2.1 18 x = _
          rw [k2 18 (by decide) (by decide) (by decide)]
          exact t4
      have gp' : (hI k' 17 (sgK K N) (nI b)).2.1 14 = h.2.1 14 := by
        show k'.2.1 14 = _
        rw [k1 14 (by decide) (by decide) (by decide)]
        show h'.2.1 14 = _
        rw [k2 14 (by decide) (by decide) (by decide)]
        exact gp
      have g5' : (hI k' 17 (sgK K N) (nI b)).2.1 19 = h.2.1 19 := by
        show k'.2.1 19 = _
        rw [k1 19 (by decide) (by decide) (by decide)]
        show h'.2.1 19 = _
        rw [k2 19 (by decide) (by decide) (by decide)]
        exact g5
      have e1 := rw_sg1 (K := K) (N := N) (a := 17) (b := a) (c := b) (d := 0) (by decide)
      have fin := x_semi14 (fg.tr fz) lc4 s4 n4 (K' := rwK K N 17 a b 0) (N := N) (dp' := dp) (op' := op) (by omega) (pc_up pc pv sb2 (by decide) (by
        show k'.2.1 15 _ = _
        rw [k1 15 (by decide) (by decide) (by decide)]
        show h'.2.1 15 _ = _
        rw [k2 15 (by decide) (by decide) (by decide)]
        exact gw) (fun _ _ => by
        show k'.2.1 16 _ = _
        rw [k1 16 (by decide) (by decide) (by decide), rI_eq]) (fun e => absurd e (by decide)) (fun _ => rI_eq)) (po_up po pv (by rw [gp']) (by rw [gp']) g5') (by rw [gp', e1, Nat.add_sub_cancel]; exact pc.1) (by omega)
      have hn : f_X8_readNames g 14 4 (c + 1) = some (nI 1, hI k' 17 (sgK K N) (nI b)) := by
        have b2 : f_X8_readNames_j61 (hI h' 16 (sgK K N) (nI a)) 14 4 (c + 1) (nI 25) = f_X8_readNames_j89 (hI k' 17 (sgK K N) (nI b)) 4 := by simp (disch := first | assumption | omega | decide | ((repeat first | apply lyI | apply lyJ | apply lywI | apply lywJ | apply csI | apply csJ | apply cswI | apply cswJ); assumption)) only [f_X8_readNames_j61, SP14, SX, LI, ↓li_m1, nI_add, pk_mul, nn_sub, nn_m1, nn_div, nn_rem, nn_nz, nn_mod, nJ_l, lN_add, lN_mul, nn_tb1, nI_bt, nn_and, nn_or, nn_xor, nn_shr, nn_1shl, nn_31, il_p, il_n, it_p, it_n, ie_p, ie_n, ie_b, ie_b1, ie_m, ie_mm, it_m, it_m0, il_m0, bI_rZ, Option.bind_some, bd2_some, Nat.add_zero, Nat.zero_add, if_true, if_false, Bool.false_eq_true, eq_self, hI_R, hJ_R, ng_t, ng_e, z12, z6, r2]
        have b3 : f_X8_readNames_j89 (hI k' 17 (sgK K N) (nI b)) 4 = some (nI 1, hI k' 17 (sgK K N) (nI b)) := by simp (disch := first | assumption | omega | decide | ((repeat first | apply lyI | apply lyJ | apply lywI | apply lywJ | apply csI | apply csJ | apply cswI | apply cswJ); assumption)) only [f_X8_readNames_j89, SX, LI, ↓li_m1, nI_add, pk_mul, nn_sub, nn_m1, nn_div, nn_rem, nn_nz, nn_mod, nJ_l, lN_add, lN_mul, nn_tb1, nI_bt, nn_and, nn_or, nn_xor, nn_shr, nn_1shl, nn_31, il_p, il_n, it_p, it_n, ie_p, ie_n, ie_b, ie_b1, ie_m, ie_mm, it_m, it_m0, il_m0, bI_rZ, Option.bind_some, bd2_some, Nat.add_zero, Nat.zero_add, if_true, if_false, Bool.false_eq_true, eq_self, hI_R, hJ_R, ng_t, ng_e, w12]
        rw [a1, b1, b2, b3]
      rw [hn, bd2_some, if_neg (by decide)]
      exact fin
/-- a step's word, then what belongs to it -/
theorem x_head20 {h0 h : aH} {c : Nat} {T : Nat → Nat} {n m i : Nat} {C : Nat → Nat} {V : Nat → List Nat} {K : Nat → Nat → Nat} {N dp : Nat} {op : Nat → Nat} (mc : MCp h0 h 20 c T n m i C V K N dp op) (pv : PVp C K N dp op) (t1 : 25 ≤ tcI T n i) (t2 : tcI T n i ≤ 29) (s30 : sgK K N < 30) (td : tcI T n i = 29 → dp < 3) : ∃ g, (FR h0 g [4, 20, 21, 22, 23, 24, 25] [4] [] [] ∧ LC g T n m (i + 1) ∧ CS g c ∧ NCl g c C V ∧ SB h g 20 (sgK K N) ∧ g.2.1 20 = h.2.1 20 ∧ g.2.1 25 = h.2.1 25 ∧ g.2.1 21 (sgK K N) = nI (tcI T n i)) ∧ f_X8_readStep h 20 4 (c + 1) = if nI (tcI T n i) = nI 29 then bd2 (f_X8_readTest g 20 4 (c + 1)) fun t12 h13 => if t12 = nI 0 then some (nI 0, h13) else f_X8_readStep_j103 h13 20 4 else bd2 (f_X8_readNames g 20 4 (c + 1)) fun t10 h11 => if t10 = nI 0 then some (nI 0, h11) else f_X8_readStep_j103 h11 20 4 := by
  obtain ⟨hf, lc, hs, nc, pc, po⟩ := mc
  obtain ⟨hl, lx, ⟨e9, e10, e11, e12, e13, e6⟩, hi⟩ := id lc
  have p6 : h.2.1 20 6 = nI (sgK K N) := pc.1
  have p5 : h.2.1 20 5 = nI dp := po.1
  have d3 := pv.2.1
  obtain ⟨h6, r, f, l⟩ := x_adv lc (lc_lt lc (by omega))
  have l6 := l.1
  have q6 : h6.2.1 20 6 = nI (sgK K N) := by rw [f.I 20 (by decide) (by decide) (by decide)]; exact p6
  let g := hI h6 21 (sgK K N) (nI (tcI T n i))
  have lg : LAY g := l6
  have f6 : FR h h6 [4, 20, 21, 22, 23, 24, 25] [4] [] [] := f.mono (by decide) (by decide) (by decide) (by decide)
  have fg : FR h g [4, 20, 21, 22, 23, 24, 25] [4] [] [] := f6.tr (FR.hI (by decide) (by decide) (by decide))
  have f2 : FR h6 g [21] [] [] [] := FR.hI (by decide) (by decide) (by decide)
  obtain ⟨hsg, ncg⟩ := cp_st20 fg hs nc
  refine ⟨g, ⟨hf.tr fg, lc_fr f2 (by decide) (by decide) l, hsg, ncg, fun x hx => ⟨?_, ?_, ?_, ?_⟩, ?_, ?_, rI_eq⟩, ?_⟩
  · show (hI h6 21 (sgK K N) _).2.1 21 x = h.2.1 21 x
    rw [rI_nk (by omega), f.I 21 (by decide) (by decide) (by decide)]
  · show h6.2.1 22 x = h.2.1 22 x
    rw [f.I 22 (by decide) (by decide) (by decide)]
  · show h6.2.1 23 x = h.2.1 23 x
    rw [f.I 23 (by decide) (by decide) (by decide)]
  · show h6.2.1 24 x = h.2.1 24 x
    rw [f.I 24 (by decide) (by decide) (by decide)]
  · show h6.2.1 20 = h.2.1 20
    exact f.I 20 (by decide) (by decide) (by decide)
  · show h6.2.1 25 = h.2.1 25
    exact f.I 25 (by decide) (by decide) (by decide)
  · have hd : f_X8_readStep h 20 4 (c + 1) = f_X8_readStep_j60 h 20 4 (c + 1) (nI (tcI T n i)) := by
      by_cases h29 : tcI T n i = 29
      · have := td h29
        rw [h29] at e10 ⊢
        simp (disch := first | assumption | omega | decide | ((repeat first | apply lyI | apply lyJ | apply lywI | apply lywJ | apply csI | apply csJ | apply cswI | apply cswJ); assumption)) only [f_X8_readStep, SP20, SX, LI, ↓li_m1, nI_add, pk_mul, nn_sub, nn_m1, nn_div, nn_rem, nn_nz, nn_mod, nJ_l, lN_add, lN_mul, nn_tb1, nI_bt, nn_and, nn_or, nn_xor, nn_shr, nn_1shl, nn_31, il_p, il_n, it_p, it_n, ie_p, ie_n, ie_b, ie_b1, ie_m, ie_mm, it_m, it_m0, il_m0, bI_rZ, Option.bind_some, bd2_some, Nat.add_zero, Nat.zero_add, if_true, if_false, Bool.false_eq_true, eq_self, hI_R, hJ_R, ng_t, ng_e, e10, p6, p5]
      · simp (disch := first | assumption | omega | decide | ((repeat first | apply lyI | apply lyJ | apply lywI | apply lywJ | apply csI | apply csJ | apply cswI | apply cswJ); assumption)) only [f_X8_readStep, SP20, SX, LI, ↓li_m1, nI_add, pk_mul, nn_sub, nn_m1, nn_div, nn_rem, nn_nz, nn_mod, nJ_l, lN_add, lN_mul, nn_tb1, nI_bt, nn_and, nn_or, nn_xor, nn_shr, nn_1shl, nn_31, il_p, il_n, it_p, it_n, ie_p, ie_n, ie_b, ie_b1, ie_m, ie_mm, it_m, it_m0, il_m0, bI_rZ, Option.bind_some, bd2_some, Nat.add_zero, Nat.zero_add, if_true, if_false, Bool.false_eq_true, eq_self, hI_R, hJ_R, ng_t, ng_e, e10, p6, p5]
    rw [hd]
    simp (disch := first | assumption | omega | decide | ((repeat first | apply lyI | apply lyJ | apply lywI | apply lywJ | apply csI | apply csJ | apply cswI | apply cswJ); assumption)) only [f_X8_readStep_j60, SP20, SX, LI, ↓li_m1, nI_add, pk_mul, nn_sub, nn_m1, nn_div, nn_rem, nn_nz, nn_mod, nJ_l, lN_add, lN_mul, nn_tb1, nI_bt, nn_and, nn_or, nn_xor, nn_shr, nn_1shl, nn_31, il_p, il_n, it_p, it_n, ie_p, ie_n, ie_b, ie_b1, ie_m, ie_mm, it_m, it_m0, il_m0, bI_rZ, Option.bind_some, bd2_some, Nat.add_zero, Nat.zero_add, if_true, if_false, Bool.false_eq_true, eq_self, hI_R, hJ_R, ng_t, ng_e, r, q6]
    rfl
/-- ask -/
theorem x_ask20 {h0 h : aH} {c : Nat} {T : Nat → Nat} {n m i : Nat} {C : Nat → Nat} {V : Nat → List Nat} {K : Nat → Nat → Nat} {N dp : Nat} {op : Nat → Nat} (mc : MCp h0 h 20 c T n m i C V K N dp op) (pv : PVp C K N dp op) (nv : NV C V) (t : tcI T n i = 25) (s30 : sgK K N < 30) : OCp h0 20 c T n m C V N (f_X8_readStep h 20 4 (c + 1)) (pStep T n i C V K N dp op) := by
  obtain ⟨g, ⟨fg, lg, sg, ng, sb, gp, g5, gw⟩, hd⟩ := x_head20 mc pv (by omega) (by omega) s30 (by omega)
  obtain ⟨hf, lc, hs, nc, pc, po⟩ := mc
  have ll := lg.1
  have g6 : g.2.1 20 6 = nI (sgK K N) := by rw [gp]; exact pc.1
  have ep : pStep T n i C V K N dp op = (match nmO T n (i + 1) C V 3 with
    | none => .inl (nmF T n (i + 1), frI T n (i + 1))
    | some a => match nmO T n (i + 2) C V 2 with
      | none => .inl (nmF T n (i + 2), frI T n (i + 2))
      | some b => smS T n (i + 3) (rwK K N 17 a b 0) dp op) := by
    unfold pStep
    rw [if_neg (by omega), if_neg (by omega), if_neg (by omega), if_pos t]
    rfl
  rw [hd, ep, if_neg (d_ne (by rw [t]; decide) (by decide) (by omega))]
  rw [t] at gw
  have a1 : f_X8_readNames g 20 4 (c + 1) = f_X8_readNames_j22 g 20 4 (c + 1) (nI 25) := by simp (disch := first | assumption | omega | decide | ((repeat first | apply lyI | apply lyJ | apply lywI | apply lywJ | apply csI | apply csJ | apply cswI | apply cswJ); assumption)) only [f_X8_readNames, SP20, LI, ↓li_m1, nI_add, pk_mul, nn_sub, nn_m1, nn_div, nn_rem, nn_nz, nn_mod, nJ_l, lN_add, lN_mul, nn_tb1, nI_bt, nn_and, nn_or, nn_xor, nn_shr, nn_1shl, nn_31, il_p, il_n, it_p, it_n, ie_p, ie_n, ie_b, ie_b1, ie_m, ie_mm, it_m, it_m0, il_m0, bI_rZ, Option.bind_some, bd2_some, Nat.add_zero, Nat.zero_add, if_true, if_false, Bool.false_eq_true, eq_self, hI_R, hJ_R, ng_t, ng_e, g6, gw]
  obtain ⟨y1, y2⟩ := x_tkName lg sg ng nv (s := 3) (by decide)
  cases ha : nmO T n (i + 1) C V 3 with
  | none =>
    obtain ⟨h', r, f, l⟩ := y2 ha
    have l' := l.1
    have w12 : (hI h' 22 (sgK K N) m1).2.1 4 12 = nI (nmF T n (i + 1)) := l.2.1
    have w0 : ¬ nI (nmF T n (i + 1)) = nI 0 := d_ne (by unfold nmF fkN; (repeat' split) <;> decide) (by decide) (by unfold nmF fkN; (repeat' split) <;> decide)
    have f2 : FR h' (hI h' 22 (sgK K N) m1) [22] [] [] [] := FR.hI (by decide) (by decide) (by decide)
    refine ⟨hI h' 22 (sgK K N) m1, ?_, (fg.tr (f.mono (by decide) (by decide) (by decide) (by decide))).tr (f2.mono (by decide) (by decide) (by decide) (by decide)), fl_fr f2 (by decide) l⟩
    have b1 : f_X8_readNames_j22 g 20 4 (c + 1) (nI 25) = f_X8_readNames_j61 (hI h' 22 (sgK K N) m1) 20 4 (c + 1) (nI 25) := by simp (disch := first | assumption | omega | decide | ((repeat first | apply lyI | apply lyJ | apply lywI | apply lywJ | apply csI | apply csJ | apply cswI | apply cswJ); assumption)) only [f_X8_readNames_j22, SP20, SX, LI, ↓li_m1, nI_add, pk_mul, nn_sub, nn_m1, nn_div, nn_rem, nn_nz, nn_mod, nJ_l, lN_add, lN_mul, nn_tb1, nI_bt, nn_and, nn_or, nn_xor, nn_shr, nn_1shl, nn_31, il_p, il_n, it_p, it_n, ie_p, ie_n, ie_b, ie_b1, ie_m, ie_mm, it_m, it_m0, il_m0, bI_rZ, Option.bind_some, bd2_some, Nat.add_zero, Nat.zero_add, if_true, if_false, Bool.false_eq_true, eq_self, hI_R, hJ_R, ng_t, ng_e, g6, r]
    have b2 : f_X8_readNames_j61 (hI h' 22 (sgK K N) m1) 20 4 (c + 1) (nI 25) = some (nI 0, hI h' 22 (sgK K N) m1) := by simp (disch := first | assumption | omega | decide | ((repeat first | apply lyI | apply lyJ | apply lywI | apply lywJ | apply csI | apply csJ | apply cswI | apply cswJ); assumption)) only [f_X8_readNames_j61, f_X8_readNames_j89, SX, LI, ↓li_m1, nI_add, pk_mul, nn_sub, nn_m1, nn_div, nn_rem, nn_nz, nn_mod, nJ_l, lN_add, lN_mul, nn_tb1, nI_bt, nn_and, nn_or, nn_xor, nn_shr, nn_1shl, nn_31, il_p, il_n, it_p, it_n, ie_p, ie_n, ie_b, ie_b1, ie_m, ie_mm, it_m, it_m0, il_m0, bI_rZ, Option.bind_some, bd2_some, Nat.add_zero, Nat.zero_add, if_true, if_false, Bool.false_eq_true, eq_self, hI_R, hJ_R, ng_t, ng_e, w12, if_neg w0]
    rw [a1, b1, b2, bd2_some, if_pos rfl]
  | some a =>
    obtain ⟨h', r, f, l⟩ := y1 a ha
    have l' := l.1
    have f2 : FR h' (hI h' 22 (sgK K N) (nI a)) [22] [] [] [] := FR.hI (by decide) (by decide) (by decide)
    have lc2 := lc_fr f2 (by decide) (by decide) l
    have ff : FR g (hI h' 22 (sgK K N) (nI a)) [4, 20, 21, 22, 23, 24, 25] [4] [] [] := (f.mono (by decide) (by decide) (by decide) (by decide)).tr (f2.mono (by decide) (by decide) (by decide) (by decide))
    obtain ⟨s2, n2⟩ := cp_st20 ff sg ng
    have z12 : (hI h' 22 (sgK K N) (nI a)).2.1 4 12 = nI 0 := lc2.2.2.1.2.2.2.1
    have z6 : (hI h' 22 (sgK K N) (nI a)).2.1 20 6 = nI (sgK K N) := by
      show h'.2.1 20 6 = _
      rw [f.I 20 (by decide) (by decide) (by decide)]
      exact g6
    obtain ⟨u1, u2⟩ := x_tkName lc2 s2 n2 nv (s := 2) (by decide)
    have b1 : f_X8_readNames_j22 g 20 4 (c + 1) (nI 25) = f_X8_readNames_j61 (hI h' 22 (sgK K N) (nI a)) 20 4 (c + 1) (nI 25) := by simp (disch := first | assumption | omega | decide | ((repeat first | apply lyI | apply lyJ | apply lywI | apply lywJ | apply csI | apply csJ | apply cswI | apply cswJ); assumption)) only [f_X8_readNames_j22, SP20, SX, LI, ↓li_m1, nI_add, pk_mul, nn_sub, nn_m1, nn_div, nn_rem, nn_nz, nn_mod, nJ_l, lN_add, lN_mul, nn_tb1, nI_bt, nn_and, nn_or, nn_xor, nn_shr, nn_1shl, nn_31, il_p, il_n, it_p, it_n, ie_p, ie_n, ie_b, ie_b1, ie_m, ie_mm, it_m, it_m0, il_m0, bI_rZ, Option.bind_some, bd2_some, Nat.add_zero, Nat.zero_add, if_true, if_false, Bool.false_eq_true, eq_self, hI_R, hJ_R, ng_t, ng_e, g6, r]
    cases hb : nmO T n (i + 1 + 1) C V 2 with
    | none =>
      obtain ⟨k', r2, f3, l3⟩ := u2 hb
      have lk := l3.1
      have w12 : (hI k' 23 (sgK K N) m1).2.1 4 12 = nI (nmF T n (i + 1 + 1)) := l3.2.1
      have w0 : ¬ nI (nmF T n (i + 1 + 1)) = nI 0 := d_ne (by unfold nmF fkN; (repeat' split) <;> decide) (by decide) (by unfold nmF fkN; (repeat' split) <;> decide)
      have f4 : FR k' (hI k' 23 (sgK K N) m1) [23] [] [] [] := FR.hI (by decide) (by decide) (by decide)
      refine ⟨hI k' 23 (sgK K N) m1, ?_, ((fg.tr ff).tr (f3.mono (by decide) (by decide) (by decide) (by decide))).tr (f4.mono (by decide) (by decide) (by decide) (by decide)), fl_fr f4 (by decide) l3⟩
      have b2 : f_X8_readNames_j61 (hI h' 22 (sgK K N) (nI a)) 20 4 (c + 1) (nI 25) = f_X8_readNames_j89 (hI k' 23 (sgK K N) m1) 4 := by simp (disch := first | assumption | omega | decide | ((repeat first | apply lyI | apply lyJ | apply lywI | apply lywJ | apply csI | apply csJ | apply cswI | apply cswJ); assumption)) only [f_X8_readNames_j61, SP20, SX, LI, ↓li_m1, nI_add, pk_mul, nn_sub, nn_m1, nn_div, nn_rem, nn_nz, nn_mod, nJ_l, lN_add, lN_mul, nn_tb1, nI_bt, nn_and, nn_or, nn_xor, nn_shr, nn_1shl, nn_31, il_p, il_n, it_p, it_n, ie_p, ie_n, ie_b, ie_b1, ie_m, ie_mm, it_m, it_m0, il_m0, bI_rZ, Option.bind_some, bd2_some, Nat.add_zero, Nat.zero_add, if_true, if_false, Bool.false_eq_true, eq_self, hI_R, hJ_R, ng_t, ng_e, z12, z6, r2]
      have b3 : f_X8_readNames_j89 (hI k' 23 (sgK K N) m1) 4 = some (nI 0, hI k' 23 (sgK K N) m1) := by simp (disch := first | assumption | omega | decide | ((repeat first | apply lyI | apply lyJ | apply lywI | apply lywJ | apply csI | apply csJ | apply cswI | apply cswJ); assumption)) only [f_X8_readNames_j89, SX, LI, ↓li_m1, nI_add, pk_mul, nn_sub, nn_m1, nn_div, nn_rem, nn_nz, nn_mod, nJ_l, lN_add, lN_mul, nn_tb1, nI_bt, nn_and, nn_or, nn_xor, nn_shr, nn_1shl, nn_31, il_p, il_n, it_p, it_n, ie_p, ie_n, ie_b, ie_b1, ie_m, ie_mm, it_m, it_m0, il_m0, bI_rZ, Option.bind_some, bd2_some, Nat.add_zero, Nat.zero_add, if_true, if_false, Bool.false_eq_true, eq_self, hI_R, hJ_R, ng_t, ng_e, w12, if_neg w0]
      rw [a1, b1, b2, b3, bd2_some, if_pos rfl]
    | some b =>
      obtain ⟨k', r2, f3, l3⟩ := u1 b hb
      have lk := l3.1
      have f4 : FR k' (hI k' 23 (sgK K N) (nI b)) [23] [] [] [] := FR.hI (by decide) (by decide) (by decide)
      have lc4 := lc_fr f4 (by decide) (by decide) l3
      have w12 : (hI k' 23 (sgK K N) (nI b)).2.1 4 12 = nI 0 := lc4.2.2.1.2.2.2.1
      have fz : FR g (hI k' 23 (sgK K N) (nI b)) [4, 20, 21, 22, 23, 24, 25] [4] [] [] := (ff.tr (f3.mono (by decide) (by decide) (by decide) (by decide))).tr (f4.mono (by decide) (by decide) (by decide) (by decide))
      obtain ⟨s4, n4⟩ := cp_st20 fz sg ng
      have k1 : ∀ y, y ≠ 4 → y ≠ 0 → y ≠ 113 → k'.2.1 y = (hI h' 22 (sgK K N) (nI a)).2.1 y := fun y h1 h2 h3 => f3.I y (by simpa using h1) h2 h3
      have k2 : ∀ y, y ≠ 4 → y ≠ 0 → y ≠ 113 → h'.2.1 y = g.2.1 y := fun y h1 h2 h3 => f.I y (by simpa using h1) h2 h3
      have sb2 : SB h (hI k' 23 (sgK K N) (nI b)) 20 (sgK K N) := fun x hx => by
        obtain ⟨t1, t2, t3, t4⟩ := sb x hx
        refine ⟨?_, ?_, ?_, ?_⟩
        · show k'.2.1 21 x = _
          rw [k1 21 (by decide) (by decide) (by decide)]
          show h'.2.1 21 x = _
          rw [k2 21 (by decide) (by decide) (by decide)]
          exact t1
        · show k'.2.1 22 x = _
          rw [k1 22 (by decide) (by decide) (by decide), rI_nk (by omega), k2 22 (by decide) (by decide) (by decide)]
          exact t2
        · show (hI k' 23 (sgK K N) (nI b)).2.1 23 x = _
          rw [rI_nk (by omega), k1 23 (by decide) (by decide) (by decide)]
          show h'.2.1 23 x = _
          rw [k2 23 (by decide) (by decide) (by decide)]
          exact t3
        · show k'.2.1 24 x = _
          rw [k1 24 (by decide) (by decide) (by decide)]
          show h'.2.1 24 x = _
          rw [k2 24 (by decide) (by decide) (by decide)]
          exact t4
      have gp' : (hI k' 23 (sgK K N) (nI b)).2.1 20 = h.2.1 20 := by
        show k'.2.1 20 = _
        rw [k1 20 (by decide) (by decide) (by decide)]
        show h'.2.1 20 = _
        rw [k2 20 (by decide) (by decide) (by decide)]
        exact gp
      have g5' : (hI k' 23 (sgK K N) (nI b)).2.1 25 = h.2.1 25 := by
        show k'.2.1 25 = _
        rw [k1 25 (by decide) (by decide) (by decide)]
        show h'.2.1 25 = _
        rw [k2 25 (by decide) (by decide) (by decide)]
        exact g5
      have e1 := rw_sg1 (K := K) (N := N) (a := 17) (b := a) (c := b) (d := 0) (by decide)
      have fin := x_semi20 (fg.tr fz) lc4 s4 n4 (K' := rwK K N 17 a b 0) (N := N) (dp' := dp) (op' := op) (by omega) (pc_up pc pv sb2 (by decide) (by
        show k'.2.1 21 _ = _
        rw [k1 21 (by decide) (by decide) (by decide)]
        show h'.2.1 21 _ = _
        rw [k2 21 (by decide) (by decide) (by decide)]
        exact gw) (fun _ _ => by
        show k'.2.1 22 _ = _
        rw [k1 22 (by decide) (by decide) (by decide), rI_eq]) (fun e => absurd e (by decide)) (fun _ => rI_eq)) (po_up po pv (by rw [gp']) (by rw [gp']) g5') (by rw [gp', e1, Nat.add_sub_cancel]; exact pc.1) (by omega)
      have hn : f_X8_readNames g 20 4 (c + 1) = some (nI 1, hI k' 23 (sgK K N) (nI b)) := by
        have b2 : f_X8_readNames_j61 (hI h' 22 (sgK K N) (nI a)) 20 4 (c + 1) (nI 25) = f_X8_readNames_j89 (hI k' 23 (sgK K N) (nI b)) 4 := by simp (disch := first | assumption | omega | decide | ((repeat first | apply lyI | apply lyJ | apply lywI | apply lywJ | apply csI | apply csJ | apply cswI | apply cswJ); assumption)) only [f_X8_readNames_j61, SP20, SX, LI, ↓li_m1, nI_add, pk_mul, nn_sub, nn_m1, nn_div, nn_rem, nn_nz, nn_mod, nJ_l, lN_add, lN_mul, nn_tb1, nI_bt, nn_and, nn_or, nn_xor, nn_shr, nn_1shl, nn_31, il_p, il_n, it_p, it_n, ie_p, ie_n, ie_b, ie_b1, ie_m, ie_mm, it_m, it_m0, il_m0, bI_rZ, Option.bind_some, bd2_some, Nat.add_zero, Nat.zero_add, if_true, if_false, Bool.false_eq_true, eq_self, hI_R, hJ_R, ng_t, ng_e, z12, z6, r2]
        have b3 : f_X8_readNames_j89 (hI k' 23 (sgK K N) (nI b)) 4 = some (nI 1, hI k' 23 (sgK K N) (nI b)) := by simp (disch := first | assumption | omega | decide | ((repeat first | apply lyI | apply lyJ | apply lywI | apply lywJ | apply csI | apply csJ | apply cswI | apply cswJ); assumption)) only [f_X8_readNames_j89, SX, LI, ↓li_m1, nI_add, pk_mul, nn_sub, nn_m1, nn_div, nn_rem, nn_nz, nn_mod, nJ_l, lN_add, lN_mul, nn_tb1, nI_bt, nn_and, nn_or, nn_xor, nn_shr, nn_1shl, nn_31, il_p, il_n, it_p, it_n, ie_p, ie_n, ie_b, ie_b1, ie_m, ie_mm, it_m, it_m0, il_m0, bI_rZ, Option.bind_some, bd2_some, Nat.add_zero, Nat.zero_add, if_true, if_false, Bool.false_eq_true, eq_self, hI_R, hJ_R, ng_t, ng_e, w12]
        rw [a1, b1, b2, b3]
      rw [hn, bd2_some, if_neg (by decide)]
      exact fin
