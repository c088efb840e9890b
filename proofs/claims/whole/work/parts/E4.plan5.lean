/-! ===== plans: when and end, in the class ===== -/
theorem wk_t {t : Nat} (h : t < 100) : wkN (2092 + t) = t := by
  unfold wkN
  rw [if_neg (by omega)]
  omega
theorem po_when {h g : aH} {p : Nat} {C : Nat → Nat} {K : Nat → Nat → Nat} {N dp : Nat} {op : Nat → Nat} (po : POp h p K dp op) (pv : PVp C K N dp op) (e5 : g.2.1 p 5 = nI (dp + 1)) (e7 : g.2.1 p 7 = h.2.1 p 7) (ed : g.2.1 (p + 5) dp = nI (sgK K N)) (eo : ∀ e, e < dp → g.2.1 (p + 5) e = h.2.1 (p + 5) e) {a b c : Nat} : POp g p (rwK K N a b c 0) (dp + 1) (adO op dp N) := by
  refine ⟨e5, e7.trans po.2.1, fun e he => ?_⟩
  by_cases hd : e = dp
  · subst hd
    rw [ed, show adO op e N e = N from if_pos rfl, rw_sg (Nat.le_refl N)]
  · have h1 : e < dp := by omega
    have := (pv.2.2.2.2 e h1).1
    rw [eo e h1, show adO op dp N e = op e from if_neg hd, rw_sg (by omega)]
    exact po.2.2 e h1
theorem cl_row {K : Nat → Nat → Nat} {N r x : Nat} (h1 : x ≠ N) (h2 : x ≠ r) : clK K N r x = K x := by
  funext j
  unfold clK
  rw [if_neg (fun e => h2 e.1), rw_lt h1]
theorem cl_0 {K : Nat → Nat → Nat} {N r x : Nat} (h1 : x ≠ N) : clK K N r x 0 = K x 0 ∧ clK K N r x 1 = K x 1 ∧ clK K N r x 2 = K x 2 := by
  unfold clK
  rw [if_neg (fun e => absurd e.2 (by decide)), if_neg (fun e => absurd e.2 (by decide)), if_neg (fun e => absurd e.2 (by decide)), rw_lt h1]
  exact ⟨rfl, rfl, rfl⟩
theorem cl_3 {K : Nat → Nat → Nat} {N r : Nat} : clK K N r r 3 = N := if_pos ⟨rfl, rfl⟩
theorem cl_N {K : Nat → Nat → Nat} {N r : Nat} (h : r < N) : clK K N r N = rwK K N 26 0 0 0 N := by
  funext j
  unfold clK
  rw [if_neg (fun e => by omega)]
theorem cl_sg {K : Nat → Nat → Nat} {N r : Nat} : ∀ x, x ≤ N → sgK (clK K N r) x = sgK K x := sg_c2 (fun y hy => (cl_0 (by omega)).1)
theorem cl_cl {K : Nat → Nat → Nat} {N r x : Nat} (h1 : x ≠ N) : clB (clK K N r) x = clB K x := cl_c (cl_0 h1).1
theorem cl_clN {K : Nat → Nat → Nat} {N r : Nat} (h : r < N) : clB (clK K N r) N = true := by
  unfold clB
  rw [cl_N h, rw_N.1]
  rfl
theorem cl_sg1 {K : Nat → Nat → Nat} {N r : Nat} (h : r < N) : sgK (clK K N r) (N + 1) = sgK K N := by rw [sg_f (cl_clN h), cl_sg N (Nat.le_refl N)]
theorem sgk_inj {K : Nat → Nat → Nat} {r s : Nat} (h1 : clB K r = false) (h2 : clB K s = false) (e : sgK K r = sgK K s) : r = s := by
  rcases Nat.lt_trichotomy r s with q | q | q
  · have := sgk_lt q h1
    omega
  · exact q
  · have := sgk_lt q h2
    omega
theorem pc_end {h g : aH} {p : Nat} {C : Nat → Nat} {K : Nat → Nat → Nat} {N dp : Nat} {op : Nat → Nat} (pc : PCp h p K N) (pv : PVp C K N dp op) {r0 : Nat} (hr0 : r0 < N) (hc0 : clB K r0 = false) (e6 : g.2.1 p 6 = h.2.1 p 6) (e1 : g.2.1 (p + 1) = h.2.1 (p + 1)) (e2 : g.2.1 (p + 2) = h.2.1 (p + 2)) (e3 : g.2.1 (p + 3) = h.2.1 (p + 3)) (e4 : g.2.1 (p + 4) (sgK K r0) = nI (sgK K N)) (e4' : ∀ x, x ≠ sgK K r0 → g.2.1 (p + 4) x = h.2.1 (p + 4) x) : PCp g p (clK K N r0) (N + 1) := by
  refine ⟨by rw [cl_sg1 hr0, e6]; exact pc.1, fun r hr hcl => ?_⟩
  rcases Nat.lt_or_ge r N with u | u
  · have rN : r ≠ N := by omega
    rw [cl_cl rN] at hcl
    obtain ⟨q1, q2, q3, q4, q5⟩ := pc.2 r u hcl
    obtain ⟨z0, z1, z2⟩ := cl_0 (K := K) (N := N) (r := r0) rN
    rw [cl_sg r (by omega), z0, z1, z2, e1, e2, e3]
    refine ⟨q1, q2, q3, q4, fun h1 h2 => ?_⟩
    by_cases hr0' : r = r0
    · subst hr0'
      rw [cl_3, cl_sg N (Nat.le_refl N)]
      exact e4
    · rw [cl_row rN hr0'] at h2 ⊢
      have k3 : K r 3 ≤ N := by
        rcases pv.2.2.2.1 r u hcl with ⟨e, -⟩ | ⟨e, -⟩ | e | ⟨e, -⟩ | ⟨x, x4, e, -, -, ⟨e2, -, -, e3⟩ | ⟨e3, e4, -⟩⟩ <;> omega
      rw [cl_sg _ k3, e4' _ (fun e => hr0' (sgk_inj hcl hc0 e))]
      exact q5 h1 h2
  · obtain rfl : r = N := by omega
    rw [cl_clN hr0] at hcl
    cases hcl
theorem x_when14 {h0 h : aH} {c : Nat} {T : Nat → Nat} {n m i : Nat} {C : Nat → Nat} {V : Nat → List Nat} {K : Nat → Nat → Nat} {N dp : Nat} {op : Nat → Nat} (mc : MCp h0 h 14 c T n m i C V K N dp op) (pv : PVp C K N dp op) (nv : NV C V) (t : tcI T n i = 29) (s30 : sgK K N < 30) (d3 : dp < 3) : OCp h0 14 c T n m C V N (f_X8_readStep h 14 4 (c + 1)) (pStep T n i C V K N dp op) := by
  obtain ⟨g, ⟨fg, lg, sg, ng, sb, gp, g5, gw⟩, hd⟩ := x_head14 mc pv (by omega) (by omega) s30 (fun _ => d3)
  obtain ⟨hf, lc, hs, nc, pc, po⟩ := mc
  have ll := lg.1
  have g6 : g.2.1 14 6 = nI (sgK K N) := by rw [gp]; exact pc.1
  have gd : g.2.1 14 5 = nI dp := by rw [gp]; exact po.1
  have gt : g.2.1 4 10 = nI (tcI T n (i + 1)) := lg.2.2.1.2.1
  have tl := tc_le (T := T) (n := n) (i := i + 1)
  have ep0 : pStep T n i C V K N dp op = (if tcI T n (i + 1) < 30 ∨ 33 < tcI T n (i + 1) then .inl (fkN T n (i + 1) 2, frI T n (i + 1))
  else if tcI T n (i + 1) = 33 then (if tcI T n (i + 2) = 2 ∧ 0 ≤ nuI T n (i + 2) ∧ nuI T n (i + 2) ≤ 256 then smS T n (i + 3) (rwK K N 2125 (nuI T n (i + 2)) 0 0) (dp + 1) (adO op dp N) else .inl (fkN T n (i + 2) (if tcI T n (i + 2) = 2 then 4 else 2), frI T n (i + 2)))
  else (match nmO T n (i + 2) C V 2 with
    | none => .inl (nmF T n (i + 2), frI T n (i + 2))
    | some b => smS T n (i + 3) (rwK K N (2092 + tcI T n (i + 1)) b 0 0) (dp + 1) (adO op dp N))) := by
    unfold pStep
    rw [if_neg (by omega), if_neg (by omega), if_neg (by omega), if_neg (by omega), if_neg (by omega), if_neg (by omega), if_neg (by omega), if_neg (by omega)]
    rfl
  rw [hd, ep0, if_pos (by rw [t])]
  by_cases hx : tcI T n (i + 1) < 30 ∨ 33 < tcI T n (i + 1)
  · rw [if_pos hx]
    obtain ⟨h', r, f, l⟩ := x_ref lg 2
    refine ⟨h', ?_, fg.tr (f.mono (by decide) (by decide) (by decide) (by decide)), l⟩
    have b1 : f_X8_readTest g 14 4 (c + 1) = f_X8_readTest_j17 g 4 := by
      rcases Nat.lt_or_ge (tcI T n (i + 1)) 30 with u | u
      · simp (disch := first | assumption | omega | decide | ((repeat first | apply lyI | apply lyJ | apply lywI | apply lywJ | apply csI | apply csJ | apply cswI | apply cswJ); assumption)) only [f_X8_readTest, SX, LI, ↓li_m1, nI_add, pk_mul, nn_sub, nn_m1, nn_div, nn_rem, nn_nz, nn_mod, nJ_l, lN_add, lN_mul, nn_tb1, nI_bt, nn_and, nn_or, nn_xor, nn_shr, nn_1shl, nn_31, il_p, il_n, it_p, it_n, ie_p, ie_n, ie_b, ie_b1, ie_m, ie_mm, it_m, it_m0, il_m0, bI_rZ, Option.bind_some, bd2_some, Nat.add_zero, Nat.zero_add, if_true, if_false, Bool.false_eq_true, eq_self, hI_R, hJ_R, ng_t, ng_e, gt]
      · have u2 : 33 < tcI T n (i + 1) := by omega
        simp (disch := first | assumption | omega | decide | ((repeat first | apply lyI | apply lyJ | apply lywI | apply lywJ | apply csI | apply csJ | apply cswI | apply cswJ); assumption)) only [f_X8_readTest, SX, LI, ↓li_m1, nI_add, pk_mul, nn_sub, nn_m1, nn_div, nn_rem, nn_nz, nn_mod, nJ_l, lN_add, lN_mul, nn_tb1, nI_bt, nn_and, nn_or, nn_xor, nn_shr, nn_1shl, nn_31, il_p, il_n, it_p, it_n, ie_p, ie_n, ie_b, ie_b1, ie_m, ie_mm, it_m, it_m0, il_m0, bI_rZ, Option.bind_some, bd2_some, Nat.add_zero, Nat.zero_add, if_true, if_false, Bool.false_eq_true, eq_self, hI_R, hJ_R, ng_t, ng_e, gt]
    have b2 : f_X8_readTest_j17 g 4 = some (nI 0, h') := by simp (disch := first | assumption | omega | decide | ((repeat first | apply lyI | apply lyJ | apply lywI | apply lywJ | apply csI | apply csJ | apply cswI | apply cswJ); assumption)) only [f_X8_readTest_j17, SX, LI, ↓li_m1, nI_add, pk_mul, nn_sub, nn_m1, nn_div, nn_rem, nn_nz, nn_mod, nJ_l, lN_add, lN_mul, nn_tb1, nI_bt, nn_and, nn_or, nn_xor, nn_shr, nn_1shl, nn_31, il_p, il_n, it_p, it_n, ie_p, ie_n, ie_b, ie_b1, ie_m, ie_mm, it_m, it_m0, il_m0, bI_rZ, Option.bind_some, bd2_some, Nat.add_zero, Nat.zero_add, if_true, if_false, Bool.false_eq_true, eq_self, hI_R, hJ_R, ng_t, ng_e, r, rz0]
    rw [b1, b2, bd2_some, if_pos rfl]
  · rw [if_neg hx]
    have t30 : 30 ≤ tcI T n (i + 1) := by omega
    have t33 : tcI T n (i + 1) ≤ 33 := by omega
    let g1 := hI (hI (hI g 15 (sgK K N) (nI (tcI T n (i + 1)))) 19 dp (nI (sgK K N))) 14 5 (nI (dp + 1))
    have f1 : FR g g1 [14, 15, 19] [] [] [] := ((FR.hI (by decide) (by decide) (by decide)).tr (FR.hI (by decide) (by decide) (by decide))).tr (FR.hI (by decide) (by decide) (by decide))
    have lg1 := lc_fr f1 (by decide) (by decide) lg
    obtain ⟨h6, ra, fa, la⟩ := x_adv lg1 (lc_lt lg1 (by omega))
    have ra' : f_X4_advance (hI (hI (hI g 15 (sgK K N) (nI (tcI T n (i + 1)))) 19 dp (nI (sgK K N))) 14 5 (nI (dp + 1))) 4 = some h6 := ra
    have l6 := la.1
    have fh : FR g h6 [4, 14, 15, 16, 17, 18, 19] [4] [] [] := (f1.mono (by decide) (by decide) (by decide) (by decide)).tr (fa.mono (by decide) (by decide) (by decide) (by decide))
    obtain ⟨s6, n6⟩ := cp_st14 fh sg ng
    have z6 : h6.2.1 14 6 = nI (sgK K N) := by
      rw [fa.I 14 (by decide) (by decide) (by decide)]
      exact (rI_nk (by decide)).trans g6
    have kk : ∀ y, y ≠ 4 → y ≠ 0 → y ≠ 113 → h6.2.1 y = g1.2.1 y := fun y h1 h2 h3 => fa.I y (by simpa using h1) h2 h3
    have sb6 : SB h h6 14 (sgK K N) := fun x hx => by
      obtain ⟨y1, y2, y3, y4⟩ := sb x hx
      refine ⟨?_, ?_, ?_, ?_⟩
      · rw [kk (14 + 1) (by decide) (by decide) (by decide)]
        show (hI g 15 (sgK K N) (nI (tcI T n (i + 1)))).2.1 15 x = _
        rw [rI_nk (by omega)]
        exact y1
      · rw [kk (14 + 2) (by decide) (by decide) (by decide)]
        exact y2
      · rw [kk (14 + 3) (by decide) (by decide) (by decide)]
        exact y3
      · rw [kk (14 + 4) (by decide) (by decide) (by decide)]
        exact y4
    have w1 : h6.2.1 15 (sgK K N) = nI (tcI T n (i + 1)) := by
      rw [kk 15 (by decide) (by decide) (by decide)]
      show (hI g 15 (sgK K N) (nI (tcI T n (i + 1)))).2.1 15 (sgK K N) = _
      exact rI_eq
    have wo : ∀ (k2 : aH) b a', k2.2.1 14 = h6.2.1 14 → k2.2.1 19 = h6.2.1 19 → POp k2 14 (rwK K N a' b 0 0) (dp + 1) (adO op dp N) := fun k2 b a' q1 q2 => by
      refine po_when (h := h) po pv ?_ ?_ ?_ (fun e he => ?_)
      · rw [q1, kk 14 (by decide) (by decide) (by decide)]
        exact rI_eq
      · rw [q1, kk 14 (by decide) (by decide) (by decide), ← gp]
        exact rI_nk (by decide)
      · show k2.2.1 19 dp = _
        rw [q2, kk 19 (by decide) (by decide) (by decide)]
        show (hI (hI g 15 _ _) 19 dp (nI (sgK K N))).2.1 19 dp = _
        rw [rI_eq]
      · show k2.2.1 19 e = h.2.1 19 e
        rw [q2, kk 19 (by decide) (by decide) (by decide), ← g5]
        show (hI (hI g 15 _ _) 19 dp (nI (sgK K N))).2.1 19 e = _
        rw [rI_nk (by omega)]
        rfl
    have fin : ∀ (k1 : aH) (b j : Nat), FR h6 k1 [4] [4] [] [] → LC k1 T n m j → OCp h0 14 c T n m C V N (f_X8_readStep_j103 (hI k1 16 (sgK K N) (nI b)) 14 4) (smS T n j (rwK K N (2092 + tcI T n (i + 1)) b 0 0) (dp + 1) (adO op dp N)) := fun k1 b j fk lk => by
      have f2 : FR k1 (hI k1 16 (sgK K N) (nI b)) [16] [] [] [] := FR.hI (by decide) (by decide) (by decide)
      have ff : FR g (hI k1 16 (sgK K N) (nI b)) [4, 14, 15, 16, 17, 18, 19] [4] [] [] := (fh.tr (fk.mono (by decide) (by decide) (by decide) (by decide))).tr (f2.mono (by decide) (by decide) (by decide) (by decide))
      obtain ⟨s7, n7⟩ := cp_st14 ff sg ng
      have kq : ∀ y, y ≠ 4 → y ≠ 0 → y ≠ 113 → k1.2.1 y = h6.2.1 y := fun y h1 h2 h3 => fk.I y (by simpa using h1) h2 h3
      have e1 := rw_sg1 (K := K) (N := N) (a := 2092 + tcI T n (i + 1)) (b := b) (c := 0) (d := 0) (by omega)
      have sb7 : SB h (hI k1 16 (sgK K N) (nI b)) 14 (sgK K N) := fun x hx => by
        obtain ⟨y1, y2, y3, y4⟩ := sb6 x hx
        refine ⟨?_, ?_, ?_, ?_⟩
        · show k1.2.1 15 x = _
          rw [kq 15 (by decide) (by decide) (by decide)]
          exact y1
        · show (hI k1 16 (sgK K N) (nI b)).2.1 16 x = _
          rw [rI_nk (by omega), kq 16 (by decide) (by decide) (by decide)]
          exact y2
        · show k1.2.1 17 x = _
          rw [kq 17 (by decide) (by decide) (by decide)]
          exact y3
        · show k1.2.1 18 x = _
          rw [kq 18 (by decide) (by decide) (by decide)]
          exact y4
      refine x_semi14 (fg.tr ff) (lc_fr f2 (by decide) (by decide) lk) s7 n7 (by omega) (pc_up pc pv sb7 (by omega) ?_ (fun _ _ => rI_eq) (fun e => absurd e (by omega)) (fun e => absurd e (by omega))) (wo _ b _ ?_ ?_) ?_ (by omega)
      · rw [wk_t (by omega)]
        show k1.2.1 15 _ = _
        rw [kq 15 (by decide) (by decide) (by decide)]
        exact w1
      · show k1.2.1 14 = _
        rw [kq 14 (by decide) (by decide) (by decide)]
      · show k1.2.1 19 = _
        rw [kq 19 (by decide) (by decide) (by decide)]
      · show k1.2.1 14 6 = _
        rw [kq 14 (by decide) (by decide) (by decide), e1, Nat.add_sub_cancel]
        exact z6
    have ff : ∀ (k1 : aH) (f q : Nat), FR h6 k1 [4] [4] [] [] → FL k1 f q → FR h0 (hI k1 16 (sgK K N) m1) [4, 14, 15, 16, 17, 18, 19] [4] [] [] ∧ FL (hI k1 16 (sgK K N) m1) f q := fun k1 f q fk fl => by
      have f2 : FR k1 (hI k1 16 (sgK K N) m1) [16] [] [] [] := FR.hI (by decide) (by decide) (by decide)
      exact ⟨((fg.tr fh).tr (fk.mono (by decide) (by decide) (by decide) (by decide))).tr (f2.mono (by decide) (by decide) (by decide) (by decide)), fl_fr f2 (by decide) fl⟩
    by_cases h33 : tcI T n (i + 1) = 33
    · rw [if_pos h33]
      have gt' : g.2.1 4 10 = nI 33 := by rw [gt, h33]
      rw [h33] at ra'
      rcases x_number (lo := 0) (hi' := 256) la (by decide) (by decide) with ⟨q1, q2, q3, h', r, f, l⟩ | ⟨q1, h', r, f, l⟩
      · rw [if_pos ⟨q1, q2, q3⟩]
        have l' := l.1
        have z12 : (hI h' 16 (sgK K N) (nI (nuI T n (i + 2)))).2.1 4 12 = nI 0 := l.2.2.1.2.2.2.1
        have r' : f_X4_takeNumber h6 4 (nI 0) (nI 256) = some (nI (nuI T n (i + 2)), h') := r
        have b1 : f_X8_readTest g 14 4 (c + 1) = f_X8_readTest_j91 h' 4 16 (nI (sgK K N)) (nI (nuI T n (i + 2))) := by simp (disch := first | assumption | omega | decide | ((repeat first | apply lyI | apply lyJ | apply lywI | apply lywJ | apply csI | apply csJ | apply cswI | apply cswJ); assumption)) only [f_X8_readTest, SP14, SX, rI_eq, rI_ne, rI_nk, rJ_eq, rJ_ne, rJ_nk, rI_J, rJ_I, LI, ↓li_m1, nI_add, pk_mul, nn_sub, nn_m1, nn_div, nn_rem, nn_nz, nn_mod, nJ_l, lN_add, lN_mul, nn_tb1, nI_bt, nn_and, nn_or, nn_xor, nn_shr, nn_1shl, nn_31, il_p, il_n, it_p, it_n, ie_p, ie_n, ie_b, ie_b1, ie_m, ie_mm, it_m, it_m0, il_m0, bI_rZ, Option.bind_some, bd2_some, Nat.add_zero, Nat.zero_add, if_true, if_false, Bool.false_eq_true, eq_self, hI_R, hJ_R, ng_t, ng_e, gt', g6, gd, ra', z6, r']
        have b2 : f_X8_readTest_j91 h' 4 16 (nI (sgK K N)) (nI (nuI T n (i + 2))) = some (nI 1, hI h' 16 (sgK K N) (nI (nuI T n (i + 2)))) := by simp (disch := first | assumption | omega | decide | ((repeat first | apply lyI | apply lyJ | apply lywI | apply lywJ | apply csI | apply csJ | apply cswI | apply cswJ); assumption)) only [f_X8_readTest_j91, SP14, SX, LI, ↓li_m1, nI_add, pk_mul, nn_sub, nn_m1, nn_div, nn_rem, nn_nz, nn_mod, nJ_l, lN_add, lN_mul, nn_tb1, nI_bt, nn_and, nn_or, nn_xor, nn_shr, nn_1shl, nn_31, il_p, il_n, it_p, it_n, ie_p, ie_n, ie_b, ie_b1, ie_m, ie_mm, it_m, it_m0, il_m0, bI_rZ, Option.bind_some, bd2_some, Nat.add_zero, Nat.zero_add, if_true, if_false, Bool.false_eq_true, eq_self, hI_R, hJ_R, ng_t, ng_e, z12]
        rw [b1, b2, bd2_some, if_neg (by decide)]
        have := fin h' (nuI T n (i + 2)) (i + 3) f l
        rw [h33] at this
        exact this
      · rw [if_neg q1]
        have l' := l.1
        obtain ⟨y1, y2⟩ := ff h' _ _ f l
        have w12 := y2.2.1
        have w0 : ¬ nI (fkN T n (i + 1 + 1) (if tcI T n (i + 1 + 1) = 2 then 4 else 2)) = nI 0 := d_ne (by unfold fkN; (repeat' split) <;> decide) (by decide) (by unfold fkN; (repeat' split) <;> decide)
        have b1 : f_X8_readTest g 14 4 (c + 1) = f_X8_readTest_j91 h' 4 16 (nI (sgK K N)) m1 := by simp (disch := first | assumption | omega | decide | ((repeat first | apply lyI | apply lyJ | apply lywI | apply lywJ | apply csI | apply csJ | apply cswI | apply cswJ); assumption)) only [f_X8_readTest, SP14, SX, rI_eq, rI_ne, rI_nk, rJ_eq, rJ_ne, rJ_nk, rI_J, rJ_I, LI, ↓li_m1, nI_add, pk_mul, nn_sub, nn_m1, nn_div, nn_rem, nn_nz, nn_mod, nJ_l, lN_add, lN_mul, nn_tb1, nI_bt, nn_and, nn_or, nn_xor, nn_shr, nn_1shl, nn_31, il_p, il_n, it_p, it_n, ie_p, ie_n, ie_b, ie_b1, ie_m, ie_mm, it_m, it_m0, il_m0, bI_rZ, Option.bind_some, bd2_some, Nat.add_zero, Nat.zero_add, if_true, if_false, Bool.false_eq_true, eq_self, hI_R, hJ_R, ng_t, ng_e, gt', g6, gd, ra', z6, r]
        have b2 : f_X8_readTest_j91 h' 4 16 (nI (sgK K N)) m1 = some (nI 0, hI h' 16 (sgK K N) m1) := by simp (disch := first | assumption | omega | decide | ((repeat first | apply lyI | apply lyJ | apply lywI | apply lywJ | apply csI | apply csJ | apply cswI | apply cswJ); assumption)) only [f_X8_readTest_j91, SP14, SX, LI, ↓li_m1, nI_add, pk_mul, nn_sub, nn_m1, nn_div, nn_rem, nn_nz, nn_mod, nJ_l, lN_add, lN_mul, nn_tb1, nI_bt, nn_and, nn_or, nn_xor, nn_shr, nn_1shl, nn_31, il_p, il_n, it_p, it_n, ie_p, ie_n, ie_b, ie_b1, ie_m, ie_mm, it_m, it_m0, il_m0, bI_rZ, Option.bind_some, bd2_some, Nat.add_zero, Nat.zero_add, if_true, if_false, Bool.false_eq_true, eq_self, hI_R, hJ_R, ng_t, ng_e, w12, if_neg w0]
        exact ⟨_, by rw [b1, b2, bd2_some, if_pos rfl], y1, y2⟩
    · rw [if_neg h33]
      obtain ⟨y1, y2⟩ := x_tkName la s6 n6 nv (s := 2) (by decide)
      cases hb : nmO T n (i + 1 + 1) C V 2 with
      | none =>
        obtain ⟨h', r, f, l⟩ := y2 hb
        have l' := l.1
        obtain ⟨u1, u2⟩ := ff h' _ _ f l
        have w12 := u2.2.1
        have w0 : ¬ nI (nmF T n (i + 1 + 1)) = nI 0 := d_ne (by unfold nmF fkN; (repeat' split) <;> decide) (by decide) (by unfold nmF fkN; (repeat' split) <;> decide)
        have b1 : f_X8_readTest g 14 4 (c + 1) = f_X8_readTest_j91 h' 4 16 (nI (sgK K N)) m1 := by simp (disch := first | assumption | omega | decide | ((repeat first | apply lyI | apply lyJ | apply lywI | apply lywJ | apply csI | apply csJ | apply cswI | apply cswJ); assumption)) only [f_X8_readTest, SP14, SX, rI_eq, rI_ne, rI_nk, rJ_eq, rJ_ne, rJ_nk, rI_J, rJ_I, LI, ↓li_m1, nI_add, pk_mul, nn_sub, nn_m1, nn_div, nn_rem, nn_nz, nn_mod, nJ_l, lN_add, lN_mul, nn_tb1, nI_bt, nn_and, nn_or, nn_xor, nn_shr, nn_1shl, nn_31, il_p, il_n, it_p, it_n, ie_p, ie_n, ie_b, ie_b1, ie_m, ie_mm, it_m, it_m0, il_m0, bI_rZ, Option.bind_some, bd2_some, Nat.add_zero, Nat.zero_add, if_true, if_false, Bool.false_eq_true, eq_self, hI_R, hJ_R, ng_t, ng_e, gt, g6, gd, ra', z6, r]
        have b2 : f_X8_readTest_j91 h' 4 16 (nI (sgK K N)) m1 = some (nI 0, hI h' 16 (sgK K N) m1) := by simp (disch := first | assumption | omega | decide | ((repeat first | apply lyI | apply lyJ | apply lywI | apply lywJ | apply csI | apply csJ | apply cswI | apply cswJ); assumption)) only [f_X8_readTest_j91, SP14, SX, LI, ↓li_m1, nI_add, pk_mul, nn_sub, nn_m1, nn_div, nn_rem, nn_nz, nn_mod, nJ_l, lN_add, lN_mul, nn_tb1, nI_bt, nn_and, nn_or, nn_xor, nn_shr, nn_1shl, nn_31, il_p, il_n, it_p, it_n, ie_p, ie_n, ie_b, ie_b1, ie_m, ie_mm, it_m, it_m0, il_m0, bI_rZ, Option.bind_some, bd2_some, Nat.add_zero, Nat.zero_add, if_true, if_false, Bool.false_eq_true, eq_self, hI_R, hJ_R, ng_t, ng_e, w12, if_neg w0]
        exact ⟨_, by rw [b1, b2, bd2_some, if_pos rfl], u1, u2⟩
      | some b =>
        obtain ⟨h', r, f, l⟩ := y1 b hb
        have l' := l.1
        have z12 : (hI h' 16 (sgK K N) (nI b)).2.1 4 12 = nI 0 := l.2.2.1.2.2.2.1
        have b1 : f_X8_readTest g 14 4 (c + 1) = f_X8_readTest_j91 h' 4 16 (nI (sgK K N)) (nI b) := by simp (disch := first | assumption | omega | decide | ((repeat first | apply lyI | apply lyJ | apply lywI | apply lywJ | apply csI | apply csJ | apply cswI | apply cswJ); assumption)) only [f_X8_readTest, SP14, SX, rI_eq, rI_ne, rI_nk, rJ_eq, rJ_ne, rJ_nk, rI_J, rJ_I, LI, ↓li_m1, nI_add, pk_mul, nn_sub, nn_m1, nn_div, nn_rem, nn_nz, nn_mod, nJ_l, lN_add, lN_mul, nn_tb1, nI_bt, nn_and, nn_or, nn_xor, nn_shr, nn_1shl, nn_31, il_p, il_n, it_p, it_n, ie_p, ie_n, ie_b, ie_b1, ie_m, ie_mm, it_m, it_m0, il_m0, bI_rZ, Option.bind_some, bd2_some, Nat.add_zero, Nat.zero_add, if_true, if_false, Bool.false_eq_true, eq_self, hI_R, hJ_R, ng_t, ng_e, gt, g6, gd, ra', z6, r]
        have b2 : f_X8_readTest_j91 h' 4 16 (nI (sgK K N)) (nI b) = some (nI 1, hI h' 16 (sgK K N) (nI b)) := by simp (disch := first | assumption | omega | decide | ((repeat first | apply lyI | apply lyJ | apply lywI | apply lywJ | apply csI | apply csJ | apply cswI | apply cswJ); assumption)) only [f_X8_readTest_j91, SP14, SX, LI, ↓li_m1, nI_add, pk_mul, nn_sub, nn_m1, nn_div, nn_rem, nn_nz, nn_mod, nJ_l, lN_add, lN_mul, nn_tb1, nI_bt, nn_and, nn_or, nn_xor, nn_shr, nn_1shl, nn_31, il_p, il_n, it_p, it_n, ie_p, ie_n, ie_b, ie_b1, ie_m, ie_mm, it_m, it_m0, il_m0, bI_rZ, Option.bind_some, bd2_some, Nat.add_zero, Nat.zero_add, if_true, if_false, Bool.false_eq_true, eq_self, hI_R, hJ_R, ng_t, ng_e, z12]
        rw [b1, b2, bd2_some, if_neg (by decide)]
        exact fin h' b (i + 3) f l
theorem x_end14 {h0 h : aH} {c : Nat} {T : Nat → Nat} {n m i : Nat} {C : Nat → Nat} {V : Nat → List Nat} {K : Nat → Nat → Nat} {N dp : Nat} {op : Nat → Nat} (mc : MCp h0 h 14 c T n m i C V K N dp op) (pv : PVp C K N dp op) (t : tcI T n i = 34) : OCp h0 14 c T n m C V N (f_X8_readEnd h 14 4) (pStep T n i C V K N dp op) := by
  obtain ⟨hf, lc, hs, nc, pc, po⟩ := mc
  have ll := lc.1
  have p5 : h.2.1 14 5 = nI dp := po.1
  have p6 : h.2.1 14 6 = nI (sgK K N) := pc.1
  have d3 := pv.2.1
  have ep : pStep T n i C V K N dp op = (if dp = 0 then .inl (2, frI T n i) else smS T n (i + 1) (clK K N (op (dp - 1))) (dp - 1) op) := by
    unfold pStep
    rw [if_pos t]
  rw [ep]
  by_cases hz : dp = 0
  · rw [if_pos hz]
    obtain ⟨h', r, f, l⟩ := x_ref lc 2
    have ek : fkN T n i 2 = 2 := if_neg (by omega)
    rw [ek] at l
    rw [hz] at p5
    exact ⟨h', by simp (disch := first | assumption | omega | decide | ((repeat first | apply lyI | apply lyJ | apply lywI | apply lywJ | apply csI | apply csJ | apply cswI | apply cswJ); assumption)) only [f_X8_readEnd, SP14, SX, LI, ↓li_m1, nI_add, pk_mul, nn_sub, nn_m1, nn_div, nn_rem, nn_nz, nn_mod, nJ_l, lN_add, lN_mul, nn_tb1, nI_bt, nn_and, nn_or, nn_xor, nn_shr, nn_1shl, nn_31, il_p, il_n, it_p, it_n, ie_p, ie_n, ie_b, ie_b1, ie_m, ie_mm, it_m, it_m0, il_m0, bI_rZ, Option.bind_some, bd2_some, Nat.add_zero, Nat.zero_add, if_true, if_false, Bool.false_eq_true, eq_self, hI_R, hJ_R, ng_t, ng_e, p5, r, rz0], hf.tr (f.mono (by decide) (by decide) (by decide) (by decide)), l⟩
  · rw [if_neg hz]
    obtain ⟨o1, o2, o3, o4⟩ := pv.2.2.2.2 (dp - 1) (by omega)
    have q5 : h.2.1 19 (dp - 1) = nI (sgK K (op (dp - 1))) := po.2.2 (dp - 1) (by omega)
    have sl := sgk_lt o1 o2
    have s30 := pv.1
    let g1 := hI (hI h 14 5 (nI (dp - 1))) 18 (sgK K (op (dp - 1))) (nI (sgK K N))
    have f1 : FR h g1 [14, 18] [] [] [] := (FR.hI (by decide) (by decide) (by decide)).tr (FR.hI (by decide) (by decide) (by decide))
    have lg1 := lc_fr f1 (by decide) (by decide) lc
    obtain ⟨h6, ra, fa, la⟩ := x_adv lg1 (lc_lt lg1 (by omega))
    have ra' : f_X4_advance (hI (hI h 14 5 (nI (dp - 1))) 18 (sgK K (op (dp - 1))) (nI (sgK K N))) 4 = some h6 := ra
    have l6 := la.1
    have fh : FR h h6 [4, 14, 15, 16, 17, 18, 19] [4] [] [] := (f1.mono (by decide) (by decide) (by decide) (by decide)).tr (fa.mono (by decide) (by decide) (by decide) (by decide))
    rcases x_take (w := 3) la (by decide) (by decide) with ⟨tt, h', r, f, l⟩ | ⟨tt, h', r, f, l⟩
    · have eo : smS T n (i + 1) (clK K N (op (dp - 1))) (dp - 1) op = .inr (i + 1 + 1, clK K N (op (dp - 1)), dp - 1, op) := if_pos tt
      rw [eo]
      have fz : FR h h' [4, 14, 15, 16, 17, 18, 19] [4] [] [] := fh.tr (f.mono (by decide) (by decide) (by decide) (by decide))
      obtain ⟨s7, n7⟩ := cp_st14 fz hs nc
      have kk : ∀ y, y ≠ 4 → y ≠ 0 → y ≠ 113 → h'.2.1 y = g1.2.1 y := fun y h1 h2 h3 => (f.I y (by simpa using h1) h2 h3).trans (fa.I y (by simpa using h1) h2 h3)
      refine ⟨h', by simp (disch := first | assumption | omega | decide | ((repeat first | apply lyI | apply lyJ | apply lywI | apply lywJ | apply csI | apply csJ | apply cswI | apply cswJ); assumption)) only [f_X8_readEnd, SP14, SX, rI_eq, rI_ne, rI_nk, rJ_eq, rJ_ne, rJ_nk, rI_J, rJ_I, LI, ↓li_m1, nI_add, pk_mul, nn_sub, nn_m1, nn_div, nn_rem, nn_nz, nn_mod, nJ_l, lN_add, lN_mul, nn_tb1, nI_bt, nn_and, nn_or, nn_xor, nn_shr, nn_1shl, nn_31, il_p, il_n, it_p, it_n, ie_p, ie_n, ie_b, ie_b1, ie_m, ie_mm, it_m, it_m0, il_m0, bI_rZ, Option.bind_some, bd2_some, Nat.add_zero, Nat.zero_add, if_true, if_false, Bool.false_eq_true, eq_self, hI_R, hJ_R, ng_t, ng_e, p5, q5, p6, ra', r, rz1], hf.tr fz, l, s7, n7, pc_end pc pv o1 o2 ?_ ?_ ?_ ?_ ?_ (fun x hx => ?_), ?_, ?_, fun e he => ?_⟩
      · rw [kk 14 (by decide) (by decide) (by decide)]
        show (hI h 14 5 (nI (dp - 1))).2.1 14 6 = _
        exact rI_nk (by decide)
      · rw [kk (14 + 1) (by decide) (by decide) (by decide)]
        rfl
      · rw [kk (14 + 2) (by decide) (by decide) (by decide)]
        rfl
      · rw [kk (14 + 3) (by decide) (by decide) (by decide)]
        rfl
      · rw [kk (14 + 4) (by decide) (by decide) (by decide)]
        exact rI_eq
      · rw [kk (14 + 4) (by decide) (by decide) (by decide)]
        show (hI (hI h 14 5 _) 18 _ _).2.1 18 x = _
        rw [rI_nk hx]
        rfl
      · rw [kk 14 (by decide) (by decide) (by decide)]
        show (hI h 14 5 (nI (dp - 1))).2.1 14 5 = _
        exact rI_eq
      · rw [kk 14 (by decide) (by decide) (by decide)]
        show (hI h 14 5 (nI (dp - 1))).2.1 14 7 = _
        rw [rI_nk (by decide)]
        exact po.2.1
      · have := (pv.2.2.2.2 e (by omega)).1
        rw [kk (14 + 5) (by decide) (by decide) (by decide), cl_sg _ (by omega)]
        exact po.2.2 e (by omega)
    · have eo : smS T n (i + 1) (clK K N (op (dp - 1))) (dp - 1) op = .inl (fkN T n (i + 1) 2, frI T n (i + 1)) := if_neg tt
      rw [eo]
      exact ⟨h', by simp (disch := first | assumption | omega | decide | ((repeat first | apply lyI | apply lyJ | apply lywI | apply lywJ | apply csI | apply csJ | apply cswI | apply cswJ); assumption)) only [f_X8_readEnd, SP14, SX, rI_eq, rI_ne, rI_nk, rJ_eq, rJ_ne, rJ_nk, rI_J, rJ_I, LI, ↓li_m1, nI_add, pk_mul, nn_sub, nn_m1, nn_div, nn_rem, nn_nz, nn_mod, nJ_l, lN_add, lN_mul, nn_tb1, nI_bt, nn_and, nn_or, nn_xor, nn_shr, nn_1shl, nn_31, il_p, il_n, it_p, it_n, ie_p, ie_n, ie_b, ie_b1, ie_m, ie_mm, it_m, it_m0, il_m0, bI_rZ, Option.bind_some, bd2_some, Nat.add_zero, Nat.zero_add, if_true, if_false, Bool.false_eq_true, eq_self, hI_R, hJ_R, ng_t, ng_e, p5, q5, p6, ra', r, rz0], (hf.tr fh).tr (f.mono (by decide) (by decide) (by decide) (by decide)), l⟩
/-- a part of a plan -/
theorem x_part14 {h0 h : aH} {c : Nat} {T : Nat → Nat} {n m i : Nat} {C : Nat → Nat} {V : Nat → List Nat} {K : Nat → Nat → Nat} {N dp : Nat} {op : Nat → Nat} (mc : MCp h0 h 14 c T n m i C V K N dp op) (pv : PVp C K N dp op) (nv : NV C V) (t : tcI T n i ≠ 34) : OCp h0 14 c T n m C V N (f_X8_readStep h 14 4 (c + 1)) (pStep T n i C V K N dp op) := by
  have tl := tc_le (T := T) (n := n) (i := i)
  obtain ⟨hf, lc, hs, nc, pc, po⟩ := id mc
  have ll := lc.1
  have p5 : h.2.1 14 5 = nI dp := po.1
  have p6 : h.2.1 14 6 = nI (sgK K N) := pc.1
  have e10 : h.2.1 4 10 = nI (tcI T n i) := lc.2.2.1.2.1
  have d3 := pv.2.1
  have s30 := pv.1
  by_cases hx : tcI T n i < 25 ∨ 29 < tcI T n i
  · obtain ⟨h', r, f, l⟩ := x_ref lc 2
    have ep : pStep T n i C V K N dp op = .inl (fkN T n i 2, frI T n i) := by
      unfold pStep
      rw [if_neg t, if_pos hx]
    rw [ep]
    refine ⟨h', ?_, hf.tr (f.mono (by decide) (by decide) (by decide) (by decide)), l⟩
    have b2 : f_X8_readStep_j17 h 4 = some (nI 0, h') := by simp (disch := first | assumption | omega | decide | ((repeat first | apply lyI | apply lyJ | apply lywI | apply lywJ | apply csI | apply csJ | apply cswI | apply cswJ); assumption)) only [f_X8_readStep_j17, SX, LI, ↓li_m1, nI_add, pk_mul, nn_sub, nn_m1, nn_div, nn_rem, nn_nz, nn_mod, nJ_l, lN_add, lN_mul, nn_tb1, nI_bt, nn_and, nn_or, nn_xor, nn_shr, nn_1shl, nn_31, il_p, il_n, it_p, it_n, ie_p, ie_n, ie_b, ie_b1, ie_m, ie_mm, it_m, it_m0, il_m0, bI_rZ, Option.bind_some, bd2_some, Nat.add_zero, Nat.zero_add, if_true, if_false, Bool.false_eq_true, eq_self, hI_R, hJ_R, ng_t, ng_e, r, rz0]
    have b1 : f_X8_readStep h 14 4 (c + 1) = f_X8_readStep_j17 h 4 := by
      rcases Nat.lt_or_ge (tcI T n i) 25 with u | u
      · simp (disch := first | assumption | omega | decide | ((repeat first | apply lyI | apply lyJ | apply lywI | apply lywJ | apply csI | apply csJ | apply cswI | apply cswJ); assumption)) only [f_X8_readStep, SX, LI, ↓li_m1, nI_add, pk_mul, nn_sub, nn_m1, nn_div, nn_rem, nn_nz, nn_mod, nJ_l, lN_add, lN_mul, nn_tb1, nI_bt, nn_and, nn_or, nn_xor, nn_shr, nn_1shl, nn_31, il_p, il_n, it_p, it_n, ie_p, ie_n, ie_b, ie_b1, ie_m, ie_mm, it_m, it_m0, il_m0, bI_rZ, Option.bind_some, bd2_some, Nat.add_zero, Nat.zero_add, if_true, if_false, Bool.false_eq_true, eq_self, hI_R, hJ_R, ng_t, ng_e, e10]
      · have u2 : 29 < tcI T n i := by omega
        simp (disch := first | assumption | omega | decide | ((repeat first | apply lyI | apply lyJ | apply lywI | apply lywJ | apply csI | apply csJ | apply cswI | apply cswJ); assumption)) only [f_X8_readStep, SX, LI, ↓li_m1, nI_add, pk_mul, nn_sub, nn_m1, nn_div, nn_rem, nn_nz, nn_mod, nJ_l, lN_add, lN_mul, nn_tb1, nI_bt, nn_and, nn_or, nn_xor, nn_shr, nn_1shl, nn_31, il_p, il_n, it_p, it_n, ie_p, ie_n, ie_b, ie_b1, ie_m, ie_mm, it_m, it_m0, il_m0, bI_rZ, Option.bind_some, bd2_some, Nat.add_zero, Nat.zero_add, if_true, if_false, Bool.false_eq_true, eq_self, hI_R, hJ_R, ng_t, ng_e, e10]
    rw [b1, b2]
  by_cases h30 : 30 ≤ sgK K N
  · obtain ⟨h', r, f, l⟩ := x_ref lc 6
    have ek : fkN T n i 6 = 6 := if_neg (by omega)
    rw [ek] at l
    have ep : pStep T n i C V K N dp op = .inl (6, frI T n i) := by
      unfold pStep
      rw [if_neg t, if_neg hx, if_pos h30]
    rw [ep]
    exact ⟨h', by simp (disch := first | assumption | omega | decide | ((repeat first | apply lyI | apply lyJ | apply lywI | apply lywJ | apply csI | apply csJ | apply cswI | apply cswJ); assumption)) only [f_X8_readStep, SP14, SX, LI, ↓li_m1, nI_add, pk_mul, nn_sub, nn_m1, nn_div, nn_rem, nn_nz, nn_mod, nJ_l, lN_add, lN_mul, nn_tb1, nI_bt, nn_and, nn_or, nn_xor, nn_shr, nn_1shl, nn_31, il_p, il_n, it_p, it_n, ie_p, ie_n, ie_b, ie_b1, ie_m, ie_mm, it_m, it_m0, il_m0, bI_rZ, Option.bind_some, bd2_some, Nat.add_zero, Nat.zero_add, if_true, if_false, Bool.false_eq_true, eq_self, hI_R, hJ_R, ng_t, ng_e, e10, p6, r, rz0], hf.tr (f.mono (by decide) (by decide) (by decide) (by decide)), l⟩
  rcases (show tcI T n i = 25 ∨ tcI T n i = 26 ∨ tcI T n i = 27 ∨ tcI T n i = 28 ∨ tcI T n i = 29 by omega) with e | e | e | e | e
  · exact x_ask14 mc pv nv e (by omega)
  · exact x_best14 mc pv nv e (by omega)
  · exact x_next14 mc pv e (by omega)
  · exact x_rule14 mc pv nv e (by omega)
  · rcases Nat.lt_or_ge dp 3 with u | u
    · exact x_when14 mc pv nv e (by omega) u
    · obtain ⟨h', r, f, l⟩ := x_ref lc 7
      have ek : fkN T n i 7 = 7 := if_neg (by omega)
      rw [ek] at l
      have ep : pStep T n i C V K N dp op = .inl (7, frI T n i) := by
        unfold pStep
        rw [if_neg t, if_neg hx, if_neg h30, if_neg (by omega), if_neg (by omega), if_neg (by omega), if_neg (by omega), if_pos u]
      rw [ep]
      rw [e] at e10
      exact ⟨h', by simp (disch := first | assumption | omega | decide | ((repeat first | apply lyI | apply lyJ | apply lywI | apply lywJ | apply csI | apply csJ | apply cswI | apply cswJ); assumption)) only [f_X8_readStep, SP14, SX, LI, ↓li_m1, nI_add, pk_mul, nn_sub, nn_m1, nn_div, nn_rem, nn_nz, nn_mod, nJ_l, lN_add, lN_mul, nn_tb1, nI_bt, nn_and, nn_or, nn_xor, nn_shr, nn_1shl, nn_31, il_p, il_n, it_p, it_n, ie_p, ie_n, ie_b, ie_b1, ie_m, ie_mm, it_m, it_m0, il_m0, bI_rZ, Option.bind_some, bd2_some, Nat.add_zero, Nat.zero_add, if_true, if_false, Bool.false_eq_true, eq_self, hI_R, hJ_R, ng_t, ng_e, e10, p6, p5, r, rz0], hf.tr (f.mono (by decide) (by decide) (by decide) (by decide)), l⟩
theorem x_when20 {h0 h : aH} {c : Nat} {T : Nat → Nat} {n m i : Nat} {C : Nat → Nat} {V : Nat → List Nat} {K : Nat → Nat → Nat} {N dp : Nat} {op : Nat → Nat} (mc : MCp h0 h 20 c T n m i C V K N dp op) (pv : PVp C K N dp op) (nv : NV C V) (t : tcI T n i = 29) (s30 : sgK K N < 30) (d3 : dp < 3) : OCp h0 20 c T n m C V N (f_X8_readStep h 20 4 (c + 1)) (pStep T n i C V K N dp op) := by
  obtain ⟨g, ⟨fg, lg, sg, ng, sb, gp, g5, gw⟩, hd⟩ := x_head20 mc pv (by omega) (by omega) s30 (fun _ => d3)
  obtain ⟨hf, lc, hs, nc, pc, po⟩ := mc
  have ll := lg.1
  have g6 : g.2.1 20 6 = nI (sgK K N) := by rw [gp]; exact pc.1
  have gd : g.2.1 20 5 = nI dp := by rw [gp]; exact po.1
  have gt : g.2.1 4 10 = nI (tcI T n (i + 1)) := lg.2.2.1.2.1
  have tl := tc_le (T := T) (n := n) (i := i + 1)
  have ep0 : pStep T n i C V K N dp op = (if tcI T n (i + 1) < 30 ∨ 33 < tcI T n (i + 1) then .inl (fkN T n (i + 1) 2, frI T n (i + 1))
  else if tcI T n (i + 1) = 33 then (if tcI T n (i + 2) = 2 ∧ 0 ≤ nuI T n (i + 2) ∧ nuI T n (i + 2) ≤ 256 then smS T n (i + 3) (rwK K N 2125 (nuI T n (i + 2)) 0 0) (dp + 1) (adO op dp N) else .inl (fkN T n (i + 2) (if tcI T n (i + 2) = 2 then 4 else 2), frI T n (i + 2)))
  else (match nmO T n (i + 2) C V 2 with
    | none => .inl (nmF T n (i + 2), frI T n (i + 2))
    | some b => smS T n (i + 3) (rwK K N (2092 + tcI T n (i + 1)) b 0 0) (dp + 1) (adO op dp N))) := by
    unfold pStep
    rw [if_neg (by omega), if_neg (by omega), if_neg (by omega), if_neg (by omega), if_neg (by omega), if_neg (by omega), if_neg (by omega), if_neg (by omega)]
    rfl
  rw [hd, ep0, if_pos (by rw [t])]
  by_cases hx : tcI T n (i + 1) < 30 ∨ 33 < tcI T n (i + 1)
  · rw [if_pos hx]
    obtain ⟨h', r, f, l⟩ := x_ref lg 2
    refine ⟨h', ?_, fg.tr (f.mono (by decide) (by decide) (by decide) (by decide)), l⟩
    have b1 : f_X8_readTest g 20 4 (c + 1) = f_X8_readTest_j17 g 4 := by
      rcases Nat.lt_or_ge (tcI T n (i + 1)) 30 with u | u
      · simp (disch := first | assumption | omega | decide | ((repeat first | apply lyI | apply lyJ | apply lywI | apply lywJ | apply csI | apply csJ | apply cswI | apply cswJ); assumption)) only [f_X8_readTest, SX, LI, ↓li_m1, nI_add, pk_mul, nn_sub, nn_m1, nn_div, nn_rem, nn_nz, nn_mod, nJ_l, lN_add, lN_mul, nn_tb1, nI_bt, nn_and, nn_or, nn_xor, nn_shr, nn_1shl, nn_31, il_p, il_n, it_p, it_n, ie_p, ie_n, ie_b, ie_b1, ie_m, ie_mm, it_m, it_m0, il_m0, bI_rZ, Option.bind_some, bd2_some, Nat.add_zero, Nat.zero_add, if_true, if_false, Bool.false_eq_true, eq_self, hI_R, hJ_R, ng_t, ng_e, gt]
      · have u2 : 33 < tcI T n (i + 1) := by omega
        simp (disch := first | assumption | omega | decide | ((repeat first | apply lyI | apply lyJ | apply lywI | apply lywJ | apply csI | apply csJ | apply cswI | apply cswJ); assumption)) only [f_X8_readTest, SX, LI, ↓li_m1, nI_add, pk_mul, nn_sub, nn_m1, nn_div, nn_rem, nn_nz, nn_mod, nJ_l, lN_add, lN_mul, nn_tb1, nI_bt, nn_and, nn_or, nn_xor, nn_shr, nn_1shl, nn_31, il_p, il_n, it_p, it_n, ie_p, ie_n, ie_b, ie_b1, ie_m, ie_mm, it_m, it_m0, il_m0, bI_rZ, Option.bind_some, bd2_some, Nat.add_zero, Nat.zero_add, if_true, if_false, Bool.false_eq_true, eq_self, hI_R, hJ_R, ng_t, ng_e, gt]
    have b2 : f_X8_readTest_j17 g 4 = some (nI 0, h') := by simp (disch := first | assumption | omega | decide | ((repeat first | apply lyI | apply lyJ | apply lywI | apply lywJ | apply csI | apply csJ | apply cswI | apply cswJ); assumption)) only [f_X8_readTest_j17, SX, LI, ↓li_m1, nI_add, pk_mul, nn_sub, nn_m1, nn_div, nn_rem, nn_nz, nn_mod, nJ_l, lN_add, lN_mul, nn_tb1, nI_bt, nn_and, nn_or, nn_xor, nn_shr, nn_1shl, nn_31, il_p, il_n, it_p, it_n, ie_p, ie_n, ie_b, ie_b1, ie_m, ie_mm, it_m, it_m0, il_m0, bI_rZ, Option.bind_some, bd2_some, Nat.add_zero, Nat.zero_add, if_true, if_false, Bool.false_eq_true, eq_self, hI_R, hJ_R, ng_t, ng_e, r, rz0]
    rw [b1, b2, bd2_some, if_pos rfl]
  · rw [if_neg hx]
    have t30 : 30 ≤ tcI T n (i + 1) := by omega
    have t33 : tcI T n (i + 1) ≤ 33 := by omega
    let g1 := hI (hI (hI g 21 (sgK K N) (nI (tcI T n (i + 1)))) 25 dp (nI (sgK K N))) 20 5 (nI (dp + 1))
    have f1 : FR g g1 [20, 21, 25] [] [] [] := ((FR.hI (by decide) (by decide) (by decide)).tr (FR.hI (by decide) (by decide) (by decide))).tr (FR.hI (by decide) (by decide) (by decide))
    have lg1 := lc_fr f1 (by decide) (by decide) lg
    obtain ⟨h6, ra, fa, la⟩ := x_adv lg1 (lc_lt lg1 (by omega))
    have ra' : f_X4_advance (hI (hI (hI g 21 (sgK K N) (nI (tcI T n (i + 1)))) 25 dp (nI (sgK K N))) 20 5 (nI (dp + 1))) 4 = some h6 := ra
    have l6 := la.1
    have fh : FR g h6 [4, 20, 21, 22, 23, 24, 25] [4] [] [] := (f1.mono (by decide) (by decide) (by decide) (by decide)).tr (fa.mono (by decide) (by decide) (by decide) (by decide))
    obtain ⟨s6, n6⟩ := cp_st20 fh sg ng
    have z6 : h6.2.1 20 6 = nI (sgK K N) := by
      rw [fa.I 20 (by decide) (by decide) (by decide)]
      exact (rI_nk (by decide)).trans g6
    have kk : ∀ y, y ≠ 4 → y ≠ 0 → y ≠ 113 → h6.2.1 y = g1.2.1 y := fun y h1 h2 h3 => fa.I y (by simpa using h1) h2 h3
    have sb6 : SB h h6 20 (sgK K N) := fun x hx => by
      obtain ⟨y1, y2, y3, y4⟩ := sb x hx
      refine ⟨?_, ?_, ?_, ?_⟩
      · rw [kk (20 + 1) (by decide) (by decide) (by decide)]
        show (hI g 21 (sgK K N) (nI (tcI T n (i + 1)))).2.1 21 x = _
        rw [rI_nk (by omega)]
        exact y1
      · rw [kk (20 + 2) (by decide) (by decide) (by decide)]
        exact y2
      · rw [kk (20 + 3) (by decide) (by decide) (by decide)]
        exact y3
      · rw [kk (20 + 4) (by decide) (by decide) (by decide)]
        exact y4
    have w1 : h6.2.1 21 (sgK K N) = nI (tcI T n (i + 1)) := by
      rw [kk 21 (by decide) (by decide) (by decide)]
      show (hI g 21 (sgK K N) (nI (tcI T n (i + 1)))).2.1 21 (sgK K N) = _
      exact rI_eq
    have wo : ∀ (k2 : aH) b a', k2.2.1 20 = h6.2.1 20 → k2.2.1 25 = h6.2.1 25 → POp k2 20 (rwK K N a' b 0 0) (dp + 1) (adO op dp N) := fun k2 b a' q1 q2 => by
      refine po_when (h := h) po pv ?_ ?_ ?_ (fun e he => ?_)
      · rw [q1, kk 20 (by decide) (by decide) (by decide)]
        exact rI_eq
      · rw [q1, kk 20 (by decide) (by decide) (by decide), ← gp]
        exact rI_nk (by decide)
      · show k2.2.1 25 dp = _
        rw [q2, kk 25 (by decide) (by decide) (by decide)]
        show (hI (hI g 21 _ _) 25 dp (nI (sgK K N))).2.1 25 dp = _
        rw [rI_eq]
      · show k2.2.1 25 e = h.2.1 25 e
        rw [q2, kk 25 (by decide) (by decide) (by decide), ← g5]
        show (hI (hI g 21 _ _) 25 dp (nI (sgK K N))).2.1 25 e = _
        rw [rI_nk (by omega)]
        rfl
    have fin : ∀ (k1 : aH) (b j : Nat), FR h6 k1 [4] [4] [] [] → LC k1 T n m j → OCp h0 20 c T n m C V N (f_X8_readStep_j103 (hI k1 22 (sgK K N) (nI b)) 20 4) (smS T n j (rwK K N (2092 + tcI T n (i + 1)) b 0 0) (dp + 1) (adO op dp N)) := fun k1 b j fk lk => by
      have f2 : FR k1 (hI k1 22 (sgK K N) (nI b)) [22] [] [] [] := FR.hI (by decide) (by decide) (by decide)
      have ff : FR g (hI k1 22 (sgK K N) (nI b)) [4, 20, 21, 22, 23, 24, 25] [4] [] [] := (fh.tr (fk.mono (by decide) (by decide) (by decide) (by decide))).tr (f2.mono (by decide) (by decide) (by decide) (by decide))
      obtain ⟨s7, n7⟩ := cp_st20 ff sg ng
      have kq : ∀ y, y ≠ 4 → y ≠ 0 → y ≠ 113 → k1.2.1 y = h6.2.1 y := fun y h1 h2 h3 => fk.I y (by simpa using h1) h2 h3
      have e1 := rw_sg1 (K := K) (N := N) (a := 2092 + tcI T n (i + 1)) (b := b) (c := 0) (d := 0) (by omega)
      have sb7 : SB h (hI k1 22 (sgK K N) (nI b)) 20 (sgK K N) := fun x hx => by
        obtain ⟨y1, y2, y3, y4⟩ := sb6 x hx
        refine ⟨?_, ?_, ?_, ?_⟩
        · show k1.2.1 21 x = _
          rw [kq 21 (by decide) (by decide) (by decide)]
          exact y1
        · show (hI k1 22 (sgK K N) (nI b)).2.1 22 x = _
          rw [rI_nk (by omega), kq 22 (by decide) (by decide) (by decide)]
          exact y2
        · show k1.2.1 23 x = _
          rw [kq 23 (by decide) (by decide) (by decide)]
          exact y3
        · show k1.2.1 24 x = _
          rw [kq 24 (by decide) (by decide) (by decide)]
          exact y4
      refine x_semi20 (fg.tr ff) (lc_fr f2 (by decide) (by decide) lk) s7 n7 (by omega) (pc_up pc pv sb7 (by omega) ?_ (fun _ _ => rI_eq) (fun e => absurd e (by omega)) (fun e => absurd e (by omega))) (wo _ b _ ?_ ?_) ?_ (by omega)
      · rw [wk_t (by omega)]
        show k1.2.1 21 _ = _
        rw [kq 21 (by decide) (by decide) (by decide)]
        exact w1
      · show k1.2.1 20 = _
        rw [kq 20 (by decide) (by decide) (by decide)]
      · show k1.2.1 25 = _
        rw [kq 25 (by decide) (by decide) (by decide)]
      · show k1.2.1 20 6 = _
        rw [kq 20 (by decide) (by decide) (by decide), e1, Nat.add_sub_cancel]
        exact z6
    have ff : ∀ (k1 : aH) (f q : Nat), FR h6 k1 [4] [4] [] [] → FL k1 f q → FR h0 (hI k1 22 (sgK K N) m1) [4, 20, 21, 22, 23, 24, 25] [4] [] [] ∧ FL (hI k1 22 (sgK K N) m1) f q := fun k1 f q fk fl => by
      have f2 : FR k1 (hI k1 22 (sgK K N) m1) [22] [] [] [] := FR.hI (by decide) (by decide) (by decide)
      exact ⟨((fg.tr fh).tr (fk.mono (by decide) (by decide) (by decide) (by decide))).tr (f2.mono (by decide) (by decide) (by decide) (by decide)), fl_fr f2 (by decide) fl⟩
    by_cases h33 : tcI T n (i + 1) = 33
    · rw [if_pos h33]
      have gt' : g.2.1 4 10 = nI 33 := by rw [gt, h33]
      rw [h33] at ra'
      rcases x_number (lo := 0) (hi' := 256) la (by decide) (by decide) with ⟨q1, q2, q3, h', r, f, l⟩ | ⟨q1, h', r, f, l⟩
      · rw [if_pos ⟨q1, q2, q3⟩]
        have l' := l.1
        have z12 : (hI h' 22 (sgK K N) (nI (nuI T n (i + 2)))).2.1 4 12 = nI 0 := l.2.2.1.2.2.2.1
        have r' : f_X4_takeNumber h6 4 (nI 0) (nI 256) = some (nI (nuI T n (i + 2)), h') := r
        have b1 : f_X8_readTest g 20 4 (c + 1) = f_X8_readTest_j91 h' 4 22 (nI (sgK K N)) (nI (nuI T n (i + 2))) := by simp (disch := first | assumption | omega | decide | ((repeat first | apply lyI | apply lyJ | apply lywI | apply lywJ | apply csI | apply csJ | apply cswI | apply cswJ); assumption)) only [f_X8_readTest, SP20, SX, rI_eq, rI_ne, rI_nk, rJ_eq, rJ_ne, rJ_nk, rI_J, rJ_I, LI, ↓li_m1, nI_add, pk_mul, nn_sub, nn_m1, nn_div, nn_rem, nn_nz, nn_mod, nJ_l, lN_add, lN_mul, nn_tb1, nI_bt, nn_and, nn_or, nn_xor, nn_shr, nn_1shl, nn_31, il_p, il_n, it_p, it_n, ie_p, ie_n, ie_b, ie_b1, ie_m, ie_mm, it_m, it_m0, il_m0, bI_rZ, Option.bind_some, bd2_some, Nat.add_zero, Nat.zero_add, if_true, if_false, Bool.false_eq_true, eq_self, hI_R, hJ_R, ng_t, ng_e, gt', g6, gd, ra', z6, r']
        have b2 : f_X8_readTest_j91 h' 4 22 (nI (sgK K N)) (nI (nuI T n (i + 2))) = some (nI 1, hI h' 22 (sgK K N) (nI (nuI T n (i + 2)))) := by simp (disch := first | assumption | omega | decide | ((repeat first | apply lyI | apply lyJ | apply lywI | apply lywJ | apply csI | apply csJ | apply cswI | apply cswJ); assumption)) only [f_X8_readTest_j91, SP20, SX, LI, ↓li_m1, nI_add, pk_mul, nn_sub, nn_m1, nn_div, nn_rem, nn_nz, nn_mod, nJ_l, lN_add, lN_mul, nn_tb1, nI_bt, nn_and, nn_or, nn_xor, nn_shr, nn_1shl, nn_31, il_p, il_n, it_p, it_n, ie_p, ie_n, ie_b, ie_b1, ie_m, ie_mm, it_m, it_m0, il_m0, bI_rZ, Option.bind_some, bd2_some, Nat.add_zero, Nat.zero_add, if_true, if_false, Bool.false_eq_true, eq_self, hI_R, hJ_R, ng_t, ng_e, z12]
        rw [b1, b2, bd2_some, if_neg (by decide)]
        have := fin h' (nuI T n (i + 2)) (i + 3) f l
        rw [h33] at this
        exact this
      · rw [if_neg q1]
        have l' := l.1
        obtain ⟨y1, y2⟩ := ff h' _ _ f l
        have w12 := y2.2.1
        have w0 : ¬ nI (fkN T n (i + 1 + 1) (if tcI T n (i + 1 + 1) = 2 then 4 else 2)) = nI 0 := d_ne (by unfold fkN; (repeat' split) <;> decide) (by decide) (by unfold fkN; (repeat' split) <;> decide)
        have b1 : f_X8_readTest g 20 4 (c + 1) = f_X8_readTest_j91 h' 4 22 (nI (sgK K N)) m1 := by simp (disch := first | assumption | omega | decide | ((repeat first | apply lyI | apply lyJ | apply lywI | apply lywJ | apply csI | apply csJ | apply cswI | apply cswJ); assumption)) only [f_X8_readTest, SP20, SX, rI_eq, rI_ne, rI_nk, rJ_eq, rJ_ne, rJ_nk, rI_J, rJ_I, LI, ↓li_m1, nI_add, pk_mul, nn_sub, nn_m1, nn_div, nn_rem, nn_nz, nn_mod, nJ_l, lN_add, lN_mul, nn_tb1, nI_bt, nn_and, nn_or, nn_xor, nn_shr, nn_1shl, nn_31, il_p, il_n, it_p, it_n, ie_p, ie_n, ie_b, ie_b1, ie_m, ie_mm, it_m, it_m0, il_m0, bI_rZ, Option.bind_some, bd2_some, Nat.add_zero, Nat.zero_add, if_true, if_false, Bool.false_eq_true, eq_self, hI_R, hJ_R, ng_t, ng_e, gt', g6, gd, ra', z6, r]
        have b2 : f_X8_readTest_j91 h' 4 22 (nI (sgK K N)) m1 = some (nI 0, hI h' 22 (sgK K N) m1) := by simp (disch := first | assumption | omega | decide | ((repeat first | apply lyI | apply lyJ | apply lywI | apply lywJ | apply csI | apply csJ | apply cswI | apply cswJ); assumption)) only [f_X8_readTest_j91, SP20, SX, LI, ↓li_m1, nI_add, pk_mul, nn_sub, nn_m1, nn_div, nn_rem, nn_nz, nn_mod, nJ_l, lN_add, lN_mul, nn_tb1, nI_bt, nn_and, nn_or, nn_xor, nn_shr, nn_1shl, nn_31, il_p, il_n, it_p, it_n, ie_p, ie_n, ie_b, ie_b1, ie_m, ie_mm, it_m, it_m0, il_m0, bI_rZ, Option.bind_some, bd2_some, Nat.add_zero, Nat.zero_add, if_true, if_false, Bool.false_eq_true, eq_self, hI_R, hJ_R, ng_t, ng_e, w12, if_neg w0]
        exact ⟨_, by rw [b1, b2, bd2_some, if_pos rfl], y1, y2⟩
    · rw [if_neg h33]
      obtain ⟨y1, y2⟩ := x_tkName la s6 n6 nv (s := 2) (by decide)
      cases hb : nmO T n (i + 1 + 1) C V 2 with
      | none =>
        obtain ⟨h', r, f, l⟩ := y2 hb
        have l' := l.1
        obtain ⟨u1, u2⟩ := ff h' _ _ f l
        have w12 := u2.2.1
        have w0 : ¬ nI (nmF T n (i + 1 + 1)) = nI 0 := d_ne (by unfold nmF fkN; (repeat' split) <;> decide) (by decide) (by unfold nmF fkN; (repeat' split) <;> decide)
        have b1 : f_X8_readTest g 20 4 (c + 1) = f_X8_readTest_j91 h' 4 22 (nI (sgK K N)) m1 := by simp (disch := first | assumption | omega | decide | ((repeat first | apply lyI | apply lyJ | apply lywI | apply lywJ | apply csI | apply csJ | apply cswI | apply cswJ); assumption)) only [f_X8_readTest, SP20, SX, rI_eq, rI_ne, rI_nk, rJ_eq, rJ_ne, rJ_nk, rI_J, rJ_I, LI, ↓li_m1, nI_add, pk_mul, nn_sub, nn_m1, nn_div, nn_rem, nn_nz, nn_mod, nJ_l, lN_add, lN_mul, nn_tb1, nI_bt, nn_and, nn_or, nn_xor, nn_shr, nn_1shl, nn_31, il_p, il_n, it_p, it_n, ie_p, ie_n, ie_b, ie_b1, ie_m, ie_mm, it_m, it_m0, il_m0, bI_rZ, Option.bind_some, bd2_some, Nat.add_zero, Nat.zero_add, if_true, if_false, Bool.false_eq_true, eq_self, hI_R, hJ_R, ng_t, ng_e, gt, g6, gd, ra', z6, r]
        have b2 : f_X8_readTest_j91 h' 4 22 (nI (sgK K N)) m1 = some (nI 0, hI h' 22 (sgK K N) m1) := by simp (disch := first | assumption | omega | decide | ((repeat first | apply lyI | apply lyJ | apply lywI | apply lywJ | apply csI | apply csJ | apply cswI | apply cswJ); assumption)) only [f_X8_readTest_j91, SP20, SX, LI, ↓li_m1, nI_add, pk_mul, nn_sub, nn_m1, nn_div, nn_rem, nn_nz, nn_mod, nJ_l, lN_add, lN_mul, nn_tb1, nI_bt, nn_and, nn_or, nn_xor, nn_shr, nn_1shl, nn_31, il_p, il_n, it_p, it_n, ie_p, ie_n, ie_b, ie_b1, ie_m, ie_mm, it_m, it_m0, il_m0, bI_rZ, Option.bind_some, bd2_some, Nat.add_zero, Nat.zero_add, if_true, if_false, Bool.false_eq_true, eq_self, hI_R, hJ_R, ng_t, ng_e, w12, if_neg w0]
        exact ⟨_, by rw [b1, b2, bd2_some, if_pos rfl], u1, u2⟩
      | some b =>
        obtain ⟨h', r, f, l⟩ := y1 b hb
        have l' := l.1
        have z12 : (hI h' 22 (sgK K N) (nI b)).2.1 4 12 = nI 0 := l.2.2.1.2.2.2.1
        have b1 : f_X8_readTest g 20 4 (c + 1) = f_X8_readTest_j91 h' 4 22 (nI (sgK K N)) (nI b) := by simp (disch := first | assumption | omega | decide | ((repeat first | apply lyI | apply lyJ | apply lywI | apply lywJ | apply csI | apply csJ | apply cswI | apply cswJ); assumption)) only [f_X8_readTest, SP20, SX, rI_eq, rI_ne, rI_nk, rJ_eq, rJ_ne, rJ_nk, rI_J, rJ_I, LI, ↓li_m1, nI_add, pk_mul, nn_sub, nn_m1, nn_div, nn_rem, nn_nz, nn_mod, nJ_l, lN_add, lN_mul, nn_tb1, nI_bt, nn_and, nn_or, nn_xor, nn_shr, nn_1shl, nn_31, il_p, il_n, it_p, it_n, ie_p, ie_n, ie_b, ie_b1, ie_m, ie_mm, it_m, it_m0, il_m0, bI_rZ, Option.bind_some, bd2_some, Nat.add_zero, Nat.zero_add, if_true, if_false, Bool.false_eq_true, eq_self, hI_R, hJ_R, ng_t, ng_e, gt, g6, gd, ra', z6, r]
        have b2 : f_X8_readTest_j91 h' 4 22 (nI (sgK K N)) (nI b) = some (nI 1, hI h' 22 (sgK K N) (nI b)) := by simp (disch := first | assumption | omega | decide | ((repeat first | apply lyI | apply lyJ | apply lywI | apply lywJ | apply csI | apply csJ | apply cswI | apply cswJ); assumption)) only [f_X8_readTest_j91, SP20, SX, LI, ↓li_m1, nI_add, pk_mul, nn_sub, nn_m1, nn_div, nn_rem, nn_nz, nn_mod, nJ_l, lN_add, lN_mul, nn_tb1, nI_bt, nn_and, nn_or, nn_xor, nn_shr, nn_1shl, nn_31, il_p, il_n, it_p, it_n, ie_p, ie_n, ie_b, ie_b1, ie_m, ie_mm, it_m, it_m0, il_m0, bI_rZ, Option.bind_some, bd2_some, Nat.add_zero, Nat.zero_add, if_true, if_false, Bool.false_eq_true, eq_self, hI_R, hJ_R, ng_t, ng_e, z12]
        rw [b1, b2, bd2_some, if_neg (by decide)]
        exact fin h' b (i + 3) f l
theorem x_end20 {h0 h : aH} {c : Nat} {T : Nat → Nat} {n m i : Nat} {C : Nat → Nat} {V : Nat → List Nat} {K : Nat → Nat → Nat} {N dp : Nat} {op : Nat → Nat} (mc : MCp h0 h 20 c T n m i C V K N dp op) (pv : PVp C K N dp op) (t : tcI T n i = 34) : OCp h0 20 c T n m C V N (f_X8_readEnd h 20 4) (pStep T n i C V K N dp op) := by
  obtain ⟨hf, lc, hs, nc, pc, po⟩ := mc
  have ll := lc.1
  have p5 : h.2.1 20 5 = nI dp := po.1
  have p6 : h.2.1 20 6 = nI (sgK K N) := pc.1
  have d3 := pv.2.1
  have ep : pStep T n i C V K N dp op = (if dp = 0 then .inl (2, frI T n i) else smS T n (i + 1) (clK K N (op (dp - 1))) (dp - 1) op) := by
    unfold pStep
    rw [if_pos t]
  rw [ep]
  by_cases hz : dp = 0
  · rw [if_pos hz]
    obtain ⟨h', r, f, l⟩ := x_ref lc 2
    have ek : fkN T n i 2 = 2 := if_neg (by omega)
    rw [ek] at l
    rw [hz] at p5
    exact ⟨h', by simp (disch := first | assumption | omega | decide | ((repeat first | apply lyI | apply lyJ | apply lywI | apply lywJ | apply csI | apply csJ | apply cswI | apply cswJ); assumption)) only [f_X8_readEnd, SP20, SX, LI, ↓li_m1, nI_add, pk_mul, nn_sub, nn_m1, nn_div, nn_rem, nn_nz, nn_mod, nJ_l, lN_add, lN_mul, nn_tb1, nI_bt, nn_and, nn_or, nn_xor, nn_shr, nn_1shl, nn_31, il_p, il_n, it_p, it_n, ie_p, ie_n, ie_b, ie_b1, ie_m, ie_mm, it_m, it_m0, il_m0, bI_rZ, Option.bind_some, bd2_some, Nat.add_zero, Nat.zero_add, if_true, if_false, Bool.false_eq_true, eq_self, hI_R, hJ_R, ng_t, ng_e, p5, r, rz0], hf.tr (f.mono (by decide) (by decide) (by decide) (by decide)), l⟩
  · rw [if_neg hz]
    obtain ⟨o1, o2, o3, o4⟩ := pv.2.2.2.2 (dp - 1) (by omega)
    have q5 : h.2.1 25 (dp - 1) = nI (sgK K (op (dp - 1))) := po.2.2 (dp - 1) (by omega)
    have sl := sgk_lt o1 o2
    have s30 := pv.1
    let g1 := hI (hI h 20 5 (nI (dp - 1))) 24 (sgK K (op (dp - 1))) (nI (sgK K N))
    have f1 : FR h g1 [20, 24] [] [] [] := (FR.hI (by decide) (by decide) (by decide)).tr (FR.hI (by decide) (by decide) (by decide))
    have lg1 := lc_fr f1 (by decide) (by decide) lc
    obtain ⟨h6, ra, fa, la⟩ := x_adv lg1 (lc_lt lg1 (by omega))
    have ra' : f_X4_advance (hI (hI h 20 5 (nI (dp - 1))) 24 (sgK K (op (dp - 1))) (nI (sgK K N))) 4 = some h6 := ra
    have l6 := la.1
    have fh : FR h h6 [4, 20, 21, 22, 23, 24, 25] [4] [] [] := (f1.mono (by decide) (by decide) (by decide) (by decide)).tr (fa.mono (by decide) (by decide) (by decide) (by decide))
    rcases x_take (w := 3) la (by decide) (by decide) with ⟨tt, h', r, f, l⟩ | ⟨tt, h', r, f, l⟩
    · have eo : smS T n (i + 1) (clK K N (op (dp - 1))) (dp - 1) op = .inr (i + 1 + 1, clK K N (op (dp - 1)), dp - 1, op) := if_pos tt
      rw [eo]
      have fz : FR h h' [4, 20, 21, 22, 23, 24, 25] [4] [] [] := fh.tr (f.mono (by decide) (by decide) (by decide) (by decide))
      obtain ⟨s7, n7⟩ := cp_st20 fz hs nc
      have kk : ∀ y, y ≠ 4 → y ≠ 0 → y ≠ 113 → h'.2.1 y = g1.2.1 y := fun y h1 h2 h3 => (f.I y (by simpa using h1) h2 h3).trans (fa.I y (by simpa using h1) h2 h3)
      refine ⟨h', by simp (disch := first | assumption | omega | decide | ((repeat first | apply lyI | apply lyJ | apply lywI | apply lywJ | apply csI | apply csJ | apply cswI | apply cswJ); assumption)) only [f_X8_readEnd, SP20, SX, rI_eq, rI_ne, rI_nk, rJ_eq, rJ_ne, rJ_nk, rI_J, rJ_I, LI, ↓li_m1, nI_add, pk_mul, nn_sub, nn_m1, nn_div, nn_rem, nn_nz, nn_mod, nJ_l, lN_add, lN_mul, nn_tb1, nI_bt, nn_and, nn_or, nn_xor, nn_shr, nn_1shl, nn_31, il_p, il_n, it_p, it_n, ie_p, ie_n, ie_b, ie_b1, ie_m, ie_mm, it_m, it_m0, il_m0, bI_rZ, Option.bind_some, bd2_some, Nat.add_zero, Nat.zero_add, if_true, if_false, Bool.false_eq_true, eq_self, hI_R, hJ_R, ng_t, ng_e, p5, q5, p6, ra', r, rz1], hf.tr fz, l, s7, n7, pc_end pc pv o1 o2 ?_ ?_ ?_ ?_ ?_ (fun x hx => ?_), ?_, ?_, fun e he => ?_⟩
      · rw [kk 20 (by decide) (by decide) (by decide)]
        show (hI h 20 5 (nI (dp - 1))).2.1 20 6 = _
        exact rI_nk (by decide)
      · rw [kk (20 + 1) (by decide) (by decide) (by decide)]
        rfl
      · rw [kk (20 + 2) (by decide) (by decide) (by decide)]
        rfl
      · rw [kk (20 + 3) (by decide) (by decide) (by decide)]
        rfl
      · rw [kk (20 + 4) (by decide) (by decide) (by decide)]
        exact rI_eq
      · rw [kk (20 + 4) (by decide) (by decide) (by decide)]
        show (hI (hI h 20 5 _) 24 _ _).2.1 24 x = _
        rw [rI_nk hx]
        rfl
      · rw [kk 20 (by decide) (by decide) (by decide)]
        show (hI h 20 5 (nI (dp - 1))).2.1 20 5 = _
        exact rI_eq
      · rw [kk 20 (by decide) (by decide) (by decide)]
        show (hI h 20 5 (nI (dp - 1))).2.1 20 7 = _
        rw [rI_nk (by decide)]
        exact po.2.1
      · have := (pv.2.2.2.2 e (by omega)).1
        rw [kk (20 + 5) (by decide) (by decide) (by decide), cl_sg _ (by omega)]
        exact po.2.2 e (by omega)
    · have eo : smS T n (i + 1) (clK K N (op (dp - 1))) (dp - 1) op = .inl (fkN T n (i + 1) 2, frI T n (i + 1)) := if_neg tt
      rw [eo]
      exact ⟨h', by simp (disch := first | assumption | omega | decide | ((repeat first | apply lyI | apply lyJ | apply lywI | apply lywJ | apply csI | apply csJ | apply cswI | apply cswJ); assumption)) only [f_X8_readEnd, SP20, SX, rI_eq, rI_ne, rI_nk, rJ_eq, rJ_ne, rJ_nk, rI_J, rJ_I, LI, ↓li_m1, nI_add, pk_mul, nn_sub, nn_m1, nn_div, nn_rem, nn_nz, nn_mod, nJ_l, lN_add, lN_mul, nn_tb1, nI_bt, nn_and, nn_or, nn_xor, nn_shr, nn_1shl, nn_31, il_p, il_n, it_p, it_n, ie_p, ie_n, ie_b, ie_b1, ie_m, ie_mm, it_m, it_m0, il_m0, bI_rZ, Option.bind_some, bd2_some, Nat.add_zero, Nat.zero_add, if_true, if_false, Bool.false_eq_true, eq_self, hI_R, hJ_R, ng_t, ng_e, p5, q5, p6, ra', r, rz0], (hf.tr fh).tr (f.mono (by decide) (by decide) (by decide) (by decide)), l⟩
/-- a part of a plan -/
theorem x_part20 {h0 h : aH} {c : Nat} {T : Nat → Nat} {n m i : Nat} {C : Nat → Nat} {V : Nat → List Nat} {K : Nat → Nat → Nat} {N dp : Nat} {op : Nat → Nat} (mc : MCp h0 h 20 c T n m i C V K N dp op) (pv : PVp C K N dp op) (nv : NV C V) (t : tcI T n i ≠ 34) : OCp h0 20 c T n m C V N (f_X8_readStep h 20 4 (c + 1)) (pStep T n i C V K N dp op) := by
  have tl := tc_le (T := T) (n := n) (i := i)
  obtain ⟨hf, lc, hs, nc, pc, po⟩ := id mc
  have ll := lc.1
  have p5 : h.2.1 20 5 = nI dp := po.1
  have p6 : h.2.1 20 6 = nI (sgK K N) := pc.1
  have e10 : h.2.1 4 10 = nI (tcI T n i) := lc.2.2.1.2.1
  have d3 := pv.2.1
  have s30 := pv.1
  by_cases hx : tcI T n i < 25 ∨ 29 < tcI T n i
  · obtain ⟨h', r, f, l⟩ := x_ref lc 2
    have ep : pStep T n i C V K N dp op = .inl (fkN T n i 2, frI T n i) := by
      unfold pStep
      rw [if_neg t, if_pos hx]
    rw [ep]
    refine ⟨h', ?_, hf.tr (f.mono (by decide) (by decide) (by decide) (by decide)), l⟩
    have b2 : f_X8_readStep_j17 h 4 = some (nI 0, h') := by simp (disch := first | assumption | omega | decide | ((repeat first | apply lyI | apply lyJ | apply lywI | apply lywJ | apply csI | apply csJ | apply cswI | apply cswJ); assumption)) only [f_X8_readStep_j17, SX, LI, ↓li_m1, nI_add, pk_mul, nn_sub, nn_m1, nn_div, nn_rem, nn_nz, nn_mod, nJ_l, lN_add, lN_mul, nn_tb1, nI_bt, nn_and, nn_or, nn_xor, nn_shr, nn_1shl, nn_31, il_p, il_n, it_p, it_n, ie_p, ie_n, ie_b, ie_b1, ie_m, ie_mm, it_m, it_m0, il_m0, bI_rZ, Option.bind_some, bd2_some, Nat.add_zero, Nat.zero_add, if_true, if_false, Bool.false_eq_true, eq_self, hI_R, hJ_R, ng_t, ng_e, r, rz0]
    have b1 : f_X8_readStep h 20 4 (c + 1) = f_X8_readStep_j17 h 4 := by
      rcases Nat.lt_or_ge (tcI T n i) 25 with u | u
      · simp (disch := first | assumption | omega | decide | ((repeat first | apply lyI | apply lyJ | apply lywI | apply lywJ | apply csI | apply csJ | apply cswI | apply cswJ); assumption)) only [f_X8_readStep, SX, LI, ↓li_m1, nI_add, pk_mul, nn_sub, nn_m1, nn_div, nn_rem, nn_nz, nn_mod, nJ_l, lN_add, lN_mul, nn_tb1, nI_bt, nn_and, nn_or, nn_xor, nn_shr, nn_1shl, nn_31, il_p, il_n, it_p, it_n, ie_p, ie_n, ie_b, ie_b1, ie_m, ie_mm, it_m, it_m0, il_m0, bI_rZ, Option.bind_some, bd2_some, Nat.add_zero, Nat.zero_add, if_true, if_false, Bool.false_eq_true, eq_self, hI_R, hJ_R, ng_t, ng_e, e10]
      · have u2 : 29 < tcI T n i := by omega
        simp (disch := first | assumption | omega | decide | ((repeat first | apply lyI | apply lyJ | apply lywI | apply lywJ | apply csI | apply csJ | apply cswI | apply cswJ); assumption)) only [f_X8_readStep, SX, LI, ↓li_m1, nI_add, pk_mul, nn_sub, nn_m1, nn_div, nn_rem, nn_nz, nn_mod, nJ_l, lN_add, lN_mul, nn_tb1, nI_bt, nn_and, nn_or, nn_xor, nn_shr, nn_1shl, nn_31, il_p, il_n, it_p, it_n, ie_p, ie_n, ie_b, ie_b1, ie_m, ie_mm, it_m, it_m0, il_m0, bI_rZ, Option.bind_some, bd2_some, Nat.add_zero, Nat.zero_add, if_true, if_false, Bool.false_eq_true, eq_self, hI_R, hJ_R, ng_t, ng_e, e10]
    rw [b1, b2]
  by_cases h30 : 30 ≤ sgK K N
  · obtain ⟨h', r, f, l⟩ := x_ref lc 6
    have ek : fkN T n i 6 = 6 := if_neg (by omega)
    rw [ek] at l
    have ep : pStep T n i C V K N dp op = .inl (6, frI T n i) := by
      unfold pStep
      rw [if_neg t, if_neg hx, if_pos h30]
    rw [ep]
    exact ⟨h', by simp (disch := first | assumption | omega | decide | ((repeat first | apply lyI | apply lyJ | apply lywI | apply lywJ | apply csI | apply csJ | apply cswI | apply cswJ); assumption)) only [f_X8_readStep, SP20, SX, LI, ↓li_m1, nI_add, pk_mul, nn_sub, nn_m1, nn_div, nn_rem, nn_nz, nn_mod, nJ_l, lN_add, lN_mul, nn_tb1, nI_bt, nn_and, nn_or, nn_xor, nn_shr, nn_1shl, nn_31, il_p, il_n, it_p, it_n, ie_p, ie_n, ie_b, ie_b1, ie_m, ie_mm, it_m, it_m0, il_m0, bI_rZ, Option.bind_some, bd2_some, Nat.add_zero, Nat.zero_add, if_true, if_false, Bool.false_eq_true, eq_self, hI_R, hJ_R, ng_t, ng_e, e10, p6, r, rz0], hf.tr (f.mono (by decide) (by decide) (by decide) (by decide)), l⟩
  rcases (show tcI T n i = 25 ∨ tcI T n i = 26 ∨ tcI T n i = 27 ∨ tcI T n i = 28 ∨ tcI T n i = 29 by omega) with e | e | e | e | e
  · exact x_ask20 mc pv nv e (by omega)
  · exact x_best20 mc pv nv e (by omega)
  · exact x_next20 mc pv e (by omega)
  · exact x_rule20 mc pv nv e (by omega)
  · rcases Nat.lt_or_ge dp 3 with u | u
    · exact x_when20 mc pv nv e (by omega) u
    · obtain ⟨h', r, f, l⟩ := x_ref lc 7
      have ek : fkN T n i 7 = 7 := if_neg (by omega)
      rw [ek] at l
      have ep : pStep T n i C V K N dp op = .inl (7, frI T n i) := by
        unfold pStep
        rw [if_neg t, if_neg hx, if_neg h30, if_neg (by omega), if_neg (by omega), if_neg (by omega), if_neg (by omega), if_pos u]
      rw [ep]
      rw [e] at e10
      exact ⟨h', by simp (disch := first | assumption | omega | decide | ((repeat first | apply lyI | apply lyJ | apply lywI | apply lywJ | apply csI | apply csJ | apply cswI | apply cswJ); assumption)) only [f_X8_readStep, SP20, SX, LI, ↓li_m1, nI_add, pk_mul, nn_sub, nn_m1, nn_div, nn_rem, nn_nz, nn_mod, nJ_l, lN_add, lN_mul, nn_tb1, nI_bt, nn_and, nn_or, nn_xor, nn_shr, nn_1shl, nn_31, il_p, il_n, it_p, it_n, ie_p, ie_n, ie_b, ie_b1, ie_m, ie_mm, it_m, it_m0, il_m0, bI_rZ, Option.bind_some, bd2_some, Nat.add_zero, Nat.zero_add, if_true, if_false, Bool.false_eq_true, eq_self, hI_R, hJ_R, ng_t, ng_e, e10, p6, p5, r, rz0], hf.tr (f.mono (by decide) (by decide) (by decide) (by decide)), l⟩
