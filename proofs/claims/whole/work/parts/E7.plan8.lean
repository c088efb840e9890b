/-! ===== plans: when and end, in the reference ===== -/
theorem iw_t {T : Nat → Nat} {n i : Nat} (h : 15 ≤ tcI T n i) : iwI T n i = nI (tcI T n i - 8) := by
  have tl := tc_le (T := T) (n := n) (i := i)
  unfold iwI
  rw [if_pos (by omega)]
  have : ∀ q, q < 27 → 7 ≤ q → rkN q = q := by decide +kernel
  rw [this _ (by omega) (by omega)]
theorem iw_lt {T : Nat → Nat} {n i : Nat} (h : tcI T n i < 25) : iwI T n i < (17 : Int32) ∧ ¬ iwI T n i = (26 : Int32) := by
  unfold iwI
  by_cases h8 : 8 ≤ tcI T n i
  · rw [if_pos h8]
    have : ∀ q, q < 17 → rkN q < 17 := by decide +kernel
    have := this (tcI T n i - 8) (by omega)
    exact ⟨nI_lt (b := 17) this (by decide), d_ne (b := 26) (by omega) (by decide) (by omega)⟩
  · rw [if_neg h8]
    exact ⟨by decide, by decide⟩
theorem r_when {k0 k : aH} {T : Nat → Nat} {n i : Nat} {C : Nat → Nat} {V : Nat → List Nat} {K : Nat → Nat → Nat} {N dp : Nat} {op : Nat → Nat} (mr : MRp k0 k T n i C V K N dp op) (pv : PVp C K N dp op) (nv : NV C V) (t : tcI T n i = 29) (s30 : sgK K N < 30) (hd3 : dp < 3) : ORp k0 T n C V N (f_X12_step k 113) (pStep T n i C V K N dp op) := by
  have n60 := pn_60 pv s30
  obtain ⟨k1, rp, e⟩ := r_head mr pv (v := 21) (by decide) (by decide) t s30 (fun _ => hd3)
  rw [if_neg (by decide), if_neg (by decide)] at e
  have tl := tc_le (T := T) (n := n) (i := i + 1)
  have ep0 : pStep T n i C V K N dp op = (if tcI T n (i + 1) < 30 ∨ 33 < tcI T n (i + 1) then .inl (fkN T n (i + 1) 2, frI T n (i + 1))
  else if tcI T n (i + 1) = 33 then (if tcI T n (i + 2) = 2 ∧ 0 ≤ nuI T n (i + 2) ∧ nuI T n (i + 2) ≤ 256 then smS T n (i + 3) (rwK K N 2125 (nuI T n (i + 2)) 0 0) (dp + 1) (adO op dp N) else .inl (fkN T n (i + 2) (if tcI T n (i + 2) = 2 then 4 else 2), frI T n (i + 2)))
  else (match nmO T n (i + 2) C V 2 with
    | none => .inl (nmF T n (i + 2), frI T n (i + 2))
    | some b => smS T n (i + 3) (rwK K N (2092 + tcI T n (i + 1)) b 0 0) (dp + 1) (adO op dp N))) := by
    unfold pStep
    rw [if_neg (by omega), if_neg (by omega), if_neg (by omega), if_neg (by omega), if_neg (by omega), if_neg (by omega), if_neg (by omega), if_neg (by omega)]
    rfl
  have b1 : f_X12_step_j198 k1 113 (nI 21) (nI N) (nI (1748 + 4 * N)) = f_X12_step_j230 k1 113 (nI 21) (nI N) (nI (1748 + 4 * N)) := by simp (disch := first | assumption | omega | decide | ((repeat first | apply lyI | apply lyJ | apply lywI | apply lywJ | apply csI | apply csJ | apply cswI | apply cswJ); assumption)) only [f_X12_step_j198, LI, ↓li_m1, nI_add, pk_mul, nn_sub, nn_m1, nn_div, nn_rem, nn_nz, nn_mod, nJ_l, lN_add, lN_mul, nn_tb1, nI_bt, nn_and, nn_or, nn_xor, nn_shr, nn_1shl, nn_31, il_p, il_n, it_p, it_n, ie_p, ie_n, ie_b, ie_b1, ie_m, ie_mm, it_m, it_m0, il_m0, bI_rZ, Option.bind_some, bd2_some, Nat.add_zero, Nat.zero_add, if_true, if_false, Bool.false_eq_true, eq_self, hI_R, hJ_R, ng_t, ng_e]
  rw [e, ep0, b1]
  have l1 := rp.2.1.1
  have iw := r_inW l1 rp.2.1.2.1
  have bad : ∀ k', f_X12_aTest k1 113 (nI (1748 + 4 * N)) = some (nI 0, k') → f_X12_step_j230 k1 113 (nI 21) (nI N) (nI (1748 + 4 * N)) = some (nI 0, k') := fun k' h => by simp (disch := first | assumption | omega | decide | ((repeat first | apply lyI | apply lyJ | apply lywI | apply lywJ | apply csI | apply csJ | apply cswI | apply cswJ); assumption)) only [f_X12_step_j230, SM, LI, ↓li_m1, nI_add, pk_mul, nn_sub, nn_m1, nn_div, nn_rem, nn_nz, nn_mod, nJ_l, lN_add, lN_mul, nn_tb1, nI_bt, nn_and, nn_or, nn_xor, nn_shr, nn_1shl, nn_31, il_p, il_n, it_p, it_n, ie_p, ie_n, ie_b, ie_b1, ie_m, ie_mm, it_m, it_m0, il_m0, bI_rZ, Option.bind_some, bd2_some, Nat.add_zero, Nat.zero_add, if_true, if_false, Bool.false_eq_true, eq_self, hI_R, hJ_R, ng_t, ng_e, h]
  have good : ∀ k', f_X12_aTest k1 113 (nI (1748 + 4 * N)) = some (nI 1, k') → f_X12_step_j230 k1 113 (nI 21) (nI N) (nI (1748 + 4 * N)) = f_X12_step_j246 k' 113 (nI 21) (nI N) := fun k' h => by simp (disch := first | assumption | omega | decide | ((repeat first | apply lyI | apply lyJ | apply lywI | apply lywJ | apply csI | apply csJ | apply cswI | apply cswJ); assumption)) only [f_X12_step_j230, SM, LI, ↓li_m1, nI_add, pk_mul, nn_sub, nn_m1, nn_div, nn_rem, nn_nz, nn_mod, nJ_l, lN_add, lN_mul, nn_tb1, nI_bt, nn_and, nn_or, nn_xor, nn_shr, nn_1shl, nn_31, il_p, il_n, it_p, it_n, ie_p, ie_n, ie_b, ie_b1, ie_m, ie_mm, it_m, it_m0, il_m0, bI_rZ, Option.bind_some, bd2_some, Nat.add_zero, Nat.zero_add, if_true, if_false, Bool.false_eq_true, eq_self, hI_R, hJ_R, ng_t, ng_e, h]
  have fin : ∀ (k2 : aH) (a b j : Nat), a ≠ 26 → RWp k0 k2 T n j C V K N dp op (sgK K N + 1) (r4 a b 0 0) → ORp k0 T n C V N (f_X12_step_j246 k2 113 (nI 21) (nI N)) (smS T n j (rwK K N a b 0 0) (dp + 1) (adO op dp N)) := fun k2 a b j ha rp2 => by
    have l2 := rp2.2.1.1
    have z29 := rp2.2.2.2.2.1.1
    have e2 : f_X12_step_j246 k2 113 (nI 21) (nI N) = f_X12_step_j311 (hI (hI k2 125 dp (nI N)) 113 29 (nI (dp + 1))) 113 := by simp (disch := first | assumption | omega | decide | ((repeat first | apply lyI | apply lyJ | apply lywI | apply lywJ | apply csI | apply csJ | apply cswI | apply cswJ); assumption)) only [f_X12_step_j246, f_X12_step_j272, SM, rI_eq, rI_ne, rI_nk, rJ_eq, rJ_ne, rJ_nk, rI_J, rJ_I, LI, ↓li_m1, nI_add, pk_mul, nn_sub, nn_m1, nn_div, nn_rem, nn_nz, nn_mod, nJ_l, lN_add, lN_mul, nn_tb1, nI_bt, nn_and, nn_or, nn_xor, nn_shr, nn_1shl, nn_31, il_p, il_n, it_p, it_n, ie_p, ie_n, ie_b, ie_b1, ie_m, ie_mm, it_m, it_m0, il_m0, bI_rZ, Option.bind_some, bd2_some, Nat.add_zero, Nat.zero_add, if_true, if_false, Bool.false_eq_true, eq_self, hI_R, hJ_R, ng_t, ng_e, z29]
    rw [e2]
    obtain ⟨⟨f0, a0⟩, rc, nr, q, ⟨d1, d2, d3⟩, rw, ro⟩ := mr_of ha rp2
    have fa : FR k2 (hI (hI k2 125 dp (nI N)) 113 29 (nI (dp + 1))) [114, 125] [] [] [29] := (FR.hI (by decide) (by decide) (by decide)).tr (fr_1 (by decide))
    refine r_semi ⟨⟨f0.tr (fa.mono (by decide) (by decide) (by decide) (by decide)), a0⟩, rc_fr fa (by decide) (by decide) rc, nr, q, ⟨rI_eq, (rI_nk (by decide)).trans d2, d3⟩, rw, fun e he => ?_⟩
    show (hI k2 125 dp (nI N)).2.1 125 e = _
    by_cases hed : e = dp
    · subst hed
      rw [rI_eq, show adO op e N e = N from if_pos rfl]
    · rw [rI_nk hed, show adO op dp N e = op e from if_neg hed]
      exact ro e (by omega)
  by_cases hx : tcI T n (i + 1) < 30 ∨ 33 < tcI T n (i + 1)
  · rw [if_pos hx]
    obtain ⟨k', r, f, l⟩ := r_fail rp.2.1 2
    have c2 : f_X12_aTest_j19 k1 113 = some (nI 0, k') := by simp (disch := first | assumption | omega | decide | ((repeat first | apply lyI | apply lyJ | apply lywI | apply lywJ | apply csI | apply csJ | apply cswI | apply cswJ); assumption)) only [f_X12_aTest_j19, SM, LI, ↓li_m1, nI_add, pk_mul, nn_sub, nn_m1, nn_div, nn_rem, nn_nz, nn_mod, nJ_l, lN_add, lN_mul, nn_tb1, nI_bt, nn_and, nn_or, nn_xor, nn_shr, nn_1shl, nn_31, il_p, il_n, it_p, it_n, ie_p, ie_n, ie_b, ie_b1, ie_m, ie_mm, it_m, it_m0, il_m0, bI_rZ, Option.bind_some, bd2_some, Nat.add_zero, Nat.zero_add, if_true, if_false, Bool.false_eq_true, eq_self, hI_R, hJ_R, ng_t, ng_e, r, rz0]
    refine ⟨k', bad k' ?_, rwp_fail rp f, l⟩
    rw [← c2]
    rcases Nat.lt_or_ge (tcI T n (i + 1)) 30 with u | u
    · have lt : iwI T n (i + 1) < nI 22 := by
        rcases Nat.lt_or_ge (tcI T n (i + 1)) 15 with u2 | u2
        · exact Int32.lt_trans (iw_lt (by omega)).1 (by decide)
        · rw [iw_t u2]
          exact nI_lt (b := 22) (by omega) (by decide)
      simp (disch := first | assumption | omega | decide | ((repeat first | apply lyI | apply lyJ | apply lywI | apply lywJ | apply csI | apply csJ | apply cswI | apply cswJ); assumption)) only [f_X12_aTest, SM, LI, ↓li_m1, nI_add, pk_mul, nn_sub, nn_m1, nn_div, nn_rem, nn_nz, nn_mod, nJ_l, lN_add, lN_mul, nn_tb1, nI_bt, nn_and, nn_or, nn_xor, nn_shr, nn_1shl, nn_31, il_p, il_n, it_p, it_n, ie_p, ie_n, ie_b, ie_b1, ie_m, ie_mm, it_m, it_m0, il_m0, bI_rZ, Option.bind_some, bd2_some, Nat.add_zero, Nat.zero_add, if_true, if_false, Bool.false_eq_true, eq_self, hI_R, hJ_R, ng_t, ng_e, iw, if_pos lt]
    · rw [iw_t (by omega)] at iw
      have u2 : 33 < tcI T n (i + 1) := by omega
      simp (disch := first | assumption | omega | decide | ((repeat first | apply lyI | apply lyJ | apply lywI | apply lywJ | apply csI | apply csJ | apply cswI | apply cswJ); assumption)) only [f_X12_aTest, SM, LI, ↓li_m1, nI_add, pk_mul, nn_sub, nn_m1, nn_div, nn_rem, nn_nz, nn_mod, nJ_l, lN_add, lN_mul, nn_tb1, nI_bt, nn_and, nn_or, nn_xor, nn_shr, nn_1shl, nn_31, il_p, il_n, it_p, it_n, ie_p, ie_n, ie_b, ie_b1, ie_m, ie_mm, it_m, it_m0, il_m0, bI_rZ, Option.bind_some, bd2_some, Nat.add_zero, Nat.zero_add, if_true, if_false, Bool.false_eq_true, eq_self, hI_R, hJ_R, ng_t, ng_e, iw]
  · rw [if_neg hx]
    rw [iw_t (by omega)] at iw
    have t30 : 30 ≤ tcI T n (i + 1) := by omega
    have t33 : tcI T n (i + 1) ≤ 33 := by omega
    have ar : nI 2100 + nI (tcI T n (i + 1) - 8) = nI (2092 + tcI T n (i + 1)) := by
      rw [nI_add, show 2100 + (tcI T n (i + 1) - 8) = 2092 + tcI T n (i + 1) by omega]
    have fk : FR k1 (hI k1 114 (1748 + 4 * N) (nI (2092 + tcI T n (i + 1)))) [114] [] [] [] := FR.hI (by decide) (by decide) (by decide)
    obtain ⟨k2, r, f, l⟩ := r_go (rc_fr fk (by decide) (by decide) rp.2.1)
    have rp2 : RWp k0 k2 T n (i + 1 + 1) C V K N dp op (sgK K N + 1) (r4 (2092 + tcI T n (i + 1)) 0 0 0) := rwp_up (p := 0) (x := 2092 + tcI T n (i + 1)) rp (by decide) f l (lt4f rfl rfl rfl rfl)
    have l2 := rp2.2.1.1
    by_cases h33 : tcI T n (i + 1) = 33
    · rw [if_pos h33]
      rw [h33] at iw r rp2
      have r'' : f_X12_ahead (hI k1 114 (1748 + 4 * N) (nI 2125)) 113 = some k2 := r
      obtain ⟨y1, y2⟩ := r_number (to := 1748 + 4 * N + 1) (lo := 0) (hi := 256) rp2.2.1 (by decide) (by decide) (by omega)
      by_cases hq : tcI T n (i + 1 + 1) = 2 ∧ 0 ≤ nuI T n (i + 1 + 1) ∧ nuI T n (i + 1 + 1) ≤ 256
      · have hq' : tcI T n (i + 2) = 2 ∧ 0 ≤ nuI T n (i + 2) ∧ nuI T n (i + 2) ≤ 256 := hq
        rw [if_pos hq']
        obtain ⟨k3, s, f3, l3⟩ := y1 hq
        have rp3 : RWp k0 k3 T n (i + 1 + 1 + 1) C V K N dp op (sgK K N + 1) (r4 2125 (nuI T n (i + 2)) 0 0) := rwp_up (p := 1) (x := nuI T n (i + 2)) rp2 (by decide) f3 l3 (lt4f rfl rfl rfl rfl)
        have at1 : f_X12_aTest k1 113 (nI (1748 + 4 * N)) = some (nI 1, k3) := by simp (disch := first | assumption | omega | decide | ((repeat first | apply lyI | apply lyJ | apply lywI | apply lywJ | apply csI | apply csJ | apply cswI | apply cswJ); assumption)) only [f_X12_aTest, SM, LI, ↓li_m1, nI_add, pk_mul, nn_sub, nn_m1, nn_div, nn_rem, nn_nz, nn_mod, nJ_l, lN_add, lN_mul, nn_tb1, nI_bt, nn_and, nn_or, nn_xor, nn_shr, nn_1shl, nn_31, il_p, il_n, it_p, it_n, ie_p, ie_n, ie_b, ie_b1, ie_m, ie_mm, it_m, it_m0, il_m0, bI_rZ, Option.bind_some, bd2_some, Nat.add_zero, Nat.zero_add, if_true, if_false, Bool.false_eq_true, eq_self, hI_R, hJ_R, ng_t, ng_e, iw, r'', s, rz1]
        rw [good k3 at1]
        exact fin k3 2125 (nuI T n (i + 2)) (i + 3) (by decide) rp3
      · have hq' : ¬ (tcI T n (i + 2) = 2 ∧ 0 ≤ nuI T n (i + 2) ∧ nuI T n (i + 2) ≤ 256) := hq
        rw [if_neg hq']
        obtain ⟨k3, s, f3, l3⟩ := y2 hq
        have at1 : f_X12_aTest k1 113 (nI (1748 + 4 * N)) = some (nI 0, k3) := by simp (disch := first | assumption | omega | decide | ((repeat first | apply lyI | apply lyJ | apply lywI | apply lywJ | apply csI | apply csJ | apply cswI | apply cswJ); assumption)) only [f_X12_aTest, SM, LI, ↓li_m1, nI_add, pk_mul, nn_sub, nn_m1, nn_div, nn_rem, nn_nz, nn_mod, nJ_l, lN_add, lN_mul, nn_tb1, nI_bt, nn_and, nn_or, nn_xor, nn_shr, nn_1shl, nn_31, il_p, il_n, it_p, it_n, ie_p, ie_n, ie_b, ie_b1, ie_m, ie_mm, it_m, it_m0, il_m0, bI_rZ, Option.bind_some, bd2_some, Nat.add_zero, Nat.zero_add, if_true, if_false, Bool.false_eq_true, eq_self, hI_R, hJ_R, ng_t, ng_e, iw, r'', s, rz0]
        exact ⟨k3, bad k3 at1, rwp_fail rp2 f3, l3⟩
    · rw [if_neg h33]
      have c3 := rp2.2.2.2.1.1
      have ar2 : 2100 + (tcI T n (i + 1) - 8) = 2092 + tcI T n (i + 1) := by omega
      obtain ⟨y1, y2⟩ := r_q rp2 nv n60 (s := 2) (Or.inl rfl) (p := 1) (by decide)
      cases hb : nmO T n (i + 1 + 1) C V 2 with
      | none =>
        obtain ⟨k3, s, f3, l3⟩ := y2 hb
        have s' : f_X12_name k2 113 (nI (1748 + 4 * N + 1)) (nI 28) (nI (C 2)) = some (nI 0, k3) := s
        have at1 : f_X12_aTest k1 113 (nI (1748 + 4 * N)) = some (nI 0, k3) := by simp (disch := first | assumption | omega | decide | ((repeat first | apply lyI | apply lyJ | apply lywI | apply lywJ | apply csI | apply csJ | apply cswI | apply cswJ); assumption)) only [f_X12_aTest, SM, LI, ↓li_m1, nI_add, pk_mul, nn_sub, nn_m1, nn_div, nn_rem, nn_nz, nn_mod, nJ_l, lN_add, lN_mul, nn_tb1, nI_bt, nn_and, nn_or, nn_xor, nn_shr, nn_1shl, nn_31, il_p, il_n, it_p, it_n, ie_p, ie_n, ie_b, ie_b1, ie_m, ie_mm, it_m, it_m0, il_m0, bI_rZ, Option.bind_some, bd2_some, Nat.add_zero, Nat.zero_add, if_true, if_false, Bool.false_eq_true, eq_self, hI_R, hJ_R, ng_t, ng_e, iw, ar2, r, c3, s', rz0]
        exact ⟨k3, bad k3 at1, rwp_fail rp2 f3, l3⟩
      | some b =>
        obtain ⟨k3, s, rp3⟩ := y1 b hb
        have s' : f_X12_name k2 113 (nI (1748 + 4 * N + 1)) (nI 28) (nI (C 2)) = some (nI 1, k3) := s
        have at1 : f_X12_aTest k1 113 (nI (1748 + 4 * N)) = some (nI 1, k3) := by simp (disch := first | assumption | omega | decide | ((repeat first | apply lyI | apply lyJ | apply lywI | apply lywJ | apply csI | apply csJ | apply cswI | apply cswJ); assumption)) only [f_X12_aTest, SM, LI, ↓li_m1, nI_add, pk_mul, nn_sub, nn_m1, nn_div, nn_rem, nn_nz, nn_mod, nJ_l, lN_add, lN_mul, nn_tb1, nI_bt, nn_and, nn_or, nn_xor, nn_shr, nn_1shl, nn_31, il_p, il_n, it_p, it_n, ie_p, ie_n, ie_b, ie_b1, ie_m, ie_mm, it_m, it_m0, il_m0, bI_rZ, Option.bind_some, bd2_some, Nat.add_zero, Nat.zero_add, if_true, if_false, Bool.false_eq_true, eq_self, hI_R, hJ_R, ng_t, ng_e, iw, ar2, r, c3, s', rz1]
        rw [good k3 at1]
        exact fin k3 (2092 + tcI T n (i + 1)) b (i + 3) (by omega) (rwp_c rp3 rfl rfl rfl rfl)
theorem r_end {k0 k : aH} {T : Nat → Nat} {n i : Nat} {C : Nat → Nat} {V : Nat → List Nat} {K : Nat → Nat → Nat} {N dp : Nat} {op : Nat → Nat} (mr : MRp k0 k T n i C V K N dp op) (pv : PVp C K N dp op) (t : tcI T n i = 34) : ORp k0 T n C V N (f_X12_step k 113) (pStep T n i C V K N dp op) := by
  have d3' := pv.2.1
  have s30 := pv.1
  have s2 := pv.2.2.1
  obtain ⟨⟨f0, a0⟩, rc, nr, q, ⟨d1, d2, d3⟩, rw, ro⟩ := id mr
  have kl := rc.1
  have iw := r_inW kl rc.2.1
  rw [iw_t (by omega), t] at iw
  have iw' : f_X12_inWords k 113 1 = some (nI 26) := iw
  have ep : pStep T n i C V K N dp op = (if dp = 0 then .inl (2, frI T n i) else smS T n (i + 1) (clK K N (op (dp - 1))) (dp - 1) op) := by
    unfold pStep
    rw [if_pos t]
  have n60 : N ≤ 60 := by omega
  have b1 : f_X12_step k 113 = f_X12_step_j36 k 113 (nI 26) (nI N) (nI (1748 + 4 * N)) := by simp (disch := first | assumption | omega | decide | ((repeat first | apply lyI | apply lyJ | apply lywI | apply lywJ | apply csI | apply csJ | apply cswI | apply cswJ); assumption)) only [f_X12_step, SM, LI, ↓li_m1, nI_add, pk_mul, nn_sub, nn_m1, nn_div, nn_rem, nn_nz, nn_mod, nJ_l, lN_add, lN_mul, nn_tb1, nI_bt, nn_and, nn_or, nn_xor, nn_shr, nn_1shl, nn_31, il_p, il_n, it_p, it_n, ie_p, ie_n, ie_b, ie_b1, ie_m, ie_mm, it_m, it_m0, il_m0, bI_rZ, Option.bind_some, bd2_some, Nat.add_zero, Nat.zero_add, if_true, if_false, Bool.false_eq_true, eq_self, hI_R, hJ_R, ng_t, ng_e, iw', d3]
  rw [ep, b1]
  by_cases hz : dp = 0
  · rw [if_pos hz]
    obtain ⟨k', r, f, l⟩ := r_fail rc 2
    have ek : fkN T n i 2 = 2 := if_neg (by omega)
    rw [ek] at l
    rw [hz] at d1
    have b2 : f_X12_step_j49 k 113 = some (nI 0, k') := by simp (disch := first | assumption | omega | decide | ((repeat first | apply lyI | apply lyJ | apply lywI | apply lywJ | apply csI | apply csJ | apply cswI | apply cswJ); assumption)) only [f_X12_step_j49, SM, LI, ↓li_m1, nI_add, pk_mul, nn_sub, nn_m1, nn_div, nn_rem, nn_nz, nn_mod, nJ_l, lN_add, lN_mul, nn_tb1, nI_bt, nn_and, nn_or, nn_xor, nn_shr, nn_1shl, nn_31, il_p, il_n, it_p, it_n, ie_p, ie_n, ie_b, ie_b1, ie_m, ie_mm, it_m, it_m0, il_m0, bI_rZ, Option.bind_some, bd2_some, Nat.add_zero, Nat.zero_add, if_true, if_false, Bool.false_eq_true, eq_self, hI_R, hJ_R, ng_t, ng_e, r, rz0]
    refine ⟨k', ?_, ⟨f0.tr (f.mono (by decide) (by decide) (by decide) (by decide)), fun x hx => by rw [f.I 114 (by decide) (by decide) (by decide)]; exact a0 x hx⟩, l⟩
    rw [← b2]
    simp (disch := first | assumption | omega | decide | ((repeat first | apply lyI | apply lyJ | apply lywI | apply lywJ | apply csI | apply csJ | apply cswI | apply cswJ); assumption)) only [f_X12_step_j36, SM, LI, ↓li_m1, nI_add, pk_mul, nn_sub, nn_m1, nn_div, nn_rem, nn_nz, nn_mod, nJ_l, lN_add, lN_mul, nn_tb1, nI_bt, nn_and, nn_or, nn_xor, nn_shr, nn_1shl, nn_31, il_p, il_n, it_p, it_n, ie_p, ie_n, ie_b, ie_b1, ie_m, ie_mm, it_m, it_m0, il_m0, bI_rZ, Option.bind_some, bd2_some, Nat.add_zero, Nat.zero_add, if_true, if_false, Bool.false_eq_true, eq_self, hI_R, hJ_R, ng_t, ng_e, d1]
  · rw [if_neg hz]
    obtain ⟨o1, o2, o3, o4⟩ := pv.2.2.2.2 (dp - 1) (by omega)
    obtain ⟨k1, rp, e⟩ := r_row2 mr (by omega) 26 0 (by decide)
    rw [if_neg (by decide), if_neg (by decide)] at e
    have b2 : f_X12_step_j36 k 113 (nI 26) (nI N) (nI (1748 + 4 * N)) = f_X12_step_j114 k 113 (nI 26) (nI N) (nI (1748 + 4 * N)) 113 (nI (sgK K N)) (nI 0) := by simp (disch := first | assumption | omega | decide | ((repeat first | apply lyI | apply lyJ | apply lywI | apply lywJ | apply csI | apply csJ | apply cswI | apply cswJ); assumption)) only [f_X12_step_j36, f_X12_step_j55, f_X12_step_j77, f_X12_step_j98, SM, LI, ↓li_m1, nI_add, pk_mul, nn_sub, nn_m1, nn_div, nn_rem, nn_nz, nn_mod, nJ_l, lN_add, lN_mul, nn_tb1, nI_bt, nn_and, nn_or, nn_xor, nn_shr, nn_1shl, nn_31, il_p, il_n, it_p, it_n, ie_p, ie_n, ie_b, ie_b1, ie_m, ie_mm, it_m, it_m0, il_m0, bI_rZ, Option.bind_some, bd2_some, Nat.add_zero, Nat.zero_add, if_true, if_false, Bool.false_eq_true, eq_self, hI_R, hJ_R, ng_t, ng_e, d1, d2]
    rw [b2, e]
    obtain ⟨⟨f1, a1⟩, rc1, nr1, q1, ⟨e1, e2, e3⟩, rw1, rn1, ro1⟩ := id rp
    have l1 := rc1.1
    have z5 := ro1 (dp - 1) (by omega)
    have b3 : f_X12_step_j198 k1 113 (nI 26) (nI N) (nI (1748 + 4 * N)) = f_X12_step_j272 k1 113 (nI 26) (nI N) := by simp (disch := first | assumption | omega | decide | ((repeat first | apply lyI | apply lyJ | apply lywI | apply lywJ | apply csI | apply csJ | apply cswI | apply cswJ); assumption)) only [f_X12_step_j198, f_X12_step_j230, f_X12_step_j246, LI, ↓li_m1, nI_add, pk_mul, nn_sub, nn_m1, nn_div, nn_rem, nn_nz, nn_mod, nJ_l, lN_add, lN_mul, nn_tb1, nI_bt, nn_and, nn_or, nn_xor, nn_shr, nn_1shl, nn_31, il_p, il_n, it_p, it_n, ie_p, ie_n, ie_b, ie_b1, ie_m, ie_mm, it_m, it_m0, il_m0, bI_rZ, Option.bind_some, bd2_some, Nat.add_zero, Nat.zero_add, if_true, if_false, Bool.false_eq_true, eq_self, hI_R, hJ_R, ng_t, ng_e]
    have b4 : f_X12_step_j272 k1 113 (nI 26) (nI N) = f_X12_step_j311 (hI (hI k1 113 29 (nI (dp - 1))) 114 (1748 + 4 * op (dp - 1) + 3) (nI N)) 113 := by simp (disch := first | assumption | omega | decide | ((repeat first | apply lyI | apply lyJ | apply lywI | apply lywJ | apply csI | apply csJ | apply cswI | apply cswJ); assumption)) only [f_X12_step_j272, SM, rI_eq, rI_ne, rI_nk, rJ_eq, rJ_ne, rJ_nk, rI_J, rJ_I, LI, ↓li_m1, nI_add, pk_mul, nn_sub, nn_m1, nn_div, nn_rem, nn_nz, nn_mod, nJ_l, lN_add, lN_mul, nn_tb1, nI_bt, nn_and, nn_or, nn_xor, nn_shr, nn_1shl, nn_31, il_p, il_n, it_p, it_n, ie_p, ie_n, ie_b, ie_b1, ie_m, ie_mm, it_m, it_m0, il_m0, bI_rZ, Option.bind_some, bd2_some, Nat.add_zero, Nat.zero_add, if_true, if_false, Bool.false_eq_true, eq_self, hI_R, hJ_R, ng_t, ng_e, e1, z5]
    rw [b3, b4]
    have fa : FR k1 (hI (hI k1 113 29 (nI (dp - 1))) 114 (1748 + 4 * op (dp - 1) + 3) (nI N)) [114, 125] [] [] [29] := (fr_1 (by decide)).tr (FR.hI (by decide) (by decide) (by decide))
    have k114 : ∀ y, y ≠ 1748 + 4 * op (dp - 1) + 3 → (hI (hI k1 113 29 (nI (dp - 1))) 114 (1748 + 4 * op (dp - 1) + 3) (nI N)).2.1 114 y = k1.2.1 114 y := fun y hy => by rw [rI_nk hy, rI_ne (by decide)]
    refine r_semi ⟨⟨f1.tr (fa.mono (by decide) (by decide) (by decide) (by decide)), fun x hx => (k114 x (by omega)).trans (a1 x hx)⟩, rc_fr fa (by decide) (by decide) rc1, nr1, ⟨(k114 3 (by omega)).trans q1.1, (k114 4 (by omega)).trans q1.2⟩, ⟨?_, ?_, (k114 1607 (by omega)).trans e3⟩, fun r j hr hj => ?_, fun e he => ro1 e (by omega)⟩
    · rw [rI_ne (by decide), rI_eq]
    · rw [rI_ne (by decide), rI_nk (by decide), cl_sg1 o1]
      exact e2
    · by_cases hh : r = op (dp - 1) ∧ j = 3
      · rw [hh.1, hh.2, rI_eq, cl_3]
      · rw [k114 _ (by omega)]
        have ek : clK K N (op (dp - 1)) r j = rwK K N 26 0 0 0 r j := if_neg hh
        rw [ek]
        rcases Nat.lt_or_ge r N with u | u
        · rw [rw_lt (by omega)]
          exact rw1 r j u hj
        · obtain rfl : r = N := by omega
          rw [rn1 j hj]
          unfold rwK
          rw [if_pos rfl]
          rfl
theorem r_part {k0 k : aH} {T : Nat → Nat} {n i : Nat} {C : Nat → Nat} {V : Nat → List Nat} {K : Nat → Nat → Nat} {N dp : Nat} {op : Nat → Nat} (mr : MRp k0 k T n i C V K N dp op) (pv : PVp C K N dp op) (nv : NV C V) : ORp k0 T n C V N (f_X12_step k 113) (pStep T n i C V K N dp op) := by
  have tl := tc_le (T := T) (n := n) (i := i)
  obtain ⟨⟨f0, a0⟩, rc, nr, q, ⟨d1, d2, d3⟩, rw, ro⟩ := id mr
  have kl := rc.1
  have iw := r_inW kl rc.2.1
  have hd3 := pv.2.1
  have s30 := pv.1
  have s2 := pv.2.2.1
  by_cases t : tcI T n i = 34
  · exact r_end mr pv t
  by_cases hx : tcI T n i < 25 ∨ 29 < tcI T n i
  · obtain ⟨k', r, f, l⟩ := r_fail rc 2
    have ep : pStep T n i C V K N dp op = .inl (fkN T n i 2, frI T n i) := by
      unfold pStep
      rw [if_neg t, if_pos hx]
    rw [ep]
    refine ⟨k', ?_, ⟨f0.tr (f.mono (by decide) (by decide) (by decide) (by decide)), fun x hx => by rw [f.I 114 (by decide) (by decide) (by decide)]; exact a0 x hx⟩, l⟩
    have b2 : f_X12_step_j49 k 113 = some (nI 0, k') := by simp (disch := first | assumption | omega | decide | ((repeat first | apply lyI | apply lyJ | apply lywI | apply lywJ | apply csI | apply csJ | apply cswI | apply cswJ); assumption)) only [f_X12_step_j49, SM, LI, ↓li_m1, nI_add, pk_mul, nn_sub, nn_m1, nn_div, nn_rem, nn_nz, nn_mod, nJ_l, lN_add, lN_mul, nn_tb1, nI_bt, nn_and, nn_or, nn_xor, nn_shr, nn_1shl, nn_31, il_p, il_n, it_p, it_n, ie_p, ie_n, ie_b, ie_b1, ie_m, ie_mm, it_m, it_m0, il_m0, bI_rZ, Option.bind_some, bd2_some, Nat.add_zero, Nat.zero_add, if_true, if_false, Bool.false_eq_true, eq_self, hI_R, hJ_R, ng_t, ng_e, r, rz0]
    rw [← b2]
    rcases Nat.lt_or_ge (tcI T n i) 25 with u | u
    · obtain ⟨i1, i2⟩ := iw_lt u
      have i1' : iwI T n i < nI 17 := i1
      have i2' : ¬ iwI T n i = nI 26 := i2
      have b1 : f_X12_step k 113 = f_X12_step_j36 k 113 (iwI T n i) (nI N) (nI (1748 + 4 * N)) := by simp (disch := first | assumption | omega | decide | ((repeat first | apply lyI | apply lyJ | apply lywI | apply lywJ | apply csI | apply csJ | apply cswI | apply cswJ); assumption)) only [f_X12_step, SM, LI, ↓li_m1, nI_add, pk_mul, nn_sub, nn_m1, nn_div, nn_rem, nn_nz, nn_mod, nJ_l, lN_add, lN_mul, nn_tb1, nI_bt, nn_and, nn_or, nn_xor, nn_shr, nn_1shl, nn_31, il_p, il_n, it_p, it_n, ie_p, ie_n, ie_b, ie_b1, ie_m, ie_mm, it_m, it_m0, il_m0, bI_rZ, Option.bind_some, bd2_some, Nat.add_zero, Nat.zero_add, if_true, if_false, Bool.false_eq_true, eq_self, hI_R, hJ_R, ng_t, ng_e, iw, d3, if_pos i1']
      rw [b1]
      simp (disch := first | assumption | omega | decide | ((repeat first | apply lyI | apply lyJ | apply lywI | apply lywJ | apply csI | apply csJ | apply cswI | apply cswJ); assumption)) only [f_X12_step_j36, SM, LI, ↓li_m1, nI_add, pk_mul, nn_sub, nn_m1, nn_div, nn_rem, nn_nz, nn_mod, nJ_l, lN_add, lN_mul, nn_tb1, nI_bt, nn_and, nn_or, nn_xor, nn_shr, nn_1shl, nn_31, il_p, il_n, it_p, it_n, ie_p, ie_n, ie_b, ie_b1, ie_m, ie_mm, it_m, it_m0, il_m0, bI_rZ, Option.bind_some, bd2_some, Nat.add_zero, Nat.zero_add, if_true, if_false, Bool.false_eq_true, eq_self, hI_R, hJ_R, ng_t, ng_e, if_neg i2']
    · rw [iw_t (by omega)] at iw
      have u2 : 29 < tcI T n i := by omega
      have b1 : f_X12_step k 113 = f_X12_step_j36 k 113 (nI (tcI T n i - 8)) (nI N) (nI (1748 + 4 * N)) := by simp (disch := first | assumption | omega | decide | ((repeat first | apply lyI | apply lyJ | apply lywI | apply lywJ | apply csI | apply csJ | apply cswI | apply cswJ); assumption)) only [f_X12_step, SM, LI, ↓li_m1, nI_add, pk_mul, nn_sub, nn_m1, nn_div, nn_rem, nn_nz, nn_mod, nJ_l, lN_add, lN_mul, nn_tb1, nI_bt, nn_and, nn_or, nn_xor, nn_shr, nn_1shl, nn_31, il_p, il_n, it_p, it_n, ie_p, ie_n, ie_b, ie_b1, ie_m, ie_mm, it_m, it_m0, il_m0, bI_rZ, Option.bind_some, bd2_some, Nat.add_zero, Nat.zero_add, if_true, if_false, Bool.false_eq_true, eq_self, hI_R, hJ_R, ng_t, ng_e, iw, d3]
      rw [b1]
      simp (disch := first | assumption | omega | decide | ((repeat first | apply lyI | apply lyJ | apply lywI | apply lywJ | apply csI | apply csJ | apply cswI | apply cswJ); assumption)) only [f_X12_step_j36, SM, LI, ↓li_m1, nI_add, pk_mul, nn_sub, nn_m1, nn_div, nn_rem, nn_nz, nn_mod, nJ_l, lN_add, lN_mul, nn_tb1, nI_bt, nn_and, nn_or, nn_xor, nn_shr, nn_1shl, nn_31, il_p, il_n, it_p, it_n, ie_p, ie_n, ie_b, ie_b1, ie_m, ie_mm, it_m, it_m0, il_m0, bI_rZ, Option.bind_some, bd2_some, Nat.add_zero, Nat.zero_add, if_true, if_false, Bool.false_eq_true, eq_self, hI_R, hJ_R, ng_t, ng_e]
  have t25 : 25 ≤ tcI T n i := by omega
  have t29 : tcI T n i ≤ 29 := by omega
  by_cases h30 : 30 ≤ sgK K N
  · obtain ⟨k', r, f, l⟩ := r_fail rc 6
    have ek : fkN T n i 6 = 6 := if_neg (by omega)
    rw [ek] at l
    have es : sgK K N = 30 := by omega
    rw [es] at d2
    have ep : pStep T n i C V K N dp op = .inl (6, frI T n i) := by
      unfold pStep
      rw [if_neg t, if_neg hx, if_pos h30]
    rw [ep]
    rw [iw_t (by omega)] at iw
    have b1 : f_X12_step k 113 = f_X12_step_j55 k 113 (nI (tcI T n i - 8)) (nI N) (nI (1748 + 4 * N)) := by simp (disch := first | assumption | omega | decide | ((repeat first | apply lyI | apply lyJ | apply lywI | apply lywJ | apply csI | apply csJ | apply cswI | apply cswJ); assumption)) only [f_X12_step, SM, LI, ↓li_m1, nI_add, pk_mul, nn_sub, nn_m1, nn_div, nn_rem, nn_nz, nn_mod, nJ_l, lN_add, lN_mul, nn_tb1, nI_bt, nn_and, nn_or, nn_xor, nn_shr, nn_1shl, nn_31, il_p, il_n, it_p, it_n, ie_p, ie_n, ie_b, ie_b1, ie_m, ie_mm, it_m, it_m0, il_m0, bI_rZ, Option.bind_some, bd2_some, Nat.add_zero, Nat.zero_add, if_true, if_false, Bool.false_eq_true, eq_self, hI_R, hJ_R, ng_t, ng_e, iw, d3]
    exact ⟨k', by rw [b1]; simp (disch := first | assumption | omega | decide | ((repeat first | apply lyI | apply lyJ | apply lywI | apply lywJ | apply csI | apply csJ | apply cswI | apply cswJ); assumption)) only [f_X12_step_j55, SM, LI, ↓li_m1, nI_add, pk_mul, nn_sub, nn_m1, nn_div, nn_rem, nn_nz, nn_mod, nJ_l, lN_add, lN_mul, nn_tb1, nI_bt, nn_and, nn_or, nn_xor, nn_shr, nn_1shl, nn_31, il_p, il_n, it_p, it_n, ie_p, ie_n, ie_b, ie_b1, ie_m, ie_mm, it_m, it_m0, il_m0, bI_rZ, Option.bind_some, bd2_some, Nat.add_zero, Nat.zero_add, if_true, if_false, Bool.false_eq_true, eq_self, hI_R, hJ_R, ng_t, ng_e, d2, r, rz0], ⟨f0.tr (f.mono (by decide) (by decide) (by decide) (by decide)), fun x hx => by rw [f.I 114 (by decide) (by decide) (by decide)]; exact a0 x hx⟩, l⟩
  rcases (show tcI T n i = 25 ∨ tcI T n i = 26 ∨ tcI T n i = 27 ∨ tcI T n i = 28 ∨ tcI T n i = 29 by omega) with e | e | e | e | e
  · exact r_ask mr pv nv e (by omega)
  · exact r_best mr pv nv e (by omega)
  · exact r_next mr pv e (by omega)
  · exact r_rule mr pv nv e (by omega)
  · rcases Nat.lt_or_ge dp 3 with u | u
    · exact r_when mr pv nv e (by omega) u
    · obtain ⟨k', r, f, l⟩ := r_fail rc 7
      have ek : fkN T n i 7 = 7 := if_neg (by omega)
      rw [ek] at l
      have ed : dp = 3 := by omega
      rw [ed] at d1
      have ep : pStep T n i C V K N dp op = .inl (7, frI T n i) := by
        unfold pStep
        rw [if_neg t, if_neg hx, if_neg h30, if_neg (by omega), if_neg (by omega), if_neg (by omega), if_neg (by omega), if_pos u]
      rw [ep]
      rw [iw_t (by omega), e] at iw
      have iw' : f_X12_inWords k 113 1 = some (nI 21) := iw
      have b1 : f_X12_step k 113 = f_X12_step_j55 k 113 (nI 21) (nI N) (nI (1748 + 4 * N)) := by simp (disch := first | assumption | omega | decide | ((repeat first | apply lyI | apply lyJ | apply lywI | apply lywJ | apply csI | apply csJ | apply cswI | apply cswJ); assumption)) only [f_X12_step, SM, LI, ↓li_m1, nI_add, pk_mul, nn_sub, nn_m1, nn_div, nn_rem, nn_nz, nn_mod, nJ_l, lN_add, lN_mul, nn_tb1, nI_bt, nn_and, nn_or, nn_xor, nn_shr, nn_1shl, nn_31, il_p, il_n, it_p, it_n, ie_p, ie_n, ie_b, ie_b1, ie_m, ie_mm, it_m, it_m0, il_m0, bI_rZ, Option.bind_some, bd2_some, Nat.add_zero, Nat.zero_add, if_true, if_false, Bool.false_eq_true, eq_self, hI_R, hJ_R, ng_t, ng_e, iw', d3]
      have b2 : f_X12_step_j55 k 113 (nI 21) (nI N) (nI (1748 + 4 * N)) = f_X12_step_j77 k 113 (nI 21) (nI N) (nI (1748 + 4 * N)) := by simp (disch := first | assumption | omega | decide | ((repeat first | apply lyI | apply lyJ | apply lywI | apply lywJ | apply csI | apply csJ | apply cswI | apply cswJ); assumption)) only [f_X12_step_j55, SM, LI, ↓li_m1, nI_add, pk_mul, nn_sub, nn_m1, nn_div, nn_rem, nn_nz, nn_mod, nJ_l, lN_add, lN_mul, nn_tb1, nI_bt, nn_and, nn_or, nn_xor, nn_shr, nn_1shl, nn_31, il_p, il_n, it_p, it_n, ie_p, ie_n, ie_b, ie_b1, ie_m, ie_mm, it_m, it_m0, il_m0, bI_rZ, Option.bind_some, bd2_some, Nat.add_zero, Nat.zero_add, if_true, if_false, Bool.false_eq_true, eq_self, hI_R, hJ_R, ng_t, ng_e, d2]
      exact ⟨k', by rw [b1, b2]; simp (disch := first | assumption | omega | decide | ((repeat first | apply lyI | apply lyJ | apply lywI | apply lywJ | apply csI | apply csJ | apply cswI | apply cswJ); assumption)) only [f_X12_step_j77, SM, LI, ↓li_m1, nI_add, pk_mul, nn_sub, nn_m1, nn_div, nn_rem, nn_nz, nn_mod, nJ_l, lN_add, lN_mul, nn_tb1, nI_bt, nn_and, nn_or, nn_xor, nn_shr, nn_1shl, nn_31, il_p, il_n, it_p, it_n, ie_p, ie_n, ie_b, ie_b1, ie_m, ie_mm, it_m, it_m0, il_m0, bI_rZ, Option.bind_some, bd2_some, Nat.add_zero, Nat.zero_add, if_true, if_false, Bool.false_eq_true, eq_self, hI_R, hJ_R, ng_t, ng_e, d1, r, rz0], ⟨f0.tr (f.mono (by decide) (by decide) (by decide) (by decide)), fun x hx => by rw [f.I 114 (by decide) (by decide) (by decide)]; exact a0 x hx⟩, l⟩
