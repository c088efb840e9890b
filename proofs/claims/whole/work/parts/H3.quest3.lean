/-! ===== cases: questions, both sides ===== -/
theorem dv_q {A : Nat → Nat} {V : Nat → List Nat} {Bv : Nat → Nat} {Q : Nat → Nat → Bool} (dv : DV A V Bv Q) (q12 : A 3 < 12) {fe : Nat} (f99 : fe ≤ 99) {T : Nat → Nat} {n i : Nat} (hb : nwB T n i (cA A) V = true) : NV (cA (qA A fe)) (qV T n i A V) ∧ ∀ S, DV (qA A fe) (qV T n i A V) Bv (qQ A Bv Q S) := by
  obtain ⟨z1, z2, z3, z4, z5, z6, z7, z8, z9⟩ := dv
  have ag := qa_ag (A := A) (fe := fe)
  have h4 := z1.1.1
  unfold nwB at hb
  rw [Bool.and_eq_true, decide_eq_true_eq, Bool.not_eq_true'] at hb
  obtain ⟨nv', -⟩ := nv_up z2 (wd_vd hb.1) (s := 2) (by decide) q12 hb.2
  have nv2 : NV (cA (qA A fe)) (qV T n i A V) := by
    rw [qa_cA]
    exact nv'
  refine ⟨nv2, fun S => ⟨qa_wf z1 q12 f99, nv2, ag_2 ag h4 z3, z4, fun v k hv h4' hk => ?_, fun q w hq => ?_, ?_, ag_vf ag z1 z8, ag_sq ag z1 z9⟩⟩
  · rw [qa_n (by decide) (by omega)] at hv
    rw [qa_n (by omega) (by omega)]
    exact z5 v k hv h4' hk
  · rw [ag_cn ag h4, qa_3]
    unfold qQ at hq
    by_cases e : q = A 3
    · rw [if_pos e, Bool.and_eq_true] at hq
      exact ⟨by omega, hq.1⟩
    · rw [if_neg e] at hq
      have := z6 q w hq
      exact ⟨by omega, this.2⟩
  · rw [qa_n (by decide) (by omega), qa_n (by decide) (by omega)]
    exact z7
theorem x_quest {h0 h : aH} {c : Nat} {T : Nat → Nat} {n m i : Nat} {A : Nat → Nat} {V : Nat → List Nat} {Bv : Nat → Nat} {Q : Nat → Nat → Bool} (d : DC h0 h c T n m i A V Bv Q) (dv : DV A V Bv Q) (t : tcI T n i = 11) : OCc h0 c T n m (f_X2_readQuestion h 42) (qO T n i A V Bv Q) := by
  obtain ⟨d1, lc, hs, h6, nc, dca, dn, dw⟩ := id d
  obtain ⟨wf, nv, a2, bb, -, -, -, vf, -⟩ := id dv
  obtain ⟨b0, b1, b2l, b2, b3, b4⟩ := wf_b wf
  have hl := lc.1
  have e16 : h.2.1 c 16 = nI (A 3) := dca.1.2.2.2.1
  unfold qO
  by_cases q12 : A 3 = 12
  · rw [if_pos q12]
    rw [q12] at e16
    obtain ⟨h', r, f, l⟩ := x_ref lc 6
    rw [fk_n (by omega)] at l
    exact dc_fl d (by decide) (by decide) f l (by rw [u_X2_readQuestion_e]; simp (disch := first | assumption | omega | decide | ((repeat first | apply lyI | apply lyJ | apply lywI | apply lywJ | apply csI | apply csJ | apply cswI | apply cswJ); assumption)) only [SR, SX, SC, LI, ↓li_m1, nI_add, pk_mul, nn_sub, nn_m1, nn_div, nn_rem, nn_nz, nn_mod, nJ_l, lN_add, lN_mul, nn_tb1, nI_bt, nn_and, nn_or, nn_xor, nn_shr, nn_1shl, nn_31, il_p, il_n, it_p, it_n, ie_p, ie_n, ie_b, ie_b1, ie_m, ie_mm, it_m, it_m0, il_m0, bI_rZ, Option.bind_some, bd2_some, Nat.add_zero, Nat.zero_add, if_true, if_false, Bool.false_eq_true, eq_self, hI_R, hJ_R, ng_t, ng_e, h6, e16, r, rz0]; try (unfold u_X2_readQuestion_c4; simp (disch := first | assumption | omega | decide | ((repeat first | apply lyI | apply lyJ | apply lywI | apply lywJ | apply csI | apply csJ | apply cswI | apply cswJ); assumption)) only [SR, SX, SC, LI, ↓li_m1, nI_add, pk_mul, nn_sub, nn_m1, nn_div, nn_rem, nn_nz, nn_mod, nJ_l, lN_add, lN_mul, nn_tb1, nI_bt, nn_and, nn_or, nn_xor, nn_shr, nn_1shl, nn_31, il_p, il_n, it_p, it_n, ie_p, ie_n, ie_b, ie_b1, ie_m, ie_mm, it_m, it_m0, il_m0, bI_rZ, Option.bind_some, bd2_some, Nat.add_zero, Nat.zero_add, if_true, if_false, Bool.false_eq_true, eq_self, hI_R, hJ_R, ng_t, ng_e, h6, e16, r, rz0]); try (unfold u_X2_readQuestion_c3; simp (disch := first | assumption | omega | decide | ((repeat first | apply lyI | apply lyJ | apply lywI | apply lywJ | apply csI | apply csJ | apply cswI | apply cswJ); assumption)) only [SR, SX, SC, LI, ↓li_m1, nI_add, pk_mul, nn_sub, nn_m1, nn_div, nn_rem, nn_nz, nn_mod, nJ_l, lN_add, lN_mul, nn_tb1, nI_bt, nn_and, nn_or, nn_xor, nn_shr, nn_1shl, nn_31, il_p, il_n, it_p, it_n, ie_p, ie_n, ie_b, ie_b1, ie_m, ie_mm, it_m, it_m0, il_m0, bI_rZ, Option.bind_some, bd2_some, Nat.add_zero, Nat.zero_add, if_true, if_false, Bool.false_eq_true, eq_self, hI_R, hJ_R, ng_t, ng_e, h6, e16, r, rz0]); try (unfold u_X2_readQuestion_c2; simp (disch := first | assumption | omega | decide | ((repeat first | apply lyI | apply lyJ | apply lywI | apply lywJ | apply csI | apply csJ | apply cswI | apply cswJ); assumption)) only [SR, SX, SC, LI, ↓li_m1, nI_add, pk_mul, nn_sub, nn_m1, nn_div, nn_rem, nn_nz, nn_mod, nJ_l, lN_add, lN_mul, nn_tb1, nI_bt, nn_and, nn_or, nn_xor, nn_shr, nn_1shl, nn_31, il_p, il_n, it_p, it_n, ie_p, ie_n, ie_b, ie_b1, ie_m, ie_mm, it_m, it_m0, il_m0, bI_rZ, Option.bind_some, bd2_some, Nat.add_zero, Nat.zero_add, if_true, if_false, Bool.false_eq_true, eq_self, hI_R, hJ_R, ng_t, ng_e, h6, e16, r, rz0]); try (unfold u_X2_readQuestion_c1; simp (disch := first | assumption | omega | decide | ((repeat first | apply lyI | apply lyJ | apply lywI | apply lywJ | apply csI | apply csJ | apply cswI | apply cswJ); assumption)) only [SR, SX, SC, LI, ↓li_m1, nI_add, pk_mul, nn_sub, nn_m1, nn_div, nn_rem, nn_nz, nn_mod, nJ_l, lN_add, lN_mul, nn_tb1, nI_bt, nn_and, nn_or, nn_xor, nn_shr, nn_1shl, nn_31, il_p, il_n, it_p, it_n, ie_p, ie_n, ie_b, ie_b1, ie_m, ie_mm, it_m, it_m0, il_m0, bI_rZ, Option.bind_some, bd2_some, Nat.add_zero, Nat.zero_add, if_true, if_false, Bool.false_eq_true, eq_self, hI_R, hJ_R, ng_t, ng_e, h6, e16, r, rz0]))
  rw [if_neg q12]
  have q12' : A 3 < 12 := by omega
  obtain ⟨h4, r4, f4, lc4⟩ := x_adv lc (lc_lt lc (by omega))
  have d4 := dc_4 d f4 lc4
  have l4 := lc4.1
  have h46 := d4.2.2.2.1
  obtain ⟨u1, u2⟩ := x_newName lc4 d4.2.2.1 h46 d4.2.2.2.2.1 nv (s := 2) (by decide) q12'
  cases hb : nwB T n (i + 1) (cA A) V with
  | false =>
    rw [if_pos rfl]
    obtain ⟨h9, r, f, l⟩ := u2 hb
    have r' : f_X2_takeNewName h4 42 (nI 2) (nI (A 3)) = some (nI 0, h9) := r
    obtain ⟨n1, n2⟩ := nf_b (T := T) (n := n) (i := i + 1)
    exact dc_fl d4 n1 n2 f l (by rw [u_X2_readQuestion_e]; simp (disch := first | assumption | omega | decide | ((repeat first | apply lyI | apply lyJ | apply lywI | apply lywJ | apply csI | apply csJ | apply cswI | apply cswJ); assumption)) only [SR, SX, SC, LI, ↓li_m1, nI_add, pk_mul, nn_sub, nn_m1, nn_div, nn_rem, nn_nz, nn_mod, nJ_l, lN_add, lN_mul, nn_tb1, nI_bt, nn_and, nn_or, nn_xor, nn_shr, nn_1shl, nn_31, il_p, il_n, it_p, it_n, ie_p, ie_n, ie_b, ie_b1, ie_m, ie_mm, it_m, it_m0, il_m0, bI_rZ, Option.bind_some, bd2_some, Nat.add_zero, Nat.zero_add, if_true, if_false, Bool.false_eq_true, eq_self, hI_R, hJ_R, ng_t, ng_e, h6, e16, r4, r']; try (unfold u_X2_readQuestion_c4; simp (disch := first | assumption | omega | decide | ((repeat first | apply lyI | apply lyJ | apply lywI | apply lywJ | apply csI | apply csJ | apply cswI | apply cswJ); assumption)) only [SR, SX, SC, LI, ↓li_m1, nI_add, pk_mul, nn_sub, nn_m1, nn_div, nn_rem, nn_nz, nn_mod, nJ_l, lN_add, lN_mul, nn_tb1, nI_bt, nn_and, nn_or, nn_xor, nn_shr, nn_1shl, nn_31, il_p, il_n, it_p, it_n, ie_p, ie_n, ie_b, ie_b1, ie_m, ie_mm, it_m, it_m0, il_m0, bI_rZ, Option.bind_some, bd2_some, Nat.add_zero, Nat.zero_add, if_true, if_false, Bool.false_eq_true, eq_self, hI_R, hJ_R, ng_t, ng_e, h6, e16, r4, r']); try (unfold u_X2_readQuestion_c3; simp (disch := first | assumption | omega | decide | ((repeat first | apply lyI | apply lyJ | apply lywI | apply lywJ | apply csI | apply csJ | apply cswI | apply cswJ); assumption)) only [SR, SX, SC, LI, ↓li_m1, nI_add, pk_mul, nn_sub, nn_m1, nn_div, nn_rem, nn_nz, nn_mod, nJ_l, lN_add, lN_mul, nn_tb1, nI_bt, nn_and, nn_or, nn_xor, nn_shr, nn_1shl, nn_31, il_p, il_n, it_p, it_n, ie_p, ie_n, ie_b, ie_b1, ie_m, ie_mm, it_m, it_m0, il_m0, bI_rZ, Option.bind_some, bd2_some, Nat.add_zero, Nat.zero_add, if_true, if_false, Bool.false_eq_true, eq_self, hI_R, hJ_R, ng_t, ng_e, h6, e16, r4, r']); try (unfold u_X2_readQuestion_c2; simp (disch := first | assumption | omega | decide | ((repeat first | apply lyI | apply lyJ | apply lywI | apply lywJ | apply csI | apply csJ | apply cswI | apply cswJ); assumption)) only [SR, SX, SC, LI, ↓li_m1, nI_add, pk_mul, nn_sub, nn_m1, nn_div, nn_rem, nn_nz, nn_mod, nJ_l, lN_add, lN_mul, nn_tb1, nI_bt, nn_and, nn_or, nn_xor, nn_shr, nn_1shl, nn_31, il_p, il_n, it_p, it_n, ie_p, ie_n, ie_b, ie_b1, ie_m, ie_mm, it_m, it_m0, il_m0, bI_rZ, Option.bind_some, bd2_some, Nat.add_zero, Nat.zero_add, if_true, if_false, Bool.false_eq_true, eq_self, hI_R, hJ_R, ng_t, ng_e, h6, e16, r4, r']); try (unfold u_X2_readQuestion_c1; simp (disch := first | assumption | omega | decide | ((repeat first | apply lyI | apply lyJ | apply lywI | apply lywJ | apply csI | apply csJ | apply cswI | apply cswJ); assumption)) only [SR, SX, SC, LI, ↓li_m1, nI_add, pk_mul, nn_sub, nn_m1, nn_div, nn_rem, nn_nz, nn_mod, nJ_l, lN_add, lN_mul, nn_tb1, nI_bt, nn_and, nn_or, nn_xor, nn_shr, nn_1shl, nn_31, il_p, il_n, it_p, it_n, ie_p, ie_n, ie_b, ie_b1, ie_m, ie_mm, it_m, it_m0, il_m0, bI_rZ, Option.bind_some, bd2_some, Nat.add_zero, Nat.zero_add, if_true, if_false, Bool.false_eq_true, eq_self, hI_R, hJ_R, ng_t, ng_e, h6, e16, r4, r']))
  | true =>
    rw [if_neg (by decide)]
    obtain ⟨h5, r5, f5, lc5, nc5⟩ := u1 hb
    have r5' : f_X2_takeNewName h4 42 (nI 2) (nI (A 3)) = some (nI 1, h5) := r5
    have d5 := dcm_nm (dc_m d4) f5 lc5 nc5
    have l5 := lc5.1
    rw [show i + 1 + 1 = i + 2 from rfl] at d5 lc5
    rcases x_take (w := 12) lc5 (by decide) (by decide) with ⟨t6, h7, r7, f7, lc7⟩ | ⟨t6, h7, r7, f7, l7⟩
    · rw [if_neg (fun e => e t6)]
      have d7 := dcm_4 d5 f7 lc7
      have l7 := lc7.1
      rcases x_number lc7 (lo := 0) (hi' := 99) (by decide) (by decide) with ⟨t8, n0, n9, h8, r8, f8, lc8⟩ | ⟨nt, h8, r8, f8, l8⟩
      · rw [if_neg (fun e => e ⟨t8, n0, n9⟩)]
        have d8 := dcm_4 d7 f8 lc8
        have l8 := lc8.1
        rcases x_take (w := 13) lc8 (by decide) (by decide) with ⟨t9, h9, r9, f9, lc9⟩ | ⟨t9, h9, r9, f9, l9⟩
        · rw [if_neg (fun e => e t9)]
          have d9 := dcm_4 d8 f9 lc9
          have l9 := lc9.1
          obtain ⟨h10, r10, dw10⟩ := x_mk d9 wf vf a2 bb
          have l10 := dw10.2.1.1
          obtain ⟨nv', dv'⟩ := dv_q dv q12' (fe := nuI T n (i + 3)) n9 hb
          have nl : nuI T n (i + 3) < 10000 := nu_le t8
          have e : f_X2_readQuestion h 42 = u_X2_readQuestion_c2 h10 42 (nI (A 3)) (nI (nuI T n (i + 3))) := by
            have r8' : f_X4_takeNumber h7 4 (nI 0) (nI 99) = some (nI (nuI T n (i + 3)), h8) := r8
            rw [u_X2_readQuestion_e]; simp (disch := first | assumption | omega | decide | ((repeat first | apply lyI | apply lyJ | apply lywI | apply lywJ | apply csI | apply csJ | apply cswI | apply cswJ); assumption)) only [SR, SX, SC, LI, ↓li_m1, nI_add, pk_mul, nn_sub, nn_m1, nn_div, nn_rem, nn_nz, nn_mod, nJ_l, lN_add, lN_mul, nn_tb1, nI_bt, nn_and, nn_or, nn_xor, nn_shr, nn_1shl, nn_31, il_p, il_n, it_p, it_n, ie_p, ie_n, ie_b, ie_b1, ie_m, ie_mm, it_m, it_m0, il_m0, bI_rZ, Option.bind_some, bd2_some, Nat.add_zero, Nat.zero_add, if_true, if_false, Bool.false_eq_true, eq_self, hI_R, hJ_R, ng_t, ng_e, h6, e16, r4, r5', r7, r8', r9, r10]; try (unfold u_X2_readQuestion_c4; simp (disch := first | assumption | omega | decide | ((repeat first | apply lyI | apply lyJ | apply lywI | apply lywJ | apply csI | apply csJ | apply cswI | apply cswJ); assumption)) only [SR, SX, SC, LI, ↓li_m1, nI_add, pk_mul, nn_sub, nn_m1, nn_div, nn_rem, nn_nz, nn_mod, nJ_l, lN_add, lN_mul, nn_tb1, nI_bt, nn_and, nn_or, nn_xor, nn_shr, nn_1shl, nn_31, il_p, il_n, it_p, it_n, ie_p, ie_n, ie_b, ie_b1, ie_m, ie_mm, it_m, it_m0, il_m0, bI_rZ, Option.bind_some, bd2_some, Nat.add_zero, Nat.zero_add, if_true, if_false, Bool.false_eq_true, eq_self, hI_R, hJ_R, ng_t, ng_e, h6, e16, r4, r5', r7, r8', r9, r10]); try (unfold u_X2_readQuestion_c3; simp (disch := first | assumption | omega | decide | ((repeat first | apply lyI | apply lyJ | apply lywI | apply lywJ | apply csI | apply csJ | apply cswI | apply cswJ); assumption)) only [SR, SX, SC, LI, ↓li_m1, nI_add, pk_mul, nn_sub, nn_m1, nn_div, nn_rem, nn_nz, nn_mod, nJ_l, lN_add, lN_mul, nn_tb1, nI_bt, nn_and, nn_or, nn_xor, nn_shr, nn_1shl, nn_31, il_p, il_n, it_p, it_n, ie_p, ie_n, ie_b, ie_b1, ie_m, ie_mm, it_m, it_m0, il_m0, bI_rZ, Option.bind_some, bd2_some, Nat.add_zero, Nat.zero_add, if_true, if_false, Bool.false_eq_true, eq_self, hI_R, hJ_R, ng_t, ng_e, h6, e16, r4, r5', r7, r8', r9, r10]); try (unfold u_X2_readQuestion_c2; simp (disch := first | assumption | omega | decide | ((repeat first | apply lyI | apply lyJ | apply lywI | apply lywJ | apply csI | apply csJ | apply cswI | apply cswJ); assumption)) only [SR, SX, SC, LI, ↓li_m1, nI_add, pk_mul, nn_sub, nn_m1, nn_div, nn_rem, nn_nz, nn_mod, nJ_l, lN_add, lN_mul, nn_tb1, nI_bt, nn_and, nn_or, nn_xor, nn_shr, nn_1shl, nn_31, il_p, il_n, it_p, it_n, ie_p, ie_n, ie_b, ie_b1, ie_m, ie_mm, it_m, it_m0, il_m0, bI_rZ, Option.bind_some, bd2_some, Nat.add_zero, Nat.zero_add, if_true, if_false, Bool.false_eq_true, eq_self, hI_R, hJ_R, ng_t, ng_e, h6, e16, r4, r5', r7, r8', r9, r10]); try (unfold u_X2_readQuestion_c1; simp (disch := first | assumption | omega | decide | ((repeat first | apply lyI | apply lyJ | apply lywI | apply lywJ | apply csI | apply csJ | apply cswI | apply cswJ); assumption)) only [SR, SX, SC, LI, ↓li_m1, nI_add, pk_mul, nn_sub, nn_m1, nn_div, nn_rem, nn_nz, nn_mod, nJ_l, lN_add, lN_mul, nn_tb1, nI_bt, nn_and, nn_or, nn_xor, nn_shr, nn_1shl, nn_31, il_p, il_n, it_p, it_n, ie_p, ie_n, ie_b, ie_b1, ie_m, ie_mm, it_m, it_m0, il_m0, bI_rZ, Option.bind_some, bd2_some, Nat.add_zero, Nat.zero_add, if_true, if_false, Bool.false_eq_true, eq_self, hI_R, hJ_R, ng_t, ng_e, h6, e16, r4, r5', r7, r8', r9, r10])
          rw [e]
          have dw' : DCw h0 h10 c T n m (i + 5) A (cA (qA A (nuI T n (i + 3)))) (qV T n (i + 1) A V) Bv Q := by
            rw [qa_cA]
            exact dw10
          exact x_q6 dw' wf q12' nv' dv'
        · rw [if_pos t9]
          obtain ⟨k1, k2⟩ := fk_b (T := T) (n := n) (i := i + 4) (k := 2) (by decide) (by decide)
          have nl : nuI T n (i + 3) < 10000 := nu_le t8
          have r8' : f_X4_takeNumber h7 4 (nI 0) (nI 99) = some (nI (nuI T n (i + 3)), h8) := r8
          exact dcm_fl d8 k1 k2 f9 l9 (by rw [u_X2_readQuestion_e]; simp (disch := first | assumption | omega | decide | ((repeat first | apply lyI | apply lyJ | apply lywI | apply lywJ | apply csI | apply csJ | apply cswI | apply cswJ); assumption)) only [SR, SX, SC, LI, ↓li_m1, nI_add, pk_mul, nn_sub, nn_m1, nn_div, nn_rem, nn_nz, nn_mod, nJ_l, lN_add, lN_mul, nn_tb1, nI_bt, nn_and, nn_or, nn_xor, nn_shr, nn_1shl, nn_31, il_p, il_n, it_p, it_n, ie_p, ie_n, ie_b, ie_b1, ie_m, ie_mm, it_m, it_m0, il_m0, bI_rZ, Option.bind_some, bd2_some, Nat.add_zero, Nat.zero_add, if_true, if_false, Bool.false_eq_true, eq_self, hI_R, hJ_R, ng_t, ng_e, h6, e16, r4, r5', r7, r8', r9]; try (unfold u_X2_readQuestion_c4; simp (disch := first | assumption | omega | decide | ((repeat first | apply lyI | apply lyJ | apply lywI | apply lywJ | apply csI | apply csJ | apply cswI | apply cswJ); assumption)) only [SR, SX, SC, LI, ↓li_m1, nI_add, pk_mul, nn_sub, nn_m1, nn_div, nn_rem, nn_nz, nn_mod, nJ_l, lN_add, lN_mul, nn_tb1, nI_bt, nn_and, nn_or, nn_xor, nn_shr, nn_1shl, nn_31, il_p, il_n, it_p, it_n, ie_p, ie_n, ie_b, ie_b1, ie_m, ie_mm, it_m, it_m0, il_m0, bI_rZ, Option.bind_some, bd2_some, Nat.add_zero, Nat.zero_add, if_true, if_false, Bool.false_eq_true, eq_self, hI_R, hJ_R, ng_t, ng_e, h6, e16, r4, r5', r7, r8', r9]); try (unfold u_X2_readQuestion_c3; simp (disch := first | assumption | omega | decide | ((repeat first | apply lyI | apply lyJ | apply lywI | apply lywJ | apply csI | apply csJ | apply cswI | apply cswJ); assumption)) only [SR, SX, SC, LI, ↓li_m1, nI_add, pk_mul, nn_sub, nn_m1, nn_div, nn_rem, nn_nz, nn_mod, nJ_l, lN_add, lN_mul, nn_tb1, nI_bt, nn_and, nn_or, nn_xor, nn_shr, nn_1shl, nn_31, il_p, il_n, it_p, it_n, ie_p, ie_n, ie_b, ie_b1, ie_m, ie_mm, it_m, it_m0, il_m0, bI_rZ, Option.bind_some, bd2_some, Nat.add_zero, Nat.zero_add, if_true, if_false, Bool.false_eq_true, eq_self, hI_R, hJ_R, ng_t, ng_e, h6, e16, r4, r5', r7, r8', r9]); try (unfold u_X2_readQuestion_c2; simp (disch := first | assumption | omega | decide | ((repeat first | apply lyI | apply lyJ | apply lywI | apply lywJ | apply csI | apply csJ | apply cswI | apply cswJ); assumption)) only [SR, SX, SC, LI, ↓li_m1, nI_add, pk_mul, nn_sub, nn_m1, nn_div, nn_rem, nn_nz, nn_mod, nJ_l, lN_add, lN_mul, nn_tb1, nI_bt, nn_and, nn_or, nn_xor, nn_shr, nn_1shl, nn_31, il_p, il_n, it_p, it_n, ie_p, ie_n, ie_b, ie_b1, ie_m, ie_mm, it_m, it_m0, il_m0, bI_rZ, Option.bind_some, bd2_some, Nat.add_zero, Nat.zero_add, if_true, if_false, Bool.false_eq_true, eq_self, hI_R, hJ_R, ng_t, ng_e, h6, e16, r4, r5', r7, r8', r9]); try (unfold u_X2_readQuestion_c1; simp (disch := first | assumption | omega | decide | ((repeat first | apply lyI | apply lyJ | apply lywI | apply lywJ | apply csI | apply csJ | apply cswI | apply cswJ); assumption)) only [SR, SX, SC, LI, ↓li_m1, nI_add, pk_mul, nn_sub, nn_m1, nn_div, nn_rem, nn_nz, nn_mod, nJ_l, lN_add, lN_mul, nn_tb1, nI_bt, nn_and, nn_or, nn_xor, nn_shr, nn_1shl, nn_31, il_p, il_n, it_p, it_n, ie_p, ie_n, ie_b, ie_b1, ie_m, ie_mm, it_m, it_m0, il_m0, bI_rZ, Option.bind_some, bd2_some, Nat.add_zero, Nat.zero_add, if_true, if_false, Bool.false_eq_true, eq_self, hI_R, hJ_R, ng_t, ng_e, h6, e16, r4, r5', r7, r8', r9]))
      · rw [if_pos nt]
        obtain ⟨k1, k2⟩ := fk_b (T := T) (n := n) (i := i + 3) (k := if tcI T n (i + 3) = 2 then 4 else 2) (by split <;> decide) (by split <;> decide)
        have r8' : f_X4_takeNumber h7 4 (nI 0) (nI 99) = some (m1, h8) := r8
        exact dcm_fl d7 k1 k2 f8 l8 (by rw [u_X2_readQuestion_e]; simp (disch := first | assumption | omega | decide | ((repeat first | apply lyI | apply lyJ | apply lywI | apply lywJ | apply csI | apply csJ | apply cswI | apply cswJ); assumption)) only [SR, SX, SC, LI, ↓li_m1, nI_add, pk_mul, nn_sub, nn_m1, nn_div, nn_rem, nn_nz, nn_mod, nJ_l, lN_add, lN_mul, nn_tb1, nI_bt, nn_and, nn_or, nn_xor, nn_shr, nn_1shl, nn_31, il_p, il_n, it_p, it_n, ie_p, ie_n, ie_b, ie_b1, ie_m, ie_mm, it_m, it_m0, il_m0, bI_rZ, Option.bind_some, bd2_some, Nat.add_zero, Nat.zero_add, if_true, if_false, Bool.false_eq_true, eq_self, hI_R, hJ_R, ng_t, ng_e, h6, e16, r4, r5', r7, r8']; try (unfold u_X2_readQuestion_c4; simp (disch := first | assumption | omega | decide | ((repeat first | apply lyI | apply lyJ | apply lywI | apply lywJ | apply csI | apply csJ | apply cswI | apply cswJ); assumption)) only [SR, SX, SC, LI, ↓li_m1, nI_add, pk_mul, nn_sub, nn_m1, nn_div, nn_rem, nn_nz, nn_mod, nJ_l, lN_add, lN_mul, nn_tb1, nI_bt, nn_and, nn_or, nn_xor, nn_shr, nn_1shl, nn_31, il_p, il_n, it_p, it_n, ie_p, ie_n, ie_b, ie_b1, ie_m, ie_mm, it_m, it_m0, il_m0, bI_rZ, Option.bind_some, bd2_some, Nat.add_zero, Nat.zero_add, if_true, if_false, Bool.false_eq_true, eq_self, hI_R, hJ_R, ng_t, ng_e, h6, e16, r4, r5', r7, r8']); try (unfold u_X2_readQuestion_c3; simp (disch := first | assumption | omega | decide | ((repeat first | apply lyI | apply lyJ | apply lywI | apply lywJ | apply csI | apply csJ | apply cswI | apply cswJ); assumption)) only [SR, SX, SC, LI, ↓li_m1, nI_add, pk_mul, nn_sub, nn_m1, nn_div, nn_rem, nn_nz, nn_mod, nJ_l, lN_add, lN_mul, nn_tb1, nI_bt, nn_and, nn_or, nn_xor, nn_shr, nn_1shl, nn_31, il_p, il_n, it_p, it_n, ie_p, ie_n, ie_b, ie_b1, ie_m, ie_mm, it_m, it_m0, il_m0, bI_rZ, Option.bind_some, bd2_some, Nat.add_zero, Nat.zero_add, if_true, if_false, Bool.false_eq_true, eq_self, hI_R, hJ_R, ng_t, ng_e, h6, e16, r4, r5', r7, r8']); try (unfold u_X2_readQuestion_c2; simp (disch := first | assumption | omega | decide | ((repeat first | apply lyI | apply lyJ | apply lywI | apply lywJ | apply csI | apply csJ | apply cswI | apply cswJ); assumption)) only [SR, SX, SC, LI, ↓li_m1, nI_add, pk_mul, nn_sub, nn_m1, nn_div, nn_rem, nn_nz, nn_mod, nJ_l, lN_add, lN_mul, nn_tb1, nI_bt, nn_and, nn_or, nn_xor, nn_shr, nn_1shl, nn_31, il_p, il_n, it_p, it_n, ie_p, ie_n, ie_b, ie_b1, ie_m, ie_mm, it_m, it_m0, il_m0, bI_rZ, Option.bind_some, bd2_some, Nat.add_zero, Nat.zero_add, if_true, if_false, Bool.false_eq_true, eq_self, hI_R, hJ_R, ng_t, ng_e, h6, e16, r4, r5', r7, r8']); try (unfold u_X2_readQuestion_c1; simp (disch := first | assumption | omega | decide | ((repeat first | apply lyI | apply lyJ | apply lywI | apply lywJ | apply csI | apply csJ | apply cswI | apply cswJ); assumption)) only [SR, SX, SC, LI, ↓li_m1, nI_add, pk_mul, nn_sub, nn_m1, nn_div, nn_rem, nn_nz, nn_mod, nJ_l, lN_add, lN_mul, nn_tb1, nI_bt, nn_and, nn_or, nn_xor, nn_shr, nn_1shl, nn_31, il_p, il_n, it_p, it_n, ie_p, ie_n, ie_b, ie_b1, ie_m, ie_mm, it_m, it_m0, il_m0, bI_rZ, Option.bind_some, bd2_some, Nat.add_zero, Nat.zero_add, if_true, if_false, Bool.false_eq_true, eq_self, hI_R, hJ_R, ng_t, ng_e, h6, e16, r4, r5', r7, r8']))
    · rw [if_pos t6]
      obtain ⟨k1, k2⟩ := fk_b (T := T) (n := n) (i := i + 2) (k := 2) (by decide) (by decide)
      exact dcm_fl d5 k1 k2 f7 l7 (by rw [u_X2_readQuestion_e]; simp (disch := first | assumption | omega | decide | ((repeat first | apply lyI | apply lyJ | apply lywI | apply lywJ | apply csI | apply csJ | apply cswI | apply cswJ); assumption)) only [SR, SX, SC, LI, ↓li_m1, nI_add, pk_mul, nn_sub, nn_m1, nn_div, nn_rem, nn_nz, nn_mod, nJ_l, lN_add, lN_mul, nn_tb1, nI_bt, nn_and, nn_or, nn_xor, nn_shr, nn_1shl, nn_31, il_p, il_n, it_p, it_n, ie_p, ie_n, ie_b, ie_b1, ie_m, ie_mm, it_m, it_m0, il_m0, bI_rZ, Option.bind_some, bd2_some, Nat.add_zero, Nat.zero_add, if_true, if_false, Bool.false_eq_true, eq_self, hI_R, hJ_R, ng_t, ng_e, h6, e16, r4, r5', r7]; try (unfold u_X2_readQuestion_c4; simp (disch := first | assumption | omega | decide | ((repeat first | apply lyI | apply lyJ | apply lywI | apply lywJ | apply csI | apply csJ | apply cswI | apply cswJ); assumption)) only [SR, SX, SC, LI, ↓li_m1, nI_add, pk_mul, nn_sub, nn_m1, nn_div, nn_rem, nn_nz, nn_mod, nJ_l, lN_add, lN_mul, nn_tb1, nI_bt, nn_and, nn_or, nn_xor, nn_shr, nn_1shl, nn_31, il_p, il_n, it_p, it_n, ie_p, ie_n, ie_b, ie_b1, ie_m, ie_mm, it_m, it_m0, il_m0, bI_rZ, Option.bind_some, bd2_some, Nat.add_zero, Nat.zero_add, if_true, if_false, Bool.false_eq_true, eq_self, hI_R, hJ_R, ng_t, ng_e, h6, e16, r4, r5', r7]); try (unfold u_X2_readQuestion_c3; simp (disch := first | assumption | omega | decide | ((repeat first | apply lyI | apply lyJ | apply lywI | apply lywJ | apply csI | apply csJ | apply cswI | apply cswJ); assumption)) only [SR, SX, SC, LI, ↓li_m1, nI_add, pk_mul, nn_sub, nn_m1, nn_div, nn_rem, nn_nz, nn_mod, nJ_l, lN_add, lN_mul, nn_tb1, nI_bt, nn_and, nn_or, nn_xor, nn_shr, nn_1shl, nn_31, il_p, il_n, it_p, it_n, ie_p, ie_n, ie_b, ie_b1, ie_m, ie_mm, it_m, it_m0, il_m0, bI_rZ, Option.bind_some, bd2_some, Nat.add_zero, Nat.zero_add, if_true, if_false, Bool.false_eq_true, eq_self, hI_R, hJ_R, ng_t, ng_e, h6, e16, r4, r5', r7]); try (unfold u_X2_readQuestion_c2; simp (disch := first | assumption | omega | decide | ((repeat first | apply lyI | apply lyJ | apply lywI | apply lywJ | apply csI | apply csJ | apply cswI | apply cswJ); assumption)) only [SR, SX, SC, LI, ↓li_m1, nI_add, pk_mul, nn_sub, nn_m1, nn_div, nn_rem, nn_nz, nn_mod, nJ_l, lN_add, lN_mul, nn_tb1, nI_bt, nn_and, nn_or, nn_xor, nn_shr, nn_1shl, nn_31, il_p, il_n, it_p, it_n, ie_p, ie_n, ie_b, ie_b1, ie_m, ie_mm, it_m, it_m0, il_m0, bI_rZ, Option.bind_some, bd2_some, Nat.add_zero, Nat.zero_add, if_true, if_false, Bool.false_eq_true, eq_self, hI_R, hJ_R, ng_t, ng_e, h6, e16, r4, r5', r7]); try (unfold u_X2_readQuestion_c1; simp (disch := first | assumption | omega | decide | ((repeat first | apply lyI | apply lyJ | apply lywI | apply lywJ | apply csI | apply csJ | apply cswI | apply cswJ); assumption)) only [SR, SX, SC, LI, ↓li_m1, nI_add, pk_mul, nn_sub, nn_m1, nn_div, nn_rem, nn_nz, nn_mod, nJ_l, lN_add, lN_mul, nn_tb1, nI_bt, nn_and, nn_or, nn_xor, nn_shr, nn_1shl, nn_31, il_p, il_n, it_p, it_n, ie_p, ie_n, ie_b, ie_b1, ie_m, ie_mm, it_m, it_m0, il_m0, bI_rZ, Option.bind_some, bd2_some, Nat.add_zero, Nat.zero_add, if_true, if_false, Bool.false_eq_true, eq_self, hI_R, hJ_R, ng_t, ng_e, h6, e16, r4, r5', r7]))
/-- the reference, its names apart -/
def DRm (k0 k : aH) (T : Nat → Nat) (n i : Nat) (A C : Nat → Nat) (V : Nat → List Nat) (Bv : Nat → Nat) (Q : Nat → Nat → Bool) : Prop := FRR k0 k ∧ RC k T n i ∧ NRe k 176 C V ∧ (∀ x, x < 100 → x ≠ 7 → k.2.1 114 (1600 + x) = nI (A x)) ∧ (k.2.1 114 1607 = m1 ∧ ∀ x, 100 ≤ x → x < 400 → k.2.1 114 (1600 + x) = nI 0) ∧ (∀ v, v < 24 → k.2.1 122 v = nI (Bv v)) ∧ (0 < A 3 → ∀ w, w < 256 → (k.2.2.1 115 (208 + w / 64)).toBitVec.getLsbD (w % 64) = cnP A Bv w) ∧ ∀ q w, q < 12 → w < 256 → (k.2.2.1 115 (212 + 4 * q + w / 64)).toBitVec.getLsbD (w % 64) = Q q w
theorem dr_m {k0 k : aH} {T : Nat → Nat} {n i : Nat} {A : Nat → Nat} {V : Nat → List Nat} {Bv : Nat → Nat} {Q : Nat → Nat → Bool} (d : DR k0 k T n i A V Bv Q) : DRm k0 k T n i A (cA A) V Bv Q := d
theorem drm_13 {k0 k k' : aH} {T : Nat → Nat} {n i i' : Nat} {A C : Nat → Nat} {V : Nat → List Nat} {Bv : Nat → Nat} {Q : Nat → Nat → Bool} (d : DRm k0 k T n i A C V Bv Q) (f : FR k k' [] [] [] F13) (rc : RC k' T n i') : DRm k0 k' T n i' A C V Bv Q := by
  obtain ⟨d1, d2, d3, d4, d5, d6, d7, d8⟩ := d
  have e4 : k'.2.1 114 = k.2.1 114 := f.I 114 (by decide) (by decide) (by decide)
  have e2 : k'.2.1 122 = k.2.1 122 := f.I 122 (by decide) (by decide) (by decide)
  have e5 : k'.2.2.1 115 = k.2.2.1 115 := f.J 115 (by decide)
  refine ⟨frr_13 d1 f, rc, nr_fr f (by decide) d3, ?_, ?_, ?_, ?_, ?_⟩
  · rw [e4]; exact d4
  · rw [e4]; exact d5
  · rw [e2]; exact d6
  · rw [e5]; exact d7
  · rw [e5]; exact d8
theorem drm_fl {k0 k k' : aH} {T : Nat → Nat} {n i : Nat} {A C : Nat → Nat} {V : Nat → List Nat} {Bv : Nat → Nat} {Q : Nat → Nat → Bool} (d : DRm k0 k T n i A C V Bv Q) {f q : Nat} (fr : FR k k' [] [] [] F13) (rl : RLx k' f q) {x : Option (Int32 × aH)} (e : x = some (nI 0, k')) : ORc k0 T n x (.inl (f, q)) := ⟨k', e, frr_13 d.1 fr, rl⟩
/-- a new name was written -/
theorem drm_nm {k0 k k' : aH} {T : Nat → Nat} {n i i' : Nat} {A C C' : Nat → Nat} {V V' : Nat → List Nat} {Bv : Nat → Nat} {Q : Nat → Nat → Bool} (d : DRm k0 k T n i A C V Bv Q) {j : Nat} {x : Int64} (f : FR (hJ k 116 (176 + j) x) k' [] [] [] F13) (rc : RC k' T n i') (nr : NRe k' 176 C' V') : DRm k0 k' T n i' A C' V' Bv Q := by
  obtain ⟨d1, d2, d3, d4, d5, d6, d7, d8⟩ := d
  have g : FR k (hJ k 116 (176 + j) x) [] [116] [] [] := FR.hJ (by decide)
  have fz : FR k k' [] [116] [] F13 := (g.mono (by decide) (by decide) (by decide) (by decide)).tr (f.mono (by decide) (by decide) (by decide) (by decide))
  have e4 : k'.2.1 114 = k.2.1 114 := fz.I 114 (by decide) (by decide) (by decide)
  have e2 : k'.2.1 122 = k.2.1 122 := fz.I 122 (by decide) (by decide) (by decide)
  have e5 : k'.2.2.1 115 = k.2.2.1 115 := fz.J 115 (by decide)
  obtain ⟨p1, p2, p3, p4⟩ := d1
  refine ⟨⟨p1.tr (fz.mono (by decide) (by decide) (by decide) f13_22), fun y hy => by rw [e4]; exact p2 y hy, fun y hy => by rw [e5]; exact p3 y hy, fun y hy => ?_⟩, rc, nr, ?_, ?_, ?_, ?_, ?_⟩
  · rw [f.J 116 (by decide), rJ_nk (by omega)]
    exact p4 y hy
  · rw [e4]; exact d4
  · rw [e4]; exact d5
  · rw [e2]; exact d6
  · rw [e5]; exact d7
  · rw [e5]; exact d8
/-- a number of the new slot was written -/
theorem drm_at {k0 k : aH} {T : Nat → Nat} {n i : Nat} {A A' C : Nat → Nat} {V : Nat → List Nat} {Bv : Nat → Nat} {Q : Nat → Nat → Bool} (d : DRm k0 k T n i A C V Bv Q) {j x : Nat} (hj : j < 100) (h7 : j ≠ 7) (ej : A' j = x) (en : ∀ y, y ≠ j → A' y = A y) (h3 : 0 < A' 3 → 0 < A 3 ∧ ∀ w, cnP A' Bv w = cnP A Bv w) : DRm k0 (hI k 114 (1600 + j) (nI x)) T n i A' C V Bv Q := by
  obtain ⟨d1, d2, d3, d4, d5, d6, d7, d8⟩ := d
  have f : FR k (hI k 114 (1600 + j) (nI x)) [114] [] [] [] := FR.hI (by decide) (by decide) (by decide)
  obtain ⟨p1, p2, p3, p4⟩ := d1
  refine ⟨⟨p1.tr (f.mono (by decide) (by decide) (by decide) (by decide)), fun y hy => ?_, p3, p4⟩, rc_fr f (by decide) (by decide) d2, d3, fun y hy y7 => ?_, ⟨?_, fun y h1 h2 => ?_⟩, ?_, fun h w hw => ?_, d8⟩
  · rw [rI_nk (by omega)]
    exact p2 y hy
  · by_cases e : y = j
    · subst e
      rw [rI_eq, ej]
    · rw [rI_nk (by omega), en y e]
      exact d4 y hy y7
  · rw [rI_nk (by omega)]
    exact d5.1
  · rw [rI_nk (by omega)]
    exact d5.2 y h1 h2
  · rw [f.I 122 (by decide) (by decide) (by decide)]
    exact d6
  · rw [(h3 h).2]
    exact d7 (h3 h).1 w hw
