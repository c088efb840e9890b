/-! ===== a sitting: the reference's tests and rules ===== -/
theorem r_hold {h : aH} {A : Nat → Nat} {P : Nat → Bool} {Q : Nat → Nat → Bool} {S : Nat → Nat → Nat → Nat → Nat} {t : MT} (r8 : R8 h A P Q S t) (hw : WF A) (gm : GM A t) {r x a : Nat} (hr : r + 3 < 400) (hr2 : 148 ≤ r) (hx : x < 4) (e0 : h.2.1 114 r = nI (2122 + x)) (e1 : h.2.1 114 (r + 1) = nI a) (ha : x < 3 → a < A 3) (ha2 : a ≤ 256) : ∃ h', f_X12_holdsNow h 113 (nI r) = some (bI (paB A P Q S x a t), h') ∧ FR h h' [129, 130] [] [] [] ∧ KP h h' ∧ R8 h' A P Q S t := by
  obtain ⟨hl, hc, hm, hs⟩ := id r8
  obtain ⟨b0, b1, b2l, b2, b3, b4⟩ := wf_b hw
  obtain ⟨mw, di, td⟩ := id gm
  obtain ⟨g, e, fg, lg, cg, mg, sg, fb, pu, rl, rs⟩ := r_all hl hc hw hm mw hs
  have g114 := fg.I 114 (by decide) (by decide) (by decide)
  have q0 : g.2.1 114 r = nI (2122 + x) := by rw [g114]; exact e0
  have q1 : g.2.1 114 (r + 1) = nI a := by rw [g114]; exact e1
  obtain ⟨c0, c1, c2, c3, c4, cA⟩ := cm_e cg
  have cle := cntB_le (lvB A P S t.2.2 t.1) (A 2)
  refine ⟨g, ?_, fg, kp_fr fg (by decide), lg, cg, mg, sg⟩
  rcases lt4 hx with rfl | rfl | rfl | rfl
  · have qb := ha (by decide)
    have rq : f_X12_sureAt g 113 (nI 0) (nI a) = some (crT A P Q S t a) := rs a qb
    unfold paB
    rw [if_pos rfl]
    by_cases hz : crT A P Q S t a = m1
    · rw [decide_eq_false (fun e => e hz)]
      rw [hz] at rq
      simp (disch := first | assumption | omega | decide | ((repeat first | apply lyI | apply lyJ | apply lywI | apply lywJ | apply csI | apply csJ | apply cswI | apply cswJ); assumption)) only [f_X12_holdsNow, f_X12_holdsNow_j63, f_X12_isQuestion, SM, LI, ↓li_m1, nI_add, pk_mul, nn_sub, nn_m1, nn_div, nn_rem, nn_nz, nn_mod, nJ_l, lN_add, lN_mul, nn_tb1, nI_bt, nn_and, nn_or, nn_xor, nn_shr, nn_1shl, nn_31, il_p, il_n, it_p, it_n, ie_p, ie_n, ie_b, ie_b1, ie_m, ie_mm, it_m, it_m0, il_m0, bI_rZ, Option.bind_some, bd2_some, Nat.add_zero, Nat.zero_add, if_true, if_false, Bool.false_eq_true, eq_self, hI_R, hJ_R, ng_t, ng_e, e, q0, q1, c3, rq]
      rfl
    · rw [decide_eq_true hz]
      simp (disch := first | assumption | omega | decide | ((repeat first | apply lyI | apply lyJ | apply lywI | apply lywJ | apply csI | apply csJ | apply cswI | apply cswJ); assumption)) only [f_X12_holdsNow, f_X12_holdsNow_j63, f_X12_isQuestion, SM, LI, ↓li_m1, nI_add, pk_mul, nn_sub, nn_m1, nn_div, nn_rem, nn_nz, nn_mod, nJ_l, lN_add, lN_mul, nn_tb1, nI_bt, nn_and, nn_or, nn_xor, nn_shr, nn_1shl, nn_31, il_p, il_n, it_p, it_n, ie_p, ie_n, ie_b, ie_b1, ie_m, ie_mm, it_m, it_m0, il_m0, bI_rZ, Option.bind_some, bd2_some, Nat.add_zero, Nat.zero_add, if_true, if_false, Bool.false_eq_true, eq_self, hI_R, hJ_R, ng_t, ng_e, e, q0, q1, c3, rq, if_neg hz]
      rfl
  · have qb := ha (by decide)
    have rq : f_X12_sureAt g 113 (nI 0) (nI a) = some (crT A P Q S t a) := rs a qb
    unfold paB
    rw [if_neg (by decide), if_pos rfl]
    by_cases hz : crT A P Q S t a = nI 1
    · rw [decide_eq_true hz]
      rw [hz] at rq
      simp (disch := first | assumption | omega | decide | ((repeat first | apply lyI | apply lyJ | apply lywI | apply lywJ | apply csI | apply csJ | apply cswI | apply cswJ); assumption)) only [f_X12_holdsNow, f_X12_holdsNow_j63, f_X12_isQuestion, SM, LI, ↓li_m1, nI_add, pk_mul, nn_sub, nn_m1, nn_div, nn_rem, nn_nz, nn_mod, nJ_l, lN_add, lN_mul, nn_tb1, nI_bt, nn_and, nn_or, nn_xor, nn_shr, nn_1shl, nn_31, il_p, il_n, it_p, it_n, ie_p, ie_n, ie_b, ie_b1, ie_m, ie_mm, it_m, it_m0, il_m0, bI_rZ, Option.bind_some, bd2_some, Nat.add_zero, Nat.zero_add, if_true, if_false, Bool.false_eq_true, eq_self, hI_R, hJ_R, ng_t, ng_e, e, q0, q1, c3, rq]
      rfl
    · rw [decide_eq_false hz]
      simp (disch := first | assumption | omega | decide | ((repeat first | apply lyI | apply lyJ | apply lywI | apply lywJ | apply csI | apply csJ | apply cswI | apply cswJ); assumption)) only [f_X12_holdsNow, f_X12_holdsNow_j63, f_X12_isQuestion, SM, LI, ↓li_m1, nI_add, pk_mul, nn_sub, nn_m1, nn_div, nn_rem, nn_nz, nn_mod, nJ_l, lN_add, lN_mul, nn_tb1, nI_bt, nn_and, nn_or, nn_xor, nn_shr, nn_1shl, nn_31, il_p, il_n, it_p, it_n, ie_p, ie_n, ie_b, ie_b1, ie_m, ie_mm, it_m, it_m0, il_m0, bI_rZ, Option.bind_some, bd2_some, Nat.add_zero, Nat.zero_add, if_true, if_false, Bool.false_eq_true, eq_self, hI_R, hJ_R, ng_t, ng_e, e, q0, q1, c3, rq, if_neg hz]
      rfl
  · have qb := ha (by decide)
    have rq : f_X12_sureAt g 113 (nI 0) (nI a) = some (crT A P Q S t a) := rs a qb
    unfold paB
    rw [if_neg (by decide), if_neg (by decide), if_pos rfl]
    by_cases hz : crT A P Q S t a = nI 0
    · rw [decide_eq_true hz]
      rw [hz] at rq
      simp (disch := first | assumption | omega | decide | ((repeat first | apply lyI | apply lyJ | apply lywI | apply lywJ | apply csI | apply csJ | apply cswI | apply cswJ); assumption)) only [f_X12_holdsNow, f_X12_holdsNow_j63, f_X12_isQuestion, SM, LI, ↓li_m1, nI_add, pk_mul, nn_sub, nn_m1, nn_div, nn_rem, nn_nz, nn_mod, nJ_l, lN_add, lN_mul, nn_tb1, nI_bt, nn_and, nn_or, nn_xor, nn_shr, nn_1shl, nn_31, il_p, il_n, it_p, it_n, ie_p, ie_n, ie_b, ie_b1, ie_m, ie_mm, it_m, it_m0, il_m0, bI_rZ, Option.bind_some, bd2_some, Nat.add_zero, Nat.zero_add, if_true, if_false, Bool.false_eq_true, eq_self, hI_R, hJ_R, ng_t, ng_e, e, q0, q1, c3, rq]
      rfl
    · rw [decide_eq_false hz]
      simp (disch := first | assumption | omega | decide | ((repeat first | apply lyI | apply lyJ | apply lywI | apply lywJ | apply csI | apply csJ | apply cswI | apply cswJ); assumption)) only [f_X12_holdsNow, f_X12_holdsNow_j63, f_X12_isQuestion, SM, LI, ↓li_m1, nI_add, pk_mul, nn_sub, nn_m1, nn_div, nn_rem, nn_nz, nn_mod, nJ_l, lN_add, lN_mul, nn_tb1, nI_bt, nn_and, nn_or, nn_xor, nn_shr, nn_1shl, nn_31, il_p, il_n, it_p, it_n, ie_p, ie_n, ie_b, ie_b1, ie_m, ie_mm, it_m, it_m0, il_m0, bI_rZ, Option.bind_some, bd2_some, Nat.add_zero, Nat.zero_add, if_true, if_false, Bool.false_eq_true, eq_self, hI_R, hJ_R, ng_t, ng_e, e, q0, q1, c3, rq, if_neg hz]
      rfl
  · have rl' : f_X12_leftAt g 113 (nI 0) = some (nI (cntB (lvT A P S t) (A 2))) := rl
    have cle' := cntB_le (lvT A P S t) (A 2)
    unfold paB
    rw [if_neg (by decide), if_neg (by decide), if_neg (by decide)]
    have k0 : ck h 12 113 = some () := ck_L hl (by decide) (by decide)
    have k1 : ck g 12 113 = some () := ck_L lg (by decide) (by decide)
    have k2 : gR g 12 113 0 = some 114 := gR_L lg (by decide) (by decide) (by decide +kernel)
    have k3 : lI g 114 (nI r) = some (nI (2122 + 3)) := (lI_L lg (by decide) (show r < 2000 by omega)).trans (congrArg some q0)
    have k4 : lI g 114 (nI r + (1 : Int32)) = some (nI a) := by
      rw [show nI r + (1 : Int32) = nI (r + 1) from nI_1 r]
      exact (lI_L lg (by decide) (show r + 1 < 2000 by omega)).trans (congrArg some q1)
    have k5 : nI (2122 + 3) - (2100 : Int32) = (25 : Int32) := by decide
    have rl2 : f_X12_leftAt g 113 (0 : Int32) = some (nI (cntB (lvT A P S t) (A 2))) := rl'
    unfold f_X12_holdsNow
    rw [k0, Option.bind_some, e, Option.bind_some, k2, Option.bind_some, k3, Option.bind_some, k5, Option.bind_some, Option.bind_some, k4, Option.bind_some, if_pos rfl, k1, Option.bind_some, rl2, Option.bind_some]
    by_cases hz : cntB (lvT A P S t) (A 2) ≤ a
    · rw [decide_eq_true hz, if_neg (nI_nlt hz (by omega))]
      rfl
    · rw [decide_eq_false hz, if_pos (nI_lt (show a < cntB (lvT A P S t) (A 2) by omega) (by omega))]
      rfl
