/-! ===== a sitting: each kind of row ===== -/
theorem d_close {h : aH} (hl : LAY h) {K : Nat → Nat → Nat} {N k : Nat} (pr : PR h K N) (hk : k < N) (hN : N ≤ 60) (h26 : K k 0 = 26) : f_X12_doesStep h 113 (nI k) = some (nI (k + 1), h) := by
  rw [d_head hl pr hk hN (by omega) (by omega), h26, d_67 (by decide) (by decide)]
  exact d_98 (by decide) (by decide) (by decide)
theorem d_ask {h : aH} {A : Nat → Nat} {P : Nat → Bool} {Q : Nat → Nat → Bool} {S : Nat → Nat → Nat → Nat → Nat} {t : MT} (r8 : R8 h A P Q S t) (hw : WF A) (gm : GM A t) {tr : Nat} {tk : Nat → Nat} (e40 : h.2.1 113 40 = nI tr) (e132 : ∀ v, v < A 4 → h.2.1 132 v = nI (tk v)) (ht : tr < A 2) (hpt : P tr = true) (hkk : ∀ v, v < A 4 → tk v < 4) {K : Nat → Nat → Nat} {N k : Nat} (pr : PR h K N) (hk : k < N) (hN : N ≤ 60) (h17 : K k 0 = 17) (hv : K k 1 < A 4) (hq : K k 2 < A 3) : ∃ h', f_X12_doesStep h 113 (nI k) = some (nI (k + 1), h') ∧ FR h h' [114, 129, 130] [] [] [] ∧ KP h h' ∧ R8 h' A P Q S (puS S tr tk (K k 1) (some (K k 2)) t) := by
  obtain ⟨hl, hc, hm, hs⟩ := id r8
  obtain ⟨b0, b1, b2l, b2, b3, b4⟩ := wf_b hw
  obtain ⟨c0, c1, c2, c3, c4, cA⟩ := cm_e hc
  obtain ⟨h', r, f1, kp, r8'⟩ := r_puts r8 hw gm e40 e132 ht hpt hkk hv (some (K k 2)) (fun x hx => by cases hx; exact hq)
  have r' : f_X12_puts h 113 (nI (K k 1)) (nI (K k 2)) = some h' := r
  have e0 := pr.2 k 0 hk (by decide)
  have e1 := pr.2 k 1 hk (by decide)
  have e2 := pr.2 k 2 hk (by decide)
  rw [Nat.add_zero, h17] at e0
  have u0 : gR h 12 113 0 = some 114 := gR_L hl (by decide) (by decide) (by decide +kernel)
  have ck0 : ck h 12 113 = some () := ck_L hl (by decide) (by decide)
  have t : (148 : Int32) + (4 : Int32) * nI k = nI (148 + 4 * k) := by
    rw [show (4 : Int32) = nI 4 from rfl, pk_mul, show (148 : Int32) = nI 148 from rfl, nI_add]
  have w0 : lI h 114 (nI (148 + 4 * k)) = some (nI 17) := (lI_L hl (by decide) (show 148 + 4 * k < 2000 by omega)).trans (congrArg some e0)
  have w1 : lI h 114 (nI (148 + 4 * k) + (1 : Int32)) = some (nI (K k 1)) := by
    rw [show (1 : Int32) = nI 1 from rfl, nI_add]
    exact (lI_L hl (by decide) (show 148 + 4 * k + 1 < 2000 by omega)).trans (congrArg some e1)
  have w2 : lI h 114 (nI (148 + 4 * k) + (2 : Int32)) = some (nI (K k 2)) := by
    rw [show (2 : Int32) = nI 2 from rfl, nI_add]
    exact (lI_L hl (by decide) (show 148 + 4 * k + 2 < 2000 by omega)).trans (congrArg some e2)
  have iw : f_X12_isWitness h 113 (nI (K k 1)) = some (nI 1) := by simp (disch := first | assumption | omega | decide | ((repeat first | apply lyI | apply lyJ | apply lywI | apply lywJ | apply csI | apply csJ | apply cswI | apply cswJ); assumption)) only [f_X12_isWitness, SM, LI, ↓li_m1, nI_add, pk_mul, nn_sub, nn_m1, nn_div, nn_rem, nn_nz, nn_mod, nJ_l, lN_add, lN_mul, nn_tb1, nI_bt, nn_and, nn_or, nn_xor, nn_shr, nn_1shl, nn_31, il_p, il_n, it_p, it_n, ie_p, ie_n, ie_b, ie_b1, ie_m, ie_mm, it_m, it_m0, il_m0, bI_rZ, Option.bind_some, bd2_some, Nat.add_zero, Nat.zero_add, if_true, if_false, Bool.false_eq_true, eq_self, hI_R, hJ_R, ng_t, ng_e, c4]
  have iq : f_X12_isQuestion h 113 (nI (K k 2)) = some (nI 1) := by simp (disch := first | assumption | omega | decide | ((repeat first | apply lyI | apply lyJ | apply lywI | apply lywJ | apply csI | apply csJ | apply cswI | apply cswJ); assumption)) only [f_X12_isQuestion, SM, LI, ↓li_m1, nI_add, pk_mul, nn_sub, nn_m1, nn_div, nn_rem, nn_nz, nn_mod, nJ_l, lN_add, lN_mul, nn_tb1, nI_bt, nn_and, nn_or, nn_xor, nn_shr, nn_1shl, nn_31, il_p, il_n, it_p, it_n, ie_p, ie_n, ie_b, ie_b1, ie_m, ie_mm, it_m, it_m0, il_m0, bI_rZ, Option.bind_some, bd2_some, Nat.add_zero, Nat.zero_add, if_true, if_false, Bool.false_eq_true, eq_self, hI_R, hJ_R, ng_t, ng_e, c3]
  refine ⟨h', ?_, f1, kp, r8'⟩
  unfold f_X12_doesStep
  rw [t, Option.bind_some, u0, Option.bind_some, w0, Option.bind_some, Option.bind_some, w1, Option.bind_some, Option.bind_some, w2, Option.bind_some, if_pos (show nI 17 = (17 : Int32) from rfl), ck0, Option.bind_some, iw, Option.bind_some, if_neg (show ¬ nI 1 = (0 : Int32) by decide), Option.bind_some, iq, Option.bind_some, if_neg (show ¬ nI 1 = (0 : Int32) by decide), Option.bind_some, r', Option.bind_some, d_67 (by decide) (by decide)]
  exact d_98 (by decide) (by decide) (by decide)
theorem d_rule {h : aH} {A : Nat → Nat} {P : Nat → Bool} {Q : Nat → Nat → Bool} {S : Nat → Nat → Nat → Nat → Nat} {t : MT} (r8 : R8 h A P Q S t) (hw : WF A) (gm : GM A t) {tr : Nat} (e40 : h.2.1 113 40 = nI tr) (ht : tr < A 2) {K : Nat → Nat → Nat} {N k : Nat} (pr : PR h K N) (hk : k < N) (hN : N ≤ 60) (h20 : K k 0 = 20) (hq : K k 2 < A 3) : ∃ h', f_X12_doesStep h 113 (nI k) = some (m1, h') ∧ FR h h' [129, 130] [] [] [41] ∧ KP h h' ∧ R8 h' A P Q S t ∧ h'.2.1 113 41 = nI (juN A P Q S tr (K k 2) t) := by
  obtain ⟨hl, hc, hm, hs⟩ := id r8
  obtain ⟨b0, b1, b2l, b2, b3, b4⟩ := wf_b hw
  obtain ⟨c0, c1, c2, c3, c4, cA⟩ := cm_e hc
  obtain ⟨h', r, f1, kp, r8', e41⟩ := r_rules r8 hw gm e40 ht hq
  have ck0 : ck h 12 113 = some () := ck_L hl (by decide) (by decide)
  have iq : f_X12_isQuestion h 113 (nI (K k 2)) = some (nI 1) := by simp (disch := first | assumption | omega | decide | ((repeat first | apply lyI | apply lyJ | apply lywI | apply lywJ | apply csI | apply csJ | apply cswI | apply cswJ); assumption)) only [f_X12_isQuestion, SM, LI, ↓li_m1, nI_add, pk_mul, nn_sub, nn_m1, nn_div, nn_rem, nn_nz, nn_mod, nJ_l, lN_add, lN_mul, nn_tb1, nI_bt, nn_and, nn_or, nn_xor, nn_shr, nn_1shl, nn_31, il_p, il_n, it_p, it_n, ie_p, ie_n, ie_b, ie_b1, ie_m, ie_mm, it_m, it_m0, il_m0, bI_rZ, Option.bind_some, bd2_some, Nat.add_zero, Nat.zero_add, if_true, if_false, Bool.false_eq_true, eq_self, hI_R, hJ_R, ng_t, ng_e, c3]
  refine ⟨h', ?_, f1, kp, r8', e41⟩
  rw [d_head hl pr hk hN (by omega) (by omega), h20, d_67 (by decide) (by decide)]
  unfold f_X12_doesStep_j98
  rw [if_neg (by decide)]
  unfold f_X12_doesStep_j114
  rw [if_pos (by decide), ck0, Option.bind_some, iq, Option.bind_some, if_neg (by decide), Option.bind_some, r, Option.bind_some]
  rfl
theorem d_when {h : aH} {A : Nat → Nat} {P : Nat → Bool} {Q : Nat → Nat → Bool} {S : Nat → Nat → Nat → Nat → Nat} {t : MT} (r8 : R8 h A P Q S t) (hw : WF A) (gm : GM A t) {K : Nat → Nat → Nat} {N k x : Nat} (pr : PR h K N) (hk : k < N) (hN : N ≤ 60) (hx : x < 4) (hK : K k 0 = 2122 + x) (ha : x < 3 → K k 1 < A 3) (ha2 : K k 1 ≤ 256) : ∃ h', f_X12_doesStep h 113 (nI k) = some (nI (if paB A P Q S x (K k 1) t = true then k + 1 else K k 3 + 1), h') ∧ FR h h' [129, 130] [] [] [] ∧ KP h h' ∧ R8 h' A P Q S t := by
  obtain ⟨hl, hc, hm, hs⟩ := id r8
  have e0 := pr.2 k 0 hk (by decide)
  rw [Nat.add_zero, hK] at e0
  obtain ⟨h', r, f1, kp, r8'⟩ := r_hold r8 hw gm (r := 148 + 4 * k) (by omega) (by omega) hx e0 (pr.2 k 1 hk (by decide)) ha ha2
  have l1 := r8'.1
  have ck0 : ck h 12 113 = some () := ck_L hl (by decide) (by decide)
  have u0 : gR h' 12 113 0 = some 114 := gR_L l1 (by decide) (by decide) (by decide +kernel)
  have w3 : lI h' 114 (nI (148 + 4 * k) + (3 : Int32)) = some (nI (K k 3)) := by
    rw [show (3 : Int32) = nI 3 from rfl, nI_add]
    exact (lI_L l1 (by decide) (show 148 + 4 * k + 3 < 2000 by omega)).trans (congrArg some ((pr_kp kp pr).2 k 3 hk (by decide)))
  refine ⟨h', ?_, f1, kp, r8'⟩
  rw [d_head hl pr hk hN (by omega) (by omega), d_67 (by omega) (by omega), hK]
  unfold f_X12_doesStep_j98
  rw [if_neg (show ¬ nI (2122 + x) = (19 : Int32) from d_ne (b := 19) (by omega) (by decide) (by omega))]
  unfold f_X12_doesStep_j114
  rw [if_neg (show ¬ nI (2122 + x) = (20 : Int32) from d_ne (b := 20) (by omega) (by decide) (by omega))]
  unfold f_X12_doesStep_j137
  rw [if_neg (show ¬ nI (2122 + x) < (2100 : Int32) from nI_nlt (a := 2122 + x) (b := 2100) (by omega) (by omega)), ck0, Option.bind_some, r, bd2_some]
  cases paB A P Q S x (K k 1) t
  · rw [if_pos (by decide), u0, Option.bind_some, w3, Option.bind_some, show nI (K k 3) + (1 : Int32) = nI (K k 3 + 1) from nI_1 _]
    rfl
  · rw [if_neg (by decide), show nI k + (1 : Int32) = nI (k + 1) from nI_1 _]
    rfl
