/-! ===== calls that weigh what is left ===== -/
/-- what fitsAll gives the reference -/
theorem r_all {k : aH} {A : Nat → Nat} {P : Nat → Bool} {Q : Nat → Nat → Bool} {S : Nat → Nat → Nat → Nat → Nat} {n d : Nat} {M : Nat → Nat → Nat} (kl : LAY k) (kc : CM k A P Q) (hw : WF A) (km : MM k n d M) (mw : MW A n d M) (ks : SY k A P S) : ∃ g, f_X12_fitsAll k 113 = some g ∧ FR k g [129, 130] [] [] [] ∧ LAY g ∧ CM g A P Q ∧ MM g n d M ∧ SY g A P S ∧ FB g A 0 (FT A P S M n) ∧ PU g (putN M n) ∧ f_X12_leftAt g 113 (nI 0) = some (nI (cntB (lvB A P S M n) (A 2))) ∧ ∀ q, q < A 3 → f_X12_sureAt g 113 (nI 0) (nI q) = some (crI A (lvB A P S M n) (Q q)) := by
  obtain ⟨g, e, fg, fb, pu⟩ := r_fitsAll kl kc hw km mw ks
  have cg := cm_fr fg (by decide) (by decide) kc
  refine ⟨g, e, fg, fg.lay kl, cg, mm_fr fg (by decide) km, sy_fr fg (by decide) ks, fb, pu, ?_, fun q qb => ?_⟩
  · have r := r_leftAt (fg.lay kl) cg hw fb (fun v w => FT_lt v w) (L := 0) (by decide)
    rw [show (fun v w => ftN A P S M (2 ^ n - 1) n v w) = FT A P S M n from rfl, lf_lv] at r
    exact r
  · have r := r_sureAt (fg.lay kl) cg hw fb (fun v w => FT_lt v w) (L := 0) (by decide) qb
    rw [show (fun v w => ftN A P S M (2 ^ n - 1) n v w) = FT A P S M n from rfl, some_lv, some_lv] at r
    exact r
theorem fb_one {A : Nat → Nat} {S : Nat → Nat → Nat → Nat → Nat} {M : Nat → Nat → Nat} {k v w : Nat} : ∀ j, fbN A S M (2 ^ k) v w j = if k < j ∧ M k 0 = v then mayN A v &&& kfN S v (M k 1) w (M k 2) else mayN A v
  | 0 => by
    rw [if_neg (by omega)]
    rfl
  | j + 1 => by
    have ih := fb_one (A := A) (S := S) (M := M) (k := k) (v := v) (w := w) j
    show (if (2 ^ k).testBit j = true ∧ M j 0 = v then _ else _) = _
    rw [ih, Nat.testBit_two_pow]
    by_cases hk : k = j
    · subst hk
      by_cases hv : M k 0 = v
      · rw [if_pos ⟨by simp, hv⟩, if_neg (by omega), if_pos ⟨by omega, hv⟩]
      · rw [if_neg (fun e => hv e.2), if_neg (fun e => hv e.2), if_neg (fun e => hv e.2)]
    · rw [if_neg (fun e => by simp [hk] at e)]
      by_cases hv : M k 0 = v
      · by_cases hj : k < j
        · rw [if_pos ⟨hj, hv⟩, if_pos ⟨by omega, hv⟩]
        · rw [if_neg (fun e => hj e.1), if_neg (fun e => by omega)]
      · rw [if_neg (fun e => hv e.2), if_neg (fun e => hv e.2)]
theorem ga_lf {A : Nat → Nat} (hw : WF A) {P : Nat → Bool} {S : Nat → Nat → Nat → Nat → Nat} {M : Nat → Nat → Nat} {n k : Nat} (hk : k < n) (hm : M k 0 < A 4) : cntB P (A 2) - cntB (lfB A P (fun v w => ftN A P S M (2 ^ k) n v w)) (A 2) = gaN A P S M k (A 2) := by
  have e : ∀ w, lfB A P (fun v w => ftN A P S M (2 ^ k) n v w) w = (P w && !(kfN S (M k 0) (M k 1) w (M k 2) &&& mayN A (M k 0) == 0)) := fun w => by
    unfold lfB ftN
    cases hp : P w
    · rfl
    · rw [Bool.true_and, Bool.true_and, Bool.eq_iff_iff, allB_iff]
      constructor
      · intro h
        have := h (M k 0) hm
        simp only [hp, if_true] at this
        rw [fb_one, if_pos ⟨hk, rfl⟩, Nat.and_comm] at this
        exact this
      · intro h v hv
        simp only [hp, if_true]
        rw [fb_one]
        by_cases hx : M k 0 = v
        · subst hx
          rw [if_pos ⟨hk, rfl⟩, Nat.and_comm]
          exact h
        · rw [if_neg (fun e => hx e.2)]
          simpa using may_ne hw hv
  have h2 := cnt_split (p := P) (q := fun w => kfN S (M k 0) (M k 1) w (M k 2) &&& mayN A (M k 0) == 0) (n := A 2)
  rw [cntB_congr (fun w _ => e w)]
  unfold gaN
  omega
theorem o_gave {h : aH} {c : Nat} {A : Nat → Nat} {P : Nat → Bool} {Q : Nat → Nat → Bool} {S : Nat → Nat → Nat → Nat → Nat} {n d : Nat} {M : Nat → Nat → Nat} (ko : KO h c A P Q S n d M) (ro : RO h A P Q S n d M) (x : Int32) : QO h (fun g => f_X11_gave g 0 x) (fun g => f_X12_gave g 113 x) := by
  obtain ⟨hs, hc, hw, hl, hf, hm, mw, hr, hn⟩ := id ko
  obtain ⟨b0, b1, b2l, b2, b3, b4⟩ := wf_b hw
  obtain ⟨mn, md, mk, mi⟩ := id mw
  obtain ⟨⟨e0, e1, e2, e15, e3, e4, em⟩, -⟩ := id hc
  have hm4 : h.2.1 53 4 = nI n := hm.1
  have hm5 : h.2.1 53 5 = nI d := hm.2.1
  rcases neg_or x with hxx | ⟨v, v1, rfl⟩
  · exact qo_mk (r := m1) (w := nI 6) ro ⟨h, by simp (disch := first | assumption | omega | decide | ((repeat first | apply lyI | apply lyJ | apply lywI | apply lywJ | apply csI | apply csJ | apply cswI | apply cswJ); assumption)) only [f_X11_gave, f_X11_below, f_X11_refuse, f_X11_deny, S0, SC, SH52, LI, ↓li_m1, nI_add, pk_mul, nn_sub, nn_m1, nn_div, nn_rem, nn_nz, nn_mod, nJ_l, lN_add, lN_mul, nn_tb1, nI_bt, nn_and, nn_or, nn_xor, nn_shr, nn_1shl, nn_31, il_p, il_n, it_p, it_n, ie_p, ie_n, ie_b, ie_b1, ie_m, ie_mm, it_m, it_m0, il_m0, bI_rZ, Option.bind_some, bd2_some, Nat.add_zero, Nat.zero_add, if_true, if_false, Bool.false_eq_true, eq_self, hI_R, hJ_R, ng_t, ng_e, hn, e0, e1, e2, e3, e4, hm4], FR.rf⟩ (fun k kl kc km ks => by
    obtain ⟨c0, c1, c2, c3, c4, cA⟩ := cm_e kc
    obtain ⟨m5, m6, mM⟩ := id km
    exact ⟨k, by simp (disch := first | assumption | omega | decide | ((repeat first | apply lyI | apply lyJ | apply lywI | apply lywJ | apply csI | apply csJ | apply cswI | apply cswJ); assumption)) only [f_X12_gave, f_X12_gave_j15, f_X12_isWitness, f_X12_isWorld, f_X12_isQuestion, f_X12_isKind, f_X12_refuse, f_X12_is, SM, LI, ↓li_m1, nI_add, pk_mul, nn_sub, nn_m1, nn_div, nn_rem, nn_nz, nn_mod, nJ_l, lN_add, lN_mul, nn_tb1, nI_bt, nn_and, nn_or, nn_xor, nn_shr, nn_1shl, nn_31, il_p, il_n, it_p, it_n, ie_p, ie_n, ie_b, ie_b1, ie_m, ie_mm, it_m, it_m0, il_m0, bI_rZ, Option.bind_some, bd2_some, Nat.add_zero, Nat.zero_add, if_true, if_false, Bool.false_eq_true, eq_self, hI_R, hJ_R, ng_t, ng_e, c0, c1, c2, c3, c4, m5, m6], FR.rf⟩)
  rcases (Nat.lt_or_ge v (n)).symm with vb | vb
  · exact qo_mk (r := m1) (w := nI 6) ro ⟨h, by simp (disch := first | assumption | omega | decide | ((repeat first | apply lyI | apply lyJ | apply lywI | apply lywJ | apply csI | apply csJ | apply cswI | apply cswJ); assumption)) only [f_X11_gave, f_X11_below, f_X11_refuse, f_X11_deny, S0, SC, SH52, LI, ↓li_m1, nI_add, pk_mul, nn_sub, nn_m1, nn_div, nn_rem, nn_nz, nn_mod, nJ_l, lN_add, lN_mul, nn_tb1, nI_bt, nn_and, nn_or, nn_xor, nn_shr, nn_1shl, nn_31, il_p, il_n, it_p, it_n, ie_p, ie_n, ie_b, ie_b1, ie_m, ie_mm, it_m, it_m0, il_m0, bI_rZ, Option.bind_some, bd2_some, Nat.add_zero, Nat.zero_add, if_true, if_false, Bool.false_eq_true, eq_self, hI_R, hJ_R, ng_t, ng_e, hn, e0, e1, e2, e3, e4, hm4], FR.rf⟩ (fun k kl kc km ks => by
    obtain ⟨c0, c1, c2, c3, c4, cA⟩ := cm_e kc
    obtain ⟨m5, m6, mM⟩ := id km
    exact ⟨k, by simp (disch := first | assumption | omega | decide | ((repeat first | apply lyI | apply lyJ | apply lywI | apply lywJ | apply csI | apply csJ | apply cswI | apply cswJ); assumption)) only [f_X12_gave, f_X12_gave_j15, f_X12_isWitness, f_X12_isWorld, f_X12_isQuestion, f_X12_isKind, f_X12_refuse, f_X12_is, SM, LI, ↓li_m1, nI_add, pk_mul, nn_sub, nn_m1, nn_div, nn_rem, nn_nz, nn_mod, nJ_l, lN_add, lN_mul, nn_tb1, nI_bt, nn_and, nn_or, nn_xor, nn_shr, nn_1shl, nn_31, il_p, il_n, it_p, it_n, ie_p, ie_n, ie_b, ie_b1, ie_m, ie_mm, it_m, it_m0, il_m0, bI_rZ, Option.bind_some, bd2_some, Nat.add_zero, Nat.zero_add, if_true, if_false, Bool.false_eq_true, eq_self, hI_R, hJ_R, ng_t, ng_e, c0, c1, c2, c3, c4, m5, m6], FR.rf⟩)
  have r := k_gave52 hs hc hw hl hf hm mw hr vb
  have gl := cntB_le (fun w => P w && (kfN S (M v 0) (M v 1) w (M v 2) &&& mayN A (M v 0) == 0)) (A 2)
  exact qo_mk (r := nI (gaN A P S M v (A 2))) (w := nI 0) ro ⟨h, by simp (disch := first | assumption | omega | decide | ((repeat first | apply lyI | apply lyJ | apply lywI | apply lywJ | apply csI | apply csJ | apply cswI | apply cswJ); assumption)) only [f_X11_gave, f_X11_below, f_X11_give, S0, SH52, LI, ↓li_m1, nI_add, pk_mul, nn_sub, nn_m1, nn_div, nn_rem, nn_nz, nn_mod, nJ_l, lN_add, lN_mul, nn_tb1, nI_bt, nn_and, nn_or, nn_xor, nn_shr, nn_1shl, nn_31, il_p, il_n, it_p, it_n, ie_p, ie_n, ie_b, ie_b1, ie_m, ie_mm, it_m, it_m0, il_m0, bI_rZ, Option.bind_some, bd2_some, Nat.add_zero, Nat.zero_add, if_true, if_false, Bool.false_eq_true, eq_self, hI_R, hJ_R, ng_t, ng_e, hm4, r], FR.rf⟩ (fun k kl kc km ks => by
    obtain ⟨m5, m6, mM⟩ := id km
    have p31 : 2 ^ v < 2147483648 := Nat.lt_of_lt_of_le (Nat.pow_lt_pow_right (by decide) (show v < 12 by omega)) (by decide)
    obtain ⟨g, e, fg, fb, -⟩ := r_fitsBy kl kc hw km mw ks (m := 2 ^ v) p31
    have lg := fg.lay kl
    have cg := cm_fr fg (by decide) (by decide) kc
    have r1 := r_size lg cg hw
    have r2 := r_leftAt lg cg hw fb (fun v w => ftN_lt _ _ _ _ _ _ _ _) (L := 0) (by decide)
    have ee := ga_lf hw (P := P) (S := S) vb (mk v vb).1
    have l1 := cntB_le P (A 2)
    have l2 : cntB (lfB A P (fun a b => ftN A P S M (2 ^ v) n a b)) (A 2) ≤ cntB P (A 2) := by
      have := cnt_split (p := P) (q := lfB A P (fun a b => ftN A P S M (2 ^ v) n a b)) (n := A 2)
      rw [cntB_congr (q := lfB A P (fun a b => ftN A P S M (2 ^ v) n a b)) (fun w _ => by
        show (P w && lfB A P _ w) = _
        unfold lfB
        cases P w <;> simp)] at this
      omega
    exact ⟨g, by simp (disch := first | assumption | omega | decide | ((repeat first | apply lyI | apply lyJ | apply lywI | apply lywJ | apply csI | apply csJ | apply cswI | apply cswJ); assumption)) only [f_X12_gave, f_X12_gave_j15, f_X12_gives, SM, LI, ↓li_m1, nI_add, pk_mul, nn_sub, nn_m1, nn_div, nn_rem, nn_nz, nn_mod, nJ_l, lN_add, lN_mul, nn_tb1, nI_bt, nn_and, nn_or, nn_xor, nn_shr, nn_1shl, nn_31, il_p, il_n, it_p, it_n, ie_p, ie_n, ie_b, ie_b1, ie_m, ie_mm, it_m, it_m0, il_m0, bI_rZ, Option.bind_some, bd2_some, Nat.add_zero, Nat.zero_add, if_true, if_false, Bool.false_eq_true, eq_self, hI_R, hJ_R, ng_t, ng_e, m6, e, r1, r2, ee], fg.mono (by decide) (by decide) (by decide) (by decide)⟩)
theorem o_fees {h : aH} {c : Nat} {A : Nat → Nat} {P : Nat → Bool} {Q : Nat → Nat → Bool} {S : Nat → Nat → Nat → Nat → Nat} {n d : Nat} {M : Nat → Nat → Nat} (ko : KO h c A P Q S n d M) (ro : RO h A P Q S n d M) : QO h (fun g => f_X11_fees g 0) (fun g => f_X12_fees g 113) := by
  obtain ⟨hs, hc, hw, hl, hf, hm, mw, hr, hn⟩ := id ko
  obtain ⟨b0, b1, b2l, b2, b3, b4⟩ := wf_b hw
  obtain ⟨mn, md, mk, mi⟩ := id mw
  obtain ⟨⟨e0, e1, e2, e15, e3, e4, em⟩, -⟩ := id hc
  have hm4 : h.2.1 53 4 = nI n := hm.1
  have hm5 : h.2.1 53 5 = nI d := hm.2.1
  have r := k_costs52 hs hc hw hl hf hm mw hr
  exact qo_mk (r := nI (feN A M n)) (w := nI 0) ro ⟨h, by simp (disch := first | assumption | omega | decide | ((repeat first | apply lyI | apply lyJ | apply lywI | apply lywJ | apply csI | apply csJ | apply cswI | apply cswJ); assumption)) only [f_X11_fees, f_X11_give, S0, SH52, LI, ↓li_m1, nI_add, pk_mul, nn_sub, nn_m1, nn_div, nn_rem, nn_nz, nn_mod, nJ_l, lN_add, lN_mul, nn_tb1, nI_bt, nn_and, nn_or, nn_xor, nn_shr, nn_1shl, nn_31, il_p, il_n, it_p, it_n, ie_p, ie_n, ie_b, ie_b1, ie_m, ie_mm, it_m, it_m0, il_m0, bI_rZ, Option.bind_some, bd2_some, Nat.add_zero, Nat.zero_add, if_true, if_false, Bool.false_eq_true, eq_self, hI_R, hJ_R, ng_t, ng_e, r], FR.rf⟩ (fun k kl kc km ks => by
    have r := r_feesOf kl kc hw km mw
    exact ⟨k, by simp (disch := first | assumption | omega | decide | ((repeat first | apply lyI | apply lyJ | apply lywI | apply lywJ | apply csI | apply csJ | apply cswI | apply cswJ); assumption)) only [f_X12_fees, f_X12_gives, SM, LI, ↓li_m1, nI_add, pk_mul, nn_sub, nn_m1, nn_div, nn_rem, nn_nz, nn_mod, nJ_l, lN_add, lN_mul, nn_tb1, nI_bt, nn_and, nn_or, nn_xor, nn_shr, nn_1shl, nn_31, il_p, il_n, it_p, it_n, ie_p, ie_n, ie_b, ie_b1, ie_m, ie_mm, it_m, it_m0, il_m0, bI_rZ, Option.bind_some, bd2_some, Nat.add_zero, Nat.zero_add, if_true, if_false, Bool.false_eq_true, eq_self, hI_R, hJ_R, ng_t, ng_e, r], FR.rf⟩)
theorem o_worst {h : aH} {c : Nat} {A : Nat → Nat} {P : Nat → Bool} {Q : Nat → Nat → Bool} {S : Nat → Nat → Nat → Nat → Nat} {n d : Nat} {M : Nat → Nat → Nat} (ko : KO h c A P Q S n d M) (ro : RO h A P Q S n d M) (x y : Int32) : QO h (fun g => f_X11_worst g 0 x y) (fun g => f_X12_worst g 113 x y) := by
  obtain ⟨hs, hc, hw, hl, hf, hm, mw, hr, hn⟩ := id ko
  obtain ⟨b0, b1, b2l, b2, b3, b4⟩ := wf_b hw
  obtain ⟨mn, md, mk, mi⟩ := id mw
  obtain ⟨⟨e0, e1, e2, e15, e3, e4, em⟩, -⟩ := id hc
  have hm4 : h.2.1 53 4 = nI n := hm.1
  have hm5 : h.2.1 53 5 = nI d := hm.2.1
  rcases neg_or x with hxx | ⟨v, v1, rfl⟩
  · exact qo_mk (r := m1) (w := nI 1) ro ⟨h, by simp (disch := first | assumption | omega | decide | ((repeat first | apply lyI | apply lyJ | apply lywI | apply lywJ | apply csI | apply csJ | apply cswI | apply cswJ); assumption)) only [f_X11_worst, f_X11_worst_j28, f_X11_below, f_X11_refuse, f_X11_deny, S0, SC, SH52, LI, ↓li_m1, nI_add, pk_mul, nn_sub, nn_m1, nn_div, nn_rem, nn_nz, nn_mod, nJ_l, lN_add, lN_mul, nn_tb1, nI_bt, nn_and, nn_or, nn_xor, nn_shr, nn_1shl, nn_31, il_p, il_n, it_p, it_n, ie_p, ie_n, ie_b, ie_b1, ie_m, ie_mm, it_m, it_m0, il_m0, bI_rZ, Option.bind_some, bd2_some, Nat.add_zero, Nat.zero_add, if_true, if_false, Bool.false_eq_true, eq_self, hI_R, hJ_R, ng_t, ng_e, hn, e0, e1, e2, e3, e4, hm4], FR.rf⟩ (fun k kl kc km ks => by
    obtain ⟨c0, c1, c2, c3, c4, cA⟩ := cm_e kc
    obtain ⟨m5, m6, mM⟩ := id km
    exact ⟨k, by simp (disch := first | assumption | omega | decide | ((repeat first | apply lyI | apply lyJ | apply lywI | apply lywJ | apply csI | apply csJ | apply cswI | apply cswJ); assumption)) only [f_X12_worst, f_X12_worst_j16, f_X12_isWitness, f_X12_isWorld, f_X12_isQuestion, f_X12_isKind, f_X12_refuse, f_X12_is, SM, LI, ↓li_m1, nI_add, pk_mul, nn_sub, nn_m1, nn_div, nn_rem, nn_nz, nn_mod, nJ_l, lN_add, lN_mul, nn_tb1, nI_bt, nn_and, nn_or, nn_xor, nn_shr, nn_1shl, nn_31, il_p, il_n, it_p, it_n, ie_p, ie_n, ie_b, ie_b1, ie_m, ie_mm, it_m, it_m0, il_m0, bI_rZ, Option.bind_some, bd2_some, Nat.add_zero, Nat.zero_add, if_true, if_false, Bool.false_eq_true, eq_self, hI_R, hJ_R, ng_t, ng_e, c0, c1, c2, c3, c4, m5, m6], FR.rf⟩)
  rcases (Nat.lt_or_ge v (A 4)).symm with vb | vb
  · exact qo_mk (r := m1) (w := nI 1) ro ⟨h, by simp (disch := first | assumption | omega | decide | ((repeat first | apply lyI | apply lyJ | apply lywI | apply lywJ | apply csI | apply csJ | apply cswI | apply cswJ); assumption)) only [f_X11_worst, f_X11_worst_j28, f_X11_below, f_X11_refuse, f_X11_deny, S0, SC, SH52, LI, ↓li_m1, nI_add, pk_mul, nn_sub, nn_m1, nn_div, nn_rem, nn_nz, nn_mod, nJ_l, lN_add, lN_mul, nn_tb1, nI_bt, nn_and, nn_or, nn_xor, nn_shr, nn_1shl, nn_31, il_p, il_n, it_p, it_n, ie_p, ie_n, ie_b, ie_b1, ie_m, ie_mm, it_m, it_m0, il_m0, bI_rZ, Option.bind_some, bd2_some, Nat.add_zero, Nat.zero_add, if_true, if_false, Bool.false_eq_true, eq_self, hI_R, hJ_R, ng_t, ng_e, hn, e0, e1, e2, e3, e4, hm4], FR.rf⟩ (fun k kl kc km ks => by
    obtain ⟨c0, c1, c2, c3, c4, cA⟩ := cm_e kc
    obtain ⟨m5, m6, mM⟩ := id km
    exact ⟨k, by simp (disch := first | assumption | omega | decide | ((repeat first | apply lyI | apply lyJ | apply lywI | apply lywJ | apply csI | apply csJ | apply cswI | apply cswJ); assumption)) only [f_X12_worst, f_X12_worst_j16, f_X12_isWitness, f_X12_isWorld, f_X12_isQuestion, f_X12_isKind, f_X12_refuse, f_X12_is, SM, LI, ↓li_m1, nI_add, pk_mul, nn_sub, nn_m1, nn_div, nn_rem, nn_nz, nn_mod, nJ_l, lN_add, lN_mul, nn_tb1, nI_bt, nn_and, nn_or, nn_xor, nn_shr, nn_1shl, nn_31, il_p, il_n, it_p, it_n, ie_p, ie_n, ie_b, ie_b1, ie_m, ie_mm, it_m, it_m0, il_m0, bI_rZ, Option.bind_some, bd2_some, Nat.add_zero, Nat.zero_add, if_true, if_false, Bool.false_eq_true, eq_self, hI_R, hJ_R, ng_t, ng_e, c0, c1, c2, c3, c4, m5, m6], FR.rf⟩)
  rcases neg_or y with hxy | ⟨q, q1, rfl⟩
  · exact qo_mk (r := m1) (w := nI 1) ro ⟨h, by simp (disch := first | assumption | omega | decide | ((repeat first | apply lyI | apply lyJ | apply lywI | apply lywJ | apply csI | apply csJ | apply cswI | apply cswJ); assumption)) only [f_X11_worst, f_X11_worst_j28, f_X11_below, f_X11_refuse, f_X11_deny, S0, SC, SH52, LI, ↓li_m1, nI_add, pk_mul, nn_sub, nn_m1, nn_div, nn_rem, nn_nz, nn_mod, nJ_l, lN_add, lN_mul, nn_tb1, nI_bt, nn_and, nn_or, nn_xor, nn_shr, nn_1shl, nn_31, il_p, il_n, it_p, it_n, ie_p, ie_n, ie_b, ie_b1, ie_m, ie_mm, it_m, it_m0, il_m0, bI_rZ, Option.bind_some, bd2_some, Nat.add_zero, Nat.zero_add, if_true, if_false, Bool.false_eq_true, eq_self, hI_R, hJ_R, ng_t, ng_e, hn, e0, e1, e2, e3, e4, hm4], FR.rf⟩ (fun k kl kc km ks => by
    obtain ⟨c0, c1, c2, c3, c4, cA⟩ := cm_e kc
    obtain ⟨m5, m6, mM⟩ := id km
    exact ⟨k, by simp (disch := first | assumption | omega | decide | ((repeat first | apply lyI | apply lyJ | apply lywI | apply lywJ | apply csI | apply csJ | apply cswI | apply cswJ); assumption)) only [f_X12_worst, f_X12_worst_j16, f_X12_isWitness, f_X12_isWorld, f_X12_isQuestion, f_X12_isKind, f_X12_refuse, f_X12_is, SM, LI, ↓li_m1, nI_add, pk_mul, nn_sub, nn_m1, nn_div, nn_rem, nn_nz, nn_mod, nJ_l, lN_add, lN_mul, nn_tb1, nI_bt, nn_and, nn_or, nn_xor, nn_shr, nn_1shl, nn_31, il_p, il_n, it_p, it_n, ie_p, ie_n, ie_b, ie_b1, ie_m, ie_mm, it_m, it_m0, il_m0, bI_rZ, Option.bind_some, bd2_some, Nat.add_zero, Nat.zero_add, if_true, if_false, Bool.false_eq_true, eq_self, hI_R, hJ_R, ng_t, ng_e, c0, c1, c2, c3, c4, m5, m6], FR.rf⟩)
  rcases (Nat.lt_or_ge q (A 3)).symm with qb | qb
  · exact qo_mk (r := m1) (w := nI 1) ro ⟨h, by simp (disch := first | assumption | omega | decide | ((repeat first | apply lyI | apply lyJ | apply lywI | apply lywJ | apply csI | apply csJ | apply cswI | apply cswJ); assumption)) only [f_X11_worst, f_X11_worst_j28, f_X11_below, f_X11_refuse, f_X11_deny, S0, SC, SH52, LI, ↓li_m1, nI_add, pk_mul, nn_sub, nn_m1, nn_div, nn_rem, nn_nz, nn_mod, nJ_l, lN_add, lN_mul, nn_tb1, nI_bt, nn_and, nn_or, nn_xor, nn_shr, nn_1shl, nn_31, il_p, il_n, it_p, it_n, ie_p, ie_n, ie_b, ie_b1, ie_m, ie_mm, it_m, it_m0, il_m0, bI_rZ, Option.bind_some, bd2_some, Nat.add_zero, Nat.zero_add, if_true, if_false, Bool.false_eq_true, eq_self, hI_R, hJ_R, ng_t, ng_e, hn, e0, e1, e2, e3, e4, hm4], FR.rf⟩ (fun k kl kc km ks => by
    obtain ⟨c0, c1, c2, c3, c4, cA⟩ := cm_e kc
    obtain ⟨m5, m6, mM⟩ := id km
    exact ⟨k, by simp (disch := first | assumption | omega | decide | ((repeat first | apply lyI | apply lyJ | apply lywI | apply lywJ | apply csI | apply csJ | apply cswI | apply cswJ); assumption)) only [f_X12_worst, f_X12_worst_j16, f_X12_isWitness, f_X12_isWorld, f_X12_isQuestion, f_X12_isKind, f_X12_refuse, f_X12_is, SM, LI, ↓li_m1, nI_add, pk_mul, nn_sub, nn_m1, nn_div, nn_rem, nn_nz, nn_mod, nJ_l, lN_add, lN_mul, nn_tb1, nI_bt, nn_and, nn_or, nn_xor, nn_shr, nn_1shl, nn_31, il_p, il_n, it_p, it_n, ie_p, ie_n, ie_b, ie_b1, ie_m, ie_mm, it_m, it_m0, il_m0, bI_rZ, Option.bind_some, bd2_some, Nat.add_zero, Nat.zero_add, if_true, if_false, Bool.false_eq_true, eq_self, hI_R, hJ_R, ng_t, ng_e, c0, c1, c2, c3, c4, m5, m6], FR.rf⟩)
  have hv : h.2.1 52 5 = nI (cntB (lvB A P S M n) (A 2)) := hr.1
  have cle := cntB_le (lvB A P S M n) (A 2)
  have r1 := k_wasPut52 hs hc hw hl hf hm mw hr qb
  by_cases hz : cntB (lvB A P S M n) (A 2) = 0
  · exact qo_mk (r := m1) (w := nI 6) ro ⟨h, by simp (disch := first | assumption | omega | decide | ((repeat first | apply lyI | apply lyJ | apply lywI | apply lywJ | apply csI | apply csJ | apply cswI | apply cswJ); assumption)) only [f_X11_worst, f_X11_worst_j28, f_X11_below, f_X11_refuse, S0, SC, SH52, LI, ↓li_m1, nI_add, pk_mul, nn_sub, nn_m1, nn_div, nn_rem, nn_nz, nn_mod, nJ_l, lN_add, lN_mul, nn_tb1, nI_bt, nn_and, nn_or, nn_xor, nn_shr, nn_1shl, nn_31, il_p, il_n, it_p, it_n, ie_p, ie_n, ie_b, ie_b1, ie_m, ie_mm, it_m, it_m0, il_m0, bI_rZ, Option.bind_some, bd2_some, Nat.add_zero, Nat.zero_add, if_true, if_false, Bool.false_eq_true, eq_self, hI_R, hJ_R, ng_t, ng_e, hn, e4, e3, hv, hz], FR.rf⟩ (fun k kl kc km ks => by
    obtain ⟨c0, c1, c2, c3, c4, cA⟩ := cm_e kc
    obtain ⟨g, e, fg, lg, cg, mg, sg, fb, pu, rl, rs⟩ := r_all kl kc hw km mw ks
    exact ⟨g, by simp (disch := first | assumption | omega | decide | ((repeat first | apply lyI | apply lyJ | apply lywI | apply lywJ | apply csI | apply csJ | apply cswI | apply cswJ); assumption)) only [f_X12_worst, f_X12_worst_j16, f_X12_isWitness, f_X12_isQuestion, f_X12_refuse, SM, LI, ↓li_m1, nI_add, pk_mul, nn_sub, nn_m1, nn_div, nn_rem, nn_nz, nn_mod, nJ_l, lN_add, lN_mul, nn_tb1, nI_bt, nn_and, nn_or, nn_xor, nn_shr, nn_1shl, nn_31, il_p, il_n, it_p, it_n, ie_p, ie_n, ie_b, ie_b1, ie_m, ie_mm, it_m, it_m0, il_m0, bI_rZ, Option.bind_some, bd2_some, Nat.add_zero, Nat.zero_add, if_true, if_false, Bool.false_eq_true, eq_self, hI_R, hJ_R, ng_t, ng_e, c4, c3, e, rl, hz], fg.mono (by decide) (by decide) (by decide) (by decide)⟩)
  · rcases (Bool.eq_false_or_eq_true (putN M n q)).symm with hp | hp
    · rw [hp] at r1
      obtain ⟨h1, r2, f1⟩ := k_most52 hs hc hw hl hf hm mw hr vb qb
      have l1 := f1.lay hl
      exact qo_mk (r := nI (woN A P S (FT A P S M n) v q)) (w := nI 0) ro ⟨h1, by simp (disch := first | assumption | omega | decide | ((repeat first | apply lyI | apply lyJ | apply lywI | apply lywJ | apply csI | apply csJ | apply cswI | apply cswJ); assumption)) only [f_X11_worst, f_X11_worst_j28, f_X11_below, f_X11_give, S0, SC, SH52, LI, ↓li_m1, nI_add, pk_mul, nn_sub, nn_m1, nn_div, nn_rem, nn_nz, nn_mod, nJ_l, lN_add, lN_mul, nn_tb1, nI_bt, nn_and, nn_or, nn_xor, nn_shr, nn_1shl, nn_31, il_p, il_n, it_p, it_n, ie_p, ie_n, ie_b, ie_b1, ie_m, ie_mm, it_m, it_m0, il_m0, bI_rZ, Option.bind_some, bd2_some, Nat.add_zero, Nat.zero_add, if_true, if_false, Bool.false_eq_true, eq_self, hI_R, hJ_R, ng_t, ng_e, hn, e4, e3, hv, r1, bI_f, r2], f1.mono (by decide) (by decide) (by decide) (by decide)⟩ (fun k kl kc km ks => by
      obtain ⟨c0, c1, c2, c3, c4, cA⟩ := cm_e kc
      obtain ⟨g, e, fg, lg, cg, mg, sg, fb, pu, rl, rs⟩ := r_all kl kc hw km mw ks
      have ep := pu q (by omega)
      rw [hp] at ep
      obtain ⟨g1, r3, f2, -⟩ := r_worstOf lg cg hw sg fb FT_lt FT_P vb qb
      have l2 := f2.lay lg
      exact ⟨g1, by simp (disch := first | assumption | omega | decide | ((repeat first | apply lyI | apply lyJ | apply lywI | apply lywJ | apply csI | apply csJ | apply cswI | apply cswJ); assumption)) only [f_X12_worst, f_X12_worst_j16, f_X12_isWitness, f_X12_isQuestion, f_X12_gives, SM, LI, ↓li_m1, nI_add, pk_mul, nn_sub, nn_m1, nn_div, nn_rem, nn_nz, nn_mod, nJ_l, lN_add, lN_mul, nn_tb1, nI_bt, nn_and, nn_or, nn_xor, nn_shr, nn_1shl, nn_31, il_p, il_n, it_p, it_n, ie_p, ie_n, ie_b, ie_b1, ie_m, ie_mm, it_m, it_m0, il_m0, bI_rZ, Option.bind_some, bd2_some, Nat.add_zero, Nat.zero_add, if_true, if_false, Bool.false_eq_true, eq_self, hI_R, hJ_R, ng_t, ng_e, c4, c3, e, rl, ep, bI_f, r3], (fg.mono (by decide) (by decide) (by decide) (by decide)).tr (f2.mono (by decide) (by decide) (by decide) (by decide))⟩)
    · rw [hp] at r1
      exact qo_mk (r := m1) (w := nI 7) ro ⟨h, by simp (disch := first | assumption | omega | decide | ((repeat first | apply lyI | apply lyJ | apply lywI | apply lywJ | apply csI | apply csJ | apply cswI | apply cswJ); assumption)) only [f_X11_worst, f_X11_worst_j28, f_X11_below, f_X11_refuse, S0, SC, SH52, LI, ↓li_m1, nI_add, pk_mul, nn_sub, nn_m1, nn_div, nn_rem, nn_nz, nn_mod, nJ_l, lN_add, lN_mul, nn_tb1, nI_bt, nn_and, nn_or, nn_xor, nn_shr, nn_1shl, nn_31, il_p, il_n, it_p, it_n, ie_p, ie_n, ie_b, ie_b1, ie_m, ie_mm, it_m, it_m0, il_m0, bI_rZ, Option.bind_some, bd2_some, Nat.add_zero, Nat.zero_add, if_true, if_false, Bool.false_eq_true, eq_self, hI_R, hJ_R, ng_t, ng_e, hn, e4, e3, hv, r1, bI_t], FR.rf⟩ (fun k kl kc km ks => by
      obtain ⟨c0, c1, c2, c3, c4, cA⟩ := cm_e kc
      obtain ⟨g, e, fg, lg, cg, mg, sg, fb, pu, rl, rs⟩ := r_all kl kc hw km mw ks
      have ep := pu q (by omega)
      rw [hp] at ep
      exact ⟨g, by simp (disch := first | assumption | omega | decide | ((repeat first | apply lyI | apply lyJ | apply lywI | apply lywJ | apply csI | apply csJ | apply cswI | apply cswJ); assumption)) only [f_X12_worst, f_X12_worst_j16, f_X12_isWitness, f_X12_isQuestion, f_X12_refuse, SM, LI, ↓li_m1, nI_add, pk_mul, nn_sub, nn_m1, nn_div, nn_rem, nn_nz, nn_mod, nJ_l, lN_add, lN_mul, nn_tb1, nI_bt, nn_and, nn_or, nn_xor, nn_shr, nn_1shl, nn_31, il_p, il_n, it_p, it_n, ie_p, ie_n, ie_b, ie_b1, ie_m, ie_mm, it_m, it_m0, il_m0, bI_rZ, Option.bind_some, bd2_some, Nat.add_zero, Nat.zero_add, if_true, if_false, Bool.false_eq_true, eq_self, hI_R, hJ_R, ng_t, ng_e, c4, c3, e, rl, ep, bI_t], fg.mono (by decide) (by decide) (by decide) (by decide)⟩)
theorem o_best {h : aH} {c : Nat} {A : Nat → Nat} {P : Nat → Bool} {Q : Nat → Nat → Bool} {S : Nat → Nat → Nat → Nat → Nat} {n d : Nat} {M : Nat → Nat → Nat} (ko : KO h c A P Q S n d M) (ro : RO h A P Q S n d M) (x : Int32) : QO h (fun g => f_X11_best g 0 x) (fun g => f_X12_best g 113 x) := by
  obtain ⟨hs, hc, hw, hl, hf, hm, mw, hr, hn⟩ := id ko
  obtain ⟨b0, b1, b2l, b2, b3, b4⟩ := wf_b hw
  obtain ⟨mn, md, mk, mi⟩ := id mw
  obtain ⟨⟨e0, e1, e2, e15, e3, e4, em⟩, -⟩ := id hc
  have hm4 : h.2.1 53 4 = nI n := hm.1
  have hm5 : h.2.1 53 5 = nI d := hm.2.1
  rcases neg_or x with hxx | ⟨v, v1, rfl⟩
  · exact qo_mk (r := m1) (w := nI 1) ro ⟨h, by simp (disch := first | assumption | omega | decide | ((repeat first | apply lyI | apply lyJ | apply lywI | apply lywJ | apply csI | apply csJ | apply cswI | apply cswJ); assumption)) only [f_X11_best, f_X11_below, f_X11_refuse, f_X11_deny, S0, SC, SH52, LI, ↓li_m1, nI_add, pk_mul, nn_sub, nn_m1, nn_div, nn_rem, nn_nz, nn_mod, nJ_l, lN_add, lN_mul, nn_tb1, nI_bt, nn_and, nn_or, nn_xor, nn_shr, nn_1shl, nn_31, il_p, il_n, it_p, it_n, ie_p, ie_n, ie_b, ie_b1, ie_m, ie_mm, it_m, it_m0, il_m0, bI_rZ, Option.bind_some, bd2_some, Nat.add_zero, Nat.zero_add, if_true, if_false, Bool.false_eq_true, eq_self, hI_R, hJ_R, ng_t, ng_e, hn, e0, e1, e2, e3, e4, hm4], FR.rf⟩ (fun k kl kc km ks => by
    obtain ⟨c0, c1, c2, c3, c4, cA⟩ := cm_e kc
    obtain ⟨m5, m6, mM⟩ := id km
    exact ⟨k, by simp (disch := first | assumption | omega | decide | ((repeat first | apply lyI | apply lyJ | apply lywI | apply lywJ | apply csI | apply csJ | apply cswI | apply cswJ); assumption)) only [f_X12_best, f_X12_isWitness, f_X12_isWorld, f_X12_isQuestion, f_X12_isKind, f_X12_refuse, f_X12_is, SM, LI, ↓li_m1, nI_add, pk_mul, nn_sub, nn_m1, nn_div, nn_rem, nn_nz, nn_mod, nJ_l, lN_add, lN_mul, nn_tb1, nI_bt, nn_and, nn_or, nn_xor, nn_shr, nn_1shl, nn_31, il_p, il_n, it_p, it_n, ie_p, ie_n, ie_b, ie_b1, ie_m, ie_mm, it_m, it_m0, il_m0, bI_rZ, Option.bind_some, bd2_some, Nat.add_zero, Nat.zero_add, if_true, if_false, Bool.false_eq_true, eq_self, hI_R, hJ_R, ng_t, ng_e, c0, c1, c2, c3, c4, m5, m6], FR.rf⟩)
  rcases (Nat.lt_or_ge v (A 4)).symm with vb | vb
  · exact qo_mk (r := m1) (w := nI 1) ro ⟨h, by simp (disch := first | assumption | omega | decide | ((repeat first | apply lyI | apply lyJ | apply lywI | apply lywJ | apply csI | apply csJ | apply cswI | apply cswJ); assumption)) only [f_X11_best, f_X11_below, f_X11_refuse, f_X11_deny, S0, SC, SH52, LI, ↓li_m1, nI_add, pk_mul, nn_sub, nn_m1, nn_div, nn_rem, nn_nz, nn_mod, nJ_l, lN_add, lN_mul, nn_tb1, nI_bt, nn_and, nn_or, nn_xor, nn_shr, nn_1shl, nn_31, il_p, il_n, it_p, it_n, ie_p, ie_n, ie_b, ie_b1, ie_m, ie_mm, it_m, it_m0, il_m0, bI_rZ, Option.bind_some, bd2_some, Nat.add_zero, Nat.zero_add, if_true, if_false, Bool.false_eq_true, eq_self, hI_R, hJ_R, ng_t, ng_e, hn, e0, e1, e2, e3, e4, hm4], FR.rf⟩ (fun k kl kc km ks => by
    obtain ⟨c0, c1, c2, c3, c4, cA⟩ := cm_e kc
    obtain ⟨m5, m6, mM⟩ := id km
    exact ⟨k, by simp (disch := first | assumption | omega | decide | ((repeat first | apply lyI | apply lyJ | apply lywI | apply lywJ | apply csI | apply csJ | apply cswI | apply cswJ); assumption)) only [f_X12_best, f_X12_isWitness, f_X12_isWorld, f_X12_isQuestion, f_X12_isKind, f_X12_refuse, f_X12_is, SM, LI, ↓li_m1, nI_add, pk_mul, nn_sub, nn_m1, nn_div, nn_rem, nn_nz, nn_mod, nJ_l, lN_add, lN_mul, nn_tb1, nI_bt, nn_and, nn_or, nn_xor, nn_shr, nn_1shl, nn_31, il_p, il_n, it_p, it_n, ie_p, ie_n, ie_b, ie_b1, ie_m, ie_mm, it_m, it_m0, il_m0, bI_rZ, Option.bind_some, bd2_some, Nat.add_zero, Nat.zero_add, if_true, if_false, Bool.false_eq_true, eq_self, hI_R, hJ_R, ng_t, ng_e, c0, c1, c2, c3, c4, m5, m6], FR.rf⟩)
  obtain ⟨h1, r1, f1⟩ := k_best52 hs hc hw hl hf hm mw hr vb
  have l1 := f1.lay hl
  have rr : ∀ k, LAY k → CM k A P Q → MM k n d M → SY k A P S → ∃ g g1, f_X12_fitsAll k 113 = some g ∧ LAY g ∧ f_X12_bestOf g 113 (nI v) = some (if cntB (lvB A P S M n) (A 2) = 0 then m1 else bsI (bsN (putN M n) (woN A P S (FT A P S M n) v) (A 3)), g1) ∧ FR k g1 SCR [] [] [] := fun k kl kc km ks => by
    obtain ⟨g, e, fg, lg, cg, mg, sg, fb, pu, rl, rs⟩ := r_all kl kc hw km mw ks
    obtain ⟨g1, r3, f2, -⟩ := r_bestOf lg cg hw sg fb FT_lt FT_P pu vb
    rw [lf_lv] at r3
    exact ⟨g, g1, e, lg, r3, (fg.mono (by decide) (by decide) (by decide) (by decide)).tr (f2.mono (by decide) (by decide) (by decide) (by decide))⟩
  by_cases hx : (if cntB (lvB A P S M n) (A 2) = 0 then m1 else bsI (bsN (putN M n) (woN A P S (FT A P S M n) v) (A 3))) = m1
  · rw [hx] at r1
    exact qo_mk (r := m1) (w := nI 6) ro ⟨h1, by simp (disch := first | assumption | omega | decide | ((repeat first | apply lyI | apply lyJ | apply lywI | apply lywJ | apply csI | apply csJ | apply cswI | apply cswJ); assumption)) only [f_X11_best, f_X11_below, f_X11_refuse, S0, SC, SH52, LI, ↓li_m1, nI_add, pk_mul, nn_sub, nn_m1, nn_div, nn_rem, nn_nz, nn_mod, nJ_l, lN_add, lN_mul, nn_tb1, nI_bt, nn_and, nn_or, nn_xor, nn_shr, nn_1shl, nn_31, il_p, il_n, it_p, it_n, ie_p, ie_n, ie_b, ie_b1, ie_m, ie_mm, it_m, it_m0, il_m0, bI_rZ, Option.bind_some, bd2_some, Nat.add_zero, Nat.zero_add, if_true, if_false, Bool.false_eq_true, eq_self, hI_R, hJ_R, ng_t, ng_e, hn, e4, r1], f1.mono (by decide) (by decide) (by decide) (by decide)⟩ (fun k kl kc km ks => by
    obtain ⟨c0, c1, c2, c3, c4, cA⟩ := cm_e kc
    obtain ⟨g, g1, e, lg, r3, f2⟩ := rr k kl kc km ks
    rw [hx] at r3
    have lg1 := f2.lay kl
    exact ⟨g1, by simp (disch := first | assumption | omega | decide | ((repeat first | apply lyI | apply lyJ | apply lywI | apply lywJ | apply csI | apply csJ | apply cswI | apply cswJ); assumption)) only [f_X12_best, f_X12_isWitness, f_X12_refuse, SM, LI, ↓li_m1, nI_add, pk_mul, nn_sub, nn_m1, nn_div, nn_rem, nn_nz, nn_mod, nJ_l, lN_add, lN_mul, nn_tb1, nI_bt, nn_and, nn_or, nn_xor, nn_shr, nn_1shl, nn_31, il_p, il_n, it_p, it_n, ie_p, ie_n, ie_b, ie_b1, ie_m, ie_mm, it_m, it_m0, il_m0, bI_rZ, Option.bind_some, bd2_some, Nat.add_zero, Nat.zero_add, if_true, if_false, Bool.false_eq_true, eq_self, hI_R, hJ_R, ng_t, ng_e, c4, e, r3], f2⟩)
  · exact qo_mk (w := nI 0) ro ⟨h1, by simp (disch := first | assumption | omega | decide | ((repeat first | apply lyI | apply lyJ | apply lywI | apply lywJ | apply csI | apply csJ | apply cswI | apply cswJ); assumption)) only [f_X11_best, f_X11_below, f_X11_give, S0, SC, SH52, LI, ↓li_m1, nI_add, pk_mul, nn_sub, nn_m1, nn_div, nn_rem, nn_nz, nn_mod, nJ_l, lN_add, lN_mul, nn_tb1, nI_bt, nn_and, nn_or, nn_xor, nn_shr, nn_1shl, nn_31, il_p, il_n, it_p, it_n, ie_p, ie_n, ie_b, ie_b1, ie_m, ie_mm, it_m, it_m0, il_m0, bI_rZ, Option.bind_some, bd2_some, Nat.add_zero, Nat.zero_add, if_true, if_false, Bool.false_eq_true, eq_self, hI_R, hJ_R, ng_t, ng_e, hn, e4, r1]; rw [if_neg hx], f1.mono (by decide) (by decide) (by decide) (by decide)⟩ (fun k kl kc km ks => by
    obtain ⟨c0, c1, c2, c3, c4, cA⟩ := cm_e kc
    obtain ⟨g, g1, e, lg, r3, f2⟩ := rr k kl kc km ks
    have lg1 := f2.lay kl
    exact ⟨g1, by simp (disch := first | assumption | omega | decide | ((repeat first | apply lyI | apply lyJ | apply lywI | apply lywJ | apply csI | apply csJ | apply cswI | apply cswJ); assumption)) only [f_X12_best, f_X12_isWitness, f_X12_gives, SM, LI, ↓li_m1, nI_add, pk_mul, nn_sub, nn_m1, nn_div, nn_rem, nn_nz, nn_mod, nJ_l, lN_add, lN_mul, nn_tb1, nI_bt, nn_and, nn_or, nn_xor, nn_shr, nn_1shl, nn_31, il_p, il_n, it_p, it_n, ie_p, ie_n, ie_b, ie_b1, ie_m, ie_mm, it_m, it_m0, il_m0, bI_rZ, Option.bind_some, bd2_some, Nat.add_zero, Nat.zero_add, if_true, if_false, Bool.false_eq_true, eq_self, hI_R, hJ_R, ng_t, ng_e, c4, e, r3]; rw [if_neg hx], f2⟩)
/-- how many are settled -/
def seN (A : Nat → Nat) (pu : Nat → Bool) (cr : Nat → Int32) : Nat → Nat := cntB (fun q => !pu q && decide (cr q ≠ m1))
theorem o_settled {h : aH} {c : Nat} {A : Nat → Nat} {P : Nat → Bool} {Q : Nat → Nat → Bool} {S : Nat → Nat → Nat → Nat → Nat} {n d : Nat} {M : Nat → Nat → Nat} (ko : KO h c A P Q S n d M) (ro : RO h A P Q S n d M) : QO h (fun g => f_X11_settled g 0) (fun g => f_X12_settled g 113) := by
  obtain ⟨hs, hc, hw, hl, hf, hm, mw, hr, hn⟩ := id ko
  obtain ⟨b0, b1, b2l, b2, b3, b4⟩ := wf_b hw
  obtain ⟨mn, md, mk, mi⟩ := id mw
  obtain ⟨⟨e0, e1, e2, e15, e3, e4, em⟩, -⟩ := id hc
  have hm4 : h.2.1 53 4 = nI n := hm.1
  have hm5 : h.2.1 53 5 = nI d := hm.2.1
  let cr : Nat → Int32 := fun q => crI A (lvB A P S M n) (Q q)
  have r1 : f_X11_settled_l4 h 0 (nI 0) (nI 0) = some (nI (seN A (putN M n) cr (A 3))) := by
    refine for0 (body := fun zz : Int32 × Int32 => f_X11_settled_b4 h 0 zz.1 zz.2) (fun j => (nI (seN A (putN M n) cr j), nI j)) (A 3) (e := nI (seN A (putN M n) cr (A 3))) (rfl) (by omega) (fun j hj => ?_) ?_
    · have t1 := k_wasPut52 hs hc hw hl hf hm mw hr hj
      have t2 : f_X3_certainty h 52 (nI j) = some (cr j) := k_cert52 hs hc hw hl hf hm mw hr hj
      unfold seN
      rcases (Bool.eq_false_or_eq_true (putN M n j)).symm with hp | hp
      · rw [hp] at t1
        by_cases hx : cr j = m1
        · rw [hx] at t2
          rw [cntB_f (by rw [hp, hx]; simp)]
          simp (disch := first | assumption | omega | decide | ((repeat first | apply lyI | apply lyJ | apply lywI | apply lywJ | apply csI | apply csJ | apply cswI | apply cswJ); assumption)) only [f_X11_settled_b4, f_X11_settled_j41, S0, SC, SH52, LI, ↓li_m1, nI_add, pk_mul, nn_sub, nn_m1, nn_div, nn_rem, nn_nz, nn_mod, nJ_l, lN_add, lN_mul, nn_tb1, nI_bt, nn_and, nn_or, nn_xor, nn_shr, nn_1shl, nn_31, il_p, il_n, it_p, it_n, ie_p, ie_n, ie_b, ie_b1, ie_m, ie_mm, it_m, it_m0, il_m0, bI_rZ, Option.bind_some, bd2_some, Nat.add_zero, Nat.zero_add, if_true, if_false, Bool.false_eq_true, eq_self, hI_R, hJ_R, ng_t, ng_e, hn, e3, t1, bI_f, t2]
        · rw [cntB_t (by rw [hp, decide_eq_true hx]; rfl)]
          simp (disch := first | assumption | omega | decide | ((repeat first | apply lyI | apply lyJ | apply lywI | apply lywJ | apply csI | apply csJ | apply cswI | apply cswJ); assumption)) only [f_X11_settled_b4, f_X11_settled_j41, S0, SC, SH52, LI, ↓li_m1, nI_add, pk_mul, nn_sub, nn_m1, nn_div, nn_rem, nn_nz, nn_mod, nJ_l, lN_add, lN_mul, nn_tb1, nI_bt, nn_and, nn_or, nn_xor, nn_shr, nn_1shl, nn_31, il_p, il_n, it_p, it_n, ie_p, ie_n, ie_b, ie_b1, ie_m, ie_mm, it_m, it_m0, il_m0, bI_rZ, Option.bind_some, bd2_some, Nat.add_zero, Nat.zero_add, if_true, if_false, Bool.false_eq_true, eq_self, hI_R, hJ_R, ng_t, ng_e, hn, e3, t1, bI_f, t2, if_neg hx]
      · rw [hp] at t1
        rw [cntB_f (by rw [hp]; rfl)]
        simp (disch := first | assumption | omega | decide | ((repeat first | apply lyI | apply lyJ | apply lywI | apply lywJ | apply csI | apply csJ | apply cswI | apply cswJ); assumption)) only [f_X11_settled_b4, f_X11_settled_j41, S0, SC, SH52, LI, ↓li_m1, nI_add, pk_mul, nn_sub, nn_m1, nn_div, nn_rem, nn_nz, nn_mod, nJ_l, lN_add, lN_mul, nn_tb1, nI_bt, nn_and, nn_or, nn_xor, nn_shr, nn_1shl, nn_31, il_p, il_n, it_p, it_n, ie_p, ie_n, ie_b, ie_b1, ie_m, ie_mm, it_m, it_m0, il_m0, bI_rZ, Option.bind_some, bd2_some, Nat.add_zero, Nat.zero_add, if_true, if_false, Bool.false_eq_true, eq_self, hI_R, hJ_R, ng_t, ng_e, hn, e3, t1, bI_t]
    · simp (disch := first | assumption | omega | decide | ((repeat first | apply lyI | apply lyJ | apply lywI | apply lywJ | apply csI | apply csJ | apply cswI | apply cswJ); assumption)) only [f_X11_settled_b4, S0, SC, LI, ↓li_m1, nI_add, pk_mul, nn_sub, nn_m1, nn_div, nn_rem, nn_nz, nn_mod, nJ_l, lN_add, lN_mul, nn_tb1, nI_bt, nn_and, nn_or, nn_xor, nn_shr, nn_1shl, nn_31, il_p, il_n, it_p, it_n, ie_p, ie_n, ie_b, ie_b1, ie_m, ie_mm, it_m, it_m0, il_m0, bI_rZ, Option.bind_some, bd2_some, Nat.add_zero, Nat.zero_add, if_true, if_false, Bool.false_eq_true, eq_self, hI_R, hJ_R, ng_t, ng_e, hn, e3]
  exact qo_mk (r := nI (seN A (putN M n) cr (A 3))) (w := nI 0) ro ⟨h, by simp (disch := first | assumption | omega | decide | ((repeat first | apply lyI | apply lyJ | apply lywI | apply lywJ | apply csI | apply csJ | apply cswI | apply cswJ); assumption)) only [f_X11_settled, f_X11_give, S0, LI, ↓li_m1, nI_add, pk_mul, nn_sub, nn_m1, nn_div, nn_rem, nn_nz, nn_mod, nJ_l, lN_add, lN_mul, nn_tb1, nI_bt, nn_and, nn_or, nn_xor, nn_shr, nn_1shl, nn_31, il_p, il_n, it_p, it_n, ie_p, ie_n, ie_b, ie_b1, ie_m, ie_mm, it_m, it_m0, il_m0, bI_rZ, Option.bind_some, bd2_some, Nat.add_zero, Nat.zero_add, if_true, if_false, Bool.false_eq_true, eq_self, hI_R, hJ_R, ng_t, ng_e, r1], FR.rf⟩ (fun k kl kc km ks => by
    obtain ⟨g, e, fg, lg, cg, mg, sg, fb, pu, rl, rs⟩ := r_all kl kc hw km mw ks
    obtain ⟨c0, c1, c2, c3, c4, cA⟩ := cm_e cg
    have r2 : f_X12_settled_l8 g 113 (nI 0) (nI 0) = some (nI (seN A (putN M n) cr (A 3))) := by
      refine for0 (body := fun zz : Int32 × Int32 => f_X12_settled_b8 g 113 zz.1 zz.2) (fun j => (nI (seN A (putN M n) cr j), nI j)) (A 3) (e := nI (seN A (putN M n) cr (A 3))) (rfl) (by omega) (fun j hj => ?_) ?_
      · have t1 := pu j (by omega)
        have t2 : f_X12_sureAt g 113 (nI 0) (nI j) = some (cr j) := rs j hj
        unfold seN
        rcases (Bool.eq_false_or_eq_true (putN M n j)).symm with hp | hp
        · rw [hp] at t1
          by_cases hx : cr j = m1
          · rw [hx] at t2
            rw [cntB_f (by rw [hp, hx]; simp)]
            simp (disch := first | assumption | omega | decide | ((repeat first | apply lyI | apply lyJ | apply lywI | apply lywJ | apply csI | apply csJ | apply cswI | apply cswJ); assumption)) only [f_X12_settled_b8, f_X12_settled_j42, f_X12_settled_j43, SM, LI, ↓li_m1, nI_add, pk_mul, nn_sub, nn_m1, nn_div, nn_rem, nn_nz, nn_mod, nJ_l, lN_add, lN_mul, nn_tb1, nI_bt, nn_and, nn_or, nn_xor, nn_shr, nn_1shl, nn_31, il_p, il_n, it_p, it_n, ie_p, ie_n, ie_b, ie_b1, ie_m, ie_mm, it_m, it_m0, il_m0, bI_rZ, Option.bind_some, bd2_some, Nat.add_zero, Nat.zero_add, if_true, if_false, Bool.false_eq_true, eq_self, hI_R, hJ_R, ng_t, ng_e, c3, t1, bI_f, t2]
          · rw [cntB_t (by rw [hp, decide_eq_true hx]; rfl)]
            simp (disch := first | assumption | omega | decide | ((repeat first | apply lyI | apply lyJ | apply lywI | apply lywJ | apply csI | apply csJ | apply cswI | apply cswJ); assumption)) only [f_X12_settled_b8, f_X12_settled_j42, f_X12_settled_j43, SM, LI, ↓li_m1, nI_add, pk_mul, nn_sub, nn_m1, nn_div, nn_rem, nn_nz, nn_mod, nJ_l, lN_add, lN_mul, nn_tb1, nI_bt, nn_and, nn_or, nn_xor, nn_shr, nn_1shl, nn_31, il_p, il_n, it_p, it_n, ie_p, ie_n, ie_b, ie_b1, ie_m, ie_mm, it_m, it_m0, il_m0, bI_rZ, Option.bind_some, bd2_some, Nat.add_zero, Nat.zero_add, if_true, if_false, Bool.false_eq_true, eq_self, hI_R, hJ_R, ng_t, ng_e, c3, t1, bI_f, t2, if_neg hx]
        · rw [hp] at t1
          rw [cntB_f (by rw [hp]; rfl)]
          simp (disch := first | assumption | omega | decide | ((repeat first | apply lyI | apply lyJ | apply lywI | apply lywJ | apply csI | apply csJ | apply cswI | apply cswJ); assumption)) only [f_X12_settled_b8, f_X12_settled_j42, f_X12_settled_j43, SM, LI, ↓li_m1, nI_add, pk_mul, nn_sub, nn_m1, nn_div, nn_rem, nn_nz, nn_mod, nJ_l, lN_add, lN_mul, nn_tb1, nI_bt, nn_and, nn_or, nn_xor, nn_shr, nn_1shl, nn_31, il_p, il_n, it_p, it_n, ie_p, ie_n, ie_b, ie_b1, ie_m, ie_mm, it_m, it_m0, il_m0, bI_rZ, Option.bind_some, bd2_some, Nat.add_zero, Nat.zero_add, if_true, if_false, Bool.false_eq_true, eq_self, hI_R, hJ_R, ng_t, ng_e, c3, t1, bI_t]
      · simp (disch := first | assumption | omega | decide | ((repeat first | apply lyI | apply lyJ | apply lywI | apply lywJ | apply csI | apply csJ | apply cswI | apply cswJ); assumption)) only [f_X12_settled_b8, SM, LI, ↓li_m1, nI_add, pk_mul, nn_sub, nn_m1, nn_div, nn_rem, nn_nz, nn_mod, nJ_l, lN_add, lN_mul, nn_tb1, nI_bt, nn_and, nn_or, nn_xor, nn_shr, nn_1shl, nn_31, il_p, il_n, it_p, it_n, ie_p, ie_n, ie_b, ie_b1, ie_m, ie_mm, it_m, it_m0, il_m0, bI_rZ, Option.bind_some, bd2_some, Nat.add_zero, Nat.zero_add, if_true, if_false, Bool.false_eq_true, eq_self, hI_R, hJ_R, ng_t, ng_e, c3]
    exact ⟨g, by simp (disch := first | assumption | omega | decide | ((repeat first | apply lyI | apply lyJ | apply lywI | apply lywJ | apply csI | apply csJ | apply cswI | apply cswJ); assumption)) only [f_X12_settled, f_X12_gives, SM, LI, ↓li_m1, nI_add, pk_mul, nn_sub, nn_m1, nn_div, nn_rem, nn_nz, nn_mod, nJ_l, lN_add, lN_mul, nn_tb1, nI_bt, nn_and, nn_or, nn_xor, nn_shr, nn_1shl, nn_31, il_p, il_n, it_p, it_n, ie_p, ie_n, ie_b, ie_b1, ie_m, ie_mm, it_m, it_m0, il_m0, bI_rZ, Option.bind_some, bd2_some, Nat.add_zero, Nat.zero_add, if_true, if_false, Bool.false_eq_true, eq_self, hI_R, hJ_R, ng_t, ng_e, e, r2], fg.mono (by decide) (by decide) (by decide) (by decide)⟩)
theorem o_bench {h : aH} {c : Nat} {A : Nat → Nat} {P : Nat → Bool} {Q : Nat → Nat → Bool} {S : Nat → Nat → Nat → Nat → Nat} {n d : Nat} {M : Nat → Nat → Nat} (ko : KO h c A P Q S n d M) (ro : RO h A P Q S n d M) : QO h (fun g => f_X11_bench g 0) (fun g => f_X12_bench g 113) := by
  obtain ⟨hs, hc, hw, hl, hf, hm, mw, hr, hn⟩ := id ko
  obtain ⟨b0, b1, b2l, b2, b3, b4⟩ := wf_b hw
  obtain ⟨mn, md, mk, mi⟩ := id mw
  obtain ⟨⟨e0, e1, e2, e15, e3, e4, em⟩, -⟩ := id hc
  have hm4 : h.2.1 53 4 = nI n := hm.1
  have hm5 : h.2.1 53 5 = nI d := hm.2.1
  have r := k_hon52 hs hc hw hl hf hm mw hr
  exact qo_mk (r := nI (cntB (bnB P S M n) (A 2))) (w := nI 0) ro ⟨h, by simp (disch := first | assumption | omega | decide | ((repeat first | apply lyI | apply lyJ | apply lywI | apply lywJ | apply csI | apply csJ | apply cswI | apply cswJ); assumption)) only [f_X11_bench, f_X11_give, S0, SH52, LI, ↓li_m1, nI_add, pk_mul, nn_sub, nn_m1, nn_div, nn_rem, nn_nz, nn_mod, nJ_l, lN_add, lN_mul, nn_tb1, nI_bt, nn_and, nn_or, nn_xor, nn_shr, nn_1shl, nn_31, il_p, il_n, it_p, it_n, ie_p, ie_n, ie_b, ie_b1, ie_m, ie_mm, it_m, it_m0, il_m0, bI_rZ, Option.bind_some, bd2_some, Nat.add_zero, Nat.zero_add, if_true, if_false, Bool.false_eq_true, eq_self, hI_R, hJ_R, ng_t, ng_e, r], FR.rf⟩ (fun k kl kc km ks => by
    obtain ⟨m5, m6, mM⟩ := id km
    have r := r_benchBy kl kc hw km mw ks (Nat.le_refl n)
    exact ⟨k, by simp (disch := first | assumption | omega | decide | ((repeat first | apply lyI | apply lyJ | apply lywI | apply lywJ | apply csI | apply csJ | apply cswI | apply cswJ); assumption)) only [f_X12_bench, f_X12_gives, SM, LI, ↓li_m1, nI_add, pk_mul, nn_sub, nn_m1, nn_div, nn_rem, nn_nz, nn_mod, nJ_l, lN_add, lN_mul, nn_tb1, nI_bt, nn_and, nn_or, nn_xor, nn_shr, nn_1shl, nn_31, il_p, il_n, it_p, it_n, ie_p, ie_n, ie_b, ie_b1, ie_m, ie_mm, it_m, it_m0, il_m0, bI_rZ, Option.bind_some, bd2_some, Nat.add_zero, Nat.zero_add, if_true, if_false, Bool.false_eq_true, eq_self, hI_R, hJ_R, ng_t, ng_e, m6, r], FR.rf⟩)
theorem o_clash {h : aH} {c : Nat} {A : Nat → Nat} {P : Nat → Bool} {Q : Nat → Nat → Bool} {S : Nat → Nat → Nat → Nat → Nat} {n d : Nat} {M : Nat → Nat → Nat} (ko : KO h c A P Q S n d M) (ro : RO h A P Q S n d M) : QO h (fun g => f_X11_clash g 0) (fun g => f_X12_clash g 113) := by
  obtain ⟨hs, hc, hw, hl, hf, hm, mw, hr, hn⟩ := id ko
  obtain ⟨b0, b1, b2l, b2, b3, b4⟩ := wf_b hw
  obtain ⟨mn, md, mk, mi⟩ := id mw
  obtain ⟨⟨e0, e1, e2, e15, e3, e4, em⟩, -⟩ := id hc
  have hm4 : h.2.1 53 4 = nI n := hm.1
  have hm5 : h.2.1 53 5 = nI d := hm.2.1
  have r := k_clash52 hs hc hw hl hf hm mw hr
  have rr : ∀ k, LAY k → CM k A P Q → MM k n d M → SY k A P S → f_X12_clash_l2 k 113 (nI 0) = some (match clO A P S M n with | some x => .inl (nI x) | none => .inr ()) := fun k kl kc km ks => by
    obtain ⟨m5, m6, mM⟩ := id km
    refine srch (fun j => nI j) (fun k => cntB (bnB P S M (k + 1)) (A 2) == 0) n (fun x => (Sum.inl (nI x) : Int32 ⊕ Unit)) (Sum.inr ()) rfl (by omega) (fun j hj hx => ?_) (fun j hj hx => ?_) ?_
    · have t := r_benchBy kl kc hw km mw ks (show j + 1 ≤ n by omega)
      have : cntB (bnB P S M (j + 1)) (A 2) ≠ 0 := by simpa using hx
      have := cntB_le (bnB P S M (j + 1)) (A 2)
      simp (disch := first | assumption | omega | decide | ((repeat first | apply lyI | apply lyJ | apply lywI | apply lywJ | apply csI | apply csJ | apply cswI | apply cswJ); assumption)) only [f_X12_clash_b2, SM, LI, ↓li_m1, nI_add, pk_mul, nn_sub, nn_m1, nn_div, nn_rem, nn_nz, nn_mod, nJ_l, lN_add, lN_mul, nn_tb1, nI_bt, nn_and, nn_or, nn_xor, nn_shr, nn_1shl, nn_31, il_p, il_n, it_p, it_n, ie_p, ie_n, ie_b, ie_b1, ie_m, ie_mm, it_m, it_m0, il_m0, bI_rZ, Option.bind_some, bd2_some, Nat.add_zero, Nat.zero_add, if_true, if_false, Bool.false_eq_true, eq_self, hI_R, hJ_R, ng_t, ng_e, m6, t]
    · have t := r_benchBy kl kc hw km mw ks (show j + 1 ≤ n by omega)
      have hz : cntB (bnB P S M (j + 1)) (A 2) = 0 := by simpa using hx
      simp (disch := first | assumption | omega | decide | ((repeat first | apply lyI | apply lyJ | apply lywI | apply lywJ | apply csI | apply csJ | apply cswI | apply cswJ); assumption)) only [f_X12_clash_b2, SM, LI, ↓li_m1, nI_add, pk_mul, nn_sub, nn_m1, nn_div, nn_rem, nn_nz, nn_mod, nJ_l, lN_add, lN_mul, nn_tb1, nI_bt, nn_and, nn_or, nn_xor, nn_shr, nn_1shl, nn_31, il_p, il_n, it_p, it_n, ie_p, ie_n, ie_b, ie_b1, ie_m, ie_mm, it_m, it_m0, il_m0, bI_rZ, Option.bind_some, bd2_some, Nat.add_zero, Nat.zero_add, if_true, if_false, Bool.false_eq_true, eq_self, hI_R, hJ_R, ng_t, ng_e, m6, t, hz]
    · simp (disch := first | assumption | omega | decide | ((repeat first | apply lyI | apply lyJ | apply lywI | apply lywJ | apply csI | apply csJ | apply cswI | apply cswJ); assumption)) only [f_X12_clash_b2, SM, LI, ↓li_m1, nI_add, pk_mul, nn_sub, nn_m1, nn_div, nn_rem, nn_nz, nn_mod, nJ_l, lN_add, lN_mul, nn_tb1, nI_bt, nn_and, nn_or, nn_xor, nn_shr, nn_1shl, nn_31, il_p, il_n, it_p, it_n, ie_p, ie_n, ie_b, ie_b1, ie_m, ie_mm, it_m, it_m0, il_m0, bI_rZ, Option.bind_some, bd2_some, Nat.add_zero, Nat.zero_add, if_true, if_false, Bool.false_eq_true, eq_self, hI_R, hJ_R, ng_t, ng_e, m6]
  cases hx : clO A P S M n with
  | none =>
    rw [hx] at r
    exact qo_mk (r := m1) (w := nI 6) ro ⟨h, by simp (disch := first | assumption | omega | decide | ((repeat first | apply lyI | apply lyJ | apply lywI | apply lywJ | apply csI | apply csJ | apply cswI | apply cswJ); assumption)) only [f_X11_clash, f_X11_refuse, S0, SH52, LI, ↓li_m1, nI_add, pk_mul, nn_sub, nn_m1, nn_div, nn_rem, nn_nz, nn_mod, nJ_l, lN_add, lN_mul, nn_tb1, nI_bt, nn_and, nn_or, nn_xor, nn_shr, nn_1shl, nn_31, il_p, il_n, it_p, it_n, ie_p, ie_n, ie_b, ie_b1, ie_m, ie_mm, it_m, it_m0, il_m0, bI_rZ, Option.bind_some, bd2_some, Nat.add_zero, Nat.zero_add, if_true, if_false, Bool.false_eq_true, eq_self, hI_R, hJ_R, ng_t, ng_e, r, dbI], FR.rf⟩ (fun k kl kc km ks => by
      have t := rr k kl kc km ks
      rw [hx] at t
      exact ⟨k, by simp (disch := first | assumption | omega | decide | ((repeat first | apply lyI | apply lyJ | apply lywI | apply lywJ | apply csI | apply csJ | apply cswI | apply cswJ); assumption)) only [f_X12_clash, f_X12_refuse, SM, LI, ↓li_m1, nI_add, pk_mul, nn_sub, nn_m1, nn_div, nn_rem, nn_nz, nn_mod, nJ_l, lN_add, lN_mul, nn_tb1, nI_bt, nn_and, nn_or, nn_xor, nn_shr, nn_1shl, nn_31, il_p, il_n, it_p, it_n, ie_p, ie_n, ie_b, ie_b1, ie_m, ie_mm, it_m, it_m0, il_m0, bI_rZ, Option.bind_some, bd2_some, Nat.add_zero, Nat.zero_add, if_true, if_false, Bool.false_eq_true, eq_self, hI_R, hJ_R, ng_t, ng_e, t], FR.rf⟩)
  | some x =>
    rw [hx] at r
    have xl := (firstB_s.mp hx).1
    exact qo_mk (r := nI x) (w := nI 0) ro ⟨h, by simp (disch := first | assumption | omega | decide | ((repeat first | apply lyI | apply lyJ | apply lywI | apply lywJ | apply csI | apply csJ | apply cswI | apply cswJ); assumption)) only [f_X11_clash, f_X11_give, S0, SH52, LI, ↓li_m1, nI_add, pk_mul, nn_sub, nn_m1, nn_div, nn_rem, nn_nz, nn_mod, nJ_l, lN_add, lN_mul, nn_tb1, nI_bt, nn_and, nn_or, nn_xor, nn_shr, nn_1shl, nn_31, il_p, il_n, it_p, it_n, ie_p, ie_n, ie_b, ie_b1, ie_m, ie_mm, it_m, it_m0, il_m0, bI_rZ, Option.bind_some, bd2_some, Nat.add_zero, Nat.zero_add, if_true, if_false, Bool.false_eq_true, eq_self, hI_R, hJ_R, ng_t, ng_e, r, dbI], FR.rf⟩ (fun k kl kc km ks => by
      have t := rr k kl kc km ks
      rw [hx] at t
      exact ⟨k, by simp (disch := first | assumption | omega | decide | ((repeat first | apply lyI | apply lyJ | apply lywI | apply lywJ | apply csI | apply csJ | apply cswI | apply cswJ); assumption)) only [f_X12_clash, f_X12_gives, SM, LI, ↓li_m1, nI_add, pk_mul, nn_sub, nn_m1, nn_div, nn_rem, nn_nz, nn_mod, nJ_l, lN_add, lN_mul, nn_tb1, nI_bt, nn_and, nn_or, nn_xor, nn_shr, nn_1shl, nn_31, il_p, il_n, it_p, it_n, ie_p, ie_n, ie_b, ie_b1, ie_m, ie_mm, it_m, it_m0, il_m0, bI_rZ, Option.bind_some, bd2_some, Nat.add_zero, Nat.zero_add, if_true, if_false, Bool.false_eq_true, eq_self, hI_R, hJ_R, ng_t, ng_e, t], FR.rf⟩)
theorem o_liars {h : aH} {c : Nat} {A : Nat → Nat} {P : Nat → Bool} {Q : Nat → Nat → Bool} {S : Nat → Nat → Nat → Nat → Nat} {n d : Nat} {M : Nat → Nat → Nat} (ko : KO h c A P Q S n d M) (ro : RO h A P Q S n d M) : QO h (fun g => f_X11_liars g 0) (fun g => f_X12_liars g 113) := by
  obtain ⟨hs, hc, hw, hl, hf, hm, mw, hr, hn⟩ := id ko
  obtain ⟨b0, b1, b2l, b2, b3, b4⟩ := wf_b hw
  obtain ⟨mn, md, mk, mi⟩ := id mw
  obtain ⟨⟨e0, e1, e2, e15, e3, e4, em⟩, -⟩ := id hc
  have hm4 : h.2.1 53 4 = nI n := hm.1
  have hm5 : h.2.1 53 5 = nI d := hm.2.1
  have hv : h.2.1 52 5 = nI (cntB (lvB A P S M n) (A 2)) := hr.1
  have cle := cntB_le (lvB A P S M n) (A 2)
  by_cases hz : cntB (lvB A P S M n) (A 2) = 0
  · exact qo_mk (r := m1) (w := nI 6) ro ⟨h, by simp (disch := first | assumption | omega | decide | ((repeat first | apply lyI | apply lyJ | apply lywI | apply lywJ | apply csI | apply csJ | apply cswI | apply cswJ); assumption)) only [f_X11_liars, f_X11_refuse, S0, SH52, LI, ↓li_m1, nI_add, pk_mul, nn_sub, nn_m1, nn_div, nn_rem, nn_nz, nn_mod, nJ_l, lN_add, lN_mul, nn_tb1, nI_bt, nn_and, nn_or, nn_xor, nn_shr, nn_1shl, nn_31, il_p, il_n, it_p, it_n, ie_p, ie_n, ie_b, ie_b1, ie_m, ie_mm, it_m, it_m0, il_m0, bI_rZ, Option.bind_some, bd2_some, Nat.add_zero, Nat.zero_add, if_true, if_false, Bool.false_eq_true, eq_self, hI_R, hJ_R, ng_t, ng_e, hv, hz], FR.rf⟩ (fun k kl kc km ks => by
    obtain ⟨g, e, fg, lg, cg, mg, sg, fb, pu, rl, rs⟩ := r_all kl kc hw km mw ks
    exact ⟨g, by simp (disch := first | assumption | omega | decide | ((repeat first | apply lyI | apply lyJ | apply lywI | apply lywJ | apply csI | apply csJ | apply cswI | apply cswJ); assumption)) only [f_X12_liars, f_X12_refuse, SM, LI, ↓li_m1, nI_add, pk_mul, nn_sub, nn_m1, nn_div, nn_rem, nn_nz, nn_mod, nJ_l, lN_add, lN_mul, nn_tb1, nI_bt, nn_and, nn_or, nn_xor, nn_shr, nn_1shl, nn_31, il_p, il_n, it_p, it_n, ie_p, ie_n, ie_b, ie_b1, ie_m, ie_mm, it_m, it_m0, il_m0, bI_rZ, Option.bind_some, bd2_some, Nat.add_zero, Nat.zero_add, if_true, if_false, Bool.false_eq_true, eq_self, hI_R, hJ_R, ng_t, ng_e, e, rl, hz], fg.mono (by decide) (by decide) (by decide) (by decide)⟩)
  · have r := k_liars52 hs hc hw hl hf hm mw hr
    exact qo_mk (r := nI (liN A P S M n (A 4))) (w := nI 0) ro ⟨h, by simp (disch := first | assumption | omega | decide | ((repeat first | apply lyI | apply lyJ | apply lywI | apply lywJ | apply csI | apply csJ | apply cswI | apply cswJ); assumption)) only [f_X11_liars, f_X11_give, S0, SH52, LI, ↓li_m1, nI_add, pk_mul, nn_sub, nn_m1, nn_div, nn_rem, nn_nz, nn_mod, nJ_l, lN_add, lN_mul, nn_tb1, nI_bt, nn_and, nn_or, nn_xor, nn_shr, nn_1shl, nn_31, il_p, il_n, it_p, it_n, ie_p, ie_n, ie_b, ie_b1, ie_m, ie_mm, it_m, it_m0, il_m0, bI_rZ, Option.bind_some, bd2_some, Nat.add_zero, Nat.zero_add, if_true, if_false, Bool.false_eq_true, eq_self, hI_R, hJ_R, ng_t, ng_e, hv, r], FR.rf⟩ (fun k kl kc km ks => by
    obtain ⟨g, e, fg, lg, cg, mg, sg, fb, pu, rl, rs⟩ := r_all kl kc hw km mw ks
    obtain ⟨c0, c1, c2, c3, c4, cA⟩ := cm_e cg
    have e1 : ∀ v x, v < A 4 → f_X12_liars_l38 g 113 x (nI v) (nI 0) (nI 0) = some (bI (anyB (fun w => lvB A P S M n w && !anyB (ahB S M v w) n) (A 2))) := fun v x hv4 => by
      refine for0 (body := fun zz : Int32 × Int32 => f_X12_liars_b38 g 113 x (nI v) zz.1 zz.2) (fun j => (bI (anyB (fun w => lvB A P S M n w && !anyB (ahB S M v w) n) j), nI j)) (A 2) (e := bI (anyB (fun w => lvB A P S M n w && !anyB (ahB S M v w) n) (A 2))) (rfl) (by omega) (fun j hj => ?_) ?_
      · have t1 := r_isLeftAt lg cg hw fb FT_lt (L := 0) (by decide) hj
        rw [lf_lv] at t1
        have nx : anyB (fun w => lvB A P S M n w && !anyB (ahB S M v w) n) (j + 1) = (anyB (fun w => lvB A P S M n w && !anyB (ahB S M v w) n) j || (lvB A P S M n j && !anyB (ahB S M v j) n)) := rfl
        rcases (Bool.eq_false_or_eq_true (anyB (fun w => lvB A P S M n w && !anyB (ahB S M v w) n) j)).symm with ha | ha
        · rcases (Bool.eq_false_or_eq_true (lvB A P S M n j)).symm with hb | hb
          · rw [hb] at t1
            rw [nx, ha, hb]
            simp (disch := first | assumption | omega | decide | ((repeat first | apply lyI | apply lyJ | apply lywI | apply lywJ | apply csI | apply csJ | apply cswI | apply cswJ); assumption)) only [f_X12_liars_b38, f_X12_liars_j73, f_X12_liars_j77, f_X12_liars_j78, SM, LI, ↓li_m1, nI_add, pk_mul, nn_sub, nn_m1, nn_div, nn_rem, nn_nz, nn_mod, nJ_l, lN_add, lN_mul, nn_tb1, nI_bt, nn_and, nn_or, nn_xor, nn_shr, nn_1shl, nn_31, il_p, il_n, it_p, it_n, ie_p, ie_n, ie_b, ie_b1, ie_m, ie_mm, it_m, it_m0, il_m0, bI_rZ, Option.bind_some, bd2_some, Nat.add_zero, Nat.zero_add, if_true, if_false, Bool.false_eq_true, eq_self, hI_R, hJ_R, ng_t, ng_e, c2, bI_f, t1]
            rfl
          · have t2 := r_aHon lg cg hw mg mw sg hv4 hj (lv_P hb)
            rw [hb] at t1
            rcases (Bool.eq_false_or_eq_true (anyB (ahB S M v j) n)).symm with hd | hd
            · rw [hd] at t2
              rw [nx, ha, hb, hd]
              simp (disch := first | assumption | omega | decide | ((repeat first | apply lyI | apply lyJ | apply lywI | apply lywJ | apply csI | apply csJ | apply cswI | apply cswJ); assumption)) only [f_X12_liars_b38, f_X12_liars_j73, f_X12_liars_j77, f_X12_liars_j78, SM, LI, ↓li_m1, nI_add, pk_mul, nn_sub, nn_m1, nn_div, nn_rem, nn_nz, nn_mod, nJ_l, lN_add, lN_mul, nn_tb1, nI_bt, nn_and, nn_or, nn_xor, nn_shr, nn_1shl, nn_31, il_p, il_n, it_p, it_n, ie_p, ie_n, ie_b, ie_b1, ie_m, ie_mm, it_m, it_m0, il_m0, bI_rZ, Option.bind_some, bd2_some, Nat.add_zero, Nat.zero_add, if_true, if_false, Bool.false_eq_true, eq_self, hI_R, hJ_R, ng_t, ng_e, c2, bI_f, bI_t, t1, t2, Bool.not_false]
              rfl
            · rw [hd] at t2
              rw [nx, ha, hb, hd]
              simp (disch := first | assumption | omega | decide | ((repeat first | apply lyI | apply lyJ | apply lywI | apply lywJ | apply csI | apply csJ | apply cswI | apply cswJ); assumption)) only [f_X12_liars_b38, f_X12_liars_j73, f_X12_liars_j77, f_X12_liars_j78, SM, LI, ↓li_m1, nI_add, pk_mul, nn_sub, nn_m1, nn_div, nn_rem, nn_nz, nn_mod, nJ_l, lN_add, lN_mul, nn_tb1, nI_bt, nn_and, nn_or, nn_xor, nn_shr, nn_1shl, nn_31, il_p, il_n, it_p, it_n, ie_p, ie_n, ie_b, ie_b1, ie_m, ie_mm, it_m, it_m0, il_m0, bI_rZ, Option.bind_some, bd2_some, Nat.add_zero, Nat.zero_add, if_true, if_false, Bool.false_eq_true, eq_self, hI_R, hJ_R, ng_t, ng_e, c2, bI_f, bI_t, t1, t2, Bool.not_true]
              rfl
        · rw [nx, ha]
          simp (disch := first | assumption | omega | decide | ((repeat first | apply lyI | apply lyJ | apply lywI | apply lywJ | apply csI | apply csJ | apply cswI | apply cswJ); assumption)) only [f_X12_liars_b38, f_X12_liars_j73, f_X12_liars_j77, f_X12_liars_j78, SM, LI, ↓li_m1, nI_add, pk_mul, nn_sub, nn_m1, nn_div, nn_rem, nn_nz, nn_mod, nJ_l, lN_add, lN_mul, nn_tb1, nI_bt, nn_and, nn_or, nn_xor, nn_shr, nn_1shl, nn_31, il_p, il_n, it_p, it_n, ie_p, ie_n, ie_b, ie_b1, ie_m, ie_mm, it_m, it_m0, il_m0, bI_rZ, Option.bind_some, bd2_some, Nat.add_zero, Nat.zero_add, if_true, if_false, Bool.false_eq_true, eq_self, hI_R, hJ_R, ng_t, ng_e, c2, bI_t]
          rfl
      · simp (disch := first | assumption | omega | decide | ((repeat first | apply lyI | apply lyJ | apply lywI | apply lywJ | apply csI | apply csJ | apply cswI | apply cswJ); assumption)) only [f_X12_liars_b38, SM, LI, ↓li_m1, nI_add, pk_mul, nn_sub, nn_m1, nn_div, nn_rem, nn_nz, nn_mod, nJ_l, lN_add, lN_mul, nn_tb1, nI_bt, nn_and, nn_or, nn_xor, nn_shr, nn_1shl, nn_31, il_p, il_n, it_p, it_n, ie_p, ie_n, ie_b, ie_b1, ie_m, ie_mm, it_m, it_m0, il_m0, bI_rZ, Option.bind_some, bd2_some, Nat.add_zero, Nat.zero_add, if_true, if_false, Bool.false_eq_true, eq_self, hI_R, hJ_R, ng_t, ng_e, c2]
    have e2 : f_X12_liars_l23 g 113 (nI 0) (nI 0) = some (nI (liN A P S M n (A 4))) := by
      refine for0 (body := fun zz : Int32 × Int32 => f_X12_liars_b23 g 113 zz.1 zz.2) (fun j => (nI (liN A P S M n j), nI j)) (A 4) (e := nI (liN A P S M n (A 4))) (rfl) (by omega) (fun j hj => ?_) ?_
      · have t := e1 j (nI (liN A P S M n j)) hj
        rcases (Bool.eq_false_or_eq_true (anyB (fun w => lvB A P S M n w && !anyB (ahB S M j w) n) (A 2))).symm with hx | hx
        · rw [hx] at t
          simp (disch := first | assumption | omega | decide | ((repeat first | apply lyI | apply lyJ | apply lywI | apply lywJ | apply csI | apply csJ | apply cswI | apply cswJ); assumption)) only [f_X12_liars_b23, f_X12_liars_j97, SM, LI, ↓li_m1, nI_add, pk_mul, nn_sub, nn_m1, nn_div, nn_rem, nn_nz, nn_mod, nJ_l, lN_add, lN_mul, nn_tb1, nI_bt, nn_and, nn_or, nn_xor, nn_shr, nn_1shl, nn_31, il_p, il_n, it_p, it_n, ie_p, ie_n, ie_b, ie_b1, ie_m, ie_mm, it_m, it_m0, il_m0, bI_rZ, Option.bind_some, bd2_some, Nat.add_zero, Nat.zero_add, if_true, if_false, Bool.false_eq_true, eq_self, hI_R, hJ_R, ng_t, ng_e, c4, t, bI_f]
          simp only [liN, orN, hx, Bool.false_eq_true, if_false]
        · rw [hx] at t
          simp (disch := first | assumption | omega | decide | ((repeat first | apply lyI | apply lyJ | apply lywI | apply lywJ | apply csI | apply csJ | apply cswI | apply cswJ); assumption)) only [f_X12_liars_b23, f_X12_liars_j97, SM, LI, ↓li_m1, nI_add, pk_mul, nn_sub, nn_m1, nn_div, nn_rem, nn_nz, nn_mod, nJ_l, lN_add, lN_mul, nn_tb1, nI_bt, nn_and, nn_or, nn_xor, nn_shr, nn_1shl, nn_31, il_p, il_n, it_p, it_n, ie_p, ie_n, ie_b, ie_b1, ie_m, ie_mm, it_m, it_m0, il_m0, bI_rZ, Option.bind_some, bd2_some, Nat.add_zero, Nat.zero_add, if_true, if_false, Bool.false_eq_true, eq_self, hI_R, hJ_R, ng_t, ng_e, c4, t, bI_t]
          simp only [liN, orN, hx, if_true, Nat.or_zero]
      · simp (disch := first | assumption | omega | decide | ((repeat first | apply lyI | apply lyJ | apply lywI | apply lywJ | apply csI | apply csJ | apply cswI | apply cswJ); assumption)) only [f_X12_liars_b23, SM, LI, ↓li_m1, nI_add, pk_mul, nn_sub, nn_m1, nn_div, nn_rem, nn_nz, nn_mod, nJ_l, lN_add, lN_mul, nn_tb1, nI_bt, nn_and, nn_or, nn_xor, nn_shr, nn_1shl, nn_31, il_p, il_n, it_p, it_n, ie_p, ie_n, ie_b, ie_b1, ie_m, ie_mm, it_m, it_m0, il_m0, bI_rZ, Option.bind_some, bd2_some, Nat.add_zero, Nat.zero_add, if_true, if_false, Bool.false_eq_true, eq_self, hI_R, hJ_R, ng_t, ng_e, c4]
    exact ⟨g, by simp (disch := first | assumption | omega | decide | ((repeat first | apply lyI | apply lyJ | apply lywI | apply lywJ | apply csI | apply csJ | apply cswI | apply cswJ); assumption)) only [f_X12_liars, f_X12_gives, SM, LI, ↓li_m1, nI_add, pk_mul, nn_sub, nn_m1, nn_div, nn_rem, nn_nz, nn_mod, nJ_l, lN_add, lN_mul, nn_tb1, nI_bt, nn_and, nn_or, nn_xor, nn_shr, nn_1shl, nn_31, il_p, il_n, it_p, it_n, ie_p, ie_n, ie_b, ie_b1, ie_m, ie_mm, it_m, it_m0, il_m0, bI_rZ, Option.bind_some, bd2_some, Nat.add_zero, Nat.zero_add, if_true, if_false, Bool.false_eq_true, eq_self, hI_R, hJ_R, ng_t, ng_e, e, rl, e2], fg.mono (by decide) (by decide) (by decide) (by decide)⟩)
theorem cr_b {A : Nat → Nat} {p q : Nat → Bool} (h : ¬ crI A p q = m1) : ∃ b, crI A p q = bI b := by
  unfold crI sureI at h ⊢
  split
  · rename_i e
    rw [if_pos e] at h
    exact absurd rfl h
  · exact ⟨_, rfl⟩
theorem o_because {h : aH} {c : Nat} {A : Nat → Nat} {P : Nat → Bool} {Q : Nat → Nat → Bool} {S : Nat → Nat → Nat → Nat → Nat} {n d : Nat} {M : Nat → Nat → Nat} (ko : KO h c A P Q S n d M) (ro : RO h A P Q S n d M) (x : Int32) : QO h (fun g => f_X11_because g 0 x) (fun g => f_X12_because g 113 x) := by
  obtain ⟨hs, hc, hw, hl, hf, hm, mw, hr, hn⟩ := id ko
  obtain ⟨b0, b1, b2l, b2, b3, b4⟩ := wf_b hw
  obtain ⟨mn, md, mk, mi⟩ := id mw
  obtain ⟨⟨e0, e1, e2, e15, e3, e4, em⟩, -⟩ := id hc
  have hm4 : h.2.1 53 4 = nI n := hm.1
  have hm5 : h.2.1 53 5 = nI d := hm.2.1
  rcases neg_or x with hxx | ⟨q, q1, rfl⟩
  · exact qo_mk (r := m1) (w := nI 1) ro ⟨h, by simp (disch := first | assumption | omega | decide | ((repeat first | apply lyI | apply lyJ | apply lywI | apply lywJ | apply csI | apply csJ | apply cswI | apply cswJ); assumption)) only [f_X11_because, f_X11_below, f_X11_refuse, f_X11_deny, S0, SC, SH52, LI, ↓li_m1, nI_add, pk_mul, nn_sub, nn_m1, nn_div, nn_rem, nn_nz, nn_mod, nJ_l, lN_add, lN_mul, nn_tb1, nI_bt, nn_and, nn_or, nn_xor, nn_shr, nn_1shl, nn_31, il_p, il_n, it_p, it_n, ie_p, ie_n, ie_b, ie_b1, ie_m, ie_mm, it_m, it_m0, il_m0, bI_rZ, Option.bind_some, bd2_some, Nat.add_zero, Nat.zero_add, if_true, if_false, Bool.false_eq_true, eq_self, hI_R, hJ_R, ng_t, ng_e, hn, e0, e1, e2, e3, e4, hm4], FR.rf⟩ (fun k kl kc km ks => by
    obtain ⟨c0, c1, c2, c3, c4, cA⟩ := cm_e kc
    obtain ⟨m5, m6, mM⟩ := id km
    exact ⟨k, by simp (disch := first | assumption | omega | decide | ((repeat first | apply lyI | apply lyJ | apply lywI | apply lywJ | apply csI | apply csJ | apply cswI | apply cswJ); assumption)) only [f_X12_because, f_X12_because_j168, f_X12_because_j213, f_X12_isWitness, f_X12_isWorld, f_X12_isQuestion, f_X12_isKind, f_X12_refuse, f_X12_is, SM, LI, ↓li_m1, nI_add, pk_mul, nn_sub, nn_m1, nn_div, nn_rem, nn_nz, nn_mod, nJ_l, lN_add, lN_mul, nn_tb1, nI_bt, nn_and, nn_or, nn_xor, nn_shr, nn_1shl, nn_31, il_p, il_n, it_p, it_n, ie_p, ie_n, ie_b, ie_b1, ie_m, ie_mm, it_m, it_m0, il_m0, bI_rZ, Option.bind_some, bd2_some, Nat.add_zero, Nat.zero_add, if_true, if_false, Bool.false_eq_true, eq_self, hI_R, hJ_R, ng_t, ng_e, c0, c1, c2, c3, c4, m5, m6], FR.rf⟩)
  rcases (Nat.lt_or_ge q (A 3)).symm with qb | qb
  · exact qo_mk (r := m1) (w := nI 1) ro ⟨h, by simp (disch := first | assumption | omega | decide | ((repeat first | apply lyI | apply lyJ | apply lywI | apply lywJ | apply csI | apply csJ | apply cswI | apply cswJ); assumption)) only [f_X11_because, f_X11_below, f_X11_refuse, f_X11_deny, S0, SC, SH52, LI, ↓li_m1, nI_add, pk_mul, nn_sub, nn_m1, nn_div, nn_rem, nn_nz, nn_mod, nJ_l, lN_add, lN_mul, nn_tb1, nI_bt, nn_and, nn_or, nn_xor, nn_shr, nn_1shl, nn_31, il_p, il_n, it_p, it_n, ie_p, ie_n, ie_b, ie_b1, ie_m, ie_mm, it_m, it_m0, il_m0, bI_rZ, Option.bind_some, bd2_some, Nat.add_zero, Nat.zero_add, if_true, if_false, Bool.false_eq_true, eq_self, hI_R, hJ_R, ng_t, ng_e, hn, e0, e1, e2, e3, e4, hm4], FR.rf⟩ (fun k kl kc km ks => by
    obtain ⟨c0, c1, c2, c3, c4, cA⟩ := cm_e kc
    obtain ⟨m5, m6, mM⟩ := id km
    exact ⟨k, by simp (disch := first | assumption | omega | decide | ((repeat first | apply lyI | apply lyJ | apply lywI | apply lywJ | apply csI | apply csJ | apply cswI | apply cswJ); assumption)) only [f_X12_because, f_X12_because_j168, f_X12_because_j213, f_X12_isWitness, f_X12_isWorld, f_X12_isQuestion, f_X12_isKind, f_X12_refuse, f_X12_is, SM, LI, ↓li_m1, nI_add, pk_mul, nn_sub, nn_m1, nn_div, nn_rem, nn_nz, nn_mod, nJ_l, lN_add, lN_mul, nn_tb1, nI_bt, nn_and, nn_or, nn_xor, nn_shr, nn_1shl, nn_31, il_p, il_n, it_p, it_n, ie_p, ie_n, ie_b, ie_b1, ie_m, ie_mm, it_m, it_m0, il_m0, bI_rZ, Option.bind_some, bd2_some, Nat.add_zero, Nat.zero_add, if_true, if_false, Bool.false_eq_true, eq_self, hI_R, hJ_R, ng_t, ng_e, c0, c1, c2, c3, c4, m5, m6], FR.rf⟩)
  have r1 := k_cert52 hs hc hw hl hf hm mw hr qb
  by_cases hx : crI A (lvB A P S M n) (Q q) = m1
  · rw [hx] at r1
    exact qo_mk (r := m1) (w := nI 6) ro ⟨h, by simp (disch := first | assumption | omega | decide | ((repeat first | apply lyI | apply lyJ | apply lywI | apply lywJ | apply csI | apply csJ | apply cswI | apply cswJ); assumption)) only [f_X11_because, f_X11_below, f_X11_refuse, S0, SC, SH52, LI, ↓li_m1, nI_add, pk_mul, nn_sub, nn_m1, nn_div, nn_rem, nn_nz, nn_mod, nJ_l, lN_add, lN_mul, nn_tb1, nI_bt, nn_and, nn_or, nn_xor, nn_shr, nn_1shl, nn_31, il_p, il_n, it_p, it_n, ie_p, ie_n, ie_b, ie_b1, ie_m, ie_mm, it_m, it_m0, il_m0, bI_rZ, Option.bind_some, bd2_some, Nat.add_zero, Nat.zero_add, if_true, if_false, Bool.false_eq_true, eq_self, hI_R, hJ_R, ng_t, ng_e, hn, e3, r1], FR.rf⟩ (fun k kl kc km ks => by
    obtain ⟨c0, c1, c2, c3, c4, cA⟩ := cm_e kc
    obtain ⟨g, e, fg, lg, cg, mg, sg, fb, pu, rl, rs⟩ := r_all kl kc hw km mw ks
    have r := rs q qb
    rw [hx] at r
    exact ⟨g, by simp (disch := first | assumption | omega | decide | ((repeat first | apply lyI | apply lyJ | apply lywI | apply lywJ | apply csI | apply csJ | apply cswI | apply cswJ); assumption)) only [f_X12_because, f_X12_isQuestion, f_X12_refuse, SM, LI, ↓li_m1, nI_add, pk_mul, nn_sub, nn_m1, nn_div, nn_rem, nn_nz, nn_mod, nJ_l, lN_add, lN_mul, nn_tb1, nI_bt, nn_and, nn_or, nn_xor, nn_shr, nn_1shl, nn_31, il_p, il_n, it_p, it_n, ie_p, ie_n, ie_b, ie_b1, ie_m, ie_mm, it_m, it_m0, il_m0, bI_rZ, Option.bind_some, bd2_some, Nat.add_zero, Nat.zero_add, if_true, if_false, Bool.false_eq_true, eq_self, hI_R, hJ_R, ng_t, ng_e, c3, e, r], fg.mono (by decide) (by decide) (by decide) (by decide)⟩)
  · obtain ⟨how, hb⟩ := cr_b hx
    rw [hb] at r1 hx
    obtain ⟨h1, r2, f1⟩ := k_least hs hc hw hl hf hm mw hr qb how
    have l1 := f1.lay hl
    exact qo_mk (r := nI (lpN (prB A P (Q q) how S M n) n)) (w := nI 0) ro ⟨h1, by simp (disch := first | assumption | omega | decide | ((repeat first | apply lyI | apply lyJ | apply lywI | apply lywJ | apply csI | apply csJ | apply cswI | apply cswJ); assumption)) only [f_X11_because, f_X11_below, f_X11_give, S0, SC, SH52, SS, LI, ↓li_m1, nI_add, pk_mul, nn_sub, nn_m1, nn_div, nn_rem, nn_nz, nn_mod, nJ_l, lN_add, lN_mul, nn_tb1, nI_bt, nn_and, nn_or, nn_xor, nn_shr, nn_1shl, nn_31, il_p, il_n, it_p, it_n, ie_p, ie_n, ie_b, ie_b1, ie_m, ie_mm, it_m, it_m0, il_m0, bI_rZ, Option.bind_some, bd2_some, Nat.add_zero, Nat.zero_add, if_true, if_false, Bool.false_eq_true, eq_self, hI_R, hJ_R, ng_t, ng_e, hn, e3, r1, if_neg hx, r2], f1.mono (by decide) (by decide) (by decide) (by decide)⟩ (fun k kl kc km ks => by
    obtain ⟨c0, c1, c2, c3, c4, cA⟩ := cm_e kc
    obtain ⟨g, e, fg, lg, cg, mg, sg, fb, pu, rl, rs⟩ := r_all kl kc hw km mw ks
    have r := rs q qb
    rw [hb] at r
    obtain ⟨g1, e5, f2, kb⟩ := r_kinds2 lg cg hw mg mw sg (nI q) (bI how)
    have lg1 := f2.lay lg
    have cg1 := cm_fr f2 (by decide) (by decide) cg
    have mg1 := mm_fr f2 (by decide) mg
    have m6 := mg1.2.1
    obtain ⟨b, r3, hb1, hb2⟩ := r_lp1 lg1 cg1 hw mg1 mw kb qb how
    have p0 : 0 < 2 ^ n := Nat.two_pow_pos n
    have bl : b < 2 ^ n := by
      rcases hb1 with rfl | hb1
      · omega
      · exact hb1.1
    have r4 := r_lp2 lg1 cg1 hw mg1 mw kb qb how bl
    have ee := lp_two mn hb1 hb2
    refine ⟨g1, ?_, (fg.mono (by decide) (by decide) (by decide) (by decide)).tr (f2.mono (by decide) (by decide) (by decide) (by decide))⟩
    rw [ee]
    cases hy : firstB (fun m => bcN m == bcN b && prB A P (Q q) how S M n m) b with
    | none =>
      rw [hy] at r4
      simp (disch := first | assumption | omega | decide | ((repeat first | apply lyI | apply lyJ | apply lywI | apply lywJ | apply csI | apply csJ | apply cswI | apply cswJ); assumption)) only [f_X12_because, f_X12_isQuestion, f_X12_gives, SM, LI, ↓li_m1, nI_add, pk_mul, nn_sub, nn_m1, nn_div, nn_rem, nn_nz, nn_mod, nJ_l, lN_add, lN_mul, nn_tb1, nI_bt, nn_and, nn_or, nn_xor, nn_shr, nn_1shl, nn_31, il_p, il_n, it_p, it_n, ie_p, ie_n, ie_b, ie_b1, ie_m, ie_mm, it_m, it_m0, il_m0, bI_rZ, Option.bind_some, bd2_some, Nat.add_zero, Nat.zero_add, if_true, if_false, Bool.false_eq_true, eq_self, hI_R, hJ_R, ng_t, ng_e, c3, e, r, if_neg hx, e5, m6, r3, r4]
    | some y =>
      rw [hy] at r4
      simp (disch := first | assumption | omega | decide | ((repeat first | apply lyI | apply lyJ | apply lywI | apply lywJ | apply csI | apply csJ | apply cswI | apply cswJ); assumption)) only [f_X12_because, f_X12_isQuestion, f_X12_gives, SM, LI, ↓li_m1, nI_add, pk_mul, nn_sub, nn_m1, nn_div, nn_rem, nn_nz, nn_mod, nJ_l, lN_add, lN_mul, nn_tb1, nI_bt, nn_and, nn_or, nn_xor, nn_shr, nn_1shl, nn_31, il_p, il_n, it_p, it_n, ie_p, ie_n, ie_b, ie_b1, ie_m, ie_mm, it_m, it_m0, il_m0, bI_rZ, Option.bind_some, bd2_some, Nat.add_zero, Nat.zero_add, if_true, if_false, Bool.false_eq_true, eq_self, hI_R, hJ_R, ng_t, ng_e, c3, e, r, if_neg hx, e5, m6, r3, r4])
