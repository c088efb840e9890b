/-! ===== hear, unsay, nextDay, shortest, sat: the calls ===== -/
theorem sy_up {h h' : aH} {A : Nat → Nat} {P : Nat → Bool} {S : Nat → Nat → Nat → Nat → Nat} (e : h'.2.1 126 = h.2.1 126) (hs : SY h A P S) : SY h' A P S := by
  unfold SY
  rw [e]
  exact hs
/-- the class has moved its minutes, the reference follows -/
theorem ho_mk {h h1 k1 : aH} {c : Nat} {A : Nat → Nat} {P : Nat → Bool} {Q : Nat → Nat → Bool} {S : Nat → Nat → Nat → Nat → Nat} {n d : Nat} {M : Nat → Nat → Nat} {n' d' : Nat} {M' : Nat → Nat → Nat} {f g : aH → Option (Int32 × aH)} {r w : Int32} (ko : KO h c A P Q S n d M) (ro : RO h A P Q S n d M) (e1 : f h = some (r, hI h1 0 17 w)) (f1 : FR h h1 [52, 53, 54, 55, 56, 57, 58, 59] [] [] []) (mn : MN h1 53 n' d' M') (hr : HR h1 52 A P S M' n') (mw : MW A n' d' M') (di : DI n' d' M') (hd : d' ≤ 99) (e2 : g (hI h1 0 17 w) = some (r, hI k1 113 3 w)) (f2 : FR (hI h1 0 17 w) k1 [114] [] [] []) (cm : CM k1 A P Q) (mm : MM k1 n' d' M') (s1 : ∀ k, 100 ≤ k → ¬ (k < 148) → k1.2.1 114 k = h1.2.1 114 k) (s2 : k1.2.1 114 7 = h1.2.1 114 7) : HO h c A P Q S f g := by
  obtain ⟨k1', k2, k3, k4, k5, k6, k7, k8, k9⟩ := ko
  have fa : FR h (hI h1 0 17 w) HCI [] [17] [3] := (f1.mono (by decide) (by decide) (by decide) (by decide)).tr (fr_0 (by decide))
  have fb : FR h (hI k1 113 3 w) HCI [] [17] [3] := (fa.tr (f2.mono (by decide) (by decide) (by decide) (by decide))).tr (fr_1 (by decide))
  have lh := fb.lay k4
  have x52 : ∀ x, 52 ≤ x → x ≤ 59 → (hI k1 113 3 w).2.1 x = h1.2.1 x := fun x h1 h2 => by
    have e1 : (hI k1 113 3 w).2.1 x = k1.2.1 x := by
      funext j
      rw [rI_hI, if_neg (fun e => by omega)]
    have e2 := f2.I x (by simp; omega) (by omega) (by omega)
    rw [e1, e2]
    funext j
    rw [rI_hI, if_neg (fun e => by omega)]
  have h114 : h1.2.1 114 = h.2.1 114 := f1.I 114 (by decide) (by decide) (by decide)
  refine ⟨r, _, _, e1, e2, fb, ?_, fun k a b => ?_, ?_, n', d', M', ⟨cs_fr fb k1', cc_fr fb (by decide) k1' k2, k3, lh, by rw [fb.2.1]; exact k5, ?_, mw, ?_, by rw [fb.2.1]; exact k9⟩, ⟨lh, cm, k3, mm, mw, ?_⟩, di, hd⟩
  · unfold ST
    rw [rI_hI, if_neg (by decide), f2.2.2.2.2.1 17 List.not_mem_nil, rI_hI, if_pos ⟨rfl, rfl⟩, rI_hI, if_pos ⟨rfl, rfl⟩]
  · show k1.2.1 114 k = _
    rw [s1 k a b, h114]
  · show k1.2.1 114 7 = _
    rw [s2, h114]
  · unfold MN
    rw [x52 53 (by decide) (by decide), x52 (53 + 1) (by decide) (by decide), x52 (53 + 2) (by decide) (by decide), x52 (53 + 3) (by decide) (by decide), x52 (53 + 4) (by decide) (by decide)]
    exact mn
  · unfold HR
    rw [x52 52 (by decide) (by decide), x52 (52 + 6) (by decide) (by decide), x52 (52 + 7) (by decide) (by decide)]
    exact hr
  · exact sy_fr fb (by decide) ro.2.2.2.2.2
theorem o_hear {h : aH} {c : Nat} {A : Nat → Nat} {P : Nat → Bool} {Q : Nat → Nat → Bool} {S : Nat → Nat → Nat → Nat → Nat} {n d : Nat} {M : Nat → Nat → Nat} (ko : KO h c A P Q S n d M) (ro : RO h A P Q S n d M) (di : DI n d M) (hd : d ≤ 99) (x y z : Int32) : HO h c A P Q S (fun g => f_X11_hear g 0 x y z) (fun g => f_X12_hear g 113 x y z) := by
  obtain ⟨hs, hc, hw, hl, hf, hm, mw, hr, hn⟩ := id ko
  obtain ⟨b0, b1, b2l, b2, b3, b4⟩ := wf_b hw
  obtain ⟨mn, md, mk, mi⟩ := id mw
  obtain ⟨⟨e0, e1, e2, e15, e3, e4, em⟩, -⟩ := id hc
  have hm4 : h.2.1 53 4 = nI n := hm.1
  have hm5 : h.2.1 53 5 = nI d := hm.2.1
  have bad : QO h (fun g => f_X11_hear g 0 x y z) (fun g => f_X12_hear g 113 x y z) → HO h c A P Q S (fun g => f_X11_hear g 0 x y z) (fun g => f_X12_hear g 113 x y z) := fun q => ho_qo ko ro di hd q
  rcases neg_or x with hx | ⟨v, v1, rfl⟩
  · exact bad (qo_mk (r := nI 0) (w := nI 1) ro ⟨h, by simp (disch := first | assumption | omega | decide | ((repeat first | apply lyI | apply lyJ | apply lywI | apply lywJ | apply csI | apply csJ | apply cswI | apply cswJ); assumption)) only [f_X11_hear, f_X11_hear_j44, f_X11_below, f_X11_deny, S0, SC, SH52, LI, ↓li_m1, nI_add, pk_mul, nn_sub, nn_m1, nn_div, nn_rem, nn_nz, nn_mod, nJ_l, lN_add, lN_mul, nn_tb1, nI_bt, nn_and, nn_or, nn_xor, nn_shr, nn_1shl, nn_31, il_p, il_n, it_p, it_n, ie_p, ie_n, ie_b, ie_b1, ie_m, ie_mm, it_m, it_m0, il_m0, bI_rZ, Option.bind_some, bd2_some, Nat.add_zero, Nat.zero_add, if_true, if_false, Bool.false_eq_true, eq_self, hI_R, hJ_R, ng_t, ng_e, hn, e4]; try rfl, FR.rf⟩ (fun k kl kc km ks => by
    obtain ⟨c0, c1, c2, c3, c4, cA⟩ := cm_e kc
    exact ⟨k, by simp (disch := first | assumption | omega | decide | ((repeat first | apply lyI | apply lyJ | apply lywI | apply lywJ | apply csI | apply csJ | apply cswI | apply cswJ); assumption)) only [f_X12_hear, f_X12_hear_j32, f_X12_isWitness, f_X12_is, SM, LI, ↓li_m1, nI_add, pk_mul, nn_sub, nn_m1, nn_div, nn_rem, nn_nz, nn_mod, nJ_l, lN_add, lN_mul, nn_tb1, nI_bt, nn_and, nn_or, nn_xor, nn_shr, nn_1shl, nn_31, il_p, il_n, it_p, it_n, ie_p, ie_n, ie_b, ie_b1, ie_m, ie_mm, it_m, it_m0, il_m0, bI_rZ, Option.bind_some, bd2_some, Nat.add_zero, Nat.zero_add, if_true, if_false, Bool.false_eq_true, eq_self, hI_R, hJ_R, ng_t, ng_e, c4]; try rfl, FR.rf⟩))
  rcases (Nat.lt_or_ge v (A 4)).symm with vb | vb
  · exact bad (qo_mk (r := nI 0) (w := nI 1) ro ⟨h, by simp (disch := first | assumption | omega | decide | ((repeat first | apply lyI | apply lyJ | apply lywI | apply lywJ | apply csI | apply csJ | apply cswI | apply cswJ); assumption)) only [f_X11_hear, f_X11_hear_j44, f_X11_below, f_X11_deny, S0, SC, SH52, LI, ↓li_m1, nI_add, pk_mul, nn_sub, nn_m1, nn_div, nn_rem, nn_nz, nn_mod, nJ_l, lN_add, lN_mul, nn_tb1, nI_bt, nn_and, nn_or, nn_xor, nn_shr, nn_1shl, nn_31, il_p, il_n, it_p, it_n, ie_p, ie_n, ie_b, ie_b1, ie_m, ie_mm, it_m, it_m0, il_m0, bI_rZ, Option.bind_some, bd2_some, Nat.add_zero, Nat.zero_add, if_true, if_false, Bool.false_eq_true, eq_self, hI_R, hJ_R, ng_t, ng_e, hn, e4]; try rfl, FR.rf⟩ (fun k kl kc km ks => by
    obtain ⟨c0, c1, c2, c3, c4, cA⟩ := cm_e kc
    exact ⟨k, by simp (disch := first | assumption | omega | decide | ((repeat first | apply lyI | apply lyJ | apply lywI | apply lywJ | apply csI | apply csJ | apply cswI | apply cswJ); assumption)) only [f_X12_hear, f_X12_hear_j32, f_X12_isWitness, f_X12_is, SM, LI, ↓li_m1, nI_add, pk_mul, nn_sub, nn_m1, nn_div, nn_rem, nn_nz, nn_mod, nJ_l, lN_add, lN_mul, nn_tb1, nI_bt, nn_and, nn_or, nn_xor, nn_shr, nn_1shl, nn_31, il_p, il_n, it_p, it_n, ie_p, ie_n, ie_b, ie_b1, ie_m, ie_mm, it_m, it_m0, il_m0, bI_rZ, Option.bind_some, bd2_some, Nat.add_zero, Nat.zero_add, if_true, if_false, Bool.false_eq_true, eq_self, hI_R, hJ_R, ng_t, ng_e, c4]; try rfl, FR.rf⟩))
  rcases neg_or y with hy | ⟨q, q1, rfl⟩
  · exact bad (qo_mk (r := nI 0) (w := nI 1) ro ⟨h, by simp (disch := first | assumption | omega | decide | ((repeat first | apply lyI | apply lyJ | apply lywI | apply lywJ | apply csI | apply csJ | apply cswI | apply cswJ); assumption)) only [f_X11_hear, f_X11_hear_j44, f_X11_below, f_X11_deny, S0, SC, SH52, LI, ↓li_m1, nI_add, pk_mul, nn_sub, nn_m1, nn_div, nn_rem, nn_nz, nn_mod, nJ_l, lN_add, lN_mul, nn_tb1, nI_bt, nn_and, nn_or, nn_xor, nn_shr, nn_1shl, nn_31, il_p, il_n, it_p, it_n, ie_p, ie_n, ie_b, ie_b1, ie_m, ie_mm, it_m, it_m0, il_m0, bI_rZ, Option.bind_some, bd2_some, Nat.add_zero, Nat.zero_add, if_true, if_false, Bool.false_eq_true, eq_self, hI_R, hJ_R, ng_t, ng_e, hn, e4, e3]; try rfl, FR.rf⟩ (fun k kl kc km ks => by
    obtain ⟨c0, c1, c2, c3, c4, cA⟩ := cm_e kc
    exact ⟨k, by simp (disch := first | assumption | omega | decide | ((repeat first | apply lyI | apply lyJ | apply lywI | apply lywJ | apply csI | apply csJ | apply cswI | apply cswJ); assumption)) only [f_X12_hear, f_X12_hear_j32, f_X12_isWitness, f_X12_isQuestion, f_X12_is, SM, LI, ↓li_m1, nI_add, pk_mul, nn_sub, nn_m1, nn_div, nn_rem, nn_nz, nn_mod, nJ_l, lN_add, lN_mul, nn_tb1, nI_bt, nn_and, nn_or, nn_xor, nn_shr, nn_1shl, nn_31, il_p, il_n, it_p, it_n, ie_p, ie_n, ie_b, ie_b1, ie_m, ie_mm, it_m, it_m0, il_m0, bI_rZ, Option.bind_some, bd2_some, Nat.add_zero, Nat.zero_add, if_true, if_false, Bool.false_eq_true, eq_self, hI_R, hJ_R, ng_t, ng_e, c4, c3]; try rfl, FR.rf⟩))
  rcases (Nat.lt_or_ge q (A 3)).symm with qb | qb
  · exact bad (qo_mk (r := nI 0) (w := nI 1) ro ⟨h, by simp (disch := first | assumption | omega | decide | ((repeat first | apply lyI | apply lyJ | apply lywI | apply lywJ | apply csI | apply csJ | apply cswI | apply cswJ); assumption)) only [f_X11_hear, f_X11_hear_j44, f_X11_below, f_X11_deny, S0, SC, SH52, LI, ↓li_m1, nI_add, pk_mul, nn_sub, nn_m1, nn_div, nn_rem, nn_nz, nn_mod, nJ_l, lN_add, lN_mul, nn_tb1, nI_bt, nn_and, nn_or, nn_xor, nn_shr, nn_1shl, nn_31, il_p, il_n, it_p, it_n, ie_p, ie_n, ie_b, ie_b1, ie_m, ie_mm, it_m, it_m0, il_m0, bI_rZ, Option.bind_some, bd2_some, Nat.add_zero, Nat.zero_add, if_true, if_false, Bool.false_eq_true, eq_self, hI_R, hJ_R, ng_t, ng_e, hn, e4, e3]; try rfl, FR.rf⟩ (fun k kl kc km ks => by
    obtain ⟨c0, c1, c2, c3, c4, cA⟩ := cm_e kc
    exact ⟨k, by simp (disch := first | assumption | omega | decide | ((repeat first | apply lyI | apply lyJ | apply lywI | apply lywJ | apply csI | apply csJ | apply cswI | apply cswJ); assumption)) only [f_X12_hear, f_X12_hear_j32, f_X12_isWitness, f_X12_isQuestion, f_X12_is, SM, LI, ↓li_m1, nI_add, pk_mul, nn_sub, nn_m1, nn_div, nn_rem, nn_nz, nn_mod, nJ_l, lN_add, lN_mul, nn_tb1, nI_bt, nn_and, nn_or, nn_xor, nn_shr, nn_1shl, nn_31, il_p, il_n, it_p, it_n, ie_p, ie_n, ie_b, ie_b1, ie_m, ie_mm, it_m, it_m0, il_m0, bI_rZ, Option.bind_some, bd2_some, Nat.add_zero, Nat.zero_add, if_true, if_false, Bool.false_eq_true, eq_self, hI_R, hJ_R, ng_t, ng_e, c4, c3]; try rfl, FR.rf⟩))
  rcases neg_or z with hz | ⟨a, a1, rfl⟩
  · exact bad (qo_mk (r := nI 0) (w := nI 1) ro ⟨h, by simp (disch := first | assumption | omega | decide | ((repeat first | apply lyI | apply lyJ | apply lywI | apply lywJ | apply csI | apply csJ | apply cswI | apply cswJ); assumption)) only [f_X11_hear, f_X11_hear_j44, f_X11_below, f_X11_deny, S0, SC, SH52, LI, ↓li_m1, nI_add, pk_mul, nn_sub, nn_m1, nn_div, nn_rem, nn_nz, nn_mod, nJ_l, lN_add, lN_mul, nn_tb1, nI_bt, nn_and, nn_or, nn_xor, nn_shr, nn_1shl, nn_31, il_p, il_n, it_p, it_n, ie_p, ie_n, ie_b, ie_b1, ie_m, ie_mm, it_m, it_m0, il_m0, bI_rZ, Option.bind_some, bd2_some, Nat.add_zero, Nat.zero_add, if_true, if_false, Bool.false_eq_true, eq_self, hI_R, hJ_R, ng_t, ng_e, hn, e4, e3]; try rfl, FR.rf⟩ (fun k kl kc km ks => by
    obtain ⟨c0, c1, c2, c3, c4, cA⟩ := cm_e kc
    exact ⟨k, by simp (disch := first | assumption | omega | decide | ((repeat first | apply lyI | apply lyJ | apply lywI | apply lywJ | apply csI | apply csJ | apply cswI | apply cswJ); assumption)) only [f_X12_hear, f_X12_hear_j32, f_X12_isWitness, f_X12_isQuestion, f_X12_is, SM, LI, ↓li_m1, nI_add, pk_mul, nn_sub, nn_m1, nn_div, nn_rem, nn_nz, nn_mod, nJ_l, lN_add, lN_mul, nn_tb1, nI_bt, nn_and, nn_or, nn_xor, nn_shr, nn_1shl, nn_31, il_p, il_n, it_p, it_n, ie_p, ie_n, ie_b, ie_b1, ie_m, ie_mm, it_m, it_m0, il_m0, bI_rZ, Option.bind_some, bd2_some, Nat.add_zero, Nat.zero_add, if_true, if_false, Bool.false_eq_true, eq_self, hI_R, hJ_R, ng_t, ng_e, c4, c3]; try rfl, FR.rf⟩))
  rcases (Nat.lt_or_ge a (2 * A 3)).symm with ab | ab
  · exact bad (qo_mk (r := nI 0) (w := nI 1) ro ⟨h, by simp (disch := first | assumption | omega | decide | ((repeat first | apply lyI | apply lyJ | apply lywI | apply lywJ | apply csI | apply csJ | apply cswI | apply cswJ); assumption)) only [f_X11_hear, f_X11_hear_j44, f_X11_below, f_X11_deny, S0, SC, SH52, LI, ↓li_m1, nI_add, pk_mul, nn_sub, nn_m1, nn_div, nn_rem, nn_nz, nn_mod, nJ_l, lN_add, lN_mul, nn_tb1, nI_bt, nn_and, nn_or, nn_xor, nn_shr, nn_1shl, nn_31, il_p, il_n, it_p, it_n, ie_p, ie_n, ie_b, ie_b1, ie_m, ie_mm, it_m, it_m0, il_m0, bI_rZ, Option.bind_some, bd2_some, Nat.add_zero, Nat.zero_add, if_true, if_false, Bool.false_eq_true, eq_self, hI_R, hJ_R, ng_t, ng_e, hn, e4, e3]; try rfl, FR.rf⟩ (fun k kl kc km ks => by
    obtain ⟨c0, c1, c2, c3, c4, cA⟩ := cm_e kc
    exact ⟨k, by simp (disch := first | assumption | omega | decide | ((repeat first | apply lyI | apply lyJ | apply lywI | apply lywJ | apply csI | apply csJ | apply cswI | apply cswJ); assumption)) only [f_X12_hear, f_X12_hear_j32, f_X12_isWitness, f_X12_isQuestion, f_X12_is, SM, LI, ↓li_m1, nI_add, pk_mul, nn_sub, nn_m1, nn_div, nn_rem, nn_nz, nn_mod, nJ_l, lN_add, lN_mul, nn_tb1, nI_bt, nn_and, nn_or, nn_xor, nn_shr, nn_1shl, nn_31, il_p, il_n, it_p, it_n, ie_p, ie_n, ie_b, ie_b1, ie_m, ie_mm, it_m, it_m0, il_m0, bI_rZ, Option.bind_some, bd2_some, Nat.add_zero, Nat.zero_add, if_true, if_false, Bool.false_eq_true, eq_self, hI_R, hJ_R, ng_t, ng_e, c4, c3]; try rfl, FR.rf⟩))
  have r7 := k_today52 hs hc hw hl hf hm mw hr
  have cl := cntB_le (fun k => M k 3 == d) n
  have d9 := di.1
  have r8 := k_wasPut52 hs hc hw hl hf hm mw hr qb
  by_cases h9 : cntB (fun k => M k 3 == d) n = 9
  · exact bad (qo_mk (r := nI 0) (w := nI 4) ro ⟨h, by simp (disch := first | assumption | omega | decide | ((repeat first | apply lyI | apply lyJ | apply lywI | apply lywJ | apply csI | apply csJ | apply cswI | apply cswJ); assumption)) only [f_X11_hear, f_X11_hear_j44, f_X11_below, f_X11_deny, S0, SC, SH52, LI, ↓li_m1, nI_add, pk_mul, nn_sub, nn_m1, nn_div, nn_rem, nn_nz, nn_mod, nJ_l, lN_add, lN_mul, nn_tb1, nI_bt, nn_and, nn_or, nn_xor, nn_shr, nn_1shl, nn_31, il_p, il_n, it_p, it_n, ie_p, ie_n, ie_b, ie_b1, ie_m, ie_mm, it_m, it_m0, il_m0, bI_rZ, Option.bind_some, bd2_some, Nat.add_zero, Nat.zero_add, if_true, if_false, Bool.false_eq_true, eq_self, hI_R, hJ_R, ng_t, ng_e, hn, e4, e3, r7, h9]; try rfl, FR.rf⟩ (fun k kl kc km ks => by
    obtain ⟨c0, c1, c2, c3, c4, cA⟩ := cm_e kc
    have t := r_putToday kl kc hw km mw
    exact ⟨k, by simp (disch := first | assumption | omega | decide | ((repeat first | apply lyI | apply lyJ | apply lywI | apply lywJ | apply csI | apply csJ | apply cswI | apply cswJ); assumption)) only [f_X12_hear, f_X12_hear_j32, f_X12_isWitness, f_X12_isQuestion, f_X12_is, SM, LI, ↓li_m1, nI_add, pk_mul, nn_sub, nn_m1, nn_div, nn_rem, nn_nz, nn_mod, nJ_l, lN_add, lN_mul, nn_tb1, nI_bt, nn_and, nn_or, nn_xor, nn_shr, nn_1shl, nn_31, il_p, il_n, it_p, it_n, ie_p, ie_n, ie_b, ie_b1, ie_m, ie_mm, it_m, it_m0, il_m0, bI_rZ, Option.bind_some, bd2_some, Nat.add_zero, Nat.zero_add, if_true, if_false, Bool.false_eq_true, eq_self, hI_R, hJ_R, ng_t, ng_e, c4, c3, t, h9]; try rfl, FR.rf⟩))
  have rl : ∀ k, LAY k → MM k n d M → f_X12_hear_l56 k 113 (nI v) (nI q) (nI a) (nI 0) = some (match firstB (fun i => M i 1 == q) n with | some _ => .inl () | none => .inr ()) := fun k kl km => by
    obtain ⟨m5, m6, mM⟩ := id km
    have bd : ∀ j, j < n → f_X12_hear_b56 k 113 (nI v) (nI q) (nI a) (nI j) = if (M j 1 == q) = true then some (.inr (.inl ())) else some (.inl (nI (j + 1))) := fun j hj => by
      have r1 := r_ofHeard kl (k := j) (i := 1) (by omega) (by decide)
      rw [mM j 1 hj (by decide)] at r1
      have mj := mk j hj
      by_cases hx : M j 1 = q
      · rw [if_pos (by simpa using hx)]
        simp (disch := first | assumption | omega | decide | ((repeat first | apply lyI | apply lyJ | apply lywI | apply lywJ | apply csI | apply csJ | apply cswI | apply cswJ); assumption)) only [f_X12_hear_b56, SM, LI, ↓li_m1, nI_add, pk_mul, nn_sub, nn_m1, nn_div, nn_rem, nn_nz, nn_mod, nJ_l, lN_add, lN_mul, nn_tb1, nI_bt, nn_and, nn_or, nn_xor, nn_shr, nn_1shl, nn_31, il_p, il_n, it_p, it_n, ie_p, ie_n, ie_b, ie_b1, ie_m, ie_mm, it_m, it_m0, il_m0, bI_rZ, Option.bind_some, bd2_some, Nat.add_zero, Nat.zero_add, if_true, if_false, Bool.false_eq_true, eq_self, hI_R, hJ_R, ng_t, ng_e, m6, r1]
      · rw [if_neg (by simpa using hx)]
        simp (disch := first | assumption | omega | decide | ((repeat first | apply lyI | apply lyJ | apply lywI | apply lywJ | apply csI | apply csJ | apply cswI | apply cswJ); assumption)) only [f_X12_hear_b56, SM, LI, ↓li_m1, nI_add, pk_mul, nn_sub, nn_m1, nn_div, nn_rem, nn_nz, nn_mod, nJ_l, lN_add, lN_mul, nn_tb1, nI_bt, nn_and, nn_or, nn_xor, nn_shr, nn_1shl, nn_31, il_p, il_n, it_p, it_n, ie_p, ie_n, ie_b, ie_b1, ie_m, ie_mm, it_m, it_m0, il_m0, bI_rZ, Option.bind_some, bd2_some, Nat.add_zero, Nat.zero_add, if_true, if_false, Bool.false_eq_true, eq_self, hI_R, hJ_R, ng_t, ng_e, m6, r1]
    refine srch (fun j => nI j) (fun i => M i 1 == q) n (fun _ => (Sum.inl () : Unit ⊕ Unit)) (Sum.inr ()) rfl (by omega) (fun j hj hx => ?_) (fun j hj hx => ?_) ?_
    · show f_X12_hear_b56 k 113 (nI v) (nI q) (nI a) (nI j) = _
      rw [bd j hj, if_neg (by rw [hx]; decide)]
    · show f_X12_hear_b56 k 113 (nI v) (nI q) (nI a) (nI j) = _
      rw [bd j hj, if_pos hx]
    · simp (disch := first | assumption | omega | decide | ((repeat first | apply lyI | apply lyJ | apply lywI | apply lywJ | apply csI | apply csJ | apply cswI | apply cswJ); assumption)) only [f_X12_hear_b56, SM, LI, ↓li_m1, nI_add, pk_mul, nn_sub, nn_m1, nn_div, nn_rem, nn_nz, nn_mod, nJ_l, lN_add, lN_mul, nn_tb1, nI_bt, nn_and, nn_or, nn_xor, nn_shr, nn_1shl, nn_31, il_p, il_n, it_p, it_n, ie_p, ie_n, ie_b, ie_b1, ie_m, ie_mm, it_m, it_m0, il_m0, bI_rZ, Option.bind_some, bd2_some, Nat.add_zero, Nat.zero_add, if_true, if_false, Bool.false_eq_true, eq_self, hI_R, hJ_R, ng_t, ng_e, m6]
  rcases (Bool.eq_false_or_eq_true (putN M n q)).symm with hp | hp
  · rw [hp] at r8
    obtain ⟨h1, e5, f1, mn1, hr1⟩ := k_enter52 hs hc hw hl hf hm mw hr vb qb ab hp
    have mw1 := mw_add hw mw vb qb ab hp
    have l1 := f1.lay hl
    have fa : FR h (hI h1 0 17 (nI 0)) HCI [] [17] [3] := (f1.mono (by decide) (by decide) (by decide) (by decide)).tr (fr_0 (by decide))
    have f114 : (hI h1 0 17 (nI 0)).2.1 114 = h.2.1 114 := f1.I 114 (by decide) (by decide) (by decide)
    have kl : LAY (hI h1 0 17 (nI 0)) := l1
    have kc : CM (hI h1 0 17 (nI 0)) A P Q := cm_up ro.2.1 (fun k _ _ _ _ => by rw [f114]) (fa.J 115 (by decide))
    have km : MM (hI h1 0 17 (nI 0)) n d M := by
      unfold MM
      rw [f114]
      exact ro.2.2.2.1
    obtain ⟨k1, e6, f2, cm2, mm2, s1, s2⟩ := r_hears kl kc hw km mw (v := v) (q := q) (a := a) mw1.1
    have t7 := r_putToday kl kc hw km mw
    have t8 := rl _ kl km
    have nn : firstB (fun i => M i 1 == q) n = none := firstB_n.mpr (anyB_f.mp hp)
    rw [nn] at t8
    obtain ⟨c0, c1, c2, c3, c4, cA⟩ := cm_e kc
    have l2 := f2.lay kl
    refine ho_mk ko ro (r := nI 1) (w := nI 0) (h1 := h1) (k1 := k1) (n' := n + 1) (d' := d) (M' := adM M n v q a d) (by simp (disch := first | assumption | omega | decide | ((repeat first | apply lyI | apply lyJ | apply lywI | apply lywJ | apply csI | apply csJ | apply cswI | apply cswJ); assumption)) only [f_X11_hear, f_X11_hear_j44, f_X11_below, f_X11_grant, S0, SC, SH52, LI, ↓li_m1, nI_add, pk_mul, nn_sub, nn_m1, nn_div, nn_rem, nn_nz, nn_mod, nJ_l, lN_add, lN_mul, nn_tb1, nI_bt, nn_and, nn_or, nn_xor, nn_shr, nn_1shl, nn_31, il_p, il_n, it_p, it_n, ie_p, ie_n, ie_b, ie_b1, ie_m, ie_mm, it_m, it_m0, il_m0, bI_rZ, Option.bind_some, bd2_some, Nat.add_zero, Nat.zero_add, if_true, if_false, Bool.false_eq_true, eq_self, hI_R, hJ_R, ng_t, ng_e, hn, e4, e3, r7, r8, bI_f, e5]; try rfl) f1 mn1 hr1 mw1 (di_add di (by omega)) hd ?_ f2 cm2 mm2 s1 s2
    simp (disch := first | assumption | omega | decide | ((repeat first | apply lyI | apply lyJ | apply lywI | apply lywJ | apply csI | apply csJ | apply cswI | apply cswJ); assumption)) only [f_X12_hear, f_X12_isWitness, f_X12_isQuestion, f_X12_is, SM, LI, ↓li_m1, nI_add, pk_mul, nn_sub, nn_m1, nn_div, nn_rem, nn_nz, nn_mod, nJ_l, lN_add, lN_mul, nn_tb1, nI_bt, nn_and, nn_or, nn_xor, nn_shr, nn_1shl, nn_31, il_p, il_n, it_p, it_n, ie_p, ie_n, ie_b, ie_b1, ie_m, ie_mm, it_m, it_m0, il_m0, bI_rZ, Option.bind_some, bd2_some, Nat.add_zero, Nat.zero_add, if_true, if_false, Bool.false_eq_true, eq_self, hI_R, hJ_R, ng_t, ng_e, c4, c3, t7, t8, e6]
    try rfl
  · rw [hp] at r8
    refine bad (qo_mk (r := nI 0) (w := nI 7) ro ⟨h, by simp (disch := first | assumption | omega | decide | ((repeat first | apply lyI | apply lyJ | apply lywI | apply lywJ | apply csI | apply csJ | apply cswI | apply cswJ); assumption)) only [f_X11_hear, f_X11_hear_j44, f_X11_below, f_X11_deny, S0, SC, SH52, LI, ↓li_m1, nI_add, pk_mul, nn_sub, nn_m1, nn_div, nn_rem, nn_nz, nn_mod, nJ_l, lN_add, lN_mul, nn_tb1, nI_bt, nn_and, nn_or, nn_xor, nn_shr, nn_1shl, nn_31, il_p, il_n, it_p, it_n, ie_p, ie_n, ie_b, ie_b1, ie_m, ie_mm, it_m, it_m0, il_m0, bI_rZ, Option.bind_some, bd2_some, Nat.add_zero, Nat.zero_add, if_true, if_false, Bool.false_eq_true, eq_self, hI_R, hJ_R, ng_t, ng_e, hn, e4, e3, r7, r8, bI_t]; try rfl, FR.rf⟩ (fun k kl kc km ks => by
      obtain ⟨c0, c1, c2, c3, c4, cA⟩ := cm_e kc
      have t7 := r_putToday kl kc hw km mw
      have t8 := rl k kl km
      cases hy : firstB (fun i => M i 1 == q) n with
      | none =>
        rw [show putN M n q = false from anyB_f.mpr (firstB_n.mp hy)] at hp
        cases hp
      | some y =>
        rw [hy] at t8
        exact ⟨k, by simp (disch := first | assumption | omega | decide | ((repeat first | apply lyI | apply lyJ | apply lywI | apply lywJ | apply csI | apply csJ | apply cswI | apply cswJ); assumption)) only [f_X12_hear, f_X12_isWitness, f_X12_isQuestion, f_X12_is, SM, LI, ↓li_m1, nI_add, pk_mul, nn_sub, nn_m1, nn_div, nn_rem, nn_nz, nn_mod, nJ_l, lN_add, lN_mul, nn_tb1, nI_bt, nn_and, nn_or, nn_xor, nn_shr, nn_1shl, nn_31, il_p, il_n, it_p, it_n, ie_p, ie_n, ie_b, ie_b1, ie_m, ie_mm, it_m, it_m0, il_m0, bI_rZ, Option.bind_some, bd2_some, Nat.add_zero, Nat.zero_add, if_true, if_false, Bool.false_eq_true, eq_self, hI_R, hJ_R, ng_t, ng_e, c4, c3, t7, t8]; try rfl, FR.rf⟩))
