/-! ===== the reference lays its answers ===== -/
theorem r_lay1 {h : aH} (hl : LAY h) {A : Nat → Nat} {P : Nat → Bool} {Q : Nat → Nat → Bool} (hc : CM h A P Q) (hw : WF A) {v w q : Nat} (kk : KN h (knB A P v w)) (hv : v < A 4) (h1 : w < A 2) (hq : q < A 3) : ∃ h', f_X12_laysAnswers_b43 113 (nI v) (nI w) (nI q) h = some (.inl (nI (q + 1), h')) ∧ FR h h' [126] [128] [] [] ∧ (∀ k, k < 4 → h'.2.1 126 (4 * (256 * (12 * v + q) + w) + k) = nI (anS A P Q v q w k)) ∧ ∀ x, x < 4 * (256 * (12 * v + q) + w) ∨ 4 * (256 * (12 * v + q) + w) + 4 ≤ x → h'.2.1 126 x = h.2.1 126 x := by
  obtain ⟨b0, b1, b2l, b2, b3, b4⟩ := wf_b hw
  obtain ⟨c0, c1, c2, c3, c4, cA⟩ := cm_e hc
  have kl := (hw.2.2.2.2.2 v hv).2.2.2
  obtain ⟨g1, e1, f1⟩ := r_honest hl hc hw kk hq
  have l1 := f1.lay hl
  have cg1 := cm_fr f1 (by decide) (by decide) hc
  obtain ⟨g2, e2, f2⟩ := r_other l1 cg1 hw (kn_fr f1 (by decide) kk) hq
  have l2 := f2.lay l1
  have cg2 := cm_fr f2 (by decide) (by decide) cg1
  have r0 := r_ofWitness l1 (v := v) (i := 5) (by omega) (by omega)
  rw [(cm_e cg1).2.2.2.2.2 (76 + 6 * v + 5) (by omega) (by omega)] at r0
  have hl1 := hn_lt (P := P) (Q := Q) (v := v) (w := w) hq
  have hl2 := ot_lt (P := P) (Q := Q) (v := v) (w := w) hq
  have ff : FR h g2 [126] [128] [] [] := (f1.mono (by decide) (by decide) (by decide) (by decide)).tr (f2.mono (by decide) (by decide) (by decide) (by decide))
  have g126 : g2.2.1 126 = h.2.1 126 := by rw [f2.I 126 (by decide) (by decide) (by decide), f1.I 126 (by decide) (by decide) (by decide)]
  have xl := x1_lt hl1
  have fin : ∀ a b, (anS A P Q v q w 0 = a ∧ anS A P Q v q w 1 = b) → ∃ h', some (Sum.inl (nI (q + 1), hI (hI (hI (hI g2 126 (4 * (256 * (12 * v + q) + w) + 2) (nI (otN A P Q v w q))) 126 (4 * (256 * (12 * v + q) + w)) (nI a)) 126 (4 * (256 * (12 * v + q) + w) + 1) (nI b)) 126 (4 * (256 * (12 * v + q) + w) + 3) (nI (2 * q))) : (Int32 × aH) ⊕ aH) = some (.inl (nI (q + 1), h')) ∧ FR h h' [126] [128] [] [] ∧ (∀ k, k < 4 → h'.2.1 126 (4 * (256 * (12 * v + q) + w) + k) = nI (anS A P Q v q w k)) ∧ ∀ x, x < 4 * (256 * (12 * v + q) + w) ∨ 4 * (256 * (12 * v + q) + w) + 4 ≤ x → h'.2.1 126 x = h.2.1 126 x := fun a b hab => by
    refine ⟨_, rfl, (((ff.tr (FR.hI (by decide) (by decide) (by decide))).tr (FR.hI (by decide) (by decide) (by decide))).tr (FR.hI (by decide) (by decide) (by decide))).tr (FR.hI (by decide) (by decide) (by decide)), fun k hk => ?_, fun x hx => ?_⟩
    · rcases lt4 hk with rfl | rfl | rfl | rfl
      · rw [hab.1]
        simp (disch := first | assumption | omega | decide | ((repeat first | apply lyI | apply lyJ | apply lywI | apply lywJ | apply csI | apply csJ | apply cswI | apply cswJ); assumption)) only [rI_eq, rI_ne, rI_nk, rJ_eq, rJ_ne, rJ_nk, rI_J, rJ_I, LI, ↓li_m1, nI_add, pk_mul, nn_sub, nn_m1, nn_div, nn_rem, nn_nz, nn_mod, nJ_l, lN_add, lN_mul, nn_tb1, nI_bt, nn_and, nn_or, nn_xor, nn_shr, nn_1shl, nn_31, il_p, il_n, it_p, it_n, ie_p, ie_n, ie_b, ie_b1, ie_m, ie_mm, it_m, it_m0, il_m0, bI_rZ, Option.bind_some, bd2_some, Nat.add_zero, Nat.zero_add, if_true, if_false, Bool.false_eq_true, eq_self, hI_R, hJ_R, ng_t, ng_e]
      · rw [hab.2]
        simp (disch := first | assumption | omega | decide | ((repeat first | apply lyI | apply lyJ | apply lywI | apply lywJ | apply csI | apply csJ | apply cswI | apply cswJ); assumption)) only [rI_eq, rI_ne, rI_nk, rJ_eq, rJ_ne, rJ_nk, rI_J, rJ_I, LI, ↓li_m1, nI_add, pk_mul, nn_sub, nn_m1, nn_div, nn_rem, nn_nz, nn_mod, nJ_l, lN_add, lN_mul, nn_tb1, nI_bt, nn_and, nn_or, nn_xor, nn_shr, nn_1shl, nn_31, il_p, il_n, it_p, it_n, ie_p, ie_n, ie_b, ie_b1, ie_m, ie_mm, it_m, it_m0, il_m0, bI_rZ, Option.bind_some, bd2_some, Nat.add_zero, Nat.zero_add, if_true, if_false, Bool.false_eq_true, eq_self, hI_R, hJ_R, ng_t, ng_e]
      · rw [show anS A P Q v q w 2 = otN A P Q v w q from rfl]
        simp (disch := first | assumption | omega | decide | ((repeat first | apply lyI | apply lyJ | apply lywI | apply lywJ | apply csI | apply csJ | apply cswI | apply cswJ); assumption)) only [rI_eq, rI_ne, rI_nk, rJ_eq, rJ_ne, rJ_nk, rI_J, rJ_I, LI, ↓li_m1, nI_add, pk_mul, nn_sub, nn_m1, nn_div, nn_rem, nn_nz, nn_mod, nJ_l, lN_add, lN_mul, nn_tb1, nI_bt, nn_and, nn_or, nn_xor, nn_shr, nn_1shl, nn_31, il_p, il_n, it_p, it_n, ie_p, ie_n, ie_b, ie_b1, ie_m, ie_mm, it_m, it_m0, il_m0, bI_rZ, Option.bind_some, bd2_some, Nat.add_zero, Nat.zero_add, if_true, if_false, Bool.false_eq_true, eq_self, hI_R, hJ_R, ng_t, ng_e]
      · rw [show anS A P Q v q w 3 = 2 * q from rfl]
        simp (disch := first | assumption | omega | decide | ((repeat first | apply lyI | apply lyJ | apply lywI | apply lywJ | apply csI | apply csJ | apply cswI | apply cswJ); assumption)) only [rI_eq, rI_ne, rI_nk, rJ_eq, rJ_ne, rJ_nk, rI_J, rJ_I, LI, ↓li_m1, nI_add, pk_mul, nn_sub, nn_m1, nn_div, nn_rem, nn_nz, nn_mod, nJ_l, lN_add, lN_mul, nn_tb1, nI_bt, nn_and, nn_or, nn_xor, nn_shr, nn_1shl, nn_31, il_p, il_n, it_p, it_n, ie_p, ie_n, ie_b, ie_b1, ie_m, ie_mm, it_m, it_m0, il_m0, bI_rZ, Option.bind_some, bd2_some, Nat.add_zero, Nat.zero_add, if_true, if_false, Bool.false_eq_true, eq_self, hI_R, hJ_R, ng_t, ng_e]
    · rw [rI_nk (by omega), rI_nk (by omega), rI_nk (by omega), rI_nk (by omega), g126]
  rcases (Bool.eq_false_or_eq_true ((A (76 + 6 * v + 5)).testBit q)).symm with hb | hb
  · by_cases he : hnN A P Q v w q = 2 * q
    · obtain ⟨h', x1, x2⟩ := fin (hnN A P Q v w q) (2 * q) ⟨by unfold anS; simp [hb], by unfold anS; simp [hb, he]⟩
      refine ⟨h', ?_, x2⟩
      rw [← x1]
      simp (disch := first | assumption | omega | decide | ((repeat first | apply lyI | apply lyJ | apply lywI | apply lywJ | apply csI | apply csJ | apply cswI | apply cswJ); assumption)) only [f_X12_laysAnswers_b43, f_X12_laysAnswers_j95, f_X12_laysAnswers_j136, f_X12_laysAnswers_j180, SM, LI, ↓li_m1, nI_add, pk_mul, nn_sub, nn_m1, nn_div, nn_rem, nn_nz, nn_mod, nJ_l, lN_add, lN_mul, nn_tb1, nI_bt, nn_and, nn_or, nn_xor, nn_shr, nn_1shl, nn_31, il_p, il_n, it_p, it_n, ie_p, ie_n, ie_b, ie_b1, ie_m, ie_mm, it_m, it_m0, il_m0, bI_rZ, Option.bind_some, bd2_some, Nat.add_zero, Nat.zero_add, if_true, if_false, Bool.false_eq_true, eq_self, hI_R, hJ_R, ng_t, ng_e, c3, e1, r0, hb, bI_f, e2, he]
    · obtain ⟨h', x1, x2⟩ := fin (hnN A P Q v w q) (hnN A P Q v w q ^^^ 1) ⟨by unfold anS; simp [hb], by unfold anS; simp [hb, he]⟩
      refine ⟨h', ?_, x2⟩
      rw [← x1]
      simp (disch := first | assumption | omega | decide | ((repeat first | apply lyI | apply lyJ | apply lywI | apply lywJ | apply csI | apply csJ | apply cswI | apply cswJ); assumption)) only [f_X12_laysAnswers_b43, f_X12_laysAnswers_j95, f_X12_laysAnswers_j136, f_X12_laysAnswers_j180, SM, LI, ↓li_m1, nI_add, pk_mul, nn_sub, nn_m1, nn_div, nn_rem, nn_nz, nn_mod, nJ_l, lN_add, lN_mul, nn_tb1, nI_bt, nn_and, nn_or, nn_xor, nn_shr, nn_1shl, nn_31, il_p, il_n, it_p, it_n, ie_p, ie_n, ie_b, ie_b1, ie_m, ie_mm, it_m, it_m0, il_m0, bI_rZ, Option.bind_some, bd2_some, Nat.add_zero, Nat.zero_add, if_true, if_false, Bool.false_eq_true, eq_self, hI_R, hJ_R, ng_t, ng_e, c3, e1, r0, hb, bI_f, e2]
  · obtain ⟨h', x1, x2⟩ := fin (otN A P Q v w q) (otN A P Q v w q) ⟨by unfold anS; simp [hb], by unfold anS; simp [hb]⟩
    refine ⟨h', ?_, x2⟩
    rw [← x1]
    simp (disch := first | assumption | omega | decide | ((repeat first | apply lyI | apply lyJ | apply lywI | apply lywJ | apply csI | apply csJ | apply cswI | apply cswJ); assumption)) only [f_X12_laysAnswers_b43, f_X12_laysAnswers_j95, f_X12_laysAnswers_j136, f_X12_laysAnswers_j180, SM, rI_eq, rI_ne, rI_nk, rJ_eq, rJ_ne, rJ_nk, rI_J, rJ_I, LI, ↓li_m1, nI_add, pk_mul, nn_sub, nn_m1, nn_div, nn_rem, nn_nz, nn_mod, nJ_l, lN_add, lN_mul, nn_tb1, nI_bt, nn_and, nn_or, nn_xor, nn_shr, nn_1shl, nn_31, il_p, il_n, it_p, it_n, ie_p, ie_n, ie_b, ie_b1, ie_m, ie_mm, it_m, it_m0, il_m0, bI_rZ, Option.bind_some, bd2_some, Nat.add_zero, Nat.zero_add, if_true, if_false, Bool.false_eq_true, eq_self, hI_R, hJ_R, ng_t, ng_e, c3, e1, r0, hb, bI_t, e2]
theorem r_lay2 {h : aH} (hl : LAY h) {A : Nat → Nat} {P : Nat → Bool} {Q : Nat → Nat → Bool} (hc : CM h A P Q) (hw : WF A) {v w : Nat} (kk : KN h (knB A P v w)) (hv : v < A 4) (h1 : w < A 2) : ∃ h', f_X12_laysAnswers_l43 113 (nI v) (nI w) (nI 0) h = some h' ∧ FR h h' [126] [128] [] [] ∧ (∀ q k, q < A 3 → k < 4 → h'.2.1 126 (4 * (256 * (12 * v + q) + w) + k) = nI (anS A P Q v q w k)) ∧ ∀ v' q' w' k, w' < 256 → q' < 12 → k < 4 → (v' ≠ v ∨ w' ≠ w) → h'.2.1 126 (4 * (256 * (12 * v' + q') + w') + k) = h.2.1 126 (4 * (256 * (12 * v' + q') + w') + k) := by
  obtain ⟨b0, b1, b2l, b2, b3, b4⟩ := wf_b hw
  obtain ⟨c0, c1, c2, c3, c4, cA⟩ := cm_e hc
  refine forI (fun j (t : Int32 × aH) => ∃ g, t = (nI j, g) ∧ FR h g [126] [128] [] [] ∧ (∀ q k, q < j → k < 4 → g.2.1 126 (4 * (256 * (12 * v + q) + w) + k) = nI (anS A P Q v q w k)) ∧ ∀ v' q' w' k, w' < 256 → q' < 12 → k < 4 → (v' ≠ v ∨ w' ≠ w) → g.2.1 126 (4 * (256 * (12 * v' + q') + w') + k) = h.2.1 126 (4 * (256 * (12 * v' + q') + w') + k)) _ (A 3) (by omega) ⟨h, rfl, FR.rf, fun q k hq => absurd hq (by omega), fun _ _ _ _ _ _ _ _ => rfl⟩ ?_ ?_
  · rintro j _ hj ⟨g, rfl, fg, i1, i2⟩
    obtain ⟨g', e1, f1, j1, j2⟩ := r_lay1 (fg.lay hl) (cm_fr fg (by decide) (by decide) hc) hw (kn_fr fg (by decide) kk) hv h1 hj
    refine ⟨(nI (j + 1), g'), e1, g', rfl, fg.tr f1, fun q k hq hk => ?_, fun v' q' w' k a b c d => ?_⟩
    · by_cases hx : q = j
      · rw [hx]
        exact j1 k hk
      · rw [j2 _ (by omega)]
        exact i1 q k (by omega) hk
    · rw [j2 _ (by omega)]
      exact i2 v' q' w' k a b c d
  · rintro _ ⟨g, rfl, fg, i1, i2⟩
    have lg := fg.lay hl
    obtain ⟨c0, c1, c2, c3, c4, cA⟩ := cm_e (cm_fr fg (by decide) (by decide) hc)
    exact ⟨g, by simp (disch := first | assumption | omega | decide | ((repeat first | apply lyI | apply lyJ | apply lywI | apply lywJ | apply csI | apply csJ | apply cswI | apply cswJ); assumption)) only [f_X12_laysAnswers_b43, SM, LI, ↓li_m1, nI_add, pk_mul, nn_sub, nn_m1, nn_div, nn_rem, nn_nz, nn_mod, nJ_l, lN_add, lN_mul, nn_tb1, nI_bt, nn_and, nn_or, nn_xor, nn_shr, nn_1shl, nn_31, il_p, il_n, it_p, it_n, ie_p, ie_n, ie_b, ie_b1, ie_m, ie_mm, it_m, it_m0, il_m0, bI_rZ, Option.bind_some, bd2_some, Nat.add_zero, Nat.zero_add, if_true, if_false, Bool.false_eq_true, eq_self, hI_R, hJ_R, ng_t, ng_e, c3], fg, i1, i2⟩
theorem r_lay3 {h : aH} (hl : LAY h) {A : Nat → Nat} {P : Nat → Bool} {Q : Nat → Nat → Bool} (hc : CM h A P Q) (hw : WF A) {v : Nat} (hv : v < A 4) (hP : ∀ o, P o = true → o < A 2) : ∃ h', f_X12_laysAnswers_l14 113 (nI v) (nI 0) h = some h' ∧ FR h h' [126] [127, 128] [] [] ∧ (∀ q w k, q < A 3 → w < A 2 → P w = true → k < 4 → h'.2.1 126 (4 * (256 * (12 * v + q) + w) + k) = nI (anS A P Q v q w k)) ∧ ∀ v' q' w' k, w' < 256 → q' < 12 → k < 4 → v' ≠ v → h'.2.1 126 (4 * (256 * (12 * v' + q') + w') + k) = h.2.1 126 (4 * (256 * (12 * v' + q') + w') + k) := by
  obtain ⟨b0, b1, b2l, b2, b3, b4⟩ := wf_b hw
  obtain ⟨c0, c1, c2, c3, c4, cA⟩ := cm_e hc
  refine forI (fun j (t : Int32 × aH) => ∃ g, t = (nI j, g) ∧ FR h g [126] [127, 128] [] [] ∧ (∀ q w k, q < A 3 → w < j → P w = true → k < 4 → g.2.1 126 (4 * (256 * (12 * v + q) + w) + k) = nI (anS A P Q v q w k)) ∧ ∀ v' q' w' k, w' < 256 → q' < 12 → k < 4 → v' ≠ v → g.2.1 126 (4 * (256 * (12 * v' + q') + w') + k) = h.2.1 126 (4 * (256 * (12 * v' + q') + w') + k)) _ (A 2) (by omega) ⟨h, rfl, FR.rf, fun q w k _ hw => absurd hw (by omega), fun _ _ _ _ _ _ _ _ => rfl⟩ ?_ ?_
  · rintro j _ hj ⟨g, rfl, fg, i1, i2⟩
    have lg := fg.lay hl
    have cg := cm_fr fg (by decide) (by decide) hc
    obtain ⟨c0, c1, c2, c3, c4, cA⟩ := cm_e cg
    have r1 := r_poss lg cg (w := j) (by omega)
    rcases (Bool.eq_false_or_eq_true (P j)).symm with hp | hp
    · rw [hp] at r1
      refine ⟨(nI (j + 1), g), by simp (disch := first | assumption | omega | decide | ((repeat first | apply lyI | apply lyJ | apply lywI | apply lywJ | apply csI | apply csJ | apply cswI | apply cswJ); assumption)) only [f_X12_laysAnswers_b14, f_X12_laysAnswers_j199, SM, LI, ↓li_m1, nI_add, pk_mul, nn_sub, nn_m1, nn_div, nn_rem, nn_nz, nn_mod, nJ_l, lN_add, lN_mul, nn_tb1, nI_bt, nn_and, nn_or, nn_xor, nn_shr, nn_1shl, nn_31, il_p, il_n, it_p, it_n, ie_p, ie_n, ie_b, ie_b1, ie_m, ie_mm, it_m, it_m0, il_m0, bI_rZ, Option.bind_some, bd2_some, Nat.add_zero, Nat.zero_add, if_true, if_false, Bool.false_eq_true, eq_self, hI_R, hJ_R, ng_t, ng_e, c2, r1, bI_f], g, rfl, fg, fun q w k hq hw' hpw hk => ?_, i2⟩
      rcases Nat.lt_or_ge w j with u | u
      · exact i1 q w k hq u hpw hk
      · rw [show w = j by omega, hp] at hpw
        cases hpw
    · rw [hp] at r1
      obtain ⟨g1, e1, f1, kn⟩ := r_knows lg cg hw hv hj hP
      obtain ⟨g2, e2, f2, j1, j2⟩ := r_lay2 (f1.lay lg) (cm_fr f1 (by decide) (by decide) cg) hw kn hv hj
      have g126 : g1.2.1 126 = g.2.1 126 := f1.I 126 (by decide) (by decide) (by decide)
      refine ⟨(nI (j + 1), g2), by simp (disch := first | assumption | omega | decide | ((repeat first | apply lyI | apply lyJ | apply lywI | apply lywJ | apply csI | apply csJ | apply cswI | apply cswJ); assumption)) only [f_X12_laysAnswers_b14, f_X12_laysAnswers_j199, SM, LI, ↓li_m1, nI_add, pk_mul, nn_sub, nn_m1, nn_div, nn_rem, nn_nz, nn_mod, nJ_l, lN_add, lN_mul, nn_tb1, nI_bt, nn_and, nn_or, nn_xor, nn_shr, nn_1shl, nn_31, il_p, il_n, it_p, it_n, ie_p, ie_n, ie_b, ie_b1, ie_m, ie_mm, it_m, it_m0, il_m0, bI_rZ, Option.bind_some, bd2_some, Nat.add_zero, Nat.zero_add, if_true, if_false, Bool.false_eq_true, eq_self, hI_R, hJ_R, ng_t, ng_e, c2, r1, bI_t, e1, e2], g2, rfl, (fg.tr (f1.mono (by decide) (by decide) (by decide) (by decide))).tr (f2.mono (by decide) (by decide) (by decide) (by decide)), fun q w k hq hw' hpw hk => ?_, fun v' q' w' k a b c d => ?_⟩
      · by_cases hx : w = j
        · rw [hx]
          exact j1 q k hq hk
        · rw [j2 v q w k (by omega) (by omega) hk (Or.inr hx), g126]
          exact i1 q w k hq (by omega) hpw hk
      · rw [j2 v' q' w' k a b c (Or.inl d), g126]
        exact i2 v' q' w' k a b c d
  · rintro _ ⟨g, rfl, fg, i1, i2⟩
    have lg := fg.lay hl
    obtain ⟨c0, c1, c2, c3, c4, cA⟩ := cm_e (cm_fr fg (by decide) (by decide) hc)
    exact ⟨g, by simp (disch := first | assumption | omega | decide | ((repeat first | apply lyI | apply lyJ | apply lywI | apply lywJ | apply csI | apply csJ | apply cswI | apply cswJ); assumption)) only [f_X12_laysAnswers_b14, SM, LI, ↓li_m1, nI_add, pk_mul, nn_sub, nn_m1, nn_div, nn_rem, nn_nz, nn_mod, nJ_l, lN_add, lN_mul, nn_tb1, nI_bt, nn_and, nn_or, nn_xor, nn_shr, nn_1shl, nn_31, il_p, il_n, it_p, it_n, ie_p, ie_n, ie_b, ie_b1, ie_m, ie_mm, it_m, it_m0, il_m0, bI_rZ, Option.bind_some, bd2_some, Nat.add_zero, Nat.zero_add, if_true, if_false, Bool.false_eq_true, eq_self, hI_R, hJ_R, ng_t, ng_e, c2], fg, i1, i2⟩
theorem r_lays {h : aH} (hl : LAY h) {A : Nat → Nat} {P : Nat → Bool} {Q : Nat → Nat → Bool} (hc : CM h A P Q) (hw : WF A) (hP : ∀ o, P o = true → o < A 2) : ∃ h', f_X12_laysAnswers h 113 = some h' ∧ FR h h' [126] [127, 128] [] [] ∧ SY h' A P (anS A P Q) := by
  obtain ⟨b0, b1, b2l, b2, b3, b4⟩ := wf_b hw
  obtain ⟨c0, c1, c2, c3, c4, cA⟩ := cm_e hc
  have e : ∃ h', f_X12_laysAnswers_l2 113 (nI 0) h = some h' ∧ FR h h' [126] [127, 128] [] [] ∧ ∀ v q w k, v < A 4 → q < A 3 → w < A 2 → P w = true → k < 4 → h'.2.1 126 (4 * (256 * (12 * v + q) + w) + k) = nI (anS A P Q v q w k) := by
    refine forI (fun j (t : Int32 × aH) => ∃ g, t = (nI j, g) ∧ FR h g [126] [127, 128] [] [] ∧ ∀ v q w k, v < j → q < A 3 → w < A 2 → P w = true → k < 4 → g.2.1 126 (4 * (256 * (12 * v + q) + w) + k) = nI (anS A P Q v q w k)) _ (A 4) (by omega) ⟨h, rfl, FR.rf, fun v q w k hv => absurd hv (by omega)⟩ ?_ ?_
    · rintro j _ hj ⟨g, rfl, fg, i1⟩
      have lg := fg.lay hl
      have cg := cm_fr fg (by decide) (by decide) hc
      obtain ⟨c0, c1, c2, c3, c4, cA⟩ := cm_e cg
      obtain ⟨g1, e1, f1, j1, j2⟩ := r_lay3 lg cg hw hj hP
      refine ⟨(nI (j + 1), g1), by simp (disch := first | assumption | omega | decide | ((repeat first | apply lyI | apply lyJ | apply lywI | apply lywJ | apply csI | apply csJ | apply cswI | apply cswJ); assumption)) only [f_X12_laysAnswers_b2, SM, LI, ↓li_m1, nI_add, pk_mul, nn_sub, nn_m1, nn_div, nn_rem, nn_nz, nn_mod, nJ_l, lN_add, lN_mul, nn_tb1, nI_bt, nn_and, nn_or, nn_xor, nn_shr, nn_1shl, nn_31, il_p, il_n, it_p, it_n, ie_p, ie_n, ie_b, ie_b1, ie_m, ie_mm, it_m, it_m0, il_m0, bI_rZ, Option.bind_some, bd2_some, Nat.add_zero, Nat.zero_add, if_true, if_false, Bool.false_eq_true, eq_self, hI_R, hJ_R, ng_t, ng_e, c4, e1], g1, rfl, fg.tr f1, fun v q w k hv hq h1 hp hk => ?_⟩
      by_cases hx : v = j
      · rw [hx]
        exact j1 q w k hq h1 hp hk
      · rw [j2 v q w k (by omega) (by omega) hk hx]
        exact i1 v q w k (by omega) hq h1 hp hk
    · rintro _ ⟨g, rfl, fg, i1⟩
      have lg := fg.lay hl
      obtain ⟨c0, c1, c2, c3, c4, cA⟩ := cm_e (cm_fr fg (by decide) (by decide) hc)
      exact ⟨g, by simp (disch := first | assumption | omega | decide | ((repeat first | apply lyI | apply lyJ | apply lywI | apply lywJ | apply csI | apply csJ | apply cswI | apply cswJ); assumption)) only [f_X12_laysAnswers_b2, SM, LI, ↓li_m1, nI_add, pk_mul, nn_sub, nn_m1, nn_div, nn_rem, nn_nz, nn_mod, nJ_l, lN_add, lN_mul, nn_tb1, nI_bt, nn_and, nn_or, nn_xor, nn_shr, nn_1shl, nn_31, il_p, il_n, it_p, it_n, ie_p, ie_n, ie_b, ie_b1, ie_m, ie_mm, it_m, it_m0, il_m0, bI_rZ, Option.bind_some, bd2_some, Nat.add_zero, Nat.zero_add, if_true, if_false, Bool.false_eq_true, eq_self, hI_R, hJ_R, ng_t, ng_e, c4], fg, i1⟩
  obtain ⟨g, e1, f1, i1⟩ := e
  exact ⟨g, by simp (disch := first | assumption | omega | decide | ((repeat first | apply lyI | apply lyJ | apply lywI | apply lywJ | apply csI | apply csJ | apply cswI | apply cswJ); assumption)) only [f_X12_laysAnswers, LI, ↓li_m1, nI_add, pk_mul, nn_sub, nn_m1, nn_div, nn_rem, nn_nz, nn_mod, nJ_l, lN_add, lN_mul, nn_tb1, nI_bt, nn_and, nn_or, nn_xor, nn_shr, nn_1shl, nn_31, il_p, il_n, it_p, it_n, ie_p, ie_n, ie_b, ie_b1, ie_m, ie_mm, it_m, it_m0, il_m0, bI_rZ, Option.bind_some, bd2_some, Nat.add_zero, Nat.zero_add, if_true, if_false, Bool.false_eq_true, eq_self, hI_R, hJ_R, ng_t, ng_e, e1], f1, fun v q w k hv hq h1 hp hk => ⟨i1 v q w k hv hq h1 hp hk, an_lt hq⟩⟩
