/-! ===== the reference draws ===== -/
theorem lcmp_pos {a b : Nat} (ha : a < 2 ^ 63) (hb : b < 2 ^ 63) : (nI 0 < lg_cmp (lN a) (lN b)) ↔ b < a := by
  unfold lg_cmp
  by_cases h : b < a
  · rw [if_pos ((pk_lLT hb ha).mpr h)]
    exact ⟨fun _ => h, fun _ => by decide⟩
  · rw [if_neg (fun e => h ((pk_lLT hb ha).mp e))]
    by_cases h2 : a = b
    · rw [if_pos (congrArg lN h2)]
      exact ⟨fun e => absurd e (by decide), fun e => absurd e h⟩
    · rw [if_neg (fun e => h2 ((pk_lEQ ha hb).mp e))]
      exact ⟨fun e => absurd e (by decide), fun e => absurd e h⟩
theorem r_sum {h : aH} (hl : LAY h) {A : Nat → Nat} {P : Nat → Bool} {Q : Nat → Nat → Bool} (hc : CM h A P Q) (hw : WF A) : f_X12_drawsTruth_l4 h 113 (lN 0) (nI 0) = some (lN (sumN (wgN A P) (A 2))) := by
  obtain ⟨b0, b1, b2l, b2, b3, b4⟩ := wf_b hw
  obtain ⟨c0, c1, c2, c3, c4, cA⟩ := cm_e hc
  refine for0 (body := fun zz : Int64 × Int32 => f_X12_drawsTruth_b4 h 113 zz.1 zz.2) (fun j => (lN (sumN (wgN A P) j), nI j)) (A 2) (e := lN (sumN (wgN A P) (A 2))) (rfl) (by omega) (fun j hj => ?_) ?_
  · have r1 := r_poss hl hc (w := j) (by omega)
    have r2 := r_weightOf hl hc hw hj
    have nx : sumN (wgN A P) (j + 1) = sumN (wgN A P) j + wgN A P j := rfl
    cases hp : P j
    · rw [hp] at r1
      have z : wgN A P j = 0 := by unfold wgN; rw [hp]; rfl
      simp (disch := first | assumption | omega | decide | ((repeat first | apply lyI | apply lyJ | apply lywI | apply lywJ | apply csI | apply csJ | apply cswI | apply cswJ); assumption)) only [f_X12_drawsTruth_b4, f_X12_drawsTruth_j32, f_X12_drawsTruth_j87, SM, LI, ↓li_m1, nI_add, pk_mul, nn_sub, nn_m1, nn_div, nn_rem, nn_nz, nn_mod, nJ_l, lN_add, lN_mul, nn_tb1, nI_bt, nn_and, nn_or, nn_xor, nn_shr, nn_1shl, nn_31, il_p, il_n, it_p, it_n, ie_p, ie_n, ie_b, ie_b1, ie_m, ie_mm, it_m, it_m0, il_m0, bI_rZ, Option.bind_some, bd2_some, Nat.add_zero, Nat.zero_add, if_true, if_false, Bool.false_eq_true, eq_self, hI_R, hJ_R, ng_t, ng_e, c2, r1, bI_f, LJ, nx, z]
    · rw [hp] at r1
      have z : wgN A P j = wtN A j := by unfold wgN; rw [hp]; rfl
      simp (disch := first | assumption | omega | decide | ((repeat first | apply lyI | apply lyJ | apply lywI | apply lywJ | apply csI | apply csJ | apply cswI | apply cswJ); assumption)) only [f_X12_drawsTruth_b4, f_X12_drawsTruth_j32, f_X12_drawsTruth_j87, SM, LI, ↓li_m1, nI_add, pk_mul, nn_sub, nn_m1, nn_div, nn_rem, nn_nz, nn_mod, nJ_l, lN_add, lN_mul, nn_tb1, nI_bt, nn_and, nn_or, nn_xor, nn_shr, nn_1shl, nn_31, il_p, il_n, it_p, it_n, ie_p, ie_n, ie_b, ie_b1, ie_m, ie_mm, it_m, it_m0, il_m0, bI_rZ, Option.bind_some, bd2_some, Nat.add_zero, Nat.zero_add, if_true, if_false, Bool.false_eq_true, eq_self, hI_R, hJ_R, ng_t, ng_e, c2, r1, bI_t, r2, LJ, nx, z]
  · simp (disch := first | assumption | omega | decide | ((repeat first | apply lyI | apply lyJ | apply lywI | apply lywJ | apply csI | apply csJ | apply cswI | apply cswJ); assumption)) only [f_X12_drawsTruth_b4, f_X12_drawsTruth_j32, f_X12_drawsTruth_j87, SM, LI, ↓li_m1, nI_add, pk_mul, nn_sub, nn_m1, nn_div, nn_rem, nn_nz, nn_mod, nJ_l, lN_add, lN_mul, nn_tb1, nI_bt, nn_and, nn_or, nn_xor, nn_shr, nn_1shl, nn_31, il_p, il_n, it_p, it_n, ie_p, ie_n, ie_b, ie_b1, ie_m, ie_mm, it_m, it_m0, il_m0, bI_rZ, Option.bind_some, bd2_some, Nat.add_zero, Nat.zero_add, if_true, if_false, Bool.false_eq_true, eq_self, hI_R, hJ_R, ng_t, ng_e, c2]
theorem r_truth1 {h : aH} (hl : LAY h) {A : Nat → Nat} {P : Nat → Bool} {Q : Nat → Nat → Bool} (hc : CM h A P Q) (hw : WF A) {d : Nat} (hd : d < sumN (wgN A P) (A 2)) : ∃ h', f_X12_drawsTruth_l52 113 (nI d) (lN 0) (nI 0) h = some h' ∧ FR h h' [] [] [] [40] ∧ h'.2.1 113 40 = nI (fab (wgN A P) d (A 2)) := by
  obtain ⟨b0, b1, b2l, b2, b3, b4⟩ := wf_b hw
  obtain ⟨c0, c1, c2, c3, c4, cA⟩ := cm_e hc
  have wl := wg_sum hw (P := P) (A 2)
  obtain ⟨i0, h1, h2, h3, h4⟩ := fab_ex hd
  rw [h2]
  refine whl0 (fun j (t : Int64 × Int32 × aH) => ∃ g, t = (lN (sumN (wgN A P) j), nI j, g) ∧ FR h g [] [] [] [40] ∧ (j = i0 + 1 → g.2.1 113 40 = nI i0)) _ (i0 + 1) (by omega) ⟨h, rfl, FR.rf, fun e => absurd e (by omega)⟩ ?_
  rintro j _ ⟨g, rfl, fg, i1⟩ hj
  have lg := fg.lay hl
  have cg := cm_fr fg (by decide) (by decide) hc
  have m1' := sum_mono (f := wgN A P) (show j ≤ A 2 by omega)
  have cp := lcmp_pos (a := sumN (wgN A P) j) (b := d) (by omega) (by omega)
  rcases Nat.lt_or_ge j (i0 + 1) with u | u
  · have m2 := sum_mono (f := wgN A P) (show j ≤ i0 by omega)
    have z : ¬ nI 0 < lg_cmp (lN (sumN (wgN A P) j)) (lN d) := fun e => by
      have := cp.mp e
      omega
    have r1 := r_poss (h := hI g 113 40 (nI j)) lg cg (w := j) (by omega)
    have r2 := r_weightOf (h := hI g 113 40 (nI j)) lg cg hw (w := j) (by omega)
    have nx : sumN (wgN A P) (j + 1) = sumN (wgN A P) j + wgN A P j := rfl
    refine Or.inl ⟨(lN (sumN (wgN A P) (j + 1)), nI (j + 1), hI g 113 40 (nI j)), ?_, u, _, rfl, fg.tr (fr_1 (by decide)), fun e => by rw [rI_eq, show j = i0 by omega]⟩
    cases hp : P j
    · rw [hp] at r1
      have z2 : wgN A P j = 0 := by unfold wgN; rw [hp]; rfl
      simp (disch := first | assumption | omega | decide | ((repeat first | apply lyI | apply lyJ | apply lywI | apply lywJ | apply csI | apply csJ | apply cswI | apply cswJ); assumption)) only [f_X12_drawsTruth_b52, f_X12_drawsTruth_j32, f_X12_drawsTruth_j87, SM, LI, ↓li_m1, nI_add, pk_mul, nn_sub, nn_m1, nn_div, nn_rem, nn_nz, nn_mod, nJ_l, lN_add, lN_mul, nn_tb1, nI_bt, nn_and, nn_or, nn_xor, nn_shr, nn_1shl, nn_31, il_p, il_n, it_p, it_n, ie_p, ie_n, ie_b, ie_b1, ie_m, ie_mm, it_m, it_m0, il_m0, bI_rZ, Option.bind_some, bd2_some, Nat.add_zero, Nat.zero_add, if_true, if_false, Bool.false_eq_true, eq_self, hI_R, hJ_R, ng_t, ng_e, if_neg z, r1, bI_f, LJ, nx, z2]
    · rw [hp] at r1
      have z2 : wgN A P j = wtN A j := by unfold wgN; rw [hp]; rfl
      simp (disch := first | assumption | omega | decide | ((repeat first | apply lyI | apply lyJ | apply lywI | apply lywJ | apply csI | apply csJ | apply cswI | apply cswJ); assumption)) only [f_X12_drawsTruth_b52, f_X12_drawsTruth_j32, f_X12_drawsTruth_j87, SM, LI, ↓li_m1, nI_add, pk_mul, nn_sub, nn_m1, nn_div, nn_rem, nn_nz, nn_mod, nJ_l, lN_add, lN_mul, nn_tb1, nI_bt, nn_and, nn_or, nn_xor, nn_shr, nn_1shl, nn_31, il_p, il_n, it_p, it_n, ie_p, ie_n, ie_b, ie_b1, ie_m, ie_mm, it_m, it_m0, il_m0, bI_rZ, Option.bind_some, bd2_some, Nat.add_zero, Nat.zero_add, if_true, if_false, Bool.false_eq_true, eq_self, hI_R, hJ_R, ng_t, ng_e, if_neg z, r1, bI_t, r2, LJ, nx, z2]
  · obtain rfl : j = i0 + 1 := by omega
    have z : nI 0 < lg_cmp (lN (sumN (wgN A P) (i0 + 1))) (lN d) := cp.mpr h3
    exact Or.inr ⟨g, by simp (disch := first | assumption | omega | decide | ((repeat first | apply lyI | apply lyJ | apply lywI | apply lywJ | apply csI | apply csJ | apply cswI | apply cswJ); assumption)) only [f_X12_drawsTruth_b52, f_X12_drawsTruth_j32, f_X12_drawsTruth_j87, SM, LI, ↓li_m1, nI_add, pk_mul, nn_sub, nn_m1, nn_div, nn_rem, nn_nz, nn_mod, nJ_l, lN_add, lN_mul, nn_tb1, nI_bt, nn_and, nn_or, nn_xor, nn_shr, nn_1shl, nn_31, il_p, il_n, it_p, it_n, ie_p, ie_n, ie_b, ie_b1, ie_m, ie_mm, it_m, it_m0, il_m0, bI_rZ, Option.bind_some, bd2_some, Nat.add_zero, Nat.zero_add, if_true, if_false, Bool.false_eq_true, eq_self, hI_R, hJ_R, ng_t, ng_e, if_pos z], fg, i1 rfl⟩
theorem r_kind1 {h : aH} (hl : LAY h) {A : Nat → Nat} {P : Nat → Bool} {Q : Nat → Nat → Bool} (hc : CM h A P Q) (hw : WF A) {v e : Nat} (hv : v < A 4) (he : e < 16) : f_X12_drawsTruth_l122 h 113 (nI v) (nI e) (nI 0) = some (nI (fab (fun k => A (76 + 6 * v + k)) e 4)) := by
  obtain ⟨b0, b1, b2l, b2, b3, b4⟩ := wf_b hw
  obtain ⟨c0, c1, c2, c3, c4, cA⟩ := cm_e hc
  have s16 := (hw.2.2.2.2.2 v hv).2.1
  have s4 := (hw.2.2.2.2.2 v hv).1
  obtain ⟨i0, h1, h2, h3, h4⟩ := fab_ex (f := fun k => A (76 + 6 * v + k)) (d := e) (n := 4) (by omega)
  rw [h2]
  have : ∃ x, f_X12_drawsTruth_l122 h 113 (nI v) (nI e) (nI 0) = some x ∧ x = nI i0 := by
    refine whl0 (fun j (t : Int32 × Int32) => t = (nI (e - sumN (fun k => A (76 + 6 * v + k)) j), nI j)) _ i0 (by omega) rfl ?_
    rintro j _ rfl hj
    have r := r_ofWitness hl (v := v) (i := j) (by omega) (by omega)
    rw [cA (76 + 6 * v + j) (by omega) (by omega)] at r
    have q := s4 j (by omega)
    have nx : sumN (fun k => A (76 + 6 * v + k)) (j + 1) = sumN (fun k => A (76 + 6 * v + k)) j + A (76 + 6 * v + j) := rfl
    rcases Nat.lt_or_ge j i0 with u | u
    · have m2 := sum_mono (f := fun k => A (76 + 6 * v + k)) (show j + 1 ≤ i0 by omega)
      refine Or.inl ⟨_, ?_, u, rfl⟩
      rw [nx, Nat.sub_add_eq]
      simp (disch := first | assumption | omega | decide | ((repeat first | apply lyI | apply lyJ | apply lywI | apply lywJ | apply csI | apply csJ | apply cswI | apply cswJ); assumption)) only [f_X12_drawsTruth_b122, SM, LI, ↓li_m1, nI_add, pk_mul, nn_sub, nn_m1, nn_div, nn_rem, nn_nz, nn_mod, nJ_l, lN_add, lN_mul, nn_tb1, nI_bt, nn_and, nn_or, nn_xor, nn_shr, nn_1shl, nn_31, il_p, il_n, it_p, it_n, ie_p, ie_n, ie_b, ie_b1, ie_m, ie_mm, it_m, it_m0, il_m0, bI_rZ, Option.bind_some, bd2_some, Nat.add_zero, Nat.zero_add, if_true, if_false, Bool.false_eq_true, eq_self, hI_R, hJ_R, ng_t, ng_e, r]
    · obtain rfl : j = i0 := by omega
      refine Or.inr ⟨nI j, ?_, rfl⟩
      simp (disch := first | assumption | omega | decide | ((repeat first | apply lyI | apply lyJ | apply lywI | apply lywJ | apply csI | apply csJ | apply cswI | apply cswJ); assumption)) only [f_X12_drawsTruth_b122, SM, LI, ↓li_m1, nI_add, pk_mul, nn_sub, nn_m1, nn_div, nn_rem, nn_nz, nn_mod, nJ_l, lN_add, lN_mul, nn_tb1, nI_bt, nn_and, nn_or, nn_xor, nn_shr, nn_1shl, nn_31, il_p, il_n, it_p, it_n, ie_p, ie_n, ie_b, ie_b1, ie_m, ie_mm, it_m, it_m0, il_m0, bI_rZ, Option.bind_some, bd2_some, Nat.add_zero, Nat.zero_add, if_true, if_false, Bool.false_eq_true, eq_self, hI_R, hJ_R, ng_t, ng_e, r]
  obtain ⟨_, x1, rfl⟩ := this
  exact x1
theorem r_truth {h : aH} (hl : LAY h) {A : Nat → Nat} {P : Nat → Bool} {Q : Nat → Nat → Bool} (hc : CM h A P Q) (hw : WF A) (hp : cntB P (A 2) ≠ 0) {seed : Nat} (hseed : seed < 65536) (es : h.2.1 113 39 = nI seed) : ∃ h', f_X12_drawsTruth h 113 = some h' ∧ FR h h' [132] [] [] [39, 40] ∧ h'.2.1 113 40 = nI (trN A P seed) ∧ ∀ v, v < A 4 → h'.2.1 132 v = nI (tkN A seed v) := by
  obtain ⟨b0, b1, b2l, b2, b3, b4⟩ := wf_b hw
  obtain ⟨c0, c1, c2, c3, c4, cA⟩ := cm_e hc
  have wp := wg_pos hw hp
  have wl := wg_sum hw (P := P) (A 2)
  have r1 := r_sum hl hc hw
  have r2 := r_draw hl hseed es wp (by omega)
  have l1 : LAY (hI h 113 39 (nI (drN seed))) := hl
  have c1' : CM (hI h 113 39 (nI (drN seed))) A P Q := hc
  obtain ⟨g1, e1, f1, t1⟩ := r_truth1 (h := hI h 113 39 (nI (drN seed))) hl hc hw (d := drN seed / 8 % sumN (wgN A P) (A 2)) (Nat.mod_lt _ wp)
  have f0 : FR h g1 [132] [] [] [39, 40] := (fr_1 (by decide)).tr (f1.mono (by decide) (by decide) (by decide) (by decide))
  have x39 : g1.2.1 113 39 = nI (drI seed 1) := by
    rw [f1.2.2.2.2.2 39 (by decide), rI_eq]
    rfl
  have e : ∃ h', f_X12_drawsTruth_l99 113 (nI 0) g1 = some h' ∧ FR h h' [132] [] [] [39, 40] ∧ h'.2.1 113 40 = nI (trN A P seed) ∧ ∀ v, v < A 4 → h'.2.1 132 v = nI (tkN A seed v) := by
    refine forI (fun j (t : Int32 × aH) => ∃ g, t = (nI j, g) ∧ FR h g [132] [] [] [39, 40] ∧ g.2.1 113 40 = nI (trN A P seed) ∧ g.2.1 113 39 = nI (drI seed (j + 1)) ∧ ∀ v, v < j → g.2.1 132 v = nI (tkN A seed v)) _ (A 4) (by omega) ⟨g1, rfl, f0, t1, x39, fun v hv => absurd hv (by omega)⟩ ?_ ?_
    · rintro j _ hj ⟨g, rfl, fg, i1, i2, i3⟩
      have lg := fg.lay hl
      have cg := cm_fr fg (by decide) (by decide) hc
      obtain ⟨c0, c1, c2, c3, c4, cA⟩ := cm_e cg
      have q1 : f_X12_draw g 113 (lN 16) = some (nI (drI seed (j + 2) / 8 % 16), hI g 113 39 (nI (drI seed (j + 2)))) := r_draw lg (drI_lt hseed (j + 1)) i2 (by decide) (by decide)
      have q1' : f_X12_draw g 113 (16 : Int64) = some (nI (drI seed (j + 2) / 8 % 16), hI g 113 39 (nI (drI seed (j + 2)))) := q1
      have q2 := r_kind1 (h := hI g 113 39 (nI (drI seed (j + 2)))) lg cg hw hj (e := drI seed (j + 2) / 8 % 16) (Nat.mod_lt _ (by decide))
      have q2' : f_X12_drawsTruth_l122 (hI g 113 39 (nI (drI seed (j + 2)))) 113 (nI j) (nI (drI seed (j + 2) / 8 % 16)) (nI 0) = some (nI (tkN A seed j)) := q2
      refine ⟨(nI (j + 1), hI (hI g 113 39 (nI (drI seed (j + 2)))) 132 j (nI (tkN A seed j))), by simp (disch := first | assumption | omega | decide | ((repeat first | apply lyI | apply lyJ | apply lywI | apply lywJ | apply csI | apply csJ | apply cswI | apply cswJ); assumption)) only [f_X12_drawsTruth_b99, f_X12_drawsTruth_j32, f_X12_drawsTruth_j87, SM, LI, ↓li_m1, nI_add, pk_mul, nn_sub, nn_m1, nn_div, nn_rem, nn_nz, nn_mod, nJ_l, lN_add, lN_mul, nn_tb1, nI_bt, nn_and, nn_or, nn_xor, nn_shr, nn_1shl, nn_31, il_p, il_n, it_p, it_n, ie_p, ie_n, ie_b, ie_b1, ie_m, ie_mm, it_m, it_m0, il_m0, bI_rZ, Option.bind_some, bd2_some, Nat.add_zero, Nat.zero_add, if_true, if_false, Bool.false_eq_true, eq_self, hI_R, hJ_R, ng_t, ng_e, c4, q1', q2'], _, rfl, (fg.tr (fr_1 (by decide))).tr (FR.hI (by decide) (by decide) (by decide)), ?_, ?_, fun v hv => ?_⟩
      · rw [rI_ne (by decide), rI_nk (by decide)]
        exact i1
      · rw [rI_ne (by decide), rI_eq]
      · by_cases hx : v = j
        · subst hx
          rw [rI_eq]
        · rw [rI_nk hx, rI_ne (by decide)]
          exact i3 v (by omega)
    · rintro _ ⟨g, rfl, fg, i1, i2, i3⟩
      have lg := fg.lay hl
      obtain ⟨c0, c1, c2, c3, c4, cA⟩ := cm_e (cm_fr fg (by decide) (by decide) hc)
      exact ⟨g, by simp (disch := first | assumption | omega | decide | ((repeat first | apply lyI | apply lyJ | apply lywI | apply lywJ | apply csI | apply csJ | apply cswI | apply cswJ); assumption)) only [f_X12_drawsTruth_b99, f_X12_drawsTruth_j32, f_X12_drawsTruth_j87, SM, LI, ↓li_m1, nI_add, pk_mul, nn_sub, nn_m1, nn_div, nn_rem, nn_nz, nn_mod, nJ_l, lN_add, lN_mul, nn_tb1, nI_bt, nn_and, nn_or, nn_xor, nn_shr, nn_1shl, nn_31, il_p, il_n, it_p, it_n, ie_p, ie_n, ie_b, ie_b1, ie_m, ie_mm, it_m, it_m0, il_m0, bI_rZ, Option.bind_some, bd2_some, Nat.add_zero, Nat.zero_add, if_true, if_false, Bool.false_eq_true, eq_self, hI_R, hJ_R, ng_t, ng_e, c4], fg, i1, i3⟩
  obtain ⟨h', e5, f5, i5⟩ := e
  exact ⟨h', by simp (disch := first | assumption | omega | decide | ((repeat first | apply lyI | apply lyJ | apply lywI | apply lywJ | apply csI | apply csJ | apply cswI | apply cswJ); assumption)) only [f_X12_drawsTruth, SM, LI, ↓li_m1, nI_add, pk_mul, nn_sub, nn_m1, nn_div, nn_rem, nn_nz, nn_mod, nJ_l, lN_add, lN_mul, nn_tb1, nI_bt, nn_and, nn_or, nn_xor, nn_shr, nn_1shl, nn_31, il_p, il_n, it_p, it_n, ie_p, ie_n, ie_b, ie_b1, ie_m, ie_mm, it_m, it_m0, il_m0, bI_rZ, Option.bind_some, bd2_some, Nat.add_zero, Nat.zero_add, if_true, if_false, Bool.false_eq_true, eq_self, hI_R, hJ_R, ng_t, ng_e, LJ, r1, r2, e1, e5], f5, i5⟩
