/-! ===== the class fills its answers ===== -/
/-- kept where only the answers' row of the case is written -/
theorem cb_a {h h' : aH} {c : Nat} {A : Nat → Nat} {P : Nat → Bool} {Q : Nat → Nat → Bool} {L : List Nat} (hf : FR h h' L [] [] []) (h1 : ∀ x ∈ L, x = c + 15 ∨ (42 ≤ x ∧ x < 136)) (hs : CS h c) (hc : CB h c A P Q) : CB h' c A P Q := cb_up (fun j hj => hf.I (c + j) (fun hm => by
  have := h1 _ hm
  have := hs.1
  omega) (by have := hs.1; omega) (by have := hs.1; omega)) hc
theorem ca_ne {h : aH} {c : Nat} (hs : CS h c) : c + 15 ≠ 0 ∧ c + 15 ≠ 113 ∧ ∀ x, 43 ≤ x → x ≤ 47 → x ≠ c + 15 := by
  have := hs.1
  exact ⟨by omega, by omega, fun x _ _ => by omega⟩
theorem rs_a {h h' : aH} {c : Nat} {A : Nat → Nat} {P : Nat → Bool} {Q : Nat → Nat → Bool} (hf : FR h h' [c + 15] [] [] []) (hs : CS h c) {j : Nat} (rs : RS h A P Q j) : RS h' A P Q j := by
  have e := (ca_ne hs).2.2
  unfold RS
  rw [hf.I 43 (by have := e 43 (by decide) (by decide); simp; omega) (by decide) (by decide), hf.I 46 (by have := e 46 (by decide) (by decide); simp; omega) (by decide) (by decide), hf.I 47 (by have := e 47 (by decide) (by decide); simp; omega) (by decide) (by decide)]
  exact rs
theorem gk_a {h h' : aH} {c : Nat} {A : Nat → Nat} {P : Nat → Bool} {Q : Nat → Nat → Bool} (hf : FR h h' [c + 15] [] [] []) (hs : CS h c) {v j : Nat} (gk : GK h A P Q v j) : GK h' A P Q v j := by
  have e := (ca_ne hs).2.2
  unfold GK
  rw [hf.I 44 (by have := e 44 (by decide) (by decide); simp; omega) (by decide) (by decide), hf.I 45 (by have := e 45 (by decide) (by decide); simp; omega) (by decide) (by decide)]
  exact gk
theorem b_fill2 {h : aH} {c : Nat} (hs : CS h c) {A : Nat → Nat} {P : Nat → Bool} {Q : Nat → Nat → Bool} (hc : CB h c A P Q) (hw : WF A) (hl : LAY h) (wp : WP A P Q) (rs : RS h A P Q (A 2)) {v w : Nat} (gk : GK h A P Q v (A 2)) (hv : v < A 4) (h1 : w < A 2) : ∃ h', f_X0_fillWorld h 43 c (nI v) (nI w) = some h' ∧ FR h h' [c + 15] [] [] [] ∧ (∀ q, q < A 3 → h'.2.1 (c + 15) ((v * 12 + q) * 256 + w) = nI (pk5 (anS A P Q v q w))) ∧ ∀ v' q' w', w' < 256 → q' < 12 → (v' ≠ v ∨ w' ≠ w) → h'.2.1 (c + 15) ((v' * 12 + q') * 256 + w') = h.2.1 (c + 15) ((v' * 12 + q') * 256 + w') := by
  obtain ⟨b0, b1, b2l, b2, b3, b4⟩ := wf_b hw
  obtain ⟨n0, n1, n2⟩ := ca_ne hs
  have e3 := hc.1.2.2.2.2.1
  have kl := ki_lt hw wp.1 (v := v) (w := w)
  have r1 := b_known hs hc hw wp.1 hv h1
  obtain ⟨k1, k2⟩ := gk (kiN A v w (A 0)) (by omega)
  have e : ∃ h', f_X0_fillWorld_l43 43 c (nI v) (nI w) (nI (kiN A v w (A 0))) (nI (sgN A P Q v (kiN A v w (A 0)))) (nI 0) h = some h' ∧ FR h h' [c + 15] [] [] [] ∧ (∀ q, q < A 3 → h'.2.1 (c + 15) ((v * 12 + q) * 256 + w) = nI (pk5 (anS A P Q v q w))) ∧ ∀ v' q' w', w' < 256 → q' < 12 → (v' ≠ v ∨ w' ≠ w) → h'.2.1 (c + 15) ((v' * 12 + q') * 256 + w') = h.2.1 (c + 15) ((v' * 12 + q') * 256 + w') := by
    refine forI (fun j (t : Int32 × aH) => ∃ g, t = (nI j, g) ∧ FR h g [c + 15] [] [] [] ∧ (∀ q, q < j → g.2.1 (c + 15) ((v * 12 + q) * 256 + w) = nI (pk5 (anS A P Q v q w))) ∧ ∀ v' q' w', w' < 256 → q' < 12 → (v' ≠ v ∨ w' ≠ w) → g.2.1 (c + 15) ((v' * 12 + q') * 256 + w') = h.2.1 (c + 15) ((v' * 12 + q') * 256 + w')) _ (A 3) (by omega) ⟨h, rfl, FR.rf, fun q hq => absurd hq (by omega), fun _ _ _ _ _ _ => rfl⟩ ?_ ?_
    · rintro j _ hj ⟨g, rfl, fg, i1, i2⟩
      have e1 := b_fill1 (cs_fr fg hs) (cb_a fg (by simp) hs hc) hw (fg.lay hl) wp (rs_a fg hs rs) (gk_a fg hs gk) hv h1 hj
      refine ⟨_, e1, _, rfl, fg.tr (FR.hI (List.mem_singleton.mpr rfl) n0 n1), fun q hq => ?_, fun v' q' w' a b d => ?_⟩
      · by_cases hx : q = j
        · subst hx
          rw [rI_eq]
        · rw [rI_nk (by omega)]
          exact i1 q (by omega)
      · rw [rI_nk (by omega)]
        exact i2 v' q' w' a b d
    · rintro _ ⟨g, rfl, fg, i1, i2⟩
      have lg := fg.lay hl
      have sg := cs_fr fg hs
      have e3' := (cb_a fg (by simp) hs hc).1.2.2.2.2.1
      exact ⟨g, by simp (disch := first | assumption | omega | decide | ((repeat first | apply lyI | apply lyJ | apply lywI | apply lywJ | apply csI | apply csJ | apply cswI | apply cswJ); assumption)) only [f_X0_fillWorld_b43, SC, LI, ↓li_m1, nI_add, pk_mul, nn_sub, nn_m1, nn_div, nn_rem, nn_nz, nn_mod, nJ_l, lN_add, lN_mul, nn_tb1, nI_bt, nn_and, nn_or, nn_xor, nn_shr, nn_1shl, nn_31, il_p, il_n, it_p, it_n, ie_p, ie_n, ie_b, ie_b1, ie_m, ie_mm, it_m, it_m0, il_m0, bI_rZ, Option.bind_some, bd2_some, Nat.add_zero, Nat.zero_add, if_true, if_false, Bool.false_eq_true, eq_self, hI_R, hJ_R, ng_t, ng_e, e3'], fg, i1, i2⟩
  obtain ⟨h', e1, f1, i1, i2⟩ := e
  refine ⟨h', ?_, f1, i1, i2⟩
  have k0 := cs_kd hs 0 (by decide)
  rw [Nat.add_zero] at k0
  have s1 : gR h 0 43 0 = some 44 := gR_L hl (by decide) (by decide) (by decide +kernel)
  have s2 : gR h 0 43 1 = some 45 := gR_L hl (by decide) (by decide) (by decide +kernel)
  have u1 : lI h 44 (nI (kiN A v w (A 0))) = some (nI (haN A P Q v (kiN A v w (A 0)) (A 2))) := (lI_L hl (by decide) (show kiN A v w (A 0) < 256 by omega)).trans (congrArg some k1)
  have u2 : lI h 45 (nI (kiN A v w (A 0))) = some (nI (hsN A P Q v (kiN A v w (A 0)) (A 2))) := (lI_L hl (by decide) (show kiN A v w (A 0) < 256 by omega)).trans (congrArg some k2)
  have u3 : gI h 1 c 16 = some (nI (A 3)) := (gI_K k0).trans (congrArg some e3)
  have u4 : f_X0_sayingsOf h (nI (haN A P Q v (kiN A v w (A 0)) (A 2))) (nI (hsN A P Q v (kiN A v w (A 0)) (A 2)) ^^^ (-1 : Int32)) = some (nI (syN (haN A P Q v (kiN A v w (A 0)) (A 2)) (hsN A P Q v (kiN A v w (A 0)) (A 2) ^^^ F32) 12)) := by
    rw [li_m1, m1_n, nn_xor]
    exact x_say
  have p1 : 1 ≤ 2 ^ (2 * A 3) := Nat.one_le_two_pow
  have u5 : nI (syN (haN A P Q v (kiN A v w (A 0)) (A 2)) (hsN A P Q v (kiN A v w (A 0)) (A 2) ^^^ F32) 12) &&& (((1 : Int32) <<< ((2 : Int32) * nI (A 3) &&& (31 : Int32))) - (1 : Int32)) = nI (sgN A P Q v (kiN A v w (A 0))) := by
    rw [show (2 : Int32) = nI 2 from rfl, show (31 : Int32) = nI 31 from rfl, show (1 : Int32) = nI 1 from rfl, pk_mul, nn_and, nn_31 (by omega), nn_1shl _ (by omega), nn_sub p1, nn_and]
    rfl
  unfold f_X0_fillWorld
  rw [r1, Option.bind_some, s1, Option.bind_some, u1, Option.bind_some, s2, Option.bind_some, u2, Option.bind_some, u4, Option.bind_some, u3, Option.bind_some, u5, Option.bind_some]
  show (f_X0_fillWorld_l43 43 c (nI v) (nI w) (nI (kiN A v w (A 0))) (nI (sgN A P Q v (kiN A v w (A 0)))) (nI 0) h).bind _ = _
  rw [e1, Option.bind_some]
theorem b_fill3 {h : aH} {c : Nat} (hs : CS h c) {A : Nat → Nat} {P : Nat → Bool} {Q : Nat → Nat → Bool} (hc : CB h c A P Q) (hw : WF A) (hl : LAY h) (wp : WP A P Q) (rs : RS h A P Q (A 2)) {v : Nat} (gk : GK h A P Q v (A 2)) (hv : v < A 4) : ∃ h', f_X0_fillAnswers_l23 43 c (nI v) (nI 0) h = some h' ∧ FR h h' [c + 15] [] [] [] ∧ (∀ q w, q < A 3 → w < A 2 → P w = true → h'.2.1 (c + 15) ((v * 12 + q) * 256 + w) = nI (pk5 (anS A P Q v q w))) ∧ ∀ v' q' w', w' < 256 → q' < 12 → v' ≠ v → h'.2.1 (c + 15) ((v' * 12 + q') * 256 + w') = h.2.1 (c + 15) ((v' * 12 + q') * 256 + w') := by
  obtain ⟨b0, b1, b2l, b2, b3, b4⟩ := wf_b hw
  refine forI (fun j (t : Int32 × aH) => ∃ g, t = (nI j, g) ∧ FR h g [c + 15] [] [] [] ∧ (∀ q w, q < A 3 → w < j → P w = true → g.2.1 (c + 15) ((v * 12 + q) * 256 + w) = nI (pk5 (anS A P Q v q w))) ∧ ∀ v' q' w', w' < 256 → q' < 12 → v' ≠ v → g.2.1 (c + 15) ((v' * 12 + q') * 256 + w') = h.2.1 (c + 15) ((v' * 12 + q') * 256 + w')) _ (A 2) (by omega) ⟨h, rfl, FR.rf, fun q w _ hw => absurd hw (by omega), fun _ _ _ _ _ _ => rfl⟩ ?_ ?_
  · rintro j _ hj ⟨g, rfl, fg, i1, i2⟩
    have lg := fg.lay hl
    have sg := cs_fr fg hs
    have cg := cb_a fg (by simp) hs hc
    have e2 := cg.1.2.2.1
    have r1 := b_canBe sg cg hw hj
    rcases (Bool.eq_false_or_eq_true (P j)).symm with hp | hp
    · rw [hp] at r1
      refine ⟨(nI (j + 1), g), by simp (disch := first | assumption | omega | decide | ((repeat first | apply lyI | apply lyJ | apply lywI | apply lywJ | apply csI | apply csJ | apply cswI | apply cswJ); assumption)) only [f_X0_fillAnswers_b23, f_X0_fillAnswers_j46, SC, LI, ↓li_m1, nI_add, pk_mul, nn_sub, nn_m1, nn_div, nn_rem, nn_nz, nn_mod, nJ_l, lN_add, lN_mul, nn_tb1, nI_bt, nn_and, nn_or, nn_xor, nn_shr, nn_1shl, nn_31, il_p, il_n, it_p, it_n, ie_p, ie_n, ie_b, ie_b1, ie_m, ie_mm, it_m, it_m0, il_m0, bI_rZ, Option.bind_some, bd2_some, Nat.add_zero, Nat.zero_add, if_true, if_false, Bool.false_eq_true, eq_self, hI_R, hJ_R, ng_t, ng_e, e2, r1, bI_f], g, rfl, fg, fun q w hq hw' hpw => ?_, i2⟩
      rcases Nat.lt_or_ge w j with u | u
      · exact i1 q w hq u hpw
      · rw [show w = j by omega, hp] at hpw
        cases hpw
    · rw [hp] at r1
      obtain ⟨g', e5, f5, j1, j2⟩ := b_fill2 sg cg hw lg wp (rs_a fg hs rs) (gk_a fg hs gk) hv hj
      refine ⟨(nI (j + 1), g'), by simp (disch := first | assumption | omega | decide | ((repeat first | apply lyI | apply lyJ | apply lywI | apply lywJ | apply csI | apply csJ | apply cswI | apply cswJ); assumption)) only [f_X0_fillAnswers_b23, f_X0_fillAnswers_j46, SR, SC, LI, ↓li_m1, nI_add, pk_mul, nn_sub, nn_m1, nn_div, nn_rem, nn_nz, nn_mod, nJ_l, lN_add, lN_mul, nn_tb1, nI_bt, nn_and, nn_or, nn_xor, nn_shr, nn_1shl, nn_31, il_p, il_n, it_p, it_n, ie_p, ie_n, ie_b, ie_b1, ie_m, ie_mm, it_m, it_m0, il_m0, bI_rZ, Option.bind_some, bd2_some, Nat.add_zero, Nat.zero_add, if_true, if_false, Bool.false_eq_true, eq_self, hI_R, hJ_R, ng_t, ng_e, e2, r1, bI_t, e5], g', rfl, fg.tr f5, fun q w hq hw' hpw => ?_, fun v' q' w' a b d => ?_⟩
      · by_cases hx : w = j
        · rw [hx]
          exact j1 q hq
        · rw [j2 v q w (by omega) (by omega) (Or.inr hx)]
          exact i1 q w hq (by omega) hpw
      · rw [j2 v' q' w' a b (Or.inl d)]
        exact i2 v' q' w' a b d
  · rintro _ ⟨g, rfl, fg, i1, i2⟩
    have lg := fg.lay hl
    have sg := cs_fr fg hs
    have e2 := (cb_a fg (by simp) hs hc).1.2.2.1
    exact ⟨g, by simp (disch := first | assumption | omega | decide | ((repeat first | apply lyI | apply lyJ | apply lywI | apply lywJ | apply csI | apply csJ | apply cswI | apply cswJ); assumption)) only [f_X0_fillAnswers_b23, SC, LI, ↓li_m1, nI_add, pk_mul, nn_sub, nn_m1, nn_div, nn_rem, nn_nz, nn_mod, nJ_l, lN_add, lN_mul, nn_tb1, nI_bt, nn_and, nn_or, nn_xor, nn_shr, nn_1shl, nn_31, il_p, il_n, it_p, it_n, ie_p, ie_n, ie_b, ie_b1, ie_m, ie_mm, it_m, it_m0, il_m0, bI_rZ, Option.bind_some, bd2_some, Nat.add_zero, Nat.zero_add, if_true, if_false, Bool.false_eq_true, eq_self, hI_R, hJ_R, ng_t, ng_e, e2], fg, i1, i2⟩
theorem b_fill {h : aH} {c : Nat} (hs : CS h c) {A : Nat → Nat} {P : Nat → Bool} {Q : Nat → Nat → Bool} (hc : CB h c A P Q) (hw : WF A) (hl : LAY h) (wp : WP A P Q) : ∃ h', f_X0_fillAnswers h 43 c = some h' ∧ FR h h' [43, 44, 45, 46, 47, c + 15] [] [] [] ∧ CC h' c A P Q (anS A P Q) := by
  obtain ⟨b0, b1, b2l, b2, b3, b4⟩ := wf_b hw
  have n015 := ca_ne hs
  obtain ⟨g0, e0, f0, rs⟩ := b_relate hs hc hw hl
  have f0' : FR h g0 [43, 44, 45, 46, 47, c + 15] [] [] [] := f0.mono (by simp) (by decide) (by decide) (by decide)
  have e : ∃ h', f_X0_fillAnswers_l7 43 c (nI 0) g0 = some h' ∧ FR h h' [43, 44, 45, 46, 47, c + 15] [] [] [] ∧ ∀ v q w, v < A 4 → q < A 3 → w < A 2 → P w = true → h'.2.1 (c + 15) ((v * 12 + q) * 256 + w) = nI (pk5 (anS A P Q v q w)) := by
    refine forI (fun j (t : Int32 × aH) => ∃ g, t = (nI j, g) ∧ FR h g [43, 44, 45, 46, 47, c + 15] [] [] [] ∧ RS g A P Q (A 2) ∧ ∀ v q w, v < j → q < A 3 → w < A 2 → P w = true → g.2.1 (c + 15) ((v * 12 + q) * 256 + w) = nI (pk5 (anS A P Q v q w))) _ (A 4) (by omega) ⟨g0, rfl, f0', rs, fun v q w hv => absurd hv (by omega)⟩ ?_ ?_
    · rintro j _ hj ⟨g, rfl, fg, rg, i1⟩
      have lg := fg.lay hl
      have sg := cs_fr fg hs
      have cg := cb_a fg (by simp) hs hc
      have e4 := cg.1.2.2.2.2.2.1
      obtain ⟨g1, e1, f1, gk⟩ := b_gather sg cg hw lg wp.1 hj
      have rg1 : RS g1 A P Q (A 2) := by
        unfold RS
        rw [f1.I 43 (by decide) (by decide) (by decide), f1.I 46 (by decide) (by decide) (by decide), f1.I 47 (by decide) (by decide) (by decide)]
        exact rg
      have sg1 := cs_fr f1 sg
      have n1 := ca_ne sg
      obtain ⟨g2, e2, f2, j1, j2⟩ := b_fill3 sg1 (cb_fr f1 (by decide) sg cg) hw (f1.lay lg) wp rg1 gk hj
      have g15 : g1.2.1 (c + 15) = g.2.1 (c + 15) := f1.I (c + 15) (by have := n1.2.2 44 (by decide) (by decide); have := n1.2.2 45 (by decide) (by decide); simp; omega) n1.1 n1.2.1
      refine ⟨(nI (j + 1), g2), by simp (disch := first | assumption | omega | decide | ((repeat first | apply lyI | apply lyJ | apply lywI | apply lywJ | apply csI | apply csJ | apply cswI | apply cswJ); assumption)) only [f_X0_fillAnswers_b7, SR, SC, LI, ↓li_m1, nI_add, pk_mul, nn_sub, nn_m1, nn_div, nn_rem, nn_nz, nn_mod, nJ_l, lN_add, lN_mul, nn_tb1, nI_bt, nn_and, nn_or, nn_xor, nn_shr, nn_1shl, nn_31, il_p, il_n, it_p, it_n, ie_p, ie_n, ie_b, ie_b1, ie_m, ie_mm, it_m, it_m0, il_m0, bI_rZ, Option.bind_some, bd2_some, Nat.add_zero, Nat.zero_add, if_true, if_false, Bool.false_eq_true, eq_self, hI_R, hJ_R, ng_t, ng_e, e4, e1, e2], g2, rfl, (fg.tr (f1.mono (by simp) (by decide) (by decide) (by decide))).tr (f2.mono (by simp) (by decide) (by decide) (by decide)), rs_a f2 sg1 rg1, fun v q w hv hq h1 hp => ?_⟩
      by_cases hx : v = j
      · rw [hx]
        exact j1 q w hq h1 hp
      · rw [j2 v q w (by omega) (by omega) hx, g15]
        exact i1 v q w (by omega) hq h1 hp
    · rintro _ ⟨g, rfl, fg, rg, i1⟩
      have lg := fg.lay hl
      have sg := cs_fr fg hs
      have e4 := (cb_a fg (by simp) hs hc).1.2.2.2.2.2.1
      exact ⟨g, by simp (disch := first | assumption | omega | decide | ((repeat first | apply lyI | apply lyJ | apply lywI | apply lywJ | apply csI | apply csJ | apply cswI | apply cswJ); assumption)) only [f_X0_fillAnswers_b7, SC, LI, ↓li_m1, nI_add, pk_mul, nn_sub, nn_m1, nn_div, nn_rem, nn_nz, nn_mod, nJ_l, lN_add, lN_mul, nn_tb1, nI_bt, nn_and, nn_or, nn_xor, nn_shr, nn_1shl, nn_31, il_p, il_n, it_p, it_n, ie_p, ie_n, ie_b, ie_b1, ie_m, ie_mm, it_m, it_m0, il_m0, bI_rZ, Option.bind_some, bd2_some, Nat.add_zero, Nat.zero_add, if_true, if_false, Bool.false_eq_true, eq_self, hI_R, hJ_R, ng_t, ng_e, e4], fg, i1⟩
  obtain ⟨h', e1, f1, i1⟩ := e
  refine ⟨h', by simp (disch := first | assumption | omega | decide | ((repeat first | apply lyI | apply lyJ | apply lywI | apply lywJ | apply csI | apply csJ | apply cswI | apply cswJ); assumption)) only [f_X0_fillAnswers, SR, LI, ↓li_m1, nI_add, pk_mul, nn_sub, nn_m1, nn_div, nn_rem, nn_nz, nn_mod, nJ_l, lN_add, lN_mul, nn_tb1, nI_bt, nn_and, nn_or, nn_xor, nn_shr, nn_1shl, nn_31, il_p, il_n, it_p, it_n, ie_p, ie_n, ie_b, ie_b1, ie_m, ie_mm, it_m, it_m0, il_m0, bI_rZ, Option.bind_some, bd2_some, Nat.add_zero, Nat.zero_add, if_true, if_false, Bool.false_eq_true, eq_self, hI_R, hJ_R, ng_t, ng_e, e0, e1], f1, cb_cc (cb_a f1 (by simp) hs hc) (fun v q w hv hq h1 hp => ⟨i1 v q w hv hq h1 hp, fun k hk => an_lt hq⟩)⟩
