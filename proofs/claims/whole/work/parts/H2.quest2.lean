/-! ===== cases: the class reads a question ===== -/
theorem x_qset {h : aH} {c : Nat} (hl : LAY h) (hs : CS h c) (h6 : h.2.2.2 42 6 = some c) {A : Nat → Nat} {Q Q' : Nat → Nat → Bool} (a2 : A 2 ≤ 256) (e14 : h.2.1 c 14 = nI (A 2)) {q : Nat} (q12 : q < 12) (bits : ∀ w, w < 256 → (h.2.2.1 51 (w / 64)).toBitVec.getLsbD (w % 64) = Q' q w) (eq : ∀ w, w < A 2 → h.2.1 (c + 10) w = nI (qwN A Q w q)) (hQ : ∀ q' w, q' < q → Q' q' w = Q q' w) : ∃ h', f_X2_readQuestion_l121 42 (nI q) (nI 0) h = some h' ∧ FR h h' [c + 10] [] [] [] ∧ ∀ w, w < A 2 → h'.2.1 (c + 10) w = nI (qwN A Q' w (q + 1)) := by
  have c0 := hs.1
  have qs : ∀ w, qwN A Q' w (q + 1) = qwN A Q w q ||| (if Q' q w = true then 2 ^ q else 0) := fun w => by
    show qwN A Q' w q ||| (if Q' q w = true then 2 ^ q else 0) = _
    rw [show qwN A Q' w q = qwN A Q w q from orN_congr (fun i hi => by rw [hQ i w hi])]
  refine (forI (fun j (t : Int32 × aH) => ∃ g, t = (nI j, g) ∧ FR h g [c + 10] [] [] [] ∧ (∀ w, w < j → g.2.1 (c + 10) w = nI (qwN A Q' w (q + 1))) ∧ ∀ w, j ≤ w → g.2.1 (c + 10) w = h.2.1 (c + 10) w) (fun h' => FR h h' [c + 10] [] [] [] ∧ ∀ w, w < A 2 → h'.2.1 (c + 10) w = nI (qwN A Q' w (q + 1))) (A 2) (by omega) ⟨h, rfl, FR.rf, fun w hw => absurd hw (by omega), fun _ _ => rfl⟩ ?_ ?_)
  · rintro j _ hj ⟨g, rfl, fg, i1, i2⟩
    have lg := fg.lay hl
    have sg := cs_fr fg hs
    have g6 : g.2.2.2 42 6 = some c := by rw [fg.2.1]; exact h6
    have g14 : g.2.1 c 14 = nI (A 2) := by rw [fg.I c (by simp) (by omega) (by omega)]; exact e14
    have g10 : g.2.1 (c + 10) j = nI (qwN A Q j q) := (i2 j (Nat.le_refl j)).trans (eq j hj)
    have ql := qwN_lt A Q j q
    have q2 : 2 ^ q ≤ 2 ^ 12 := Nat.pow_le_pow_right (by decide) (by omega)
    have sh : j >>> 6 = j / 64 := by rw [Nat.shiftRight_eq_div_pow]
    have an : j &&& 63 = j % 64 := Nat.and_two_pow_sub_one_eq_mod j 6
    have bj := bits j (by omega)
    rw [← fg.J 51 (by simp)] at bj
    cases hb : Q' q j with
    | false =>
      rw [hb] at bj
      refine ⟨(nI (j + 1), g), ?_, g, rfl, fg, fun w hw => ?_, fun w hw => i2 w (by omega)⟩
      · simp (disch := first | assumption | omega | decide | ((repeat first | apply lyI | apply lyJ | apply lywI | apply lywJ | apply csI | apply csJ | apply cswI | apply cswJ); assumption)) only [f_X2_readQuestion_b121, f_X2_readQuestion_j168, SR, SC, LI, ↓li_m1, nI_add, pk_mul, nn_sub, nn_m1, nn_div, nn_rem, nn_nz, nn_mod, lN_add, lN_mul, nn_tb1, nI_bt, nn_and, nn_or, nn_xor, nn_shr, nn_1shl, nn_31, il_p, il_n, it_p, it_n, ie_p, ie_n, ie_b, ie_b1, ie_m, ie_mm, it_m, it_m0, il_m0, bI_rZ, Option.bind_some, bd2_some, Nat.add_zero, Nat.zero_add, if_true, if_false, Bool.false_eq_true, eq_self, hI_R, hJ_R, ng_t, ng_e, g6, g14, sh, an, lcmp_e, j_bit0 (Nat.mod_lt j (show 64 > 0 by decide)), bj]
      · by_cases hx : w = j
        · rw [hx, qs j, hb, if_neg (by decide), Nat.or_zero]
          exact g10
        · exact i1 w (by omega)
    | true =>
      rw [hb] at bj
      refine ⟨(nI (j + 1), hI g (c + 10) j (nI (qwN A Q j q ||| 2 ^ q))), ?_, _, rfl, fg.tr (FR.hI (by simp) (by omega) (by omega)), fun w hw => ?_, fun w hw => ?_⟩
      · simp (disch := first | assumption | omega | decide | ((repeat first | apply lyI | apply lyJ | apply lywI | apply lywJ | apply csI | apply csJ | apply cswI | apply cswJ); assumption)) only [f_X2_readQuestion_b121, f_X2_readQuestion_j168, SR, SC, LI, ↓li_m1, nI_add, pk_mul, nn_sub, nn_m1, nn_div, nn_rem, nn_nz, nn_mod, lN_add, lN_mul, nn_tb1, nI_bt, nn_and, nn_or, nn_xor, nn_shr, nn_1shl, nn_31, il_p, il_n, it_p, it_n, ie_p, ie_n, ie_b, ie_b1, ie_m, ie_mm, it_m, it_m0, il_m0, bI_rZ, Option.bind_some, bd2_some, Nat.add_zero, Nat.zero_add, if_true, if_false, Bool.false_eq_true, eq_self, hI_R, hJ_R, ng_t, ng_e, g6, g14, sh, an, lcmp_e, j_bit0 (Nat.mod_lt j (show 64 > 0 by decide)), bj, Bool.true_eq_false, g10]
      · by_cases hx : w = j
        · rw [hx, rI_eq, qs j, hb, if_pos rfl]
        · rw [rI_nk hx]
          exact i1 w (by omega)
      · rw [rI_nk (by omega)]
        exact i2 w (by omega)
  · rintro _ ⟨g, rfl, fg, i1, i2⟩
    have lg := fg.lay hl
    have sg := cs_fr fg hs
    have g6 : g.2.2.2 42 6 = some c := by rw [fg.2.1]; exact h6
    have g14 : g.2.1 c 14 = nI (A 2) := by rw [fg.I c (by simp) (by omega) (by omega)]; exact e14
    exact ⟨g, by simp (disch := first | assumption | omega | decide | ((repeat first | apply lyI | apply lyJ | apply lywI | apply lywJ | apply csI | apply csJ | apply cswI | apply cswJ); assumption)) only [f_X2_readQuestion_b121, SR, SC, LI, ↓li_m1, nI_add, pk_mul, nn_sub, nn_m1, nn_div, nn_rem, nn_nz, nn_mod, nJ_l, lN_add, lN_mul, nn_tb1, nI_bt, nn_and, nn_or, nn_xor, nn_shr, nn_1shl, nn_31, il_p, il_n, it_p, it_n, ie_p, ie_n, ie_b, ie_b1, ie_m, ie_mm, it_m, it_m0, il_m0, bI_rZ, Option.bind_some, bd2_some, Nat.add_zero, Nat.zero_add, if_true, if_false, Bool.false_eq_true, eq_self, hI_R, hJ_R, ng_t, ng_e, g6, g14], fg, i1⟩
theorem x_q6 {h0 h : aH} {c : Nat} {T : Nat → Nat} {n m i : Nat} {A : Nat → Nat} {V : Nat → List Nat} {Bv : Nat → Nat} {Q : Nat → Nat → Bool} {fe : Nat} (dw : DCw h0 h c T n m i A (cA (qA A fe)) V Bv Q) (wf : WF A) (q12 : A 3 < 12) (nv : NV (cA (qA A fe)) V) (dv' : ∀ S, DV (qA A fe) V Bv (qQ A Bv Q S)) : OCc h0 c T n m (u_X2_readQuestion_c2 h 42 (nI (A 3)) (nI fe)) (match pEi T n (pOn T n (qA A fe) (cA (qA A fe)) V 8 0) i with | .inl e => .inl e | .inr (i', S) => smD T n i' (qA A fe) V Bv (qQ A Bv Q S)) := by
  obtain ⟨d1, lc, hs, h6, nc, dca, dn, d7, dwo⟩ := dw
  obtain ⟨b0, b1, b2l, b2, b3, b4⟩ := wf_b wf
  have hl := lc.1
  have c0 := hs.1
  have ag := qa_ag (A := A) (fe := fe)
  have xs : XSc h c T n m i (qA A fe) V (cnP (qA A fe) Bv) := by
    obtain ⟨w1, w2, w3, w4, w5⟩ := dwo
    refine ⟨lc, hs, h6, nc, fun w hw => ?_, fun v w hv hw => ?_⟩
    · rw [ag_cn ag b0]
      exact w4 w hw
    · rw [(ag_0 ag).2.1] at hv
      rw [ag_cn ag b0, ag_vl ag wf hv]
      exact w5 v w hv hw
  have xc := x_cond (by rw [(ag_0 ag).2.1]; exact b1) nv xs
  cases hp : pEi T n (pOn T n (qA A fe) (cA (qA A fe)) V 8 0) i with
  | inl e =>
    obtain ⟨a, b⟩ := e
    rw [hp] at xc
    obtain ⟨y1, y2, h', y3, y4, y5⟩ := xc
    exact ⟨y1, y2, h', by unfold u_X2_readQuestion_c2; simp (disch := first | assumption | omega | decide | ((repeat first | apply lyI | apply lyJ | apply lywI | apply lywJ | apply csI | apply csJ | apply cswI | apply cswJ); assumption)) only [SR, LI, ↓li_m1, nI_add, pk_mul, nn_sub, nn_m1, nn_div, nn_rem, nn_nz, nn_mod, nJ_l, lN_add, lN_mul, nn_tb1, nI_bt, nn_and, nn_or, nn_xor, nn_shr, nn_1shl, nn_31, il_p, il_n, it_p, it_n, ie_p, ie_n, ie_b, ie_b1, ie_m, ie_mm, it_m, it_m0, il_m0, bI_rZ, Option.bind_some, bd2_some, Nat.add_zero, Nat.zero_add, if_true, if_false, Bool.false_eq_true, eq_self, hI_R, hJ_R, ng_t, ng_e, y3]; try (unfold u_X2_readQuestion_c1; simp (disch := first | assumption | omega | decide | ((repeat first | apply lyI | apply lyJ | apply lywI | apply lywJ | apply csI | apply csJ | apply cswI | apply cswJ); assumption)) only [SR, LI, ↓li_m1, nI_add, pk_mul, nn_sub, nn_m1, nn_div, nn_rem, nn_nz, nn_mod, nJ_l, lN_add, lN_mul, nn_tb1, nI_bt, nn_and, nn_or, nn_xor, nn_shr, nn_1shl, nn_31, il_p, il_n, it_p, it_n, ie_p, ie_n, ie_b, ie_b1, ie_m, ie_mm, it_m, it_m0, il_m0, bI_rZ, Option.bind_some, bd2_some, Nat.add_zero, Nat.zero_add, if_true, if_false, Bool.false_eq_true, eq_self, hI_R, hJ_R, ng_t, ng_e, y3]), d1.tr (y4.mono (by intro x hx; unfold LCc; simp at hx ⊢; omega) (by intro x hx; unfold LJc; simp at hx ⊢; omega) (by simp) (by simp)), y5⟩
  | inr e =>
    obtain ⟨i', S⟩ := e
    rw [hp] at xc
    obtain ⟨h1, y3, y4, y5, y6, y7⟩ := xc
    have l1 := y5.1
    have f1 : FR h0 h1 (LCc c) (LJc c) [] [] := d1.tr (y4.mono (by intro x hx; unfold LCc; simp at hx ⊢; omega) (by intro x hx; unfold LJc; simp at hx ⊢; omega) (by simp) (by simp))
    show OCc h0 c T n m _ (smD T n i' (qA A fe) V Bv (qQ A Bv Q S))
    rcases x_take (w := 3) y5 (by decide) (by decide) with ⟨t, h2, r, f, l⟩ | ⟨t, h2, r, f, l⟩
    · rw [show smD T n i' (qA A fe) V Bv (qQ A Bv Q S) = .inr (i' + 1, qA A fe, V, Bv, qQ A Bv Q S) from if_pos t]
      have l2 := l.1
      have fz : FR h h2 [4] [4, 51] [] [] := y4.tr (f4_51 f)
      have s2 := cs_fr fz hs
      have e2 : ∀ j, j < 16 → h2.2.1 (c + j) = h.2.1 (c + j) := fun j hj => fz.I _ (by simp <;> omega) (by omega) (by omega)
      have e2c := e2 0 (by decide)
      rw [Nat.add_zero] at e2c
      have r6 : h2.2.2.2 42 6 = some c := by rw [fz.2.1]; exact h6
      let h3 := hI h2 (c + 11) (A 3) (nI fe)
      have f3 : FR h2 h3 [c + 11] [] [] [] := FR.hI (by simp) (by omega) (by omega)
      have l3 : LAY h3 := l2
      have s3 : CS h3 c := s2
      have e3c : h3.2.1 c = h.2.1 c := (f3.I c (by simp) (by omega) (by omega)).trans e2c
      have e3 : ∀ j, j < 16 → j ≠ 11 → h3.2.1 (c + j) = h.2.1 (c + j) := fun j hj h11 => (f3.I (c + j) (by simp <;> omega) (by omega) (by omega)).trans (e2 j hj)
      obtain ⟨h4, e4, f4, q4⟩ := x_qset (h := h3) (A := A) (Q := Q) (Q' := qQ A Bv Q S) l3 s3 r6 b2 (by rw [e3c]; exact dca.1.2.2.1) q12 (fun w hw => by
        have := y7 w hw
        rw [Nat.zero_add] at this
        show (h2.2.2.1 51 (w / 64)).toBitVec.getLsbD (w % 64) = _
        rw [f.J 51 (by decide), this, ag_cn ag b0]
        unfold qQ
        rw [if_pos rfl]) (fun w hw => by rw [e3 10 (by decide) (by decide)]; exact (dwo.2.2.1 w hw).2) (fun q' w hq => by unfold qQ; rw [if_neg (by omega)])
      have l4 := f4.lay l3
      have s4 := cs_fr f4 s3
      have e4c : h4.2.1 c = h.2.1 c := (f4.I c (by simp) (by omega) (by omega)).trans e3c
      have r64 : h4.2.2.2 42 6 = some c := by rw [f4.2.1]; exact r6
      have g16 : h4.2.1 c 16 = nI (A 3) := by rw [e4c]; exact dca.1.2.2.2.1
      have e4' : f_X2_readQuestion_l121 42 (nI (A 3)) (nI 0) (hI h2 (c + 11) (A 3) (nI fe)) = some h4 := e4
      let h5 := hI h4 c 16 (nI (A 3 + 1))
      have f5 : FR h4 h5 [c] [] [] [] := FR.hI (by simp) (by omega) (by omega)
      have ft : FR h2 h5 [c, c + 10, c + 11] [] [] [] := ((f3.mono (by simp) (by simp) (by simp) (by simp)).tr (f4.mono (by simp) (by simp) (by simp) (by simp))).tr (f5.mono (by simp) (by simp) (by simp) (by simp))
      have lc5 := lc_fr ft (by intro x hx; simp at hx; omega) (by simp) l
      have e5 : ∀ j, j < 16 → j ≠ 0 → j ≠ 10 → j ≠ 11 → h5.2.1 (c + j) = h.2.1 (c + j) := fun j hj j0 j1 j2 => (ft.I (c + j) (by simp <;> omega) (by omega) (by omega)).trans (e2 j hj)
      have e5c : ∀ k, k ≠ 16 → h5.2.1 c k = h.2.1 c k := fun k hk => by
        show (hI h4 c 16 (nI (A 3 + 1))).2.1 c k = _
        rw [rI_nk hk, e4c]
      have e11 : ∀ q, q < A 3 + 1 → h5.2.1 (c + 11) q = nI (qA A fe (64 + q)) := fun q hq => by
        rw [f5.I (c + 11) (by simp) (by omega) (by omega), f4.I (c + 11) (by simp) (by omega) (by omega)]
        by_cases e : q = A 3
        · rw [e, qa_f]
          exact rI_eq
        · show (hI h2 (c + 11) (A 3) (nI fe)).2.1 (c + 11) q = _
          rw [rI_nk e, e2 11 (by decide), qa_n (by omega) (by omega)]
          exact dca.2.2.2.1 q (by omega)
      have e10 : h5.2.1 (c + 10) = h4.2.1 (c + 10) := f5.I (c + 10) (by simp) (by omega) (by omega)
      have fe' : FR h h5 ([4, c, c + 10, c + 11]) [4, 51] [] [] := (fz.mono (by simp) (by simp) (by simp) (by simp)).tr (ft.mono (by intro x hx; simp at hx ⊢; omega) (by simp) (by simp) (by simp))
      refine ⟨dv' S, h5, ?_, d1.tr (fe'.mono (by intro x hx; unfold LCc; simp at hx ⊢; omega) (by intro x hx; unfold LJc; simp at hx ⊢; omega) (by simp) (by simp)), lc5, cs_fr fe' hs, by rw [fe'.2.1]; exact h6, nc_fr fe' hs (by simp <;> omega) (by simp <;> omega) (by simp <;> omega) (by simp <;> omega) nc, ?_, ?_, Or.inr ⟨by rw [qa_3]; omega, ?_, ?_⟩⟩
      · show _ = some (nI 1, hI h4 c 16 (nI (A 3 + 1)))
        unfold u_X2_readQuestion_c2; simp (disch := first | assumption | omega | decide | ((repeat first | apply lyI | apply lyJ | apply lywI | apply lywJ | apply csI | apply csJ | apply cswI | apply cswJ); assumption)) only [SR, SX, SC, LI, ↓li_m1, nI_add, pk_mul, nn_sub, nn_m1, nn_div, nn_rem, nn_nz, nn_mod, nJ_l, lN_add, lN_mul, nn_tb1, nI_bt, nn_and, nn_or, nn_xor, nn_shr, nn_1shl, nn_31, il_p, il_n, it_p, it_n, ie_p, ie_n, ie_b, ie_b1, ie_m, ie_mm, it_m, it_m0, il_m0, bI_rZ, Option.bind_some, bd2_some, Nat.add_zero, Nat.zero_add, if_true, if_false, Bool.false_eq_true, eq_self, hI_R, hJ_R, ng_t, ng_e, y3, r, r6, e4', r64, g16]; try (unfold u_X2_readQuestion_c1; simp (disch := first | assumption | omega | decide | ((repeat first | apply lyI | apply lyJ | apply lywI | apply lywJ | apply csI | apply csJ | apply cswI | apply cswJ); assumption)) only [SR, SX, SC, LI, ↓li_m1, nI_add, pk_mul, nn_sub, nn_m1, nn_div, nn_rem, nn_nz, nn_mod, nJ_l, lN_add, lN_mul, nn_tb1, nI_bt, nn_and, nn_or, nn_xor, nn_shr, nn_1shl, nn_31, il_p, il_n, it_p, it_n, ie_p, ie_n, ie_b, ie_b1, ie_m, ie_mm, it_m, it_m0, il_m0, bI_rZ, Option.bind_some, bd2_some, Nat.add_zero, Nat.zero_add, if_true, if_false, Bool.false_eq_true, eq_self, hI_R, hJ_R, ng_t, ng_e, y3, r, r6, e4', r64, g16])
      · obtain ⟨⟨g12, g13, g14, g16', g17, g18⟩, gf, gv, gq, gw⟩ := dca
        have my : pk4 (myN (qA A fe)) = pk4 (myN A) := by
          have e : ∀ u, u < 4 → myN (qA A fe) u = myN A u := fun u hu => by
            unfold myN mayN
            rw [qa_n (by decide) (by omega)]
            by_cases h4 : u < A 4
            · rw [if_pos h4, if_pos h4]
              exact orN_congr (fun k hk => by rw [qa_n (by omega) (by omega)])
            · rw [if_neg h4, if_neg h4]
          unfold pk4
          rw [e 0 (by decide), e 1 (by decide), e 2 (by decide), e 3 (by decide)]
        unfold DCa
        rw [e5 5 (by decide) (by decide) (by decide) (by decide), e5 7 (by decide) (by decide) (by decide) (by decide), e5 8 (by decide) (by decide) (by decide) (by decide), e5 12 (by decide) (by decide) (by decide) (by decide), e5 13 (by decide) (by decide) (by decide) (by decide), e5 14 (by decide) (by decide) (by decide) (by decide), e5c 12 (by decide), e5c 13 (by decide), e5c 14 (by decide), e5c 17 (by decide), e5c 18 (by decide), (ag_0 ag).1, (ag_0 ag).2.1, (ag_0 ag).2.2, qa_3, my, qa_n (x := 4) (by decide) (by omega)]
        refine ⟨⟨g12, g13, g14, rI_eq, g17, g18⟩, fun f hf => ?_, fun v hv => ?_, e11, fun v hv => ?_⟩
        · rw [ag (56 + f) (by omega) (by omega), ag (60 + f) (by omega) (by omega)]
          exact gf f hf
        · rw [ag (8 + v) (by omega) (by omega), ag (32 + v) (by omega) (by omega)]
          exact gv v hv
        · have e : ∀ k, k < 6 → qA A fe (76 + 6 * v + k) = A (76 + 6 * v + k) := fun k hk => qa_n (by omega) (by omega)
          rw [e 4 (by decide), e 5 (by decide)]
          refine ⟨fun k hk => ?_, (gw v hv).2⟩
          rw [e k (by omega)]
          exact (gw v hv).1 k hk
      · rw [fe'.I 48 (by simp <;> omega) (by decide) (by decide)]
        exact dn
      · rw [fe'.I 42 (by simp <;> omega) (by decide) (by decide)]
        exact d7
      · obtain ⟨w1, w2, w3, w4, w5⟩ := dwo
        refine ⟨?_, fun f hf => ?_, fun w hw => ?_, fun w hw => ?_, fun v w hv hw => ?_⟩
        · rw [e5c 15 (by decide), (ag_0 ag).2.2, cntB_congr (fun i _ => ag_cn ag b0)]
          exact w1
        · rw [(ag_0 ag).1] at hf
          rw [e5 6 (by decide) (by decide) (by decide) (by decide), ag_strd ag b0]
          exact w2 f hf
        · rw [(ag_0 ag).2.2] at hw
          rw [e5 9 (by decide) (by decide) (by decide) (by decide), ag_cn ag b0, ag_wt ag wf, e10, qa_3]
          exact ⟨(w3 w hw).1, q4 w hw⟩
        · rw [fe'.J 50 (by decide), ag_cn ag b0]
          exact w4 w hw
        · rw [(ag_0 ag).2.1] at hv
          have e : (valN (qA A fe) w (qA A fe (8 + v)) == v) = (valN A w (A (8 + v)) == v) := ag_vl ag wf hv
          rw [fe'.J 49 (by decide), ag_cn ag b0, e]
          exact w5 v w hv hw
    · rw [show smD T n i' (qA A fe) V Bv (qQ A Bv Q S) = .inl (fkN T n i' 2, frI T n i') from if_neg t]
      obtain ⟨k1, k2⟩ := fk_b (T := T) (n := n) (i := i') (k := 2) (by decide) (by decide)
      exact ⟨k1, k2, h2, by unfold u_X2_readQuestion_c2; simp (disch := first | assumption | omega | decide | ((repeat first | apply lyI | apply lyJ | apply lywI | apply lywJ | apply csI | apply csJ | apply cswI | apply cswJ); assumption)) only [SR, SX, LI, ↓li_m1, nI_add, pk_mul, nn_sub, nn_m1, nn_div, nn_rem, nn_nz, nn_mod, nJ_l, lN_add, lN_mul, nn_tb1, nI_bt, nn_and, nn_or, nn_xor, nn_shr, nn_1shl, nn_31, il_p, il_n, it_p, it_n, ie_p, ie_n, ie_b, ie_b1, ie_m, ie_mm, it_m, it_m0, il_m0, bI_rZ, Option.bind_some, bd2_some, Nat.add_zero, Nat.zero_add, if_true, if_false, Bool.false_eq_true, eq_self, hI_R, hJ_R, ng_t, ng_e, y3, r]; try (unfold u_X2_readQuestion_c1; simp (disch := first | assumption | omega | decide | ((repeat first | apply lyI | apply lyJ | apply lywI | apply lywJ | apply csI | apply csJ | apply cswI | apply cswJ); assumption)) only [SR, SX, LI, ↓li_m1, nI_add, pk_mul, nn_sub, nn_m1, nn_div, nn_rem, nn_nz, nn_mod, nJ_l, lN_add, lN_mul, nn_tb1, nI_bt, nn_and, nn_or, nn_xor, nn_shr, nn_1shl, nn_31, il_p, il_n, it_p, it_n, ie_p, ie_n, ie_b, ie_b1, ie_m, ie_mm, it_m, it_m0, il_m0, bI_rZ, Option.bind_some, bd2_some, Nat.add_zero, Nat.zero_add, if_true, if_false, Bool.false_eq_true, eq_self, hI_R, hJ_R, ng_t, ng_e, y3, r]), f1.tr (f.mono lcc_4 ljc_4 (by simp) (by simp)), l⟩
