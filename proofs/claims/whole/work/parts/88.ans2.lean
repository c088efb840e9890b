/-! ===== what is answered: the reference, on ===== -/
def kxB (A : Nat → Nat) (v w o f : Nat) : Bool := !(A (76 + 6 * v + 4)).testBit f || valN A o f == valN A w f
theorem r_kn1 {h : aH} (hl : LAY h) {A : Nat → Nat} {P : Nat → Bool} {Q : Nat → Nat → Bool} (hc : CM h A P Q) (hw : WF A) {v w o : Nat} (hv : v < A 4) (h1 : w < 256) (h2 : o < 256) : f_X12_knowsIn_l42 h 113 (nI v) (nI w) (nI o) (bI (P o)) (nI 0) = some (bI (knB A P v w o)) := by
  obtain ⟨b0, b1, b2l, b2, b3, b4⟩ := wf_b hw
  obtain ⟨c0, c1, c2, c3, c4, cA⟩ := cm_e hc
  have kl := (hw.2.2.2.2.2 v hv).2.2.1
  refine for0 (body := fun zz : Int32 × Int32 => f_X12_knowsIn_b42 h 113 (nI v) (nI w) (nI o) zz.1 zz.2) (fun j => (bI (P o && allB (kxB A v w o) j), nI j)) (A 0) (e := bI (knB A P v w o)) (by rw [show allB (kxB A v w o) 0 = true from rfl, Bool.and_true]) (by omega) (fun j hj => ?_) ?_
  · have r0 := r_ofWitness hl (v := v) (i := 4) (by omega) (by omega)
    rw [cA (76 + 6 * v + 4) (by omega) (by omega)] at r0
    have r1 := r_valueIn hl hc hw.1 (by decide) (w := o) h2 hj
    have r2 := r_valueIn hl hc hw.1 (by decide) (w := w) h1 hj
    have l1 := val_lt hw (w := o) hj
    have l2 := val_lt hw (w := w) hj
    have nx : (P o && allB (kxB A v w o) (j + 1)) = ((P o && allB (kxB A v w o) j) && kxB A v w o j) := by
      show (P o && (_ && _)) = _
      rw [Bool.and_assoc]
    rw [nx]
    cases (P o && allB (kxB A v w o) j)
    · simp (disch := first | assumption | omega | decide | ((repeat first | apply lyI | apply lyJ | apply lywI | apply lywJ | apply csI | apply csJ | apply cswI | apply cswJ); assumption)) only [f_X12_knowsIn_b42, f_X12_knowsIn_j127, f_X12_knowsIn_j96, f_X12_knowsIn_j95, f_X12_knowsIn_j91, SM, LI, ↓li_m1, nI_add, pk_mul, nn_sub, nn_m1, nn_div, nn_rem, nn_nz, nn_mod, nJ_l, lN_add, lN_mul, nn_tb1, nI_bt, nn_and, nn_or, nn_xor, nn_shr, nn_1shl, nn_31, il_p, il_n, it_p, it_n, ie_p, ie_n, ie_b, ie_b1, ie_m, ie_mm, it_m, it_m0, il_m0, bI_rZ, Option.bind_some, bd2_some, Nat.add_zero, Nat.zero_add, if_true, if_false, Bool.false_eq_true, eq_self, hI_R, hJ_R, ng_t, ng_e, c0, bI_f]
      rfl
    · rcases (Bool.eq_false_or_eq_true ((A (76 + 6 * v + 4)).testBit j)).symm with hb | hb
      · rw [show kxB A v w o j = true from by unfold kxB; rw [hb]; rfl]
        simp (disch := first | assumption | omega | decide | ((repeat first | apply lyI | apply lyJ | apply lywI | apply lywJ | apply csI | apply csJ | apply cswI | apply cswJ); assumption)) only [f_X12_knowsIn_b42, f_X12_knowsIn_j127, f_X12_knowsIn_j96, f_X12_knowsIn_j95, f_X12_knowsIn_j91, SM, LI, ↓li_m1, nI_add, pk_mul, nn_sub, nn_m1, nn_div, nn_rem, nn_nz, nn_mod, nJ_l, lN_add, lN_mul, nn_tb1, nI_bt, nn_and, nn_or, nn_xor, nn_shr, nn_1shl, nn_31, il_p, il_n, it_p, it_n, ie_p, ie_n, ie_b, ie_b1, ie_m, ie_mm, it_m, it_m0, il_m0, bI_rZ, Option.bind_some, bd2_some, Nat.add_zero, Nat.zero_add, if_true, if_false, Bool.false_eq_true, eq_self, hI_R, hJ_R, ng_t, ng_e, c0, bI_t, r0, hb, bI_f]
        rfl
      · by_cases hx : valN A o j = valN A w j
        · rw [show kxB A v w o j = true from by unfold kxB; rw [beq_iff_eq.mpr hx, Bool.or_true]]
          simp (disch := first | assumption | omega | decide | ((repeat first | apply lyI | apply lyJ | apply lywI | apply lywJ | apply csI | apply csJ | apply cswI | apply cswJ); assumption)) only [f_X12_knowsIn_b42, f_X12_knowsIn_j127, f_X12_knowsIn_j96, f_X12_knowsIn_j95, f_X12_knowsIn_j91, SM, LI, ↓li_m1, nI_add, pk_mul, nn_sub, nn_m1, nn_div, nn_rem, nn_nz, nn_mod, nJ_l, lN_add, lN_mul, nn_tb1, nI_bt, nn_and, nn_or, nn_xor, nn_shr, nn_1shl, nn_31, il_p, il_n, it_p, it_n, ie_p, ie_n, ie_b, ie_b1, ie_m, ie_mm, it_m, it_m0, il_m0, bI_rZ, Option.bind_some, bd2_some, Nat.add_zero, Nat.zero_add, if_true, if_false, Bool.false_eq_true, eq_self, hI_R, hJ_R, ng_t, ng_e, c0, bI_t, r0, hb, r1, r2, hx]
          rfl
        · rw [show kxB A v w o j = false from by unfold kxB; rw [hb, beq_eq_false_iff_ne.mpr hx]; rfl]
          simp (disch := first | assumption | omega | decide | ((repeat first | apply lyI | apply lyJ | apply lywI | apply lywJ | apply csI | apply csJ | apply cswI | apply cswJ); assumption)) only [f_X12_knowsIn_b42, f_X12_knowsIn_j127, f_X12_knowsIn_j96, f_X12_knowsIn_j95, f_X12_knowsIn_j91, SM, LI, ↓li_m1, nI_add, pk_mul, nn_sub, nn_m1, nn_div, nn_rem, nn_nz, nn_mod, nJ_l, lN_add, lN_mul, nn_tb1, nI_bt, nn_and, nn_or, nn_xor, nn_shr, nn_1shl, nn_31, il_p, il_n, it_p, it_n, ie_p, ie_n, ie_b, ie_b1, ie_m, ie_mm, it_m, it_m0, il_m0, bI_rZ, Option.bind_some, bd2_some, Nat.add_zero, Nat.zero_add, if_true, if_false, Bool.false_eq_true, eq_self, hI_R, hJ_R, ng_t, ng_e, c0, bI_t, r0, hb, r1, r2]
          rfl
  · simp (disch := first | assumption | omega | decide | ((repeat first | apply lyI | apply lyJ | apply lywI | apply lywJ | apply csI | apply csJ | apply cswI | apply cswJ); assumption)) only [f_X12_knowsIn_b42, f_X12_knowsIn_j127, f_X12_knowsIn_j96, f_X12_knowsIn_j95, f_X12_knowsIn_j91, SM, LI, ↓li_m1, nI_add, pk_mul, nn_sub, nn_m1, nn_div, nn_rem, nn_nz, nn_mod, nJ_l, lN_add, lN_mul, nn_tb1, nI_bt, nn_and, nn_or, nn_xor, nn_shr, nn_1shl, nn_31, il_p, il_n, it_p, it_n, ie_p, ie_n, ie_b, ie_b1, ie_m, ie_mm, it_m, it_m0, il_m0, bI_rZ, Option.bind_some, bd2_some, Nat.add_zero, Nat.zero_add, if_true, if_false, Bool.false_eq_true, eq_self, hI_R, hJ_R, ng_t, ng_e, c0]
    rfl
theorem r_knows {h : aH} (hl : LAY h) {A : Nat → Nat} {P : Nat → Bool} {Q : Nat → Nat → Bool} (hc : CM h A P Q) (hw : WF A) {v w : Nat} (hv : v < A 4) (h1 : w < A 2) (hP : ∀ o, P o = true → o < A 2) : ∃ h', f_X12_knowsIn h 113 (nI v) (nI w) = some h' ∧ FR h h' [] [127] [] [] ∧ KN h' (knB A P v w) := by
  obtain ⟨b0, b1, b2l, b2, b3, b4⟩ := wf_b hw
  obtain ⟨c0, c1, c2, c3, c4, cA⟩ := cm_e hc
  have e1 : ∃ h', f_X12_knowsIn_l2 113 (nI v) (nI w) (nI 0) h = some h' ∧ FR h h' [] [127] [] [] ∧ ∀ k, k < 4 → h'.2.2.1 127 k = 0 := by
    refine forI (fun j (t : Int32 × aH) => ∃ g, t = (nI j, g) ∧ FR h g [] [127] [] [] ∧ ∀ k, k < j → g.2.2.1 127 k = 0) _ 4 (by decide) ⟨h, rfl, FR.rf, fun k hk => absurd hk (by omega)⟩ ?_ ?_
    · rintro j _ hj ⟨g, rfl, fg, i1⟩
      have lg := fg.lay hl
      refine ⟨(nI (j + 1), hJ g 127 j 0), by simp (disch := first | assumption | omega | decide | ((repeat first | apply lyI | apply lyJ | apply lywI | apply lywJ | apply csI | apply csJ | apply cswI | apply cswJ); assumption)) only [f_X12_knowsIn_b2, SM, LI, ↓li_m1, nI_add, pk_mul, nn_sub, nn_m1, nn_div, nn_rem, nn_nz, nn_mod, nJ_l, lN_add, lN_mul, nn_tb1, nI_bt, nn_and, nn_or, nn_xor, nn_shr, nn_1shl, nn_31, il_p, il_n, it_p, it_n, ie_p, ie_n, ie_b, ie_b1, ie_m, ie_mm, it_m, it_m0, il_m0, bI_rZ, Option.bind_some, bd2_some, Nat.add_zero, Nat.zero_add, if_true, if_false, Bool.false_eq_true, eq_self, hI_R, hJ_R, ng_t, ng_e], _, rfl, fg.tr (FR.hJ (by decide)), fun k hk => ?_⟩
      by_cases hkj : k = j
      · rw [hkj, rJ_eq]
      · rw [rJ_nk hkj]
        exact i1 k (by omega)
    · rintro _ ⟨g, rfl, fg, i1⟩
      exact ⟨g, by simp (disch := first | assumption | omega | decide | ((repeat first | apply lyI | apply lyJ | apply lywI | apply lywJ | apply csI | apply csJ | apply cswI | apply cswJ); assumption)) only [f_X12_knowsIn_b2, SM, LI, ↓li_m1, nI_add, pk_mul, nn_sub, nn_m1, nn_div, nn_rem, nn_nz, nn_mod, nJ_l, lN_add, lN_mul, nn_tb1, nI_bt, nn_and, nn_or, nn_xor, nn_shr, nn_1shl, nn_31, il_p, il_n, it_p, it_n, ie_p, ie_n, ie_b, ie_b1, ie_m, ie_mm, it_m, it_m0, il_m0, bI_rZ, Option.bind_some, bd2_some, Nat.add_zero, Nat.zero_add, if_true, if_false, Bool.false_eq_true, eq_self, hI_R, hJ_R, ng_t, ng_e], fg, i1⟩
  obtain ⟨g0, e0, f0, z0⟩ := e1
  have e2 : ∃ h', f_X12_knowsIn_l22 113 (nI v) (nI w) (nI 0) g0 = some h' ∧ FR h h' [] [127] [] [] ∧ ∀ k i, k < 4 → i < 64 → (h'.2.2.1 127 k).toBitVec.getLsbD i = (decide (64 * k + i < A 2) && knB A P v w (64 * k + i)) := by
    refine forI (fun j (t : Int32 × aH) => ∃ g, t = (nI j, g) ∧ FR h g [] [127] [] [] ∧ ∀ k i, k < 4 → i < 64 → (g.2.2.1 127 k).toBitVec.getLsbD i = (decide (64 * k + i < j) && knB A P v w (64 * k + i))) _ (A 2) (by omega) ⟨g0, rfl, f0, fun k i hk hi => by
      rw [z0 k hk, decide_eq_false (by omega), Bool.false_and, show (0 : Int64).toBitVec = 0#64 from rfl, BitVec.getLsbD_zero]⟩ ?_ ?_
    · rintro j _ hj ⟨g, rfl, fg, i1⟩
      have lg := fg.lay hl
      have cg := cm_fr fg (by decide) (by decide) hc
      obtain ⟨c0, c1, c2, c3, c4, cA⟩ := cm_e cg
      have r1 := r_poss lg cg (w := j) (by omega)
      have r2 := r_kn1 lg cg hw hv (w := w) (o := j) (by omega) (by omega)
      rcases (Bool.eq_false_or_eq_true (knB A P v w j)).symm with hb | hb
      · rw [hb] at r2
        refine ⟨(nI (j + 1), g), by simp (disch := first | assumption | omega | decide | ((repeat first | apply lyI | apply lyJ | apply lywI | apply lywJ | apply csI | apply csJ | apply cswI | apply cswJ); assumption)) only [f_X12_knowsIn_b22, f_X12_knowsIn_j127, SM, LI, ↓li_m1, nI_add, pk_mul, nn_sub, nn_m1, nn_div, nn_rem, nn_nz, nn_mod, nJ_l, lN_add, lN_mul, nn_tb1, nI_bt, nn_and, nn_or, nn_xor, nn_shr, nn_1shl, nn_31, il_p, il_n, it_p, it_n, ie_p, ie_n, ie_b, ie_b1, ie_m, ie_mm, it_m, it_m0, il_m0, bI_rZ, Option.bind_some, bd2_some, Nat.add_zero, Nat.zero_add, if_true, if_false, Bool.false_eq_true, eq_self, hI_R, hJ_R, ng_t, ng_e, c2, r1, r2, bI_f], g, rfl, fg, fun k i hk hi => ?_⟩
        rw [i1 k i hk hi]
        by_cases hx : 64 * k + i = j
        · rw [hx, hb, Bool.and_false, Bool.and_false]
        · rw [show decide (64 * k + i < j + 1) = decide (64 * k + i < j) from by rw [decide_eq_decide]; omega]
      · rw [hb] at r2
        refine ⟨(nI (j + 1), hJ g 127 (j / 64) (g.2.2.1 127 (j / 64) ||| ((1 : Int64) <<< ((nI (j % 64)).toInt64 &&& 63)))), by simp (disch := first | assumption | omega | decide | ((repeat first | apply lyI | apply lyJ | apply lywI | apply lywJ | apply csI | apply csJ | apply cswI | apply cswJ); assumption)) only [f_X12_knowsIn_b22, f_X12_knowsIn_j127, SM, LI, ↓li_m1, nI_add, pk_mul, nn_sub, nn_m1, nn_div, nn_rem, nn_nz, nn_mod, lN_add, lN_mul, nn_tb1, nI_bt, nn_and, nn_or, nn_xor, nn_shr, nn_1shl, nn_31, il_p, il_n, it_p, it_n, ie_p, ie_n, ie_b, ie_b1, ie_m, ie_mm, it_m, it_m0, il_m0, bI_rZ, Option.bind_some, bd2_some, Nat.add_zero, Nat.zero_add, if_true, if_false, Bool.false_eq_true, eq_self, hI_R, hJ_R, ng_t, ng_e, c2, r1, r2, bI_t], _, rfl, fg.tr (FR.hJ (by decide)), fun k i hk hi => ?_⟩
        by_cases hkj : k = j / 64
        · subst hkj
          rw [rJ_eq, j_set (by omega) hi, i1 _ i hk hi]
          by_cases hx : i = j % 64
          · rw [decide_eq_true hx, Bool.or_true, show 64 * (j / 64) + i = j by omega, hb, decide_eq_true (by omega)]
            rfl
          · rw [decide_eq_false hx, Bool.or_false, show decide (64 * (j / 64) + i < j + 1) = decide (64 * (j / 64) + i < j) from by rw [decide_eq_decide]; omega]
        · rw [rJ_nk hkj, i1 k i hk hi, show decide (64 * k + i < j + 1) = decide (64 * k + i < j) from by rw [decide_eq_decide]; omega]
    · rintro _ ⟨g, rfl, fg, i1⟩
      have lg := fg.lay hl
      obtain ⟨c0, c1, c2, c3, c4, cA⟩ := cm_e (cm_fr fg (by decide) (by decide) hc)
      exact ⟨g, by simp (disch := first | assumption | omega | decide | ((repeat first | apply lyI | apply lyJ | apply lywI | apply lywJ | apply csI | apply csJ | apply cswI | apply cswJ); assumption)) only [f_X12_knowsIn_b22, SM, LI, ↓li_m1, nI_add, pk_mul, nn_sub, nn_m1, nn_div, nn_rem, nn_nz, nn_mod, nJ_l, lN_add, lN_mul, nn_tb1, nI_bt, nn_and, nn_or, nn_xor, nn_shr, nn_1shl, nn_31, il_p, il_n, it_p, it_n, ie_p, ie_n, ie_b, ie_b1, ie_m, ie_mm, it_m, it_m0, il_m0, bI_rZ, Option.bind_some, bd2_some, Nat.add_zero, Nat.zero_add, if_true, if_false, Bool.false_eq_true, eq_self, hI_R, hJ_R, ng_t, ng_e, c2], fg, i1⟩
  obtain ⟨g, e3, f3, i3⟩ := e2
  refine ⟨g, by simp (disch := first | assumption | omega | decide | ((repeat first | apply lyI | apply lyJ | apply lywI | apply lywJ | apply csI | apply csJ | apply cswI | apply cswJ); assumption)) only [f_X12_knowsIn, LI, ↓li_m1, nI_add, pk_mul, nn_sub, nn_m1, nn_div, nn_rem, nn_nz, nn_mod, nJ_l, lN_add, lN_mul, nn_tb1, nI_bt, nn_and, nn_or, nn_xor, nn_shr, nn_1shl, nn_31, il_p, il_n, it_p, it_n, ie_p, ie_n, ie_b, ie_b1, ie_m, ie_mm, it_m, it_m0, il_m0, bI_rZ, Option.bind_some, bd2_some, Nat.add_zero, Nat.zero_add, if_true, if_false, Bool.false_eq_true, eq_self, hI_R, hJ_R, ng_t, ng_e, e0, e3], f3, fun k i hk hi => ?_⟩
  rw [i3 k i hk hi]
  cases hb : knB A P v w (64 * k + i)
  · rw [Bool.and_false]
  · have : P (64 * k + i) = true := by
      unfold knB at hb
      rw [Bool.and_eq_true] at hb
      exact hb.1
    rw [decide_eq_true (hP _ this)]
    rfl
theorem kn_fr {h h' : aH} {kn : Nat → Bool} {cI cJ f0 f1 : List Nat} (hf : FR h h' cI cJ f0 f1) (h1 : 127 ∉ cJ) (k : KN h kn) : KN h' kn := by
  unfold KN
  rw [hf.J 127 h1]
  exact k
theorem r_hon1 {h : aH} (hl : LAY h) {A : Nat → Nat} {P : Nat → Bool} {Q : Nat → Nat → Bool} (hc : CM h A P Q) (hw : WF A) {v w q : Nat} (kk : KN h (knB A P v w)) (hq : q < A 3) : f_X12_honestly_l7 h 113 (nI q) (nI 1) (nI 1) (nI 0) = some (bI (wiB A P Q v w q), bI (woB A P Q v w q)) := by
  obtain ⟨b0, b1, b2l, b2, b3, b4⟩ := wf_b hw
  obtain ⟨c0, c1, c2, c3, c4, cA⟩ := cm_e hc
  let w1 : Nat → Bool := fun k => nzB (h.2.2.1 127 k &&& (h.2.2.1 115 (4 + 4 * q + k) ^^^ (-1 : Int64)))
  let w2 : Nat → Bool := fun k => nzB (h.2.2.1 127 k &&& h.2.2.1 115 (4 + 4 * q + k))
  have x1 : anyB w1 4 = anyB (fun o => knB A P v w o && !Q q o) 256 := any_w (fun k i hk hi => by
    rw [Int64.toBitVec_and, BitVec.getLsbD_and, j_not hi, kk k i hk hi, cm_Q hc (by omega) hk hi])
  have x2 : anyB w2 4 = anyB (fun o => knB A P v w o && Q q o) 256 := any_w (fun k i hk hi => by
    rw [Int64.toBitVec_and, BitVec.getLsbD_and, kk k i hk hi, cm_Q hc (by omega) hk hi])
  unfold wiB woB
  rw [← x1, ← x2, ← all_any, ← all_any]
  refine for0 (body := fun zz : Int32 × Int32 × Int32 => f_X12_honestly_b7 h 113 (nI q) zz.1 zz.2.1 zz.2.2) (fun j => (bI (allB (fun k => !w1 k) j), bI (allB (fun k => !w2 k) j), nI j)) (4) (e := (bI (allB (fun k => !w1 k) 4), bI (allB (fun k => !w2 k) 4))) (rfl) (by decide) (fun j hj => ?_) ?_
  · show f_X12_honestly_b7 h 113 (nI q) (bI (allB (fun k => !w1 k) j)) (bI (allB (fun k => !w2 k) j)) (nI j) = some (.inl (bI (allB (fun k => !w1 k) j && !w1 j), bI (allB (fun k => !w2 k) j && !w2 j), nI (j + 1)))
    cases allB (fun k => !w1 k) j <;> cases allB (fun k => !w2 k) j <;> cases h1 : w1 j <;> cases h2 : w2 j <;> simp (disch := first | assumption | omega | decide | ((repeat first | apply lyI | apply lyJ | apply lywI | apply lywJ | apply csI | apply csJ | apply cswI | apply cswJ); assumption)) only [f_X12_honestly_b7, f_X12_honestly_j51, f_X12_honestly_j52, f_X12_honestly_j87, f_X12_honestly_j88, SM, LI, ↓li_m1, nI_add, pk_mul, nn_sub, nn_m1, nn_div, nn_rem, nn_nz, nn_mod, nJ_l, lN_add, lN_mul, nn_tb1, nI_bt, nn_and, nn_or, nn_xor, nn_shr, nn_1shl, nn_31, il_p, il_n, it_p, it_n, ie_p, ie_n, ie_b, ie_b1, ie_m, ie_mm, it_m, it_m0, il_m0, bI_rZ, Option.bind_some, bd2_some, Nat.add_zero, Nat.zero_add, if_true, if_false, Bool.false_eq_true, eq_self, hI_R, hJ_R, ng_t, ng_e, bI_f, bI_t, nz_if, show nzB (h.2.2.1 127 j &&& (h.2.2.1 115 (4 + 4 * q + j) ^^^ (-1 : Int64))) = _ from h1, show nzB (h.2.2.1 127 j &&& h.2.2.1 115 (4 + 4 * q + j)) = _ from h2] <;> rfl
  · simp (disch := first | assumption | omega | decide | ((repeat first | apply lyI | apply lyJ | apply lywI | apply lywJ | apply csI | apply csJ | apply cswI | apply cswJ); assumption)) only [f_X12_honestly_b7, SM, LI, ↓li_m1, nI_add, pk_mul, nn_sub, nn_m1, nn_div, nn_rem, nn_nz, nn_mod, nJ_l, lN_add, lN_mul, nn_tb1, nI_bt, nn_and, nn_or, nn_xor, nn_shr, nn_1shl, nn_31, il_p, il_n, it_p, it_n, ie_p, ie_n, ie_b, ie_b1, ie_m, ie_mm, it_m, it_m0, il_m0, bI_rZ, Option.bind_some, bd2_some, Nat.add_zero, Nat.zero_add, if_true, if_false, Bool.false_eq_true, eq_self, hI_R, hJ_R, ng_t, ng_e]
theorem r_honest {h : aH} (hl : LAY h) {A : Nat → Nat} {P : Nat → Bool} {Q : Nat → Nat → Bool} (hc : CM h A P Q) (hw : WF A) {v w q : Nat} (kk : KN h (knB A P v w)) (hq : q < A 3) : ∃ h', f_X12_honestly h 113 (nI q) = some (nI (hnN A P Q v w q), h') ∧ FR h h' [] [128] [] [] := by
  obtain ⟨b0, b1, b2l, b2, b3, b4⟩ := wf_b hw
  obtain ⟨c0, c1, c2, c3, c4, cA⟩ := cm_e hc
  have r1 := r_hon1 hl hc hw kk hq
  have lp : ∃ e, f_X12_honestly_l110 113 (nI q) (bI (wiB A P Q v w q)) (nI 0) h = some e ∧ ∃ g, FR h g [] [128] [] [] ∧ ((∃ s, firstB (hnT A P Q v w q) (2 * A 3) = some s ∧ e = .inl (nI s, g)) ∨ (firstB (hnT A P Q v w q) (2 * A 3) = none ∧ e = .inr g)) := by
    refine whl0 (fun i (t : Int32 × aH) => ∃ g, t = (nI i, g) ∧ FR h g [] [128] [] [] ∧ ∀ s, s < i → hnT A P Q v w q s = false) _ (2 * A 3) (by omega) ⟨h, rfl, FR.rf, fun s hs => absurd hs (by omega)⟩ ?_
    rintro i _ ⟨g, rfl, fg, hi0⟩ hi
    have lg := fg.lay hl
    have cg := cm_fr fg (by decide) (by decide) hc
    obtain ⟨c0, c1, c2, c3, c4, cA⟩ := cm_e cg
    rcases Nat.lt_or_ge i (2 * A 3) with qi | qi
    · obtain ⟨g', e1, f1, me⟩ := r_means lg cg hw qi
      have lg' := f1.lay lg
      have cg' := cm_fr f1 (by decide) (by decide) cg
      have r2 := r_meant lg' (kn_fr f1 (by decide) (kn_fr fg (by decide) kk)) me
      have r3 := r_lies lg' cg' hw me hq
      have r2' : f_X12_isMeant g' 113 = some (bI (mtB A P Q v w i)) := r2
      have r3' : f_X12_liesTo g' 113 (nI q) = some (nI (lt3 (l1B P Q q i) (l2B P Q q i) (l4B P Q i))) := r3
      have ll := lt3_lt (a := l1B P Q q i) (b := l2B P Q q i) (c := l4B P Q i)
      have ff := fg.tr f1
      have nx : hnT A P Q v w q i = false → ∀ s, s < i + 1 → hnT A P Q v w q s = false := fun hh s hs => by
        rcases Nat.lt_or_ge s i with u | u
        · exact hi0 s u
        · rw [show s = i by omega, hh]
      by_cases h2 : i = 2 * q
      · refine Or.inl ⟨(nI (i + 1), g'), by simp (disch := first | assumption | omega | decide | ((repeat first | apply lyI | apply lyJ | apply lywI | apply lywJ | apply csI | apply csJ | apply cswI | apply cswJ); assumption)) only [f_X12_honestly_b110, f_X12_honestly_j168, f_X12_honestly_j161, SM, LI, ↓li_m1, nI_add, pk_mul, nn_sub, nn_m1, nn_div, nn_rem, nn_nz, nn_mod, nJ_l, lN_add, lN_mul, nn_tb1, nI_bt, nn_and, nn_or, nn_xor, nn_shr, nn_1shl, nn_31, il_p, il_n, it_p, it_n, ie_p, ie_n, ie_b, ie_b1, ie_m, ie_mm, it_m, it_m0, il_m0, bI_rZ, Option.bind_some, bd2_some, Nat.add_zero, Nat.zero_add, if_true, if_false, Bool.false_eq_true, eq_self, hI_R, hJ_R, ng_t, ng_e, c3, e1], qi, g', rfl, ff, nx ?_⟩
        unfold hnT
        rw [h2]
        simp
      · have hb : (i != 2 * q) = true := by simpa using h2
        rcases (Bool.eq_false_or_eq_true (mtB A P Q v w i)).symm with hm | hm
        · rw [hm] at r2'
          refine Or.inl ⟨(nI (i + 1), g'), by simp (disch := first | assumption | omega | decide | ((repeat first | apply lyI | apply lyJ | apply lywI | apply lywJ | apply csI | apply csJ | apply cswI | apply cswJ); assumption)) only [f_X12_honestly_b110, f_X12_honestly_j168, f_X12_honestly_j161, SM, LI, ↓li_m1, nI_add, pk_mul, nn_sub, nn_m1, nn_div, nn_rem, nn_nz, nn_mod, nJ_l, lN_add, lN_mul, nn_tb1, nI_bt, nn_and, nn_or, nn_xor, nn_shr, nn_1shl, nn_31, il_p, il_n, it_p, it_n, ie_p, ie_n, ie_b, ie_b1, ie_m, ie_mm, it_m, it_m0, il_m0, bI_rZ, Option.bind_some, bd2_some, Nat.add_zero, Nat.zero_add, if_true, if_false, Bool.false_eq_true, eq_self, hI_R, hJ_R, ng_t, ng_e, c3, e1, r2', bI_f], qi, g', rfl, ff, nx ?_⟩
          unfold hnT
          rw [hm]
          simp
        · rw [hm] at r2'
          rcases (Bool.eq_false_or_eq_true (wiB A P Q v w q)).symm with hwi | hwi
          · rw [hwi]
            have a1 : lt3 (l1B P Q q i) (l2B P Q q i) (l4B P Q i) &&& 1 < 8 := Nat.lt_of_le_of_lt Nat.and_le_left ll
            by_cases hz : lt3 (l1B P Q q i) (l2B P Q q i) (l4B P Q i) &&& 1 = 0
            · refine Or.inr ⟨.inl (nI i, g'), by simp (disch := first | assumption | omega | decide | ((repeat first | apply lyI | apply lyJ | apply lywI | apply lywJ | apply csI | apply csJ | apply cswI | apply cswJ); assumption)) only [f_X12_honestly_b110, f_X12_honestly_j168, f_X12_honestly_j161, SM, LI, ↓li_m1, nI_add, pk_mul, nn_sub, nn_m1, nn_div, nn_rem, nn_nz, nn_mod, nJ_l, lN_add, lN_mul, nn_tb1, nI_bt, nn_and, nn_or, nn_xor, nn_shr, nn_1shl, nn_31, il_p, il_n, it_p, it_n, ie_p, ie_n, ie_b, ie_b1, ie_m, ie_mm, it_m, it_m0, il_m0, bI_rZ, Option.bind_some, bd2_some, Nat.add_zero, Nat.zero_add, if_true, if_false, Bool.false_eq_true, eq_self, hI_R, hJ_R, ng_t, ng_e, c3, e1, r2', bI_t, bI_f, r3', hz], g', ff, Or.inl ⟨i, firstB_s.mpr ⟨qi, ?_, hi0⟩, rfl⟩⟩
              unfold hnT
              rw [hb, hm, hwi, if_neg (by decide), lt3_1.mp hz]
              rfl
            · refine Or.inl ⟨(nI (i + 1), g'), by simp (disch := first | assumption | omega | decide | ((repeat first | apply lyI | apply lyJ | apply lywI | apply lywJ | apply csI | apply csJ | apply cswI | apply cswJ); assumption)) only [f_X12_honestly_b110, f_X12_honestly_j168, f_X12_honestly_j161, SM, LI, ↓li_m1, nI_add, pk_mul, nn_sub, nn_m1, nn_div, nn_rem, nn_nz, nn_mod, nJ_l, lN_add, lN_mul, nn_tb1, nI_bt, nn_and, nn_or, nn_xor, nn_shr, nn_1shl, nn_31, il_p, il_n, it_p, it_n, ie_p, ie_n, ie_b, ie_b1, ie_m, ie_mm, it_m, it_m0, il_m0, bI_rZ, Option.bind_some, bd2_some, Nat.add_zero, Nat.zero_add, if_true, if_false, Bool.false_eq_true, eq_self, hI_R, hJ_R, ng_t, ng_e, c3, e1, r2', bI_t, bI_f, r3'], qi, g', rfl, ff, nx ?_⟩
              unfold hnT
              rw [hb, hm, hwi, if_neg (by decide), Bool.not_eq_false _ |>.mp (fun e => hz (lt3_1.mpr e))]
              rfl
          · rw [hwi]
            have a1 : lt3 (l1B P Q q i) (l2B P Q q i) (l4B P Q i) &&& 2 < 8 := Nat.lt_of_le_of_lt Nat.and_le_left ll
            by_cases hz : lt3 (l1B P Q q i) (l2B P Q q i) (l4B P Q i) &&& 2 = 0
            · refine Or.inr ⟨.inl (nI i, g'), by simp (disch := first | assumption | omega | decide | ((repeat first | apply lyI | apply lyJ | apply lywI | apply lywJ | apply csI | apply csJ | apply cswI | apply cswJ); assumption)) only [f_X12_honestly_b110, f_X12_honestly_j168, f_X12_honestly_j161, SM, LI, ↓li_m1, nI_add, pk_mul, nn_sub, nn_m1, nn_div, nn_rem, nn_nz, nn_mod, nJ_l, lN_add, lN_mul, nn_tb1, nI_bt, nn_and, nn_or, nn_xor, nn_shr, nn_1shl, nn_31, il_p, il_n, it_p, it_n, ie_p, ie_n, ie_b, ie_b1, ie_m, ie_mm, it_m, it_m0, il_m0, bI_rZ, Option.bind_some, bd2_some, Nat.add_zero, Nat.zero_add, if_true, if_false, Bool.false_eq_true, eq_self, hI_R, hJ_R, ng_t, ng_e, c3, e1, r2', bI_t, r3', hz], g', ff, Or.inl ⟨i, firstB_s.mpr ⟨qi, ?_, hi0⟩, rfl⟩⟩
              unfold hnT
              rw [hb, hm, hwi, if_pos rfl, lt3_2.mp hz]
              rfl
            · refine Or.inl ⟨(nI (i + 1), g'), by simp (disch := first | assumption | omega | decide | ((repeat first | apply lyI | apply lyJ | apply lywI | apply lywJ | apply csI | apply csJ | apply cswI | apply cswJ); assumption)) only [f_X12_honestly_b110, f_X12_honestly_j168, f_X12_honestly_j161, SM, LI, ↓li_m1, nI_add, pk_mul, nn_sub, nn_m1, nn_div, nn_rem, nn_nz, nn_mod, nJ_l, lN_add, lN_mul, nn_tb1, nI_bt, nn_and, nn_or, nn_xor, nn_shr, nn_1shl, nn_31, il_p, il_n, it_p, it_n, ie_p, ie_n, ie_b, ie_b1, ie_m, ie_mm, it_m, it_m0, il_m0, bI_rZ, Option.bind_some, bd2_some, Nat.add_zero, Nat.zero_add, if_true, if_false, Bool.false_eq_true, eq_self, hI_R, hJ_R, ng_t, ng_e, c3, e1, r2', bI_t, r3'], qi, g', rfl, ff, nx ?_⟩
              unfold hnT
              rw [hb, hm, hwi, if_pos rfl, Bool.not_eq_false _ |>.mp (fun e => hz (lt3_2.mpr e))]
              rfl
    · obtain rfl : i = 2 * A 3 := by omega
      exact Or.inr ⟨.inr g, by simp (disch := first | assumption | omega | decide | ((repeat first | apply lyI | apply lyJ | apply lywI | apply lywJ | apply csI | apply csJ | apply cswI | apply cswJ); assumption)) only [f_X12_honestly_b110, SM, LI, ↓li_m1, nI_add, pk_mul, nn_sub, nn_m1, nn_div, nn_rem, nn_nz, nn_mod, nJ_l, lN_add, lN_mul, nn_tb1, nI_bt, nn_and, nn_or, nn_xor, nn_shr, nn_1shl, nn_31, il_p, il_n, it_p, it_n, ie_p, ie_n, ie_b, ie_b1, ie_m, ie_mm, it_m, it_m0, il_m0, bI_rZ, Option.bind_some, bd2_some, Nat.add_zero, Nat.zero_add, if_true, if_false, Bool.false_eq_true, eq_self, hI_R, hJ_R, ng_t, ng_e, c3], g, fg, Or.inr ⟨firstB_n.mpr hi0, rfl⟩⟩
  by_cases hz : (!wiB A P Q v w q && !woB A P Q v w q) = true
  · refine ⟨h, ?_, FR.rf⟩
    unfold hnN
    rw [if_pos hz]
    rw [Bool.and_eq_true, Bool.not_eq_true', Bool.not_eq_true'] at hz
    rw [hz.1, hz.2] at r1
    simp (disch := first | assumption | omega | decide | ((repeat first | apply lyI | apply lyJ | apply lywI | apply lywJ | apply csI | apply csJ | apply cswI | apply cswJ); assumption)) only [f_X12_honestly, LI, ↓li_m1, nI_add, pk_mul, nn_sub, nn_m1, nn_div, nn_rem, nn_nz, nn_mod, nJ_l, lN_add, lN_mul, nn_tb1, nI_bt, nn_and, nn_or, nn_xor, nn_shr, nn_1shl, nn_31, il_p, il_n, it_p, it_n, ie_p, ie_n, ie_b, ie_b1, ie_m, ie_mm, it_m, it_m0, il_m0, bI_rZ, Option.bind_some, bd2_some, Nat.add_zero, Nat.zero_add, if_true, if_false, Bool.false_eq_true, eq_self, hI_R, hJ_R, ng_t, ng_e, r1, bI_f]
  · obtain ⟨_, e1, g, fg, hc2⟩ := lp
    have j107 : ∀ r, f_X12_honestly_j107 h 113 (nI q) (bI (wiB A P Q v w q)) = some r → f_X12_honestly h 113 (nI q) = some r := fun r hr => by
      cases h1 : wiB A P Q v w q <;> cases h2 : woB A P Q v w q <;> rw [h1, h2] at r1 <;> rw [h1] at hr <;> simp only [h1, h2] at hz <;> first | exact absurd rfl hz | (simp only [bI_f, bI_t] at hr; simp (disch := first | assumption | omega | decide | ((repeat first | apply lyI | apply lyJ | apply lywI | apply lywJ | apply csI | apply csJ | apply cswI | apply cswJ); assumption)) only [f_X12_honestly, LI, ↓li_m1, nI_add, pk_mul, nn_sub, nn_m1, nn_div, nn_rem, nn_nz, nn_mod, nJ_l, lN_add, lN_mul, nn_tb1, nI_bt, nn_and, nn_or, nn_xor, nn_shr, nn_1shl, nn_31, il_p, il_n, it_p, it_n, ie_p, ie_n, ie_b, ie_b1, ie_m, ie_mm, it_m, it_m0, il_m0, bI_rZ, Option.bind_some, bd2_some, Nat.add_zero, Nat.zero_add, if_true, if_false, Bool.false_eq_true, eq_self, hI_R, hJ_R, ng_t, ng_e, r1, bI_f, bI_t, hr])
    refine ⟨g, j107 _ ?_, fg⟩
    unfold hnN
    rw [if_neg hz]
    rcases hc2 with ⟨s, hx, rfl⟩ | ⟨hx, rfl⟩
    · rw [hx]
      simp (disch := first | assumption | omega | decide | ((repeat first | apply lyI | apply lyJ | apply lywI | apply lywJ | apply csI | apply csJ | apply cswI | apply cswJ); assumption)) only [f_X12_honestly_j107, LI, ↓li_m1, nI_add, pk_mul, nn_sub, nn_m1, nn_div, nn_rem, nn_nz, nn_mod, nJ_l, lN_add, lN_mul, nn_tb1, nI_bt, nn_and, nn_or, nn_xor, nn_shr, nn_1shl, nn_31, il_p, il_n, it_p, it_n, ie_p, ie_n, ie_b, ie_b1, ie_m, ie_mm, it_m, it_m0, il_m0, bI_rZ, Option.bind_some, bd2_some, Nat.add_zero, Nat.zero_add, if_true, if_false, Bool.false_eq_true, eq_self, hI_R, hJ_R, ng_t, ng_e, e1]
    · rw [hx]
      simp (disch := first | assumption | omega | decide | ((repeat first | apply lyI | apply lyJ | apply lywI | apply lywJ | apply csI | apply csJ | apply cswI | apply cswJ); assumption)) only [f_X12_honestly_j107, LI, ↓li_m1, nI_add, pk_mul, nn_sub, nn_m1, nn_div, nn_rem, nn_nz, nn_mod, nJ_l, lN_add, lN_mul, nn_tb1, nI_bt, nn_and, nn_or, nn_xor, nn_shr, nn_1shl, nn_31, il_p, il_n, it_p, it_n, ie_p, ie_n, ie_b, ie_b1, ie_m, ie_mm, it_m, it_m0, il_m0, bI_rZ, Option.bind_some, bd2_some, Nat.add_zero, Nat.zero_add, if_true, if_false, Bool.false_eq_true, eq_self, hI_R, hJ_R, ng_t, ng_e, e1]
theorem r_other {h : aH} (hl : LAY h) {A : Nat → Nat} {P : Nat → Bool} {Q : Nat → Nat → Bool} (hc : CM h A P Q) (hw : WF A) {v w q : Nat} (kk : KN h (knB A P v w)) (hq : q < A 3) : ∃ h', f_X12_otherwise h 113 (nI q) = some (nI (otN A P Q v w q), h') ∧ FR h h' [] [128] [] [] := by
  obtain ⟨b0, b1, b2l, b2, b3, b4⟩ := wf_b hw
  obtain ⟨c0, c1, c2, c3, c4, cA⟩ := cm_e hc
  have lp : ∃ e, f_X12_otherwise_l2 113 (nI q) (nI 0) h = some e ∧ ∃ g, FR h g [] [128] [] [] ∧ ((∃ s, firstB (otT A P Q v w q) (2 * A 3) = some s ∧ e = .inl (nI s, g)) ∨ (firstB (otT A P Q v w q) (2 * A 3) = none ∧ e = .inr g)) := by
    refine whl0 (fun i (t : Int32 × aH) => ∃ g, t = (nI i, g) ∧ FR h g [] [128] [] [] ∧ ∀ s, s < i → otT A P Q v w q s = false) _ (2 * A 3) (by omega) ⟨h, rfl, FR.rf, fun s hs => absurd hs (by omega)⟩ ?_
    rintro i _ ⟨g, rfl, fg, hi0⟩ hi
    have lg := fg.lay hl
    have cg := cm_fr fg (by decide) (by decide) hc
    obtain ⟨c0, c1, c2, c3, c4, cA⟩ := cm_e cg
    rcases Nat.lt_or_ge i (2 * A 3) with qi | qi
    · have nx : otT A P Q v w q i = false → ∀ s, s < i + 1 → otT A P Q v w q s = false := fun hh s hs => by
        rcases Nat.lt_or_ge s i with u | u
        · exact hi0 s u
        · rw [show s = i by omega, hh]
      by_cases h2 : i / 2 = q
      · refine Or.inl ⟨(nI (i + 1), g), by simp (disch := first | assumption | omega | decide | ((repeat first | apply lyI | apply lyJ | apply lywI | apply lywJ | apply csI | apply csJ | apply cswI | apply cswJ); assumption)) only [f_X12_otherwise_b2, f_X12_otherwise_j48, SM, LI, ↓li_m1, nI_add, pk_mul, nn_sub, nn_m1, nn_div, nn_rem, nn_nz, nn_mod, nJ_l, lN_add, lN_mul, nn_tb1, nI_bt, nn_and, nn_or, nn_xor, nn_shr, nn_1shl, nn_31, il_p, il_n, it_p, it_n, ie_p, ie_n, ie_b, ie_b1, ie_m, ie_mm, it_m, it_m0, il_m0, bI_rZ, Option.bind_some, bd2_some, Nat.add_zero, Nat.zero_add, if_true, if_false, Bool.false_eq_true, eq_self, hI_R, hJ_R, ng_t, ng_e, c3, h2], qi, g, rfl, fg, nx ?_⟩
        unfold otT
        rw [h2]
        simp
      · have hb : (i / 2 != q) = true := by simpa using h2
        obtain ⟨g', e1, f1, me⟩ := r_means lg cg hw qi
        have lg' := f1.lay lg
        have cg' := cm_fr f1 (by decide) (by decide) cg
        have r2 : f_X12_isMeant g' 113 = some (bI (mtB A P Q v w i)) := r_meant lg' (kn_fr f1 (by decide) (kn_fr fg (by decide) kk)) me
        have r3 : f_X12_liesTo g' 113 (nI q) = some (nI (lt3 (l1B P Q q i) (l2B P Q q i) (l4B P Q i))) := r_lies lg' cg' hw me hq
        have ll := lt3_lt (a := l1B P Q q i) (b := l2B P Q q i) (c := l4B P Q i)
        have ff := fg.tr f1
        rcases (Bool.eq_false_or_eq_true (mtB A P Q v w i)).symm with hm | hm
        · rw [hm] at r2
          refine Or.inl ⟨(nI (i + 1), g'), by simp (disch := first | assumption | omega | decide | ((repeat first | apply lyI | apply lyJ | apply lywI | apply lywJ | apply csI | apply csJ | apply cswI | apply cswJ); assumption)) only [f_X12_otherwise_b2, f_X12_otherwise_j48, SM, LI, ↓li_m1, nI_add, pk_mul, nn_sub, nn_m1, nn_div, nn_rem, nn_nz, nn_mod, nJ_l, lN_add, lN_mul, nn_tb1, nI_bt, nn_and, nn_or, nn_xor, nn_shr, nn_1shl, nn_31, il_p, il_n, it_p, it_n, ie_p, ie_n, ie_b, ie_b1, ie_m, ie_mm, it_m, it_m0, il_m0, bI_rZ, Option.bind_some, bd2_some, Nat.add_zero, Nat.zero_add, if_true, if_false, Bool.false_eq_true, eq_self, hI_R, hJ_R, ng_t, ng_e, c3, e1, r2, bI_f], qi, g', rfl, ff, nx ?_⟩
          unfold otT
          rw [hm]
          simp
        · rw [hm] at r2
          by_cases h7 : lt3 (l1B P Q q i) (l2B P Q q i) (l4B P Q i) = 7
          · refine Or.inr ⟨.inl (nI i, g'), by simp (disch := first | assumption | omega | decide | ((repeat first | apply lyI | apply lyJ | apply lywI | apply lywJ | apply csI | apply csJ | apply cswI | apply cswJ); assumption)) only [f_X12_otherwise_b2, f_X12_otherwise_j48, SM, LI, ↓li_m1, nI_add, pk_mul, nn_sub, nn_m1, nn_div, nn_rem, nn_nz, nn_mod, nJ_l, lN_add, lN_mul, nn_tb1, nI_bt, nn_and, nn_or, nn_xor, nn_shr, nn_1shl, nn_31, il_p, il_n, it_p, it_n, ie_p, ie_n, ie_b, ie_b1, ie_m, ie_mm, it_m, it_m0, il_m0, bI_rZ, Option.bind_some, bd2_some, Nat.add_zero, Nat.zero_add, if_true, if_false, Bool.false_eq_true, eq_self, hI_R, hJ_R, ng_t, ng_e, c3, e1, r2, bI_t, r3, h7], g', ff, Or.inl ⟨i, firstB_s.mpr ⟨qi, ?_, hi0⟩, rfl⟩⟩
            unfold otT
            rw [hb, hm, lt3_7.mp h7]
            rfl
          · refine Or.inl ⟨(nI (i + 1), g'), by simp (disch := first | assumption | omega | decide | ((repeat first | apply lyI | apply lyJ | apply lywI | apply lywJ | apply csI | apply csJ | apply cswI | apply cswJ); assumption)) only [f_X12_otherwise_b2, f_X12_otherwise_j48, SM, LI, ↓li_m1, nI_add, pk_mul, nn_sub, nn_m1, nn_div, nn_rem, nn_nz, nn_mod, nJ_l, lN_add, lN_mul, nn_tb1, nI_bt, nn_and, nn_or, nn_xor, nn_shr, nn_1shl, nn_31, il_p, il_n, it_p, it_n, ie_p, ie_n, ie_b, ie_b1, ie_m, ie_mm, it_m, it_m0, il_m0, bI_rZ, Option.bind_some, bd2_some, Nat.add_zero, Nat.zero_add, if_true, if_false, Bool.false_eq_true, eq_self, hI_R, hJ_R, ng_t, ng_e, c3, e1, r2, bI_t, r3], qi, g', rfl, ff, nx ?_⟩
            unfold otT
            rw [hm, Bool.not_eq_true _ |>.mp (fun e => h7 (lt3_7.mpr e))]
            simp
    · obtain rfl : i = 2 * A 3 := by omega
      exact Or.inr ⟨.inr g, by simp (disch := first | assumption | omega | decide | ((repeat first | apply lyI | apply lyJ | apply lywI | apply lywJ | apply csI | apply csJ | apply cswI | apply cswJ); assumption)) only [f_X12_otherwise_b2, SM, LI, ↓li_m1, nI_add, pk_mul, nn_sub, nn_m1, nn_div, nn_rem, nn_nz, nn_mod, nJ_l, lN_add, lN_mul, nn_tb1, nI_bt, nn_and, nn_or, nn_xor, nn_shr, nn_1shl, nn_31, il_p, il_n, it_p, it_n, ie_p, ie_n, ie_b, ie_b1, ie_m, ie_mm, it_m, it_m0, il_m0, bI_rZ, Option.bind_some, bd2_some, Nat.add_zero, Nat.zero_add, if_true, if_false, Bool.false_eq_true, eq_self, hI_R, hJ_R, ng_t, ng_e, c3], g, fg, Or.inr ⟨firstB_n.mpr hi0, rfl⟩⟩
  obtain ⟨_, e1, g, fg, hc2⟩ := lp
  refine ⟨g, ?_, fg⟩
  unfold otN
  rcases hc2 with ⟨s, hx, rfl⟩ | ⟨hx, rfl⟩
  · rw [hx]
    simp (disch := first | assumption | omega | decide | ((repeat first | apply lyI | apply lyJ | apply lywI | apply lywJ | apply csI | apply csJ | apply cswI | apply cswJ); assumption)) only [f_X12_otherwise, LI, ↓li_m1, nI_add, pk_mul, nn_sub, nn_m1, nn_div, nn_rem, nn_nz, nn_mod, nJ_l, lN_add, lN_mul, nn_tb1, nI_bt, nn_and, nn_or, nn_xor, nn_shr, nn_1shl, nn_31, il_p, il_n, it_p, it_n, ie_p, ie_n, ie_b, ie_b1, ie_m, ie_mm, it_m, it_m0, il_m0, bI_rZ, Option.bind_some, bd2_some, Nat.add_zero, Nat.zero_add, if_true, if_false, Bool.false_eq_true, eq_self, hI_R, hJ_R, ng_t, ng_e, e1]
  · rw [hx]
    simp (disch := first | assumption | omega | decide | ((repeat first | apply lyI | apply lyJ | apply lywI | apply lywJ | apply csI | apply csJ | apply cswI | apply cswJ); assumption)) only [f_X12_otherwise, LI, ↓li_m1, nI_add, pk_mul, nn_sub, nn_m1, nn_div, nn_rem, nn_nz, nn_mod, nJ_l, lN_add, lN_mul, nn_tb1, nI_bt, nn_and, nn_or, nn_xor, nn_shr, nn_1shl, nn_31, il_p, il_n, it_p, it_n, ie_p, ie_n, ie_b, ie_b1, ie_m, ie_mm, it_m, it_m0, il_m0, bI_rZ, Option.bind_some, bd2_some, Nat.add_zero, Nat.zero_add, if_true, if_false, Bool.false_eq_true, eq_self, hI_R, hJ_R, ng_t, ng_e, e1]
