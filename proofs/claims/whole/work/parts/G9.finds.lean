/-! ===== the reference finds which worlds can be ===== -/
theorem r_can1 {k : aH} (kl : LAY k) {A Bv : Nat → Nat} (ak : ATn k A) (wf : WF A) (bk : ∀ v, v < 24 → k.2.1 122 v = nI (Bv v)) (bb : ∀ v, v < 24 → Bv v < 2 ^ 24) {w f : Nat} (hw : w < 256) (hf : f < A 0) (b : Bool) : f_X12_finds_l57 k 113 (nI w) (nI f) (bI b) (nI 0) = some (bI (b && okF A Bv w f)) := by
  obtain ⟨b0, b1, b2l, b2, b3, b4⟩ := wf_b wf
  refine for0 (body := fun zz : Int32 × Int32 => f_X12_finds_b57 k 113 (nI w) (nI f) zz.1 zz.2) (fun j => (bI (b && allB (fun g => !(Bv (valN A w f)).testBit (valN A w g)) j), nI j)) (f) (e := bI (b && okF A Bv w f)) (by rw [show allB (fun g => !(Bv (valN A w f)).testBit (valN A w g)) 0 = true from rfl, Bool.and_true]) (by omega) (fun j hj => ?_) ?_
  · have s1 : allB (fun g => !(Bv (valN A w f)).testBit (valN A w g)) (j + 1) = (allB (fun g => !(Bv (valN A w f)).testBit (valN A w g)) j && !(Bv (valN A w f)).testBit (valN A w j)) := rfl
    have v1 := r_vN kl ak wf hw hf
    have v2 := r_vN kl ak wf hw (f := j) (by omega)
    have l1 := val_lt wf (w := w) hf
    have l2 := val_lt wf (w := w) (f := j) (by omega)
    have n1 := bk (valN A w f) (by omega)
    have n2 := bb (valN A w f) (by omega)
    rw [s1]
    cases hb : (b && allB (fun g => !(Bv (valN A w f)).testBit (valN A w g)) j) with
    | false =>
      rw [show (b && (allB (fun g => !(Bv (valN A w f)).testBit (valN A w g)) j && !(Bv (valN A w f)).testBit (valN A w j))) = false by rw [← Bool.and_assoc, hb, Bool.false_and], bI_f]
      simp (disch := first | assumption | omega | decide | ((repeat first | apply lyI | apply lyJ | apply lywI | apply lywJ | apply csI | apply csJ | apply cswI | apply cswJ); assumption)) only [f_X12_finds_b57, f_X12_finds_j101, f_X12_finds_j102, SM, LI, ↓li_m1, nI_add, pk_mul, nn_sub, nn_m1, nn_div, nn_rem, nn_nz, nn_mod, nJ_l, lN_add, lN_mul, nn_tb1, nI_bt, nn_and, nn_or, nn_xor, nn_shr, nn_1shl, nn_31, il_p, il_n, it_p, it_n, ie_p, ie_n, ie_b, ie_b1, ie_m, ie_mm, it_m, it_m0, il_m0, bI_rZ, Option.bind_some, bd2_some, Nat.add_zero, Nat.zero_add, if_true, if_false, Bool.false_eq_true, eq_self, hI_R, hJ_R, ng_t, ng_e]
    | true =>
      rw [show (b && (allB (fun g => !(Bv (valN A w f)).testBit (valN A w g)) j && !(Bv (valN A w f)).testBit (valN A w j))) = !(Bv (valN A w f)).testBit (valN A w j) by rw [← Bool.and_assoc, hb, Bool.true_and], bI_t]
      cases ht : (Bv (valN A w f)).testBit (valN A w j) with
      | false =>
        rw [show (!false) = true from rfl, bI_t]
        simp (disch := first | assumption | omega | decide | ((repeat first | apply lyI | apply lyJ | apply lywI | apply lywJ | apply csI | apply csJ | apply cswI | apply cswJ); assumption)) only [f_X12_finds_b57, f_X12_finds_j101, f_X12_finds_j102, SM, LI, ↓li_m1, nI_add, pk_mul, nn_sub, nn_m1, nn_div, nn_rem, nn_nz, nn_mod, nJ_l, lN_add, lN_mul, nn_tb1, nI_bt, nn_and, nn_or, nn_xor, nn_shr, nn_1shl, nn_31, il_p, il_n, it_p, it_n, ie_p, ie_n, ie_b, ie_b1, ie_m, ie_mm, it_m, it_m0, il_m0, bI_rZ, Option.bind_some, bd2_some, Nat.add_zero, Nat.zero_add, if_true, if_false, Bool.false_eq_true, eq_self, hI_R, hJ_R, ng_t, ng_e, v1, n1, v2, ht]
      | true =>
        rw [show (!true) = false from rfl, bI_f]
        simp (disch := first | assumption | omega | decide | ((repeat first | apply lyI | apply lyJ | apply lywI | apply lywJ | apply csI | apply csJ | apply cswI | apply cswJ); assumption)) only [f_X12_finds_b57, f_X12_finds_j101, f_X12_finds_j102, SM, LI, ↓li_m1, nI_add, pk_mul, nn_sub, nn_m1, nn_div, nn_rem, nn_nz, nn_mod, nJ_l, lN_add, lN_mul, nn_tb1, nI_bt, nn_and, nn_or, nn_xor, nn_shr, nn_1shl, nn_31, il_p, il_n, it_p, it_n, ie_p, ie_n, ie_b, ie_b1, ie_m, ie_mm, it_m, it_m0, il_m0, bI_rZ, Option.bind_some, bd2_some, Nat.add_zero, Nat.zero_add, if_true, if_false, Bool.false_eq_true, eq_self, hI_R, hJ_R, ng_t, ng_e, v1, n1, v2, ht]
  · simp (disch := first | assumption | omega | decide | ((repeat first | apply lyI | apply lyJ | apply lywI | apply lywJ | apply csI | apply csJ | apply cswI | apply cswJ); assumption)) only [f_X12_finds_b57, LI, ↓li_m1, nI_add, pk_mul, nn_sub, nn_m1, nn_div, nn_rem, nn_nz, nn_mod, nJ_l, lN_add, lN_mul, nn_tb1, nI_bt, nn_and, nn_or, nn_xor, nn_shr, nn_1shl, nn_31, il_p, il_n, it_p, it_n, ie_p, ie_n, ie_b, ie_b1, ie_m, ie_mm, it_m, it_m0, il_m0, bI_rZ, Option.bind_some, bd2_some, Nat.add_zero, Nat.zero_add, if_true, if_false, Bool.false_eq_true, eq_self, hI_R, hJ_R, ng_t, ng_e]
    rfl
theorem r_can2 {k : aH} (kl : LAY k) {A Bv : Nat → Nat} (ak : ATn k A) (wf : WF A) (bk : ∀ v, v < 24 → k.2.1 122 v = nI (Bv v)) (bb : ∀ v, v < 24 → Bv v < 2 ^ 24) {w : Nat} (hw : w < 256) : f_X12_finds_l42 k 113 (nI w) (nI 1) (nI 0) = some (bI (allB (okF A Bv w) (A 0))) := by
  obtain ⟨b0, b1, b2l, b2, b3, b4⟩ := wf_b wf
  have c0 : k.2.1 114 1600 = nI (A 0) := ak 0 (by decide) (by decide)
  refine for0 (body := fun zz : Int32 × Int32 => f_X12_finds_b42 k 113 (nI w) zz.1 zz.2) (fun j => (bI (allB (okF A Bv w) j), nI j)) (A 0) (e := bI (allB (okF A Bv w) (A 0))) (rfl) (by omega) (fun j hj => ?_) ?_
  · have e := r_can1 kl ak wf bk bb hw hj (allB (okF A Bv w) j)
    rw [show allB (okF A Bv w) (j + 1) = (allB (okF A Bv w) j && okF A Bv w j) from rfl]
    simp (disch := first | assumption | omega | decide | ((repeat first | apply lyI | apply lyJ | apply lywI | apply lywJ | apply csI | apply csJ | apply cswI | apply cswJ); assumption)) only [f_X12_finds_b42, SM, LI, ↓li_m1, nI_add, pk_mul, nn_sub, nn_m1, nn_div, nn_rem, nn_nz, nn_mod, nJ_l, lN_add, lN_mul, nn_tb1, nI_bt, nn_and, nn_or, nn_xor, nn_shr, nn_1shl, nn_31, il_p, il_n, it_p, it_n, ie_p, ie_n, ie_b, ie_b1, ie_m, ie_mm, it_m, it_m0, il_m0, bI_rZ, Option.bind_some, bd2_some, Nat.add_zero, Nat.zero_add, if_true, if_false, Bool.false_eq_true, eq_self, hI_R, hJ_R, ng_t, ng_e, c0, e]
  · simp (disch := first | assumption | omega | decide | ((repeat first | apply lyI | apply lyJ | apply lywI | apply lywJ | apply csI | apply csJ | apply cswI | apply cswJ); assumption)) only [f_X12_finds_b42, SM, LI, ↓li_m1, nI_add, pk_mul, nn_sub, nn_m1, nn_div, nn_rem, nn_nz, nn_mod, nJ_l, lN_add, lN_mul, nn_tb1, nI_bt, nn_and, nn_or, nn_xor, nn_shr, nn_1shl, nn_31, il_p, il_n, it_p, it_n, ie_p, ie_n, ie_b, ie_b1, ie_m, ie_mm, it_m, it_m0, il_m0, bI_rZ, Option.bind_some, bd2_some, Nat.add_zero, Nat.zero_add, if_true, if_false, Bool.false_eq_true, eq_self, hI_R, hJ_R, ng_t, ng_e, c0]
theorem r_finds {k : aH} (kl : LAY k) {A Bv : Nat → Nat} (ak : ATn k A) (wf : WF A) (bk : ∀ v, v < 24 → k.2.1 122 v = nI (Bv v)) (bb : ∀ v, v < 24 → Bv v < 2 ^ 24) : ∃ k', f_X12_finds k 113 = some k' ∧ FR k k' [] [115] [] [] ∧ (∀ x, x < 208 ∨ 212 ≤ x → k'.2.2.1 115 x = k.2.2.1 115 x) ∧ ∀ w, w < 256 → rBit k' 115 208 w = cnP A Bv w := by
  obtain ⟨b0, b1, b2l, b2, b3, b4⟩ := wf_b wf
  have e1 : ∃ h', f_X12_finds_l2 113 (nI 0) k = some h' ∧ FR k h' [] [115] [] [] ∧ (∀ x, x < 4 → h'.2.2.1 115 (208 + x) = 0) ∧ ∀ x, x < 208 ∨ 212 ≤ x → h'.2.2.1 115 x = k.2.2.1 115 x := by
    refine forI (fun j (t : Int32 × aH) => ∃ g, t = (nI j, g) ∧ FR k g [] [115] [] [] ∧ (∀ x, x < j → g.2.2.1 115 (208 + x) = 0) ∧ ∀ x, x < 208 ∨ 212 ≤ x → g.2.2.1 115 x = k.2.2.1 115 x) _ 4 (by decide) ⟨k, rfl, FR.rf, fun x hx => absurd hx (by omega), fun _ _ => rfl⟩ ?_ ?_
    · rintro j _ hj ⟨g, rfl, fg, i1, i2⟩
      have lg := fg.lay kl
      refine ⟨(nI (j + 1), hJ g 115 (208 + j) 0), by simp (disch := first | assumption | omega | decide | ((repeat first | apply lyI | apply lyJ | apply lywI | apply lywJ | apply csI | apply csJ | apply cswI | apply cswJ); assumption)) only [f_X12_finds_b2, SM, LI, ↓li_m1, nI_add, pk_mul, nn_sub, nn_m1, nn_div, nn_rem, nn_nz, nn_mod, nJ_l, lN_add, lN_mul, nn_tb1, nI_bt, nn_and, nn_or, nn_xor, nn_shr, nn_1shl, nn_31, il_p, il_n, it_p, it_n, ie_p, ie_n, ie_b, ie_b1, ie_m, ie_mm, it_m, it_m0, il_m0, bI_rZ, Option.bind_some, bd2_some, Nat.add_zero, Nat.zero_add, if_true, if_false, Bool.false_eq_true, eq_self, hI_R, hJ_R, ng_t, ng_e], _, rfl, fg.tr (FR.hJ (by decide)), fun x hx => ?_, fun x hx => ?_⟩
      · by_cases hxj : x = j
        · rw [hxj, rJ_eq]
        · rw [rJ_nk (by omega)]
          exact i1 x (by omega)
      · rw [rJ_nk (by omega)]
        exact i2 x hx
    · rintro _ ⟨g, rfl, fg, i1, i2⟩
      exact ⟨g, by simp (disch := first | assumption | omega | decide | ((repeat first | apply lyI | apply lyJ | apply lywI | apply lywJ | apply csI | apply csJ | apply cswI | apply cswJ); assumption)) only [f_X12_finds_b2, LI, ↓li_m1, nI_add, pk_mul, nn_sub, nn_m1, nn_div, nn_rem, nn_nz, nn_mod, nJ_l, lN_add, lN_mul, nn_tb1, nI_bt, nn_and, nn_or, nn_xor, nn_shr, nn_1shl, nn_31, il_p, il_n, it_p, it_n, ie_p, ie_n, ie_b, ie_b1, ie_m, ie_mm, it_m, it_m0, il_m0, bI_rZ, Option.bind_some, bd2_some, Nat.add_zero, Nat.zero_add, if_true, if_false, Bool.false_eq_true, eq_self, hI_R, hJ_R, ng_t, ng_e], fg, i1, i2⟩
  obtain ⟨g0, e0, f0, z0, y0⟩ := e1
  have e2 : ∃ h', f_X12_finds_l26 113 (nI 0) g0 = some h' ∧ FR k h' [] [115] [] [] ∧ (∀ u, u < 256 → rBit h' 115 208 u = (decide (u < A 2) && allB (okF A Bv u) (A 0))) ∧ ∀ x, x < 208 ∨ 212 ≤ x → h'.2.2.1 115 x = k.2.2.1 115 x := by
    refine forI (fun j (t : Int32 × aH) => ∃ g, t = (nI j, g) ∧ FR k g [] [115] [] [] ∧ (∀ u, u < 256 → rBit g 115 208 u = (decide (u < j) && allB (okF A Bv u) (A 0))) ∧ ∀ x, x < 208 ∨ 212 ≤ x → g.2.2.1 115 x = k.2.2.1 115 x) _ (A 2) (by omega) ⟨g0, rfl, f0, fun u hu => by
      unfold rBit
      rw [z0 (u / 64) (by omega), decide_eq_false (by omega), Bool.false_and, show (0 : Int64).toBitVec = 0#64 from rfl, BitVec.getLsbD_zero], y0⟩ ?_ ?_
    · rintro j _ hj ⟨g, rfl, fg, i1, i2⟩
      have lg := fg.lay kl
      have ag := at_fr fg (by decide) ak
      have c2 : g.2.1 114 1602 = nI (A 2) := ag 2 (by decide) (by decide)
      have r2 := r_can2 lg ag wf (fun v hv => by rw [fg.I 122 (by decide) (by decide) (by decide)]; exact bk v hv) bb (w := j) (by omega)
      cases hb : allB (okF A Bv j) (A 0) with
      | false =>
        rw [hb] at r2
        refine ⟨(nI (j + 1), g), by simp (disch := first | assumption | omega | decide | ((repeat first | apply lyI | apply lyJ | apply lywI | apply lywJ | apply csI | apply csJ | apply cswI | apply cswJ); assumption)) only [f_X12_finds_b26, f_X12_finds_j141, SM, LI, ↓li_m1, nI_add, pk_mul, nn_sub, nn_m1, nn_div, nn_rem, nn_nz, nn_mod, nJ_l, lN_add, lN_mul, nn_tb1, nI_bt, nn_and, nn_or, nn_xor, nn_shr, nn_1shl, nn_31, il_p, il_n, it_p, it_n, ie_p, ie_n, ie_b, ie_b1, ie_m, ie_mm, it_m, it_m0, il_m0, bI_rZ, Option.bind_some, bd2_some, Nat.add_zero, Nat.zero_add, if_true, if_false, Bool.false_eq_true, eq_self, hI_R, hJ_R, ng_t, ng_e, c2, r2, bI_f], g, rfl, fg, fun u hu => ?_, i2⟩
        rw [i1 u hu]
        by_cases hy : u = j
        · rw [hy, hb, Bool.and_false, Bool.and_false]
        · rw [show decide (u < j + 1) = decide (u < j) from by rw [decide_eq_decide]; omega]
      | true =>
        rw [hb] at r2
        refine ⟨(nI (j + 1), hJ g 115 (208 + j / 64) (g.2.2.1 115 (208 + j / 64) ||| ((1 : Int64) <<< ((nI (j % 64)).toInt64 &&& 63)))), by simp (disch := first | assumption | omega | decide | ((repeat first | apply lyI | apply lyJ | apply lywI | apply lywJ | apply csI | apply csJ | apply cswI | apply cswJ); assumption)) only [f_X12_finds_b26, f_X12_finds_j141, SM, LI, ↓li_m1, nI_add, pk_mul, nn_sub, nn_m1, nn_div, nn_rem, nn_nz, nn_mod, lN_add, lN_mul, nn_tb1, nI_bt, nn_and, nn_or, nn_xor, nn_shr, nn_1shl, nn_31, il_p, il_n, it_p, it_n, ie_p, ie_n, ie_b, ie_b1, ie_m, ie_mm, it_m, it_m0, il_m0, bI_rZ, Option.bind_some, bd2_some, Nat.add_zero, Nat.zero_add, if_true, if_false, Bool.false_eq_true, eq_self, hI_R, hJ_R, ng_t, ng_e, c2, r2, bI_t], _, rfl, fg.tr (FR.hJ (by decide)), fun u hu => ?_, fun x hx => ?_⟩
        · rw [rb_set (by omega) hu (Or.inl rfl), i1 u hu, decide_eq_true rfl, Bool.true_and]
          by_cases hy : u = j
          · subst hy
            rw [hb, decide_eq_true rfl, Bool.or_true, decide_eq_true (by omega)]
            rfl
          · rw [decide_eq_false hy, Bool.or_false, show decide (u < j + 1) = decide (u < j) from by rw [decide_eq_decide]; omega]
        · rw [rJ_nk (by omega)]
          exact i2 x hx
    · rintro _ ⟨g, rfl, fg, i1, i2⟩
      have lg := fg.lay kl
      have c2 : g.2.1 114 1602 = nI (A 2) := at_fr fg (by decide) ak 2 (by decide) (by decide)
      exact ⟨g, by simp (disch := first | assumption | omega | decide | ((repeat first | apply lyI | apply lyJ | apply lywI | apply lywJ | apply csI | apply csJ | apply cswI | apply cswJ); assumption)) only [f_X12_finds_b26, SM, LI, ↓li_m1, nI_add, pk_mul, nn_sub, nn_m1, nn_div, nn_rem, nn_nz, nn_mod, nJ_l, lN_add, lN_mul, nn_tb1, nI_bt, nn_and, nn_or, nn_xor, nn_shr, nn_1shl, nn_31, il_p, il_n, it_p, it_n, ie_p, ie_n, ie_b, ie_b1, ie_m, ie_mm, it_m, it_m0, il_m0, bI_rZ, Option.bind_some, bd2_some, Nat.add_zero, Nat.zero_add, if_true, if_false, Bool.false_eq_true, eq_self, hI_R, hJ_R, ng_t, ng_e, c2], fg, i1, i2⟩
  obtain ⟨g, e3, f3, i3, y3⟩ := e2
  refine ⟨g, by simp (disch := first | assumption | omega | decide | ((repeat first | apply lyI | apply lyJ | apply lywI | apply lywJ | apply csI | apply csJ | apply cswI | apply cswJ); assumption)) only [f_X12_finds, LI, ↓li_m1, nI_add, pk_mul, nn_sub, nn_m1, nn_div, nn_rem, nn_nz, nn_mod, nJ_l, lN_add, lN_mul, nn_tb1, nI_bt, nn_and, nn_or, nn_xor, nn_shr, nn_1shl, nn_31, il_p, il_n, it_p, it_n, ie_p, ie_n, ie_b, ie_b1, ie_m, ie_mm, it_m, it_m0, il_m0, bI_rZ, Option.bind_some, bd2_some, Nat.add_zero, Nat.zero_add, if_true, if_false, Bool.false_eq_true, eq_self, hI_R, hJ_R, ng_t, ng_e, e0, e3], f3, y3, fun w hw => ?_⟩
  rw [i3 w hw]
  rfl
