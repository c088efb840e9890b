/-! ===== the class makes the worlds ===== -/
theorem wf_2 {A : Nat → Nat} (hw : WF A) : ∀ f, f < A 0 → 2 ≤ A (60 + f) := fun f hf => (hw.1.2.2.2.2 f hf).1
theorem d_valueIn {h : aH} {c : Nat} (hs : CS h c) {A : Nat → Nat} (hw : WF A) {w f : Nat} (h1 : w < 256) (hf : f < A 0) (e1 : h.2.1 (c + 5) f = nI (A (56 + f))) (e2 : h.2.1 (c + 5) (f + 1) = nI (A (56 + f) + A (60 + f))) (e3 : h.2.1 (c + 6) f = nI (strd A f)) : f_X1_valueIn h c (nI w) (nI f) = some (nI (valN A w f)) := by
  obtain ⟨b0, b1, b2l, b2, b3, b4⟩ := wf_b hw
  obtain ⟨q1, q2, q3⟩ := hw.1.2.2.2.2 f hf
  have s0 : 0 < strd A f := stM_pos (wf_2 hw) _ (by omega)
  have s1 := strd_le hw f
  have d1 : w / strd A f < 256 := Nat.lt_of_le_of_lt (Nat.div_le_self _ _) (by omega)
  simp (disch := first | assumption | omega | decide | ((repeat first | apply lyI | apply lyJ | apply lywI | apply lywJ | apply csI | apply csJ | apply cswI | apply cswJ); assumption)) only [f_X1_valueIn, SC, LI, ↓li_m1, nI_add, pk_mul, nn_sub, nn_m1, nn_div, nn_rem, nn_nz, nn_mod, nJ_l, lN_add, lN_mul, nn_tb1, nI_bt, nn_and, nn_or, nn_xor, nn_shr, nn_1shl, nn_31, il_p, il_n, it_p, it_n, ie_p, ie_n, ie_b, ie_b1, ie_m, ie_mm, it_m, it_m0, il_m0, bI_rZ, Option.bind_some, bd2_some, Nat.add_zero, Nat.zero_add, if_true, if_false, Bool.false_eq_true, eq_self, hI_R, hJ_R, ng_t, ng_e, e1, e2, e3, Nat.add_sub_cancel_left]
  rfl
def tgN (A : Nat → Nat) (w : Nat) : Nat → Nat := orN (fun g => 2 ^ valN A w g)
theorem tg_0 {b : Nat} {A : Nat → Nat} {w f : Nat} : (b &&& tgN A w f = 0) ↔ allB (fun g => !b.testBit (valN A w g)) f = true := by
  rw [allB_iff]
  constructor
  · intro e g hg
    cases hb : b.testBit (valN A w g)
    · rfl
    · have h2 : (b &&& tgN A w f).testBit (valN A w g) = true := by
        rw [Nat.testBit_and, hb, Bool.true_and]
        unfold tgN
        rw [orN_bit, anyB_iff]
        exact ⟨g, hg, by rw [Nat.testBit_two_pow]; simp⟩
      rw [e, Nat.zero_testBit] at h2
      cases h2
  · intro e
    apply Nat.eq_of_testBit_eq
    intro k
    rw [Nat.zero_testBit, Nat.testBit_and]
    cases ha : (tgN A w f).testBit k
    · rw [Bool.and_false]
    · unfold tgN at ha
      rw [orN_bit, anyB_iff] at ha
      obtain ⟨g, hg, hk⟩ := ha
      rw [Nat.testBit_two_pow] at hk
      have hk' : valN A w g = k := by simpa using hk
      have := e g hg
      rw [hk'] at this
      have e2 : b.testBit k = false := by simpa using this
      rw [e2, Bool.false_and]
def okF (A Bv : Nat → Nat) (w f : Nat) : Bool := allB (fun g => !(Bv (valN A w f)).testBit (valN A w g)) f
theorem x_weigh {h : aH} {c : Nat} (hl : LAY h) (hs : CS h c) {A Bv : Nat → Nat} (hw : WF A) {w : Nat} (h1 : w < 256) (e12 : h.2.1 c 12 = nI (A 0)) (ef : ∀ f, f < A 0 → h.2.1 (c + 5) f = nI (A (56 + f)) ∧ h.2.1 (c + 5) (f + 1) = nI (A (56 + f) + A (60 + f)) ∧ h.2.1 (c + 6) f = nI (strd A f)) (ew : ∀ v, v < A 1 → h.2.1 (c + 8) v = nI (A (32 + v))) (en : ∀ v, v < 24 → h.2.1 48 v = nI (Bv v)) (bb : ∀ v, v < 24 → Bv v < 2 ^ 24) : f_X1_weigh h c (nI w) 48 = some (nI (if allB (okF A Bv w) (A 0) = true then wtN A w else 0)) := by
  obtain ⟨b0, b1, b2l, b2, b3, b4⟩ := wf_b hw
  have vl : ∀ f, f < A 0 → valN A w f < A 1 := fun f hf => val_lt hw hf
  have := srch (body := fun q : Int32 × Int32 × Int32 => f_X1_weigh_b8 h c (nI w) 48 q.1 q.2.1 q.2.2) (s := (nI 1, nI 0, nI 0)) (fun j => (nI (wtF A w j), nI (tgN A w j), nI j)) (fun f => !okF A Bv w f) (A 0) (fun _ => (Sum.inl () : Unit ⊕ Int32)) (Sum.inr (nI (wtN A w))) rfl (by omega) (fun j hj hx => ?_) (fun j hj hx => ?_) ?_
  · have e : f_X1_weigh_l8 h c (nI w) 48 (nI 1) (nI 0) (nI 0) = _ := this
    cases hf : firstB (fun f => !okF A Bv w f) (A 0) with
    | none =>
      rw [hf] at e
      have al : allB (okF A Bv w) (A 0) = true := allB_iff.mpr (fun f hf' => by
        have := firstB_n.mp hf f hf'
        simpa using this)
      rw [if_pos al]
      simp (disch := first | assumption | omega | decide | ((repeat first | apply lyI | apply lyJ | apply lywI | apply lywJ | apply csI | apply csJ | apply cswI | apply cswJ); assumption)) only [f_X1_weigh, LI, ↓li_m1, nI_add, pk_mul, nn_sub, nn_m1, nn_div, nn_rem, nn_nz, nn_mod, nJ_l, lN_add, lN_mul, nn_tb1, nI_bt, nn_and, nn_or, nn_xor, nn_shr, nn_1shl, nn_31, il_p, il_n, it_p, it_n, ie_p, ie_n, ie_b, ie_b1, ie_m, ie_mm, it_m, it_m0, il_m0, bI_rZ, Option.bind_some, bd2_some, Nat.add_zero, Nat.zero_add, if_true, if_false, Bool.false_eq_true, eq_self, hI_R, hJ_R, ng_t, ng_e, e]
    | some j =>
      rw [hf] at e
      obtain ⟨h3, h4, -⟩ := firstB_s.mp hf
      have al : ¬ allB (okF A Bv w) (A 0) = true := fun a => by
        have := allB_iff.mp a j h3
        rw [this] at h4
        cases h4
      rw [if_neg al]
      simp (disch := first | assumption | omega | decide | ((repeat first | apply lyI | apply lyJ | apply lywI | apply lywJ | apply csI | apply csJ | apply cswI | apply cswJ); assumption)) only [f_X1_weigh, LI, ↓li_m1, nI_add, pk_mul, nn_sub, nn_m1, nn_div, nn_rem, nn_nz, nn_mod, nJ_l, lN_add, lN_mul, nn_tb1, nI_bt, nn_and, nn_or, nn_xor, nn_shr, nn_1shl, nn_31, il_p, il_n, it_p, it_n, ie_p, ie_n, ie_b, ie_b1, ie_m, ie_mm, it_m, it_m0, il_m0, bI_rZ, Option.bind_some, bd2_some, Nat.add_zero, Nat.zero_add, if_true, if_false, Bool.false_eq_true, eq_self, hI_R, hJ_R, ng_t, ng_e, e]
  · have v1 := vl j hj
    obtain ⟨f1, f2, f3⟩ := ef j hj
    have vi := d_valueIn hs hw h1 hj f1 f2 f3
    have n1 := en (valN A w j) (by omega)
    have n2 := bb (valN A w j) (by omega)
    have w1 := ew _ v1
    have z : Bv (valN A w j) &&& tgN A w j = 0 := tg_0.mpr (by
      have h2 : okF A Bv w j = true := by simpa using hx
      exact h2)
    have tb : tgN A w j < 2 ^ 24 := orN_lt (k := 24) (fun i hi => Nat.pow_lt_pow_right (by decide) (by have := vl i (by omega); omega))
    have wb := wtF_le hw (w := w) j (by omega)
    have p9 : 9 ^ j ≤ 9 ^ 4 := Nat.pow_le_pow_right (by decide) (by omega)
    have s1 : wtF A w (j + 1) = wtF A w j * A (32 + valN A w j) := rfl
    have s2 : tgN A w (j + 1) = tgN A w j ||| 2 ^ valN A w j := rfl
    show f_X1_weigh_b8 h c (nI w) 48 (nI (wtF A w j)) (nI (tgN A w j)) (nI j) = some (.inl (nI (wtF A w (j + 1)), nI (tgN A w (j + 1)), nI (j + 1)))
    rw [s1, s2]
    simp (disch := first | assumption | omega | decide | ((repeat first | apply lyI | apply lyJ | apply lywI | apply lywJ | apply csI | apply csJ | apply cswI | apply cswJ); assumption)) only [f_X1_weigh_b8, SR, SC, LI, ↓li_m1, nI_add, pk_mul, nn_sub, nn_m1, nn_div, nn_rem, nn_nz, nn_mod, nJ_l, lN_add, lN_mul, nn_tb1, nI_bt, nn_and, nn_or, nn_xor, nn_shr, nn_1shl, nn_31, il_p, il_n, it_p, it_n, ie_p, ie_n, ie_b, ie_b1, ie_m, ie_mm, it_m, it_m0, il_m0, bI_rZ, Option.bind_some, bd2_some, Nat.add_zero, Nat.zero_add, if_true, if_false, Bool.false_eq_true, eq_self, hI_R, hJ_R, ng_t, ng_e, e12, vi, n1, z, w1]
  · have v1 := vl j hj
    obtain ⟨f1, f2, f3⟩ := ef j hj
    have vi := d_valueIn hs hw h1 hj f1 f2 f3
    have n1 := en (valN A w j) (by omega)
    have n2 := bb (valN A w j) (by omega)
    have tb : tgN A w j < 2 ^ 24 := orN_lt (k := 24) (fun i hi => Nat.pow_lt_pow_right (by decide) (by have := vl i (by omega); omega))
    have z : ¬ nI (Bv (valN A w j) &&& tgN A w j) = nI 0 := fun e => by
      have l1 : Bv (valN A w j) &&& tgN A w j < 2 ^ 24 := Nat.and_lt_two_pow _ tb
      have e2 := (nI_eq (by omega) (by decide)).mp e
      have h2 : okF A Bv w j = true := tg_0.mp e2
      have h3 : (!okF A Bv w j) = true := hx
      rw [h2] at h3
      cases h3
    show f_X1_weigh_b8 h c (nI w) 48 (nI (wtF A w j)) (nI (tgN A w j)) (nI j) = _
    simp (disch := first | assumption | omega | decide | ((repeat first | apply lyI | apply lyJ | apply lywI | apply lywJ | apply csI | apply csJ | apply cswI | apply cswJ); assumption)) only [f_X1_weigh_b8, SR, SC, LI, ↓li_m1, nI_add, pk_mul, nn_sub, nn_m1, nn_div, nn_rem, nn_nz, nn_mod, nJ_l, lN_add, lN_mul, nn_tb1, nI_bt, nn_and, nn_or, nn_xor, nn_shr, nn_1shl, nn_31, il_p, il_n, it_p, it_n, ie_p, ie_n, ie_b, ie_b1, ie_m, ie_mm, it_m, it_m0, il_m0, bI_rZ, Option.bind_some, bd2_some, Nat.add_zero, Nat.zero_add, if_true, if_false, Bool.false_eq_true, eq_self, hI_R, hJ_R, ng_t, ng_e, e12, vi, n1, if_neg z]
  · show f_X1_weigh_b8 h c (nI w) 48 (nI (wtF A w (A 0))) (nI (tgN A w (A 0))) (nI (A 0)) = some (.inr (.inr (nI (wtN A w))))
    simp (disch := first | assumption | omega | decide | ((repeat first | apply lyI | apply lyJ | apply lywI | apply lywJ | apply csI | apply csJ | apply cswI | apply cswJ); assumption)) only [f_X1_weigh_b8, SC, LI, ↓li_m1, nI_add, pk_mul, nn_sub, nn_m1, nn_div, nn_rem, nn_nz, nn_mod, nJ_l, lN_add, lN_mul, nn_tb1, nI_bt, nn_and, nn_or, nn_xor, nn_shr, nn_1shl, nn_31, il_p, il_n, it_p, it_n, ie_p, ie_n, ie_b, ie_b1, ie_m, ie_mm, it_m, it_m0, il_m0, bI_rZ, Option.bind_some, bd2_some, Nat.add_zero, Nat.zero_add, if_true, if_false, Bool.false_eq_true, eq_self, hI_R, hJ_R, ng_t, ng_e, e12]
    rfl
theorem cn_ok {A Bv : Nat → Nat} {w : Nat} (hw : w < A 2) : cnP A Bv w = allB (okF A Bv w) (A 0) := by
  unfold cnP okF
  rw [decide_eq_true hw, Bool.true_and]
def dnI (t j : Nat) : Int32 := if j < t then nI (t - 1 - j) else m1
theorem dn_s {t j : Nat} (h : j < t) : nI (t - 1 - j) + m1 = dnI t (j + 1) := by
  unfold dnI
  by_cases h2 : j + 1 < t
  · rw [if_pos h2, nn_m1 (by omega), show t - 1 - j - 1 = t - 1 - (j + 1) by omega]
  · rw [if_neg h2, show t - 1 - j = 0 by omega]
    rfl
theorem mn_2 {x : Nat} (h : x ≤ 256) : mnI (nI x) (nI 256) = nI x := by
  unfold mnI
  exact it_n h (by decide)
/-- makeWorlds -/
theorem x_worlds {h : aH} {c : Nat} (hl : LAY h) (hs : CS h c) {A Bv : Nat → Nat} (hw : WF A) (a2 : A 2 = stM A (A 0) (A 0)) (e12 : h.2.1 c 12 = nI (A 0)) (ef : ∀ f, f < A 0 → h.2.1 (c + 5) f = nI (A (56 + f)) ∧ h.2.1 (c + 5) (f + 1) = nI (A (56 + f) + A (60 + f))) (ew : ∀ v, v < A 1 → h.2.1 (c + 8) v = nI (A (32 + v))) (en : ∀ v, v < 24 → h.2.1 48 v = nI (Bv v)) (bb : ∀ v, v < 24 → Bv v < 2 ^ 24) : ∃ h', f_X1_makeWorlds h c 48 = some h' ∧ FR h h' [c, c + 6, c + 9, c + 10] [] [] [] ∧ (∀ k, k ≠ 14 → k ≠ 15 → h'.2.1 c k = h.2.1 c k) ∧ h'.2.1 c 14 = nI (A 2) ∧ h'.2.1 c 15 = nI (cntB (cnP A Bv) (A 2)) ∧ (∀ f, f < A 0 → h'.2.1 (c + 6) f = nI (strd A f)) ∧ ∀ w, w < A 2 → h'.2.1 (c + 9) w = nI (if cnP A Bv w = true then wtN A w else 0) ∧ h'.2.1 (c + 10) w = nI 0 := by
  obtain ⟨b0, b1, b2l, b2, b3, b4⟩ := wf_b hw
  have c0 := hs.1
  have e1 : ∃ e : Int32 × aH, f_X1_makeWorlds_l9 c 48 (nI 1) (dnI (A 0) 0) h = some e ∧ e.1 = nI (A 2) ∧ FR h e.2 [c + 6] [] [] [] ∧ ∀ f, f < A 0 → e.2.2.1 (c + 6) f = nI (strd A f) := by
    refine forI (fun j (t : Int32 × Int32 × aH) => ∃ g, t = (nI (stM A (A 0) j), dnI (A 0) j, g) ∧ FR h g [c + 6] [] [] [] ∧ ∀ f, f < A 0 → A 0 - j ≤ f → g.2.1 (c + 6) f = nI (strd A f)) _ (A 0) (by omega) ⟨h, rfl, FR.rf, fun f h1 h2 => absurd h2 (by omega)⟩ ?_ ?_
    · rintro j _ hj ⟨g, rfl, fg, i1⟩
      have lg := fg.lay hl
      have sg := cs_fr fg hs
      obtain ⟨f1, f2⟩ := ef (A 0 - 1 - j) (by omega)
      have g5 : g.2.1 (c + 5) = h.2.1 (c + 5) := fg.I _ (by simp) (by omega) (by omega)
      rw [← g5] at f1 f2
      obtain ⟨q1, q2, q3⟩ := hw.1.2.2.2.2 (A 0 - 1 - j) (by omega)
      have s1 : stM A (A 0) (j + 1) = stM A (A 0) j * A (60 + (A 0 - 1 - j)) := rfl
      have dn : dnI (A 0) j = nI (A 0 - 1 - j) := if_pos hj
      have ds := dn_s hj
      have ne : ∀ x, (hI g (c + 6) (A 0 - 1 - j) x).2.1 (c + 5) = g.2.1 (c + 5) := fun x => (FR.hI (cI := [c + 6]) (cJ := []) (f0 := []) (f1 := []) (by simp) (by omega) (by omega)).I _ (by simp) (by omega) (by omega)
      have r1 : (hI g (c + 6) (A 0 - 1 - j) (nI (stM A (A 0) j))).2.1 (c + 5) (A 0 - 1 - j) = nI (A (56 + (A 0 - 1 - j))) := by rw [ne]; exact f1
      have r2 : (hI g (c + 6) (A 0 - 1 - j) (nI (stM A (A 0) j))).2.1 (c + 5) (A 0 - 1 - j + 1) = nI (A (56 + (A 0 - 1 - j)) + A (60 + (A 0 - 1 - j))) := by rw [ne]; exact f2
      refine ⟨(nI (stM A (A 0) (j + 1)), dnI (A 0) (j + 1), hI g (c + 6) (A 0 - 1 - j) (nI (stM A (A 0) j))), ?_, _, rfl, fg.tr (FR.hI (by simp) (by omega) (by omega)), fun f h1 h2 => ?_⟩
      · show f_X1_makeWorlds_b9 c 48 (nI (stM A (A 0) j)) (dnI (A 0) j) g = _
        rw [dn, s1]
        simp (disch := first | assumption | omega | decide | ((repeat first | apply lyI | apply lyJ | apply lywI | apply lywJ | apply csI | apply csJ | apply cswI | apply cswJ); assumption)) only [f_X1_makeWorlds_b9, SC, LI, ↓li_m1, nI_add, pk_mul, nn_sub, nn_m1, nn_div, nn_rem, nn_nz, nn_mod, nJ_l, lN_add, lN_mul, nn_tb1, nI_bt, nn_and, nn_or, nn_xor, nn_shr, nn_1shl, nn_31, il_p, il_n, it_p, it_n, ie_p, ie_n, ie_b, ie_b1, ie_m, ie_mm, it_m, it_m0, il_m0, bI_rZ, Option.bind_some, bd2_some, Nat.add_zero, Nat.zero_add, if_true, if_false, Bool.false_eq_true, eq_self, hI_R, hJ_R, ng_t, ng_e, r1, r2, Nat.add_sub_cancel_left, ds]
      · by_cases hx : f = A 0 - 1 - j
        · subst hx
          rw [rI_eq]
          unfold strd
          rw [show A 0 - 1 - (A 0 - 1 - j) = j by omega]
        · rw [rI_nk hx]
          exact i1 f h1 (by omega)
    · rintro _ ⟨g, rfl, fg, i1⟩
      have dn : dnI (A 0) (A 0) = m1 := if_neg (Nat.lt_irrefl _)
      refine ⟨(nI (stM A (A 0) (A 0)), g), ?_, by rw [a2], fg, fun f hf => i1 f hf (by omega)⟩
      show f_X1_makeWorlds_b9 c 48 (nI (stM A (A 0) (A 0))) (dnI (A 0) (A 0)) g = _
      rw [dn]
      simp (disch := first | assumption | omega | decide | ((repeat first | apply lyI | apply lyJ | apply lywI | apply lywJ | apply csI | apply csJ | apply cswI | apply cswJ); assumption)) only [f_X1_makeWorlds_b9, LI, ↓li_m1, nI_add, pk_mul, nn_sub, nn_m1, nn_div, nn_rem, nn_nz, nn_mod, nJ_l, lN_add, lN_mul, nn_tb1, nI_bt, nn_and, nn_or, nn_xor, nn_shr, nn_1shl, nn_31, il_p, il_n, it_p, it_n, ie_p, ie_n, ie_b, ie_b1, ie_m, ie_mm, it_m, it_m0, il_m0, bI_rZ, Option.bind_some, bd2_some, Nat.add_zero, Nat.zero_add, if_true, if_false, Bool.false_eq_true, eq_self, hI_R, hJ_R, ng_t, ng_e]
  obtain ⟨⟨st, h1⟩, e1, rfl, f1, i1⟩ := e1
  have l1 := f1.lay hl
  have s1 := cs_fr f1 hs
  let h2 := hI (hI h1 c 14 (nI (A 2))) c 15 (nI 0)
  have f2 : FR h1 h2 [c] [] [] [] := (FR.hI (by simp) (by omega) (by omega)).tr (FR.hI (by simp) (by omega) (by omega))
  have l2 : LAY h2 := l1
  have s2 : CS h2 c := s1
  have c12 : h2.2.1 c 12 = nI (A 0) := by
    show (hI (hI h1 c 14 (nI (A 2))) c 15 (nI 0)).2.1 c 12 = _
    rw [rI_nk (by decide), rI_nk (by decide), f1.I c (by simp) (by omega) (by omega)]
    exact e12
  have c14 : h2.2.1 c 14 = nI (A 2) := by
    show (hI (hI h1 c 14 (nI (A 2))) c 15 (nI 0)).2.1 c 14 = _
    rw [rI_nk (by decide), rI_eq]
  have e3 : ∃ h', f_X1_makeWorlds_l62 c 48 (nI 0) h2 = some h' ∧ FR h2 h' [c, c + 9, c + 10] [] [] [] ∧ (∀ k, k ≠ 15 → h'.2.1 c k = h2.2.1 c k) ∧ h'.2.1 c 15 = nI (cntB (cnP A Bv) (A 2)) ∧ ∀ w, w < A 2 → h'.2.1 (c + 9) w = nI (if cnP A Bv w = true then wtN A w else 0) ∧ h'.2.1 (c + 10) w = nI 0 := by
    refine forI (fun j (t : Int32 × aH) => ∃ g, t = (nI j, g) ∧ FR h2 g [c, c + 9, c + 10] [] [] [] ∧ (∀ k, k ≠ 15 → g.2.1 c k = h2.2.1 c k) ∧ g.2.1 c 15 = nI (cntB (cnP A Bv) j) ∧ ∀ w, w < j → g.2.1 (c + 9) w = nI (if cnP A Bv w = true then wtN A w else 0) ∧ g.2.1 (c + 10) w = nI 0) _ (A 2) (by omega) ⟨h2, rfl, FR.rf, fun _ _ => rfl, rI_eq, fun w hw => absurd hw (by omega)⟩ ?_ ?_
    · rintro j _ hj ⟨g, rfl, fg, j1, j2, j3⟩
      have fall : FR h (hI g (c + 10) j (nI 0)) [c, c + 6, c + 9, c + 10] [] [] [] := (((f1.mono (by simp) (by simp) (by simp) (by simp)).tr (f2.mono (by simp) (by simp) (by simp) (by simp))).tr (fg.mono (by intro x hx; simp at hx ⊢; omega) (by simp) (by simp) (by simp))).tr (FR.hI (by simp) (by omega) (by omega))
      have lg : LAY (hI g (c + 10) j (nI 0)) := fall.lay hl
      have lg0 : LAY g := lg
      have sg : CS (hI g (c + 10) j (nI 0)) c := cs_fr fall hs
      have sg0 : CS g c := sg
      have g14 : g.2.1 c 14 = nI (A 2) := (j1 14 (by decide)).trans c14
      have q12 : (hI g (c + 10) j (nI 0)).2.1 c 12 = nI (A 0) := by rw [rI_ne (by omega)]; exact (j1 12 (by decide)).trans c12
      have wg := x_weigh (Bv := Bv) lg sg hw (w := j) (by omega) q12 (fun f hf => ?_) (fun v hv => ?_) (fun v hv => ?_) bb
      · rw [← cn_ok hj] at wg
        have cle := cntB_le (cnP A Bv) j
        have wl := wtN_le hw (w := j)
        cases hp : cnP A Bv j with
        | false =>
          rw [hp, if_neg (by decide)] at wg
          refine ⟨(nI (j + 1), hI (hI g (c + 10) j (nI 0)) (c + 9) j (nI 0)), ?_, _, rfl, (fg.tr (FR.hI (by simp) (by omega) (by omega))).tr (FR.hI (by simp) (by omega) (by omega)), fun k hk => ?_, ?_, fun w hw' => ?_⟩
          · have rd : (hI (hI g (c + 10) j (nI 0)) (c + 9) j (nI 0)).2.1 (c + 9) j = nI 0 := rI_eq
            simp (disch := first | assumption | omega | decide | ((repeat first | apply lyI | apply lyJ | apply lywI | apply lywJ | apply csI | apply csJ | apply cswI | apply cswJ); assumption)) only [f_X1_makeWorlds_b62, f_X1_makeWorlds_j108, SC, LI, ↓li_m1, nI_add, pk_mul, nn_sub, nn_m1, nn_div, nn_rem, nn_nz, nn_mod, nJ_l, lN_add, lN_mul, nn_tb1, nI_bt, nn_and, nn_or, nn_xor, nn_shr, nn_1shl, nn_31, il_p, il_n, it_p, it_n, ie_p, ie_n, ie_b, ie_b1, ie_m, ie_mm, it_m, it_m0, il_m0, bI_rZ, Option.bind_some, bd2_some, Nat.add_zero, Nat.zero_add, if_true, if_false, Bool.false_eq_true, eq_self, hI_R, hJ_R, ng_t, ng_e, g14, wg, rd]
          · rw [rI_ne (by omega), rI_ne (by omega)]
            exact j1 k hk
          · rw [rI_ne (by omega), rI_ne (by omega), cntB_f hp]
            exact j2
          · by_cases hx : w = j
            · subst hx
              rw [rI_eq, hp, if_neg (by decide), rI_ne (by omega), rI_eq]
              exact ⟨rfl, rfl⟩
            · rw [rI_nk hx, rI_ne (by omega), rI_ne (by omega), rI_nk hx]
              exact j3 w (by omega)
        | true =>
          rw [hp, if_pos rfl] at wg
          have g15 : (hI (hI g (c + 10) j (nI 0)) (c + 9) j (nI (wtN A j))).2.1 c 15 = nI (cntB (cnP A Bv) j) := by rw [rI_ne (by omega), rI_ne (by omega)]; exact j2
          refine ⟨(nI (j + 1), hI (hI (hI g (c + 10) j (nI 0)) (c + 9) j (nI (wtN A j))) c 15 (nI (cntB (cnP A Bv) j + 1))), ?_, _, rfl, ((fg.tr (FR.hI (by simp) (by omega) (by omega))).tr (FR.hI (by simp) (by omega) (by omega))).tr (FR.hI (by simp) (by omega) (by omega)), fun k hk => ?_, ?_, fun w hw' => ?_⟩
          · have rd : (hI (hI g (c + 10) j (nI 0)) (c + 9) j (nI (wtN A j))).2.1 (c + 9) j = nI (wtN A j) := rI_eq
            simp (disch := first | assumption | omega | decide | ((repeat first | apply lyI | apply lyJ | apply lywI | apply lywJ | apply csI | apply csJ | apply cswI | apply cswJ); assumption)) only [f_X1_makeWorlds_b62, f_X1_makeWorlds_j108, SC, LI, ↓li_m1, nI_add, pk_mul, nn_sub, nn_m1, nn_div, nn_rem, nn_nz, nn_mod, nJ_l, lN_add, lN_mul, nn_tb1, nI_bt, nn_and, nn_or, nn_xor, nn_shr, nn_1shl, nn_31, il_p, il_n, it_p, it_n, ie_p, ie_n, ie_b, ie_b1, ie_m, ie_mm, it_m, it_m0, il_m0, bI_rZ, Option.bind_some, bd2_some, Nat.add_zero, Nat.zero_add, if_true, if_false, Bool.false_eq_true, eq_self, hI_R, hJ_R, ng_t, ng_e, g14, wg, rd, g15]
          · rw [rI_nk hk, rI_ne (by omega), rI_ne (by omega)]
            exact j1 k hk
          · rw [rI_eq, cntB_t hp]
          · by_cases hx : w = j
            · subst hx
              refine ⟨?_, ?_⟩
              · rw [rI_ne (by omega), rI_eq, hp, if_pos rfl]
              · rw [rI_ne (by omega), rI_ne (by omega), rI_eq]
            · refine ⟨?_, ?_⟩
              · rw [rI_ne (by omega), rI_nk hx, rI_ne (by omega)]
                exact (j3 w (by omega)).1
              · rw [rI_ne (by omega), rI_ne (by omega), rI_nk hx]
                exact (j3 w (by omega)).2
      · obtain ⟨y1, y2⟩ := ef f hf
        have y3 := i1 f hf
        have g5 : (hI g (c + 10) j (nI 0)).2.1 (c + 5) = h.2.1 (c + 5) := fall.I _ (by simp <;> omega) (by omega) (by omega)
        have g6 : (hI g (c + 10) j (nI 0)).2.1 (c + 6) f = h1.2.1 (c + 6) f := by
          rw [rI_ne (by omega), fg.I (c + 6) (by simp <;> omega) (by omega) (by omega), f2.I (c + 6) (by simp) (by omega) (by omega)]
        rw [g5, g6]
        exact ⟨y1, y2, y3⟩
      · rw [fall.I (c + 8) (by simp <;> omega) (by omega) (by omega)]
        exact ew v hv
      · rw [fall.I 48 (by simp <;> omega) (by omega) (by omega)]
        exact en v hv
    · rintro _ ⟨g, rfl, fg, j1, j2, j3⟩
      have lg := fg.lay l2
      have sg := cs_fr fg s2
      have g14 : g.2.1 c 14 = nI (A 2) := (j1 14 (by decide)).trans c14
      exact ⟨g, by simp (disch := first | assumption | omega | decide | ((repeat first | apply lyI | apply lyJ | apply lywI | apply lywJ | apply csI | apply csJ | apply cswI | apply cswJ); assumption)) only [f_X1_makeWorlds_b62, SC, LI, ↓li_m1, nI_add, pk_mul, nn_sub, nn_m1, nn_div, nn_rem, nn_nz, nn_mod, nJ_l, lN_add, lN_mul, nn_tb1, nI_bt, nn_and, nn_or, nn_xor, nn_shr, nn_1shl, nn_31, il_p, il_n, it_p, it_n, ie_p, ie_n, ie_b, ie_b1, ie_m, ie_mm, it_m, it_m0, il_m0, bI_rZ, Option.bind_some, bd2_some, Nat.add_zero, Nat.zero_add, if_true, if_false, Bool.false_eq_true, eq_self, hI_R, hJ_R, ng_t, ng_e, g14], fg, j1, j2, j3⟩
  obtain ⟨h3, e3, f3, j1, j2, j3⟩ := e3
  have ed : nI (A 0) - nI 1 = dnI (A 0) 0 := by
    unfold dnI
    by_cases h0 : 0 < A 0
    · rw [if_pos h0, nn_sub (by omega), Nat.sub_zero]
    · rw [if_neg h0, show A 0 = 0 by omega]
      rfl
  have e3' : f_X1_makeWorlds_l62 c 48 (nI 0) (hI (hI h1 c 14 (nI (A 2))) c 15 (nI 0)) = some h3 := e3
  refine ⟨h3, ?_, ((f1.mono (by simp) (by simp) (by simp) (by simp)).tr (f2.mono (by simp) (by simp) (by simp) (by simp))).tr (f3.mono (by intro x hx; simp at hx ⊢; omega) (by simp) (by simp) (by simp)), fun k h14 h15 => ?_, (j1 14 (by decide)).trans c14, j2, fun f hf => ?_, j3⟩
  · simp (disch := first | assumption | omega | decide | ((repeat first | apply lyI | apply lyJ | apply lywI | apply lywJ | apply csI | apply csJ | apply cswI | apply cswJ); assumption)) only [f_X1_makeWorlds, SC, LI, ↓li_m1, nI_add, pk_mul, nn_m1, nn_div, nn_rem, nn_nz, nn_mod, nJ_l, lN_add, lN_mul, nn_tb1, nI_bt, nn_and, nn_or, nn_xor, nn_shr, nn_1shl, nn_31, il_p, il_n, it_p, it_n, ie_p, ie_n, ie_b, ie_b1, ie_m, ie_mm, it_m, it_m0, il_m0, bI_rZ, Option.bind_some, bd2_some, Nat.add_zero, Nat.zero_add, if_true, if_false, Bool.false_eq_true, eq_self, hI_R, hJ_R, ng_t, ng_e, e12, ed, e1, mn_2 b2, e3']
  · rw [j1 k h15]
    show (hI (hI h1 c 14 (nI (A 2))) c 15 (nI 0)).2.1 c k = _
    rw [rI_nk h15, rI_nk h14, f1.I c (by simp) (by omega) (by omega)]
  · rw [f3.I (c + 6) (by simp <;> omega) (by omega) (by omega), f2.I (c + 6) (by simp) (by omega) (by omega)]
    exact i1 f hf
