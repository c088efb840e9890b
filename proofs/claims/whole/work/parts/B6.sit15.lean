/-! ===== a sitting: the reference keeps and gives back the minutes ===== -/
def dhN (tk : Nat → Nat) : Nat → Nat := orN (fun v => if tk v = 0 then 0 else 2 ^ v)
theorem dh_lt {tk : Nat → Nat} {n : Nat} (hn : n ≤ 4) : dhN tk n < 2 ^ 4 := orN_lt (fun i hi => by
  show (if tk i = 0 then 0 else 2 ^ i) < 2 ^ 4
  split
  · decide
  · exact Nat.pow_lt_pow_right (by decide) (by omega))
theorem fr_drop {h h' : aH} {a : Nat} {cI cJ f0 f1 : List Nat} (f : FR h h' (a :: cI) cJ f0 f1) (e : h'.2.1 a = h.2.1 a) : FR h h' cI cJ f0 f1 :=
  ⟨f.1, f.2.1, fun i h1 h2 h3 => by
    by_cases hi : i = a
    · rw [hi]; exact e
    · exact f.2.2.1 i (by simp only [List.mem_cons, not_or]; exact ⟨hi, h1⟩) h2 h3, f.2.2.2⟩
theorem r_keep {h : aH} (hl : LAY h) (x a b : Int32) : f_X12_sits_l18 113 x a b (nI 0) h = some (wI h 133 (setF (h.2.1 133) 0 48 (fun k => h.2.1 114 (100 + k)))) := by
  refine for0 (body := fun zz : Int32 × aH => f_X12_sits_b18 113 x a b zz.1 zz.2) (fun j => (nI j, wI h 133 (setF (h.2.1 133) 0 j (fun k => h.2.1 114 (100 + k))))) (48) (e := wI h 133 (setF (h.2.1 133) 0 48 (fun k => h.2.1 114 (100 + k)))) (by rw [setF_0, wI_self]) (by omega) (fun j hj => ?_) ?_
  · rw [← setF_s0, ← hI_set]
    simp (disch := first | assumption | omega | decide | ((repeat first | apply lyI | apply lyJ | apply lywI | apply lywJ | apply csI | apply csJ | apply cswI | apply cswJ); assumption)) only [f_X12_sits_b18, SM, LI, ↓li_m1, nI_add, pk_mul, nn_sub, nn_m1, nn_div, nn_rem, nn_nz, nn_mod, nJ_l, lN_add, lN_mul, nn_tb1, nI_bt, nn_and, nn_or, nn_xor, nn_shr, nn_1shl, nn_31, il_p, il_n, it_p, it_n, ie_p, ie_n, ie_b, ie_b1, ie_m, ie_mm, it_m, it_m0, il_m0, bI_rZ, Option.bind_some, bd2_some, Nat.add_zero, Nat.zero_add, if_true, if_false, Bool.false_eq_true, eq_self, hI_R, hJ_R, ng_t, ng_e, wI_n]
  · simp (disch := first | assumption | omega | decide | ((repeat first | apply lyI | apply lyJ | apply lywI | apply lywJ | apply csI | apply csJ | apply cswI | apply cswJ); assumption)) only [f_X12_sits_b18, SM, LI, ↓li_m1, nI_add, pk_mul, nn_sub, nn_m1, nn_div, nn_rem, nn_nz, nn_mod, nJ_l, lN_add, lN_mul, nn_tb1, nI_bt, nn_and, nn_or, nn_xor, nn_shr, nn_1shl, nn_31, il_p, il_n, it_p, it_n, ie_p, ie_n, ie_b, ie_b1, ie_m, ie_mm, it_m, it_m0, il_m0, bI_rZ, Option.bind_some, bd2_some, Nat.add_zero, Nat.zero_add, if_true, if_false, Bool.false_eq_true, eq_self, hI_R, hJ_R, ng_t, ng_e]
theorem r_giveBack {h : aH} (hl : LAY h) : f_X12_sits_l241 113 (nI 0) h = some (wI h 114 (setF (h.2.1 114) 100 48 (fun k => h.2.1 133 k))) := by
  refine for0 (body := fun zz : Int32 × aH => f_X12_sits_b241 113 zz.1 zz.2) (fun j => (nI j, wI h 114 (setF (h.2.1 114) 100 j (fun k => h.2.1 133 k)))) (48) (e := wI h 114 (setF (h.2.1 114) 100 48 (fun k => h.2.1 133 k))) (by rw [setF_0, wI_self]) (by omega) (fun j hj => ?_) ?_
  · rw [← setF_s, ← hI_set]
    simp (disch := first | assumption | omega | decide | ((repeat first | apply lyI | apply lyJ | apply lywI | apply lywJ | apply csI | apply csJ | apply cswI | apply cswJ); assumption)) only [f_X12_sits_b241, SM, LI, ↓li_m1, nI_add, pk_mul, nn_sub, nn_m1, nn_div, nn_rem, nn_nz, nn_mod, nJ_l, lN_add, lN_mul, nn_tb1, nI_bt, nn_and, nn_or, nn_xor, nn_shr, nn_1shl, nn_31, il_p, il_n, it_p, it_n, ie_p, ie_n, ie_b, ie_b1, ie_m, ie_mm, it_m, it_m0, il_m0, bI_rZ, Option.bind_some, bd2_some, Nat.add_zero, Nat.zero_add, if_true, if_false, Bool.false_eq_true, eq_self, hI_R, hJ_R, ng_t, ng_e, wI_n]
  · simp (disch := first | assumption | omega | decide | ((repeat first | apply lyI | apply lyJ | apply lywI | apply lywJ | apply csI | apply csJ | apply cswI | apply cswJ); assumption)) only [f_X12_sits_b241, SM, LI, ↓li_m1, nI_add, pk_mul, nn_sub, nn_m1, nn_div, nn_rem, nn_nz, nn_mod, nJ_l, lN_add, lN_mul, nn_tb1, nI_bt, nn_and, nn_or, nn_xor, nn_shr, nn_1shl, nn_31, il_p, il_n, it_p, it_n, ie_p, ie_n, ie_b, ie_b1, ie_m, ie_mm, it_m, it_m0, il_m0, bI_rZ, Option.bind_some, bd2_some, Nat.add_zero, Nat.zero_add, if_true, if_false, Bool.false_eq_true, eq_self, hI_R, hJ_R, ng_t, ng_e]
theorem r_dish {h : aH} (hl : LAY h) {A : Nat → Nat} (b4 : A 4 ≤ 4) (c4 : h.2.1 114 4 = nI (A 4)) {tk : Nat → Nat} (e132 : ∀ v, v < A 4 → h.2.1 132 v = nI (tk v)) (htk : ∀ v, v < A 4 → tk v < 4) (e5 : h.2.1 134 5 = nI 0) (x y : Int32) : ∃ h', f_X12_sits_l179 113 x y (nI 0) h = some h' ∧ FR h h' [134] [] [] [] ∧ h'.2.1 134 5 = nI (dhN tk (A 4)) ∧ ∀ j, j ≠ 5 → h'.2.1 134 j = h.2.1 134 j := by
  refine forI (fun j (t : Int32 × aH) => ∃ g, t = (nI j, g) ∧ FR h g [134] [] [] [] ∧ g.2.1 134 5 = nI (dhN tk j) ∧ ∀ j, j ≠ 5 → g.2.1 134 j = h.2.1 134 j) _ (A 4) (by omega) ⟨h, rfl, FR.rf, e5, fun _ _ => rfl⟩ ?_ ?_
  · rintro j _ hj ⟨g, rfl, fg, i1, i2⟩
    have lg := fg.lay hl
    have k4 : g.2.1 114 4 = nI (A 4) := by rw [fg.I 114 (by decide) (by decide) (by decide)]; exact c4
    have kt : g.2.1 132 j = nI (tk j) := by rw [fg.I 132 (by decide) (by decide) (by decide)]; exact e132 j hj
    have nx : dhN tk (j + 1) = dhN tk j ||| (if tk j = 0 then 0 else 2 ^ j) := rfl
    have tl := htk j hj
    by_cases hz : tk j = 0
    · rw [if_pos hz, Nat.or_zero] at nx
      rw [hz] at kt
      refine ⟨(nI (j + 1), hI g 134 5 (nI (dhN tk j))), ?_, _, rfl, fg.tr (FR.hI (by decide) (by decide) (by decide)), by rw [rI_eq, nx], fun i hi => by rw [rI_nk hi]; exact i2 i hi⟩
      simp (disch := first | assumption | omega | decide | ((repeat first | apply lyI | apply lyJ | apply lywI | apply lywJ | apply csI | apply csJ | apply cswI | apply cswJ); assumption)) only [f_X12_sits_b179, f_X12_sits_j215, SM, LI, ↓li_m1, nI_add, pk_mul, nn_sub, nn_m1, nn_div, nn_rem, nn_nz, nn_mod, nJ_l, lN_add, lN_mul, nn_tb1, nI_bt, nn_and, nn_or, nn_xor, nn_shr, nn_1shl, nn_31, il_p, il_n, it_p, it_n, ie_p, ie_n, ie_b, ie_b1, ie_m, ie_mm, it_m, it_m0, il_m0, bI_rZ, Option.bind_some, bd2_some, Nat.add_zero, Nat.zero_add, if_true, if_false, Bool.false_eq_true, eq_self, hI_R, hJ_R, ng_t, ng_e, k4, kt, i1, Nat.or_zero]
    · rw [if_neg hz] at nx
      refine ⟨(nI (j + 1), hI g 134 5 (nI (dhN tk j ||| 2 ^ j))), ?_, _, rfl, fg.tr (FR.hI (by decide) (by decide) (by decide)), by rw [rI_eq, nx], fun i hi => by rw [rI_nk hi]; exact i2 i hi⟩
      simp (disch := first | assumption | omega | decide | ((repeat first | apply lyI | apply lyJ | apply lywI | apply lywJ | apply csI | apply csJ | apply cswI | apply cswJ); assumption)) only [f_X12_sits_b179, f_X12_sits_j215, SM, LI, ↓li_m1, nI_add, pk_mul, nn_sub, nn_m1, nn_div, nn_rem, nn_nz, nn_mod, nJ_l, lN_add, lN_mul, nn_tb1, nI_bt, nn_and, nn_or, nn_xor, nn_shr, nn_1shl, nn_31, il_p, il_n, it_p, it_n, ie_p, ie_n, ie_b, ie_b1, ie_m, ie_mm, it_m, it_m0, il_m0, bI_rZ, Option.bind_some, bd2_some, Nat.add_zero, Nat.zero_add, if_true, if_false, Bool.false_eq_true, eq_self, hI_R, hJ_R, ng_t, ng_e, k4, kt, i1]
  · rintro _ ⟨g, rfl, fg, i1, i2⟩
    have lg := fg.lay hl
    have k4 : g.2.1 114 4 = nI (A 4) := by rw [fg.I 114 (by decide) (by decide) (by decide)]; exact c4
    exact ⟨g, by simp (disch := first | assumption | omega | decide | ((repeat first | apply lyI | apply lyJ | apply lywI | apply lywJ | apply csI | apply csJ | apply cswI | apply cswJ); assumption)) only [f_X12_sits_b179, SM, LI, ↓li_m1, nI_add, pk_mul, nn_sub, nn_m1, nn_div, nn_rem, nn_nz, nn_mod, nJ_l, lN_add, lN_mul, nn_tb1, nI_bt, nn_and, nn_or, nn_xor, nn_shr, nn_1shl, nn_31, il_p, il_n, it_p, it_n, ie_p, ie_n, ie_b, ie_b1, ie_m, ie_mm, it_m, it_m0, il_m0, bI_rZ, Option.bind_some, bd2_some, Nat.add_zero, Nat.zero_add, if_true, if_false, Bool.false_eq_true, eq_self, hI_R, hJ_R, ng_t, ng_e, k4], fg, i1, i2⟩
/-- what is told of a sitting -/
def tlN (A : Nat → Nat) (P : Nat → Bool) (S : Nat → Nat → Nat → Nat → Nat) (tr : Nat) (tk : Nat → Nat) (t : MT) (j : Nat) : Nat := if j = 0 then t.1 else if j = 1 then feN A t.2.2 t.1 else if j = 2 then t.2.1 else if j = 3 then tr else if j = 4 then cntB (lvT A P S t) (A 2) else dhN tk (A 4)
theorem lt6 {u : Nat} (h : u < 6) : u = 0 ∨ u = 1 ∨ u = 2 ∨ u = 3 ∨ u = 4 ∨ u = 5 := by omega
theorem r_told {h : aH} {A : Nat → Nat} {P : Nat → Bool} {Q : Nat → Nat → Bool} {S : Nat → Nat → Nat → Nat → Nat} {t : MT} (r8 : R8 h A P Q S t) (hw : WF A) (gm : GM A t) {tr : Nat} {tk : Nat → Nat} (e40 : h.2.1 113 40 = nI tr) (e132 : ∀ v, v < A 4 → h.2.1 132 v = nI (tk v)) (htk : ∀ v, v < A 4 → tk v < 4) (x y : Int32) : ∃ g, (f_X12_sits_j109 h 113 x y = (f_X12_sits_l241 113 (nI 0) (hI (hI g 114 5 x) 114 6 y)).bind fun k => some k) ∧ FR h g [129, 130, 134] [] [] [] ∧ ∀ j, j < 6 → g.2.1 134 j = nI (tlN A P S tr tk t j) := by
  obtain ⟨hl, hc, hm, hs⟩ := id r8
  obtain ⟨b0, b1, b2l, b2, b3, b4⟩ := wf_b hw
  have q6 : h.2.1 114 6 = nI t.1 := hm.2.1
  have q5 : h.2.1 114 5 = nI t.2.1 := hm.1
  have rf := r_feesOf (h := hI h 134 0 (nI t.1)) hl hc hw hm gm.1
  obtain ⟨g5, ra, f5, l5, c5, m5, s5, fb5, pu5, rl5, rs5⟩ := r_all (k := hI (hI (hI (hI h 134 0 (nI t.1)) 134 1 (nI (feN A t.2.2 t.1))) 134 2 (nI t.2.1)) 134 3 (nI tr)) hl hc hw hm gm.1 hs
  have z4 : (hI (hI g5 134 4 (nI (cntB (lvB A P S t.2.2 t.1) (A 2)))) 134 5 (nI 0)).2.1 114 4 = nI (A 4) := (cm_e c5).2.2.2.2.1
  have fa : FR h (hI (hI (hI (hI h 134 0 (nI t.1)) 134 1 (nI (feN A t.2.2 t.1))) 134 2 (nI t.2.1)) 134 3 (nI tr)) [129, 130, 134] [] [] [] := (((FR.hI (by decide) (by decide) (by decide)).tr (FR.hI (by decide) (by decide) (by decide))).tr (FR.hI (by decide) (by decide) (by decide))).tr (FR.hI (by decide) (by decide) (by decide))
  have fb := fa.tr (f5.mono (dI := [129, 130, 134]) (dJ := []) (g0 := []) (g1 := []) (by decide) (by decide) (by decide) (by decide))
  have fc : FR h (hI (hI g5 134 4 (nI (cntB (lvB A P S t.2.2 t.1) (A 2)))) 134 5 (nI 0)) [129, 130, 134] [] [] [] := (fb.tr (FR.hI (by decide) (by decide) (by decide))).tr (FR.hI (by decide) (by decide) (by decide))
  obtain ⟨g8, rd, f8, d5, dj⟩ := r_dish (h := hI (hI g5 134 4 (nI (cntB (lvB A P S t.2.2 t.1) (A 2)))) 134 5 (nI 0)) l5 b4 z4 (tk := tk) (fun v hv => by rw [fc.I 132 (by decide) (by decide) (by decide)]; exact e132 v hv) htk rI_eq x y
  have l8 := f8.lay l5
  refine ⟨g8, ?_, fc.tr (f8.mono (by decide) (by decide) (by decide) (by decide)), fun j hj => ?_⟩
  · simp (disch := first | assumption | omega | decide | ((repeat first | apply lyI | apply lyJ | apply lywI | apply lywJ | apply csI | apply csJ | apply cswI | apply cswJ); assumption)) only [f_X12_sits_j109, SM, rI_eq, rI_ne, rI_nk, rJ_eq, rJ_ne, rJ_nk, rI_J, rJ_I, LI, ↓li_m1, nI_add, pk_mul, nn_sub, nn_m1, nn_div, nn_rem, nn_nz, nn_mod, nJ_l, lN_add, lN_mul, nn_tb1, nI_bt, nn_and, nn_or, nn_xor, nn_shr, nn_1shl, nn_31, il_p, il_n, it_p, it_n, ie_p, ie_n, ie_b, ie_b1, ie_m, ie_mm, it_m, it_m0, il_m0, bI_rZ, Option.bind_some, bd2_some, Nat.add_zero, Nat.zero_add, if_true, if_false, Bool.false_eq_true, eq_self, hI_R, hJ_R, ng_t, ng_e, q6, q5, e40, rf, ra, rl5, rd]
  · have g134 : g5.2.1 134 = (hI (hI (hI (hI h 134 0 (nI t.1)) 134 1 (nI (feN A t.2.2 t.1))) 134 2 (nI t.2.1)) 134 3 (nI tr)).2.1 134 := f5.I 134 (by decide) (by decide) (by decide)
    rcases lt6 hj with rfl | rfl | rfl | rfl | rfl | rfl
    · rw [dj 0 (by decide), rI_nk (by decide), rI_nk (by decide), g134, rI_nk (by decide), rI_nk (by decide), rI_nk (by decide), rI_eq]
      rfl
    · rw [dj 1 (by decide), rI_nk (by decide), rI_nk (by decide), g134, rI_nk (by decide), rI_nk (by decide), rI_eq]
      rfl
    · rw [dj 2 (by decide), rI_nk (by decide), rI_nk (by decide), g134, rI_nk (by decide), rI_eq]
      rfl
    · rw [dj 3 (by decide), rI_nk (by decide), rI_nk (by decide), g134, rI_eq]
      rfl
    · rw [dj 4 (by decide), rI_nk (by decide), rI_eq]
      rfl
    · rw [d5]
      rfl
