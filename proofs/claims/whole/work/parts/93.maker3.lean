/-! ===== the maker's rows ===== -/
/-- the sayings that hold in a world -/
def swN (A : Nat → Nat) (Q : Nat → Nat → Bool) (w : Nat) : Nat := syN (qwN A Q w (A 3)) (qwN A Q w (A 3) ^^^ F32) 12
theorem sw_bit {A : Nat → Nat} {P : Nat → Bool} {Q : Nat → Nat → Bool} (h3 : A 3 ≤ 12) {w s : Nat} (hs : s < 2 * A 3) (hp : P w = true) : (swN A Q w).testBit s = mnB P Q s w := by
  unfold swN mnB
  rw [sy_bit (show s < 2 * 12 by omega), xF (by omega), qwN_bit A Q w (show s / 2 < A 3 by omega), hp, Bool.true_and]
def meN (A : Nat → Nat) (P : Nat → Bool) (Q : Nat → Nat → Bool) (q : Nat) : Nat → Nat := orN (fun w => if (P w && Q q w) = true then swN A Q w else 0)
def leN (A : Nat → Nat) (P : Nat → Bool) (Q : Nat → Nat → Bool) (q : Nat) : Nat → Nat := orN (fun w => if (P w && !Q q w) = true then swN A Q w else 0)
def neN (A : Nat → Nat) (P : Nat → Bool) (Q : Nat → Nat → Bool) : Nat → Nat := orN (fun w => if P w = true then swN A Q w ^^^ F32 else 0)
/-- what relateSayings leaves -/
def RS (h : aH) (A : Nat → Nat) (P : Nat → Bool) (Q : Nat → Nat → Bool) (j : Nat) : Prop := h.2.1 43 4 = nI (neN A P Q j) ∧ ∀ q, q < A 3 → h.2.1 46 q = nI (meN A P Q q j) ∧ h.2.1 47 q = nI (leN A P Q q j)
theorem cb_fr {h h' : aH} {c : Nat} {A : Nat → Nat} {P : Nat → Bool} {Q : Nat → Nat → Bool} {cI cJ f0 f1 : List Nat} (hf : FR h h' cI cJ f0 f1) (h1 : ∀ x ∈ cI, x < 26 ∨ (41 < x ∧ x < 136)) (hs : CS h c) (hc : CB h c A P Q) : CB h' c A P Q := cb_up (fun j hj => hf.I (c + j) (fun hm => by
  have := h1 _ hm
  have := hs.1
  omega) (by have := hs.1; omega) (by have := hs.1; omega)) hc
theorem b_rel1 {h : aH} {c : Nat} (hs : CS h c) {A : Nat → Nat} {P : Nat → Bool} {Q : Nat → Nat → Bool} (hc : CB h c A P Q) (hw : WF A) (hl : LAY h) {w : Nat} (h1 : w < A 2) (hp : P w = true) {m l : Nat → Nat} (hm : ∀ q, q < A 3 → h.2.1 46 q = nI (m q) ∧ h.2.1 47 q = nI (l q)) : ∃ h', f_X0_relateSayings_l75 43 c (nI w) (nI (swN A Q w)) (nI 0) h = some h' ∧ FR h h' [46, 47] [] [] [] ∧ ∀ q, q < A 3 → h'.2.1 46 q = nI (m q ||| (if Q q w = true then swN A Q w else 0)) ∧ h'.2.1 47 q = nI (l q ||| (if Q q w = true then 0 else swN A Q w)) := by
  obtain ⟨b0, b1, b2l, b2, b3, b4⟩ := wf_b hw
  refine forI (fun j (t : Int32 × aH) => ∃ g, t = (nI j, g) ∧ FR h g [46, 47] [] [] [] ∧ ∀ q, q < A 3 → g.2.1 46 q = nI (m q ||| (if (decide (q < j) && Q q w) = true then swN A Q w else 0)) ∧ g.2.1 47 q = nI (l q ||| (if (decide (q < j) && !Q q w) = true then swN A Q w else 0))) _ (A 3) (by omega) ⟨h, rfl, FR.rf, fun q hq => by
    rw [decide_eq_false (by omega), Bool.false_and, Bool.false_and]
    exact ⟨(hm q hq).1, (hm q hq).2⟩⟩ ?_ ?_
  · rintro j _ hj ⟨g, rfl, fg, i1⟩
    have lg := fg.lay hl
    have sg := cs_fr fg hs
    have cg := cb_fr fg (by decide) hs hc
    have e3 := cg.1.2.2.2.2.1
    have r := b_inQ sg cg hw h1 hj
    obtain ⟨x1, x2⟩ := i1 j hj
    rw [decide_eq_false (by omega), Bool.false_and] at x1 x2
    rw [if_neg (by decide), Nat.or_zero] at x1 x2
    have st : ∀ q, q ≠ j → decide (q < j + 1) = decide (q < j) := fun q hq => by rw [decide_eq_decide]; omega
    rcases (Bool.eq_false_or_eq_true (Q j w)).symm with hb | hb
    · rw [hb] at r
      refine ⟨(nI (j + 1), hI g 47 j (nI (l j ||| swN A Q w))), by simp (disch := first | assumption | omega | decide | ((repeat first | apply lyI | apply lyJ | apply lywI | apply lywJ | apply csI | apply csJ | apply cswI | apply cswJ); assumption)) only [f_X0_relateSayings_b75, f_X0_relateSayings_j120, SR, SC, LI, ↓li_m1, nI_add, pk_mul, nn_sub, nn_m1, nn_div, nn_rem, nn_nz, nn_mod, nJ_l, lN_add, lN_mul, nn_tb1, nI_bt, nn_and, nn_or, nn_xor, nn_shr, nn_1shl, nn_31, il_p, il_n, it_p, it_n, ie_p, ie_n, ie_b, ie_b1, ie_m, ie_mm, it_m, it_m0, il_m0, bI_rZ, Option.bind_some, bd2_some, Nat.add_zero, Nat.zero_add, if_true, if_false, Bool.false_eq_true, eq_self, hI_R, hJ_R, ng_t, ng_e, e3, r, bI_f, x2], _, rfl, fg.tr (FR.hI (by decide) (by decide) (by decide)), fun q hq => ?_⟩
      rw [rI_ne (by decide)]
      by_cases hx : q = j
      · subst hx
        rw [rI_eq, decide_eq_true (by omega), hb]
        exact ⟨x1, rfl⟩
      · rw [rI_nk hx, st q hx]
        exact i1 q hq
    · rw [hb] at r
      refine ⟨(nI (j + 1), hI g 46 j (nI (m j ||| swN A Q w))), by simp (disch := first | assumption | omega | decide | ((repeat first | apply lyI | apply lyJ | apply lywI | apply lywJ | apply csI | apply csJ | apply cswI | apply cswJ); assumption)) only [f_X0_relateSayings_b75, f_X0_relateSayings_j120, SR, SC, LI, ↓li_m1, nI_add, pk_mul, nn_sub, nn_m1, nn_div, nn_rem, nn_nz, nn_mod, nJ_l, lN_add, lN_mul, nn_tb1, nI_bt, nn_and, nn_or, nn_xor, nn_shr, nn_1shl, nn_31, il_p, il_n, it_p, it_n, ie_p, ie_n, ie_b, ie_b1, ie_m, ie_mm, it_m, it_m0, il_m0, bI_rZ, Option.bind_some, bd2_some, Nat.add_zero, Nat.zero_add, if_true, if_false, Bool.false_eq_true, eq_self, hI_R, hJ_R, ng_t, ng_e, e3, r, bI_t, x1], _, rfl, fg.tr (FR.hI (by decide) (by decide) (by decide)), fun q hq => ?_⟩
      rw [rI_ne (i := 47) (by decide)]
      by_cases hx : q = j
      · subst hx
        rw [rI_eq, decide_eq_true (by omega), hb]
        exact ⟨rfl, x2⟩
      · rw [rI_nk hx, st q hx]
        exact i1 q hq
  · rintro _ ⟨g, rfl, fg, i1⟩
    have lg := fg.lay hl
    have sg := cs_fr fg hs
    have e3 := (cb_fr fg (by decide) hs hc).1.2.2.2.2.1
    refine ⟨g, by simp (disch := first | assumption | omega | decide | ((repeat first | apply lyI | apply lyJ | apply lywI | apply lywJ | apply csI | apply csJ | apply cswI | apply cswJ); assumption)) only [f_X0_relateSayings_b75, SC, LI, ↓li_m1, nI_add, pk_mul, nn_sub, nn_m1, nn_div, nn_rem, nn_nz, nn_mod, nJ_l, lN_add, lN_mul, nn_tb1, nI_bt, nn_and, nn_or, nn_xor, nn_shr, nn_1shl, nn_31, il_p, il_n, it_p, it_n, ie_p, ie_n, ie_b, ie_b1, ie_m, ie_mm, it_m, it_m0, il_m0, bI_rZ, Option.bind_some, bd2_some, Nat.add_zero, Nat.zero_add, if_true, if_false, Bool.false_eq_true, eq_self, hI_R, hJ_R, ng_t, ng_e, e3], fg, fun q hq => ?_⟩
    have := i1 q hq
    rw [decide_eq_true hq, Bool.true_and, Bool.true_and] at this
    refine ⟨this.1, ?_⟩
    rw [this.2]
    cases Q q w <;> rfl
theorem b_relate {h : aH} {c : Nat} (hs : CS h c) {A : Nat → Nat} {P : Nat → Bool} {Q : Nat → Nat → Bool} (hc : CB h c A P Q) (hw : WF A) (hl : LAY h) : ∃ h', f_X0_relateSayings h 43 c = some h' ∧ FR h h' [43, 46, 47] [] [] [] ∧ RS h' A P Q (A 2) := by
  obtain ⟨b0, b1, b2l, b2, b3, b4⟩ := wf_b hw
  have k46 : kd (hI h 43 4 (nI 0)) 46 = 20 := lay_kd hl 46 (by decide)
  have n46 : ln (hI h 43 4 (nI 0)) 46 = 12 := lay_ln hl 46 (by decide)
  have e1 := fill_I (x := nI 0) k46 n46 (by decide)
  have k47 : kd (wI (hI h 43 4 (nI 0)) 46 (setF ((hI h 43 4 (nI 0)).2.1 46) 0 12 (fun _ => nI 0))) 47 = 20 := lay_kd hl 47 (by decide)
  have n47 : ln (wI (hI h 43 4 (nI 0)) 46 (setF ((hI h 43 4 (nI 0)).2.1 46) 0 12 (fun _ => nI 0))) 47 = 12 := lay_ln hl 47 (by decide)
  have e2 := fill_I (x := nI 0) k47 n47 (by decide)
  let h2 := wI (wI (hI h 43 4 (nI 0)) 46 (setF ((hI h 43 4 (nI 0)).2.1 46) 0 12 (fun _ => nI 0))) 47 (setF ((wI (hI h 43 4 (nI 0)) 46 (setF ((hI h 43 4 (nI 0)).2.1 46) 0 12 (fun _ => nI 0))).2.1 47) 0 12 (fun _ => nI 0))
  have f2 : FR h h2 [43, 46, 47] [] [] [] := ((FR.hI (by decide) (by decide) (by decide)).tr (FR.wI (by decide) (by decide) (by decide))).tr (FR.wI (by decide) (by decide) (by decide))
  have e : ∃ h', f_X0_relateSayings_l23 43 c (nI 0) h2 = some h' ∧ FR h h' [43, 46, 47] [] [] [] ∧ RS h' A P Q (A 2) := by
    refine forI (fun j (t : Int32 × aH) => ∃ g, t = (nI j, g) ∧ FR h g [43, 46, 47] [] [] [] ∧ RS g A P Q j) _ (A 2) (by omega) ⟨h2, rfl, f2, rfl, fun q hq => ⟨?_, ?_⟩⟩ ?_ ?_
    · show setF _ 0 12 (fun _ => nI 0) q = _
      rw [setF_in0 (by omega)]
      rfl
    · show setF _ 0 12 (fun _ => nI 0) q = _
      rw [setF_in0 (by omega)]
      rfl
    · rintro j _ hj ⟨g, rfl, fg, r4, rq⟩
      have lg := fg.lay hl
      have sg := cs_fr fg hs
      have cg := cb_fr fg (by decide) hs hc
      have e2' := cg.1.2.2.1
      have r1 := b_canBe sg cg hw hj
      rcases (Bool.eq_false_or_eq_true (P j)).symm with hp | hp
      · rw [hp] at r1
        refine ⟨(nI (j + 1), g), by simp (disch := first | assumption | omega | decide | ((repeat first | apply lyI | apply lyJ | apply lywI | apply lywJ | apply csI | apply csJ | apply cswI | apply cswJ); assumption)) only [f_X0_relateSayings_b23, f_X0_relateSayings_j126, SR, SC, LI, ↓li_m1, nI_add, pk_mul, nn_sub, nn_m1, nn_div, nn_rem, nn_nz, nn_mod, nJ_l, lN_add, lN_mul, nn_tb1, nI_bt, nn_and, nn_or, nn_xor, nn_shr, nn_1shl, nn_31, il_p, il_n, it_p, it_n, ie_p, ie_n, ie_b, ie_b1, ie_m, ie_mm, it_m, it_m0, il_m0, bI_rZ, Option.bind_some, bd2_some, Nat.add_zero, Nat.zero_add, if_true, if_false, Bool.false_eq_true, eq_self, hI_R, hJ_R, ng_t, ng_e, e2', r1, bI_f], g, rfl, fg, ?_, fun q hq => ?_⟩
        · rw [r4]
          simp only [neN, orN, hp, Bool.false_eq_true, if_false, Nat.or_zero]
        · rw [(rq q hq).1, (rq q hq).2]
          simp only [meN, leN, orN, hp, Bool.false_and, Bool.false_eq_true, if_false, Nat.or_zero]
          exact ⟨trivial, trivial⟩
      · rw [hp] at r1
        have eq := (cg.2.2.2.1 j hj).2
        have r2 := x_say (h := g) (a := qwN A Q j (A 3)) (b := qwN A Q j (A 3) ^^^ F32)
        have r2' : f_X0_sayingsOf g (nI (qwN A Q j (A 3))) (nI (qwN A Q j (A 3) ^^^ F32)) = some (nI (swN A Q j)) := r2
        have fg2 : FR h (hI g 43 4 (nI (neN A P Q j ||| (swN A Q j ^^^ F32)))) [43, 46, 47] [] [] [] := fg.tr (FR.hI (by decide) (by decide) (by decide))
        obtain ⟨g', e5, f5, i5⟩ := b_rel1 (h := hI g 43 4 (nI (neN A P Q j ||| (swN A Q j ^^^ F32)))) sg (cb_fr fg2 (by decide) hs hc) hw lg hj hp (m := fun q => meN A P Q q j) (l := fun q => leN A P Q q j) rq
        refine ⟨(nI (j + 1), g'), by simp (disch := first | assumption | omega | decide | ((repeat first | apply lyI | apply lyJ | apply lywI | apply lywJ | apply csI | apply csJ | apply cswI | apply cswJ); assumption)) only [f_X0_relateSayings_b23, f_X0_relateSayings_j126, SR, SC, LI, ↓li_m1, nI_add, pk_mul, nn_sub, nn_m1, nn_div, nn_rem, nn_nz, nn_mod, nJ_l, lN_add, lN_mul, nn_tb1, nI_bt, nn_and, nn_or, nn_xor, nn_shr, nn_1shl, nn_31, il_p, il_n, it_p, it_n, ie_p, ie_n, ie_b, ie_b1, ie_m, ie_mm, it_m, it_m0, il_m0, bI_rZ, Option.bind_some, bd2_some, Nat.add_zero, Nat.zero_add, if_true, if_false, Bool.false_eq_true, eq_self, hI_R, hJ_R, ng_t, ng_e, e2', r1, bI_t, eq, m1_n, r2', r4, e5], g', rfl, fg2.tr (f5.mono (by decide) (by decide) (by decide) (by decide)), ?_, fun q hq => ?_⟩
        · rw [f5.I 43 (by decide) (by decide) (by decide), rI_eq]
          simp only [neN, orN, hp, if_true]
        · obtain ⟨y1, y2⟩ := i5 q hq
          rw [y1, y2]
          simp only [meN, leN, orN, hp, Bool.true_and]
          cases Q q j <;> exact ⟨rfl, rfl⟩
    · rintro _ ⟨g, rfl, fg, rs⟩
      have lg := fg.lay hl
      have sg := cs_fr fg hs
      have e2' := (cb_fr fg (by decide) hs hc).1.2.2.1
      exact ⟨g, by simp (disch := first | assumption | omega | decide | ((repeat first | apply lyI | apply lyJ | apply lywI | apply lywJ | apply csI | apply csJ | apply cswI | apply cswJ); assumption)) only [f_X0_relateSayings_b23, SC, LI, ↓li_m1, nI_add, pk_mul, nn_sub, nn_m1, nn_div, nn_rem, nn_nz, nn_mod, nJ_l, lN_add, lN_mul, nn_tb1, nI_bt, nn_and, nn_or, nn_xor, nn_shr, nn_1shl, nn_31, il_p, il_n, it_p, it_n, ie_p, ie_n, ie_b, ie_b1, ie_m, ie_mm, it_m, it_m0, il_m0, bI_rZ, Option.bind_some, bd2_some, Nat.add_zero, Nat.zero_add, if_true, if_false, Bool.false_eq_true, eq_self, hI_R, hJ_R, ng_t, ng_e, e2'], fg, rs⟩
  obtain ⟨h', e5, f5, rs⟩ := e
  exact ⟨h', by simp (disch := first | assumption | omega | decide | ((repeat first | apply lyI | apply lyJ | apply lywI | apply lywJ | apply csI | apply csJ | apply cswI | apply cswJ); assumption)) only [f_X0_relateSayings, SR, LI, ↓li_m1, nI_add, pk_mul, nn_sub, nn_m1, nn_div, nn_rem, nn_nz, nn_mod, nJ_l, lN_add, lN_mul, nn_tb1, nI_bt, nn_and, nn_or, nn_xor, nn_shr, nn_1shl, nn_31, il_p, il_n, it_p, it_n, ie_p, ie_n, ie_b, ie_b1, ie_m, ie_mm, it_m, it_m0, il_m0, bI_rZ, Option.bind_some, bd2_some, Nat.add_zero, Nat.zero_add, if_true, if_false, Bool.false_eq_true, eq_self, hI_R, hJ_R, ng_t, ng_e, e1, e2, e5], f5, rs⟩
