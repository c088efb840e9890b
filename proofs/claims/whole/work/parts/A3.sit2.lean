/-! ===== a sitting: tests ===== -/
theorem x_pass {h : aH} {c : Nat} {A : Nat → Nat} {P : Nat → Bool} {Q : Nat → Nat → Bool} {S : Nat → Nat → Nat → Nat → Nat} {t : MT} (h8 : H8 h c A P Q S t) (hw : WF A) (gm : GM A t) {x a : Nat} (hx : x < 4) (ha : x < 3 → a < A 3) (ha2 : a ≤ 256) : f_X10_passes h 66 (nI (30 + x)) (nI a) = some (bI (paB A P Q S x a t)) := by
  obtain ⟨hs, hc, hl, hf, hm, hr⟩ := id h8
  obtain ⟨mw, di, td⟩ := id gm
  have b2 := (wf_b hw).2.2.2.1
  rcases lt4 hx with rfl | rfl | rfl | rfl
  · have r : f_X3_certainty h 68 (nI a) = some (crT A P Q S t a) := k_cert68 hs hc hw hl hf hm mw hr (ha (by decide))
    unfold paB
    rw [if_pos rfl]
    by_cases hz : crT A P Q S t a = m1
    · rw [decide_eq_false (fun e => e hz)]
      rw [hz] at r
      simp (disch := first | assumption | omega | decide | ((repeat first | apply lyI | apply lyJ | apply lywI | apply lywJ | apply csI | apply csJ | apply cswI | apply cswJ); assumption)) only [f_X10_passes, SG, SH68, LI, ↓li_m1, nI_add, pk_mul, nn_sub, nn_m1, nn_div, nn_rem, nn_nz, nn_mod, nJ_l, lN_add, lN_mul, nn_tb1, nI_bt, nn_and, nn_or, nn_xor, nn_shr, nn_1shl, nn_31, il_p, il_n, it_p, it_n, ie_p, ie_n, ie_b, ie_b1, ie_m, ie_mm, it_m, it_m0, il_m0, bI_rZ, Option.bind_some, bd2_some, Nat.add_zero, Nat.zero_add, if_true, if_false, Bool.false_eq_true, eq_self, hI_R, hJ_R, ng_t, ng_e, r]
      rfl
    · rw [decide_eq_true hz]
      simp (disch := first | assumption | omega | decide | ((repeat first | apply lyI | apply lyJ | apply lywI | apply lywJ | apply csI | apply csJ | apply cswI | apply cswJ); assumption)) only [f_X10_passes, SG, SH68, LI, ↓li_m1, nI_add, pk_mul, nn_sub, nn_m1, nn_div, nn_rem, nn_nz, nn_mod, nJ_l, lN_add, lN_mul, nn_tb1, nI_bt, nn_and, nn_or, nn_xor, nn_shr, nn_1shl, nn_31, il_p, il_n, it_p, it_n, ie_p, ie_n, ie_b, ie_b1, ie_m, ie_mm, it_m, it_m0, il_m0, bI_rZ, Option.bind_some, bd2_some, Nat.add_zero, Nat.zero_add, if_true, if_false, Bool.false_eq_true, eq_self, hI_R, hJ_R, ng_t, ng_e, r, if_neg hz]
      rfl
  · have r : f_X3_certainty h 68 (nI a) = some (crT A P Q S t a) := k_cert68 hs hc hw hl hf hm mw hr (ha (by decide))
    unfold paB
    rw [if_neg (by decide), if_pos rfl]
    by_cases hz : crT A P Q S t a = nI 1
    · rw [decide_eq_true hz]
      rw [hz] at r
      simp (disch := first | assumption | omega | decide | ((repeat first | apply lyI | apply lyJ | apply lywI | apply lywJ | apply csI | apply csJ | apply cswI | apply cswJ); assumption)) only [f_X10_passes, SG, SH68, LI, ↓li_m1, nI_add, pk_mul, nn_sub, nn_m1, nn_div, nn_rem, nn_nz, nn_mod, nJ_l, lN_add, lN_mul, nn_tb1, nI_bt, nn_and, nn_or, nn_xor, nn_shr, nn_1shl, nn_31, il_p, il_n, it_p, it_n, ie_p, ie_n, ie_b, ie_b1, ie_m, ie_mm, it_m, it_m0, il_m0, bI_rZ, Option.bind_some, bd2_some, Nat.add_zero, Nat.zero_add, if_true, if_false, Bool.false_eq_true, eq_self, hI_R, hJ_R, ng_t, ng_e, r]
      rfl
    · rw [decide_eq_false hz]
      simp (disch := first | assumption | omega | decide | ((repeat first | apply lyI | apply lyJ | apply lywI | apply lywJ | apply csI | apply csJ | apply cswI | apply cswJ); assumption)) only [f_X10_passes, SG, SH68, LI, ↓li_m1, nI_add, pk_mul, nn_sub, nn_m1, nn_div, nn_rem, nn_nz, nn_mod, nJ_l, lN_add, lN_mul, nn_tb1, nI_bt, nn_and, nn_or, nn_xor, nn_shr, nn_1shl, nn_31, il_p, il_n, it_p, it_n, ie_p, ie_n, ie_b, ie_b1, ie_m, ie_mm, it_m, it_m0, il_m0, bI_rZ, Option.bind_some, bd2_some, Nat.add_zero, Nat.zero_add, if_true, if_false, Bool.false_eq_true, eq_self, hI_R, hJ_R, ng_t, ng_e, r, if_neg hz]
      rfl
  · have r : f_X3_certainty h 68 (nI a) = some (crT A P Q S t a) := k_cert68 hs hc hw hl hf hm mw hr (ha (by decide))
    unfold paB
    rw [if_neg (by decide), if_neg (by decide), if_pos rfl]
    by_cases hz : crT A P Q S t a = nI 0
    · rw [decide_eq_true hz]
      rw [hz] at r
      simp (disch := first | assumption | omega | decide | ((repeat first | apply lyI | apply lyJ | apply lywI | apply lywJ | apply csI | apply csJ | apply cswI | apply cswJ); assumption)) only [f_X10_passes, SG, SH68, LI, ↓li_m1, nI_add, pk_mul, nn_sub, nn_m1, nn_div, nn_rem, nn_nz, nn_mod, nJ_l, lN_add, lN_mul, nn_tb1, nI_bt, nn_and, nn_or, nn_xor, nn_shr, nn_1shl, nn_31, il_p, il_n, it_p, it_n, ie_p, ie_n, ie_b, ie_b1, ie_m, ie_mm, it_m, it_m0, il_m0, bI_rZ, Option.bind_some, bd2_some, Nat.add_zero, Nat.zero_add, if_true, if_false, Bool.false_eq_true, eq_self, hI_R, hJ_R, ng_t, ng_e, r]
      rfl
    · rw [decide_eq_false hz]
      simp (disch := first | assumption | omega | decide | ((repeat first | apply lyI | apply lyJ | apply lywI | apply lywJ | apply csI | apply csJ | apply cswI | apply cswJ); assumption)) only [f_X10_passes, SG, SH68, LI, ↓li_m1, nI_add, pk_mul, nn_sub, nn_m1, nn_div, nn_rem, nn_nz, nn_mod, nJ_l, lN_add, lN_mul, nn_tb1, nI_bt, nn_and, nn_or, nn_xor, nn_shr, nn_1shl, nn_31, il_p, il_n, it_p, it_n, ie_p, ie_n, ie_b, ie_b1, ie_m, ie_mm, it_m, it_m0, il_m0, bI_rZ, Option.bind_some, bd2_some, Nat.add_zero, Nat.zero_add, if_true, if_false, Bool.false_eq_true, eq_self, hI_R, hJ_R, ng_t, ng_e, r, if_neg hz]
      rfl
  · have hv : h.2.1 68 5 = nI (cntB (lvT A P S t) (A 2)) := hr.1
    have cle := cntB_le (lvT A P S t) (A 2)
    unfold paB
    rw [if_neg (by decide), if_neg (by decide), if_neg (by decide)]
    by_cases hz : cntB (lvT A P S t) (A 2) ≤ a
    · rw [decide_eq_true hz]
      simp (disch := first | assumption | omega | decide | ((repeat first | apply lyI | apply lyJ | apply lywI | apply lywJ | apply csI | apply csJ | apply cswI | apply cswJ); assumption)) only [f_X10_passes, SG, SH68, LI, ↓li_m1, nI_add, pk_mul, nn_sub, nn_m1, nn_div, nn_rem, nn_nz, nn_mod, nJ_l, lN_add, lN_mul, nn_tb1, nI_bt, nn_and, nn_or, nn_xor, nn_shr, nn_1shl, nn_31, il_p, il_n, it_p, it_n, ie_p, ie_n, ie_b, ie_b1, ie_m, ie_mm, it_m, it_m0, il_m0, bI_rZ, Option.bind_some, bd2_some, Nat.add_zero, Nat.zero_add, if_true, if_false, Bool.false_eq_true, eq_self, hI_R, hJ_R, ng_t, ng_e, hv]
      rfl
    · rw [decide_eq_false hz]
      simp (disch := first | assumption | omega | decide | ((repeat first | apply lyI | apply lyJ | apply lywI | apply lywJ | apply csI | apply csJ | apply cswI | apply cswJ); assumption)) only [f_X10_passes, SG, SH68, LI, ↓li_m1, nI_add, pk_mul, nn_sub, nn_m1, nn_div, nn_rem, nn_nz, nn_mod, nJ_l, lN_add, lN_mul, nn_tb1, nI_bt, nn_and, nn_or, nn_xor, nn_shr, nn_1shl, nn_31, il_p, il_n, it_p, it_n, ie_p, ie_n, ie_b, ie_b1, ie_m, ie_mm, it_m, it_m0, il_m0, bI_rZ, Option.bind_some, bd2_some, Nat.add_zero, Nat.zero_add, if_true, if_false, Bool.false_eq_true, eq_self, hI_R, hJ_R, ng_t, ng_e, hv]
      rfl
theorem two_l {a b : Nat} (ha : 2 * a < 2 ^ 63) (hb : b < 2 ^ 63) : (lg_cmp ((2 : Int64) * lN a) (lN b) < nI 0) ↔ 2 * a < b := by
  rw [show (2 : Int64) = lN 2 from rfl, lN_mul]
  unfold lg_cmp
  by_cases h : b < 2 * a
  · rw [if_pos ((pk_lLT hb ha).mpr h)]
    exact ⟨fun e => absurd e (by decide), fun e => by omega⟩
  · rw [if_neg (fun e => h ((pk_lLT hb ha).mp e))]
    by_cases h2 : 2 * a = b
    · rw [if_pos (congrArg lN h2)]
      exact ⟨fun e => absurd e (by decide), fun e => by omega⟩
    · rw [if_neg (fun e => h2 ((pk_lEQ ha hb).mp e))]
      exact ⟨fun _ => by omega, fun _ => by decide⟩
theorem wa_lt2 {A : Nat → Nat} (hw : WF A) {P : Nat → Bool} {F : Nat → Nat → Nat} {sel : Nat → Nat → Bool} {qs : Nat → Bool} : 2 * waN A P F sel qs (A 2) < 2 ^ 63 := by
  obtain ⟨b0, b1, b2l, b2, b3, b4⟩ := wf_b hw
  have h1 : ∀ w, wbN A F sel w ≤ 6561 * 64 ^ 4 := fun w => Nat.le_trans (wb_le hw (A 4) (Nat.le_refl _)) (Nat.mul_le_mul_left _ (Nat.pow_le_pow_right (by decide) b4))
  have h2 : waN A P F sel qs (A 2) ≤ 6561 * 64 ^ 4 * A 2 := sumN_le (fun i _ => by
    split
    · exact h1 i
    · exact Nat.zero_le _)
  have h3 : 6561 * 64 ^ 4 * A 2 ≤ 6561 * 64 ^ 4 * 256 := Nat.mul_le_mul_left _ b2
  have h4 : 2 * (6561 * 64 ^ 4 * 256) < 2 ^ 63 := by decide
  omega
theorem x_judge {h : aH} {c : Nat} {A : Nat → Nat} {P : Nat → Bool} {Q : Nat → Nat → Bool} {S : Nat → Nat → Nat → Nat → Nat} {t : MT} (h8 : H8 h c A P Q S t) (hw : WF A) (gm : GM A t) {tr q : Nat} (e2 : h.2.1 66 2 = nI tr) (ht : tr < A 2) (hq : q < A 3) : f_X10_judge h 66 (nI q) = some (nI (juN A P Q S tr q t)) := by
  obtain ⟨hs, hc, hl, hf, hm, hr⟩ := id h8
  obtain ⟨mw, di, td⟩ := id gm
  have r : f_X3_certainty h 68 (nI q) = some (crT A P Q S t q) := k_cert68 hs hc hw hl hf hm mw hr hq
  have r2 := c_inQ hs hc hw ht hq
  have j43 : ∀ b, f_X10_judge_j43 h 66 (nI q) (bI b) = some (nI (if b = Q q tr then 0 else 1)) := fun b => by
    cases b <;> cases hb : Q q tr <;> rw [hb] at r2 <;> simp (disch := first | assumption | omega | decide | ((repeat first | apply lyI | apply lyJ | apply lywI | apply lywJ | apply csI | apply csJ | apply cswI | apply cswJ); assumption)) only [f_X10_judge_j43, SG, SH68, SC, LI, ↓li_m1, nI_add, pk_mul, nn_sub, nn_m1, nn_div, nn_rem, nn_nz, nn_mod, nJ_l, lN_add, lN_mul, nn_tb1, nI_bt, nn_and, nn_or, nn_xor, nn_shr, nn_1shl, nn_31, il_p, il_n, it_p, it_n, ie_p, ie_n, ie_b, ie_b1, ie_m, ie_mm, it_m, it_m0, il_m0, bI_rZ, Option.bind_some, bd2_some, Nat.add_zero, Nat.zero_add, if_true, if_false, Bool.false_eq_true, eq_self, hI_R, hJ_R, ng_t, ng_e, hf, e2, r2, bI_f, bI_t] <;> rfl
  have s66 : gR h 10 66 0 = some 68 := gR_L hl (by decide) (by decide) (by decide +kernel)
  have k68 : ck h 3 68 = some () := ck_L hl (by decide) (by decide)
  unfold juN
  by_cases hz : crT A P Q S t q = m1
  · have r3 := k_weightIn68 hs hc hw hl hf hm mw hr hq
    have r4 : f_X3_weightOfAll h 68 = some (lN (waN A P (FT A P S t.2.2 t.1) (selB m1 m1) (fun _ => true) (A 2))) := by
      have := k_weightWith68 hs hc hw hl hf hm mw hr m1 m1
      unfold f_X3_weightOfAll
      rw [k68, Option.bind_some, li_m1, this, Option.bind_some]
    have l1 := wa_lt2 hw (P := P) (F := FT A P S t.2.2 t.1) (sel := selB m1 m1) (qs := Q q)
    have l2 := wa_lt hw (P := P) (F := FT A P S t.2.2 t.1) (sel := selB m1 m1) (qs := fun _ => true)
    have tw := two_l (a := waN A P (FT A P S t.2.2 t.1) (selB m1 m1) (Q q) (A 2)) (b := waN A P (FT A P S t.2.2 t.1) (selB m1 m1) (fun _ => true) (A 2)) l1 l2
    rw [if_pos hz]
    unfold f_X10_judge
    rw [s66, Option.bind_some, k68, Option.bind_some, r, Option.bind_some, hz, if_pos (by decide), Option.bind_some, k68, Option.bind_some, r3, Option.bind_some, Option.bind_some, k68, Option.bind_some, r4, Option.bind_some]
    by_cases hx : waN A P (FT A P S t.2.2 t.1) (selB m1 m1) (fun _ => true) (A 2) ≤ 2 * waN A P (FT A P S t.2.2 t.1) (selB m1 m1) (Q q) (A 2)
    · rw [if_neg (fun e => by have := tw.mp e; omega), decide_eq_true hx]
      unfold f_X10_judge_j42
      exact j43 true
    · rw [if_pos (show lg_cmp ((2 : Int64) * lN (waN A P (FT A P S t.2.2 t.1) (selB m1 m1) (Q q) (A 2))) (lN (waN A P (FT A P S t.2.2 t.1) (selB m1 m1) (fun _ => true) (A 2))) < (0 : Int32) from tw.mpr (by omega)), decide_eq_false hx]
      unfold f_X10_judge_j42
      exact j43 false
  · obtain ⟨b, hb⟩ := cr_b hz
    have hb' : crT A P Q S t q = bI b := hb
    rw [if_neg hz, hb']
    rw [hb'] at r hz
    unfold f_X10_judge
    rw [s66, Option.bind_some, k68, Option.bind_some, r, Option.bind_some, if_neg (show ¬ bI b = (-1 : Int32) from hz), j43 b]
    cases b <;> rfl
