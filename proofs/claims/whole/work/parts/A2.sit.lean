/-! ===== a sitting, step by step ===== -/
/-- the minutes of a sitting: how many, the day, the answers -/
abbrev MT : Type := Nat × Nat × (Nat → Nat → Nat)
def tdN (t : MT) : Nat := cntB (fun k => t.2.2 k 3 == t.2.1) t.1
def puS (S : Nat → Nat → Nat → Nat → Nat) (tr : Nat) (tk : Nat → Nat) (v : Nat) (q : Option Nat) (t : MT) : MT := match q with
  | none => t
  | some q => if (putN t.2.2 t.1 q || decide (9 ≤ tdN t)) = true then t else (t.1 + 1, t.2.1, adM t.2.2 t.1 v q (S v q tr (tk v)) t.2.1)
theorem pu_s {S : Nat → Nat → Nat → Nat → Nat} {tr : Nat} {tk : Nat → Nat} {v q : Nat} {t : MT} : puS S tr tk v (some q) t = if (putN t.2.2 t.1 q || decide (9 ≤ tdN t)) = true then t else (t.1 + 1, t.2.1, adM t.2.2 t.1 v q (S v q tr (tk v)) t.2.1) := rfl
def lvT (A : Nat → Nat) (P : Nat → Bool) (S : Nat → Nat → Nat → Nat → Nat) (t : MT) : Nat → Bool := lvB A P S t.2.2 t.1
def bsO (A : Nat → Nat) (P : Nat → Bool) (S : Nat → Nat → Nat → Nat → Nat) (v : Nat) (t : MT) : Option Nat := if cntB (lvT A P S t) (A 2) = 0 then none else match bsN (putN t.2.2 t.1) (woN A P S (FT A P S t.2.2 t.1) v) (A 3) with
  | none => none
  | some (b, _) => some b
def crT (A : Nat → Nat) (P : Nat → Bool) (Q : Nat → Nat → Bool) (S : Nat → Nat → Nat → Nat → Nat) (t : MT) (q : Nat) : Int32 := crI A (lvT A P S t) (Q q)
/-- test 0: sure, 1: yes, 2: no, 3: left -/
def paB (A : Nat → Nat) (P : Nat → Bool) (Q : Nat → Nat → Bool) (S : Nat → Nat → Nat → Nat → Nat) (x a : Nat) (t : MT) : Bool := if x = 0 then decide (crT A P Q S t a ≠ m1) else if x = 1 then decide (crT A P Q S t a = nI 1) else if x = 2 then decide (crT A P Q S t a = nI 0) else decide (cntB (lvT A P S t) (A 2) ≤ a)
def juN (A : Nat → Nat) (P : Nat → Bool) (Q : Nat → Nat → Bool) (S : Nat → Nat → Nat → Nat → Nat) (tr q : Nat) (t : MT) : Nat := if (if crT A P Q S t q = m1 then decide (waN A P (FT A P S t.2.2 t.1) (selB m1 m1) (fun _ => true) (A 2) ≤ 2 * waN A P (FT A P S t.2.2 t.1) (selB m1 m1) (Q q) (A 2)) else decide (crT A P Q S t q = nI 1)) = Q q tr then 0 else 1
/-- what is kept of a sitting's minutes -/
def GM (A : Nat → Nat) (t : MT) : Prop := MW A t.1 t.2.1 t.2.2 ∧ DI t.1 t.2.1 t.2.2 ∧ t.2.1 ≤ 100
theorem gm_put {A : Nat → Nat} (hw : WF A) {S : Nat → Nat → Nat → Nat → Nat} {tr : Nat} {tk : Nat → Nat} {v q : Nat} {t : MT} (gm : GM A t) (hv : v < A 4) (hq : q < A 3) (ha : S v q tr (tk v) < 2 * A 3) : GM A (puS S tr tk v (some q) t) := by
  rw [pu_s]
  split
  · exact gm
  · rename_i h
    rw [Bool.not_eq_true, Bool.or_eq_false_iff] at h
    have h9 : cntB (fun k => t.2.2 k 3 == t.2.1) t.1 < 9 := Nat.lt_of_not_le (of_decide_eq_false h.2)
    exact ⟨mw_add hw gm.1 hv hq ha h.1, di_add gm.2.1 h9, gm.2.2⟩
/-- the sitting's hearing, at 68 -/
def H8 (h : aH) (c : Nat) (A : Nat → Nat) (P : Nat → Bool) (Q : Nat → Nat → Bool) (S : Nat → Nat → Nat → Nat → Nat) (t : MT) : Prop := CS h c ∧ CC h c A P Q S ∧ LAY h ∧ h.2.2.2 68 4 = some c ∧ MN h 69 t.1 t.2.1 t.2.2 ∧ HR h 68 A P S t.2.2 t.1
def L68 : List Nat := [68, 69, 70, 71, 72, 73, 74, 75, 76]
theorem x_put {h : aH} {c : Nat} {A : Nat → Nat} {P : Nat → Bool} {Q : Nat → Nat → Bool} {S : Nat → Nat → Nat → Nat → Nat} {t : MT} (h8 : H8 h c A P Q S t) (hw : WF A) (gm : GM A t) {tr : Nat} {tk : Nat → Nat} (e2 : h.2.1 66 2 = nI tr) (e67 : ∀ v, v < A 4 → h.2.1 67 v = nI (tk v)) (ht : tr < A 2) (hpt : P tr = true) (hk : ∀ v, v < A 4 → tk v < 4) {v : Nat} (hv : v < A 4) (q : Option Nat) (hq : ∀ x, q = some x → x < A 3) : ∃ h', f_X10_put h 66 (nI v) (match q with | some x => nI x | none => m1) = some h' ∧ FR h h' L68 [] [] [] ∧ H8 h' c A P Q S (puS S tr tk v q t) ∧ GM A (puS S tr tk v q t) := by
  obtain ⟨hs, hc, hl, hf, hm, hr⟩ := id h8
  obtain ⟨b0, b1, b2l, b2, b3, b4⟩ := wf_b hw
  obtain ⟨mw, di, td⟩ := id gm
  cases q with
  | none => exact ⟨h, by simp (disch := first | assumption | omega | decide | ((repeat first | apply lyI | apply lyJ | apply lywI | apply lywJ | apply csI | apply csJ | apply cswI | apply cswJ); assumption)) only [f_X10_put, LI, ↓li_m1, nI_add, pk_mul, nn_sub, nn_m1, nn_div, nn_rem, nn_nz, nn_mod, nJ_l, lN_add, lN_mul, nn_tb1, nI_bt, nn_and, nn_or, nn_xor, nn_shr, nn_1shl, nn_31, il_p, il_n, it_p, it_n, ie_p, ie_n, ie_b, ie_b1, ie_m, ie_mm, it_m, it_m0, il_m0, bI_rZ, Option.bind_some, bd2_some, Nat.add_zero, Nat.zero_add, if_true, if_false, Bool.false_eq_true, eq_self, hI_R, hJ_R, ng_t, ng_e], FR.rf, h8, gm⟩
  | some q =>
    have qb := hq q rfl
    have r1 := k_wasPut68 hs hc hw hl hf hm mw hr qb
    have r2 := k_today68 hs hc hw hl hf hm mw hr
    have cl := cntB_le (fun k => t.2.2 k 3 == t.2.1) t.1
    have mn := mw.1
    show ∃ h', f_X10_put h 66 (nI v) (nI q) = some h' ∧ _
    rcases (Bool.eq_false_or_eq_true (putN t.2.2 t.1 q)).symm with hp | hp
    · rw [hp] at r1
      by_cases h9 : 9 ≤ cntB (fun k => t.2.2 k 3 == t.2.1) t.1
      · have e : puS S tr tk v (some q) t = t := by
          rw [pu_s]
          unfold tdN
          rw [decide_eq_true h9, Bool.or_true, if_pos rfl]
        rw [e]
        exact ⟨h, by simp (disch := first | assumption | omega | decide | ((repeat first | apply lyI | apply lyJ | apply lywI | apply lywJ | apply csI | apply csJ | apply cswI | apply cswJ); assumption)) only [f_X10_put, SG, SH68, LI, ↓li_m1, nI_add, pk_mul, nn_sub, nn_m1, nn_div, nn_rem, nn_nz, nn_mod, nJ_l, lN_add, lN_mul, nn_tb1, nI_bt, nn_and, nn_or, nn_xor, nn_shr, nn_1shl, nn_31, il_p, il_n, it_p, it_n, ie_p, ie_n, ie_b, ie_b1, ie_m, ie_mm, it_m, it_m0, il_m0, bI_rZ, Option.bind_some, bd2_some, Nat.add_zero, Nat.zero_add, if_true, if_false, Bool.false_eq_true, eq_self, hI_R, hJ_R, ng_t, ng_e, r1, bI_f, r2], FR.rf, h8, gm⟩
      · have sb := (hc.2.2.2.2.2.2 v q tr hv qb ht hpt).2
        have ha := sb (tk v) (hk v hv)
        have e : puS S tr tk v (some q) t = (t.1 + 1, t.2.1, adM t.2.2 t.1 v q (S v q tr (tk v)) t.2.1) := by
          rw [pu_s]
          unfold tdN
          rw [hp, decide_eq_false h9, if_neg (by decide)]
        have gm' := gm_put (S := S) (tr := tr) (tk := tk) hw gm hv qb ha
        have r3 := c_packed hs hc hw hv qb ht hpt
        have r4 := c_answerOf (h := h) (s := S v q tr) (fun i hi => by have := sb i hi; omega) (hk v hv)
        have e67' := e67 v hv
        obtain ⟨h1, r5, f1, m1', hr1⟩ := k_enter68 hs hc hw hl hf hm mw hr hv qb ha hp
        refine ⟨h1, by simp (disch := first | assumption | omega | decide | ((repeat first | apply lyI | apply lyJ | apply lywI | apply lywJ | apply csI | apply csJ | apply cswI | apply cswJ); assumption)) only [f_X10_put, SG, SH68, SC, LI, ↓li_m1, nI_add, pk_mul, nn_sub, nn_m1, nn_div, nn_rem, nn_nz, nn_mod, nJ_l, lN_add, lN_mul, nn_tb1, nI_bt, nn_and, nn_or, nn_xor, nn_shr, nn_1shl, nn_31, il_p, il_n, it_p, it_n, ie_p, ie_n, ie_b, ie_b1, ie_m, ie_mm, it_m, it_m0, il_m0, bI_rZ, Option.bind_some, bd2_some, Nat.add_zero, Nat.zero_add, if_true, if_false, Bool.false_eq_true, eq_self, hI_R, hJ_R, ng_t, ng_e, r1, bI_f, r2, hf, e2, r3, e67', r4, r5], f1.mono (by decide) (by decide) (by decide) (by decide), ?_, gm'⟩
        rw [e]
        exact ⟨cs_fr f1 hs, cc_fr f1 (by decide) hs hc, f1.lay hl, by rw [f1.2.1]; exact hf, m1', hr1⟩
    · rw [hp] at r1
      have e : puS S tr tk v (some q) t = t := by
        rw [pu_s, hp, Bool.true_or, if_pos rfl]
      rw [e]
      exact ⟨h, by simp (disch := first | assumption | omega | decide | ((repeat first | apply lyI | apply lyJ | apply lywI | apply lywJ | apply csI | apply csJ | apply cswI | apply cswJ); assumption)) only [f_X10_put, SG, SH68, LI, ↓li_m1, nI_add, pk_mul, nn_sub, nn_m1, nn_div, nn_rem, nn_nz, nn_mod, nJ_l, lN_add, lN_mul, nn_tb1, nI_bt, nn_and, nn_or, nn_xor, nn_shr, nn_1shl, nn_31, il_p, il_n, it_p, it_n, ie_p, ie_n, ie_b, ie_b1, ie_m, ie_mm, it_m, it_m0, il_m0, bI_rZ, Option.bind_some, bd2_some, Nat.add_zero, Nat.zero_add, if_true, if_false, Bool.false_eq_true, eq_self, hI_R, hJ_R, ng_t, ng_e, r1, bI_t], FR.rf, h8, gm⟩
