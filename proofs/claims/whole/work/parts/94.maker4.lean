/-! ===== what a witness knows ===== -/
def sameB (A : Nat → Nat) (P : Nat → Bool) (v i w : Nat) : Bool := P w && kiN A v w (A 0) == i
def haN (A : Nat → Nat) (P : Nat → Bool) (Q : Nat → Nat → Bool) (v i : Nat) : Nat → Nat
  | 0 => F32
  | j + 1 => if sameB A P v i j = true then haN A P Q v i j &&& qwN A Q j (A 3) else haN A P Q v i j
def hsN (A : Nat → Nat) (P : Nat → Bool) (Q : Nat → Nat → Bool) (v i : Nat) : Nat → Nat
  | 0 => 0
  | j + 1 => if sameB A P v i j = true then hsN A P Q v i j ||| qwN A Q j (A 3) else hsN A P Q v i j
theorem ha_bit {A : Nat → Nat} {P : Nat → Bool} {Q : Nat → Nat → Bool} {v i q : Nat} (hq : q < A 3) (h3 : A 3 ≤ 12) : ∀ {n}, (haN A P Q v i n).testBit q = allB (fun w => !sameB A P v i w || Q q w) n
  | 0 => by
    show F32.testBit q = true
    rw [show F32 = 2 ^ 32 - 1 from rfl, Nat.testBit_two_pow_sub_one]
    exact decide_eq_true (by omega)
  | n + 1 => by
    have ih := ha_bit (A := A) (P := P) (Q := Q) (v := v) (i := i) hq h3 (n := n)
    unfold haN allB
    cases hs : sameB A P v i n
    · rw [if_neg (by decide), ih]
      simp
    · rw [if_pos rfl, Nat.testBit_and, ih, qwN_bit A Q n hq]
      simp
theorem hs_bit {A : Nat → Nat} {P : Nat → Bool} {Q : Nat → Nat → Bool} {v i q : Nat} (hq : q < A 3) : ∀ {n}, (hsN A P Q v i n).testBit q = anyB (fun w => sameB A P v i w && Q q w) n
  | 0 => Nat.zero_testBit q
  | n + 1 => by
    have ih := hs_bit (A := A) (P := P) (Q := Q) (v := v) (i := i) hq (n := n)
    unfold hsN anyB
    cases hs : sameB A P v i n
    · rw [if_neg (by decide), ih]
      simp
    · rw [if_pos rfl, Nat.testBit_or, ih, qwN_bit A Q n hq]
      simp
theorem ha_s {A : Nat → Nat} {P : Nat → Bool} {Q : Nat → Nat → Bool} {v i j : Nat} : haN A P Q v i (j + 1) = if sameB A P v i j = true then haN A P Q v i j &&& qwN A Q j (A 3) else haN A P Q v i j := rfl
theorem hs_s {A : Nat → Nat} {P : Nat → Bool} {Q : Nat → Nat → Bool} {v i j : Nat} : hsN A P Q v i (j + 1) = if sameB A P v i j = true then hsN A P Q v i j ||| qwN A Q j (A 3) else hsN A P Q v i j := rfl
def GK (h : aH) (A : Nat → Nat) (P : Nat → Bool) (Q : Nat → Nat → Bool) (v j : Nat) : Prop := ∀ i, i < 256 → h.2.1 44 i = nI (haN A P Q v i j) ∧ h.2.1 45 i = nI (hsN A P Q v i j)
theorem b_gk1 {h : aH} {c : Nat} (hs : CS h c) {A : Nat → Nat} {P : Nat → Bool} {Q : Nat → Nat → Bool} (hc : CB h c A P Q) (hw : WF A) (hl : LAY h) (h2 : A 2 = stM A (A 0) (A 0)) {v j : Nat} (hv : v < A 4) (hj : j < A 2) (gk : GK h A P Q v j) : ∃ h', f_X0_gatherKnown_b18 43 c (nI v) (nI j) h = some (.inl (nI (j + 1), h')) ∧ FR h h' [44, 45] [] [] [] ∧ GK h' A P Q v (j + 1) := by
  obtain ⟨b0, b1, b2l, b2, b3, b4⟩ := wf_b hw
  have e2 := hc.1.2.2.1
  have r1 := b_canBe hs hc hw hj
  have eq := (hc.2.2.2.1 j hj).2
  rcases (Bool.eq_false_or_eq_true (P j)).symm with hp | hp
  · rw [hp] at r1
    refine ⟨h, by simp (disch := first | assumption | omega | decide | ((repeat first | apply lyI | apply lyJ | apply lywI | apply lywJ | apply csI | apply csJ | apply cswI | apply cswJ); assumption)) only [f_X0_gatherKnown_b18, f_X0_gatherKnown_j74, SR, SC, LI, ↓li_m1, nI_add, pk_mul, nn_sub, nn_m1, nn_div, nn_rem, nn_nz, nn_mod, nJ_l, lN_add, lN_mul, nn_tb1, nI_bt, nn_and, nn_or, nn_xor, nn_shr, nn_1shl, nn_31, il_p, il_n, it_p, it_n, ie_p, ie_n, ie_b, ie_b1, ie_m, ie_mm, it_m, it_m0, il_m0, bI_rZ, Option.bind_some, bd2_some, Nat.add_zero, Nat.zero_add, if_true, if_false, Bool.false_eq_true, eq_self, hI_R, hJ_R, ng_t, ng_e, e2, r1, bI_f], FR.rf, fun i hi => ?_⟩
    have : sameB A P v i j = false := by
      unfold sameB
      rw [hp]
      rfl
    rw [(gk i hi).1, (gk i hi).2]
    rw [ha_s, hs_s, this, if_neg (by decide), if_neg (by decide)]
    exact ⟨rfl, rfl⟩
  · rw [hp] at r1
    have r2 := b_known hs hc hw h2 hv hj
    have kl := ki_lt hw h2 (v := v) (w := j)
    have k256 : kiN A v j (A 0) < 256 := by omega
    obtain ⟨x1, x2⟩ := gk _ k256
    have eq' : ∀ x, (hI h 44 (kiN A v j (A 0)) x).2.1 (c + 10) j = nI (qwN A Q j (A 3)) := fun x => by
      rw [rI_ne (by have := hs.1; omega)]
      exact eq
    have x2' : ∀ x, (hI h 44 (kiN A v j (A 0)) x).2.1 45 (kiN A v j (A 0)) = nI (hsN A P Q v (kiN A v j (A 0)) j) := fun x => by
      rw [rI_ne (by decide)]
      exact x2
    refine ⟨hI (hI h 44 (kiN A v j (A 0)) (nI (haN A P Q v (kiN A v j (A 0)) j &&& qwN A Q j (A 3)))) 45 (kiN A v j (A 0)) (nI (hsN A P Q v (kiN A v j (A 0)) j ||| qwN A Q j (A 3))), by simp (disch := first | assumption | omega | decide | ((repeat first | apply lyI | apply lyJ | apply lywI | apply lywJ | apply csI | apply csJ | apply cswI | apply cswJ); assumption)) only [f_X0_gatherKnown_b18, f_X0_gatherKnown_j74, SR, SC, LI, ↓li_m1, nI_add, pk_mul, nn_sub, nn_m1, nn_div, nn_rem, nn_nz, nn_mod, nJ_l, lN_add, lN_mul, nn_tb1, nI_bt, nn_and, nn_or, nn_xor, nn_shr, nn_1shl, nn_31, il_p, il_n, it_p, it_n, ie_p, ie_n, ie_b, ie_b1, ie_m, ie_mm, it_m, it_m0, il_m0, bI_rZ, Option.bind_some, bd2_some, Nat.add_zero, Nat.zero_add, if_true, if_false, Bool.false_eq_true, eq_self, hI_R, hJ_R, ng_t, ng_e, e2, r1, bI_t, r2, x1, x2', eq, eq'], (FR.hI (by decide) (by decide) (by decide)).tr (FR.hI (by decide) (by decide) (by decide)), fun i hi => ?_⟩
    rw [ha_s, hs_s]
    by_cases hx : i = kiN A v j (A 0)
    · subst hx
      have : sameB A P v (kiN A v j (A 0)) j = true := by
        unfold sameB
        rw [hp]
        simp
      rw [this, if_pos rfl, if_pos rfl, rI_eq, rI_ne (by decide), rI_eq]
      exact ⟨rfl, rfl⟩
    · have : sameB A P v i j = false := by
        unfold sameB
        rw [beq_eq_false_iff_ne.mpr (fun e => hx e.symm), Bool.and_false]
      rw [this, if_neg (by decide), if_neg (by decide), rI_ne (a := 45) (i := 44) (by decide), rI_nk hx, rI_nk hx, rI_ne (by decide)]
      exact gk i hi
theorem b_gather {h : aH} {c : Nat} (hs : CS h c) {A : Nat → Nat} {P : Nat → Bool} {Q : Nat → Nat → Bool} (hc : CB h c A P Q) (hw : WF A) (hl : LAY h) (h2 : A 2 = stM A (A 0) (A 0)) {v : Nat} (hv : v < A 4) : ∃ h', f_X0_gatherKnown h 43 c (nI v) = some h' ∧ FR h h' [44, 45] [] [] [] ∧ GK h' A P Q v (A 2) := by
  obtain ⟨b0, b1, b2l, b2, b3, b4⟩ := wf_b hw
  obtain ⟨g1, e1, f1, z1⟩ := fill_F (h := h) (a := 44) (n := 256) (x := m1) (lay_kd hl 44 (by decide)) (lay_ln hl 44 (by decide)) (by decide) (by decide) (by decide)
  have l1 := f1.lay hl
  obtain ⟨g2, e2, f2, z2⟩ := fill_F (h := g1) (a := 45) (n := 256) (x := nI 0) (lay_kd l1 45 (by decide)) (lay_ln l1 45 (by decide)) (by decide) (by decide) (by decide)
  have ff : FR h g2 [44, 45] [] [] [] := (f1.mono (by decide) (by decide) (by decide) (by decide)).tr (f2.mono (by decide) (by decide) (by decide) (by decide))
  have g0 : GK g2 A P Q v 0 := fun i hi => ⟨by rw [f2.I 44 (by decide) (by decide) (by decide), z1 i hi, m1_n]; rfl, z2 i hi⟩
  have e : ∃ h', f_X0_gatherKnown_l18 43 c (nI v) (nI 0) g2 = some h' ∧ FR h h' [44, 45] [] [] [] ∧ GK h' A P Q v (A 2) := by
    refine forI (fun j (t : Int32 × aH) => ∃ g, t = (nI j, g) ∧ FR h g [44, 45] [] [] [] ∧ GK g A P Q v j) _ (A 2) (by omega) ⟨g2, rfl, ff, g0⟩ ?_ ?_
    · rintro j _ hj ⟨g, rfl, fg, gk⟩
      obtain ⟨g', e5, f5, r5⟩ := b_gk1 (cs_fr fg hs) (cb_fr fg (by decide) hs hc) hw (fg.lay hl) h2 hv hj gk
      exact ⟨(nI (j + 1), g'), e5, g', rfl, fg.tr f5, r5⟩
    · rintro _ ⟨g, rfl, fg, gk⟩
      have lg := fg.lay hl
      have sg := cs_fr fg hs
      have e2 := (cb_fr fg (by decide) hs hc).1.2.2.1
      exact ⟨g, by simp (disch := first | assumption | omega | decide | ((repeat first | apply lyI | apply lyJ | apply lywI | apply lywJ | apply csI | apply csJ | apply cswI | apply cswJ); assumption)) only [f_X0_gatherKnown_b18, SC, LI, ↓li_m1, nI_add, pk_mul, nn_sub, nn_m1, nn_div, nn_rem, nn_nz, nn_mod, nJ_l, lN_add, lN_mul, nn_tb1, nI_bt, nn_and, nn_or, nn_xor, nn_shr, nn_1shl, nn_31, il_p, il_n, it_p, it_n, ie_p, ie_n, ie_b, ie_b1, ie_m, ie_mm, it_m, it_m0, il_m0, bI_rZ, Option.bind_some, bd2_some, Nat.add_zero, Nat.zero_add, if_true, if_false, Bool.false_eq_true, eq_self, hI_R, hJ_R, ng_t, ng_e, e2], fg, gk⟩
  obtain ⟨h', e5, f5, gk⟩ := e
  have l2 := f2.lay l1
  exact ⟨h', by simp (disch := first | assumption | omega | decide | ((repeat first | apply lyI | apply lyJ | apply lywI | apply lywJ | apply csI | apply csJ | apply cswI | apply cswJ); assumption)) only [f_X0_gatherKnown, SR, LI, ↓li_m1, nI_add, pk_mul, nn_sub, nn_m1, nn_div, nn_rem, nn_nz, nn_mod, nJ_l, lN_add, lN_mul, nn_tb1, nI_bt, nn_and, nn_or, nn_xor, nn_shr, nn_1shl, nn_31, il_p, il_n, it_p, it_n, ie_p, ie_n, ie_b, ie_b1, ie_m, ie_mm, it_m, it_m0, il_m0, bI_rZ, Option.bind_some, bd2_some, Nat.add_zero, Nat.zero_add, if_true, if_false, Bool.false_eq_true, eq_self, hI_R, hJ_R, ng_t, ng_e, e1, e2, e5], f5, gk⟩
