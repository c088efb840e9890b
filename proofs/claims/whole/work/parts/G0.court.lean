/-! ===== cases: what both sides hold while they read ===== -/
def cA (A : Nat → Nat) : Nat → Nat := fun s => if s = 0 then A 0 else if s = 1 then A 1 else if s = 2 then A 3 else A 4
def LCc (c : Nat) : List Nat := [4, 42, 43, 44, 45, 46, 47, 48, 49, 50, 51, c, c + 1, c + 2, c + 3, c + 4, c + 5, c + 6, c + 7, c + 8, c + 9, c + 10, c + 11, c + 12, c + 13, c + 14, c + 15]
def LJc (c : Nat) : List Nat := [4, 49, 50, 51, c + 2]
def F22 : List Nat := [13, 14, 15, 16, 18, 19, 20, 21, 25, 26, 27]
/-- which worlds can be -/
def cnP (A Bv : Nat → Nat) (w : Nat) : Bool := decide (w < A 2) && allB (fun f => allB (fun g => !(Bv (valN A w f)).testBit (valN A w g)) f) (A 0)
def DCa (h : aH) (c : Nat) (A : Nat → Nat) : Prop := (h.2.1 c 12 = nI (A 0) ∧ h.2.1 c 13 = nI (A 1) ∧ h.2.1 c 14 = nI (A 2) ∧ h.2.1 c 16 = nI (A 3) ∧ h.2.1 c 17 = nI (A 4) ∧ h.2.1 c 18 = nI (pk4 (myN A))) ∧ (∀ f, f < A 0 → h.2.1 (c + 5) f = nI (A (56 + f)) ∧ h.2.1 (c + 5) (f + 1) = nI (A (56 + f) + A (60 + f))) ∧ (∀ v, v < A 1 → h.2.1 (c + 7) v = nI (A (8 + v)) ∧ h.2.1 (c + 8) v = nI (A (32 + v))) ∧ (∀ q, q < A 3 → h.2.1 (c + 11) q = nI (A (64 + q))) ∧ ∀ v, v < 4 → (∀ k, k < 4 → h.2.1 (c + 12) (v * 4 + k) = nI (A (76 + 6 * v + k))) ∧ h.2.1 (c + 13) v = nI (A (76 + 6 * v + 4)) ∧ h.2.1 (c + 14) v = nI (A (76 + 6 * v + 5))
/-- the worlds are made -/
def DWo (h : aH) (c : Nat) (A Bv : Nat → Nat) (Q : Nat → Nat → Bool) : Prop := h.2.1 c 15 = nI (cntB (cnP A Bv) (A 2)) ∧ (∀ f, f < A 0 → h.2.1 (c + 6) f = nI (strd A f)) ∧ (∀ w, w < A 2 → h.2.1 (c + 9) w = nI (if cnP A Bv w = true then wtN A w else 0) ∧ h.2.1 (c + 10) w = nI (qwN A Q w (A 3))) ∧ (∀ w, w < 256 → (h.2.2.1 50 (w / 64)).toBitVec.getLsbD (w % 64) = cnP A Bv w) ∧ ∀ v w, v < A 1 → w < 256 → (h.2.2.1 49 (4 * v + w / 64)).toBitVec.getLsbD (w % 64) = (cnP A Bv w && (valN A w (A (8 + v)) == v))
/-- the class, between two parts -/
def DC (h0 h : aH) (c : Nat) (T : Nat → Nat) (n m i : Nat) (A : Nat → Nat) (V : Nat → List Nat) (Bv : Nat → Nat) (Q : Nat → Nat → Bool) : Prop := FR h0 h (LCc c) (LJc c) [] [] ∧ LC h T n m i ∧ CS h c ∧ h.2.2.2 42 6 = some c ∧ NCl h c (cA A) V ∧ DCa h c A ∧ (∀ v, v < 24 → h.2.1 48 v = nI (Bv v)) ∧ ((A 3 = 0 ∧ h.2.1 42 7 = nI 0) ∨ (0 < A 3 ∧ h.2.1 42 7 = nI 1 ∧ DWo h c A Bv Q))
/-- the reference's frame -/
def FRR (k0 k : aH) : Prop := FR k0 k [114, 122, 124] [115, 116, 123] [] F22 ∧ (∀ x, x < 1600 → k.2.1 114 x = k0.2.1 114 x) ∧ (∀ x, x < 208 → k.2.2.1 115 x = k0.2.2.1 115 x) ∧ ∀ x, x < 176 → k.2.2.1 116 x = k0.2.2.1 116 x
/-- the reference, between two parts -/
def DR (k0 k : aH) (T : Nat → Nat) (n i : Nat) (A : Nat → Nat) (V : Nat → List Nat) (Bv : Nat → Nat) (Q : Nat → Nat → Bool) : Prop := FRR k0 k ∧ RC k T n i ∧ NRe k 176 (cA A) V ∧ (∀ x, x < 100 → x ≠ 7 → k.2.1 114 (1600 + x) = nI (A x)) ∧ (k.2.1 114 1607 = m1 ∧ ∀ x, 100 ≤ x → x < 400 → k.2.1 114 (1600 + x) = nI 0) ∧ (∀ v, v < 24 → k.2.1 122 v = nI (Bv v)) ∧ (0 < A 3 → ∀ w, w < 256 → (k.2.2.1 115 (208 + w / 64)).toBitVec.getLsbD (w % 64) = cnP A Bv w) ∧ ∀ q w, q < 12 → w < 256 → (k.2.2.1 115 (212 + 4 * q + w / 64)).toBitVec.getLsbD (w % 64) = Q q w
/-- each value is of the fact in whose row it stands -/
def VFa (A : Nat → Nat) : Prop := ∀ f x, f < A 0 → x < A (60 + f) → A (8 + (A (56 + f) + x)) = f
/-- the facts' rows lie one behind another -/
def SQa (A : Nat → Nat) : Prop := ((A 0 = 0 → A 1 = 0) ∧ (0 < A 0 → A 56 = 0)) ∧ (∀ f, f + 1 < A 0 → A (56 + f) + A (60 + f) = A (56 + (f + 1))) ∧ ∀ f, f + 1 = A 0 → A (56 + f) + A (60 + f) = A 1
/-- what was read is a case so far -/
def DV (A : Nat → Nat) (V : Nat → List Nat) (Bv : Nat → Nat) (Q : Nat → Nat → Bool) : Prop := WF A ∧ NV (cA A) V ∧ A 2 = stM A (A 0) (A 0) ∧ (∀ v, v < 24 → Bv v < 2 ^ 24) ∧ (∀ v k, A 4 ≤ v → v < 4 → k < 6 → A (76 + 6 * v + k) = 0) ∧ (∀ q w, Q q w = true → q < A 3 ∧ cnP A Bv w = true) ∧ (A 5 = 0 ∧ A 6 = 0) ∧ VFa A ∧ SQa A
abbrev OD : Type := (Nat × Nat) ⊕ (Nat × (Nat → Nat) × (Nat → List Nat) × (Nat → Nat) × (Nat → Nat → Bool))
def OCc (h0 : aH) (c : Nat) (T : Nat → Nat) (n m : Nat) (x : Option (Int32 × aH)) (o : OD) : Prop := match o with
  | .inl (f, q) => f ≠ 0 ∧ f < 100 ∧ ∃ h', x = some (nI 0, h') ∧ FR h0 h' (LCc c) (LJc c) [] [] ∧ FL h' f q
  | .inr (i', A', V', B', Q') => DV A' V' B' Q' ∧ ∃ h', x = some (nI 1, h') ∧ DC h0 h' c T n m i' A' V' B' Q'
def ORc (k0 : aH) (T : Nat → Nat) (n : Nat) (x : Option (Int32 × aH)) (o : OD) : Prop := match o with
  | .inl (f, q) => ∃ k', x = some (nI 0, k') ∧ FRR k0 k' ∧ RLx k' f q
  | .inr (i', A', V', B', Q') => ∃ k', x = some (nI 1, k') ∧ DR k0 k' T n i' A' V' B' Q'
theorem frr_13 {k0 k k' : aH} (a : FRR k0 k) (f : FR k k' [] [] [] F13) : FRR k0 k' :=
  ⟨a.1.tr (f.mono (by decide) (by decide) (by decide) (by decide)), fun x hx => by rw [f.I 114 (by decide) (by decide) (by decide)]; exact a.2.1 x hx, fun x hx => by rw [f.J 115 (by decide)]; exact a.2.2.1 x hx, fun x hx => by rw [f.J 116 (by decide)]; exact a.2.2.2 x hx⟩
theorem dr_13 {k0 k k' : aH} {T : Nat → Nat} {n i i' : Nat} {A : Nat → Nat} {V : Nat → List Nat} {Bv : Nat → Nat} {Q : Nat → Nat → Bool} (d : DR k0 k T n i A V Bv Q) (f : FR k k' [] [] [] F13) (rc : RC k' T n i') : DR k0 k' T n i' A V Bv Q := by
  obtain ⟨d1, d2, d3, d4, d5, d6, d7, d8⟩ := d
  have e4 : k'.2.1 114 = k.2.1 114 := f.I 114 (by decide) (by decide) (by decide)
  have e2 : k'.2.1 122 = k.2.1 122 := f.I 122 (by decide) (by decide) (by decide)
  have e5 : k'.2.2.1 115 = k.2.2.1 115 := f.J 115 (by decide)
  refine ⟨frr_13 d1 f, rc, nr_fr f (by decide) d3, ?_, ?_, ?_, ?_, ?_⟩
  · rw [e4]; exact d4
  · rw [e4]; exact d5
  · rw [e2]; exact d6
  · rw [e5]; exact d7
  · rw [e5]; exact d8
theorem lcc_4 {c : Nat} : ∀ x ∈ [4], x ∈ LCc c := fun x hx => by
  unfold LCc
  simp at hx ⊢
  omega
theorem ljc_4 {c : Nat} : ∀ x ∈ [4], x ∈ LJc c := fun x hx => by
  unfold LJc
  simp at hx ⊢
  omega
/-- only the lexer moved -/
theorem dc_4 {h0 h h' : aH} {c : Nat} {T : Nat → Nat} {n m i i' : Nat} {A : Nat → Nat} {V : Nat → List Nat} {Bv : Nat → Nat} {Q : Nat → Nat → Bool} (d : DC h0 h c T n m i A V Bv Q) (f : FR h h' [4] [4] [] []) (lc : LC h' T n m i') : DC h0 h' c T n m i' A V Bv Q := by
  obtain ⟨d1, d2, d3, d4, d5, d6, d7, d8⟩ := d
  have c0 := d3.1
  have ec : ∀ j, j < 16 → h'.2.1 (c + j) = h.2.1 (c + j) := fun j hj => f.I _ (by simp; omega) (by omega) (by omega)
  have e0 := ec 0 (by decide)
  rw [Nat.add_zero] at e0
  refine ⟨d1.tr (f.mono lcc_4 ljc_4 (by simp) (by simp)), lc, cs_fr f d3, by rw [f.2.1]; exact d4, nc_fr f d3 (by simp; omega) (by simp; omega) (by simp; omega) (by simp; omega) d5, ?_, ?_, ?_⟩
  · unfold DCa
    rw [e0, ec 5 (by decide), ec 7 (by decide), ec 8 (by decide), ec 11 (by decide), ec 12 (by decide), ec 13 (by decide), ec 14 (by decide)]
    exact d6
  · rw [f.I 48 (by decide) (by decide) (by decide)]
    exact d7
  · unfold DWo
    rw [e0, ec 6 (by decide), ec 9 (by decide), ec 10 (by decide), f.J 50 (by decide), f.J 49 (by decide), f.I 42 (by decide) (by decide) (by decide)]
    exact d8
/-- a new name: what stands there is a name, and free -/
def nwB (T : Nat → Nat) (n i : Nat) (C : Nat → Nat) (V : Nat → List Nat) : Bool := decide (tcI T n i = 6) && !tkB C V (wdI T n i)
theorem x_isNew {h : aH} {T : Nat → Nat} {n m i c : Nat} (lc : LC h T n m i) (hs : CS h c) (h6 : h.2.2.2 42 6 = some c) {C : Nat → Nat} {V : Nat → List Nat} (nc : NCl h c C V) (nv : NV C V) : (nwB T n i C V = true → f_X2_isNewName h 42 = some (nI 1, h)) ∧ (nwB T n i C V = false → ∃ h', f_X2_isNewName h 42 = some (nI 0, h') ∧ FR h h' [4] [4] [] [] ∧ FL h' (nmF T n i) (frI T n i)) := by
  have hl := lc.1
  have tl := tc_le (T := T) (n := n) (i := i)
  have e10 : h.2.1 4 10 = nI (tcI T n i) := lc.2.2.1.2.1
  by_cases t6 : tcI T n i = 6
  · have e11 := lc.2.2.1.2.2.1 t6
    have tk := x_taken hs nc nv (wd_vd t6)
    rw [t6] at e10
    unfold nwB nmF
    rw [if_pos t6, decide_eq_true t6, Bool.true_and]
    cases hb : tkB C V (wdI T n i) with
    | false =>
      rw [hb, bI_f] at tk
      refine ⟨fun _ => ?_, fun e => Bool.noConfusion e⟩
      simp (disch := first | assumption | omega | decide | ((repeat first | apply lyI | apply lyJ | apply lywI | apply lywJ | apply csI | apply csJ | apply cswI | apply cswJ); assumption)) only [f_X2_isNewName, SR, SX, SC, SNM, LI, ↓li_m1, nI_add, pk_mul, nn_sub, nn_m1, nn_div, nn_rem, nn_nz, nn_mod, nJ_l, lN_add, lN_mul, nn_tb1, nI_bt, nn_and, nn_or, nn_xor, nn_shr, nn_1shl, nn_31, il_p, il_n, it_p, it_n, ie_p, ie_n, ie_b, ie_b1, ie_m, ie_mm, it_m, it_m0, il_m0, bI_rZ, Option.bind_some, bd2_some, Nat.add_zero, Nat.zero_add, if_true, if_false, Bool.false_eq_true, eq_self, hI_R, hJ_R, ng_t, ng_e, e10, e11, h6, tk]
    | true =>
      rw [hb, bI_t] at tk
      refine ⟨fun e => Bool.noConfusion e, fun _ => ?_⟩
      obtain ⟨h', r, f, l⟩ := x_ref lc 3
      exact ⟨h', by simp (disch := first | assumption | omega | decide | ((repeat first | apply lyI | apply lyJ | apply lywI | apply lywJ | apply csI | apply csJ | apply cswI | apply cswJ); assumption)) only [f_X2_isNewName, SR, SX, SC, SNM, LI, ↓li_m1, nI_add, pk_mul, nn_sub, nn_m1, nn_div, nn_rem, nn_nz, nn_mod, nJ_l, lN_add, lN_mul, nn_tb1, nI_bt, nn_and, nn_or, nn_xor, nn_shr, nn_1shl, nn_31, il_p, il_n, it_p, it_n, ie_p, ie_n, ie_b, ie_b1, ie_m, ie_mm, it_m, it_m0, il_m0, bI_rZ, Option.bind_some, bd2_some, Nat.add_zero, Nat.zero_add, if_true, if_false, Bool.false_eq_true, eq_self, hI_R, hJ_R, ng_t, ng_e, e10, e11, h6, tk, r], f, l⟩
  · unfold nwB nmF
    rw [if_neg t6, decide_eq_false t6, Bool.false_and]
    refine ⟨fun e => Bool.noConfusion e, fun _ => ?_⟩
    obtain ⟨h', r, f, l⟩ := x_ref lc 2
    have n6 : ¬ nI (tcI T n i) = nI 6 := d_ne (by omega) (by decide) t6
    exact ⟨h', by simp (disch := first | assumption | omega | decide | ((repeat first | apply lyI | apply lyJ | apply lywI | apply lywJ | apply csI | apply csJ | apply cswI | apply cswJ); assumption)) only [f_X2_isNewName, SR, SX, SC, LI, ↓li_m1, nI_add, pk_mul, nn_sub, nn_m1, nn_div, nn_rem, nn_nz, nn_mod, nJ_l, lN_add, lN_mul, nn_tb1, nI_bt, nn_and, nn_or, nn_xor, nn_shr, nn_1shl, nn_31, il_p, il_n, it_p, it_n, ie_p, ie_n, ie_b, ie_b1, ie_m, ie_mm, it_m, it_m0, il_m0, bI_rZ, Option.bind_some, bd2_some, Nat.add_zero, Nat.zero_add, if_true, if_false, Bool.false_eq_true, eq_self, hI_R, hJ_R, ng_t, ng_e, e10, if_neg n6, r, rz0], f, l⟩
theorem x_newName {h : aH} {T : Nat → Nat} {n m i c : Nat} (lc : LC h T n m i) (hs : CS h c) (h6 : h.2.2.2 42 6 = some c) {C : Nat → Nat} {V : Nat → List Nat} (nc : NCl h c C V) (nv : NV C V) {s : Nat} (s4 : s < 4) (hm : C s < nmN s) : (nwB T n i C V = true → ∃ h', f_X2_takeNewName h 42 (nI s) (nI (C s)) = some (nI 1, h') ∧ FR h h' [4, c + 1, c + 3, c + 4] [4, c + 2] [] [] ∧ LC h' T n m (i + 1) ∧ NCl h' c (upC C s) (upV V (nbN s + C s) (wdI T n i))) ∧ (nwB T n i C V = false → ∃ h', f_X2_takeNewName h 42 (nI s) (nI (C s)) = some (nI 0, h') ∧ FR h h' [4] [4] [] [] ∧ FL h' (nmF T n i) (frI T n i)) := by
  have hl := lc.1
  have c0 := hs.1
  obtain ⟨y1, y2⟩ := x_isNew lc hs h6 nc nv
  refine ⟨fun hb => ?_, fun hb => ?_⟩
  · have r1 := y1 hb
    unfold nwB at hb
    rw [Bool.and_eq_true, decide_eq_true_eq, Bool.not_eq_true'] at hb
    obtain ⟨t6, tk⟩ := hb
    have e11 := lc.2.2.1.2.2.1 t6
    obtain ⟨h7, r2, f2, nc2⟩ := x_add hs nc nv (wd_vd t6) s4 hm tk
    have l7 := f2.lay hl
    have lc7 := lc_fr f2 (by intro x hx; simp at hx; omega) (by intro x hx; simp at hx; omega) lc
    obtain ⟨h9, r3, f3, lc9⟩ := x_adv lc7 (lc_lt lc7 (by omega))
    have s7 := cs_fr f2 hs
    refine ⟨h9, ?_, (f2.mono (by intro x hx; simp at hx ⊢; omega) (by intro x hx; simp at hx ⊢; omega) (by simp) (by simp)).tr (f3.mono (by intro x hx; simp at hx ⊢; omega) (by intro x hx; simp at hx ⊢; omega) (by simp) (by simp)), lc9, nc_fr f3 s7 (by simp; omega) (by simp; omega) (by simp; omega) (by simp; omega) nc2⟩
    simp (disch := first | assumption | omega | decide | ((repeat first | apply lyI | apply lyJ | apply lywI | apply lywJ | apply csI | apply csJ | apply cswI | apply cswJ); assumption)) only [f_X2_takeNewName, SR, SX, SC, SNM, LI, ↓li_m1, nI_add, pk_mul, nn_sub, nn_m1, nn_div, nn_rem, nn_nz, nn_mod, nJ_l, lN_add, lN_mul, nn_tb1, nI_bt, nn_and, nn_or, nn_xor, nn_shr, nn_1shl, nn_31, il_p, il_n, it_p, it_n, ie_p, ie_n, ie_b, ie_b1, ie_m, ie_mm, it_m, it_m0, il_m0, bI_rZ, Option.bind_some, bd2_some, Nat.add_zero, Nat.zero_add, if_true, if_false, Bool.false_eq_true, eq_self, hI_R, hJ_R, ng_t, ng_e, r1, h6, e11, r2, r3]
  · obtain ⟨h', r, f, l⟩ := y2 hb
    exact ⟨h', by simp (disch := first | assumption | omega | decide | ((repeat first | apply lyI | apply lyJ | apply lywI | apply lywJ | apply csI | apply csJ | apply cswI | apply cswJ); assumption)) only [f_X2_takeNewName, SR, LI, ↓li_m1, nI_add, pk_mul, nn_sub, nn_m1, nn_div, nn_rem, nn_nz, nn_mod, nJ_l, lN_add, lN_mul, nn_tb1, nI_bt, nn_and, nn_or, nn_xor, nn_shr, nn_1shl, nn_31, il_p, il_n, it_p, it_n, ie_p, ie_n, ie_b, ie_b1, ie_m, ie_mm, it_m, it_m0, il_m0, bI_rZ, Option.bind_some, bd2_some, Nat.add_zero, Nat.zero_add, if_true, if_false, Bool.false_eq_true, eq_self, hI_R, hJ_R, ng_t, ng_e, r], f, l⟩
theorem r_newName {k : aH} {T : Nat → Nat} {n i : Nat} (rc : RC k T n i) {C : Nat → Nat} {V : Nat → List Nat} (nr : NRe k 176 C V) (nv : NV C V) (nc : NRc k C) {s : Nat} (s4 : s < 4) (hm : C s < nmN s) : (nwB T n i C V = true → ∃ k', f_X12_newName k 113 (nI (nbN s)) (nI (C s)) = some (nI 1, k') ∧ FR (hJ k 116 (176 + (nbN s + C s)) (lN (c8 (wdI T n i)))) k' [] [] [] F13 ∧ RC k' T n (i + 1) ∧ NRe k' 176 (upC C s) (upV V (nbN s + C s) (wdI T n i))) ∧ (nwB T n i C V = false → ∃ k', f_X12_newName k 113 (nI (nbN s)) (nI (C s)) = some (nI 0, k') ∧ FR k k' [] [] [] F13 ∧ RLx k' (nmF T n i) (frI T n i)) := by
  have kl := rc.1
  have rx := rc.2.1
  have isn := r_isN kl rx
  by_cases t6 : tcI T n i = 6
  · have isf := r_free kl rx t6 nr nv nc
    have nh := r_name kl rx t6
    unfold nwB nmF
    rw [if_pos t6, decide_eq_true t6, Bool.true_and]
    rw [decide_eq_true t6, bI_t] at isn
    cases hb : tkB C V (wdI T n i) with
    | false =>
      rw [hb] at isf
      refine ⟨fun _ => ?_, fun e => Bool.noConfusion e⟩
      have b44 : nbN s + C s < 44 := by
        have e2 : ∀ s, s < 4 → nbN s + nmN s ≤ 44 := by decide
        have := e2 s s4
        omega
      obtain ⟨k', r, f, rc'⟩ := r_go (k := hJ k 116 (176 + (nbN s + C s)) (lN (c8 (wdI T n i)))) ⟨kl, rx, rc.2.2⟩
      have isf' : f_X12_isFree k 113 = some (nI 1) := isf
      obtain ⟨nv', up⟩ := nv_up nv (wd_vd t6) s4 hm hb
      refine ⟨k', by simp (disch := first | assumption | omega | decide | ((repeat first | apply lyI | apply lyJ | apply lywI | apply lywJ | apply csI | apply csJ | apply cswI | apply cswJ); assumption)) only [f_X12_newName, SM, LI, ↓li_m1, nI_add, pk_mul, nn_sub, nn_m1, nn_div, nn_rem, nn_nz, nn_mod, nJ_l, lN_add, lN_mul, nn_tb1, nI_bt, nn_and, nn_or, nn_xor, nn_shr, nn_1shl, nn_31, il_p, il_n, it_p, it_n, ie_p, ie_n, ie_b, ie_b1, ie_m, ie_mm, it_m, it_m0, il_m0, bI_rZ, Option.bind_some, bd2_some, Nat.add_zero, Nat.zero_add, if_true, if_false, Bool.false_eq_true, eq_self, hI_R, hJ_R, ng_t, ng_e, isn, isf', nh, Nat.add_assoc, r], f, rc', fun s' j hs' hj => ?_⟩
      rw [f.J 116 (by decide)]
      by_cases hx : s' = s ∧ j = C s
      · obtain ⟨rfl, rfl⟩ := hx
        rw [rJ_eq]
        unfold upV
        rw [if_pos rfl]
      · have hj' : j < C s' := by
          unfold upC at hj
          by_cases e : s' = s
          · rw [if_pos e] at hj
            subst e
            have : j ≠ C s' := fun z => hx ⟨rfl, z⟩
            omega
          · rw [if_neg e] at hj
            exact hj
        have ne : nbN s' + j ≠ nbN s + C s := by
          intro e
          have b1 := nv.1 s' hs'
          rcases lt4 hs' with rfl | rfl | rfl | rfl <;> rcases lt4 s4 with rfl | rfl | rfl | rfl <;> simp [nbN, nmN] at e b1 hm hx <;> omega
        rw [rJ_nk (by omega), up s' j hs' hj']
        exact nr s' j hs' hj'
    | true =>
      rw [hb] at isf
      refine ⟨fun e => Bool.noConfusion e, fun _ => ?_⟩
      have isf' : f_X12_isFree k 113 = some (nI 0) := isf
      obtain ⟨k', r, f, l⟩ := r_fail rc 3
      exact ⟨k', by simp (disch := first | assumption | omega | decide | ((repeat first | apply lyI | apply lyJ | apply lywI | apply lywJ | apply csI | apply csJ | apply cswI | apply cswJ); assumption)) only [f_X12_newName, SM, LI, ↓li_m1, nI_add, pk_mul, nn_sub, nn_m1, nn_div, nn_rem, nn_nz, nn_mod, nJ_l, lN_add, lN_mul, nn_tb1, nI_bt, nn_and, nn_or, nn_xor, nn_shr, nn_1shl, nn_31, il_p, il_n, it_p, it_n, ie_p, ie_n, ie_b, ie_b1, ie_m, ie_mm, it_m, it_m0, il_m0, bI_rZ, Option.bind_some, bd2_some, Nat.add_zero, Nat.zero_add, if_true, if_false, Bool.false_eq_true, eq_self, hI_R, hJ_R, ng_t, ng_e, isn, isf', r, rz0], f, l⟩
  · unfold nwB nmF
    rw [if_neg t6, decide_eq_false t6, Bool.false_and]
    rw [decide_eq_false t6, bI_f] at isn
    refine ⟨fun e => Bool.noConfusion e, fun _ => ?_⟩
    obtain ⟨k', r, f, l⟩ := r_fail rc 2
    exact ⟨k', by simp (disch := first | assumption | omega | decide | ((repeat first | apply lyI | apply lyJ | apply lywI | apply lywJ | apply csI | apply csJ | apply cswI | apply cswJ); assumption)) only [f_X12_newName, SM, LI, ↓li_m1, nI_add, pk_mul, nn_sub, nn_m1, nn_div, nn_rem, nn_nz, nn_mod, nJ_l, lN_add, lN_mul, nn_tb1, nI_bt, nn_and, nn_or, nn_xor, nn_shr, nn_1shl, nn_31, il_p, il_n, it_p, it_n, ie_p, ie_n, ie_b, ie_b1, ie_m, ie_mm, it_m, it_m0, il_m0, bI_rZ, Option.bind_some, bd2_some, Nat.add_zero, Nat.zero_add, if_true, if_false, Bool.false_eq_true, eq_self, hI_R, hJ_R, ng_t, ng_e, isn, r, rz0], f, l⟩
