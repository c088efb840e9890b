/-! ===== what is drawn ===== -/
def drN (x : Nat) : Nat := (x * 2417 + 10613) % 65536
def drI (x : Nat) : Nat → Nat
  | 0 => x
  | n + 1 => drN (drI x n)
theorem dr_lt (x : Nat) : drN x < 65536 := Nat.mod_lt _ (by decide)
theorem drI_lt {x : Nat} (hx : x < 65536) : ∀ n, drI x n < 65536
  | 0 => hx
  | n + 1 => dr_lt _
def fab (f : Nat → Nat) (d n : Nat) : Nat := match firstB (fun i => decide (d < sumN f (i + 1))) n with
  | some i => i
  | none => 0
theorem sum_mono {f : Nat → Nat} {i : Nat} : ∀ {n}, i ≤ n → sumN f i ≤ sumN f n
  | 0, h => by rw [show i = 0 by omega]; exact Nat.le_refl _
  | n + 1, h => by
    rcases Nat.lt_or_ge i (n + 1) with q | q
    · have := sum_mono (f := f) (i := i) (n := n) (by omega)
      show _ ≤ sumN f n + f n
      omega
    · rw [show i = n + 1 by omega]
      exact Nat.le_refl _
theorem fab_ex {f : Nat → Nat} {d n : Nat} (h : d < sumN f n) : ∃ i, i < n ∧ fab f d n = i ∧ d < sumN f (i + 1) ∧ sumN f i ≤ d := by
  have n0 : 0 < n := by
    rcases Nat.eq_zero_or_pos n with e | e
    · subst e
      exact absurd h (by simp [sumN])
    · exact e
  cases hf : firstB (fun i => decide (d < sumN f (i + 1))) n with
  | none =>
    have := firstB_n.mp hf (n - 1) (by omega)
    rw [decide_eq_false_iff_not, show n - 1 + 1 = n by omega] at this
    exact absurd h this
  | some i =>
    obtain ⟨h1, h2, h3⟩ := firstB_s.mp hf
    refine ⟨i, h1, by unfold fab; rw [hf], of_decide_eq_true h2, ?_⟩
    rcases Nat.eq_zero_or_pos i with e | e
    · subst e
      exact Nat.zero_le _
    · have := h3 (i - 1) (by omega)
      rw [decide_eq_false_iff_not, show i - 1 + 1 = i by omega] at this
      omega
theorem x_draw {h : aH} (hl : LAY h) {x m : Nat} (hx : x < 65536) (e : h.2.1 66 3 = nI x) (m0 : 0 < m) (ml : m < 2147483648) : f_X10_draw h 66 (nI m) = some (nI (drN x / 8 % m), hI h 66 3 (nI (drN x))) := by
  have d := dr_lt x
  have e2 : (hI h 66 3 (nI ((x * 2417 + 10613) % 65536))).2.1 66 3 = nI (drN x) := rI_eq
  simp (disch := first | assumption | omega | decide | ((repeat first | apply lyI | apply lyJ | apply lywI | apply lywJ | apply csI | apply csJ | apply cswI | apply cswJ); assumption)) only [f_X10_draw, SG, LI, ↓li_m1, nI_add, pk_mul, nn_sub, nn_m1, nn_div, nn_rem, nn_nz, nn_mod, nJ_l, lN_add, lN_mul, nn_tb1, nI_bt, nn_and, nn_or, nn_xor, nn_shr, nn_1shl, nn_31, il_p, il_n, it_p, it_n, ie_p, ie_n, ie_b, ie_b1, ie_m, ie_mm, it_m, it_m0, il_m0, bI_rZ, Option.bind_some, bd2_some, Nat.add_zero, Nat.zero_add, if_true, if_false, Bool.false_eq_true, eq_self, hI_R, hJ_R, ng_t, ng_e, e, e2]
  rfl
theorem r_draw {h : aH} (hl : LAY h) {x m : Nat} (hx : x < 65536) (e : h.2.1 113 39 = nI x) (m0 : 0 < m) (ml : m < 2147483648) : f_X12_draw h 113 (lN m) = some (nI (drN x / 8 % m), hI h 113 39 (nI (drN x))) := by
  have d := dr_lt x
  have e2 : (hI h 113 39 (nI ((x * 2417 + 10613) % 65536))).2.1 113 39 = nI (drN x) := rI_eq
  have n2 := lz_n (show m < 2 ^ 63 by omega) m0
  have n3 := pk_lRem (show drN x / 8 < 2 ^ 63 by omega) m0 (show m < 2 ^ 63 by omega)
  have n4 : lN (drN x / 8 % m) = lN (drN x / 8 % m) := rfl
  simp (disch := first | assumption | omega | decide | ((repeat first | apply lyI | apply lyJ | apply lywI | apply lywJ | apply csI | apply csJ | apply cswI | apply cswJ); assumption)) only [f_X12_draw, SM, LI, ↓li_m1, nI_add, pk_mul, nn_sub, nn_m1, nn_div, nn_rem, nn_nz, nn_mod, nJ_l, lN_add, nn_tb1, nI_bt, nn_and, nn_or, nn_xor, nn_shr, nn_1shl, nn_31, il_p, il_n, it_p, it_n, ie_p, ie_n, ie_b, ie_b1, ie_m, ie_mm, it_m, it_m0, il_m0, bI_rZ, Option.bind_some, bd2_some, Nat.add_zero, Nat.zero_add, if_true, if_false, Bool.false_eq_true, eq_self, hI_R, hJ_R, ng_t, ng_e, e, e2, n2]
  rw [n3, lN_i]
  rfl
theorem x_fab {h : aH} {a st n d : Nat} {f : Nat → Nat} (hr : ∀ i, i < n → lI h a (nI (st + i)) = some (nI (f i))) (hs : sumN f n < 2147483648) (hd : d < 2147483648) (hn : n < 1000) : f_X10_firstAbove h a (nI st) (nI n) (nI d) = some (nI (fab f d n)) := by
  have e1 : f_X10_firstAbove_l6 h a (nI st) (nI n) (nI d) (nI 0) (nI 0) = some (match firstB (fun i => decide (d < sumN f (i + 1))) n with | some i => .inl (nI i) | none => .inr ()) := by
    refine srch (fun j => (nI (sumN f j), nI j)) (fun i => decide (d < sumN f (i + 1))) n (fun i => (Sum.inl (nI i) : Int32 ⊕ Unit)) (Sum.inr ()) rfl (by omega) (fun j hj hx => ?_) (fun j hj hx => ?_) ?_
    · have r := hr j hj
      have m := sum_mono (f := f) (show j + 1 ≤ n by omega)
      have x : ¬ d < sumN f (j + 1) := of_decide_eq_false hx
      have x2 : sumN f (j + 1) = sumN f j + f j := rfl
      simp (disch := first | assumption | omega | decide | ((repeat first | apply lyI | apply lyJ | apply lywI | apply lywJ | apply csI | apply csJ | apply cswI | apply cswJ); assumption)) only [f_X10_firstAbove_b6, LI, ↓li_m1, nI_add, pk_mul, nn_sub, nn_m1, nn_div, nn_rem, nn_nz, nn_mod, nJ_l, lN_add, lN_mul, nn_tb1, nI_bt, nn_and, nn_or, nn_xor, nn_shr, nn_1shl, nn_31, il_p, il_n, it_p, it_n, ie_p, ie_n, ie_b, ie_b1, ie_m, ie_mm, it_m, it_m0, il_m0, bI_rZ, Option.bind_some, bd2_some, Nat.add_zero, Nat.zero_add, if_true, if_false, Bool.false_eq_true, eq_self, hI_R, hJ_R, ng_t, ng_e, r]
      rfl
    · have r := hr j hj
      have m := sum_mono (f := f) (show j + 1 ≤ n by omega)
      have x : d < sumN f (j + 1) := of_decide_eq_true hx
      have x2 : sumN f (j + 1) = sumN f j + f j := rfl
      simp (disch := first | assumption | omega | decide | ((repeat first | apply lyI | apply lyJ | apply lywI | apply lywJ | apply csI | apply csJ | apply cswI | apply cswJ); assumption)) only [f_X10_firstAbove_b6, LI, ↓li_m1, nI_add, pk_mul, nn_sub, nn_m1, nn_div, nn_rem, nn_nz, nn_mod, nJ_l, lN_add, lN_mul, nn_tb1, nI_bt, nn_and, nn_or, nn_xor, nn_shr, nn_1shl, nn_31, il_p, il_n, it_p, it_n, ie_p, ie_n, ie_b, ie_b1, ie_m, ie_mm, it_m, it_m0, il_m0, bI_rZ, Option.bind_some, bd2_some, Nat.add_zero, Nat.zero_add, if_true, if_false, Bool.false_eq_true, eq_self, hI_R, hJ_R, ng_t, ng_e, r]
    · simp (disch := first | assumption | omega | decide | ((repeat first | apply lyI | apply lyJ | apply lywI | apply lywJ | apply csI | apply csJ | apply cswI | apply cswJ); assumption)) only [f_X10_firstAbove_b6, LI, ↓li_m1, nI_add, pk_mul, nn_sub, nn_m1, nn_div, nn_rem, nn_nz, nn_mod, nJ_l, lN_add, lN_mul, nn_tb1, nI_bt, nn_and, nn_or, nn_xor, nn_shr, nn_1shl, nn_31, il_p, il_n, it_p, it_n, ie_p, ie_n, ie_b, ie_b1, ie_m, ie_mm, it_m, it_m0, il_m0, bI_rZ, Option.bind_some, bd2_some, Nat.add_zero, Nat.zero_add, if_true, if_false, Bool.false_eq_true, eq_self, hI_R, hJ_R, ng_t, ng_e]
  unfold fab
  cases hx : firstB (fun i => decide (d < sumN f (i + 1))) n with
  | none =>
    rw [hx] at e1
    simp (disch := first | assumption | omega | decide | ((repeat first | apply lyI | apply lyJ | apply lywI | apply lywJ | apply csI | apply csJ | apply cswI | apply cswJ); assumption)) only [f_X10_firstAbove, LI, ↓li_m1, nI_add, pk_mul, nn_sub, nn_m1, nn_div, nn_rem, nn_nz, nn_mod, nJ_l, lN_add, lN_mul, nn_tb1, nI_bt, nn_and, nn_or, nn_xor, nn_shr, nn_1shl, nn_31, il_p, il_n, it_p, it_n, ie_p, ie_n, ie_b, ie_b1, ie_m, ie_mm, it_m, it_m0, il_m0, bI_rZ, Option.bind_some, bd2_some, Nat.add_zero, Nat.zero_add, if_true, if_false, Bool.false_eq_true, eq_self, hI_R, hJ_R, ng_t, ng_e, e1]
  | some x =>
    rw [hx] at e1
    simp (disch := first | assumption | omega | decide | ((repeat first | apply lyI | apply lyJ | apply lywI | apply lywJ | apply csI | apply csJ | apply cswI | apply cswJ); assumption)) only [f_X10_firstAbove, LI, ↓li_m1, nI_add, pk_mul, nn_sub, nn_m1, nn_div, nn_rem, nn_nz, nn_mod, nJ_l, lN_add, lN_mul, nn_tb1, nI_bt, nn_and, nn_or, nn_xor, nn_shr, nn_1shl, nn_31, il_p, il_n, it_p, it_n, ie_p, ie_n, ie_b, ie_b1, ie_m, ie_mm, it_m, it_m0, il_m0, bI_rZ, Option.bind_some, bd2_some, Nat.add_zero, Nat.zero_add, if_true, if_false, Bool.false_eq_true, eq_self, hI_R, hJ_R, ng_t, ng_e, e1]
/-- the worlds' weights -/
def wgN (A : Nat → Nat) (P : Nat → Bool) (w : Nat) : Nat := if P w = true then wtN A w else 0
def trN (A : Nat → Nat) (P : Nat → Bool) (seed : Nat) : Nat := fab (wgN A P) (drI seed 1 / 8 % sumN (wgN A P) (A 2)) (A 2)
def tkN (A : Nat → Nat) (seed v : Nat) : Nat := fab (fun k => A (76 + 6 * v + k)) (drI seed (v + 2) / 8 % 16) 4
theorem wg_sum {A : Nat → Nat} (hw : WF A) {P : Nat → Bool} : ∀ j, sumN (wgN A P) j ≤ 6561 * j := fun j => sumN_le (fun i _ => by
  have := (wtN_le hw (w := i)).2
  unfold wgN
  split <;> omega)
theorem wg_pos {A : Nat → Nat} (hw : WF A) {P : Nat → Bool} (hp : cntB P (A 2) ≠ 0) : 0 < sumN (wgN A P) (A 2) := by
  have : anyB P (A 2) = true := by rw [any_cnt]; exact decide_eq_true hp
  obtain ⟨w, h1, h2⟩ := anyB_iff.mp this
  exact sum_pos h1 (by unfold wgN; rw [if_pos h2]; exact (wtN_le hw).1)
theorem tr_lt {A : Nat → Nat} (hw : WF A) {P : Nat → Bool} (hp : cntB P (A 2) ≠ 0) {seed : Nat} : trN A P seed < A 2 ∧ P (trN A P seed) = true := by
  obtain ⟨i, h1, h2, h3, h4⟩ := fab_ex (f := wgN A P) (d := drI seed 1 / 8 % sumN (wgN A P) (A 2)) (n := A 2) (Nat.mod_lt _ (wg_pos hw hp))
  have e : trN A P seed = i := h2
  rw [e]
  refine ⟨h1, ?_⟩
  have h5 : sumN (wgN A P) (i + 1) = sumN (wgN A P) i + wgN A P i := rfl
  cases hpi : P i
  · have : wgN A P i = 0 := by unfold wgN; rw [hpi]; rfl
    omega
  · rfl
theorem tk_lt {A : Nat → Nat} (hw : WF A) {seed v : Nat} (hv : v < A 4) : tkN A seed v < 4 := by
  have hs := (hw.2.2.2.2.2 v hv).2.1
  obtain ⟨i, h1, h2, -⟩ := fab_ex (f := fun k => A (76 + 6 * v + k)) (d := drI seed (v + 2) / 8 % 16) (n := 4) (by rw [hs]; exact Nat.mod_lt _ (by decide))
  have e : tkN A seed v = i := h2
  rw [e]
  exact h1
theorem x_truth {h : aH} {c : Nat} (hs : CS h c) {A : Nat → Nat} {P : Nat → Bool} {Q : Nat → Nat → Bool} {S : Nat → Nat → Nat → Nat → Nat} (hc : CC h c A P Q S) (hw : WF A) (hl : LAY h) (hp : cntB P (A 2) ≠ 0) {seed : Nat} (hseed : seed < 65536) : ∃ h', f_X10_drawTruth h 66 c (nI seed) = some h' ∧ FR h h' [66, 67] [] [] [] ∧ h'.2.1 66 2 = nI (trN A P seed) ∧ ∀ v, v < A 4 → h'.2.1 67 v = nI (tkN A seed v) := by
  obtain ⟨b0, b1, b2l, b2, b3, b4⟩ := wf_b hw
  have wp := wg_pos hw hp
  have wl := wg_sum hw (P := P) (A 2)
  have f1 : FR h (hI h 66 3 (nI seed)) [66, 67] [] [] [] := FR.hI (by decide) (by decide) (by decide)
  have s1 : CS (hI h 66 3 (nI seed)) c := hs
  have c1 := cc_fr f1 (by decide) hs hc
  have l1 : LAY (hI h 66 3 (nI seed)) := hl
  have e2 := c1.1.2.2.1
  have ew : ∀ w, w < A 2 → (hI h 66 3 (nI seed)).2.1 (c + 9) w = nI (wgN A P w) := fun w h1 => (c1.2.2.2.1 w h1).1
  have r1 : f_X10_drawTruth_l10 (hI h 66 3 (nI seed)) 66 c (nI 0) (nI 0) = some (nI (sumN (wgN A P) (A 2))) := by
    refine for0 (body := fun zz : Int32 × Int32 => f_X10_drawTruth_b10 (hI h 66 3 (nI seed)) 66 c zz.1 zz.2) (fun j => (nI (sumN (wgN A P) j), nI j)) (A 2) (e := nI (sumN (wgN A P) (A 2))) (rfl) (by omega) (fun j hj => ?_) ?_
    · have e := ew j hj
      simp (disch := first | assumption | omega | decide | ((repeat first | apply lyI | apply lyJ | apply lywI | apply lywJ | apply csI | apply csJ | apply cswI | apply cswJ); assumption)) only [f_X10_drawTruth_b10, SC, LI, ↓li_m1, nI_add, pk_mul, nn_sub, nn_m1, nn_div, nn_rem, nn_nz, nn_mod, nJ_l, lN_add, lN_mul, nn_tb1, nI_bt, nn_and, nn_or, nn_xor, nn_shr, nn_1shl, nn_31, il_p, il_n, it_p, it_n, ie_p, ie_n, ie_b, ie_b1, ie_m, ie_mm, it_m, it_m0, il_m0, bI_rZ, Option.bind_some, bd2_some, Nat.add_zero, Nat.zero_add, if_true, if_false, Bool.false_eq_true, eq_self, hI_R, hJ_R, ng_t, ng_e, e2, e]
      rfl
    · simp (disch := first | assumption | omega | decide | ((repeat first | apply lyI | apply lyJ | apply lywI | apply lywJ | apply csI | apply csJ | apply cswI | apply cswJ); assumption)) only [f_X10_drawTruth_b10, SC, LI, ↓li_m1, nI_add, pk_mul, nn_sub, nn_m1, nn_div, nn_rem, nn_nz, nn_mod, nJ_l, lN_add, lN_mul, nn_tb1, nI_bt, nn_and, nn_or, nn_xor, nn_shr, nn_1shl, nn_31, il_p, il_n, it_p, it_n, ie_p, ie_n, ie_b, ie_b1, ie_m, ie_mm, it_m, it_m0, il_m0, bI_rZ, Option.bind_some, bd2_some, Nat.add_zero, Nat.zero_add, if_true, if_false, Bool.false_eq_true, eq_self, hI_R, hJ_R, ng_t, ng_e, e2]
  have r2 := x_draw (h := hI h 66 3 (nI seed)) l1 hseed rI_eq wp (by omega)
  have f2 : FR h (hI (hI h 66 3 (nI seed)) 66 3 (nI (drN seed))) [66, 67] [] [] [] := f1.tr (FR.hI (by decide) (by decide) (by decide))
  have c2 := cc_fr f2 (by decide) hs hc
  have s2 : CS (hI (hI h 66 3 (nI seed)) 66 3 (nI (drN seed))) c := hs
  have l2 : LAY (hI (hI h 66 3 (nI seed)) 66 3 (nI (drN seed))) := hl
  have r3 := x_fab (h := hI (hI h 66 3 (nI seed)) 66 3 (nI (drN seed))) (a := c + 9) (st := 0) (n := A 2) (d := drN seed / 8 % sumN (wgN A P) (A 2)) (f := wgN A P) (fun i hi => by
    have e := (c2.2.2.2.1 i hi).1
    rw [Nat.zero_add, lI_K (cs_kd s2 9 (by decide)) (cs_ln s2 9 (by decide)) (by decide) (show i < 256 by omega), e]
    rfl) (by omega) (by have := Nat.mod_lt (drN seed / 8) wp; omega) (by omega)
  have f3 : FR h (hI (hI (hI h 66 3 (nI seed)) 66 3 (nI (drN seed))) 66 2 (nI (trN A P seed))) [66, 67] [] [] [] := f2.tr (FR.hI (by decide) (by decide) (by decide))
  have r3' : f_X10_firstAbove (hI (hI h 66 3 (nI seed)) 66 3 (nI (drN seed))) (c + 9) (nI 0) (nI (A 2)) (nI (drN seed / 8 % sumN (wgN A P) (A 2))) = some (nI (trN A P seed)) := r3
  have e : ∃ h', f_X10_drawTruth_l59 66 c (nI 0) (hI (hI (hI h 66 3 (nI seed)) 66 3 (nI (drN seed))) 66 2 (nI (trN A P seed))) = some h' ∧ FR h h' [66, 67] [] [] [] ∧ h'.2.1 66 2 = nI (trN A P seed) ∧ ∀ v, v < A 4 → h'.2.1 67 v = nI (tkN A seed v) := by
    refine forI (fun j (t : Int32 × aH) => ∃ g, t = (nI j, g) ∧ FR h g [66, 67] [] [] [] ∧ g.2.1 66 2 = nI (trN A P seed) ∧ g.2.1 66 3 = nI (drI seed (j + 1)) ∧ ∀ v, v < j → g.2.1 67 v = nI (tkN A seed v)) _ (A 4) (by omega) ⟨_, rfl, f3, rI_eq, by rw [rI_nk (by decide), rI_eq]; rfl, fun v hv => absurd hv (by omega)⟩ ?_ ?_
    · rintro j _ hj ⟨g, rfl, fg, i1, i2, i3⟩
      have lg := fg.lay hl
      have sg := cs_fr fg hs
      have cg := cc_fr fg (by decide) hs hc
      have e4 := cg.1.2.2.2.2.2.1
      have s16 := (hw.2.2.2.2.2 j hj).2.1
      have q1 := x_draw lg (drI_lt hseed (j + 1)) i2 (show 0 < 16 by decide) (by decide)
      have q1' : f_X10_draw g 66 (nI 16) = some (nI (drI seed (j + 2) / 8 % 16), hI g 66 3 (nI (drI seed (j + 2)))) := q1
      have fg1 : FR h (hI g 66 3 (nI (drI seed (j + 2)))) [66, 67] [] [] [] := fg.tr (FR.hI (by decide) (by decide) (by decide))
      have cg1 := cc_fr fg1 (by decide) hs hc
      have sg1 : CS (hI g 66 3 (nI (drI seed (j + 2)))) c := sg
      have q2 := x_fab (h := hI g 66 3 (nI (drI seed (j + 2)))) (a := c + 12) (st := j * 4) (n := 4) (d := drI seed (j + 2) / 8 % 16) (f := fun k => A (76 + 6 * j + k)) (fun i hi => by
        have e := (cg1.2.2.2.2.2.1 j hj).1 i hi
        rw [lI_K (cs_kd sg1 12 (by decide)) (cs_ln sg1 12 (by decide)) (by decide) (show j * 4 + i < 16 by omega), e]) (by rw [s16]; decide) (by omega) (by decide)
      have q2' : f_X10_firstAbove (hI g 66 3 (nI (drI seed (j + 2)))) (c + 12) (nI (j * 4)) (nI 4) (nI (drI seed (j + 2) / 8 % 16)) = some (nI (tkN A seed j)) := q2
      refine ⟨(nI (j + 1), hI (hI g 66 3 (nI (drI seed (j + 2)))) 67 j (nI (tkN A seed j))), by simp (disch := first | assumption | omega | decide | ((repeat first | apply lyI | apply lyJ | apply lywI | apply lywJ | apply csI | apply csJ | apply cswI | apply cswJ); assumption)) only [f_X10_drawTruth_b59, SG, SC, LI, ↓li_m1, nI_add, pk_mul, nn_sub, nn_m1, nn_div, nn_rem, nn_nz, nn_mod, nJ_l, lN_add, lN_mul, nn_tb1, nI_bt, nn_and, nn_or, nn_xor, nn_shr, nn_1shl, nn_31, il_p, il_n, it_p, it_n, ie_p, ie_n, ie_b, ie_b1, ie_m, ie_mm, it_m, it_m0, il_m0, bI_rZ, Option.bind_some, bd2_some, Nat.add_zero, Nat.zero_add, if_true, if_false, Bool.false_eq_true, eq_self, hI_R, hJ_R, ng_t, ng_e, e4, q1', q2'], _, rfl, fg1.tr (FR.hI (by decide) (by decide) (by decide)), ?_, ?_, fun v hv => ?_⟩
      · rw [rI_ne (by decide), rI_nk (by decide)]
        exact i1
      · rw [rI_ne (by decide), rI_eq]
      · by_cases hx : v = j
        · subst hx
          rw [rI_eq]
        · rw [rI_nk hx, rI_ne (by decide)]
          exact i3 v (by omega)
    · rintro _ ⟨g, rfl, fg, i1, i2, i3⟩
      have lg := fg.lay hl
      have sg := cs_fr fg hs
      have e4 := (cc_fr fg (by decide) hs hc).1.2.2.2.2.2.1
      exact ⟨g, by simp (disch := first | assumption | omega | decide | ((repeat first | apply lyI | apply lyJ | apply lywI | apply lywJ | apply csI | apply csJ | apply cswI | apply cswJ); assumption)) only [f_X10_drawTruth_b59, SC, LI, ↓li_m1, nI_add, pk_mul, nn_sub, nn_m1, nn_div, nn_rem, nn_nz, nn_mod, nJ_l, lN_add, lN_mul, nn_tb1, nI_bt, nn_and, nn_or, nn_xor, nn_shr, nn_1shl, nn_31, il_p, il_n, it_p, it_n, ie_p, ie_n, ie_b, ie_b1, ie_m, ie_mm, it_m, it_m0, il_m0, bI_rZ, Option.bind_some, bd2_some, Nat.add_zero, Nat.zero_add, if_true, if_false, Bool.false_eq_true, eq_self, hI_R, hJ_R, ng_t, ng_e, e4], fg, i1, i3⟩
  obtain ⟨h', e5, f5, i5⟩ := e
  exact ⟨h', by simp (disch := first | assumption | omega | decide | ((repeat first | apply lyI | apply lyJ | apply lywI | apply lywJ | apply csI | apply csJ | apply cswI | apply cswJ); assumption)) only [f_X10_drawTruth, SG, SC, LI, ↓li_m1, nI_add, pk_mul, nn_sub, nn_m1, nn_div, nn_rem, nn_nz, nn_mod, nJ_l, lN_add, lN_mul, nn_tb1, nI_bt, nn_and, nn_or, nn_xor, nn_shr, nn_1shl, nn_31, il_p, il_n, it_p, it_n, ie_p, ie_n, ie_b, ie_b1, ie_m, ie_mm, it_m, it_m0, il_m0, bI_rZ, Option.bind_some, bd2_some, Nat.add_zero, Nat.zero_add, if_true, if_false, Bool.false_eq_true, eq_self, hI_R, hJ_R, ng_t, ng_e, r1, e2, r2, r3', e5], f5, i5⟩
