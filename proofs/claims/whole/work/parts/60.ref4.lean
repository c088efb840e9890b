/-! ===== the reference: what is left, weights, fees ===== -/
def lfB (A : Nat → Nat) (P : Nat → Bool) (F : Nat → Nat → Nat) (w : Nat) : Bool := P w && allB (fun v => F v w != 0) (A 4)
theorem r_isLeftAt {h : aH} (hl : LAY h) {A : Nat → Nat} {P : Nat → Bool} {Q : Nat → Nat → Bool} (hc : CM h A P Q) (hw : WF A) {L : Nat} {F : Nat → Nat → Nat} (hb : FB h A L F) (hF : ∀ v w, F v w < 16) (hL : L < 4) {w : Nat} (h1 : w < A 2) : f_X12_isLeftAt h 113 (nI L) (nI w) = some (bI (lfB A P F w)) := by
  obtain ⟨b0, b1, b2l, b2, b3, b4⟩ := wf_b hw
  obtain ⟨c0, c1, c2, c3, c4, cA⟩ := cm_e hc
  have r0 := r_poss hl hc (w := w) (by omega)
  have e : f_X12_isLeftAt_l9 h 113 (nI L) (nI w) (bI (P w)) (nI 0) = some (bI (lfB A P F w)) := by
    refine for0 (body := fun zz : Int32 × Int32 => f_X12_isLeftAt_b9 h 113 (nI L) (nI w) zz.1 zz.2) (fun j => (bI (P w && allB (fun v => F v w != 0) j), nI j)) (A 4) (e := bI (lfB A P F w)) (by simp [allB]) (by omega) (fun j hj => ?_) ?_
    · have e := hb j w hj h1
      rw [← Nat.add_assoc] at e
      have q := hF j w
      cases hx : (P w && allB (fun v => F v w != 0) j)
      · simp (disch := first | assumption | omega | decide) only [f_X12_isLeftAt_b9, f_X12_isLeftAt_j51, f_X12_isLeftAt_j50, SM, LI, ↓li_m1, nI_add, pk_mul, nn_sub, nn_m1, nn_div, nn_rem, nn_nz, nn_mod, nJ_l, lN_add, lN_mul, nn_tb1, nI_bt, nn_and, nn_or, nn_xor, nn_shr, nn_1shl, nn_31, il_p, il_n, it_p, it_n, ie_p, ie_n, ie_b, ie_b1, ie_m, ie_mm, it_m, it_m0, il_m0, bI_rZ, Option.bind_some, bd2_some, Nat.add_zero, Nat.zero_add, if_true, if_false, Bool.false_eq_true, eq_self, c4, allB, ← Bool.and_assoc, hx, bI_f, Bool.false_and]
      · by_cases hz : F j w = 0
        · simp (disch := first | assumption | omega | decide) only [f_X12_isLeftAt_b9, f_X12_isLeftAt_j51, f_X12_isLeftAt_j50, SM, LI, ↓li_m1, nI_add, pk_mul, nn_sub, nn_m1, nn_div, nn_rem, nn_nz, nn_mod, nJ_l, lN_add, lN_mul, nn_tb1, nI_bt, nn_and, nn_or, nn_xor, nn_shr, nn_1shl, nn_31, il_p, il_n, it_p, it_n, ie_p, ie_n, ie_b, ie_b1, ie_m, ie_mm, it_m, it_m0, il_m0, bI_rZ, Option.bind_some, bd2_some, Nat.add_zero, Nat.zero_add, if_true, if_false, Bool.false_eq_true, eq_self, c4, e, allB, ← Bool.and_assoc, hx, bI_t, Bool.true_and, hz]
          rfl
        · have hz2 : (F j w != 0) = true := by simp [hz]
          simp (disch := first | assumption | omega | decide) only [f_X12_isLeftAt_b9, f_X12_isLeftAt_j51, f_X12_isLeftAt_j50, SM, LI, ↓li_m1, nI_add, pk_mul, nn_sub, nn_m1, nn_div, nn_rem, nn_nz, nn_mod, nJ_l, lN_add, lN_mul, nn_tb1, nI_bt, nn_and, nn_or, nn_xor, nn_shr, nn_1shl, nn_31, il_p, il_n, it_p, it_n, ie_p, ie_n, ie_b, ie_b1, ie_m, ie_mm, it_m, it_m0, il_m0, bI_rZ, Option.bind_some, bd2_some, Nat.add_zero, Nat.zero_add, if_true, if_false, Bool.false_eq_true, eq_self, c4, e, allB, ← Bool.and_assoc, hx, bI_t, Bool.true_and, hz2]
    · simp (disch := first | assumption | omega | decide) only [f_X12_isLeftAt_b9, f_X12_isLeftAt_j51, f_X12_isLeftAt_j50, SM, LI, ↓li_m1, nI_add, pk_mul, nn_sub, nn_m1, nn_div, nn_rem, nn_nz, nn_mod, nJ_l, lN_add, lN_mul, nn_tb1, nI_bt, nn_and, nn_or, nn_xor, nn_shr, nn_1shl, nn_31, il_p, il_n, it_p, it_n, ie_p, ie_n, ie_b, ie_b1, ie_m, ie_mm, it_m, it_m0, il_m0, bI_rZ, Option.bind_some, bd2_some, Nat.add_zero, Nat.zero_add, if_true, if_false, Bool.false_eq_true, eq_self, c4]
      rfl
  simp (disch := first | assumption | omega | decide) only [f_X12_isLeftAt, SM, LI, ↓li_m1, nI_add, pk_mul, nn_sub, nn_m1, nn_div, nn_rem, nn_nz, nn_mod, nJ_l, lN_add, lN_mul, nn_tb1, nI_bt, nn_and, nn_or, nn_xor, nn_shr, nn_1shl, nn_31, il_p, il_n, it_p, it_n, ie_p, ie_n, ie_b, ie_b1, ie_m, ie_mm, it_m, it_m0, il_m0, bI_rZ, Option.bind_some, bd2_some, Nat.add_zero, Nat.zero_add, if_true, if_false, Bool.false_eq_true, eq_self, r0, e]
theorem r_leftAt {h : aH} (hl : LAY h) {A : Nat → Nat} {P : Nat → Bool} {Q : Nat → Nat → Bool} (hc : CM h A P Q) (hw : WF A) {L : Nat} {F : Nat → Nat → Nat} (hb : FB h A L F) (hF : ∀ v w, F v w < 16) (hL : L < 4) : f_X12_leftAt h 113 (nI L) = some (nI (cntB (lfB A P F) (A 2))) := by
  obtain ⟨b0, b1, b2l, b2, b3, b4⟩ := wf_b hw
  obtain ⟨c0, c1, c2, c3, c4, cA⟩ := cm_e hc
  have e : f_X12_leftAt_l4 h 113 (nI L) (nI 0) (nI 0) = some (nI (cntB (lfB A P F) (A 2))) := by
    refine for0 (body := fun zz : Int32 × Int32 => f_X12_leftAt_b4 h 113 (nI L) zz.1 zz.2) (fun j => (nI (cntB (lfB A P F) j), nI j)) (A 2) (e := nI (cntB (lfB A P F) (A 2))) (rfl) (by omega) (fun j hj => ?_) ?_
    · have r := r_isLeftAt hl hc hw hb hF hL hj
      simp (disch := first | assumption | omega | decide) only [f_X12_leftAt_b4, f_X12_leftAt_j29, SM, LI, ↓li_m1, nI_add, pk_mul, nn_sub, nn_m1, nn_div, nn_rem, nn_nz, nn_mod, nJ_l, lN_add, lN_mul, nn_tb1, nI_bt, nn_and, nn_or, nn_xor, nn_shr, nn_1shl, nn_31, il_p, il_n, it_p, it_n, ie_p, ie_n, ie_b, ie_b1, ie_m, ie_mm, it_m, it_m0, il_m0, bI_rZ, Option.bind_some, bd2_some, Nat.add_zero, Nat.zero_add, if_true, if_false, Bool.false_eq_true, eq_self, c2, r, cntB]
      cases lfB A P F j <;> rfl
    · simp (disch := first | assumption | omega | decide) only [f_X12_leftAt_b4, f_X12_leftAt_j29, SM, LI, ↓li_m1, nI_add, pk_mul, nn_sub, nn_m1, nn_div, nn_rem, nn_nz, nn_mod, nJ_l, lN_add, lN_mul, nn_tb1, nI_bt, nn_and, nn_or, nn_xor, nn_shr, nn_1shl, nn_31, il_p, il_n, it_p, it_n, ie_p, ie_n, ie_b, ie_b1, ie_m, ie_mm, it_m, it_m0, il_m0, bI_rZ, Option.bind_some, bd2_some, Nat.add_zero, Nat.zero_add, if_true, if_false, Bool.false_eq_true, eq_self, c2]
  simp (disch := first | assumption | omega | decide) only [f_X12_leftAt, SM, LI, ↓li_m1, nI_add, pk_mul, nn_sub, nn_m1, nn_div, nn_rem, nn_nz, nn_mod, nJ_l, lN_add, lN_mul, nn_tb1, nI_bt, nn_and, nn_or, nn_xor, nn_shr, nn_1shl, nn_31, il_p, il_n, it_p, it_n, ie_p, ie_n, ie_b, ie_b1, ie_m, ie_mm, it_m, it_m0, il_m0, bI_rZ, Option.bind_some, bd2_some, Nat.add_zero, Nat.zero_add, if_true, if_false, Bool.false_eq_true, eq_self, e]
def someB (A : Nat → Nat) (P : Nat → Bool) (F : Nat → Nat → Nat) (p : Nat → Bool) (n : Nat) : Bool := anyB (fun w => lfB A P F w && p w) n
def sureI (s o : Bool) : Int32 := if s = o then m1 else bI s
theorem r_sureAt {h : aH} (hl : LAY h) {A : Nat → Nat} {P : Nat → Bool} {Q : Nat → Nat → Bool} (hc : CM h A P Q) (hw : WF A) {L : Nat} {F : Nat → Nat → Nat} (hb : FB h A L F) (hF : ∀ v w, F v w < 16) (hL : L < 4) {q : Nat} (hq : q < A 3) : f_X12_sureAt h 113 (nI L) (nI q) = some (sureI (someB A P F (Q q) (A 2)) (someB A P F (fun w => !Q q w) (A 2))) := by
  obtain ⟨b0, b1, b2l, b2, b3, b4⟩ := wf_b hw
  obtain ⟨c0, c1, c2, c3, c4, cA⟩ := cm_e hc
  have e : f_X12_sureAt_l8 h 113 (nI L) (nI q) (nI 0) (nI 0) (nI 0) = some (bI (someB A P F (Q q) (A 2)), bI (someB A P F (fun w => !Q q w) (A 2))) := by
    refine for0 (body := fun zz : Int32 × Int32 × Int32 => f_X12_sureAt_b8 h 113 (nI L) (nI q) zz.1 zz.2.1 zz.2.2) (fun j => (bI (someB A P F (Q q) j), bI (someB A P F (fun w => !Q q w) j), nI j)) (A 2) (e := (bI (someB A P F (Q q) (A 2)), bI (someB A P F (fun w => !Q q w) (A 2)))) (rfl) (by omega) (fun j hj => ?_) ?_
    · have r := r_isLeftAt hl hc hw hb hF hL hj
      have r2 := r_isIn hl hc (q := q) (w := j) (by omega) (by omega)
      simp (disch := first | assumption | omega | decide) only [f_X12_sureAt_b8, f_X12_sureAt_j74, f_X12_sureAt_j72, f_X12_sureAt_j67, f_X12_sureAt_j51, f_X12_sureAt_j46, SM, LI, ↓li_m1, nI_add, pk_mul, nn_sub, nn_m1, nn_div, nn_rem, nn_nz, nn_mod, nJ_l, lN_add, lN_mul, nn_tb1, nI_bt, nn_and, nn_or, nn_xor, nn_shr, nn_1shl, nn_31, il_p, il_n, it_p, it_n, ie_p, ie_n, ie_b, ie_b1, ie_m, ie_mm, it_m, it_m0, il_m0, bI_rZ, Option.bind_some, bd2_some, Nat.add_zero, Nat.zero_add, if_true, if_false, Bool.false_eq_true, eq_self, c2, r, r2]
      unfold someB
      simp only [anyB]
      cases lfB A P F j <;> cases Q q j <;> cases (anyB (fun w => lfB A P F w && Q q w) j) <;> cases (anyB (fun w => lfB A P F w && !Q q w) j) <;> rfl
    · simp (disch := first | assumption | omega | decide) only [f_X12_sureAt_b8, f_X12_sureAt_j74, f_X12_sureAt_j72, f_X12_sureAt_j67, f_X12_sureAt_j51, f_X12_sureAt_j46, SM, LI, ↓li_m1, nI_add, pk_mul, nn_sub, nn_m1, nn_div, nn_rem, nn_nz, nn_mod, nJ_l, lN_add, lN_mul, nn_tb1, nI_bt, nn_and, nn_or, nn_xor, nn_shr, nn_1shl, nn_31, il_p, il_n, it_p, it_n, ie_p, ie_n, ie_b, ie_b1, ie_m, ie_mm, it_m, it_m0, il_m0, bI_rZ, Option.bind_some, bd2_some, Nat.add_zero, Nat.zero_add, if_true, if_false, Bool.false_eq_true, eq_self, c2]
  simp (disch := first | assumption | omega | decide) only [f_X12_sureAt, SM, LI, ↓li_m1, nI_add, pk_mul, nn_sub, nn_m1, nn_div, nn_rem, nn_nz, nn_mod, nJ_l, lN_add, lN_mul, nn_tb1, nI_bt, nn_and, nn_or, nn_xor, nn_shr, nn_1shl, nn_31, il_p, il_n, it_p, it_n, ie_p, ie_n, ie_b, ie_b1, ie_m, ie_mm, it_m, it_m0, il_m0, bI_rZ, Option.bind_some, bd2_some, Nat.add_zero, Nat.zero_add, if_true, if_false, Bool.false_eq_true, eq_self, e]
  unfold sureI
  cases someB A P F (Q q) (A 2) <;> cases (someB A P F (fun w => !Q q w) (A 2)) <;> rfl
theorem r_size {h : aH} (hl : LAY h) {A : Nat → Nat} {P : Nat → Bool} {Q : Nat → Nat → Bool} (hc : CM h A P Q) (hw : WF A) : f_X12_size h 113 (nI 0) = some (nI (cntB P (A 2))) := by
  obtain ⟨b0, b1, b2l, b2, b3, b4⟩ := wf_b hw
  obtain ⟨c0, c1, c2, c3, c4, cA⟩ := cm_e hc
  have e : f_X12_size_l4 h 113 (nI 0) (nI 0) (nI 0) = some (nI (cntB P (A 2))) := by
    refine for0 (body := fun zz : Int32 × Int32 => f_X12_size_b4 h 113 (nI 0) zz.1 zz.2) (fun j => (nI (cntB P j), nI j)) (A 2) (e := nI (cntB P (A 2))) (rfl) (by omega) (fun j hj => ?_) ?_
    · have e := hc.2.1 j (by omega)
      have r := r_inSet hl (b := 0) (w := j) (by omega) (by omega)
      rw [e] at r
      simp (disch := first | assumption | omega | decide) only [f_X12_size_b4, f_X12_size_j32, SM, LI, ↓li_m1, nI_add, pk_mul, nn_sub, nn_m1, nn_div, nn_rem, nn_nz, nn_mod, nJ_l, lN_add, lN_mul, nn_tb1, nI_bt, nn_and, nn_or, nn_xor, nn_shr, nn_1shl, nn_31, il_p, il_n, it_p, it_n, ie_p, ie_n, ie_b, ie_b1, ie_m, ie_mm, it_m, it_m0, il_m0, bI_rZ, Option.bind_some, bd2_some, Nat.add_zero, Nat.zero_add, if_true, if_false, Bool.false_eq_true, eq_self, c2, r, cntB]
      cases P j <;> rfl
    · simp (disch := first | assumption | omega | decide) only [f_X12_size_b4, f_X12_size_j32, SM, LI, ↓li_m1, nI_add, pk_mul, nn_sub, nn_m1, nn_div, nn_rem, nn_nz, nn_mod, nJ_l, lN_add, lN_mul, nn_tb1, nI_bt, nn_and, nn_or, nn_xor, nn_shr, nn_1shl, nn_31, il_p, il_n, it_p, it_n, ie_p, ie_n, ie_b, ie_b1, ie_m, ie_mm, it_m, it_m0, il_m0, bI_rZ, Option.bind_some, bd2_some, Nat.add_zero, Nat.zero_add, if_true, if_false, Bool.false_eq_true, eq_self, c2]
  simp (disch := first | assumption | omega | decide) only [f_X12_size, SM, LI, ↓li_m1, nI_add, pk_mul, nn_sub, nn_m1, nn_div, nn_rem, nn_nz, nn_mod, nJ_l, lN_add, lN_mul, nn_tb1, nI_bt, nn_and, nn_or, nn_xor, nn_shr, nn_1shl, nn_31, il_p, il_n, it_p, it_n, ie_p, ie_n, ie_b, ie_b1, ie_m, ie_mm, it_m, it_m0, il_m0, bI_rZ, Option.bind_some, bd2_some, Nat.add_zero, Nat.zero_add, if_true, if_false, Bool.false_eq_true, eq_self, e]
def wtF (A : Nat → Nat) (w : Nat) : Nat → Nat
  | 0 => 1
  | f + 1 => wtF A w f * A (32 + valN A w f)
theorem val_lt {A : Nat → Nat} (hw : WF A) {w f : Nat} (hf : f < A 0) : valN A w f < A 1 := by
  have q := hw.1.2.2.2.2 f hf
  have : w / strd A f % A (60 + f) < A (60 + f) := Nat.mod_lt _ (by omega)
  unfold valN
  omega
theorem wtF_le {A : Nat → Nat} (hw : WF A) {w : Nat} : ∀ f, f ≤ A 0 → 1 ≤ wtF A w f ∧ wtF A w f ≤ 9 ^ f
  | 0, _ => ⟨Nat.le_refl 1, Nat.le_refl 1⟩
  | f + 1, hf => by
    obtain ⟨i1, i2⟩ := wtF_le hw (w := w) f (by omega)
    have q := hw.2.2.2.1 _ (val_lt hw (w := w) (f := f) (by omega))
    exact ⟨Nat.mul_pos i1 q.2.1, Nat.mul_le_mul i2 q.2.2⟩
def wtN (A : Nat → Nat) (w : Nat) : Nat := wtF A w (A 0)
theorem wtN_le {A : Nat → Nat} (hw : WF A) {w : Nat} : 1 ≤ wtN A w ∧ wtN A w ≤ 6561 := by
  obtain ⟨h1, h2⟩ := wtF_le hw (w := w) (A 0) (Nat.le_refl _)
  exact ⟨h1, Nat.le_trans h2 (Nat.pow_le_pow_right (show 9 > 0 by decide) (wf_b hw).1)⟩
theorem r_weightOf {h : aH} (hl : LAY h) {A : Nat → Nat} {P : Nat → Bool} {Q : Nat → Nat → Bool} (hc : CM h A P Q) (hw : WF A) {w : Nat} (h1 : w < A 2) : f_X12_weightOf h 113 (nI w) = some (lN (wtN A w)) := by
  obtain ⟨b0, b1, b2l, b2, b3, b4⟩ := wf_b hw
  obtain ⟨c0, c1, c2, c3, c4, cA⟩ := cm_e hc
  have e : f_X12_weightOf_l5 h 113 (nI w) (lN 1) (nI 0) = some (lN (wtN A w)) := by
    refine for0 (body := fun zz : Int64 × Int32 => f_X12_weightOf_b5 h 113 (nI w) zz.1 zz.2) (fun j => (lN (wtF A w j), nI j)) (A 0) (e := lN (wtN A w)) (rfl) (by omega) (fun j hj => ?_) ?_
    · have r := r_valueIn hl hc hw.1 (by decide) (w := w) (f := j) (by omega) hj
      have q0 := val_lt hw (w := w) (f := j) hj
      have q := hw.2.2.2.1 _ q0
      have e := cA (32 + valN A w j) (by omega) (by omega)
      simp (disch := first | assumption | omega | decide) only [f_X12_weightOf_b5, SM, LI, ↓li_m1, nI_add, pk_mul, nn_sub, nn_m1, nn_div, nn_rem, nn_nz, nn_mod, nJ_l, lN_add, lN_mul, nn_tb1, nI_bt, nn_and, nn_or, nn_xor, nn_shr, nn_1shl, nn_31, il_p, il_n, it_p, it_n, ie_p, ie_n, ie_b, ie_b1, ie_m, ie_mm, it_m, it_m0, il_m0, bI_rZ, Option.bind_some, bd2_some, Nat.add_zero, Nat.zero_add, if_true, if_false, Bool.false_eq_true, eq_self, c0, r, e]
      rfl
    · simp (disch := first | assumption | omega | decide) only [f_X12_weightOf_b5, SM, LI, ↓li_m1, nI_add, pk_mul, nn_sub, nn_m1, nn_div, nn_rem, nn_nz, nn_mod, nJ_l, lN_add, lN_mul, nn_tb1, nI_bt, nn_and, nn_or, nn_xor, nn_shr, nn_1shl, nn_31, il_p, il_n, it_p, it_n, ie_p, ie_n, ie_b, ie_b1, ie_m, ie_mm, it_m, it_m0, il_m0, bI_rZ, Option.bind_some, bd2_some, Nat.add_zero, Nat.zero_add, if_true, if_false, Bool.false_eq_true, eq_self, c0]
      rfl
  simp (disch := first | assumption | omega | decide) only [f_X12_weightOf, SM, LI, ↓li_m1, nI_add, pk_mul, nn_sub, nn_m1, nn_div, nn_rem, nn_nz, nn_mod, nJ_l, lN_add, lN_mul, nn_tb1, nI_bt, nn_and, nn_or, nn_xor, nn_shr, nn_1shl, nn_31, il_p, il_n, it_p, it_n, ie_p, ie_n, ie_b, ie_b1, ie_m, ie_mm, it_m, it_m0, il_m0, bI_rZ, Option.bind_some, bd2_some, Nat.add_zero, Nat.zero_add, if_true, if_false, Bool.false_eq_true, eq_self, LJ, e]
def selB (wi ki : Int32) (v k : Nat) : Bool := !(decide (nI v = wi)) || decide (nI k = ki)
def kwN (A : Nat → Nat) (sel : Nat → Nat → Bool) (x v : Nat) : Nat → Nat := sumN (fun k => if (x.testBit k && sel v k) = true then A (76 + 6 * v + k) else 0)
def wbF (A : Nat → Nat) (F : Nat → Nat → Nat) (sel : Nat → Nat → Bool) (w : Nat) : Nat → Nat
  | 0 => wtN A w
  | v + 1 => wbF A F sel w v * kwN A sel (F v w) v 4
def wbN (A : Nat → Nat) (F : Nat → Nat → Nat) (sel : Nat → Nat → Bool) (w : Nat) : Nat := wbF A F sel w (A 4)
theorem kwN_le {A : Nat → Nat} (hw : WF A) {sel : Nat → Nat → Bool} {x v : Nat} (hv : v < A 4) : ∀ j, j ≤ 4 → kwN A sel x v j ≤ 16 * j := fun j hj => sumN_le (fun i hi => by
  have := (hw.2.2.2.2.2 v hv).1 i (by omega)
  split <;> omega)
theorem r_weightBy {h : aH} (hl : LAY h) {A : Nat → Nat} {P : Nat → Bool} {Q : Nat → Nat → Bool} (hc : CM h A P Q) (hw : WF A) {F : Nat → Nat → Nat} (hb : FB h A 0 F) (hF : ∀ v w, F v w < 16) {w : Nat} (h1 : w < A 2) (wi ki : Int32) : f_X12_weightBy h 113 (nI w) wi ki = some (lN (wbN A F (selB wi ki) w)) := by
  obtain ⟨b0, b1, b2l, b2, b3, b4⟩ := wf_b hw
  obtain ⟨c0, c1, c2, c3, c4, cA⟩ := cm_e hc
  have r0 := r_weightOf hl hc hw h1
  have e1 : ∀ v x, v < A 4 → f_X12_weightBy_l27 h 113 (nI w) wi ki x (nI v) (nI 0) (nI 0) = some (nI (kwN A (selB wi ki) (F v w) v 4)) := fun v x hv => by
    refine for0 (body := fun zz : Int32 × Int32 => f_X12_weightBy_b27 h 113 (nI w) wi ki x (nI v) zz.1 zz.2) (fun j => (nI (kwN A (selB wi ki) (F v w) v j), nI j)) (4) (e := nI (kwN A (selB wi ki) (F v w) v 4)) (rfl) (by omega) (fun j hj => ?_) ?_
    · have e := hb v w hv h1
      rw [Nat.mul_zero, Nat.zero_add] at e
      have q := hF v w
      have r := r_ofWitness hl (v := v) (i := j) (by omega) (by omega)
      rw [cA _ (by omega) (by omega)] at r
      simp (disch := first | assumption | omega | decide) only [f_X12_weightBy_b27, f_X12_weightBy_j81, f_X12_weightBy_j80, f_X12_weightBy_j69, SM, LI, ↓li_m1, nI_add, pk_mul, nn_sub, nn_m1, nn_div, nn_rem, nn_nz, nn_mod, nJ_l, lN_add, lN_mul, nn_tb1, nI_bt, nn_and, nn_or, nn_xor, nn_shr, nn_1shl, nn_31, il_p, il_n, it_p, it_n, ie_p, ie_n, ie_b, ie_b1, ie_m, ie_mm, it_m, it_m0, il_m0, bI_rZ, Option.bind_some, bd2_some, Nat.add_zero, Nat.zero_add, if_true, if_false, Bool.false_eq_true, eq_self, e, r, kwN, sumN, selB]
      cases (F v w).testBit j <;> by_cases hx : nI v = wi <;> by_cases hy : nI j = ki <;> simp [hx, hy, nI_add]
    · simp (disch := first | assumption | omega | decide) only [f_X12_weightBy_b27, f_X12_weightBy_j81, f_X12_weightBy_j80, f_X12_weightBy_j69, SM, LI, ↓li_m1, nI_add, pk_mul, nn_sub, nn_m1, nn_div, nn_rem, nn_nz, nn_mod, nJ_l, lN_add, lN_mul, nn_tb1, nI_bt, nn_and, nn_or, nn_xor, nn_shr, nn_1shl, nn_31, il_p, il_n, it_p, it_n, ie_p, ie_n, ie_b, ie_b1, ie_m, ie_mm, it_m, it_m0, il_m0, bI_rZ, Option.bind_some, bd2_some, Nat.add_zero, Nat.zero_add, if_true, if_false, Bool.false_eq_true, eq_self]
  have e2 : f_X12_weightBy_l10 h 113 (nI w) wi ki (lN (wtN A w)) (nI 0) = some (lN (wbN A F (selB wi ki) w)) := by
    refine for0 (body := fun zz : Int64 × Int32 => f_X12_weightBy_b10 h 113 (nI w) wi ki zz.1 zz.2) (fun j => (lN (wbF A F (selB wi ki) w j), nI j)) (A 4) (e := lN (wbN A F (selB wi ki) w)) (rfl) (by omega) (fun j hj => ?_) ?_
    · have q := kwN_le hw (sel := selB wi ki) (x := F j w) hj 4 (by decide)
      simp (disch := first | assumption | omega | decide) only [f_X12_weightBy_b10, f_X12_weightBy_j81, f_X12_weightBy_j80, f_X12_weightBy_j69, SM, LI, ↓li_m1, nI_add, pk_mul, nn_sub, nn_m1, nn_div, nn_rem, nn_nz, nn_mod, nJ_l, lN_add, lN_mul, nn_tb1, nI_bt, nn_and, nn_or, nn_xor, nn_shr, nn_1shl, nn_31, il_p, il_n, it_p, it_n, ie_p, ie_n, ie_b, ie_b1, ie_m, ie_mm, it_m, it_m0, il_m0, bI_rZ, Option.bind_some, bd2_some, Nat.add_zero, Nat.zero_add, if_true, if_false, Bool.false_eq_true, eq_self, c4, e1, wbF]
    · simp (disch := first | assumption | omega | decide) only [f_X12_weightBy_b10, f_X12_weightBy_j81, f_X12_weightBy_j80, f_X12_weightBy_j69, SM, LI, ↓li_m1, nI_add, pk_mul, nn_sub, nn_m1, nn_div, nn_rem, nn_nz, nn_mod, nJ_l, lN_add, lN_mul, nn_tb1, nI_bt, nn_and, nn_or, nn_xor, nn_shr, nn_1shl, nn_31, il_p, il_n, it_p, it_n, ie_p, ie_n, ie_b, ie_b1, ie_m, ie_mm, it_m, it_m0, il_m0, bI_rZ, Option.bind_some, bd2_some, Nat.add_zero, Nat.zero_add, if_true, if_false, Bool.false_eq_true, eq_self, c4]
      rfl
  simp (disch := first | assumption | omega | decide) only [f_X12_weightBy, SM, LI, ↓li_m1, nI_add, pk_mul, nn_sub, nn_m1, nn_div, nn_rem, nn_nz, nn_mod, nJ_l, lN_add, lN_mul, nn_tb1, nI_bt, nn_and, nn_or, nn_xor, nn_shr, nn_1shl, nn_31, il_p, il_n, it_p, it_n, ie_p, ie_n, ie_b, ie_b1, ie_m, ie_mm, it_m, it_m0, il_m0, bI_rZ, Option.bind_some, bd2_some, Nat.add_zero, Nat.zero_add, if_true, if_false, Bool.false_eq_true, eq_self, r0, e2]
def waN (A : Nat → Nat) (P : Nat → Bool) (F : Nat → Nat → Nat) (sel : Nat → Nat → Bool) (qs : Nat → Bool) : Nat → Nat := sumN (fun w => if (lfB A P F w && qs w) = true then wbN A F sel w else 0)
theorem r_weightAll {h : aH} (hl : LAY h) {A : Nat → Nat} {P : Nat → Bool} {Q : Nat → Nat → Bool} (hc : CM h A P Q) (hw : WF A) {F : Nat → Nat → Nat} (hb : FB h A 0 F) (hF : ∀ v w, F v w < 16) (wi ki qi : Int32) {qs : Nat → Bool} (hq : (qi = m1 ∧ ∀ w, qs w = true) ∨ ∃ q, q < A 3 ∧ qi = nI q ∧ ∀ w, qs w = Q q w) : f_X12_weightAll h 113 wi ki qi = some (lN (waN A P F (selB wi ki) qs (A 2))) := by
  obtain ⟨b0, b1, b2l, b2, b3, b4⟩ := wf_b hw
  obtain ⟨c0, c1, c2, c3, c4, cA⟩ := cm_e hc
  have e : f_X12_weightAll_l6 h 113 wi ki qi (lN 0) (nI 0) = some (lN (waN A P F (selB wi ki) qs (A 2))) := by
    refine for0 (body := fun zz : Int64 × Int32 => f_X12_weightAll_b6 h 113 wi ki qi zz.1 zz.2) (fun j => (lN (waN A P F (selB wi ki) qs j), nI j)) (A 2) (e := lN (waN A P F (selB wi ki) qs (A 2))) (rfl) (by omega) (fun j hj => ?_) ?_
    · have r := r_isLeftAt hl hc hw hb hF (L := 0) (by decide) hj
      have r2 := r_weightBy hl hc hw hb hF hj wi ki
      rcases hq with ⟨rfl, hq⟩ | ⟨q, hq1, rfl, hq⟩
      · simp (disch := first | assumption | omega | decide) only [f_X12_weightAll_b6, f_X12_weightAll_j55, f_X12_weightAll_j42, SM, LI, ↓li_m1, nI_add, pk_mul, nn_sub, nn_m1, nn_div, nn_rem, nn_nz, nn_mod, nJ_l, lN_add, lN_mul, nn_tb1, nI_bt, nn_and, nn_or, nn_xor, nn_shr, nn_1shl, nn_31, il_p, il_n, it_p, it_n, ie_p, ie_n, ie_b, ie_b1, ie_m, ie_mm, it_m, it_m0, il_m0, bI_rZ, Option.bind_some, bd2_some, Nat.add_zero, Nat.zero_add, if_true, if_false, Bool.false_eq_true, eq_self, c2, r, r2, waN, sumN, hq, Bool.and_true]
        cases lfB A P F j <;> rfl
      · have r3 := r_isIn hl hc (q := q) (w := j) (by omega) (by omega)
        simp (disch := first | assumption | omega | decide) only [f_X12_weightAll_b6, f_X12_weightAll_j55, f_X12_weightAll_j42, SM, LI, ↓li_m1, nI_add, pk_mul, nn_sub, nn_m1, nn_div, nn_rem, nn_nz, nn_mod, nJ_l, lN_add, lN_mul, nn_tb1, nI_bt, nn_and, nn_or, nn_xor, nn_shr, nn_1shl, nn_31, il_p, il_n, it_p, it_n, ie_p, ie_n, ie_b, ie_b1, ie_m, ie_mm, it_m, it_m0, il_m0, bI_rZ, Option.bind_some, bd2_some, Nat.add_zero, Nat.zero_add, if_true, if_false, Bool.false_eq_true, eq_self, c2, r, r2, r3, waN, sumN, hq]
        cases lfB A P F j <;> cases Q q j <;> rfl
    · simp (disch := first | assumption | omega | decide) only [f_X12_weightAll_b6, f_X12_weightAll_j55, f_X12_weightAll_j42, SM, LI, ↓li_m1, nI_add, pk_mul, nn_sub, nn_m1, nn_div, nn_rem, nn_nz, nn_mod, nJ_l, lN_add, lN_mul, nn_tb1, nI_bt, nn_and, nn_or, nn_xor, nn_shr, nn_1shl, nn_31, il_p, il_n, it_p, it_n, ie_p, ie_n, ie_b, ie_b1, ie_m, ie_mm, it_m, it_m0, il_m0, bI_rZ, Option.bind_some, bd2_some, Nat.add_zero, Nat.zero_add, if_true, if_false, Bool.false_eq_true, eq_self, c2]
  simp (disch := first | assumption | omega | decide) only [f_X12_weightAll, SM, LI, ↓li_m1, nI_add, pk_mul, nn_sub, nn_m1, nn_div, nn_rem, nn_nz, nn_mod, nJ_l, lN_add, lN_mul, nn_tb1, nI_bt, nn_and, nn_or, nn_xor, nn_shr, nn_1shl, nn_31, il_p, il_n, it_p, it_n, ie_p, ie_n, ie_b, ie_b1, ie_m, ie_mm, it_m, it_m0, il_m0, bI_rZ, Option.bind_some, bd2_some, Nat.add_zero, Nat.zero_add, if_true, if_false, Bool.false_eq_true, eq_self, LJ, e]
def feN (A : Nat → Nat) (M : Nat → Nat → Nat) : Nat → Nat := sumN (fun k => A (64 + M k 1) + A (64 + M k 2 / 2) * (1 + M k 2 % 2))
theorem r_feesOf {h : aH} (hl : LAY h) {A : Nat → Nat} {P : Nat → Bool} {Q : Nat → Nat → Bool} (hc : CM h A P Q) (hw : WF A) {n d : Nat} {M : Nat → Nat → Nat} (hm : MM h n d M) (mw : MW A n d M) : f_X12_feesOf h 113 = some (nI (feN A M n)) := by
  obtain ⟨b0, b1, b2l, b2, b3, b4⟩ := wf_b hw
  obtain ⟨c0, c1, c2, c3, c4, cA⟩ := cm_e hc
  obtain ⟨m5, m6, mM⟩ := hm
  obtain ⟨mn, md, mk, mi⟩ := mw
  have e : f_X12_feesOf_l4 h 113 (nI 0) (nI 0) = some (nI (feN A M n)) := by
    refine for0 (body := fun zz : Int32 × Int32 => f_X12_feesOf_b4 h 113 zz.1 zz.2) (fun j => (nI (feN A M j), nI j)) (n) (e := nI (feN A M n)) (rfl) (by omega) (fun j hj => ?_) ?_
    · have q := mk j hj
      have r1 := r_ofHeard hl (k := j) (i := 1) (by omega) (by decide)
      rw [mM j 1 hj (by decide)] at r1
      have r2 := r_ofHeard hl (k := j) (i := 2) (by omega) (by decide)
      rw [mM j 2 hj (by decide)] at r2
      have e1 := cA (64 + M j 1) (by omega) (by omega)
      have e2 := cA (64 + M j 2 / 2) (by omega) (by omega)
      simp (disch := first | assumption | omega | decide) only [f_X12_feesOf_b4, SM, LI, ↓li_m1, nI_add, pk_mul, nn_sub, nn_m1, nn_div, nn_rem, nn_nz, nn_mod, nJ_l, lN_add, lN_mul, nn_tb1, nI_bt, nn_and, nn_or, nn_xor, nn_shr, nn_1shl, nn_31, il_p, il_n, it_p, it_n, ie_p, ie_n, ie_b, ie_b1, ie_m, ie_mm, it_m, it_m0, il_m0, bI_rZ, Option.bind_some, bd2_some, Nat.add_zero, Nat.zero_add, if_true, if_false, Bool.false_eq_true, eq_self, m6, r1, r2, e1, e2, feN, sumN]
    · simp (disch := first | assumption | omega | decide) only [f_X12_feesOf_b4, SM, LI, ↓li_m1, nI_add, pk_mul, nn_sub, nn_m1, nn_div, nn_rem, nn_nz, nn_mod, nJ_l, lN_add, lN_mul, nn_tb1, nI_bt, nn_and, nn_or, nn_xor, nn_shr, nn_1shl, nn_31, il_p, il_n, it_p, it_n, ie_p, ie_n, ie_b, ie_b1, ie_m, ie_mm, it_m, it_m0, il_m0, bI_rZ, Option.bind_some, bd2_some, Nat.add_zero, Nat.zero_add, if_true, if_false, Bool.false_eq_true, eq_self, m6]
  simp (disch := first | assumption | omega | decide) only [f_X12_feesOf, SM, LI, ↓li_m1, nI_add, pk_mul, nn_sub, nn_m1, nn_div, nn_rem, nn_nz, nn_mod, nJ_l, lN_add, lN_mul, nn_tb1, nI_bt, nn_and, nn_or, nn_xor, nn_shr, nn_1shl, nn_31, il_p, il_n, it_p, it_n, ie_p, ie_n, ie_b, ie_b1, ie_m, ie_mm, it_m, it_m0, il_m0, bI_rZ, Option.bind_some, bd2_some, Nat.add_zero, Nat.zero_add, if_true, if_false, Bool.false_eq_true, eq_self, e]
theorem r_fitsAll {h : aH} (hl : LAY h) {A : Nat → Nat} {P : Nat → Bool} {Q : Nat → Nat → Bool} (hc : CM h A P Q) (hw : WF A) {n d : Nat} {M : Nat → Nat → Nat} (hm : MM h n d M) (mw : MW A n d M) {S : Nat → Nat → Nat → Nat → Nat} (hs : SY h A P S) : ∃ h', f_X12_fitsAll h 113 = some h' ∧ FR h h' [129, 130] [] [] [] ∧ FB h' A 0 (fun v w => ftN A P S M (2 ^ n - 1) n v w) ∧ PU h' (putN M n) := by
  have q : 2 ^ n ≤ 2 ^ 12 := Nat.pow_le_pow_right (by decide) mw.1
  have q1 : 1 ≤ 2 ^ n := Nat.one_le_two_pow
  obtain ⟨h', e, r⟩ := r_fitsBy hl hc hw hm mw hs (m := 2 ^ n - 1) (by omega)
  have m6 := hm.2.1
  have mn := mw.1
  exact ⟨h', by simp (disch := first | assumption | omega | decide) only [f_X12_fitsAll, SM, LI, ↓li_m1, nI_add, pk_mul, nn_sub, nn_m1, nn_div, nn_rem, nn_nz, nn_mod, nJ_l, lN_add, lN_mul, nn_tb1, nI_bt, nn_and, nn_or, nn_xor, nn_shr, nn_1shl, nn_31, il_p, il_n, it_p, it_n, ie_p, ie_n, ie_b, ie_b1, ie_m, ie_mm, it_m, it_m0, il_m0, bI_rZ, Option.bind_some, bd2_some, Nat.add_zero, Nat.zero_add, if_true, if_false, Bool.false_eq_true, eq_self, m6, e], r⟩
theorem ftN_lt (A : Nat → Nat) (P : Nat → Bool) (S : Nat → Nat → Nat → Nat → Nat) (M : Nat → Nat → Nat) (m n v w : Nat) : ftN A P S M m n v w < 16 := by
  unfold ftN
  split
  · exact fbN_lt A S M m v w n
  · decide
