/-! ===== the reference's readers of the present case ===== -/
/-- the present case: slot 0 -/
def CM (h : aH) (A : Nat → Nat) (P : Nat → Bool) (Q : Nat → Nat → Bool) : Prop := CMo h 0 0 A P Q
theorem cm_e {h : aH} {A : Nat → Nat} {P : Nat → Bool} {Q : Nat → Nat → Bool} (hc : CM h A P Q) : h.2.1 114 0 = nI (A 0) ∧ h.2.1 114 1 = nI (A 1) ∧ h.2.1 114 2 = nI (A 2) ∧ h.2.1 114 3 = nI (A 3) ∧ h.2.1 114 4 = nI (A 4) ∧ ∀ k, 8 ≤ k → k < 100 → h.2.1 114 k = nI (A k) := by
  have e : ∀ k, k < 100 → k ≠ 5 → k ≠ 6 → k ≠ 7 → h.2.1 114 k = nI (A k) := fun k h1 h2 h3 h4 => by
    have := hc.1 k h1 h2 h3 h4
    rwa [Nat.zero_add] at this
  exact ⟨e 0 (by decide) (by decide) (by decide) (by decide), e 1 (by decide) (by decide) (by decide) (by decide), e 2 (by decide) (by decide) (by decide) (by decide), e 3 (by decide) (by decide) (by decide) (by decide), e 4 (by decide) (by decide) (by decide) (by decide), fun k h1 h2 => e k h2 (by omega) (by omega) (by omega)⟩
/-- the bounds of a case's numbers -/
def WF (A : Nat → Nat) : Prop := WFf A ∧ A 3 ≤ 12 ∧ A 4 ≤ 4 ∧ (∀ v, v < A 1 → A (8 + v) < A 0 ∧ 1 ≤ A (32 + v) ∧ A (32 + v) ≤ 9) ∧ (∀ q, q < A 3 → A (64 + q) ≤ 99) ∧ ∀ v, v < A 4 → (∀ k, k < 4 → A (76 + 6 * v + k) ≤ 16) ∧ sumN (fun k => A (76 + 6 * v + k)) 4 = 16 ∧ A (76 + 6 * v + 4) < 16 ∧ A (76 + 6 * v + 5) < 4096
theorem wf_b {A : Nat → Nat} (hw : WF A) : A 0 ≤ 4 ∧ A 1 ≤ 24 ∧ 1 ≤ A 2 ∧ A 2 ≤ 256 ∧ A 3 ≤ 12 ∧ A 4 ≤ 4 := ⟨hw.1.1, hw.1.2.1, hw.1.2.2.1, hw.1.2.2.2.1, hw.2.1, hw.2.2.1⟩
theorem lcmp_e {x y : Int64} : (lg_cmp x y = nI 0) ↔ x = y := by
  unfold lg_cmp
  constructor
  · intro h
    by_cases h1 : x > y
    · rw [if_pos h1] at h
      exact absurd h (by decide)
    · rw [if_neg h1] at h
      by_cases h2 : x = y
      · exact h2
      · rw [if_neg h2] at h
        exact absurd h (by decide)
  · rintro rfl
    rw [if_neg (fun (e : x < x) => Int64.lt_irrefl e), if_pos rfl]
    rfl
theorem j_sm : ∀ k, k < 64 → (((nI k).toInt64 &&& 63).toBitVec.smod 64).toNat = k := by decide +kernel
theorem j_bit {x : Int64} {k : Nat} (hk : k < 64) : ((x >>> ((nI k).toInt64 &&& 63)) &&& 1 = 1) ↔ x.toBitVec.getLsbD k = true := by
  rw [← Int64.toBitVec_inj]
  have e1 : ((x >>> ((nI k).toInt64 &&& 63)) &&& 1).toBitVec = (x.toBitVec.sshiftRight k) &&& 1#64 := by
    rw [Int64.toBitVec_and, Int64.toBitVec_shiftRight, BitVec.sshiftRight', j_sm k hk]
    rfl
  rw [e1, show (1 : Int64).toBitVec = 1#64 from rfl]
  constructor
  · intro h
    have := congrArg (fun b => b.getLsbD 0) h
    simp only [BitVec.getLsbD_and, BitVec.getLsbD_sshiftRight] at this
    simpa [hk] using this
  · intro h
    apply BitVec.eq_of_getLsbD_eq
    intro i hi
    rw [BitVec.getLsbD_and, BitVec.getLsbD_sshiftRight]
    by_cases h0 : i = 0
    · subst h0
      simp [hk, h]
    · simp [BitVec.getLsbD_one, h0]
theorem r_inSet {h : aH} (hl : LAY h) {b w : Nat} (hb : b + w / 64 < 260) (hw : w < 256) : f_X12_inSet h 115 (nI b) (nI w) = some (bI ((h.2.2.1 115 (b + w / 64)).toBitVec.getLsbD (w % 64))) := by
  simp (disch := first | assumption | omega | decide) only [f_X12_inSet, SM, LI, ↓li_m1, nI_add, pk_mul, nn_sub, nn_m1, nn_div, nn_rem, nn_nz, nn_mod, lN_add, lN_mul, nn_tb1, nI_bt, nn_and, nn_or, nn_xor, nn_shr, nn_1shl, nn_31, il_p, il_n, it_p, it_n, ie_p, ie_n, ie_b, ie_b1, ie_m, ie_mm, it_m, it_m0, il_m0, bI_rZ, Option.bind_some, bd2_some, Nat.add_zero, Nat.zero_add, if_true, if_false, Bool.false_eq_true, eq_self, lcmp_e, j_bit (Nat.mod_lt w (show 64 > 0 by decide))]
  cases (h.2.2.1 115 (b + w / 64)).toBitVec.getLsbD (w % 64) <;> rfl
theorem r_poss {h : aH} (hl : LAY h) {A : Nat → Nat} {P : Nat → Bool} {Q : Nat → Nat → Bool} (hc : CM h A P Q) {w : Nat} (hw : w < 256) : f_X12_isPossible h 113 (nI w) = some (bI (P w)) := by
  have e := hc.2.1 w hw
  have r := r_inSet hl (b := 0) (w := w) (by omega) hw
  rw [e] at r
  simp (disch := first | assumption | omega | decide) only [f_X12_isPossible, SM, LI, ↓li_m1, nI_add, pk_mul, nn_sub, nn_m1, nn_div, nn_rem, nn_nz, nn_mod, nJ_l, lN_add, lN_mul, nn_tb1, nI_bt, nn_and, nn_or, nn_xor, nn_shr, nn_1shl, nn_31, il_p, il_n, it_p, it_n, ie_p, ie_n, ie_b, ie_b1, ie_m, ie_mm, it_m, it_m0, il_m0, bI_rZ, Option.bind_some, bd2_some, Nat.add_zero, Nat.zero_add, if_true, if_false, Bool.false_eq_true, eq_self, r]
theorem r_isIn {h : aH} (hl : LAY h) {A : Nat → Nat} {P : Nat → Bool} {Q : Nat → Nat → Bool} (hc : CM h A P Q) {q w : Nat} (hq : q < 12) (hw : w < 256) : f_X12_isIn h 113 (nI q) (nI w) = some (bI (Q q w)) := by
  have e := hc.2.2 q w hq hw
  have r := r_inSet hl (b := 4 + 4 * q) (w := w) (by omega) hw
  rw [Nat.zero_add] at e
  rw [e] at r
  simp (disch := first | assumption | omega | decide) only [f_X12_isIn, SM, LI, ↓li_m1, nI_add, pk_mul, nn_sub, nn_m1, nn_div, nn_rem, nn_nz, nn_mod, nJ_l, lN_add, lN_mul, nn_tb1, nI_bt, nn_and, nn_or, nn_xor, nn_shr, nn_1shl, nn_31, il_p, il_n, it_p, it_n, ie_p, ie_n, ie_b, ie_b1, ie_m, ie_mm, it_m, it_m0, il_m0, bI_rZ, Option.bind_some, bd2_some, Nat.add_zero, Nat.zero_add, if_true, if_false, Bool.false_eq_true, eq_self, r]
def kfI (f : Nat → Int32) (a : Int32) : Nat := orN (fun k => if f k = a then 2 ^ k else 0) 4
theorem r_kindsFor {h : aH} (hl : LAY h) {v q w : Nat} (hv : v < 4) (hq : q < 12) (hw : w < 256) (a : Int32) : f_X12_kindsFor h 113 (nI v) (nI q) (nI w) a = some (nI (kfI (fun k => h.2.1 126 (4 * (256 * (12 * v + q) + w) + k)) a)) := by
  have e : f_X12_kindsFor_l6 h 113 (nI v) (nI q) (nI w) a (nI 0) (nI 0) = some (nI (kfI (fun k => h.2.1 126 (4 * (256 * (12 * v + q) + w) + k)) a)) := by
    refine for0 (body := fun zz : Int32 × Int32 => f_X12_kindsFor_b6 h 113 (nI v) (nI q) (nI w) a zz.1 zz.2) (fun j => (nI (orN (fun k => if h.2.1 126 (4 * (256 * (12 * v + q) + w) + k) = a then 2 ^ k else 0) j), nI j)) (4) (e := nI (kfI (fun k => h.2.1 126 (4 * (256 * (12 * v + q) + w) + k)) a)) (rfl) (by decide) (fun j hj => ?_) ?_
    · have r := r_saysAs hl hv hq hw hj
      simp (disch := first | assumption | omega | decide) only [f_X12_kindsFor_b6, f_X12_kindsFor_j36, SM, LI, ↓li_m1, nI_add, pk_mul, nn_sub, nn_m1, nn_div, nn_rem, nn_nz, nn_mod, nJ_l, lN_add, lN_mul, nn_tb1, nI_bt, nn_and, nn_or, nn_xor, nn_shr, nn_1shl, nn_31, il_p, il_n, it_p, it_n, ie_p, ie_n, ie_b, ie_b1, ie_m, ie_mm, it_m, it_m0, il_m0, bI_rZ, Option.bind_some, bd2_some, Nat.add_zero, Nat.zero_add, if_true, if_false, Bool.false_eq_true, eq_self, r]
      by_cases hx : h.2.1 126 (4 * (256 * (12 * v + q) + w) + j) = a
      · simp only [orN, hx, if_true]
      · simp only [orN, hx, if_false]
    · simp (disch := first | assumption | omega | decide) only [f_X12_kindsFor_b6, SM, LI, ↓li_m1, nI_add, pk_mul, nn_sub, nn_m1, nn_div, nn_rem, nn_nz, nn_mod, nJ_l, lN_add, lN_mul, nn_tb1, nI_bt, nn_and, nn_or, nn_xor, nn_shr, nn_1shl, nn_31, il_p, il_n, it_p, it_n, ie_p, ie_n, ie_b, ie_b1, ie_m, ie_mm, it_m, it_m0, il_m0, bI_rZ, Option.bind_some, bd2_some, Nat.add_zero, Nat.zero_add, if_true, if_false, Bool.false_eq_true, eq_self]
      rfl
  simp (disch := first | assumption | omega | decide) only [f_X12_kindsFor, SM, LI, ↓li_m1, nI_add, pk_mul, nn_sub, nn_m1, nn_div, nn_rem, nn_nz, nn_mod, nJ_l, lN_add, lN_mul, nn_tb1, nI_bt, nn_and, nn_or, nn_xor, nn_shr, nn_1shl, nn_31, il_p, il_n, it_p, it_n, ie_p, ie_n, ie_b, ie_b1, ie_m, ie_mm, it_m, it_m0, il_m0, bI_rZ, Option.bind_some, bd2_some, Nat.add_zero, Nat.zero_add, if_true, if_false, Bool.false_eq_true, eq_self, e]
def mayN (A : Nat → Nat) (v : Nat) : Nat := orN (fun k => if A (76 + 6 * v + k) = 0 then 0 else 2 ^ k) 4
theorem r_mayBe {h : aH} (hl : LAY h) {A : Nat → Nat} {P : Nat → Bool} {Q : Nat → Nat → Bool} (hc : CM h A P Q) (hw : WF A) {v : Nat} (hv : v < A 4) : f_X12_mayBe h 113 (nI v) = some (nI (mayN A v)) := by
  obtain ⟨b0, b1, b2l, b2, b3, b4⟩ := wf_b hw
  have q := (hw.2.2.2.2.2 v hv).1
  have e : f_X12_mayBe_l4 h 113 (nI v) (nI 0) (nI 0) = some (nI (mayN A v)) := by
    refine for0 (body := fun zz : Int32 × Int32 => f_X12_mayBe_b4 h 113 (nI v) zz.1 zz.2) (fun j => (nI (orN (fun k => if A (76 + 6 * v + k) = 0 then 0 else 2 ^ k) j), nI j)) (4) (e := nI (mayN A v)) (rfl) (by decide) (fun j hj => ?_) ?_
    · have r := r_ofWitness hl (v := v) (i := j) (by omega) (by omega)
      rw [(cm_e hc).2.2.2.2.2 _ (by omega) (by omega)] at r
      have q2 := q j hj
      by_cases hx : A (76 + 6 * v + j) = 0
      · simp (disch := first | assumption | omega | decide) only [f_X12_mayBe_b4, f_X12_mayBe_j26, SM, LI, ↓li_m1, nI_add, pk_mul, nn_sub, nn_m1, nn_div, nn_rem, nn_nz, nn_mod, nJ_l, lN_add, lN_mul, nn_tb1, nI_bt, nn_and, nn_or, nn_xor, nn_shr, nn_1shl, nn_31, il_p, il_n, it_p, it_n, ie_p, ie_n, ie_b, ie_b1, ie_m, ie_mm, it_m, it_m0, il_m0, bI_rZ, Option.bind_some, bd2_some, Nat.add_zero, Nat.zero_add, if_true, if_false, Bool.false_eq_true, eq_self, r]
        simp only [orN, hx, if_true]
      · simp (disch := first | assumption | omega | decide) only [f_X12_mayBe_b4, f_X12_mayBe_j26, SM, LI, ↓li_m1, nI_add, pk_mul, nn_sub, nn_m1, nn_div, nn_rem, nn_nz, nn_mod, nJ_l, lN_add, lN_mul, nn_tb1, nI_bt, nn_and, nn_or, nn_xor, nn_shr, nn_1shl, nn_31, il_p, il_n, it_p, it_n, ie_p, ie_n, ie_b, ie_b1, ie_m, ie_mm, it_m, it_m0, il_m0, bI_rZ, Option.bind_some, bd2_some, Nat.add_zero, Nat.zero_add, if_true, if_false, Bool.false_eq_true, eq_self, r]
        simp only [orN, hx, if_false]
    · simp (disch := first | assumption | omega | decide) only [f_X12_mayBe_b4, SM, LI, ↓li_m1, nI_add, pk_mul, nn_sub, nn_m1, nn_div, nn_rem, nn_nz, nn_mod, nJ_l, lN_add, lN_mul, nn_tb1, nI_bt, nn_and, nn_or, nn_xor, nn_shr, nn_1shl, nn_31, il_p, il_n, it_p, it_n, ie_p, ie_n, ie_b, ie_b1, ie_m, ie_mm, it_m, it_m0, il_m0, bI_rZ, Option.bind_some, bd2_some, Nat.add_zero, Nat.zero_add, if_true, if_false, Bool.false_eq_true, eq_self]
      rfl
  simp (disch := first | assumption | omega | decide) only [f_X12_mayBe, SM, LI, ↓li_m1, nI_add, pk_mul, nn_sub, nn_m1, nn_div, nn_rem, nn_nz, nn_mod, nJ_l, lN_add, lN_mul, nn_tb1, nI_bt, nn_and, nn_or, nn_xor, nn_shr, nn_1shl, nn_31, il_p, il_n, it_p, it_n, ie_p, ie_n, ie_b, ie_b1, ie_m, ie_mm, it_m, it_m0, il_m0, bI_rZ, Option.bind_some, bd2_some, Nat.add_zero, Nat.zero_add, if_true, if_false, Bool.false_eq_true, eq_self, e]
