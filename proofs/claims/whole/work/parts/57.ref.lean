/-! ===== the reference's case, and its small readers ===== -/
/-- the case data as the reference lays them: A the numbers of a slot, P the worlds that can be, Q the questions' worlds -/
def CMo (h : aH) (oa os : Nat) (A : Nat → Nat) (P : Nat → Bool) (Q : Nat → Nat → Bool) : Prop :=
  (∀ k, k < 100 → k ≠ 5 → k ≠ 6 → k ≠ 7 → h.2.1 114 (oa + k) = nI (A k)) ∧ (∀ w, w < 256 → (h.2.2.1 115 (os + w / 64)).toBitVec.getLsbD (w % 64) = P w) ∧ ∀ q w, q < 12 → w < 256 → (h.2.2.1 115 (os + 4 + 4 * q + w / 64)).toBitVec.getLsbD (w % 64) = Q q w
def stM (A : Nat → Nat) (t : Nat) : Nat → Nat
  | 0 => 1
  | n + 1 => stM A t n * A (60 + (t - 1 - n))
def strd (A : Nat → Nat) (f : Nat) : Nat := stM A (A 0) (A 0 - 1 - f)
def valN (A : Nat → Nat) (w f : Nat) : Nat := A (56 + f) + w / strd A f % A (60 + f)
/-- facts: how many values each has, where they begin -/
def WFf (A : Nat → Nat) : Prop := A 0 ≤ 4 ∧ A 1 ≤ 24 ∧ 1 ≤ A 2 ∧ A 2 ≤ 256 ∧ ∀ f, f < A 0 → 2 ≤ A (60 + f) ∧ A (60 + f) ≤ 6 ∧ A (56 + f) + A (60 + f) ≤ A 1
theorem stM_pos {A : Nat → Nat} {t : Nat} (ht : ∀ f, f < t → 2 ≤ A (60 + f)) : ∀ n, n ≤ t → 0 < stM A t n
  | 0, _ => Nat.one_pos
  | n + 1, h => Nat.mul_pos (stM_pos ht n (by omega)) (Nat.lt_of_lt_of_le (by decide) (ht (t - 1 - n) (by omega)))
theorem r_ofHeard {h : aH} (hl : LAY h) {k i : Nat} (hk : k < 12) (hi : i < 4) : f_X12_ofHeard h 113 (nI k) (nI i) = some (h.2.1 114 (100 + 4 * k + i)) := by
  simp (disch := first | assumption | omega | decide) only [f_X12_ofHeard, SM, LI, ↓li_m1, nI_add, pk_mul, nn_sub, nn_m1, nn_div, nn_rem, nn_nz, nn_mod, nJ_l, lN_add, lN_mul, nn_tb1, nI_bt, nn_and, nn_or, nn_xor, nn_shr, nn_1shl, nn_31, il_p, il_n, it_p, it_n, ie_p, ie_n, ie_b, ie_b1, ie_m, ie_mm, it_m, it_m0, il_m0, bI_rZ, Option.bind_some, bd2_some, Nat.add_zero, Nat.zero_add, if_true, if_false, Bool.false_eq_true, eq_self]
theorem r_ofWitness {h : aH} (hl : LAY h) {v i : Nat} (hk : v < 4) (hi : i < 6) : f_X12_ofWitness h 113 (nI v) (nI i) = some (h.2.1 114 (76 + 6 * v + i)) := by
  simp (disch := first | assumption | omega | decide) only [f_X12_ofWitness, SM, LI, ↓li_m1, nI_add, pk_mul, nn_sub, nn_m1, nn_div, nn_rem, nn_nz, nn_mod, nJ_l, lN_add, lN_mul, nn_tb1, nI_bt, nn_and, nn_or, nn_xor, nn_shr, nn_1shl, nn_31, il_p, il_n, it_p, it_n, ie_p, ie_n, ie_b, ie_b1, ie_m, ie_mm, it_m, it_m0, il_m0, bI_rZ, Option.bind_some, bd2_some, Nat.add_zero, Nat.zero_add, if_true, if_false, Bool.false_eq_true, eq_self]
theorem r_saysAs {h : aH} (hl : LAY h) {v q w k : Nat} (hv : v < 4) (hq : q < 12) (hw : w < 256) (hk : k < 4) : f_X12_saysAs h 113 (nI v) (nI q) (nI w) (nI k) = some (h.2.1 126 (4 * (256 * (12 * v + q) + w) + k)) := by
  simp (disch := first | assumption | omega | decide) only [f_X12_saysAs, SM, LI, ↓li_m1, nI_add, pk_mul, nn_sub, nn_m1, nn_div, nn_rem, nn_nz, nn_mod, nJ_l, lN_add, lN_mul, nn_tb1, nI_bt, nn_and, nn_or, nn_xor, nn_shr, nn_1shl, nn_31, il_p, il_n, it_p, it_n, ie_p, ie_n, ie_b, ie_b1, ie_m, ie_mm, it_m, it_m0, il_m0, bI_rZ, Option.bind_some, bd2_some, Nat.add_zero, Nat.zero_add, if_true, if_false, Bool.false_eq_true, eq_self]
theorem r_valueIn {h : aH} (hl : LAY h) {oa os : Nat} {A : Nat → Nat} {P : Nat → Bool} {Q : Nat → Nat → Bool} (hc : CMo h oa os A P Q) (hw : WFf A) (ho : oa ≤ 1600) {w f : Nat} (h1 : w < 256) (h2 : f < A 0) : f_X12_valueIn h 113 (nI oa) (nI w) (nI f) = some (nI (valN A w f)) := by
  have a0 := hc.1 0 (by decide) (by decide) (by decide) (by decide)
  rw [Nat.add_zero] at a0
  have b0 := hw.1
  have st2 : ∀ g, g < A 0 → 2 ≤ A (60 + g) := fun g hg => (hw.2.2.2.2 g hg).1
  have e1 : f_X12_valueIn_l15 h 113 (nI oa) (nI f) (nI w) (nI (A 0 - 1)) = some (nI (w / strd A f)) := by
    refine for0 (body := fun zz : Int32 × Int32 => f_X12_valueIn_b15 h 113 (nI oa) (nI f) zz.1 zz.2) (fun j => (nI (w / stM A (A 0) j), nI (A 0 - 1 - j))) (A 0 - 1 - f) (e := nI (w / strd A f)) (by rw [stM, Nat.div_one, Nat.sub_zero]) (by omega) (fun j hj => ?_) ?_
    · have e := hc.1 (60 + (A 0 - 1 - j)) (by omega) (by omega) (by omega) (by omega)
      have q := hw.2.2.2.2 (A 0 - 1 - j) (by omega)
      have s0 := stM_pos st2 j (by omega)
      have d1 : w / stM A (A 0) j < 256 := Nat.lt_of_le_of_lt (Nat.div_le_self _ _) h1
      rw [← Nat.add_assoc] at e
      simp (disch := first | assumption | omega | decide) only [f_X12_valueIn_b15, SM, LI, ↓li_m1, nI_add, pk_mul, nn_sub, nn_m1, nn_div, nn_rem, nn_nz, nn_mod, nJ_l, lN_add, lN_mul, nn_tb1, nI_bt, nn_and, nn_or, nn_xor, nn_shr, nn_1shl, nn_31, il_p, il_n, it_p, it_n, ie_p, ie_n, ie_b, ie_b1, ie_m, ie_mm, it_m, it_m0, il_m0, bI_rZ, Option.bind_some, bd2_some, Nat.add_zero, Nat.zero_add, if_true, if_false, Bool.false_eq_true, eq_self, e]
      rw [Nat.div_div_eq_div_mul]
      rfl
    · simp (disch := first | assumption | omega | decide) only [f_X12_valueIn_b15, SM, LI, ↓li_m1, nI_add, pk_mul, nn_sub, nn_m1, nn_div, nn_rem, nn_nz, nn_mod, nJ_l, lN_add, lN_mul, nn_tb1, nI_bt, nn_and, nn_or, nn_xor, nn_shr, nn_1shl, nn_31, il_p, il_n, it_p, it_n, ie_p, ie_n, ie_b, ie_b1, ie_m, ie_mm, it_m, it_m0, il_m0, bI_rZ, Option.bind_some, bd2_some, Nat.add_zero, Nat.zero_add, if_true, if_false, Bool.false_eq_true, eq_self]
      rfl
  have e2 := hc.1 (56 + f) (by omega) (by omega) (by omega) (by omega)
  have e3 := hc.1 (60 + f) (by omega) (by omega) (by omega) (by omega)
  have q := hw.2.2.2.2 f h2
  have d1 : w / strd A f < 256 := Nat.lt_of_le_of_lt (Nat.div_le_self _ _) h1
  rw [← Nat.add_assoc] at e2 e3
  simp (disch := first | assumption | omega | decide) only [f_X12_valueIn, SM, LI, ↓li_m1, nI_add, pk_mul, nn_sub, nn_m1, nn_div, nn_rem, nn_nz, nn_mod, nJ_l, lN_add, lN_mul, nn_tb1, nI_bt, nn_and, nn_or, nn_xor, nn_shr, nn_1shl, nn_31, il_p, il_n, it_p, it_n, ie_p, ie_n, ie_b, ie_b1, ie_m, ie_mm, it_m, it_m0, il_m0, bI_rZ, Option.bind_some, bd2_some, Nat.add_zero, Nat.zero_add, if_true, if_false, Bool.false_eq_true, eq_self, a0, e1, e2, e3]
  rfl
