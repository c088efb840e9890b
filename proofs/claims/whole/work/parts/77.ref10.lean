/-! ===== the least proof: the reference ===== -/
/-- the kinds by answer and world -/
def KB (h : aH) (A : Nat → Nat) (P : Nat → Bool) (S : Nat → Nat → Nat → Nat → Nat) (M : Nat → Nat → Nat) (n : Nat) : Prop := ∀ k w, k < n → w < A 2 → P w = true → h.2.1 131 (256 * k + w) = nI (kfN S (M k 0) (M k 1) w (M k 2))
theorem r_sureBy {h : aH} (hl : LAY h) {A : Nat → Nat} {P : Nat → Bool} {Q : Nat → Nat → Bool} (hc : CM h A P Q) (hw : WF A) {n d : Nat} {M : Nat → Nat → Nat} (hm : MM h n d M) (mw : MW A n d M) {S : Nat → Nat → Nat → Nat → Nat} (kb : KB h A P S M n) {q m : Nat} (hq : q < A 3) (how : Bool) (hm2 : m < 2147483648) : f_X12_isSureBy h 113 (nI m) (nI q) (bI how) = some (bI (prB A P (Q q) how S M n m)) := by
  obtain ⟨b0, b1, b2l, b2, b3, b4⟩ := wf_b hw
  obtain ⟨c0, c1, c2, c3, c4, cA⟩ := cm_e hc
  obtain ⟨m5, m6, mM⟩ := hm
  obtain ⟨mn, md, mk, mi⟩ := mw
  have e1 : ∀ w v, w < A 2 → P w = true → v < A 4 → f_X12_isSureBy_l79 h 113 (nI m) (nI q) (bI how) (nI w) (nI v) (nI (mayN A v)) (nI 0) = some (nI (fbN A S M m v w n)) := fun w v h1 hp hv => by
    refine for0 (body := fun zz : Int32 × Int32 => f_X12_isSureBy_b79 h 113 (nI m) (nI q) (bI how) (nI w) (nI v) zz.1 zz.2) (fun j => (nI (fbN A S M m v w j), nI j)) (n) (e := nI (fbN A S M m v w n)) (rfl) (by omega) (fun j hj => ?_) ?_
    · have mj := mk j hj
      have r0 := r_ofHeard hl (k := j) (i := 0) (by omega) (by decide)
      rw [mM j 0 hj (by decide)] at r0
      have e := kb j w hj h1 hp
      by_cases hb : m.testBit j = true
      · by_cases hx : M j 0 = v
        · subst hx
          simp (disch := first | assumption | omega | decide | ((repeat first | apply lyI | apply lyJ | apply lywI | apply lywJ | apply csI | apply csJ | apply cswI | apply cswJ); assumption)) only [f_X12_isSureBy_b79, f_X12_isSureBy_j163, f_X12_isSureBy_j156, f_X12_isSureBy_j148, f_X12_isSureBy_j132, f_X12_isSureBy_j40, SM, LI, ↓li_m1, nI_add, pk_mul, nn_sub, nn_m1, nn_div, nn_rem, nn_nz, nn_mod, nJ_l, lN_add, lN_mul, nn_tb1, nI_bt, nn_and, nn_or, nn_xor, nn_shr, nn_1shl, nn_31, il_p, il_n, it_p, it_n, ie_p, ie_n, ie_b, ie_b1, ie_m, ie_mm, it_m, it_m0, il_m0, bI_rZ, Option.bind_some, bd2_some, Nat.add_zero, Nat.zero_add, if_true, if_false, Bool.false_eq_true, eq_self, hI_R, hJ_R, m6, hb, bI_t, r0, e, fbN, and_self]
        · simp (disch := first | assumption | omega | decide | ((repeat first | apply lyI | apply lyJ | apply lywI | apply lywJ | apply csI | apply csJ | apply cswI | apply cswJ); assumption)) only [f_X12_isSureBy_b79, f_X12_isSureBy_j163, f_X12_isSureBy_j156, f_X12_isSureBy_j148, f_X12_isSureBy_j132, f_X12_isSureBy_j40, SM, LI, ↓li_m1, nI_add, pk_mul, nn_sub, nn_m1, nn_div, nn_rem, nn_nz, nn_mod, nJ_l, lN_add, lN_mul, nn_tb1, nI_bt, nn_and, nn_or, nn_xor, nn_shr, nn_1shl, nn_31, il_p, il_n, it_p, it_n, ie_p, ie_n, ie_b, ie_b1, ie_m, ie_mm, it_m, it_m0, il_m0, bI_rZ, Option.bind_some, bd2_some, Nat.add_zero, Nat.zero_add, if_true, if_false, Bool.false_eq_true, eq_self, hI_R, hJ_R, m6, hb, bI_t, r0, e, fbN, hx, and_false]
      · rw [Bool.not_eq_true] at hb
        simp (disch := first | assumption | omega | decide | ((repeat first | apply lyI | apply lyJ | apply lywI | apply lywJ | apply csI | apply csJ | apply cswI | apply cswJ); assumption)) only [f_X12_isSureBy_b79, f_X12_isSureBy_j163, f_X12_isSureBy_j156, f_X12_isSureBy_j148, f_X12_isSureBy_j132, f_X12_isSureBy_j40, SM, LI, ↓li_m1, nI_add, pk_mul, nn_sub, nn_m1, nn_div, nn_rem, nn_nz, nn_mod, nJ_l, lN_add, lN_mul, nn_tb1, nI_bt, nn_and, nn_or, nn_xor, nn_shr, nn_1shl, nn_31, il_p, il_n, it_p, it_n, ie_p, ie_n, ie_b, ie_b1, ie_m, ie_mm, it_m, it_m0, il_m0, bI_rZ, Option.bind_some, bd2_some, Nat.add_zero, Nat.zero_add, if_true, if_false, Bool.false_eq_true, eq_self, hI_R, hJ_R, m6, hb, bI_f, r0, e, fbN, false_and]
    · simp (disch := first | assumption | omega | decide | ((repeat first | apply lyI | apply lyJ | apply lywI | apply lywJ | apply csI | apply csJ | apply cswI | apply cswJ); assumption)) only [f_X12_isSureBy_b79, f_X12_isSureBy_j163, f_X12_isSureBy_j156, f_X12_isSureBy_j148, f_X12_isSureBy_j132, f_X12_isSureBy_j40, SM, LI, ↓li_m1, nI_add, pk_mul, nn_sub, nn_m1, nn_div, nn_rem, nn_nz, nn_mod, nJ_l, lN_add, lN_mul, nn_tb1, nI_bt, nn_and, nn_or, nn_xor, nn_shr, nn_1shl, nn_31, il_p, il_n, it_p, it_n, ie_p, ie_n, ie_b, ie_b1, ie_m, ie_mm, it_m, it_m0, il_m0, bI_rZ, Option.bind_some, bd2_some, Nat.add_zero, Nat.zero_add, if_true, if_false, Bool.false_eq_true, eq_self, hI_R, hJ_R, m6]
  have e2 : ∀ w, w < A 2 → P w = true → f_X12_isSureBy_l52 h 113 (nI m) (nI q) (bI how) (nI w) (nI 1) (nI 0) = some (bI (svB A S M n m w)) := fun w h1 hp => by
    have : ∃ e, f_X12_isSureBy_l52 h 113 (nI m) (nI q) (bI how) (nI w) (nI 1) (nI 0) = some e ∧ e = bI (svB A S M n m w) := by
      refine whl0 (fun i (s : Int32 × Int32) => s = (bI (allB (fun v => fbN A S M m v w n != 0) i), nI i)) _ (A 4) (by omega) rfl ?_
      rintro i _ rfl hi
      rcases Nat.lt_or_ge i (A 4) with qi | qi
      · rcases (Bool.eq_false_or_eq_true (allB (fun v => fbN A S M m v w n != 0) i)).symm with ha | ha
        · refine Or.inr ⟨bI false, by simp (disch := first | assumption | omega | decide | ((repeat first | apply lyI | apply lyJ | apply lywI | apply lywJ | apply csI | apply csJ | apply cswI | apply cswJ); assumption)) only [f_X12_isSureBy_b52, f_X12_isSureBy_j163, f_X12_isSureBy_j156, f_X12_isSureBy_j148, f_X12_isSureBy_j132, f_X12_isSureBy_j40, SM, LI, ↓li_m1, nI_add, pk_mul, nn_sub, nn_m1, nn_div, nn_rem, nn_nz, nn_mod, nJ_l, lN_add, lN_mul, nn_tb1, nI_bt, nn_and, nn_or, nn_xor, nn_shr, nn_1shl, nn_31, il_p, il_n, it_p, it_n, ie_p, ie_n, ie_b, ie_b1, ie_m, ie_mm, it_m, it_m0, il_m0, bI_rZ, Option.bind_some, bd2_some, Nat.add_zero, Nat.zero_add, if_true, if_false, Bool.false_eq_true, eq_self, hI_R, hJ_R, c4, ha, bI_f], ?_⟩
          rw [show svB A S M n m w = false from allB_mono ha (by omega)]
        · refine Or.inl ⟨_, ?_, qi, rfl⟩
          have r := r_mayBe hl hc hw qi
          have r2 := e1 w i h1 hp qi
          have fl := fbN_lt A S M m i w n
          by_cases hz : fbN A S M m i w n = 0
          · have : allB (fun v => fbN A S M m v w n != 0) (i + 1) = false := by
              show (_ && (fbN A S M m i w n != 0)) = false
              rw [hz]
              simp
            rw [this]
            simp (disch := first | assumption | omega | decide | ((repeat first | apply lyI | apply lyJ | apply lywI | apply lywJ | apply csI | apply csJ | apply cswI | apply cswJ); assumption)) only [f_X12_isSureBy_b52, f_X12_isSureBy_j163, f_X12_isSureBy_j156, f_X12_isSureBy_j148, f_X12_isSureBy_j132, f_X12_isSureBy_j40, SM, LI, ↓li_m1, nI_add, pk_mul, nn_sub, nn_m1, nn_div, nn_rem, nn_nz, nn_mod, nJ_l, lN_add, lN_mul, nn_tb1, nI_bt, nn_and, nn_or, nn_xor, nn_shr, nn_1shl, nn_31, il_p, il_n, it_p, it_n, ie_p, ie_n, ie_b, ie_b1, ie_m, ie_mm, it_m, it_m0, il_m0, bI_rZ, Option.bind_some, bd2_some, Nat.add_zero, Nat.zero_add, if_true, if_false, Bool.false_eq_true, eq_self, hI_R, hJ_R, c4, ha, bI_t, bI_f, r, r2, hz]
          · have : allB (fun v => fbN A S M m v w n != 0) (i + 1) = true := by
              show (_ && (fbN A S M m i w n != 0)) = true
              rw [ha]
              simpa using hz
            rw [this]
            simp (disch := first | assumption | omega | decide | ((repeat first | apply lyI | apply lyJ | apply lywI | apply lywJ | apply csI | apply csJ | apply cswI | apply cswJ); assumption)) only [f_X12_isSureBy_b52, f_X12_isSureBy_j163, f_X12_isSureBy_j156, f_X12_isSureBy_j148, f_X12_isSureBy_j132, f_X12_isSureBy_j40, SM, LI, ↓li_m1, nI_add, pk_mul, nn_sub, nn_m1, nn_div, nn_rem, nn_nz, nn_mod, nJ_l, lN_add, lN_mul, nn_tb1, nI_bt, nn_and, nn_or, nn_xor, nn_shr, nn_1shl, nn_31, il_p, il_n, it_p, it_n, ie_p, ie_n, ie_b, ie_b1, ie_m, ie_mm, it_m, it_m0, il_m0, bI_rZ, Option.bind_some, bd2_some, Nat.add_zero, Nat.zero_add, if_true, if_false, Bool.false_eq_true, eq_self, hI_R, hJ_R, c4, ha, bI_t, r, r2]
      · obtain rfl : i = A 4 := by omega
        exact Or.inr ⟨bI (allB (fun v => fbN A S M m v w n != 0) (A 4)), by simp (disch := first | assumption | omega | decide | ((repeat first | apply lyI | apply lyJ | apply lywI | apply lywJ | apply csI | apply csJ | apply cswI | apply cswJ); assumption)) only [f_X12_isSureBy_b52, f_X12_isSureBy_j163, f_X12_isSureBy_j156, f_X12_isSureBy_j148, f_X12_isSureBy_j132, f_X12_isSureBy_j40, SM, LI, ↓li_m1, nI_add, pk_mul, nn_sub, nn_m1, nn_div, nn_rem, nn_nz, nn_mod, nJ_l, lN_add, lN_mul, nn_tb1, nI_bt, nn_and, nn_or, nn_xor, nn_shr, nn_1shl, nn_31, il_p, il_n, it_p, it_n, ie_p, ie_n, ie_b, ie_b1, ie_m, ie_mm, it_m, it_m0, il_m0, bI_rZ, Option.bind_some, bd2_some, Nat.add_zero, Nat.zero_add, if_true, if_false, Bool.false_eq_true, eq_self, hI_R, hJ_R, c4], rfl⟩
    obtain ⟨_, x1, rfl⟩ := this
    exact x1
  have e3 : f_X12_isSureBy_l3 h 113 (nI m) (nI q) (bI how) (nI 0) = some (match firstB (fun w => agB P (Q q) how w && svB A S M n m w) (A 2) with | some _ => .inl () | none => .inr ()) := by
    have bd : ∀ j, j < A 2 → f_X12_isSureBy_b3 h 113 (nI m) (nI q) (bI how) (nI j) = if (agB P (Q q) how j && svB A S M n m j) = true then some (.inr (.inl ())) else some (.inl (nI (j + 1))) := fun j hj => by
      have r1 := r_poss hl hc (w := j) (by omega)
      have r2 := r_isIn hl hc (q := q) (w := j) (by omega) (by omega)
      rcases (Bool.eq_false_or_eq_true (P j)).symm with hp | hp
      · rw [hp] at r1
        rw [if_neg (by unfold agB; rw [hp]; simp)]
        simp (disch := first | assumption | omega | decide | ((repeat first | apply lyI | apply lyJ | apply lywI | apply lywJ | apply csI | apply csJ | apply cswI | apply cswJ); assumption)) only [f_X12_isSureBy_b3, f_X12_isSureBy_j163, SM, LI, ↓li_m1, nI_add, pk_mul, nn_sub, nn_m1, nn_div, nn_rem, nn_nz, nn_mod, nJ_l, lN_add, lN_mul, nn_tb1, nI_bt, nn_and, nn_or, nn_xor, nn_shr, nn_1shl, nn_31, il_p, il_n, it_p, it_n, ie_p, ie_n, ie_b, ie_b1, ie_m, ie_mm, it_m, it_m0, il_m0, bI_rZ, Option.bind_some, bd2_some, Nat.add_zero, Nat.zero_add, if_true, if_false, Bool.false_eq_true, eq_self, hI_R, hJ_R, c2, r1, bI_f]
      · rw [hp] at r1
        have e2' := e2 j hj hp
        have ag : agB P (Q q) how j = (Q q j != how) := by unfold agB; rw [hp, Bool.true_and]
        rw [ag]
        cases how <;> cases hq : Q q j <;> rw [hq] at r2 <;> rcases (Bool.eq_false_or_eq_true (svB A S M n m j)).symm with hv | hv <;> rw [hv] at e2' ⊢ <;> simp only [bI_f, bI_t] at e2' ⊢ <;> simp (disch := first | assumption | omega | decide | ((repeat first | apply lyI | apply lyJ | apply lywI | apply lywJ | apply csI | apply csJ | apply cswI | apply cswJ); assumption)) only [f_X12_isSureBy_b3, f_X12_isSureBy_j163, f_X12_isSureBy_j40, f_X12_isSureBy_j156, SM, LI, ↓li_m1, nI_add, pk_mul, nn_sub, nn_m1, nn_div, nn_rem, nn_nz, nn_mod, nJ_l, lN_add, lN_mul, nn_tb1, nI_bt, nn_and, nn_or, nn_xor, nn_shr, nn_1shl, nn_31, il_p, il_n, it_p, it_n, ie_p, ie_n, ie_b, ie_b1, ie_m, ie_mm, it_m, it_m0, il_m0, bI_rZ, Option.bind_some, bd2_some, Nat.add_zero, Nat.zero_add, if_true, if_false, Bool.false_eq_true, eq_self, hI_R, hJ_R, c2, r1, r2, e2', bI_t, bI_f] <;> rfl
    refine srch (fun j => nI j) (fun w => agB P (Q q) how w && svB A S M n m w) (A 2) (fun _ => (Sum.inl () : Unit ⊕ Unit)) (Sum.inr ()) rfl (by omega) (fun j hj hx => ?_) (fun j hj hx => ?_) ?_
    · show f_X12_isSureBy_b3 h 113 (nI m) (nI q) (bI how) (nI j) = _
      rw [bd j hj, if_neg (by rw [hx]; decide)]
    · show f_X12_isSureBy_b3 h 113 (nI m) (nI q) (bI how) (nI j) = _
      rw [bd j hj, if_pos hx]
    · simp (disch := first | assumption | omega | decide | ((repeat first | apply lyI | apply lyJ | apply lywI | apply lywJ | apply csI | apply csJ | apply cswI | apply cswJ); assumption)) only [f_X12_isSureBy_b3, SM, LI, ↓li_m1, nI_add, pk_mul, nn_sub, nn_m1, nn_div, nn_rem, nn_nz, nn_mod, nJ_l, lN_add, lN_mul, nn_tb1, nI_bt, nn_and, nn_or, nn_xor, nn_shr, nn_1shl, nn_31, il_p, il_n, it_p, it_n, ie_p, ie_n, ie_b, ie_b1, ie_m, ie_mm, it_m, it_m0, il_m0, bI_rZ, Option.bind_some, bd2_some, Nat.add_zero, Nat.zero_add, if_true, if_false, Bool.false_eq_true, eq_self, hI_R, hJ_R, c2]
  unfold prB
  rw [anyB_first]
  cases hx : firstB (fun w => agB P (Q q) how w && svB A S M n m w) (A 2) with
  | none =>
    rw [hx] at e3
    simp (disch := first | assumption | omega | decide | ((repeat first | apply lyI | apply lyJ | apply lywI | apply lywJ | apply csI | apply csJ | apply cswI | apply cswJ); assumption)) only [f_X12_isSureBy, SM, LI, ↓li_m1, nI_add, pk_mul, nn_sub, nn_m1, nn_div, nn_rem, nn_nz, nn_mod, nJ_l, lN_add, lN_mul, nn_tb1, nI_bt, nn_and, nn_or, nn_xor, nn_shr, nn_1shl, nn_31, il_p, il_n, it_p, it_n, ie_p, ie_n, ie_b, ie_b1, ie_m, ie_mm, it_m, it_m0, il_m0, bI_rZ, Option.bind_some, bd2_some, Nat.add_zero, Nat.zero_add, if_true, if_false, Bool.false_eq_true, eq_self, hI_R, hJ_R, e3]
    rfl
  | some x =>
    rw [hx] at e3
    simp (disch := first | assumption | omega | decide | ((repeat first | apply lyI | apply lyJ | apply lywI | apply lywJ | apply csI | apply csJ | apply cswI | apply cswJ); assumption)) only [f_X12_isSureBy, SM, LI, ↓li_m1, nI_add, pk_mul, nn_sub, nn_m1, nn_div, nn_rem, nn_nz, nn_mod, nJ_l, lN_add, lN_mul, nn_tb1, nI_bt, nn_and, nn_or, nn_xor, nn_shr, nn_1shl, nn_31, il_p, il_n, it_p, it_n, ie_p, ie_n, ie_b, ie_b1, ie_m, ie_mm, it_m, it_m0, il_m0, bI_rZ, Option.bind_some, bd2_some, Nat.add_zero, Nat.zero_add, if_true, if_false, Bool.false_eq_true, eq_self, hI_R, hJ_R, e3]
    rfl
