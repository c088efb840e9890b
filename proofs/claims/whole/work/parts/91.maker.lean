/-! ===== what is answered: the class's maker ===== -/
/-- the case without its answers -/
def CB (h : aH) (c : Nat) (A : Nat → Nat) (P : Nat → Bool) (Q : Nat → Nat → Bool) : Prop :=
  (h.2.1 c 12 = nI (A 0) ∧ h.2.1 c 13 = nI (A 1) ∧ h.2.1 c 14 = nI (A 2) ∧ h.2.1 c 15 = nI (cntB P (A 2)) ∧ h.2.1 c 16 = nI (A 3) ∧ h.2.1 c 17 = nI (A 4) ∧ h.2.1 c 18 = nI (pk4 (myN A))) ∧
  (∀ f, f < A 0 → h.2.1 (c + 5) f = nI (A (56 + f)) ∧ h.2.1 (c + 5) (f + 1) = nI (A (56 + f) + A (60 + f)) ∧ h.2.1 (c + 6) f = nI (strd A f)) ∧
  (∀ v, v < A 1 → h.2.1 (c + 7) v = nI (A (8 + v)) ∧ h.2.1 (c + 8) v = nI (A (32 + v))) ∧
  (∀ w, w < A 2 → h.2.1 (c + 9) w = nI (if P w = true then wtN A w else 0) ∧ h.2.1 (c + 10) w = nI (qwN A Q w (A 3))) ∧
  (∀ q, q < A 3 → h.2.1 (c + 11) q = nI (A (64 + q))) ∧
  (∀ v, v < A 4 → (∀ k, k < 4 → h.2.1 (c + 12) (v * 4 + k) = nI (A (76 + 6 * v + k))) ∧ h.2.1 (c + 13) v = nI (A (76 + 6 * v + 4)) ∧ h.2.1 (c + 14) v = nI (A (76 + 6 * v + 5)))
theorem cb_cc {h : aH} {c : Nat} {A : Nat → Nat} {P : Nat → Bool} {Q : Nat → Nat → Bool} {S : Nat → Nat → Nat → Nat → Nat} (b : CB h c A P Q) (a : ∀ v q w, v < A 4 → q < A 3 → w < A 2 → P w = true → h.2.1 (c + 15) ((v * 12 + q) * 256 + w) = nI (pk5 (S v q w)) ∧ ∀ k, k < 4 → S v q w k < 2 * A 3) : CC h c A P Q S := ⟨b.1, b.2.1, b.2.2.1, b.2.2.2.1, b.2.2.2.2.1, b.2.2.2.2.2, a⟩
/-- kept by stores outside, and by stores into the answers -/
theorem cb_up {h h' : aH} {c : Nat} {A : Nat → Nat} {P : Nat → Bool} {Q : Nat → Nat → Bool} (e : ∀ j, j < 15 → h'.2.1 (c + j) = h.2.1 (c + j)) (b : CB h c A P Q) : CB h' c A P Q := by
  have e0 := e 0 (by decide)
  rw [Nat.add_zero] at e0
  unfold CB
  rw [e0, e 5 (by decide), e 6 (by decide), e 7 (by decide), e 8 (by decide), e 9 (by decide), e 10 (by decide), e 11 (by decide), e 12 (by decide), e 13 (by decide), e 14 (by decide)]
  exact b
theorem b_canBe {h : aH} {c : Nat} (hs : CS h c) {A : Nat → Nat} {P : Nat → Bool} {Q : Nat → Nat → Bool} (hc : CB h c A P Q) (hw : WF A) {w : Nat} (h1 : w < A 2) : f_X1_canBe h c (nI w) = some (bI (P w)) := by
  obtain ⟨b0, b1, b2l, b2, b3, b4⟩ := wf_b hw
  have e := (hc.2.2.2.1 w h1).1
  have q := wtN_le hw (w := w)
  cases hp : P w
  · rw [hp] at e
    simp (disch := first | assumption | omega | decide | ((repeat first | apply lyI | apply lyJ | apply lywI | apply lywJ | apply csI | apply csJ | apply cswI | apply cswJ); assumption)) only [f_X1_canBe, SC, LI, ↓li_m1, nI_add, pk_mul, nn_sub, nn_m1, nn_div, nn_rem, nn_nz, nn_mod, nJ_l, lN_add, lN_mul, nn_tb1, nI_bt, nn_and, nn_or, nn_xor, nn_shr, nn_1shl, nn_31, il_p, il_n, it_p, it_n, ie_p, ie_n, ie_b, ie_b1, ie_m, ie_mm, it_m, it_m0, il_m0, bI_rZ, Option.bind_some, bd2_some, Nat.add_zero, Nat.zero_add, if_true, if_false, Bool.false_eq_true, eq_self, hI_R, hJ_R, ng_t, ng_e, e]
    rfl
  · rw [hp, if_pos rfl] at e
    simp (disch := first | assumption | omega | decide | ((repeat first | apply lyI | apply lyJ | apply lywI | apply lywJ | apply csI | apply csJ | apply cswI | apply cswJ); assumption)) only [f_X1_canBe, SC, LI, ↓li_m1, nI_add, pk_mul, nn_sub, nn_m1, nn_div, nn_rem, nn_nz, nn_mod, nJ_l, lN_add, lN_mul, nn_tb1, nI_bt, nn_and, nn_or, nn_xor, nn_shr, nn_1shl, nn_31, il_p, il_n, it_p, it_n, ie_p, ie_n, ie_b, ie_b1, ie_m, ie_mm, it_m, it_m0, il_m0, bI_rZ, Option.bind_some, bd2_some, Nat.add_zero, Nat.zero_add, if_true, if_false, Bool.false_eq_true, eq_self, hI_R, hJ_R, ng_t, ng_e, e]
    rfl
theorem b_inQ {h : aH} {c : Nat} (hs : CS h c) {A : Nat → Nat} {P : Nat → Bool} {Q : Nat → Nat → Bool} (hc : CB h c A P Q) (hw : WF A) {q w : Nat} (h1 : w < A 2) (hq : q < A 3) : f_X1_inQuestion h c (nI q) (nI w) = some (bI (Q q w)) := by
  obtain ⟨b0, b1, b2l, b2, b3, b4⟩ := wf_b hw
  have e := (hc.2.2.2.1 w h1).2
  have l1 := qwN_lt A Q w (A 3)
  have l2 : 2 ^ A 3 ≤ 2 ^ 12 := Nat.pow_le_pow_right (by decide) b3
  have l3 := qwN_bit A Q w hq
  simp (disch := first | assumption | omega | decide | ((repeat first | apply lyI | apply lyJ | apply lywI | apply lywJ | apply csI | apply csJ | apply cswI | apply cswJ); assumption)) only [f_X1_inQuestion, SC, LI, ↓li_m1, nI_add, pk_mul, nn_sub, nn_m1, nn_div, nn_rem, nn_nz, nn_mod, nJ_l, lN_add, lN_mul, nn_tb1, nI_bt, nn_and, nn_or, nn_xor, nn_shr, nn_1shl, nn_31, il_p, il_n, it_p, it_n, ie_p, ie_n, ie_b, ie_b1, ie_m, ie_mm, it_m, it_m0, il_m0, bI_rZ, Option.bind_some, bd2_some, Nat.add_zero, Nat.zero_add, if_true, if_false, Bool.false_eq_true, eq_self, hI_R, hJ_R, ng_t, ng_e, e, l3]
theorem b_valueIn {h : aH} {c : Nat} (hs : CS h c) {A : Nat → Nat} {P : Nat → Bool} {Q : Nat → Nat → Bool} (hc : CB h c A P Q) (hw : WF A) {w f : Nat} (h1 : w < A 2) (hf : f < A 0) : f_X1_valueIn h c (nI w) (nI f) = some (nI (valN A w f)) := by
  obtain ⟨b0, b1, b2l, b2, b3, b4⟩ := wf_b hw
  obtain ⟨e1, e2, e3⟩ := hc.2.1 f hf
  obtain ⟨q1, q2, q3⟩ := hw.1.2.2.2.2 f hf
  have s0 : 0 < strd A f := stM_pos (fun g hg => (hw.1.2.2.2.2 g hg).1) _ (by omega)
  have s1 := strd_le hw f
  have d1 : w / strd A f < 256 := Nat.lt_of_le_of_lt (Nat.div_le_self _ _) (by omega)
  simp (disch := first | assumption | omega | decide | ((repeat first | apply lyI | apply lyJ | apply lywI | apply lywJ | apply csI | apply csJ | apply cswI | apply cswJ); assumption)) only [f_X1_valueIn, SC, LI, ↓li_m1, nI_add, pk_mul, nn_sub, nn_m1, nn_div, nn_rem, nn_nz, nn_mod, nJ_l, lN_add, lN_mul, nn_tb1, nI_bt, nn_and, nn_or, nn_xor, nn_shr, nn_1shl, nn_31, il_p, il_n, it_p, it_n, ie_p, ie_n, ie_b, ie_b1, ie_m, ie_mm, it_m, it_m0, il_m0, bI_rZ, Option.bind_some, bd2_some, Nat.add_zero, Nat.zero_add, if_true, if_false, Bool.false_eq_true, eq_self, hI_R, hJ_R, ng_t, ng_e, e1, e2, e3, Nat.add_sub_cancel_left]
  rfl
/-! mixed numbers -/
def dgN (A : Nat → Nat) (w f : Nat) : Nat := w / strd A f % A (60 + f)
def ksN (A : Nat → Nat) (e : Nat → Nat) : Nat → Nat
  | 0 => 0
  | n + 1 => ksN A e n + e (A 0 - 1 - n) * stM A (A 0) n
theorem ks_lt {A : Nat → Nat} {e : Nat → Nat} (he : ∀ f, f < A 0 → e f < A (60 + f)) : ∀ n, n ≤ A 0 → ksN A e n < stM A (A 0) n
  | 0, _ => Nat.one_pos
  | n + 1, h => by
    have ih := ks_lt he n (by omega)
    have := he (A 0 - 1 - n) (by omega)
    show ksN A e n + e (A 0 - 1 - n) * stM A (A 0) n < stM A (A 0) n * A (60 + (A 0 - 1 - n))
    have h2 : (e (A 0 - 1 - n) + 1) * stM A (A 0) n ≤ A (60 + (A 0 - 1 - n)) * stM A (A 0) n := Nat.mul_le_mul_right _ (by omega)
    rw [Nat.add_mul, Nat.one_mul] at h2
    rw [Nat.mul_comm (stM A (A 0) n)]
    omega
theorem ks_inj {A : Nat → Nat} {e g : Nat → Nat} (he : ∀ f, f < A 0 → e f < A (60 + f)) (hg : ∀ f, f < A 0 → g f < A (60 + f)) : ∀ n, n ≤ A 0 → ksN A e n = ksN A g n → ∀ f, A 0 - n ≤ f → f < A 0 → e f = g f
  | 0, _, _, f, h1, h2 => absurd h2 (by omega)
  | n + 1, hn, h, f, h1, h2 => by
    have l1 := ks_lt he n (by omega)
    have l2 := ks_lt hg n (by omega)
    have h' : ksN A e n + e (A 0 - 1 - n) * stM A (A 0) n = ksN A g n + g (A 0 - 1 - n) * stM A (A 0) n := h
    have d1 : (ksN A e n + e (A 0 - 1 - n) * stM A (A 0) n) / stM A (A 0) n = e (A 0 - 1 - n) := by
      rw [Nat.add_mul_div_right _ _ (by omega), Nat.div_eq_of_lt l1, Nat.zero_add]
    have d2 : (ksN A g n + g (A 0 - 1 - n) * stM A (A 0) n) / stM A (A 0) n = g (A 0 - 1 - n) := by
      rw [Nat.add_mul_div_right _ _ (by omega), Nat.div_eq_of_lt l2, Nat.zero_add]
    have e1 : e (A 0 - 1 - n) = g (A 0 - 1 - n) := by rw [← d1, ← d2, h']
    by_cases hf : f = A 0 - 1 - n
    · rw [hf, e1]
    · rw [e1] at h'
      exact ks_inj he hg n (by omega) (by omega) f (by omega) h2
theorem sum_rev {x : Nat → Nat} : ∀ n, sumN x n = sumN (fun j => x (n - 1 - j)) n
  | 0 => rfl
  | n + 1 => by
    have h1 : ∀ (y : Nat → Nat) m, sumN y (m + 1) = y 0 + sumN (fun j => y (j + 1)) m := fun y m => by
      induction m with
      | zero =>
        show 0 + y 0 = y 0 + 0
        omega
      | succ m ih =>
        show sumN y (m + 1) + y (m + 1) = y 0 + (sumN (fun j => y (j + 1)) m + y (m + 1))
        omega
    rw [h1 (fun j => x (n + 1 - 1 - j)) n]
    show sumN x n + x n = x (n + 1 - 1 - 0) + sumN (fun j => x (n + 1 - 1 - (j + 1))) n
    rw [sum_rev n, show n + 1 - 1 - 0 = n by omega, Nat.add_comm, sumN_congr (p := fun j => x (n - 1 - j)) (q := fun j => x (n + 1 - 1 - (j + 1))) (fun j hj => by rw [show n + 1 - 1 - (j + 1) = n - 1 - j by omega])]
/-- what a witness knows of a world, as a number -/
def kiN (A : Nat → Nat) (v w : Nat) : Nat → Nat := sumN (fun f => if (A (76 + 6 * v + 4)).testBit f = true then dgN A w f * strd A f else 0)
theorem ki_ks {A : Nat → Nat} {v w : Nat} : kiN A v w (A 0) = ksN A (fun f => if (A (76 + 6 * v + 4)).testBit f = true then dgN A w f else 0) (A 0) := by
  have : ∀ n, n ≤ A 0 → ksN A (fun f => if (A (76 + 6 * v + 4)).testBit f = true then dgN A w f else 0) n = sumN (fun j => (fun f => if (A (76 + 6 * v + 4)).testBit f = true then dgN A w f * strd A f else 0) (A 0 - 1 - j)) n := fun n => by
    induction n with
    | zero => intro _; rfl
    | succ n ih =>
      intro hn
      show ksN A _ n + (if (A (76 + 6 * v + 4)).testBit (A 0 - 1 - n) = true then dgN A w (A 0 - 1 - n) else 0) * stM A (A 0) n = sumN _ n + (if (A (76 + 6 * v + 4)).testBit (A 0 - 1 - n) = true then dgN A w (A 0 - 1 - n) * strd A (A 0 - 1 - n) else 0)
      rw [ih (by omega), show strd A (A 0 - 1 - n) = stM A (A 0) n from by unfold strd; rw [show A 0 - 1 - (A 0 - 1 - n) = n by omega]]
      split
      · rfl
      · rw [Nat.zero_mul]
  unfold kiN
  rw [sum_rev, this (A 0) (Nat.le_refl _)]
theorem dg_lt {A : Nat → Nat} (hw : WF A) {w f : Nat} (hf : f < A 0) : dgN A w f < A (60 + f) := Nat.mod_lt _ (by have := (hw.1.2.2.2.2 f hf).1; omega)
theorem ki_e {A : Nat → Nat} (hw : WF A) {v w : Nat} : ∀ f, f < A 0 → (fun f => if (A (76 + 6 * v + 4)).testBit f = true then dgN A w f else 0) f < A (60 + f) := fun f hf => by
  show (if _ then _ else _) < _
  split
  · exact dg_lt hw hf
  · have := (hw.1.2.2.2.2 f hf).1
    omega
theorem ki_lt {A : Nat → Nat} (hw : WF A) (h2 : A 2 = stM A (A 0) (A 0)) {v w : Nat} : kiN A v w (A 0) < A 2 := by
  rw [ki_ks, h2]
  exact ks_lt (ki_e hw) _ (Nat.le_refl _)
theorem ki_iff {A : Nat → Nat} (hw : WF A) {v w o : Nat} : kiN A v o (A 0) = kiN A v w (A 0) ↔ allB (kxB A v w o) (A 0) = true := by
  rw [allB_iff, ki_ks, ki_ks]
  constructor
  · intro h f hf
    have := ks_inj (ki_e hw) (ki_e hw) (A 0) (Nat.le_refl _) h f (by omega) hf
    unfold kxB valN
    cases hb : (A (76 + 6 * v + 4)).testBit f
    · rfl
    · simp only [hb, if_true] at this
      unfold dgN at this
      rw [this]
      simp
  · intro h
    have : ∀ f, f < A 0 → (if (A (76 + 6 * v + 4)).testBit f = true then dgN A o f else 0) = (if (A (76 + 6 * v + 4)).testBit f = true then dgN A w f else 0) := fun f hf => by
      have := h f hf
      unfold kxB valN at this
      split
      · rename_i hb
        rw [hb] at this
        simp at this
        exact this
      · rfl
    have : ∀ n, n ≤ A 0 → ksN A (fun f => if (A (76 + 6 * v + 4)).testBit f = true then dgN A o f else 0) n = ksN A (fun f => if (A (76 + 6 * v + 4)).testBit f = true then dgN A w f else 0) n := fun n => by
      induction n with
      | zero => intro _; rfl
      | succ n ih =>
        intro hn
        show ksN A _ n + (if (A (76 + 6 * v + 4)).testBit (A 0 - 1 - n) = true then dgN A o (A 0 - 1 - n) else 0) * _ = ksN A _ n + (if (A (76 + 6 * v + 4)).testBit (A 0 - 1 - n) = true then dgN A w (A 0 - 1 - n) else 0) * _
        rw [ih (by omega), this (A 0 - 1 - n) (by omega)]
    exact this (A 0) (Nat.le_refl _)
theorem b_known {h : aH} {c : Nat} (hs : CS h c) {A : Nat → Nat} {P : Nat → Bool} {Q : Nat → Nat → Bool} (hc : CB h c A P Q) (hw : WF A) (h2 : A 2 = stM A (A 0) (A 0)) {v w : Nat} (hv : v < A 4) (h1 : w < A 2) : f_X0_knownIn h c (nI v) (nI w) = some (nI (kiN A v w (A 0))) := by
  obtain ⟨b0, b1, b2l, b2, b3, b4⟩ := wf_b hw
  have e0 := hc.1.1
  have ek := (hc.2.2.2.2.2 v hv).2.1
  have kl := (hw.2.2.2.2.2 v hv).2.2.1
  have e1 : f_X0_knownIn_l5 h c (nI v) (nI w) (nI 0) (nI 0) = some (nI (kiN A v w (A 0))) := by
    refine for0 (body := fun zz : Int32 × Int32 => f_X0_knownIn_b5 h c (nI v) (nI w) zz.1 zz.2) (fun j => (nI (kiN A v w j), nI j)) (A 0) (e := nI (kiN A v w (A 0))) (rfl) (by omega) (fun j hj => ?_) ?_
    · have r := b_valueIn hs hc hw h1 hj
      obtain ⟨x1, x2, x3⟩ := hc.2.1 j hj
      have vv : valN A w j - A (56 + j) = dgN A w j := by
        unfold valN dgN
        omega
      have vl : A (56 + j) ≤ valN A w j := by
        unfold valN
        omega
      rcases (Bool.eq_false_or_eq_true ((A (76 + 6 * v + 4)).testBit j)).symm with hb | hb
      · simp (disch := first | assumption | omega | decide | ((repeat first | apply lyI | apply lyJ | apply lywI | apply lywJ | apply csI | apply csJ | apply cswI | apply cswJ); assumption)) only [f_X0_knownIn_b5, f_X0_knownIn_j54, SC, LI, ↓li_m1, nI_add, pk_mul, nn_sub, nn_m1, nn_div, nn_rem, nn_nz, nn_mod, nJ_l, lN_add, lN_mul, nn_tb1, nI_bt, nn_and, nn_or, nn_xor, nn_shr, nn_1shl, nn_31, il_p, il_n, it_p, it_n, ie_p, ie_n, ie_b, ie_b1, ie_m, ie_mm, it_m, it_m0, il_m0, bI_rZ, Option.bind_some, bd2_some, Nat.add_zero, Nat.zero_add, if_true, if_false, Bool.false_eq_true, eq_self, hI_R, hJ_R, ng_t, ng_e, e0, ek, hb, bI_f]
        simp only [kiN, sumN, hb, Bool.false_eq_true, if_false, Nat.add_zero]
      · simp (disch := first | assumption | omega | decide | ((repeat first | apply lyI | apply lyJ | apply lywI | apply lywJ | apply csI | apply csJ | apply cswI | apply cswJ); assumption)) only [f_X0_knownIn_b5, f_X0_knownIn_j54, SC, LI, ↓li_m1, nI_add, pk_mul, nn_sub, nn_m1, nn_div, nn_rem, nn_nz, nn_mod, nJ_l, lN_add, lN_mul, nn_tb1, nI_bt, nn_and, nn_or, nn_xor, nn_shr, nn_1shl, nn_31, il_p, il_n, it_p, it_n, ie_p, ie_n, ie_b, ie_b1, ie_m, ie_mm, it_m, it_m0, il_m0, bI_rZ, Option.bind_some, bd2_some, Nat.add_zero, Nat.zero_add, if_true, if_false, Bool.false_eq_true, eq_self, hI_R, hJ_R, ng_t, ng_e, e0, ek, hb, bI_t, r, x1, x3, vv]
        simp only [kiN, sumN, hb, if_true]
    · simp (disch := first | assumption | omega | decide | ((repeat first | apply lyI | apply lyJ | apply lywI | apply lywJ | apply csI | apply csJ | apply cswI | apply cswJ); assumption)) only [f_X0_knownIn_b5, f_X0_knownIn_j54, SC, LI, ↓li_m1, nI_add, pk_mul, nn_sub, nn_m1, nn_div, nn_rem, nn_nz, nn_mod, nJ_l, lN_add, lN_mul, nn_tb1, nI_bt, nn_and, nn_or, nn_xor, nn_shr, nn_1shl, nn_31, il_p, il_n, it_p, it_n, ie_p, ie_n, ie_b, ie_b1, ie_m, ie_mm, it_m, it_m0, il_m0, bI_rZ, Option.bind_some, bd2_some, Nat.add_zero, Nat.zero_add, if_true, if_false, Bool.false_eq_true, eq_self, hI_R, hJ_R, ng_t, ng_e, e0]
  simp (disch := first | assumption | omega | decide | ((repeat first | apply lyI | apply lyJ | apply lywI | apply lywJ | apply csI | apply csJ | apply cswI | apply cswJ); assumption)) only [f_X0_knownIn, LI, ↓li_m1, nI_add, pk_mul, nn_sub, nn_m1, nn_div, nn_rem, nn_nz, nn_mod, nJ_l, lN_add, lN_mul, nn_tb1, nI_bt, nn_and, nn_or, nn_xor, nn_shr, nn_1shl, nn_31, il_p, il_n, it_p, it_n, ie_p, ie_n, ie_b, ie_b1, ie_m, ie_mm, it_m, it_m0, il_m0, bI_rZ, Option.bind_some, bd2_some, Nat.add_zero, Nat.zero_add, if_true, if_false, Bool.false_eq_true, eq_self, hI_R, hJ_R, ng_t, ng_e, e1]
