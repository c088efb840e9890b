/-! ===== names: which word is of which thing ===== -/
def nbN (s : Nat) : Nat := if s = 0 then 0 else if s = 1 then 4 else if s = 2 then 28 else 40
def nmN (s : Nat) : Nat := if s = 0 then 4 else if s = 1 then 24 else if s = 2 then 12 else 4
def vdW (w : List Nat) : Prop := smW w ∧ w.length ≤ 8
/-- C how many names of each sort, V their words -/
def NV (C : Nat → Nat) (V : Nat → List Nat) : Prop := (∀ s, s < 4 → C s ≤ nmN s) ∧ (∀ s k, s < 4 → k < C s → vdW (V (nbN s + k))) ∧ ∀ s k s' k', s < 4 → s' < 4 → k < C s → k' < C s' → V (nbN s + k) = V (nbN s' + k') → s = s' ∧ k = k'
/-- as the class keeps them -/
def NCl (h : aH) (c : Nat) (C : Nat → Nat) (V : Nat → List Nat) : Prop := ∃ (m : Nat) (es en : Nat → Nat), m = C 0 + C 1 + C 2 + C 3 ∧ h.2.1 (c + 1) 3 = nI m ∧ (∀ e, e < m → es e < 4 ∧ en e < C (es e) ∧ h.2.2.1 (c + 2) e = lN (c5 (V (nbN (es e) + en e))) ∧ h.2.1 (c + 3) e = nI (es e) ∧ h.2.1 (c + 4) e = nI (en e)) ∧ ∀ s k, s < 4 → k < C s → ∃ e, e < m ∧ es e = s ∧ en e = k
/-- as the reference keeps them, from o on -/
def NRe (k : aH) (o : Nat) (C : Nat → Nat) (V : Nat → List Nat) : Prop := ∀ s j, s < 4 → j < C s → k.2.2.1 116 (o + (nbN s + j)) = lN (c8 (V (nbN s + j)))
def lkN (C : Nat → Nat) (V : Nat → List Nat) (s : Nat) (w : List Nat) : Option Nat := firstB (fun k => V (nbN s + k) == w) (C s)
def lkI (o : Option Nat) : Int32 := match o with
  | some k => nI k
  | none => m1
def tkB (C : Nat → Nat) (V : Nat → List Nat) (w : List Nat) : Bool := anyB (fun s => (lkN C V s w).isSome) 4
theorem lk_s {C : Nat → Nat} {V : Nat → List Nat} {s k : Nat} {w : List Nat} (nv : NV C V) (hs : s < 4) (hk : k < C s) (e : V (nbN s + k) = w) : lkN C V s w = some k := firstB_s.mpr ⟨hk, by rw [e]; simp, fun i hi => by
  rw [← Bool.not_eq_true]
  intro h2
  have := nv.2.2 s i s k hs hs (by omega) hk ((beq_iff_eq.mp h2).trans e.symm)
  omega⟩
theorem lk_ex {C : Nat → Nat} {V : Nat → List Nat} {s k : Nat} {w : List Nat} (h : lkN C V s w = some k) : k < C s ∧ V (nbN s + k) = w := ⟨(firstB_s.mp h).1, beq_iff_eq.mp (firstB_s.mp h).2.1⟩
theorem lk_n {C : Nat → Nat} {V : Nat → List Nat} {s : Nat} {w : List Nat} (h : lkN C V s w = none) : ∀ k, k < C s → V (nbN s + k) ≠ w := fun k hk e => by
  have := firstB_n.mp h k hk
  rw [e] at this
  simp at this
theorem c5_eq {w u : List Nat} (hw : vdW w) (hu : vdW u) : (lg_cmp (lN (c5 w)) (lN (c5 u)) = nI 0) ↔ w = u := by
  have b1 := c5_b hw.2 hw.1
  have b2 := c5_b hu.2 hu.1
  rw [lcmp_e]
  exact ⟨fun e => c5_inj _ _ _ rfl hw.1 hu.1 (lN_inj (by omega) (by omega) e), fun e => by rw [e]⟩
theorem c8_eq {w u : List Nat} (hw : vdW w) (hu : vdW u) : (lg_cmp (lN (c8 w)) (lN (c8 u)) = nI 0) ↔ w = u := by
  have b1 := c8_b hw.2 hw.1
  have b2 := c8_b hu.2 hu.1
  rw [lcmp_e]
  exact ⟨fun e => c8_inj _ _ _ rfl hw.1 hu.1 (lN_inj (by omega) (by omega) e), fun e => by rw [e]⟩
theorem nm_4 : nmN 0 = 4 ∧ nmN 1 = 24 ∧ nmN 2 = 12 ∧ nmN 3 = 4 := ⟨rfl, rfl, rfl, rfl⟩
theorem nv_le4 {C : Nat → Nat} {V : Nat → List Nat} (nv : NV C V) : C 0 ≤ 4 ∧ C 1 ≤ 24 ∧ C 2 ≤ 12 ∧ C 3 ≤ 4 := ⟨nv.1 0 (by decide), nv.1 1 (by decide), nv.1 2 (by decide), nv.1 3 (by decide)⟩
/-- the Names of a Case -/
theorem SNM : ∀ (h : aH) (c : Nat), CS h c → ck h 7 (c + 1) = some () ∧ gR h 7 (c + 1) 0 = some (c + 2) ∧ gR h 7 (c + 1) 1 = some (c + 3) ∧ gR h 7 (c + 1) 2 = some (c + 4) ∧ gI h 7 (c + 1) 3 = some (h.2.1 (c + 1) 3) ∧ (∀ x, pI h 7 (c + 1) 3 x = some (hI h (c + 1) 3 x)) ∧ (∀ j, j < 44 → lJ h (c + 2) (nI j) = some (h.2.2.1 (c + 2) j)) ∧ (∀ j x, j < 44 → sJ h (c + 2) (nI j) x = some (hJ h (c + 2) j x)) ∧ (∀ j, j < 44 → lI h (c + 3) (nI j) = some (h.2.1 (c + 3) j)) ∧ (∀ j x, j < 44 → sI h (c + 3) (nI j) x = some (hI h (c + 3) j x)) ∧ (∀ j, j < 44 → lI h (c + 4) (nI j) = some (h.2.1 (c + 4) j)) ∧ (∀ j x, j < 44 → sI h (c + 4) (nI j) x = some (hI h (c + 4) j x)) := fun h c hs => by
  have kk := cs_kd hs
  have nn := cs_ln hs
  obtain ⟨-, -, r0, r1, n0, n1, n2⟩ := hs
  exact ⟨ck_K (kk 1 (by decide)), (gR_K (kk 1 (by decide))).trans n0, (gR_K (kk 1 (by decide))).trans n1, (gR_K (kk 1 (by decide))).trans n2, gI_K (kk 1 (by decide)), fun x => pI_K (kk 1 (by decide)), fun j hj => lJ_K (kk 2 (by decide)) (nn 2 (by decide)) (by decide) hj, fun j x hj => sJ_K (kk 2 (by decide)) (nn 2 (by decide)) (by decide) hj, fun j hj => lI_K (kk 3 (by decide)) (nn 3 (by decide)) (by decide) hj, fun j x hj => sI_K (kk 3 (by decide)) (nn 3 (by decide)) (by decide) hj, fun j hj => lI_K (kk 4 (by decide)) (nn 4 (by decide)) (by decide) hj, fun j x hj => sI_K (kk 4 (by decide)) (nn 4 (by decide)) (by decide) hj⟩
theorem x_numOf {h : aH} {c : Nat} (hs : CS h c) {C : Nat → Nat} {V : Nat → List Nat} (nc : NCl h c C V) (nv : NV C V) {w : List Nat} (vw : vdW w) {s : Nat} (s4 : s < 4) : f_X7_numberOf h (c + 1) (lN (c5 w)) (nI s) = some (lkI (lkN C V s w)) := by
  obtain ⟨m, es, en, em, e3, he, hx⟩ := nc
  obtain ⟨b0, b1, b2, b3⟩ := nv_le4 nv
  have lp : f_X7_numberOf_l3 h (c + 1) (lN (c5 w)) (nI s) (nI 0) = some (match firstB (fun e => (V (nbN (es e) + en e) == w) && (es e == s)) m with | some e => .inl (nI e) | none => .inr ()) := by
    refine srch (body := fun q : Int32 => f_X7_numberOf_b3 h (c + 1) (lN (c5 w)) (nI s) q) (fun j => nI j) (fun e => (V (nbN (es e) + en e) == w) && (es e == s)) m (fun e => (Sum.inl (nI e) : Int32 ⊕ Unit)) (Sum.inr ()) rfl (by omega) (fun j hj hp => ?_) (fun j hj hp => ?_) ?_
    · obtain ⟨q1, q2, q3, q4, q5⟩ := he j hj
      have vj := nv.2.1 _ _ q1 q2
      by_cases hw : V (nbN (es j) + en j) = w
      · have ns : es j ≠ s := fun e => by
          rw [hw, e] at hp
          simp at hp
        simp (disch := first | assumption | omega | decide | ((repeat first | apply lyI | apply lyJ | apply lywI | apply lywJ | apply csI | apply csJ | apply cswI | apply cswJ); assumption)) only [f_X7_numberOf_b3, f_X7_numberOf_j43, SNM, LI, ↓li_m1, nI_add, pk_mul, nn_sub, nn_m1, nn_div, nn_rem, nn_nz, nn_mod, nJ_l, lN_add, lN_mul, nn_tb1, nI_bt, nn_and, nn_or, nn_xor, nn_shr, nn_1shl, nn_31, il_p, il_n, it_p, it_n, ie_p, ie_n, ie_b, ie_b1, ie_m, ie_mm, it_m, it_m0, il_m0, bI_rZ, Option.bind_some, bd2_some, Nat.add_zero, Nat.zero_add, if_true, if_false, Bool.false_eq_true, eq_self, hI_R, hJ_R, ng_t, ng_e, e3, q3, q4, if_pos ((c5_eq vj vw).mpr hw)]
      · have nk : ¬ lg_cmp (lN (c5 (V (nbN (es j) + en j)))) (lN (c5 w)) = nI 0 := fun e => hw ((c5_eq vj vw).mp e)
        simp (disch := first | assumption | omega | decide | ((repeat first | apply lyI | apply lyJ | apply lywI | apply lywJ | apply csI | apply csJ | apply cswI | apply cswJ); assumption)) only [f_X7_numberOf_b3, f_X7_numberOf_j43, SNM, LI, ↓li_m1, nI_add, pk_mul, nn_sub, nn_m1, nn_div, nn_rem, nn_nz, nn_mod, nJ_l, lN_add, lN_mul, nn_tb1, nI_bt, nn_and, nn_or, nn_xor, nn_shr, nn_1shl, nn_31, il_p, il_n, it_p, it_n, ie_p, ie_n, ie_b, ie_b1, ie_m, ie_mm, it_m, it_m0, il_m0, bI_rZ, Option.bind_some, bd2_some, Nat.add_zero, Nat.zero_add, if_true, if_false, Bool.false_eq_true, eq_self, hI_R, hJ_R, ng_t, ng_e, e3, q3, if_neg nk]
    · obtain ⟨q1, q2, q3, q4, q5⟩ := he j hj
      have vj := nv.2.1 _ _ q1 q2
      have hp2 : V (nbN (es j) + en j) = w ∧ es j = s := by simpa using hp
      rw [hp2.2] at q4
      simp (disch := first | assumption | omega | decide | ((repeat first | apply lyI | apply lyJ | apply lywI | apply lywJ | apply csI | apply csJ | apply cswI | apply cswJ); assumption)) only [f_X7_numberOf_b3, f_X7_numberOf_j43, SNM, LI, ↓li_m1, nI_add, pk_mul, nn_sub, nn_m1, nn_div, nn_rem, nn_nz, nn_mod, nJ_l, lN_add, lN_mul, nn_tb1, nI_bt, nn_and, nn_or, nn_xor, nn_shr, nn_1shl, nn_31, il_p, il_n, it_p, it_n, ie_p, ie_n, ie_b, ie_b1, ie_m, ie_mm, it_m, it_m0, il_m0, bI_rZ, Option.bind_some, bd2_some, Nat.add_zero, Nat.zero_add, if_true, if_false, Bool.false_eq_true, eq_self, hI_R, hJ_R, ng_t, ng_e, e3, q3, q4, if_pos ((c5_eq vj vw).mpr hp2.1)]
    · simp (disch := first | assumption | omega | decide | ((repeat first | apply lyI | apply lyJ | apply lywI | apply lywJ | apply csI | apply csJ | apply cswI | apply cswJ); assumption)) only [f_X7_numberOf_b3, SNM, LI, ↓li_m1, nI_add, pk_mul, nn_sub, nn_m1, nn_div, nn_rem, nn_nz, nn_mod, nJ_l, lN_add, lN_mul, nn_tb1, nI_bt, nn_and, nn_or, nn_xor, nn_shr, nn_1shl, nn_31, il_p, il_n, it_p, it_n, ie_p, ie_n, ie_b, ie_b1, ie_m, ie_mm, it_m, it_m0, il_m0, bI_rZ, Option.bind_some, bd2_some, Nat.add_zero, Nat.zero_add, if_true, if_false, Bool.false_eq_true, eq_self, hI_R, hJ_R, ng_t, ng_e, e3]
  cases hf : firstB (fun e => (V (nbN (es e) + en e) == w) && (es e == s)) m with
  | some e =>
    rw [hf] at lp
    obtain ⟨f1, f2, -⟩ := firstB_s.mp hf
    obtain ⟨q1, q2, q3, q4, q5⟩ := he e f1
    have hp2 : V (nbN (es e) + en e) = w ∧ es e = s := by simpa using f2
    obtain ⟨p1, p2⟩ := hp2
    rw [p2] at p1 q2
    rw [lk_s nv s4 q2 p1]
    simp (disch := first | assumption | omega | decide | ((repeat first | apply lyI | apply lyJ | apply lywI | apply lywJ | apply csI | apply csJ | apply cswI | apply cswJ); assumption)) only [f_X7_numberOf, SNM, LI, ↓li_m1, nI_add, pk_mul, nn_sub, nn_m1, nn_div, nn_rem, nn_nz, nn_mod, nJ_l, lN_add, lN_mul, nn_tb1, nI_bt, nn_and, nn_or, nn_xor, nn_shr, nn_1shl, nn_31, il_p, il_n, it_p, it_n, ie_p, ie_n, ie_b, ie_b1, ie_m, ie_mm, it_m, it_m0, il_m0, bI_rZ, Option.bind_some, bd2_some, Nat.add_zero, Nat.zero_add, if_true, if_false, Bool.false_eq_true, eq_self, hI_R, hJ_R, ng_t, ng_e, lp, q5]
    rfl
  | none =>
    rw [hf] at lp
    have hn := firstB_n.mp hf
    have : lkN C V s w = none := firstB_n.mpr (fun k hk => by
      rw [← Bool.not_eq_true]
      intro e2
      obtain ⟨e, e1, e3, e4⟩ := hx s k s4 hk
      have := hn e e1
      rw [e3, e4, e2] at this
      simp at this)
    rw [this]
    simp (disch := first | assumption | omega | decide | ((repeat first | apply lyI | apply lyJ | apply lywI | apply lywJ | apply csI | apply csJ | apply cswI | apply cswJ); assumption)) only [f_X7_numberOf, SNM, LI, ↓li_m1, nI_add, pk_mul, nn_sub, nn_m1, nn_div, nn_rem, nn_nz, nn_mod, nJ_l, lN_add, lN_mul, nn_tb1, nI_bt, nn_and, nn_or, nn_xor, nn_shr, nn_1shl, nn_31, il_p, il_n, it_p, it_n, ie_p, ie_n, ie_b, ie_b1, ie_m, ie_mm, it_m, it_m0, il_m0, bI_rZ, Option.bind_some, bd2_some, Nat.add_zero, Nat.zero_add, if_true, if_false, Bool.false_eq_true, eq_self, hI_R, hJ_R, ng_t, ng_e, lp]
    rfl
theorem x_taken {h : aH} {c : Nat} (hs : CS h c) {C : Nat → Nat} {V : Nat → List Nat} (nc : NCl h c C V) (nv : NV C V) {w : List Nat} (vw : vdW w) : f_X7_isTaken h (c + 1) (lN (c5 w)) = some (bI (tkB C V w)) := by
  obtain ⟨m, es, en, em, e3, he, hx⟩ := nc
  obtain ⟨b0, b1, b2, b3⟩ := nv_le4 nv
  have lp : f_X7_isTaken_l2 h (c + 1) (lN (c5 w)) (nI 0) = some (match firstB (fun e => V (nbN (es e) + en e) == w) m with | some e => .inl () | none => .inr ()) := by
    refine srch (body := fun q : Int32 => f_X7_isTaken_b2 h (c + 1) (lN (c5 w)) q) (fun j => nI j) (fun e => V (nbN (es e) + en e) == w) m (fun e => (Sum.inl () : Unit ⊕ Unit)) (Sum.inr ()) rfl (by omega) (fun j hj hp => ?_) (fun j hj hp => ?_) ?_
    · obtain ⟨q1, q2, q3, q4, q5⟩ := he j hj
      have vj := nv.2.1 _ _ q1 q2
      have nk : ¬ lg_cmp (lN (c5 (V (nbN (es j) + en j)))) (lN (c5 w)) = nI 0 := fun e => by
        rw [(c5_eq vj vw).mp e] at hp
        simp at hp
      simp (disch := first | assumption | omega | decide | ((repeat first | apply lyI | apply lyJ | apply lywI | apply lywJ | apply csI | apply csJ | apply cswI | apply cswJ); assumption)) only [f_X7_isTaken_b2, SNM, LI, ↓li_m1, nI_add, pk_mul, nn_sub, nn_m1, nn_div, nn_rem, nn_nz, nn_mod, nJ_l, lN_add, lN_mul, nn_tb1, nI_bt, nn_and, nn_or, nn_xor, nn_shr, nn_1shl, nn_31, il_p, il_n, it_p, it_n, ie_p, ie_n, ie_b, ie_b1, ie_m, ie_mm, it_m, it_m0, il_m0, bI_rZ, Option.bind_some, bd2_some, Nat.add_zero, Nat.zero_add, if_true, if_false, Bool.false_eq_true, eq_self, hI_R, hJ_R, ng_t, ng_e, e3, q3, if_neg nk]
    · obtain ⟨q1, q2, q3, q4, q5⟩ := he j hj
      have vj := nv.2.1 _ _ q1 q2
      simp (disch := first | assumption | omega | decide | ((repeat first | apply lyI | apply lyJ | apply lywI | apply lywJ | apply csI | apply csJ | apply cswI | apply cswJ); assumption)) only [f_X7_isTaken_b2, SNM, LI, ↓li_m1, nI_add, pk_mul, nn_sub, nn_m1, nn_div, nn_rem, nn_nz, nn_mod, nJ_l, lN_add, lN_mul, nn_tb1, nI_bt, nn_and, nn_or, nn_xor, nn_shr, nn_1shl, nn_31, il_p, il_n, it_p, it_n, ie_p, ie_n, ie_b, ie_b1, ie_m, ie_mm, it_m, it_m0, il_m0, bI_rZ, Option.bind_some, bd2_some, Nat.add_zero, Nat.zero_add, if_true, if_false, Bool.false_eq_true, eq_self, hI_R, hJ_R, ng_t, ng_e, e3, q3, if_pos ((c5_eq vj vw).mpr (beq_iff_eq.mp hp))]
    · simp (disch := first | assumption | omega | decide | ((repeat first | apply lyI | apply lyJ | apply lywI | apply lywJ | apply csI | apply csJ | apply cswI | apply cswJ); assumption)) only [f_X7_isTaken_b2, SNM, LI, ↓li_m1, nI_add, pk_mul, nn_sub, nn_m1, nn_div, nn_rem, nn_nz, nn_mod, nJ_l, lN_add, lN_mul, nn_tb1, nI_bt, nn_and, nn_or, nn_xor, nn_shr, nn_1shl, nn_31, il_p, il_n, it_p, it_n, ie_p, ie_n, ie_b, ie_b1, ie_m, ie_mm, it_m, it_m0, il_m0, bI_rZ, Option.bind_some, bd2_some, Nat.add_zero, Nat.zero_add, if_true, if_false, Bool.false_eq_true, eq_self, hI_R, hJ_R, ng_t, ng_e, e3]
  cases hf : firstB (fun e => V (nbN (es e) + en e) == w) m with
  | some e =>
    rw [hf] at lp
    obtain ⟨f1, f2, -⟩ := firstB_s.mp hf
    obtain ⟨q1, q2, q3, q4, q5⟩ := he e f1
    have : tkB C V w = true := anyB_iff.mpr ⟨es e, q1, by rw [lk_s nv q1 q2 (beq_iff_eq.mp f2)]; rfl⟩
    rw [this]
    simp (disch := first | assumption | omega | decide | ((repeat first | apply lyI | apply lyJ | apply lywI | apply lywJ | apply csI | apply csJ | apply cswI | apply cswJ); assumption)) only [f_X7_isTaken, SNM, LI, ↓li_m1, nI_add, pk_mul, nn_sub, nn_m1, nn_div, nn_rem, nn_nz, nn_mod, nJ_l, lN_add, lN_mul, nn_tb1, nI_bt, nn_and, nn_or, nn_xor, nn_shr, nn_1shl, nn_31, il_p, il_n, it_p, it_n, ie_p, ie_n, ie_b, ie_b1, ie_m, ie_mm, it_m, it_m0, il_m0, bI_rZ, Option.bind_some, bd2_some, Nat.add_zero, Nat.zero_add, if_true, if_false, Bool.false_eq_true, eq_self, hI_R, hJ_R, ng_t, ng_e, lp]
    rfl
  | none =>
    rw [hf] at lp
    have hn := firstB_n.mp hf
    have : tkB C V w = false := anyB_f.mpr (fun s hs => by
      cases hk : lkN C V s w with
      | none => rfl
      | some k =>
        exfalso
        obtain ⟨k1, k2⟩ := lk_ex hk
        obtain ⟨e, e1, e3, e4⟩ := hx s k hs k1
        have := hn e e1
        rw [e3, e4, k2] at this
        simp at this)
    rw [this]
    simp (disch := first | assumption | omega | decide | ((repeat first | apply lyI | apply lyJ | apply lywI | apply lywJ | apply csI | apply csJ | apply cswI | apply cswJ); assumption)) only [f_X7_isTaken, SNM, LI, ↓li_m1, nI_add, pk_mul, nn_sub, nn_m1, nn_div, nn_rem, nn_nz, nn_mod, nJ_l, lN_add, lN_mul, nn_tb1, nI_bt, nn_and, nn_or, nn_xor, nn_shr, nn_1shl, nn_31, il_p, il_n, it_p, it_n, ie_p, ie_n, ie_b, ie_b1, ie_m, ie_mm, it_m, it_m0, il_m0, bI_rZ, Option.bind_some, bd2_some, Nat.add_zero, Nat.zero_add, if_true, if_false, Bool.false_eq_true, eq_self, hI_R, hJ_R, ng_t, ng_e, lp]
    rfl
def upC (C : Nat → Nat) (s : Nat) : Nat → Nat := fun x => if x = s then C s + 1 else C x
def upV (V : Nat → List Nat) (j : Nat) (w : List Nat) : Nat → List Nat := fun x => if x = j then w else V x
theorem nb_inj {s s' k k' : Nat} (h1 : s < 4) (h2 : s' < 4) (h3 : k < nmN s) (h4 : k' < nmN s') (e : nbN s + k = nbN s' + k') : s = s' ∧ k = k' := by
  rcases lt4 h1 with rfl | rfl | rfl | rfl <;> rcases lt4 h2 with rfl | rfl | rfl | rfl <;> simp [nbN, nmN] at * <;> omega
/-- one name more -/
theorem nv_up {C : Nat → Nat} {V : Nat → List Nat} (nv : NV C V) {w : List Nat} (vw : vdW w) {s : Nat} (s4 : s < 4) (hm : C s < nmN s) (hf : tkB C V w = false) : NV (upC C s) (upV V (nbN s + C s) w) ∧ ∀ s' k', s' < 4 → k' < C s' → upV V (nbN s + C s) w (nbN s' + k') = V (nbN s' + k') := by
  have old : ∀ s' k', s' < 4 → k' < C s' → upV V (nbN s + C s) w (nbN s' + k') = V (nbN s' + k') := fun s' k' h1 h2 => if_neg (fun e => by
    have b := nv.1 s' h1
    have := nb_inj h1 s4 (by omega) hm e
    obtain ⟨rfl, h3⟩ := this
    omega)
  have new : upV V (nbN s + C s) w (nbN s + C s) = w := if_pos rfl
  have nw : ∀ s' k', s' < 4 → k' < C s' → V (nbN s' + k') ≠ w := fun s' k' h1 h2 e => by
    have := anyB_f.mp hf s' h1
    rw [lk_s nv h1 h2 e] at this
    cases this
  have cs : ∀ x k, k < upC C s x → k < C x ∨ (x = s ∧ k = C s) := fun x k hk => by
    unfold upC at hk
    by_cases hx : x = s
    · rw [if_pos hx] at hk
      subst hx
      omega
    · rw [if_neg hx] at hk
      exact Or.inl hk
  refine ⟨⟨fun x hx => ?_, fun x k hx hk => ?_, fun x k x' k' hx hx' hk hk' e => ?_⟩, old⟩
  · unfold upC
    by_cases h1 : x = s
    · rw [if_pos h1, h1]
      omega
    · rw [if_neg h1]
      exact nv.1 x hx
  · rcases cs x k hk with h | ⟨rfl, rfl⟩
    · rw [old x k hx h]
      exact nv.2.1 x k hx h
    · rw [new]
      exact vw
  · rcases cs x k hk with h | ⟨rfl, rfl⟩ <;> rcases cs x' k' hk' with h' | ⟨rfl, rfl⟩
    · rw [old x k hx h, old x' k' hx' h'] at e
      exact nv.2.2 x k x' k' hx hx' h h' e
    · rw [old x k hx h, new] at e
      exact absurd e (nw x k hx h)
    · rw [old x' k' hx' h', new] at e
      exact absurd e.symm (nw x' k' hx' h')
    · exact ⟨rfl, rfl⟩
theorem upC_sum {C : Nat → Nat} {s : Nat} (hs : s < 4) : upC C s 0 + upC C s 1 + upC C s 2 + upC C s 3 = C 0 + C 1 + C 2 + C 3 + 1 := by
  unfold upC
  rcases lt4 hs with rfl | rfl | rfl | rfl <;> simp <;> omega
theorem x_add {h : aH} {c : Nat} (hs : CS h c) {C : Nat → Nat} {V : Nat → List Nat} (nc : NCl h c C V) (nv : NV C V) {w : List Nat} (vw : vdW w) {s : Nat} (s4 : s < 4) (hm : C s < nmN s) (hf : tkB C V w = false) : ∃ h', f_X7_add h (c + 1) (lN (c5 w)) (nI s) (nI (C s)) = some h' ∧ FR h h' [c + 1, c + 3, c + 4] [c + 2] [] [] ∧ NCl h' c (upC C s) (upV V (nbN s + C s) w) := by
  obtain ⟨m, es, en, em, e3, he, hx⟩ := nc
  obtain ⟨b0, b1, b2, b3⟩ := nv_le4 nv
  have c0 := hs.1
  have m44 : m < 44 := by
    rw [em]
    rcases lt4 s4 with rfl | rfl | rfl | rfl <;> simp [nmN] at hm <;> omega
  have old := (nv_up nv vw s4 hm hf).2
  have a1 : c + 1 ≠ 0 ∧ c + 1 ≠ 113 ∧ c + 3 ≠ 0 ∧ c + 3 ≠ 113 ∧ c + 4 ≠ 0 ∧ c + 4 ≠ 113 := by omega
  let g := hI (hI (hI (hJ h (c + 2) m (lN (c5 w))) (c + 3) m (nI s)) (c + 4) m (nI (C s))) (c + 1) 3 (nI (m + 1))
  have fg : FR h g [c + 1, c + 3, c + 4] [c + 2] [] [] := (((FR.hJ (by simp)).tr (FR.hI (by simp) a1.2.2.1 a1.2.2.2.1)).tr (FR.hI (by simp) a1.2.2.2.2.1 a1.2.2.2.2.2)).tr (FR.hI (by simp) a1.1 a1.2.1)
  have n31 : c + 1 ≠ c + 3 := by omega
  have n41 : c + 1 ≠ c + 4 := by omega
  refine ⟨g, ?_, fg, m + 1, fun x => if x = m then s else es x, fun x => if x = m then C s else en x, by rw [upC_sum s4, em], rI_eq, fun e he' => ?_, fun s' k hs' hk => ?_⟩
  · simp (disch := first | assumption | omega | decide | ((repeat first | apply lyI | apply lyJ | apply lywI | apply lywJ | apply csI | apply csJ | apply cswI | apply cswJ); assumption)) only [f_X7_add, SNM, rI_eq, rI_ne, rI_nk, rJ_eq, rJ_ne, rJ_nk, rI_J, rJ_I, LI, ↓li_m1, nI_add, pk_mul, nn_sub, nn_m1, nn_div, nn_rem, nn_nz, nn_mod, nJ_l, lN_add, lN_mul, nn_tb1, nI_bt, nn_and, nn_or, nn_xor, nn_shr, nn_1shl, nn_31, il_p, il_n, it_p, it_n, ie_p, ie_n, ie_b, ie_b1, ie_m, ie_mm, it_m, it_m0, il_m0, bI_rZ, Option.bind_some, bd2_some, Nat.add_zero, Nat.zero_add, if_true, if_false, Bool.false_eq_true, eq_self, hI_R, hJ_R, ng_t, ng_e, e3]
    rfl
  · by_cases hem : e = m
    · subst hem
      simp only [if_true]
      refine ⟨s4, by unfold upC; rw [if_pos rfl]; omega, ?_, ?_, ?_⟩
      · show (hJ h (c + 2) e (lN (c5 w))).2.2.1 (c + 2) e = _
        rw [rJ_eq, show upV V (nbN s + C s) w (nbN s + C s) = w from if_pos rfl]
      · rw [rI_ne (by omega), rI_ne (by omega), rI_eq]
      · rw [rI_ne (by omega), rI_eq]
    · simp only [if_neg hem]
      obtain ⟨q1, q2, q3, q4, q5⟩ := he e (by omega)
      refine ⟨q1, ?_, ?_, ?_, ?_⟩
      · unfold upC
        by_cases hx2 : es e = s
        · rw [if_pos hx2]
          rw [hx2] at q2
          omega
        · rw [if_neg hx2]
          exact q2
      · show (hJ h (c + 2) m (lN (c5 w))).2.2.1 (c + 2) e = _
        rw [rJ_hJ, if_neg (fun z => hem z.2), old _ _ q1 q2]
        exact q3
      · rw [rI_ne (by omega), rI_ne (by omega), rI_nk hem]
        exact q4
      · rw [rI_ne (by omega), rI_nk hem, rI_ne (by omega)]
        exact q5
  · by_cases hs2 : s' = s ∧ k = C s
    · refine ⟨m, by omega, ?_, ?_⟩
      · simp only [if_true]
        exact hs2.1.symm
      · simp only [if_true]
        exact hs2.2.symm
    · have hk2 : k < C s' := by
        unfold upC at hk
        by_cases hx2 : s' = s
        · rw [if_pos hx2] at hk
          subst hx2
          have : k ≠ C s' := fun z => hs2 ⟨rfl, z⟩
          omega
        · rw [if_neg hx2] at hk
          exact hk
      obtain ⟨e, e1, e2, e4⟩ := hx s' k hs' hk2
      refine ⟨e, by omega, ?_, ?_⟩
      · simp only [if_neg (show ¬ e = m by omega)]
        exact e2
      · simp only [if_neg (show ¬ e = m by omega)]
        exact e4
