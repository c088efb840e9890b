/-! ===== the search ahead: what is open, the first of so many ===== -/
/-- the answers behind which the worlds of p are, j worlds looked at -/
def obN (A : Nat → Nat) (P : Nat → Bool) (S : Nat → Nat → Nat → Nat → Nat) (F : Nat → Nat → Nat) (v q : Nat) (p : Nat → Bool) : Nat → Nat := orN (fun j => if p (alN (lfB A P F) (A 2) j) = true then aoN (S v q (alN (lfB A P F) (A 2) j)) (F v (alN (lfB A P F) (A 2) j)) 4 else 0)
theorem ob_bit {A : Nat → Nat} {P : Nat → Bool} {S : Nat → Nat → Nat → Nat → Nat} {F : Nat → Nat → Nat} (hF : ∀ v w, F v w < 16) {v q a : Nat} (hv : v < A 4) {p : Nat → Bool} : (obN A P S F v q p (cntB (lfB A P F) (A 2))).testBit a = someB A P (anF S v q a F) p (A 2) := by
  unfold obN someB
  rw [orN_bit]
  have := al_any (q := fun w => p w && gvB (S v q w) (F v w) a 4) (al_N (lfB A P F) (A 2))
  rw [show anyB (fun j => (if p (alN (lfB A P F) (A 2) j) = true then aoN (S v q (alN (lfB A P F) (A 2) j)) (F v (alN (lfB A P F) (A 2) j)) 4 else 0).testBit a) (cntB (lfB A P F) (A 2)) = anyB (fun j => p (alN (lfB A P F) (A 2) j) && gvB (S v q (alN (lfB A P F) (A 2) j)) (F v (alN (lfB A P F) (A 2) j)) a 4) (cntB (lfB A P F) (A 2)) from anyB_congr (fun j _ => by
    cases p (alN (lfB A P F) (A 2) j)
    · simp
    · simp [ao_bit])]
  rw [this]
  refine anyB_congr (fun w _ => ?_)
  rw [an_lf hv, gv_nz (hF v w)]
  cases lfB A P F w <;> cases p w <;> cases gvB (S v q w) (F v w) a 4 <;> rfl
theorem ob_mono {f : Nat → Nat} {a i n : Nat} (hi : i ≤ n) (h : (orN f i).testBit a = true) : (orN f n).testBit a = true := by
  rw [orN_bit, anyB_iff] at h ⊢
  obtain ⟨j, h1, h2⟩ := h
  exact ⟨j, by omega, h2⟩
/-- the set of answers behind which the goal is open -/
def opN (A : Nat → Nat) (P : Nat → Bool) (Q : Nat → Nat → Bool) (S : Nat → Nat → Nat → Nat → Nat) (F : Nat → Nat → Nat) (v q gl : Nat) : Nat := obN A P S F v q (Q gl) (cntB (lfB A P F) (A 2)) &&& obN A P S F v q (fun w => !Q gl w) (cntB (lfB A P F) (A 2))
theorem op_bit {A : Nat → Nat} {P : Nat → Bool} {Q : Nat → Nat → Bool} {S : Nat → Nat → Nat → Nat → Nat} {F : Nat → Nat → Nat} (hF : ∀ v w, F v w < 16) {v q gl a : Nat} (hv : v < A 4) : (opN A P Q S F v q gl).testBit a = bothB A P Q (anF S v q a F) gl := by
  unfold opN bothB
  rw [Nat.testBit_and, ob_bit hF hv, ob_bit hF hv]
theorem ob_lt {A : Nat → Nat} {P : Nat → Bool} {S : Nat → Nat → Nat → Nat → Nat} {F : Nat → Nat → Nat} {v q : Nat} {p : Nat → Bool} (h3 : A 3 ≤ 12) (hS : ∀ w k, w < A 2 → P w = true → k < 4 → S v q w k < 2 * A 3) : ∀ j, j ≤ cntB (lfB A P F) (A 2) → obN A P S F v q p j < 2 ^ (2 * A 3) := fun j hj => orN_lt (fun i hi => by
  obtain ⟨a1, a2, a3⟩ := al_at (al_N (lfB A P F) (A 2)) i (by omega)
  have ap : P (alN (lfB A P F) (A 2) i) = true := by
    unfold lfB at a2
    rw [Bool.and_eq_true] at a2
    exact a2.1
  split
  · exact orN_lt (fun k hk => by
      split
      · exact Nat.pow_lt_pow_right (by decide) (hS _ k a1 ap hk)
      · exact Nat.two_pow_pos _)
  · exact Nat.two_pow_pos _)
theorem k_open {h : aH} {c : Nat} (hs : CS h c) {A : Nat → Nat} {P : Nat → Bool} {Q : Nat → Nat → Bool} {S : Nat → Nat → Nat → Nat → Nat} (hc : CC h c A P Q S) (hw : WF A) (hl : LAY h) (hf : h.2.2.2 52 4 = some c) {l v q gl : Nat} {bi : Int32} {F : Nat → Nat → Nat} (hF : ∀ v w, F v w < 16) (wl : WL h A P l F) (sq : SQ h gl bi) (hl2 : l < 3) (hv : v < A 4) (hq : q < A 3) (hg : gl < A 3) (an : Bool) : ∃ o, f_X9_openBehind h 61 (nI l) (nI v) (nI q) (bI an) = some (nI o) ∧ o < 2 ^ (2 * A 3) ∧ (o = 0 ↔ opN A P Q S F v q gl = 0) ∧ (an = false → o = opN A P Q S F v q gl) := by
  obtain ⟨b0, b1, b2l, b2, b3, b4⟩ := wf_b hw
  have cle := cntB_le (lfB A P F) (A 2)
  have hS : ∀ w k, w < A 2 → P w = true → k < 4 → S v q w k < 2 * A 3 := fun w k h1 h2 h3 => (hc.2.2.2.2.2.2 v q w hv hq h1 h2).2 k h3
  have x0 : h.2.1 64 l = nI (cntB (lfB A P F) (A 2)) := wl.1
  have sq7 : h.2.1 61 7 = nI gl := sq.1
  have p24 : 2 ^ (2 * A 3) ≤ 2 ^ 24 := Nat.pow_le_pow_right (by decide) (by omega)
  have oy := ob_lt (F := F) (p := Q gl) b3 hS
  have on_ := ob_lt (F := F) (p := fun w => !Q gl w) b3 hS
  have e : ∃ e, f_X9_openBehind_l26 h 61 (nI l) (nI v) (nI q) (bI an) c (nI (l * 256)) (nI 0) (nI 0) (nI (l * 256)) = some e ∧ ∃ i, i ≤ cntB (lfB A P F) (A 2) ∧ e = (nI (obN A P S F v q (Q gl) i), nI (obN A P S F v q (fun w => !Q gl w) i)) ∧ (i = cntB (lfB A P F) (A 2) ∨ (an = true ∧ obN A P S F v q (Q gl) i &&& obN A P S F v q (fun w => !Q gl w) i ≠ 0)) := by
    refine whl0 (fun i (s : Int32 × Int32 × Int32) => s = (nI (obN A P S F v q (Q gl) i), nI (obN A P S F v q (fun w => !Q gl w) i), nI (l * 256 + i))) _ (cntB (lfB A P F) (A 2)) (by omega) (by simp only [Nat.add_zero, obN, orN]) ?_
    rintro i _ rfl hi
    have l1 := oy i hi
    have l2 := on_ i hi
    have l3 : obN A P S F v q (Q gl) i &&& obN A P S F v q (fun w => !Q gl w) i < 2147483648 := Nat.lt_of_le_of_lt Nat.and_le_left (by omega)
    rcases Nat.lt_or_ge i (cntB (lfB A P F) (A 2)) with qi | qi
    · have step : obN A P S F v q (Q gl) i &&& obN A P S F v q (fun w => !Q gl w) i = 0 ∨ an = false → f_X9_openBehind_b26 h 61 (nI l) (nI v) (nI q) (bI an) c (nI (l * 256)) (nI (obN A P S F v q (Q gl) i)) (nI (obN A P S F v q (fun w => !Q gl w) i)) (nI (l * 256 + i)) = some (.inl (nI (obN A P S F v q (Q gl) (i + 1)), nI (obN A P S F v q (fun w => !Q gl w) (i + 1)), nI (l * 256 + (i + 1)))) := fun hh => by
        obtain ⟨a1, a2, a3⟩ := al_at (al_N (lfB A P F) (A 2)) i qi
        have ap : P (alN (lfB A P F) (A 2) i) = true := by
          unfold lfB at a2
          rw [Bool.and_eq_true] at a2
          exact a2.1
        obtain ⟨x1, x2⟩ := wl.2 i qi
        rw [Nat.mul_comm] at x1 x2
        have kl := k4_lt (A := A) hF (alN (lfB A P F) (A 2) i)
        have p4 := pk4_lt kl
        have pa := pk4_at kl (show v < 4 by omega)
        rw [show k4 A F (alN (lfB A P F) (A 2) i) v = F v (alN (lfB A P F) (A 2) i) from if_pos hv] at pa
        have fl := hF v (alN (lfB A P F) (A 2) i)
        have r1 := c_packed hs hc hw hv hq a1 ap
        have r2 := c_answersOf (h := h) (s := S v q (alN (lfB A P F) (A 2) i)) (fun k hk => by have := hS _ k a1 ap hk; omega) (m := F v (alN (lfB A P F) (A 2) i)) (by omega)
        have r3 := c_inQ hs hc hw a1 hg
        have jj : f_X9_openBehind_j53 h 61 (nI l) (nI v) (nI q) (bI an) c (nI (l * 256)) (nI (obN A P S F v q (Q gl) i)) (nI (obN A P S F v q (fun w => !Q gl w) i)) (nI (l * 256 + i)) = some (.inl (nI (obN A P S F v q (Q gl) (i + 1)), nI (obN A P S F v q (fun w => !Q gl w) (i + 1)), nI (l * 256 + (i + 1)))) := by
          cases hQ : Q gl (alN (lfB A P F) (A 2) i)
          · rw [hQ] at r3
            simp (disch := first | assumption | omega | decide | ((repeat first | apply lyI | apply lyJ | apply lywI | apply lywJ | apply csI | apply csJ | apply cswI | apply cswJ); assumption)) only [f_X9_openBehind_j53, f_X9_openBehind_j127, SS, SC, LI, ↓li_m1, nI_add, pk_mul, nn_sub, nn_m1, nn_div, nn_rem, nn_nz, nn_mod, nJ_l, lN_add, lN_mul, nn_tb1, nI_bt, nn_and, nn_or, nn_xor, nn_shr, nn_1shl, nn_31, il_p, il_n, it_p, it_n, ie_p, ie_n, ie_b, ie_b1, ie_m, ie_mm, it_m, it_m0, il_m0, bI_rZ, Option.bind_some, bd2_some, Nat.add_zero, Nat.zero_add, if_true, if_false, Bool.false_eq_true, eq_self, hI_R, hJ_R, x1, x2, pa, r1, r2, sq7, r3, bI_f, Nat.add_assoc]
            simp only [obN, orN, hQ, Bool.false_eq_true, if_false, Nat.or_zero, Bool.not_false, if_true]
          · rw [hQ] at r3
            simp (disch := first | assumption | omega | decide | ((repeat first | apply lyI | apply lyJ | apply lywI | apply lywJ | apply csI | apply csJ | apply cswI | apply cswJ); assumption)) only [f_X9_openBehind_j53, f_X9_openBehind_j127, SS, SC, LI, ↓li_m1, nI_add, pk_mul, nn_sub, nn_m1, nn_div, nn_rem, nn_nz, nn_mod, nJ_l, lN_add, lN_mul, nn_tb1, nI_bt, nn_and, nn_or, nn_xor, nn_shr, nn_1shl, nn_31, il_p, il_n, it_p, it_n, ie_p, ie_n, ie_b, ie_b1, ie_m, ie_mm, it_m, it_m0, il_m0, bI_rZ, Option.bind_some, bd2_some, Nat.add_zero, Nat.zero_add, if_true, if_false, Bool.false_eq_true, eq_self, hI_R, hJ_R, x1, x2, pa, r1, r2, sq7, r3, bI_t, Nat.add_assoc]
            simp only [obN, orN, hQ, Bool.false_eq_true, if_false, Nat.or_zero, Bool.not_true, if_true]
        rcases (Bool.eq_false_or_eq_true an).symm with ha | ha
        · rw [ha] at jj ⊢
          simp (disch := first | assumption | omega | decide | ((repeat first | apply lyI | apply lyJ | apply lywI | apply lywJ | apply csI | apply csJ | apply cswI | apply cswJ); assumption)) only [f_X9_openBehind_b26, SS, LI, ↓li_m1, nI_add, pk_mul, nn_sub, nn_m1, nn_div, nn_rem, nn_nz, nn_mod, nJ_l, lN_add, lN_mul, nn_tb1, nI_bt, nn_and, nn_or, nn_xor, nn_shr, nn_1shl, nn_31, il_p, il_n, it_p, it_n, ie_p, ie_n, ie_b, ie_b1, ie_m, ie_mm, it_m, it_m0, il_m0, bI_rZ, Option.bind_some, bd2_some, Nat.add_zero, Nat.zero_add, if_true, if_false, Bool.false_eq_true, eq_self, hI_R, hJ_R, x0, bI_f]
          rw [bI_f] at jj
          exact jj
        · rcases hh with hh | hh
          · rw [ha] at jj ⊢
            simp (disch := first | assumption | omega | decide | ((repeat first | apply lyI | apply lyJ | apply lywI | apply lywJ | apply csI | apply csJ | apply cswI | apply cswJ); assumption)) only [f_X9_openBehind_b26, SS, LI, ↓li_m1, nI_add, pk_mul, nn_sub, nn_m1, nn_div, nn_rem, nn_nz, nn_mod, nJ_l, lN_add, lN_mul, nn_tb1, nI_bt, nn_and, nn_or, nn_xor, nn_shr, nn_1shl, nn_31, il_p, il_n, it_p, it_n, ie_p, ie_n, ie_b, ie_b1, ie_m, ie_mm, it_m, it_m0, il_m0, bI_rZ, Option.bind_some, bd2_some, Nat.add_zero, Nat.zero_add, if_true, if_false, Bool.false_eq_true, eq_self, hI_R, hJ_R, x0, bI_t, hh]
            rw [bI_t] at jj
            exact jj
          · rw [ha] at hh
            cases hh
      by_cases hz : obN A P S F v q (Q gl) i &&& obN A P S F v q (fun w => !Q gl w) i = 0
      · exact Or.inl ⟨_, step (Or.inl hz), qi, rfl⟩
      · rcases (Bool.eq_false_or_eq_true an).symm with ha | ha
        · exact Or.inl ⟨_, step (Or.inr ha), qi, rfl⟩
        · refine Or.inr ⟨(nI (obN A P S F v q (Q gl) i), nI (obN A P S F v q (fun w => !Q gl w) i)), ?_, i, hi, rfl, Or.inr ⟨ha, hz⟩⟩
          rw [ha]
          simp (disch := first | assumption | omega | decide | ((repeat first | apply lyI | apply lyJ | apply lywI | apply lywJ | apply csI | apply csJ | apply cswI | apply cswJ); assumption)) only [f_X9_openBehind_b26, SS, LI, ↓li_m1, nI_add, pk_mul, nn_sub, nn_m1, nn_div, nn_rem, nn_nz, nn_mod, nJ_l, lN_add, lN_mul, nn_tb1, nI_bt, nn_and, nn_or, nn_xor, nn_shr, nn_1shl, nn_31, il_p, il_n, it_p, it_n, ie_p, ie_n, ie_b, ie_b1, ie_m, ie_mm, it_m, it_m0, il_m0, bI_rZ, Option.bind_some, bd2_some, Nat.add_zero, Nat.zero_add, if_true, if_false, Bool.false_eq_true, eq_self, hI_R, hJ_R, x0, bI_t]
    · obtain rfl : i = cntB (lfB A P F) (A 2) := by omega
      exact Or.inr ⟨(nI (obN A P S F v q (Q gl) (cntB (lfB A P F) (A 2))), nI (obN A P S F v q (fun w => !Q gl w) (cntB (lfB A P F) (A 2)))), by simp (disch := first | assumption | omega | decide | ((repeat first | apply lyI | apply lyJ | apply lywI | apply lywJ | apply csI | apply csJ | apply cswI | apply cswJ); assumption)) only [f_X9_openBehind_b26, SS, LI, ↓li_m1, nI_add, pk_mul, nn_sub, nn_m1, nn_div, nn_rem, nn_nz, nn_mod, nJ_l, lN_add, lN_mul, nn_tb1, nI_bt, nn_and, nn_or, nn_xor, nn_shr, nn_1shl, nn_31, il_p, il_n, it_p, it_n, ie_p, ie_n, ie_b, ie_b1, ie_m, ie_mm, it_m, it_m0, il_m0, bI_rZ, Option.bind_some, bd2_some, Nat.add_zero, Nat.zero_add, if_true, if_false, Bool.false_eq_true, eq_self, hI_R, hJ_R, x0], _, Nat.le_refl _, rfl, Or.inl rfl⟩
  obtain ⟨_, e1, i, hi, rfl, ht⟩ := e
  have l1 := oy i hi
  refine ⟨obN A P S F v q (Q gl) i &&& obN A P S F v q (fun w => !Q gl w) i, by simp (disch := first | assumption | omega | decide | ((repeat first | apply lyI | apply lyJ | apply lywI | apply lywJ | apply csI | apply csJ | apply cswI | apply cswJ); assumption)) only [f_X9_openBehind, SS, SH52, LI, ↓li_m1, nI_add, pk_mul, nn_sub, nn_m1, nn_div, nn_rem, nn_nz, nn_mod, nJ_l, lN_add, lN_mul, nn_tb1, nI_bt, nn_and, nn_or, nn_xor, nn_shr, nn_1shl, nn_31, il_p, il_n, it_p, it_n, ie_p, ie_n, ie_b, ie_b1, ie_m, ie_mm, it_m, it_m0, il_m0, bI_rZ, Option.bind_some, bd2_some, Nat.add_zero, Nat.zero_add, if_true, if_false, Bool.false_eq_true, eq_self, hI_R, hJ_R, hf, e1], Nat.lt_of_le_of_lt Nat.and_le_left l1, ?_, ?_⟩
  · rcases ht with rfl | ⟨-, ht⟩
    · exact Iff.rfl
    · refine ⟨fun e => absurd e ht, fun e => absurd ?_ ht⟩
      apply Nat.eq_of_testBit_eq
      intro a
      rw [Nat.zero_testBit, ← Bool.not_eq_true, Nat.testBit_and, Bool.and_eq_true]
      rintro ⟨y1, y2⟩
      have := congrArg (fun x => x.testBit a) e
      simp only [opN, Nat.testBit_and, Nat.zero_testBit] at this
      have z1 : (obN A P S F v q (Q gl) (cntB (lfB A P F) (A 2))).testBit a = true := ob_mono hi y1
      have z2 : (obN A P S F v q (fun w => !Q gl w) (cntB (lfB A P F) (A 2))).testBit a = true := ob_mono hi y2
      rw [z1, z2] at this
      cases this
  · intro ha
    rcases ht with rfl | ⟨ht, -⟩
    · rfl
    · rw [ha] at ht
      cases ht
/-- the first witness, and the first question, that are enough -/
def ffO (A : Nat → Nat) (ask : Nat → Bool) (ok : Nat → Nat → Bool) : Option (Nat × Nat) := match firstB (fun v => ask v && anyB (ok v) (A 3)) (A 4) with
  | some v => match firstB (ok v) (A 3) with
    | some q => some (v, q)
    | none => none
  | none => none
def ffI : Option (Nat × Nat) → Int32
  | some (v, q) => nI (v * 12 + q)
  | none => m1
theorem ff_by {A : Nat → Nat} {P : Nat → Bool} {Q : Nat → Nat → Bool} {S : Nat → Nat → Nat → Nat → Nat} {g m : Nat} {ask : Nat → Bool} {F : Nat → Nat → Nat} {pu : Nat → Bool} : (ffO A ask (fun v q => !pu q && okB A P Q S g (byN A P Q S g ask m) F pu v q)).isSome = byN A P Q S g ask (m + 1) F pu := by
  show _ = anyB (fun v => anyB (fun q => ask v && !pu q && okB A P Q S g (byN A P Q S g ask m) F pu v q) (A 3)) (A 4)
  have e : ∀ v, anyB (fun q => ask v && !pu q && okB A P Q S g (byN A P Q S g ask m) F pu v q) (A 3) = (ask v && anyB (fun q => !pu q && okB A P Q S g (byN A P Q S g ask m) F pu v q) (A 3)) := fun v => by
    cases ask v
    · rw [Bool.false_and, anyB_f]
      intro q _
      rw [Bool.false_and, Bool.false_and]
    · rw [Bool.true_and]
      exact anyB_congr (fun q _ => by rw [Bool.true_and])
  rw [anyB_congr (fun v _ => e v), anyB_first]
  unfold ffO
  cases hv : firstB (fun v => ask v && anyB (fun q => !pu q && okB A P Q S g (byN A P Q S g ask m) F pu v q) (A 3)) (A 4) with
  | none => rfl
  | some v =>
    have h2 := (firstB_s.mp hv).2.1
    rw [Bool.and_eq_true, anyB_first] at h2
    cases hq : firstB (fun q => !pu q && okB A P Q S g (byN A P Q S g ask m) F pu v q) (A 3) with
    | none =>
      rw [hq] at h2
      cases h2.2
    | some q =>
      simp only [hq]
      rfl
theorem ff_b {A : Nat → Nat} {ask : Nat → Bool} {ok : Nat → Nat → Bool} {v q : Nat} (h : ffO A ask ok = some (v, q)) : v < A 4 ∧ q < A 3 := by
  unfold ffO at h
  cases hv : firstB (fun v => ask v && anyB (ok v) (A 3)) (A 4) with
  | none =>
    rw [hv] at h
    cases h
  | some x =>
    rw [hv] at h
    simp only at h
    cases hq : firstB (ok x) (A 3) with
    | none =>
      rw [hq] at h
      cases h
    | some y =>
      rw [hq] at h
      cases h
      exact ⟨(firstB_s.mp hv).1, (firstB_s.mp hq).1⟩
/-- what settles must do, for the search of the first to be right -/
def SetOK (A : Nat → Nat) (P : Nat → Bool) (Q : Nat → Nat → Bool) (S : Nat → Nat → Nat → Nat → Nat) (gl : Nat) (bi : Int32) (c l m : Nat) (st : aH → Nat → Int32 → Int32 → Int32 → Int32 → Int32 → Option (Int32 × aH)) : Prop := ∀ (h : aH) (F : Nat → Nat → Nat) (pm : Nat) (pu : Nat → Bool) (v q : Nat), LAY h → CS h c → CC h c A P Q S → h.2.2.2 52 4 = some c → (∀ v w, F v w < 16) → WL h A P l F → SQ h gl bi → pm < 4096 → (∀ x, x < 12 → pm.testBit x = pu x) → v < A 4 → q < A 3 → pu q = false → ∃ h', st h 61 (nI l) (nI v) (nI q) (nI (m + 1)) (nI pm) = some (bI (okB A P Q S gl (byN A P Q S gl (askB bi) m) F pu v q), h') ∧ SF h h' l
theorem k_first {h : aH} {c : Nat} (hs : CS h c) {A : Nat → Nat} {P : Nat → Bool} {Q : Nat → Nat → Bool} {S : Nat → Nat → Nat → Nat → Nat} (hc : CC h c A P Q S) (hw : WF A) (hl : LAY h) (hf : h.2.2.2 52 4 = some c) {l gl m pm : Nat} {bi : Int32} {F : Nat → Nat → Nat} {pu : Nat → Bool} (hF : ∀ v w, F v w < 16) (wl : WL h A P l F) (sq : SQ h gl bi) (hp : pm < 4096) (hpu : ∀ x, x < 12 → pm.testBit x = pu x) {st : aH → Nat → Int32 → Int32 → Int32 → Int32 → Int32 → Option (Int32 × aH)} (so : SetOK A P Q S gl bi c l m st) : ∃ h', f_X9_firstOf_g st h 61 (nI l) (nI (m + 1)) (nI pm) = some (ffI (ffO A (askB bi) (fun v q => !pu q && okB A P Q S gl (byN A P Q S gl (askB bi) m) F pu v q)), h') ∧ SF h h' l := by
  obtain ⟨b0, b1, b2l, b2, b3, b4⟩ := wf_b hw
  let ok : Nat → Nat → Bool := fun v q => !pu q && okB A P Q S gl (byN A P Q S gl (askB bi) m) F pu v q
  have e1 : ∀ g v, SF h g l → v < A 4 → ∃ e, f_X9_firstOf_l45 st 61 (nI l) (nI (m + 1)) (nI pm) c (nI v) (nI 0) g = some e ∧ ∃ g', SF h g' l ∧ ((∃ q, firstB (ok v) (A 3) = some q ∧ e = .inl (nI q, g')) ∨ (firstB (ok v) (A 3) = none ∧ e = .inr g')) := fun g0 v s0 hv => by
    refine whl0 (fun i (s : Int32 × aH) => ∃ g, s = (nI i, g) ∧ SF h g l ∧ ∀ q, q < i → ok v q = false) _ (A 3) (by omega) ⟨g0, rfl, s0, fun q hq => absurd hq (by omega)⟩ ?_
    rintro i _ ⟨g, rfl, sg, hi0⟩ hi
    have lg := sg.1.lay hl
    have cs := cs_fr sg.1 hs
    have cg := cc_fr sg.1 (by decide) hs hc
    have e3 := cg.1.2.2.2.2.1
    rcases Nat.lt_or_ge i (A 3) with qi | qi
    · have ep := hpu i (by omega)
      have nx : ok v i = false → ∀ q, q < i + 1 → ok v q = false := fun hh q hq => by
        rcases Nat.lt_or_ge q i with u | u
        · exact hi0 q u
        · rw [show q = i by omega, hh]
      rcases (Bool.eq_false_or_eq_true (pu i)).symm with hpi | hpi
      · rw [hpi] at ep
        obtain ⟨g', r, sg'⟩ := so g F pm pu v i lg cs cg (sf_r sg hf) hF (sf_wl b2 sg wl) (sf_sq sg sq) hp hpu hv qi hpi
        rcases (Bool.eq_false_or_eq_true (okB A P Q S gl (byN A P Q S gl (askB bi) m) F pu v i)).symm with hok | hok
        · rw [hok] at r
          exact Or.inl ⟨(nI (i + 1), g'), by simp (disch := first | assumption | omega | decide | ((repeat first | apply lyI | apply lyJ | apply lywI | apply lywJ | apply csI | apply csJ | apply cswI | apply cswJ); assumption)) only [f_X9_firstOf_b45, f_X9_firstOf_j87, SS, SC, LI, ↓li_m1, nI_add, pk_mul, nn_sub, nn_m1, nn_div, nn_rem, nn_nz, nn_mod, nJ_l, lN_add, lN_mul, nn_tb1, nI_bt, nn_and, nn_or, nn_xor, nn_shr, nn_1shl, nn_31, il_p, il_n, it_p, it_n, ie_p, ie_n, ie_b, ie_b1, ie_m, ie_mm, it_m, it_m0, il_m0, bI_rZ, Option.bind_some, bd2_some, Nat.add_zero, Nat.zero_add, if_true, if_false, Bool.false_eq_true, eq_self, hI_R, hJ_R, e3, ep, bI_f, r], qi, g', rfl, sf_tr sg sg', nx (by show (!pu i && _) = false; rw [hok, Bool.and_false])⟩
        · rw [hok] at r
          have okt : ok v i = true := by
            show (!pu i && _) = true
            rw [hok, hpi]
            rfl
          exact Or.inr ⟨.inl (nI i, g'), by simp (disch := first | assumption | omega | decide | ((repeat first | apply lyI | apply lyJ | apply lywI | apply lywJ | apply csI | apply csJ | apply cswI | apply cswJ); assumption)) only [f_X9_firstOf_b45, f_X9_firstOf_j87, SS, SC, LI, ↓li_m1, nI_add, pk_mul, nn_sub, nn_m1, nn_div, nn_rem, nn_nz, nn_mod, nJ_l, lN_add, lN_mul, nn_tb1, nI_bt, nn_and, nn_or, nn_xor, nn_shr, nn_1shl, nn_31, il_p, il_n, it_p, it_n, ie_p, ie_n, ie_b, ie_b1, ie_m, ie_mm, it_m, it_m0, il_m0, bI_rZ, Option.bind_some, bd2_some, Nat.add_zero, Nat.zero_add, if_true, if_false, Bool.false_eq_true, eq_self, hI_R, hJ_R, e3, ep, bI_f, bI_t, r], g', sf_tr sg sg', Or.inl ⟨i, firstB_s.mpr ⟨qi, okt, hi0⟩, rfl⟩⟩
      · rw [hpi] at ep
        exact Or.inl ⟨(nI (i + 1), g), by simp (disch := first | assumption | omega | decide | ((repeat first | apply lyI | apply lyJ | apply lywI | apply lywJ | apply csI | apply csJ | apply cswI | apply cswJ); assumption)) only [f_X9_firstOf_b45, f_X9_firstOf_j87, SS, SC, LI, ↓li_m1, nI_add, pk_mul, nn_sub, nn_m1, nn_div, nn_rem, nn_nz, nn_mod, nJ_l, lN_add, lN_mul, nn_tb1, nI_bt, nn_and, nn_or, nn_xor, nn_shr, nn_1shl, nn_31, il_p, il_n, it_p, it_n, ie_p, ie_n, ie_b, ie_b1, ie_m, ie_mm, it_m, it_m0, il_m0, bI_rZ, Option.bind_some, bd2_some, Nat.add_zero, Nat.zero_add, if_true, if_false, Bool.false_eq_true, eq_self, hI_R, hJ_R, e3, ep, bI_t], qi, g, rfl, sg, nx (by show (!pu i && _) = false; rw [hpi]; rfl)⟩
    · obtain rfl : i = A 3 := by omega
      exact Or.inr ⟨.inr g, by simp (disch := first | assumption | omega | decide | ((repeat first | apply lyI | apply lyJ | apply lywI | apply lywJ | apply csI | apply csJ | apply cswI | apply cswJ); assumption)) only [f_X9_firstOf_b45, SS, SC, LI, ↓li_m1, nI_add, pk_mul, nn_sub, nn_m1, nn_div, nn_rem, nn_nz, nn_mod, nJ_l, lN_add, lN_mul, nn_tb1, nI_bt, nn_and, nn_or, nn_xor, nn_shr, nn_1shl, nn_31, il_p, il_n, it_p, it_n, ie_p, ie_n, ie_b, ie_b1, ie_m, ie_mm, it_m, it_m0, il_m0, bI_rZ, Option.bind_some, bd2_some, Nat.add_zero, Nat.zero_add, if_true, if_false, Bool.false_eq_true, eq_self, hI_R, hJ_R, e3], g, sg, Or.inr ⟨firstB_n.mpr hi0, rfl⟩⟩
  have e2 : ∃ e, f_X9_firstOf_l12 st 61 (nI l) (nI (m + 1)) (nI pm) c (nI 0) h = some e ∧ ∃ g', SF h g' l ∧ ((∃ v q, ffO A (askB bi) ok = some (v, q) ∧ e = .inl (nI v, nI q, g')) ∨ (ffO A (askB bi) ok = none ∧ e = .inr g')) := by
    refine whl0 (fun i (s : Int32 × aH) => ∃ g, s = (nI i, g) ∧ SF h g l ∧ ∀ v, v < i → (askB bi v && anyB (ok v) (A 3)) = false) _ (A 4) (by omega) ⟨h, rfl, sf_rf, fun v hv => absurd hv (by omega)⟩ ?_
    rintro i _ ⟨g, rfl, sg, hi0⟩ hi
    have lg := sg.1.lay hl
    have cs := cs_fr sg.1 hs
    have cg := cc_fr sg.1 (by decide) hs hc
    have e4 := cg.1.2.2.2.2.2.1
    have s8 : g.2.1 61 8 = bi := (sf_sq sg sq).2
    rcases Nat.lt_or_ge i (A 4) with qi | qi
    · have nx : (askB bi i && anyB (ok i) (A 3)) = false → ∀ v, v < i + 1 → (askB bi v && anyB (ok v) (A 3)) = false := fun hh v hv => by
        rcases Nat.lt_or_ge v i with u | u
        · exact hi0 v u
        · rw [show v = i by omega, hh]
      have inner : askB bi i = true → (∃ s', f_X9_firstOf_j42 st g 61 (nI l) (nI (m + 1)) (nI pm) c (nI i) = some (.inl s') ∧ ∃ g', s' = (nI (i + 1), g') ∧ SF h g' l ∧ ∀ v, v < i + 1 → (askB bi v && anyB (ok v) (A 3)) = false) ∨ ∃ e, f_X9_firstOf_j42 st g 61 (nI l) (nI (m + 1)) (nI pm) c (nI i) = some (.inr e) ∧ ∃ g', SF h g' l ∧ ((∃ v q, ffO A (askB bi) ok = some (v, q) ∧ e = .inl (nI v, nI q, g')) ∨ (ffO A (askB bi) ok = none ∧ e = .inr g')) := fun hak => by
        obtain ⟨_, ee, g', sg', ⟨q, hq, rfl⟩ | ⟨hq, rfl⟩⟩ := e1 g i sg qi
        · refine Or.inr ⟨.inl (nI i, nI q, g'), by simp (disch := first | assumption | omega | decide | ((repeat first | apply lyI | apply lyJ | apply lywI | apply lywJ | apply csI | apply csJ | apply cswI | apply cswJ); assumption)) only [f_X9_firstOf_j42, LI, ↓li_m1, nI_add, pk_mul, nn_sub, nn_m1, nn_div, nn_rem, nn_nz, nn_mod, nJ_l, lN_add, lN_mul, nn_tb1, nI_bt, nn_and, nn_or, nn_xor, nn_shr, nn_1shl, nn_31, il_p, il_n, it_p, it_n, ie_p, ie_n, ie_b, ie_b1, ie_m, ie_mm, it_m, it_m0, il_m0, bI_rZ, Option.bind_some, bd2_some, Nat.add_zero, Nat.zero_add, if_true, if_false, Bool.false_eq_true, eq_self, hI_R, hJ_R, ee], g', sg', Or.inl ⟨i, q, ?_, rfl⟩⟩
          have : firstB (fun v => askB bi v && anyB (ok v) (A 3)) (A 4) = some i := firstB_s.mpr ⟨qi, by rw [hak, anyB_first, hq]; rfl, hi0⟩
          unfold ffO
          rw [this]
          simp only [hq]
        · exact Or.inl ⟨(nI (i + 1), g'), by simp (disch := first | assumption | omega | decide | ((repeat first | apply lyI | apply lyJ | apply lywI | apply lywJ | apply csI | apply csJ | apply cswI | apply cswJ); assumption)) only [f_X9_firstOf_j42, f_X9_firstOf_j93, LI, ↓li_m1, nI_add, pk_mul, nn_sub, nn_m1, nn_div, nn_rem, nn_nz, nn_mod, nJ_l, lN_add, lN_mul, nn_tb1, nI_bt, nn_and, nn_or, nn_xor, nn_shr, nn_1shl, nn_31, il_p, il_n, it_p, it_n, ie_p, ie_n, ie_b, ie_b1, ie_m, ie_mm, it_m, it_m0, il_m0, bI_rZ, Option.bind_some, bd2_some, Nat.add_zero, Nat.zero_add, if_true, if_false, Bool.false_eq_true, eq_self, hI_R, hJ_R, ee], g', rfl, sg', nx (by rw [anyB_first, hq]; simp)⟩
      by_cases hb1 : bi = m1
      · have hak : askB bi i = true := by
          unfold askB
          rw [decide_eq_true hb1]
          rfl
        have eb : f_X9_firstOf_b12 st 61 (nI l) (nI (m + 1)) (nI pm) c (nI i) g = f_X9_firstOf_j42 st g 61 (nI l) (nI (m + 1)) (nI pm) c (nI i) := by
          rw [hb1] at s8
          simp (disch := first | assumption | omega | decide | ((repeat first | apply lyI | apply lyJ | apply lywI | apply lywJ | apply csI | apply csJ | apply cswI | apply cswJ); assumption)) only [f_X9_firstOf_b12, SS, SC, LI, ↓li_m1, nI_add, pk_mul, nn_sub, nn_m1, nn_div, nn_rem, nn_nz, nn_mod, nJ_l, lN_add, lN_mul, nn_tb1, nI_bt, nn_and, nn_or, nn_xor, nn_shr, nn_1shl, nn_31, il_p, il_n, it_p, it_n, ie_p, ie_n, ie_b, ie_b1, ie_m, ie_mm, it_m, it_m0, il_m0, bI_rZ, Option.bind_some, bd2_some, Nat.add_zero, Nat.zero_add, if_true, if_false, Bool.false_eq_true, eq_self, hI_R, hJ_R, e4, s8]
        rcases inner hak with ⟨s', x1, g', x2, x3, x4⟩ | ⟨e', x1, x2⟩
        · exact Or.inl ⟨s', eb.trans x1, qi, g', x2, x3, x4⟩
        · exact Or.inr ⟨e', eb.trans x1, x2⟩
      · by_cases hb2 : bi = nI i
        · have hak : askB bi i = true := by
            unfold askB
            rw [decide_eq_true hb2, Bool.or_true]
          have eb : f_X9_firstOf_b12 st 61 (nI l) (nI (m + 1)) (nI pm) c (nI i) g = f_X9_firstOf_j42 st g 61 (nI l) (nI (m + 1)) (nI pm) c (nI i) := by
            rw [hb2] at s8
            simp (disch := first | assumption | omega | decide | ((repeat first | apply lyI | apply lyJ | apply lywI | apply lywJ | apply csI | apply csJ | apply cswI | apply cswJ); assumption)) only [f_X9_firstOf_b12, SS, SC, LI, ↓li_m1, nI_add, pk_mul, nn_sub, nn_m1, nn_div, nn_rem, nn_nz, nn_mod, nJ_l, lN_add, lN_mul, nn_tb1, nI_bt, nn_and, nn_or, nn_xor, nn_shr, nn_1shl, nn_31, il_p, il_n, it_p, it_n, ie_p, ie_n, ie_b, ie_b1, ie_m, ie_mm, it_m, it_m0, il_m0, bI_rZ, Option.bind_some, bd2_some, Nat.add_zero, Nat.zero_add, if_true, if_false, Bool.false_eq_true, eq_self, hI_R, hJ_R, e4, s8]
          rcases inner hak with ⟨s', x1, g', x2, x3, x4⟩ | ⟨e', x1, x2⟩
          · exact Or.inl ⟨s', eb.trans x1, qi, g', x2, x3, x4⟩
          · exact Or.inr ⟨e', eb.trans x1, x2⟩
        · have hak : askB bi i = false := by
            unfold askB
            rw [decide_eq_false hb1, decide_eq_false hb2]
            rfl
          have hb3 : ¬ nI i = bi := fun e => hb2 e.symm
          exact Or.inl ⟨(nI (i + 1), g), by simp (disch := first | assumption | omega | decide | ((repeat first | apply lyI | apply lyJ | apply lywI | apply lywJ | apply csI | apply csJ | apply cswI | apply cswJ); assumption)) only [f_X9_firstOf_b12, f_X9_firstOf_j93, SS, SC, LI, ↓li_m1, nI_add, pk_mul, nn_sub, nn_m1, nn_div, nn_rem, nn_nz, nn_mod, nJ_l, lN_add, lN_mul, nn_tb1, nI_bt, nn_and, nn_or, nn_xor, nn_shr, nn_1shl, nn_31, il_p, il_n, it_p, it_n, ie_p, ie_n, ie_b, ie_b1, ie_m, ie_mm, it_m, it_m0, il_m0, bI_rZ, Option.bind_some, bd2_some, Nat.add_zero, Nat.zero_add, if_true, if_false, Bool.false_eq_true, eq_self, hI_R, hJ_R, e4, s8, if_neg hb1, if_neg hb3], qi, g, rfl, sg, nx (by rw [hak]; rfl)⟩
    · obtain rfl : i = A 4 := by omega
      refine Or.inr ⟨.inr g, by simp (disch := first | assumption | omega | decide | ((repeat first | apply lyI | apply lyJ | apply lywI | apply lywJ | apply csI | apply csJ | apply cswI | apply cswJ); assumption)) only [f_X9_firstOf_b12, SS, SC, LI, ↓li_m1, nI_add, pk_mul, nn_sub, nn_m1, nn_div, nn_rem, nn_nz, nn_mod, nJ_l, lN_add, lN_mul, nn_tb1, nI_bt, nn_and, nn_or, nn_xor, nn_shr, nn_1shl, nn_31, il_p, il_n, it_p, it_n, ie_p, ie_n, ie_b, ie_b1, ie_m, ie_mm, it_m, it_m0, il_m0, bI_rZ, Option.bind_some, bd2_some, Nat.add_zero, Nat.zero_add, if_true, if_false, Bool.false_eq_true, eq_self, hI_R, hJ_R, e4], g, sg, Or.inr ⟨?_, rfl⟩⟩
      unfold ffO
      rw [firstB_n.mpr hi0]
  obtain ⟨_, e3, g, sg, ⟨v, q, hx, rfl⟩ | ⟨hx, rfl⟩⟩ := e2
  · have := ff_b hx
    have hx' : ffO A (askB bi) (fun v q => !pu q && okB A P Q S gl (byN A P Q S gl (askB bi) m) F pu v q) = some (v, q) := hx
    rw [hx']
    exact ⟨g, by simp (disch := first | assumption | omega | decide | ((repeat first | apply lyI | apply lyJ | apply lywI | apply lywJ | apply csI | apply csJ | apply cswI | apply cswJ); assumption)) only [f_X9_firstOf_g, SS, SH52, LI, ↓li_m1, nI_add, pk_mul, nn_sub, nn_m1, nn_div, nn_rem, nn_nz, nn_mod, nJ_l, lN_add, lN_mul, nn_tb1, nI_bt, nn_and, nn_or, nn_xor, nn_shr, nn_1shl, nn_31, il_p, il_n, it_p, it_n, ie_p, ie_n, ie_b, ie_b1, ie_m, ie_mm, it_m, it_m0, il_m0, bI_rZ, Option.bind_some, bd2_some, Nat.add_zero, Nat.zero_add, if_true, if_false, Bool.false_eq_true, eq_self, hI_R, hJ_R, hf, e3]; try rfl, sg⟩
  · have hx' : ffO A (askB bi) (fun v q => !pu q && okB A P Q S gl (byN A P Q S gl (askB bi) m) F pu v q) = none := hx
    rw [hx']
    exact ⟨g, by simp (disch := first | assumption | omega | decide | ((repeat first | apply lyI | apply lyJ | apply lywI | apply lywJ | apply csI | apply csJ | apply cswI | apply cswJ); assumption)) only [f_X9_firstOf_g, SS, SH52, LI, ↓li_m1, nI_add, pk_mul, nn_sub, nn_m1, nn_div, nn_rem, nn_nz, nn_mod, nJ_l, lN_add, lN_mul, nn_tb1, nI_bt, nn_and, nn_or, nn_xor, nn_shr, nn_1shl, nn_31, il_p, il_n, it_p, it_n, ie_p, ie_n, ie_b, ie_b1, ie_m, ie_mm, it_m, it_m0, il_m0, bI_rZ, Option.bind_some, bd2_some, Nat.add_zero, Nat.zero_add, if_true, if_false, Bool.false_eq_true, eq_self, hI_R, hJ_R, hf, e3]; try rfl, sg⟩
