/-! ===== the least proof: the class, on ===== -/
theorem pr_al {A : Nat → Nat} {P : Nat → Bool} {Q : Nat → Bool} {how : Bool} {S : Nat → Nat → Nat → Nat → Nat} {M : Nat → Nat → Nat} {n m : Nat} : prB A P Q how S M n m = !anyB (fun i => svB A S M n m (alN (agB P Q how) (A 2) i)) (cntB (agB P Q how) (A 2)) := by
  unfold prB
  rw [al_any (q := fun w => svB A S M n m w) (al_N (agB P Q how) (A 2))]
/-- isProof changes nothing but where it looks first -/
def LF1 (h g : aH) : Prop := FR h g [61] [] [] [] ∧ ∀ k, k ≠ 6 → g.2.1 61 k = h.2.1 61 k
theorem lf1_rf {h : aH} : LF1 h h := ⟨FR.rf, fun _ _ => rfl⟩
theorem lf1_tr {h g k : aH} (a : LF1 h g) (b : LF1 g k) : LF1 h k := ⟨a.1.tr b.1, fun x hx => (b.2 x hx).trans (a.2 x hx)⟩
theorem hh_fr {h h' : aH} {n d : Nat} {M : Nat → Nat → Nat} {A : Nat → Nat} {P : Nat → Bool} {S : Nat → Nat → Nat → Nat → Nat} {cI cJ f0 f1 : List Nat} {k : Nat} (hf : FR h h' cI cJ f0 f1) (h1 : ∀ x ∈ cI, x < 52 ∨ 59 < x) (hm : MN h 53 n d M) (hr : HR h 52 A P S M k) : MN h' 53 n d M ∧ HR h' 52 A P S M k := by
  have e : ∀ x, 52 ≤ x → x ≤ 59 → h'.2.1 x = h.2.1 x := fun x x1 x2 => hf.I x (fun hx => by have := h1 x hx; omega) (by omega) (by omega)
  unfold MN HR
  rw [e 53 (by decide) (by decide), e (53 + 1) (by decide) (by decide), e (53 + 2) (by decide) (by decide), e (53 + 3) (by decide) (by decide), e (53 + 4) (by decide) (by decide), e 52 (by decide) (by decide), e (52 + 6) (by decide) (by decide), e (52 + 7) (by decide) (by decide)]
  exact ⟨hm, hr⟩
theorem k_isProof {h : aH} {c : Nat} (hs : CS h c) {A : Nat → Nat} {P : Nat → Bool} {Q : Nat → Nat → Bool} {S : Nat → Nat → Nat → Nat → Nat} (hc : CC h c A P Q S) (hw : WF A) (hl : LAY h) (hf : h.2.2.2 52 4 = some c) {n d : Nat} {M : Nat → Nat → Nat} (hm : MN h 53 n d M) (mw : MW A n d M) (hr : HR h 52 A P S M n) {Qq : Nat → Bool} {how : Bool} (ag : AG h A S M n (agB P Qq how)) {m : Nat} (hm2 : m < 2 ^ n) : ∃ h', f_X9_isProof h 61 (nI m) = some (bI (prB A P Qq how S M n m), h') ∧ LF1 h h' ∧ AG h' A S M n (agB P Qq how) := by
  obtain ⟨b0, b1, b2l, b2, b3, b4⟩ := wf_b hw
  obtain ⟨mn, md, mk, mi⟩ := mw
  have hv : h.2.1 52 5 = nI (cntB (lvB A P S M n) (A 2)) := hr.1
  have cle := cntB_le (lvB A P S M n) (A 2)
  have hal : ∀ j, j < cntB (lvB A P S M n) (A 2) → h.2.1 59 j = nI (alN (lvB A P S M n) (A 2) j) ∧ alN (lvB A P S M n) (A 2) j < A 2 ∧ lvB A P S M n (alN (lvB A P S M n) (A 2) j) = true := fun j hj => hr_al hr hj
  have aln := al_N (lvB A P S M n) (A 2)
  have cle' := cntB_le (agB P Qq how) (A 2)
  obtain ⟨a5, a65, ls, a6, als⟩ := ag
  have ag' : AG h A S M n (agB P Qq how) := ⟨a5, a65, ls, a6, als⟩
  rw [pr_al]
  have e1 : f_X9_isProof_l23 h 61 (nI m) (nI 0) = some (match firstB (fun i => svB A S M n m (alN (agB P Qq how) (A 2) i)) (cntB (agB P Qq how) (A 2)) with | some j => .inl (nI j) | none => .inr ()) := by
    refine srch (fun j => nI j) (fun i => svB A S M n m (alN (agB P Qq how) (A 2) i)) (cntB (agB P Qq how) (A 2)) (fun j => (Sum.inl (nI j) : Int32 ⊕ Unit)) (Sum.inr ()) rfl (by omega) (fun j hj hx => ?_) (fun j hj hx => ?_) ?_
    · have r := k_stand hs hc hw hl hf hm ⟨mn, md, mk, mi⟩ hr ag' hj hm2
      rw [hx] at r
      simp (disch := first | assumption | omega | decide | ((repeat first | apply lyI | apply lyJ | apply lywI | apply lywJ | apply csI | apply csJ | apply cswI | apply cswJ); assumption)) only [f_X9_isProof_b23, f_X9_isProof_j21, SS, LI, ↓li_m1, nI_add, pk_mul, nn_sub, nn_m1, nn_div, nn_rem, nn_nz, nn_mod, nJ_l, lN_add, lN_mul, nn_tb1, nI_bt, nn_and, nn_or, nn_xor, nn_shr, nn_1shl, nn_31, il_p, il_n, it_p, it_n, ie_p, ie_n, ie_b, ie_b1, ie_m, ie_mm, it_m, it_m0, il_m0, bI_rZ, Option.bind_some, bd2_some, Nat.add_zero, Nat.zero_add, if_true, if_false, Bool.false_eq_true, eq_self, hI_R, hJ_R, a5, r, bI_f]
    · have r := k_stand hs hc hw hl hf hm ⟨mn, md, mk, mi⟩ hr ag' hj hm2
      rw [hx] at r
      simp (disch := first | assumption | omega | decide | ((repeat first | apply lyI | apply lyJ | apply lywI | apply lywJ | apply csI | apply csJ | apply cswI | apply cswJ); assumption)) only [f_X9_isProof_b23, f_X9_isProof_j21, SS, LI, ↓li_m1, nI_add, pk_mul, nn_sub, nn_m1, nn_div, nn_rem, nn_nz, nn_mod, nJ_l, lN_add, lN_mul, nn_tb1, nI_bt, nn_and, nn_or, nn_xor, nn_shr, nn_1shl, nn_31, il_p, il_n, it_p, it_n, ie_p, ie_n, ie_b, ie_b1, ie_m, ie_mm, it_m, it_m0, il_m0, bI_rZ, Option.bind_some, bd2_some, Nat.add_zero, Nat.zero_add, if_true, if_false, Bool.false_eq_true, eq_self, hI_R, hJ_R, a5, r, bI_t]
    · simp (disch := first | assumption | omega | decide | ((repeat first | apply lyI | apply lyJ | apply lywI | apply lywJ | apply csI | apply csJ | apply cswI | apply cswJ); assumption)) only [f_X9_isProof_b23, f_X9_isProof_j21, SS, LI, ↓li_m1, nI_add, pk_mul, nn_sub, nn_m1, nn_div, nn_rem, nn_nz, nn_mod, nJ_l, lN_add, lN_mul, nn_tb1, nI_bt, nn_and, nn_or, nn_xor, nn_shr, nn_1shl, nn_31, il_p, il_n, it_p, it_n, ie_p, ie_n, ie_b, ie_b1, ie_m, ie_mm, it_m, it_m0, il_m0, bI_rZ, Option.bind_some, bd2_some, Nat.add_zero, Nat.zero_add, if_true, if_false, Bool.false_eq_true, eq_self, hI_R, hJ_R, a5]
  have j21 : ∃ h', f_X9_isProof_j21 h 61 (nI m) = some (bI (!anyB (fun i => svB A S M n m (alN (agB P Qq how) (A 2) i)) (cntB (agB P Qq how) (A 2))), h') ∧ LF1 h h' ∧ AG h' A S M n (agB P Qq how) := by
    rw [anyB_first]
    cases hx : firstB (fun i => svB A S M n m (alN (agB P Qq how) (A 2) i)) (cntB (agB P Qq how) (A 2)) with
    | none =>
      rw [hx] at e1
      exact ⟨h, by simp (disch := first | assumption | omega | decide | ((repeat first | apply lyI | apply lyJ | apply lywI | apply lywJ | apply csI | apply csJ | apply cswI | apply cswJ); assumption)) only [f_X9_isProof_j21, SS, LI, ↓li_m1, nI_add, pk_mul, nn_sub, nn_m1, nn_div, nn_rem, nn_nz, nn_mod, nJ_l, lN_add, lN_mul, nn_tb1, nI_bt, nn_and, nn_or, nn_xor, nn_shr, nn_1shl, nn_31, il_p, il_n, it_p, it_n, ie_p, ie_n, ie_b, ie_b1, ie_m, ie_mm, it_m, it_m0, il_m0, bI_rZ, Option.bind_some, bd2_some, Nat.add_zero, Nat.zero_add, if_true, if_false, Bool.false_eq_true, eq_self, hI_R, hJ_R, e1]; try rfl, lf1_rf, ag'⟩
    | some x =>
      rw [hx] at e1
      have hb := (firstB_s.mp hx).1
      refine ⟨hI h 61 6 (nI x), by simp (disch := first | assumption | omega | decide | ((repeat first | apply lyI | apply lyJ | apply lywI | apply lywJ | apply csI | apply csJ | apply cswI | apply cswJ); assumption)) only [f_X9_isProof_j21, SS, LI, ↓li_m1, nI_add, pk_mul, nn_sub, nn_m1, nn_div, nn_rem, nn_nz, nn_mod, nJ_l, lN_add, lN_mul, nn_tb1, nI_bt, nn_and, nn_or, nn_xor, nn_shr, nn_1shl, nn_31, il_p, il_n, it_p, it_n, ie_p, ie_n, ie_b, ie_b1, ie_m, ie_mm, it_m, it_m0, il_m0, bI_rZ, Option.bind_some, bd2_some, Nat.add_zero, Nat.zero_add, if_true, if_false, Bool.false_eq_true, eq_self, hI_R, hJ_R, e1]; try rfl, ⟨FR.hI (by decide) (by decide) (by decide), fun k hk => by rw [rI_hI, if_neg (fun e => hk e.2)]⟩, a5, a65, x, by rw [rI_hI, if_pos ⟨rfl, rfl⟩], Or.inr hb⟩
  by_cases hz : cntB (agB P Qq how) (A 2) = 0
  · obtain ⟨h', e2, l, g⟩ := j21
    exact ⟨h', by simp (disch := first | assumption | omega | decide | ((repeat first | apply lyI | apply lyJ | apply lywI | apply lywJ | apply csI | apply csJ | apply cswI | apply cswJ); assumption)) only [f_X9_isProof, SS, LI, ↓li_m1, nI_add, pk_mul, nn_sub, nn_m1, nn_div, nn_rem, nn_nz, nn_mod, nJ_l, lN_add, lN_mul, nn_tb1, nI_bt, nn_and, nn_or, nn_xor, nn_shr, nn_1shl, nn_31, il_p, il_n, it_p, it_n, ie_p, ie_n, ie_b, ie_b1, ie_m, ie_mm, it_m, it_m0, il_m0, bI_rZ, Option.bind_some, bd2_some, Nat.add_zero, Nat.zero_add, if_true, if_false, Bool.false_eq_true, eq_self, hI_R, hJ_R, a5, hz, e2], l, g⟩
  · have hls : ls < cntB (agB P Qq how) (A 2) := als.resolve_left hz
    have r := k_stand hs hc hw hl hf hm ⟨mn, md, mk, mi⟩ hr ag' hls hm2
    rcases (Bool.eq_false_or_eq_true (svB A S M n m (alN (agB P Qq how) (A 2) ls))).symm with hx | hx
    · rw [hx] at r
      obtain ⟨h', e2, l, g⟩ := j21
      exact ⟨h', by simp (disch := first | assumption | omega | decide | ((repeat first | apply lyI | apply lyJ | apply lywI | apply lywJ | apply csI | apply csJ | apply cswI | apply cswJ); assumption)) only [f_X9_isProof, SS, LI, ↓li_m1, nI_add, pk_mul, nn_sub, nn_m1, nn_div, nn_rem, nn_nz, nn_mod, nJ_l, lN_add, lN_mul, nn_tb1, nI_bt, nn_and, nn_or, nn_xor, nn_shr, nn_1shl, nn_31, il_p, il_n, it_p, it_n, ie_p, ie_n, ie_b, ie_b1, ie_m, ie_mm, it_m, it_m0, il_m0, bI_rZ, Option.bind_some, bd2_some, Nat.add_zero, Nat.zero_add, if_true, if_false, Bool.false_eq_true, eq_self, hI_R, hJ_R, a5, a6, r, bI_f, e2], l, g⟩
    · rw [hx] at r
      have : anyB (fun i => svB A S M n m (alN (agB P Qq how) (A 2) i)) (cntB (agB P Qq how) (A 2)) = true := anyB_iff.mpr ⟨ls, hls, hx⟩
      rw [this]
      exact ⟨h, by simp (disch := first | assumption | omega | decide | ((repeat first | apply lyI | apply lyJ | apply lywI | apply lywJ | apply csI | apply csJ | apply cswI | apply cswJ); assumption)) only [f_X9_isProof, SS, LI, ↓li_m1, nI_add, pk_mul, nn_sub, nn_m1, nn_div, nn_rem, nn_nz, nn_mod, nJ_l, lN_add, lN_mul, nn_tb1, nI_bt, nn_and, nn_or, nn_xor, nn_shr, nn_1shl, nn_31, il_p, il_n, it_p, it_n, ie_p, ie_n, ie_b, ie_b1, ie_m, ie_mm, it_m, it_m0, il_m0, bI_rZ, Option.bind_some, bd2_some, Nat.add_zero, Nat.zero_add, if_true, if_false, Bool.false_eq_true, eq_self, hI_R, hJ_R, a5, a6, r, bI_t]; try rfl, lf1_rf, ag'⟩
/-- the least of the smallest -/
def lpO (pr : Nat → Bool) (n : Nat) : Option Nat := match firstB (fun s => anyB (fun m => bcN m == s && pr m) (2 ^ n - 1)) n with
  | some s => firstB (fun m => bcN m == s && pr m) (2 ^ n - 1)
  | none => none
def lpN (pr : Nat → Bool) (n : Nat) : Nat := match lpO pr n with
  | some m => m
  | none => 2 ^ n - 1
theorem k_gath1 {h : aH} {c : Nat} (hs : CS h c) {A : Nat → Nat} {P : Nat → Bool} {Q : Nat → Nat → Bool} {S : Nat → Nat → Nat → Nat → Nat} (hc : CC h c A P Q S) (hw : WF A) (hl : LAY h) (hf : h.2.2.2 52 4 = some c) {n d : Nat} {M : Nat → Nat → Nat} (hm : MN h 53 n d M) (mw : MW A n d M) (hr : HR h 52 A P S M n) {w x : Nat} (h1 : w < A 2) (hp : P w = true) (hx : h.2.1 61 5 = nI x) (xl : x < 256) (v1 v2 : Int32) : ∃ h', f_X9_gatherAgainst_l53 61 v1 v2 c (nI w) (nI 0) h = some h' ∧ FR h h' [65] [] [] [] ∧ (∀ k, k < n → h'.2.1 65 (x * 12 + k) = nI (pk4 (agK S M k w))) ∧ ∀ i, i < x * 12 → h'.2.1 65 i = h.2.1 65 i := by
  obtain ⟨b0, b1, b2l, b2, b3, b4⟩ := wf_b hw
  obtain ⟨mn, md, mk, mi⟩ := mw
  have hv : h.2.1 52 5 = nI (cntB (lvB A P S M n) (A 2)) := hr.1
  have cle := cntB_le (lvB A P S M n) (A 2)
  have hal : ∀ j, j < cntB (lvB A P S M n) (A 2) → h.2.1 59 j = nI (alN (lvB A P S M n) (A 2) j) ∧ alN (lvB A P S M n) (A 2) j < A 2 ∧ lvB A P S M n (alN (lvB A P S M n) (A 2) j) = true := fun j hj => hr_al hr hj
  have aln := al_N (lvB A P S M n) (A 2)
  refine forI (fun k (s : Int32 × aH) => ∃ g, s = (nI k, g) ∧ FR h g [65] [] [] [] ∧ (∀ i, i < k → g.2.1 65 (x * 12 + i) = nI (pk4 (agK S M i w))) ∧ ∀ i, i < x * 12 → g.2.1 65 i = h.2.1 65 i) _ n (by omega) ⟨h, rfl, FR.rf, fun i hi => absurd hi (by omega), fun _ _ => rfl⟩ ?_ ?_
  · rintro k _ hk ⟨g, rfl, fg, i1, i2⟩
    have lg := fg.lay hl
    have hg := hh_fr fg (by decide) hm hr
    have m4 : g.2.1 53 4 = nI n := hg.1.1
    have g5 : g.2.1 61 5 = nI x := by rw [fg.I 61 (by decide) (by decide) (by decide)]; exact hx
    have q := mk k hk
    have r := k_agree52 (cs_fr fg hs) (cc_fr fg (by decide) hs hc) hw lg (by rw [fg.2.1]; exact hf) hg.1 hk ⟨q.1, q.2.1, q.2.2.1⟩ mn h1 hp
    refine ⟨(nI (k + 1), hI g 65 (x * 12 + k) (nI (pk4 (agK S M k w)))), by simp (disch := first | assumption | omega | decide | ((repeat first | apply lyI | apply lyJ | apply lywI | apply lywJ | apply csI | apply csJ | apply cswI | apply cswJ); assumption)) only [f_X9_gatherAgainst_b53, f_X9_gatherAgainst_j110, SS, SH52, LI, ↓li_m1, nI_add, pk_mul, nn_sub, nn_m1, nn_div, nn_rem, nn_nz, nn_mod, nJ_l, lN_add, lN_mul, nn_tb1, nI_bt, nn_and, nn_or, nn_xor, nn_shr, nn_1shl, nn_31, il_p, il_n, it_p, it_n, ie_p, ie_n, ie_b, ie_b1, ie_m, ie_mm, it_m, it_m0, il_m0, bI_rZ, Option.bind_some, bd2_some, Nat.add_zero, Nat.zero_add, if_true, if_false, Bool.false_eq_true, eq_self, hI_R, hJ_R, m4, g5, r]; rfl, _, rfl, fg.tr (FR.hI (by decide) (by decide) (by decide)), fun i hi => ?_, fun i hi => ?_⟩
    · rw [rI_hI]
      by_cases hik : i = k
      · rw [if_pos ⟨rfl, by omega⟩, hik]
      · rw [if_neg (fun e => by omega)]
        exact i1 i (by omega)
    · rw [rI_hI, if_neg (fun e => by omega)]
      exact i2 i hi
  · rintro _ ⟨g, rfl, fg, i1, i2⟩
    have lg := fg.lay hl
    have m4 : g.2.1 53 4 = nI n := (hh_fr fg (by decide) hm hr).1.1
    exact ⟨g, by simp (disch := first | assumption | omega | decide | ((repeat first | apply lyI | apply lyJ | apply lywI | apply lywJ | apply csI | apply csJ | apply cswI | apply cswJ); assumption)) only [f_X9_gatherAgainst_b53, f_X9_gatherAgainst_j110, SS, SH52, LI, ↓li_m1, nI_add, pk_mul, nn_sub, nn_m1, nn_div, nn_rem, nn_nz, nn_mod, nJ_l, lN_add, lN_mul, nn_tb1, nI_bt, nn_and, nn_or, nn_xor, nn_shr, nn_1shl, nn_31, il_p, il_n, it_p, it_n, ie_p, ie_n, ie_b, ie_b1, ie_m, ie_mm, it_m, it_m0, il_m0, bI_rZ, Option.bind_some, bd2_some, Nat.add_zero, Nat.zero_add, if_true, if_false, Bool.false_eq_true, eq_self, hI_R, hJ_R, m4], fg, i1, i2⟩
theorem k_gather {h : aH} {c : Nat} (hs : CS h c) {A : Nat → Nat} {P : Nat → Bool} {Q : Nat → Nat → Bool} {S : Nat → Nat → Nat → Nat → Nat} (hc : CC h c A P Q S) (hw : WF A) (hl : LAY h) (hf : h.2.2.2 52 4 = some c) {n d : Nat} {M : Nat → Nat → Nat} (hm : MN h 53 n d M) (mw : MW A n d M) (hr : HR h 52 A P S M n) {q : Nat} (hq : q < A 3) (how : Bool) : ∃ h', f_X9_gatherAgainst h 61 (nI q) (bI how) = some h' ∧ FR h h' [61, 65] [] [] [] ∧ (∀ k, k ≠ 5 → k ≠ 6 → h'.2.1 61 k = h.2.1 61 k) ∧ AG h' A S M n (agB P (Q q) how) := by
  obtain ⟨b0, b1, b2l, b2, b3, b4⟩ := wf_b hw
  obtain ⟨mn, md, mk, mi⟩ := mw
  have hv : h.2.1 52 5 = nI (cntB (lvB A P S M n) (A 2)) := hr.1
  have cle := cntB_le (lvB A P S M n) (A 2)
  have hal : ∀ j, j < cntB (lvB A P S M n) (A 2) → h.2.1 59 j = nI (alN (lvB A P S M n) (A 2) j) ∧ alN (lvB A P S M n) (A 2) j < A 2 ∧ lvB A P S M n (alN (lvB A P S M n) (A 2) j) = true := fun j hj => hr_al hr hj
  have aln := al_N (lvB A P S M n) (A 2)
  let p := agB P (Q q) how
  have ew := hc.1.2.2.1
  have e : ∃ h', f_X9_gatherAgainst_l21 61 (nI q) (bI how) c (nI 0) (hI (hI h 61 5 (nI 0)) 61 6 (nI 0)) = some h' ∧ FR h h' [61, 65] [] [] [] ∧ (∀ k, k ≠ 5 → k ≠ 6 → h'.2.1 61 k = h.2.1 61 k) ∧ h'.2.1 61 5 = nI (cntB p (A 2)) ∧ h'.2.1 61 6 = nI 0 ∧ ∀ w k, w < A 2 → p w = true → k < n → h'.2.1 65 (cntB p w * 12 + k) = nI (pk4 (agK S M k w)) := by
    refine forI (fun j (s : Int32 × aH) => ∃ g, s = (nI j, g) ∧ FR h g [61, 65] [] [] [] ∧ (∀ k, k ≠ 5 → k ≠ 6 → g.2.1 61 k = h.2.1 61 k) ∧ g.2.1 61 5 = nI (cntB p j) ∧ g.2.1 61 6 = nI 0 ∧ ∀ w k, w < j → p w = true → k < n → g.2.1 65 (cntB p w * 12 + k) = nI (pk4 (agK S M k w))) _ (A 2) (by omega) ⟨_, rfl, (FR.hI (by decide) (by decide) (by decide)).tr (FR.hI (by decide) (by decide) (by decide)), fun k k5 k6 => by rw [rI_hI, if_neg (fun e => k6 e.2), rI_hI, if_neg (fun e => k5 e.2)], rfl, rfl, fun w k hw => absurd hw (by omega)⟩ ?_ ?_
    · rintro j _ hj ⟨g, rfl, fg, i0, i5, i6, i7⟩
      have lg := fg.lay hl
      have sg := cs_fr fg hs
      have cg := cc_fr fg (by decide) hs hc
      have hg := hh_fr fg (by decide) hm hr
      have hfg : g.2.2.2 52 4 = some c := by rw [fg.2.1]; exact hf
      have eg := cg.1.2.2.1
      have r1 := c_canBe sg cg hw hj
      have r2 := c_inQ sg cg hw hj hq
      have cj := cntB_le p j
      have keep : p j = false → ∀ w k, w < j + 1 → p w = true → k < n → g.2.1 65 (cntB p w * 12 + k) = nI (pk4 (agK S M k w)) := fun hpj w k hw hpw hk => by
        rcases Nat.lt_or_ge w j with u | u
        · exact i7 w k u hpw hk
        · rw [show w = j by omega, hpj] at hpw
          cases hpw
      rcases (Bool.eq_false_or_eq_true (P j)).symm with hp | hp
      · rw [hp] at r1
        have hpj : p j = false := by
          show (P j && _) = false
          rw [hp]
          rfl
        exact ⟨(nI (j + 1), g), by simp (disch := first | assumption | omega | decide | ((repeat first | apply lyI | apply lyJ | apply lywI | apply lywJ | apply csI | apply csJ | apply cswI | apply cswJ); assumption)) only [f_X9_gatherAgainst_b21, f_X9_gatherAgainst_j110, SS, SC, LI, ↓li_m1, nI_add, pk_mul, nn_sub, nn_m1, nn_div, nn_rem, nn_nz, nn_mod, nJ_l, lN_add, lN_mul, nn_tb1, nI_bt, nn_and, nn_or, nn_xor, nn_shr, nn_1shl, nn_31, il_p, il_n, it_p, it_n, ie_p, ie_n, ie_b, ie_b1, ie_m, ie_mm, it_m, it_m0, il_m0, bI_rZ, Option.bind_some, bd2_some, Nat.add_zero, Nat.zero_add, if_true, if_false, Bool.false_eq_true, eq_self, hI_R, hJ_R, eg, r1, bI_f], g, rfl, fg, i0, by rw [cntB_f hpj]; exact i5, i6, keep hpj⟩
      · rw [hp] at r1
        by_cases hx : Q q j = how
        · have hpj : p j = false := by
            show (P j && (Q q j != how)) = false
            rw [hx]
            simp
          rw [hx] at r2
          exact ⟨(nI (j + 1), g), by simp (disch := first | assumption | omega | decide | ((repeat first | apply lyI | apply lyJ | apply lywI | apply lywJ | apply csI | apply csJ | apply cswI | apply cswJ); assumption)) only [f_X9_gatherAgainst_b21, f_X9_gatherAgainst_j110, SS, SC, LI, ↓li_m1, nI_add, pk_mul, nn_sub, nn_m1, nn_div, nn_rem, nn_nz, nn_mod, nJ_l, lN_add, lN_mul, nn_tb1, nI_bt, nn_and, nn_or, nn_xor, nn_shr, nn_1shl, nn_31, il_p, il_n, it_p, it_n, ie_p, ie_n, ie_b, ie_b1, ie_m, ie_mm, it_m, it_m0, il_m0, bI_rZ, Option.bind_some, bd2_some, Nat.add_zero, Nat.zero_add, if_true, if_false, Bool.false_eq_true, eq_self, hI_R, hJ_R, eg, r1, bI_t, r2], g, rfl, fg, i0, by rw [cntB_f hpj]; exact i5, i6, keep hpj⟩
        · have hpj : p j = true := by
            show (P j && (Q q j != how)) = true
            rw [hp, Bool.true_and]
            simpa using hx
          have hx2 : ¬ bI (Q q j) = bI how := fun e => hx (by
            revert e
            cases Q q j <;> cases how <;> decide)
          obtain ⟨g', e1, f1, j1, j2⟩ := k_gath1 sg cg hw lg hfg hg.1 ⟨mn, md, mk, mi⟩ hg.2 hj hp i5 (by omega) (nI q) (bI how)
          have l1 := f1.lay lg
          have g5 : g'.2.1 61 5 = nI (cntB p j) := by rw [f1.I 61 (by decide) (by decide) (by decide)]; exact i5
          refine ⟨(nI (j + 1), hI g' 61 5 (nI (cntB p j + 1))), by simp (disch := first | assumption | omega | decide | ((repeat first | apply lyI | apply lyJ | apply lywI | apply lywJ | apply csI | apply csJ | apply cswI | apply cswJ); assumption)) only [f_X9_gatherAgainst_b21, f_X9_gatherAgainst_j110, SS, SC, LI, ↓li_m1, nI_add, pk_mul, nn_sub, nn_m1, nn_div, nn_rem, nn_nz, nn_mod, nJ_l, lN_add, lN_mul, nn_tb1, nI_bt, nn_and, nn_or, nn_xor, nn_shr, nn_1shl, nn_31, il_p, il_n, it_p, it_n, ie_p, ie_n, ie_b, ie_b1, ie_m, ie_mm, it_m, it_m0, il_m0, bI_rZ, Option.bind_some, bd2_some, Nat.add_zero, Nat.zero_add, if_true, if_false, Bool.false_eq_true, eq_self, hI_R, hJ_R, eg, r1, bI_t, r2, if_neg hx2, e1, g5], _, rfl, (fg.tr (f1.mono (by decide) (by decide) (by decide) (by decide))).tr (FR.hI (by decide) (by decide) (by decide)), fun k k5 k6 => ?_, by rw [cntB_t hpj]; rfl, ?_, fun w k hw hpw hk => ?_⟩
          · rw [rI_hI, if_neg (fun e => k5 e.2), f1.I 61 (by decide) (by decide) (by decide)]
            exact i0 k k5 k6
          · rw [rI_hI, if_neg (by decide), f1.I 61 (by decide) (by decide) (by decide)]
            exact i6
          · show g'.2.1 65 _ = _
            rcases Nat.lt_or_ge w j with u | u
            · have := cntB_lt u hpw
              rw [j2 _ (by omega)]
              exact i7 w k u hpw hk
            · rw [show w = j by omega]
              exact j1 k hk
    · rintro _ ⟨g, rfl, fg, i0, i5, i6, i7⟩
      have lg := fg.lay hl
      have sg := cs_fr fg hs
      have eg := (cc_fr fg (by decide) hs hc).1.2.2.1
      exact ⟨g, by simp (disch := first | assumption | omega | decide | ((repeat first | apply lyI | apply lyJ | apply lywI | apply lywJ | apply csI | apply csJ | apply cswI | apply cswJ); assumption)) only [f_X9_gatherAgainst_b21, f_X9_gatherAgainst_j110, SS, SC, LI, ↓li_m1, nI_add, pk_mul, nn_sub, nn_m1, nn_div, nn_rem, nn_nz, nn_mod, nJ_l, lN_add, lN_mul, nn_tb1, nI_bt, nn_and, nn_or, nn_xor, nn_shr, nn_1shl, nn_31, il_p, il_n, it_p, it_n, ie_p, ie_n, ie_b, ie_b1, ie_m, ie_mm, it_m, it_m0, il_m0, bI_rZ, Option.bind_some, bd2_some, Nat.add_zero, Nat.zero_add, if_true, if_false, Bool.false_eq_true, eq_self, hI_R, hJ_R, eg], fg, i0, i5, i6, i7⟩
  obtain ⟨h', e1, f1, i0, i5, i6, i7⟩ := e
  refine ⟨h', by simp (disch := first | assumption | omega | decide | ((repeat first | apply lyI | apply lyJ | apply lywI | apply lywJ | apply csI | apply csJ | apply cswI | apply cswJ); assumption)) only [f_X9_gatherAgainst, SS, SH52, LI, ↓li_m1, nI_add, pk_mul, nn_sub, nn_m1, nn_div, nn_rem, nn_nz, nn_mod, nJ_l, lN_add, lN_mul, nn_tb1, nI_bt, nn_and, nn_or, nn_xor, nn_shr, nn_1shl, nn_31, il_p, il_n, it_p, it_n, ie_p, ie_n, ie_b, ie_b1, ie_m, ie_mm, it_m, it_m0, il_m0, bI_rZ, Option.bind_some, bd2_some, Nat.add_zero, Nat.zero_add, if_true, if_false, Bool.false_eq_true, eq_self, hI_R, hJ_R, hf, e1], f1, i0, i5, fun i k hi hk => ?_, 0, i6, ?_⟩
  · obtain ⟨w1, w2, w3⟩ := al_at (al_N p (A 2)) i hi
    have := i7 _ k w1 w2 hk
    rw [w3] at this
    exact this
  · show cntB p (A 2) = 0 ∨ 0 < cntB p (A 2)
    omega
theorem k_least {h : aH} {c : Nat} (hs : CS h c) {A : Nat → Nat} {P : Nat → Bool} {Q : Nat → Nat → Bool} {S : Nat → Nat → Nat → Nat → Nat} (hc : CC h c A P Q S) (hw : WF A) (hl : LAY h) (hf : h.2.2.2 52 4 = some c) {n d : Nat} {M : Nat → Nat → Nat} (hm : MN h 53 n d M) (mw : MW A n d M) (hr : HR h 52 A P S M n) {q : Nat} (hq : q < A 3) (how : Bool) : ∃ h', f_X9_leastProof h 61 (nI q) (bI how) = some (nI (lpN (prB A P (Q q) how S M n) n), h') ∧ FR h h' [61, 65] [] [] [] := by
  obtain ⟨b0, b1, b2l, b2, b3, b4⟩ := wf_b hw
  obtain ⟨mn, md, mk, mi⟩ := mw
  have hv : h.2.1 52 5 = nI (cntB (lvB A P S M n) (A 2)) := hr.1
  have cle := cntB_le (lvB A P S M n) (A 2)
  have hal : ∀ j, j < cntB (lvB A P S M n) (A 2) → h.2.1 59 j = nI (alN (lvB A P S M n) (A 2) j) ∧ alN (lvB A P S M n) (A 2) j < A 2 ∧ lvB A P S M n (alN (lvB A P S M n) (A 2) j) = true := fun j hj => hr_al hr hj
  have aln := al_N (lvB A P S M n) (A 2)
  have p12 : 2 ^ n ≤ 2 ^ 12 := Nat.pow_le_pow_right (by decide) mn
  have p0 : 0 < 2 ^ n := Nat.two_pow_pos n
  obtain ⟨h1, e1, f1, -, ag1⟩ := k_gather hs hc hw hl hf hm ⟨mn, md, mk, mi⟩ hr hq how
  let pr := prB A P (Q q) how S M n
  have kk : ∀ g, LF1 h1 g → LAY g ∧ CS g c ∧ CC g c A P Q S ∧ g.2.2.2 52 4 = some c ∧ MN g 53 n d M ∧ HR g 52 A P S M n := fun g lg => by
    have fg : FR h g [61, 65] [] [] [] := f1.tr (lg.1.mono (by decide) (by decide) (by decide) (by decide))
    have hg := hh_fr fg (by decide) hm hr
    exact ⟨fg.lay hl, cs_fr fg hs, cc_fr fg (by decide) hs hc, by rw [fg.2.1]; exact hf, hg.1, hg.2⟩
  have inner : ∀ g s, LF1 h1 g → AG g A S M n (agB P (Q q) how) → s < n → ∃ e, f_X9_leastProof_l36 61 (nI n) (nI (2 ^ n - 1)) (nI s) (nI 0) g = some e ∧ ∃ g', LF1 h1 g' ∧ AG g' A S M n (agB P (Q q) how) ∧ ((∃ m, firstB (fun m => bcN m == s && pr m) (2 ^ n - 1) = some m ∧ e = .inl (nI m, g')) ∨ (firstB (fun m => bcN m == s && pr m) (2 ^ n - 1) = none ∧ e = .inr g')) := fun g0 s l0 a0 hsn => by
    refine whl0 (fun i (t : Int32 × aH) => ∃ g, t = (nI i, g) ∧ LF1 h1 g ∧ AG g A S M n (agB P (Q q) how) ∧ ∀ m, m < i → (bcN m == s && pr m) = false) _ (2 ^ n - 1) (by omega) ⟨g0, rfl, l0, a0, fun m hm => absurd hm (by omega)⟩ ?_
    rintro i _ ⟨g, rfl, lg1, ag, hi0⟩ hi
    rcases Nat.lt_or_ge i (2 ^ n - 1) with qi | qi
    · have rb := bc_c (h := g) (v := i) (by omega)
      have bl : bcN i ≤ 12 := cntB_le _ _
      have nx : (bcN i == s && pr i) = false → ∀ m, m < i + 1 → (bcN m == s && pr m) = false := fun hh m hm => by
        rcases Nat.lt_or_ge m i with u | u
        · exact hi0 m u
        · rw [show m = i by omega, hh]
      by_cases hb : bcN i = s
      · obtain ⟨k1, k2, k3, k4, k5, k6⟩ := kk g lg1
        obtain ⟨g', r, l', a'⟩ := k_isProof k2 k3 hw k1 k4 k5 ⟨mn, md, mk, mi⟩ k6 ag (m := i) (by omega)
        rcases (Bool.eq_false_or_eq_true (pr i)).symm with hp | hp
        · rw [show prB A P (Q q) how S M n i = false from hp] at r
          exact Or.inl ⟨(nI (i + 1), g'), by simp (disch := first | assumption | omega | decide | ((repeat first | apply lyI | apply lyJ | apply lywI | apply lywJ | apply csI | apply csJ | apply cswI | apply cswJ); assumption)) only [f_X9_leastProof_b36, f_X9_leastProof_j65, SS, LI, ↓li_m1, nI_add, pk_mul, nn_sub, nn_m1, nn_div, nn_rem, nn_nz, nn_mod, nJ_l, lN_add, lN_mul, nn_tb1, nI_bt, nn_and, nn_or, nn_xor, nn_shr, nn_1shl, nn_31, il_p, il_n, it_p, it_n, ie_p, ie_n, ie_b, ie_b1, ie_m, ie_mm, it_m, it_m0, il_m0, bI_rZ, Option.bind_some, bd2_some, Nat.add_zero, Nat.zero_add, if_true, if_false, Bool.false_eq_true, eq_self, hI_R, hJ_R, rb, hb, r, bI_f], qi, g', rfl, lf1_tr lg1 l', a', nx (by rw [hp, Bool.and_false])⟩
        · rw [show prB A P (Q q) how S M n i = true from hp] at r
          exact Or.inr ⟨.inl (nI i, g'), by simp (disch := first | assumption | omega | decide | ((repeat first | apply lyI | apply lyJ | apply lywI | apply lywJ | apply csI | apply csJ | apply cswI | apply cswJ); assumption)) only [f_X9_leastProof_b36, f_X9_leastProof_j65, SS, LI, ↓li_m1, nI_add, pk_mul, nn_sub, nn_m1, nn_div, nn_rem, nn_nz, nn_mod, nJ_l, lN_add, lN_mul, nn_tb1, nI_bt, nn_and, nn_or, nn_xor, nn_shr, nn_1shl, nn_31, il_p, il_n, it_p, it_n, ie_p, ie_n, ie_b, ie_b1, ie_m, ie_mm, it_m, it_m0, il_m0, bI_rZ, Option.bind_some, bd2_some, Nat.add_zero, Nat.zero_add, if_true, if_false, Bool.false_eq_true, eq_self, hI_R, hJ_R, rb, hb, r, bI_t], g', lf1_tr lg1 l', a', Or.inl ⟨i, firstB_s.mpr ⟨qi, by rw [hb, hp]; simp, hi0⟩, rfl⟩⟩
      · exact Or.inl ⟨(nI (i + 1), g), by simp (disch := first | assumption | omega | decide | ((repeat first | apply lyI | apply lyJ | apply lywI | apply lywJ | apply csI | apply csJ | apply cswI | apply cswJ); assumption)) only [f_X9_leastProof_b36, f_X9_leastProof_j65, SS, LI, ↓li_m1, nI_add, pk_mul, nn_sub, nn_m1, nn_div, nn_rem, nn_nz, nn_mod, nJ_l, lN_add, lN_mul, nn_tb1, nI_bt, nn_and, nn_or, nn_xor, nn_shr, nn_1shl, nn_31, il_p, il_n, it_p, it_n, ie_p, ie_n, ie_b, ie_b1, ie_m, ie_mm, it_m, it_m0, il_m0, bI_rZ, Option.bind_some, bd2_some, Nat.add_zero, Nat.zero_add, if_true, if_false, Bool.false_eq_true, eq_self, hI_R, hJ_R, rb], qi, g, rfl, lg1, ag, nx (by rw [beq_eq_false_iff_ne.mpr hb]; rfl)⟩
    · obtain rfl : i = 2 ^ n - 1 := by omega
      exact Or.inr ⟨.inr g, by simp (disch := first | assumption | omega | decide | ((repeat first | apply lyI | apply lyJ | apply lywI | apply lywJ | apply csI | apply csJ | apply cswI | apply cswJ); assumption)) only [f_X9_leastProof_b36, f_X9_leastProof_j65, SS, LI, ↓li_m1, nI_add, pk_mul, nn_sub, nn_m1, nn_div, nn_rem, nn_nz, nn_mod, nJ_l, lN_add, lN_mul, nn_tb1, nI_bt, nn_and, nn_or, nn_xor, nn_shr, nn_1shl, nn_31, il_p, il_n, it_p, it_n, ie_p, ie_n, ie_b, ie_b1, ie_m, ie_mm, it_m, it_m0, il_m0, bI_rZ, Option.bind_some, bd2_some, Nat.add_zero, Nat.zero_add, if_true, if_false, Bool.false_eq_true, eq_self, hI_R, hJ_R], g, lg1, ag, Or.inr ⟨firstB_n.mpr hi0, rfl⟩⟩
  have outer : ∃ e, f_X9_leastProof_l27 61 (nI n) (nI (2 ^ n - 1)) (nI 0) h1 = some e ∧ ∃ g', LF1 h1 g' ∧ ((∃ m, lpO pr n = some m ∧ e = .inl (nI m, g')) ∨ (lpO pr n = none ∧ e = .inr g')) := by
    refine whl0 (fun i (t : Int32 × aH) => ∃ g, t = (nI i, g) ∧ LF1 h1 g ∧ AG g A S M n (agB P (Q q) how) ∧ ∀ s, s < i → anyB (fun m => bcN m == s && pr m) (2 ^ n - 1) = false) _ n (by omega) ⟨h1, rfl, lf1_rf, ag1, fun s hs => absurd hs (by omega)⟩ ?_
    rintro i _ ⟨g, rfl, lg1, ag, hi0⟩ hi
    rcases Nat.lt_or_ge i n with qi | qi
    · obtain ⟨_, ee, g', l', a', ⟨m, hx, rfl⟩ | ⟨hx, rfl⟩⟩ := inner g i lg1 ag qi
      · refine Or.inr ⟨.inl (nI m, g'), by simp (disch := first | assumption | omega | decide | ((repeat first | apply lyI | apply lyJ | apply lywI | apply lywJ | apply csI | apply csJ | apply cswI | apply cswJ); assumption)) only [f_X9_leastProof_b27, f_X9_leastProof_j65, SS, LI, ↓li_m1, nI_add, pk_mul, nn_sub, nn_m1, nn_div, nn_rem, nn_nz, nn_mod, nJ_l, lN_add, lN_mul, nn_tb1, nI_bt, nn_and, nn_or, nn_xor, nn_shr, nn_1shl, nn_31, il_p, il_n, it_p, it_n, ie_p, ie_n, ie_b, ie_b1, ie_m, ie_mm, it_m, it_m0, il_m0, bI_rZ, Option.bind_some, bd2_some, Nat.add_zero, Nat.zero_add, if_true, if_false, Bool.false_eq_true, eq_self, hI_R, hJ_R, ee], g', l', Or.inl ⟨m, ?_, rfl⟩⟩
        unfold lpO
        rw [show firstB (fun s => anyB (fun m => bcN m == s && pr m) (2 ^ n - 1)) n = some i from firstB_s.mpr ⟨qi, by rw [anyB_first, hx]; rfl, hi0⟩]
        exact hx
      · refine Or.inl ⟨(nI (i + 1), g'), by simp (disch := first | assumption | omega | decide | ((repeat first | apply lyI | apply lyJ | apply lywI | apply lywJ | apply csI | apply csJ | apply cswI | apply cswJ); assumption)) only [f_X9_leastProof_b27, f_X9_leastProof_j65, SS, LI, ↓li_m1, nI_add, pk_mul, nn_sub, nn_m1, nn_div, nn_rem, nn_nz, nn_mod, nJ_l, lN_add, lN_mul, nn_tb1, nI_bt, nn_and, nn_or, nn_xor, nn_shr, nn_1shl, nn_31, il_p, il_n, it_p, it_n, ie_p, ie_n, ie_b, ie_b1, ie_m, ie_mm, it_m, it_m0, il_m0, bI_rZ, Option.bind_some, bd2_some, Nat.add_zero, Nat.zero_add, if_true, if_false, Bool.false_eq_true, eq_self, hI_R, hJ_R, ee], qi, g', rfl, l', a', fun s hs => ?_⟩
        rcases Nat.lt_or_ge s i with u | u
        · exact hi0 s u
        · rw [show s = i by omega, anyB_first, hx]
          rfl
    · obtain rfl : i = n := by omega
      refine Or.inr ⟨.inr g, by simp (disch := first | assumption | omega | decide | ((repeat first | apply lyI | apply lyJ | apply lywI | apply lywJ | apply csI | apply csJ | apply cswI | apply cswJ); assumption)) only [f_X9_leastProof_b27, f_X9_leastProof_j65, SS, LI, ↓li_m1, nI_add, pk_mul, nn_sub, nn_m1, nn_div, nn_rem, nn_nz, nn_mod, nJ_l, lN_add, lN_mul, nn_tb1, nI_bt, nn_and, nn_or, nn_xor, nn_shr, nn_1shl, nn_31, il_p, il_n, it_p, it_n, ie_p, ie_n, ie_b, ie_b1, ie_m, ie_mm, it_m, it_m0, il_m0, bI_rZ, Option.bind_some, bd2_some, Nat.add_zero, Nat.zero_add, if_true, if_false, Bool.false_eq_true, eq_self, hI_R, hJ_R], g, lg1, Or.inr ⟨?_, rfl⟩⟩
      unfold lpO
      rw [firstB_n.mpr hi0]
  have l1 := f1.lay hl
  have m4 : h1.2.1 53 4 = nI n := (hh_fr f1 (by decide) hm hr).1.1
  obtain ⟨_, e3, g, lg, ⟨m, hx, rfl⟩ | ⟨hx, rfl⟩⟩ := outer
  · refine ⟨g, ?_, f1.tr (lg.1.mono (by decide) (by decide) (by decide) (by decide))⟩
    rw [show lpN (prB A P (Q q) how S M n) n = m from by unfold lpN; rw [show lpO (prB A P (Q q) how S M n) n = some m from hx]]
    simp (disch := first | assumption | omega | decide | ((repeat first | apply lyI | apply lyJ | apply lywI | apply lywJ | apply csI | apply csJ | apply cswI | apply cswJ); assumption)) only [f_X9_leastProof, SS, SH52, LI, ↓li_m1, nI_add, pk_mul, nn_sub, nn_m1, nn_div, nn_rem, nn_nz, nn_mod, nJ_l, lN_add, lN_mul, nn_tb1, nI_bt, nn_and, nn_or, nn_xor, nn_shr, nn_1shl, nn_31, il_p, il_n, it_p, it_n, ie_p, ie_n, ie_b, ie_b1, ie_m, ie_mm, it_m, it_m0, il_m0, bI_rZ, Option.bind_some, bd2_some, Nat.add_zero, Nat.zero_add, if_true, if_false, Bool.false_eq_true, eq_self, hI_R, hJ_R, e1, m4, e3]
  · refine ⟨g, ?_, f1.tr (lg.1.mono (by decide) (by decide) (by decide) (by decide))⟩
    rw [show lpN (prB A P (Q q) how S M n) n = 2 ^ n - 1 from by unfold lpN; rw [show lpO (prB A P (Q q) how S M n) n = none from hx]]
    simp (disch := first | assumption | omega | decide | ((repeat first | apply lyI | apply lyJ | apply lywI | apply lywJ | apply csI | apply csJ | apply cswI | apply cswJ); assumption)) only [f_X9_leastProof, SS, SH52, LI, ↓li_m1, nI_add, pk_mul, nn_sub, nn_m1, nn_div, nn_rem, nn_nz, nn_mod, nJ_l, lN_add, lN_mul, nn_tb1, nI_bt, nn_and, nn_or, nn_xor, nn_shr, nn_1shl, nn_31, il_p, il_n, it_p, it_n, ie_p, ie_n, ie_b, ie_b1, ie_m, ie_mm, it_m, it_m0, il_m0, bI_rZ, Option.bind_some, bd2_some, Nat.add_zero, Nat.zero_add, if_true, if_false, Bool.false_eq_true, eq_self, hI_R, hJ_R, e1, m4, e3]
