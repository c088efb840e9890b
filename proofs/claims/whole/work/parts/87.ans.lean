/-! ===== what is answered: the reference, by sets of worlds ===== -/
theorem j_set {x : Int64} {k i : Nat} (hk : k < 64) (hi : i < 64) : (x ||| ((1 : Int64) <<< ((nI k).toInt64 &&& 63))).toBitVec.getLsbD i = (x.toBitVec.getLsbD i || decide (i = k)) := by
  have e1 : ((1 : Int64) <<< ((nI k).toInt64 &&& 63)).toBitVec = 1#64 <<< k := by
    rw [Int64.toBitVec_shiftLeft, BitVec.shiftLeft_eq', j_sm k hk]
    rfl
  rw [Int64.toBitVec_or, BitVec.getLsbD_or, e1, BitVec.getLsbD_shiftLeft, BitVec.getLsbD_one]
  refine congrArg (x.toBitVec.getLsbD i || ·) ?_
  by_cases h : i = k
  · subst h
    simp [hi]
  · rw [decide_eq_false h]
    by_cases h2 : i < k
    · simp [h2]
    · have : ¬ (i - k = 0) := by omega
      simp [this]
/-- bits of a word without those of another -/
theorem j_not {y : Int64} {i : Nat} (hi : i < 64) : (y ^^^ (-1 : Int64)).toBitVec.getLsbD i = !y.toBitVec.getLsbD i := by
  rw [Int64.toBitVec_xor, BitVec.getLsbD_xor, show (-1 : Int64).toBitVec = BitVec.allOnes 64 from rfl, BitVec.getLsbD_allOnes, decide_eq_true hi, Bool.xor_true]
def nzB (x : Int64) : Bool := decide (x ≠ 0)
theorem nzB_iff {x : Int64} : nzB x = true ↔ ∃ i, i < 64 ∧ x.toBitVec.getLsbD i = true := by
  unfold nzB
  rw [decide_eq_true_iff]
  constructor
  · intro h
    apply Classical.byContradiction
    intro hn
    refine h (Int64.toBitVec_inj.mp (BitVec.eq_of_getLsbD_eq (fun i hi => ?_)))
    rw [show (0 : Int64).toBitVec = 0#64 from rfl, BitVec.getLsbD_zero, ← Bool.not_eq_true]
    exact fun e => hn ⟨i, hi, e⟩
  · rintro ⟨i, hi, e⟩ rfl
    rw [show (0 : Int64).toBitVec = 0#64 from rfl, BitVec.getLsbD_zero] at e
    cases e
theorem nz_if {α : Type} {x : Int64} {a b : α} : (if lg_cmp x (0 : Int64) = nI 0 then a else b) = if nzB x = true then b else a := by
  unfold nzB
  by_cases h : x = 0
  · rw [if_pos (lcmp_e.mpr h), if_neg (by simp [h])]
  · rw [if_neg (fun e => h (lcmp_e.mp e)), if_pos (decide_eq_true h)]
/-- four words hold the set p -/
theorem any_w {f : Nat → Int64} {p : Nat → Bool} (h : ∀ k i, k < 4 → i < 64 → (f k).toBitVec.getLsbD i = p (64 * k + i)) : anyB (fun k => nzB (f k)) 4 = anyB p 256 := by
  rw [Bool.eq_iff_iff, anyB_iff, anyB_iff]
  constructor
  · rintro ⟨k, hk, e⟩
    obtain ⟨i, hi, e2⟩ := nzB_iff.mp e
    exact ⟨64 * k + i, by omega, by rw [← h k i hk hi]; exact e2⟩
  · rintro ⟨w, hw, e⟩
    refine ⟨w / 64, by omega, nzB_iff.mpr ⟨w % 64, by omega, ?_⟩⟩
    rw [h (w / 64) (w % 64) (by omega) (by omega), show 64 * (w / 64) + w % 64 = w by omega]
    exact e
theorem all_any {p : Nat → Bool} {n : Nat} : allB (fun k => !p k) n = !anyB p n := by
  rw [Bool.eq_iff_iff, allB_iff, Bool.not_eq_true', anyB_f]
  refine forall_congr' (fun k => forall_congr' (fun _ => ?_))
  simp
/-- the set known, the set meant -/
def KN (h : aH) (kn : Nat → Bool) : Prop := ∀ k i, k < 4 → i < 64 → (h.2.2.1 127 k).toBitVec.getLsbD i = kn (64 * k + i)
def ME (h : aH) (mn : Nat → Bool) : Prop := ∀ k i, k < 4 → i < 64 → (h.2.2.1 128 k).toBitVec.getLsbD i = mn (64 * k + i)
theorem cm_P {h : aH} {A : Nat → Nat} {P : Nat → Bool} {Q : Nat → Nat → Bool} (hc : CM h A P Q) {k i : Nat} (hk : k < 4) (hi : i < 64) : (h.2.2.1 115 k).toBitVec.getLsbD i = P (64 * k + i) := by
  have := hc.2.1 (64 * k + i) (by omega)
  rwa [Nat.zero_add, show (64 * k + i) / 64 = k by omega, show (64 * k + i) % 64 = i by omega] at this
theorem cm_Q {h : aH} {A : Nat → Nat} {P : Nat → Bool} {Q : Nat → Nat → Bool} (hc : CM h A P Q) {q k i : Nat} (hq : q < 12) (hk : k < 4) (hi : i < 64) : (h.2.2.1 115 (4 + 4 * q + k)).toBitVec.getLsbD i = Q q (64 * k + i) := by
  have := hc.2.2 q (64 * k + i) hq (by omega)
  rwa [Nat.zero_add, show (64 * k + i) / 64 = k by omega, show (64 * k + i) % 64 = i by omega] at this
def mnB (P : Nat → Bool) (Q : Nat → Nat → Bool) (s w : Nat) : Bool := if s % 2 = 0 then Q (s / 2) w else P w && !Q (s / 2) w
theorem r_means {h : aH} (hl : LAY h) {A : Nat → Nat} {P : Nat → Bool} {Q : Nat → Nat → Bool} (hc : CM h A P Q) (hw : WF A) {s : Nat} (hs : s < 2 * A 3) : ∃ h', f_X12_meansBy h 113 (nI s) = some h' ∧ FR h h' [] [128] [] [] ∧ ME h' (mnB P Q s) := by
  obtain ⟨b0, b1, b2l, b2, b3, b4⟩ := wf_b hw
  obtain ⟨c0, c1, c2, c3, c4, cA⟩ := cm_e hc
  have e : ∃ h', f_X12_meansBy_l2 113 (nI s) (nI 0) h = some h' ∧ FR h h' [] [128] [] [] ∧ ME h' (mnB P Q s) := by
    refine forI (fun j (t : Int32 × aH) => ∃ g, t = (nI j, g) ∧ FR h g [] [128] [] [] ∧ ∀ k i, k < j → i < 64 → (g.2.2.1 128 k).toBitVec.getLsbD i = mnB P Q s (64 * k + i)) _ 4 (by decide) ⟨h, rfl, FR.rf, fun k i hk => absurd hk (by omega)⟩ ?_ ?_
    · rintro j _ hj ⟨g, rfl, fg, i1⟩
      have lg := fg.lay hl
      have cg := cm_fr fg (by decide) (by decide) hc
      have fin : ∀ x, (∀ i, i < 64 → x.toBitVec.getLsbD i = mnB P Q s (64 * j + i)) → ∃ g', (nI (j + 1), hJ g 128 j x) = (nI (j + 1), g') ∧ FR h g' [] [128] [] [] ∧ ∀ k i, k < j + 1 → i < 64 → (g'.2.2.1 128 k).toBitVec.getLsbD i = mnB P Q s (64 * k + i) := fun x hx => ⟨_, rfl, fg.tr (FR.hJ (by decide)), fun k i hk hi => by
        by_cases hkj : k = j
        · rw [hkj, rJ_eq]
          exact hx i hi
        · rw [rJ_nk hkj]
          exact i1 k i (by omega) hi⟩
      by_cases h2 : s % 2 = 0
      · refine ⟨(nI (j + 1), hJ g 128 j (g.2.2.1 115 (4 + 4 * (s / 2) + j))), by simp (disch := first | assumption | omega | decide | ((repeat first | apply lyI | apply lyJ | apply lywI | apply lywJ | apply csI | apply csJ | apply cswI | apply cswJ); assumption)) only [f_X12_meansBy_b2, f_X12_meansBy_j51, SM, LI, ↓li_m1, nI_add, pk_mul, nn_sub, nn_m1, nn_div, nn_rem, nn_nz, nn_mod, nJ_l, lN_add, lN_mul, nn_tb1, nI_bt, nn_and, nn_or, nn_xor, nn_shr, nn_1shl, nn_31, il_p, il_n, it_p, it_n, ie_p, ie_n, ie_b, ie_b1, ie_m, ie_mm, it_m, it_m0, il_m0, bI_rZ, Option.bind_some, bd2_some, Nat.add_zero, Nat.zero_add, if_true, if_false, Bool.false_eq_true, eq_self, hI_R, hJ_R, ng_t, ng_e, h2], fin _ (fun i hi => ?_)⟩
        rw [cm_Q cg (by omega) hj hi]
        unfold mnB
        rw [if_pos h2]
      · have h3 : s % 2 = 1 := by omega
        refine ⟨(nI (j + 1), hJ g 128 j (g.2.2.1 115 j &&& (g.2.2.1 115 (4 + 4 * (s / 2) + j) ^^^ (-1 : Int64)))), by simp (disch := first | assumption | omega | decide | ((repeat first | apply lyI | apply lyJ | apply lywI | apply lywJ | apply csI | apply csJ | apply cswI | apply cswJ); assumption)) only [f_X12_meansBy_b2, f_X12_meansBy_j51, SM, LI, ↓li_m1, nI_add, pk_mul, nn_sub, nn_m1, nn_div, nn_rem, nn_nz, nn_mod, nJ_l, lN_add, lN_mul, nn_tb1, nI_bt, nn_and, nn_or, nn_xor, nn_shr, nn_1shl, nn_31, il_p, il_n, it_p, it_n, ie_p, ie_n, ie_b, ie_b1, ie_m, ie_mm, it_m, it_m0, il_m0, bI_rZ, Option.bind_some, bd2_some, Nat.add_zero, Nat.zero_add, if_true, if_false, Bool.false_eq_true, eq_self, hI_R, hJ_R, ng_t, ng_e, h3], fin _ (fun i hi => ?_)⟩
        rw [Int64.toBitVec_and, BitVec.getLsbD_and, j_not hi, cm_P cg hj hi, cm_Q cg (by omega) hj hi]
        unfold mnB
        rw [if_neg h2]
    · rintro _ ⟨g, rfl, fg, i1⟩
      exact ⟨g, by simp (disch := first | assumption | omega | decide | ((repeat first | apply lyI | apply lyJ | apply lywI | apply lywJ | apply csI | apply csJ | apply cswI | apply cswJ); assumption)) only [f_X12_meansBy_b2, SM, LI, ↓li_m1, nI_add, pk_mul, nn_sub, nn_m1, nn_div, nn_rem, nn_nz, nn_mod, nJ_l, lN_add, lN_mul, nn_tb1, nI_bt, nn_and, nn_or, nn_xor, nn_shr, nn_1shl, nn_31, il_p, il_n, it_p, it_n, ie_p, ie_n, ie_b, ie_b1, ie_m, ie_mm, it_m, it_m0, il_m0, bI_rZ, Option.bind_some, bd2_some, Nat.add_zero, Nat.zero_add, if_true, if_false, Bool.false_eq_true, eq_self, hI_R, hJ_R, ng_t, ng_e], fg, i1⟩
  obtain ⟨g, e1, f1, m⟩ := e
  exact ⟨g, by simp (disch := first | assumption | omega | decide | ((repeat first | apply lyI | apply lyJ | apply lywI | apply lywJ | apply csI | apply csJ | apply cswI | apply cswJ); assumption)) only [f_X12_meansBy, LI, ↓li_m1, nI_add, pk_mul, nn_sub, nn_m1, nn_div, nn_rem, nn_nz, nn_mod, nJ_l, lN_add, lN_mul, nn_tb1, nI_bt, nn_and, nn_or, nn_xor, nn_shr, nn_1shl, nn_31, il_p, il_n, it_p, it_n, ie_p, ie_n, ie_b, ie_b1, ie_m, ie_mm, it_m, it_m0, il_m0, bI_rZ, Option.bind_some, bd2_some, Nat.add_zero, Nat.zero_add, if_true, if_false, Bool.false_eq_true, eq_self, hI_R, hJ_R, ng_t, ng_e, e1], f1, m⟩
theorem r_meant {h : aH} (hl : LAY h) {kn mn : Nat → Bool} (kk : KN h kn) (mm : ME h mn) : f_X12_isMeant h 113 = some (bI (!anyB (fun w => kn w && !mn w) 256)) := by
  have e0 : anyB (fun k => nzB (h.2.2.1 127 k &&& (h.2.2.1 128 k ^^^ (-1 : Int64)))) 4 = anyB (fun w => kn w && !mn w) 256 := any_w (fun k i hk hi => by
    rw [Int64.toBitVec_and, BitVec.getLsbD_and, j_not hi, kk k i hk hi, mm k i hk hi])
  rw [← e0, ← all_any]
  have e1 : f_X12_isMeant_l4 h 113 (nI 1) (nI 0) = some (bI (allB (fun k => !nzB (h.2.2.1 127 k &&& (h.2.2.1 128 k ^^^ (-1 : Int64)))) 4)) := by
    refine for0 (body := fun zz : Int32 × Int32 => f_X12_isMeant_b4 h 113 zz.1 zz.2) (fun j => (bI (allB (fun k => !nzB (h.2.2.1 127 k &&& (h.2.2.1 128 k ^^^ (-1 : Int64)))) j), nI j)) (4) (e := bI (allB (fun k => !nzB (h.2.2.1 127 k &&& (h.2.2.1 128 k ^^^ (-1 : Int64)))) 4)) (rfl) (by decide) (fun j hj => ?_) ?_
    · have nx : allB (fun k => !nzB (h.2.2.1 127 k &&& (h.2.2.1 128 k ^^^ (-1 : Int64)))) (j + 1) = (allB (fun k => !nzB (h.2.2.1 127 k &&& (h.2.2.1 128 k ^^^ (-1 : Int64)))) j && !nzB (h.2.2.1 127 j &&& (h.2.2.1 128 j ^^^ (-1 : Int64)))) := rfl
      rw [nx]
      cases allB (fun k => !nzB (h.2.2.1 127 k &&& (h.2.2.1 128 k ^^^ (-1 : Int64)))) j <;> cases hz : nzB (h.2.2.1 127 j &&& (h.2.2.1 128 j ^^^ (-1 : Int64))) <;> simp (disch := first | assumption | omega | decide | ((repeat first | apply lyI | apply lyJ | apply lywI | apply lywJ | apply csI | apply csJ | apply cswI | apply cswJ); assumption)) only [f_X12_isMeant_b4, f_X12_isMeant_j40, f_X12_isMeant_j39, SM, LI, ↓li_m1, nI_add, pk_mul, nn_sub, nn_m1, nn_div, nn_rem, nn_nz, nn_mod, nJ_l, lN_add, lN_mul, nn_tb1, nI_bt, nn_and, nn_or, nn_xor, nn_shr, nn_1shl, nn_31, il_p, il_n, it_p, it_n, ie_p, ie_n, ie_b, ie_b1, ie_m, ie_mm, it_m, it_m0, il_m0, bI_rZ, Option.bind_some, bd2_some, Nat.add_zero, Nat.zero_add, if_true, if_false, Bool.false_eq_true, eq_self, hI_R, hJ_R, ng_t, ng_e, bI_f, bI_t, nz_if, hz] <;> rfl
    · simp (disch := first | assumption | omega | decide | ((repeat first | apply lyI | apply lyJ | apply lywI | apply lywJ | apply csI | apply csJ | apply cswI | apply cswJ); assumption)) only [f_X12_isMeant_b4, f_X12_isMeant_j40, f_X12_isMeant_j39, SM, LI, ↓li_m1, nI_add, pk_mul, nn_sub, nn_m1, nn_div, nn_rem, nn_nz, nn_mod, nJ_l, lN_add, lN_mul, nn_tb1, nI_bt, nn_and, nn_or, nn_xor, nn_shr, nn_1shl, nn_31, il_p, il_n, it_p, it_n, ie_p, ie_n, ie_b, ie_b1, ie_m, ie_mm, it_m, it_m0, il_m0, bI_rZ, Option.bind_some, bd2_some, Nat.add_zero, Nat.zero_add, if_true, if_false, Bool.false_eq_true, eq_self, hI_R, hJ_R, ng_t, ng_e]
  simp (disch := first | assumption | omega | decide | ((repeat first | apply lyI | apply lyJ | apply lywI | apply lywJ | apply csI | apply csJ | apply cswI | apply cswJ); assumption)) only [f_X12_isMeant, SM, LI, ↓li_m1, nI_add, pk_mul, nn_sub, nn_m1, nn_div, nn_rem, nn_nz, nn_mod, nJ_l, lN_add, lN_mul, nn_tb1, nI_bt, nn_and, nn_or, nn_xor, nn_shr, nn_1shl, nn_31, il_p, il_n, it_p, it_n, ie_p, ie_n, ie_b, ie_b1, ie_m, ie_mm, it_m, it_m0, il_m0, bI_rZ, Option.bind_some, bd2_some, Nat.add_zero, Nat.zero_add, if_true, if_false, Bool.false_eq_true, eq_self, hI_R, hJ_R, ng_t, ng_e, e1]
def lt3 (a b c : Bool) : Nat := (if a = true then 1 else 0) ||| (if b = true then 2 else 0) ||| (if c = true then 4 else 0)
theorem lt3_0 : lt3 false false false = 0 := by decide
theorem r_lies {h : aH} (hl : LAY h) {A : Nat → Nat} {P : Nat → Bool} {Q : Nat → Nat → Bool} (hc : CM h A P Q) (hw : WF A) {mn : Nat → Bool} (mm : ME h mn) {q : Nat} (hq : q < A 3) : f_X12_liesTo h 113 (nI q) = some (nI (lt3 (anyB (fun w => mn w && Q q w) 256) (anyB (fun w => mn w && !Q q w) 256) (anyB (fun w => P w && !mn w) 256))) := by
  obtain ⟨b0, b1, b2l, b2, b3, b4⟩ := wf_b hw
  obtain ⟨c0, c1, c2, c3, c4, cA⟩ := cm_e hc
  let w1 : Nat → Bool := fun k => nzB (h.2.2.1 128 k &&& h.2.2.1 115 (4 + 4 * q + k))
  let w2 : Nat → Bool := fun k => nzB (h.2.2.1 128 k &&& (h.2.2.1 115 (4 + 4 * q + k) ^^^ (-1 : Int64)))
  let w4 : Nat → Bool := fun k => nzB (h.2.2.1 115 k &&& (h.2.2.1 128 k ^^^ (-1 : Int64)))
  have x1 : anyB w1 4 = anyB (fun w => mn w && Q q w) 256 := any_w (fun k i hk hi => by
    rw [Int64.toBitVec_and, BitVec.getLsbD_and, mm k i hk hi, cm_Q hc (by omega) hk hi])
  have x2 : anyB w2 4 = anyB (fun w => mn w && !Q q w) 256 := any_w (fun k i hk hi => by
    rw [Int64.toBitVec_and, BitVec.getLsbD_and, j_not hi, mm k i hk hi, cm_Q hc (by omega) hk hi])
  have x4 : anyB w4 4 = anyB (fun w => P w && !mn w) 256 := any_w (fun k i hk hi => by
    rw [Int64.toBitVec_and, BitVec.getLsbD_and, j_not hi, mm k i hk hi, cm_P hc hk hi])
  rw [← x1, ← x2, ← x4]
  have e1 : f_X12_liesTo_l4 h 113 (nI q) (nI 0) (nI 0) = some (nI (lt3 (anyB w1 4) (anyB w2 4) (anyB w4 4))) := by
    refine for0 (body := fun zz : Int32 × Int32 => f_X12_liesTo_b4 h 113 (nI q) zz.1 zz.2) (fun j => (nI (lt3 (anyB w1 j) (anyB w2 j) (anyB w4 j)), nI j)) (4) (e := nI (lt3 (anyB w1 4) (anyB w2 4) (anyB w4 4))) (by rw [show lt3 (anyB w1 0) (anyB w2 0) (anyB w4 0) = 0 from lt3_0]) (by decide) (fun j hj => ?_) ?_
    · show f_X12_liesTo_b4 h 113 (nI q) (nI (lt3 (anyB w1 j) (anyB w2 j) (anyB w4 j))) (nI j) = some (.inl (nI (lt3 (anyB w1 j || w1 j) (anyB w2 j || w2 j) (anyB w4 j || w4 j)), nI (j + 1)))
      simp (disch := first | assumption | omega | decide | ((repeat first | apply lyI | apply lyJ | apply lywI | apply lywJ | apply csI | apply csJ | apply cswI | apply cswJ); assumption)) only [f_X12_liesTo_b4, f_X12_liesTo_j91, f_X12_liesTo_j63, f_X12_liesTo_j41, SM, LI, ↓li_m1, nI_add, pk_mul, nn_sub, nn_m1, nn_div, nn_rem, nn_nz, nn_mod, nJ_l, lN_add, lN_mul, nn_tb1, nI_bt, nn_and, nn_or, nn_xor, nn_shr, nn_1shl, nn_31, il_p, il_n, it_p, it_n, ie_p, ie_n, ie_b, ie_b1, ie_m, ie_mm, it_m, it_m0, il_m0, bI_rZ, Option.bind_some, bd2_some, Nat.add_zero, Nat.zero_add, if_true, if_false, Bool.false_eq_true, eq_self, hI_R, hJ_R, ng_t, ng_e, nz_if]
      show (if w1 j = true then if w2 j = true then if w4 j = true then _ else _ else if w4 j = true then _ else _ else if w2 j = true then if w4 j = true then _ else _ else if w4 j = true then _ else _) = _
      cases w1 j <;> cases w2 j <;> cases w4 j <;> cases anyB w1 j <;> cases anyB w2 j <;> cases anyB w4 j <;> rfl
    · simp (disch := first | assumption | omega | decide | ((repeat first | apply lyI | apply lyJ | apply lywI | apply lywJ | apply csI | apply csJ | apply cswI | apply cswJ); assumption)) only [f_X12_liesTo_b4, f_X12_liesTo_j91, f_X12_liesTo_j63, f_X12_liesTo_j41, SM, LI, ↓li_m1, nI_add, pk_mul, nn_sub, nn_m1, nn_div, nn_rem, nn_nz, nn_mod, nJ_l, lN_add, lN_mul, nn_tb1, nI_bt, nn_and, nn_or, nn_xor, nn_shr, nn_1shl, nn_31, il_p, il_n, it_p, it_n, ie_p, ie_n, ie_b, ie_b1, ie_m, ie_mm, it_m, it_m0, il_m0, bI_rZ, Option.bind_some, bd2_some, Nat.add_zero, Nat.zero_add, if_true, if_false, Bool.false_eq_true, eq_self, hI_R, hJ_R, ng_t, ng_e]
  simp (disch := first | assumption | omega | decide | ((repeat first | apply lyI | apply lyJ | apply lywI | apply lywJ | apply csI | apply csJ | apply cswI | apply cswJ); assumption)) only [f_X12_liesTo, SM, LI, ↓li_m1, nI_add, pk_mul, nn_sub, nn_m1, nn_div, nn_rem, nn_nz, nn_mod, nJ_l, lN_add, lN_mul, nn_tb1, nI_bt, nn_and, nn_or, nn_xor, nn_shr, nn_1shl, nn_31, il_p, il_n, it_p, it_n, ie_p, ie_n, ie_b, ie_b1, ie_m, ie_mm, it_m, it_m0, il_m0, bI_rZ, Option.bind_some, bd2_some, Nat.add_zero, Nat.zero_add, if_true, if_false, Bool.false_eq_true, eq_self, hI_R, hJ_R, ng_t, ng_e, e1]
theorem lt3_2 {a b c : Bool} : (lt3 a b c &&& 2 = 0) ↔ b = false := by cases a <;> cases b <;> cases c <;> decide
theorem lt3_1 {a b c : Bool} : (lt3 a b c &&& 1 = 0) ↔ a = false := by cases a <;> cases b <;> cases c <;> decide
theorem lt3_7 {a b c : Bool} : (lt3 a b c = 7) ↔ (a && b && c) = true := by cases a <;> cases b <;> cases c <;> decide
theorem lt3_lt {a b c : Bool} : lt3 a b c < 8 := by cases a <;> cases b <;> cases c <;> decide
/-- the spec: what each kind answers -/
def knB (A : Nat → Nat) (P : Nat → Bool) (v w o : Nat) : Bool := P o && allB (fun f => !(A (76 + 6 * v + 4)).testBit f || valN A o f == valN A w f) (A 0)
def mtB (A : Nat → Nat) (P : Nat → Bool) (Q : Nat → Nat → Bool) (v w s : Nat) : Bool := !anyB (fun o => knB A P v w o && !mnB P Q s o) 256
def wiB (A : Nat → Nat) (P : Nat → Bool) (Q : Nat → Nat → Bool) (v w q : Nat) : Bool := !anyB (fun o => knB A P v w o && !Q q o) 256
def woB (A : Nat → Nat) (P : Nat → Bool) (Q : Nat → Nat → Bool) (v w q : Nat) : Bool := !anyB (fun o => knB A P v w o && Q q o) 256
def l1B (P : Nat → Bool) (Q : Nat → Nat → Bool) (q s : Nat) : Bool := anyB (fun o => mnB P Q s o && Q q o) 256
def l2B (P : Nat → Bool) (Q : Nat → Nat → Bool) (q s : Nat) : Bool := anyB (fun o => mnB P Q s o && !Q q o) 256
def l4B (P : Nat → Bool) (Q : Nat → Nat → Bool) (s : Nat) : Bool := anyB (fun o => P o && !mnB P Q s o) 256
def hnT (A : Nat → Nat) (P : Nat → Bool) (Q : Nat → Nat → Bool) (v w q s : Nat) : Bool := s != 2 * q && (mtB A P Q v w s && !(if wiB A P Q v w q = true then l2B P Q q s else l1B P Q q s))
def hnN (A : Nat → Nat) (P : Nat → Bool) (Q : Nat → Nat → Bool) (v w q : Nat) : Nat := if (!wiB A P Q v w q && !woB A P Q v w q) = true then 2 * q else match firstB (hnT A P Q v w q) (2 * A 3) with | some s => s | none => 2 * q
def otT (A : Nat → Nat) (P : Nat → Bool) (Q : Nat → Nat → Bool) (v w q s : Nat) : Bool := s / 2 != q && (mtB A P Q v w s && (l1B P Q q s && l2B P Q q s && l4B P Q s))
def otN (A : Nat → Nat) (P : Nat → Bool) (Q : Nat → Nat → Bool) (v w q : Nat) : Nat := match firstB (otT A P Q v w q) (2 * A 3) with | some s => s | none => 2 * q
def anS (A : Nat → Nat) (P : Nat → Bool) (Q : Nat → Nat → Bool) (v q w k : Nat) : Nat := if k = 3 then 2 * q else if k = 2 then otN A P Q v w q else if (A (76 + 6 * v + 5)).testBit q = true then otN A P Q v w q else if k = 0 then hnN A P Q v w q else if hnN A P Q v w q = 2 * q then 2 * q else hnN A P Q v w q ^^^ 1
theorem hn_lt {A : Nat → Nat} {P : Nat → Bool} {Q : Nat → Nat → Bool} {v w q : Nat} (hq : q < A 3) : hnN A P Q v w q < 2 * A 3 := by
  unfold hnN
  split
  · omega
  · split
    · rename_i s e
      exact (firstB_s.mp e).1
    · omega
theorem ot_lt {A : Nat → Nat} {P : Nat → Bool} {Q : Nat → Nat → Bool} {v w q : Nat} (hq : q < A 3) : otN A P Q v w q < 2 * A 3 := by
  unfold otN
  split
  · rename_i s e
    exact (firstB_s.mp e).1
  · omega
theorem x1_lt {x n : Nat} (h : x < 2 * n) : x ^^^ 1 < 2 * n := by
  have : x ^^^ 1 = if x % 2 = 0 then x + 1 else x - 1 := by
    apply Nat.eq_of_testBit_eq
    intro i
    rw [Nat.testBit_xor, show (1 : Nat) = 2 ^ 0 from rfl, Nat.testBit_two_pow]
    cases i with
    | zero =>
      rw [Nat.testBit_zero]
      split
      · rename_i e
        rw [Nat.testBit_zero]
        simp [show (x + 2 ^ 0) % 2 = 1 by omega, e]
      · rename_i e
        rw [Nat.testBit_zero]
        simp [show (x - 2 ^ 0) % 2 = 0 by omega, show x % 2 = 1 by omega]
    | succ i =>
      rw [Nat.testBit_succ]
      split
      · rw [Nat.testBit_succ, show (x + 2 ^ 0) / 2 = x / 2 by omega]
        simp
      · rw [Nat.testBit_succ, show (x - 2 ^ 0) / 2 = x / 2 by omega]
        simp
  rw [this]
  split <;> omega
theorem an_lt {A : Nat → Nat} {P : Nat → Bool} {Q : Nat → Nat → Bool} {v q w k : Nat} (hq : q < A 3) : anS A P Q v q w k < 2 * A 3 := by
  have h1 := hn_lt (P := P) (Q := Q) (v := v) (w := w) hq
  have h2 := ot_lt (P := P) (Q := Q) (v := v) (w := w) hq
  have h3 := x1_lt h1
  unfold anS
  split
  · omega
  · split
    · exact h2
    · split
      · exact h2
      · split
        · exact h1
        · split
          · omega
          · exact h3
