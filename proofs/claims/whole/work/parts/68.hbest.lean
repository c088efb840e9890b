/-! ===== the hearing: most left behind, best, benches ===== -/
theorem and_not {b : Bool} {x a : Nat} : bI b &&& (nI (x >>> a) ^^^ m1) = bI (b && !x.testBit a) := by
  apply nn_inj
  apply BitVec.eq_of_getLsbD_eq
  intro i hi
  rw [Int32.toBitVec_and, Int32.toBitVec_xor, BitVec.getLsbD_and, BitVec.getLsbD_xor]
  have t0 : ∀ c : Bool, (bI c).toBitVec.getLsbD i = (c && decide (i = 0)) := fun c => by
    cases c
    · show (0#32).getLsbD i = _
      simp
    · show (1#32).getLsbD i = _
      rw [BitVec.getLsbD_one]
      simp
  have t1 : m1.toBitVec.getLsbD i = true := by
    rw [show m1.toBitVec = BitVec.allOnes 32 from rfl, BitVec.getLsbD_allOnes]
    exact decide_eq_true hi
  rw [t0, t0, t1]
  by_cases h0 : i = 0
  · subst h0
    rw [nn_tb, BitVec.getLsbD_ofNat]
    have : (x >>> a).testBit 0 = x.testBit a := by rw [Nat.testBit_shiftRight, Nat.add_zero]
    rw [this]
    cases b <;> cases x.testBit a <;> rfl
  · rw [decide_eq_false h0]
    simp
/-- does a kind of the set m answer a -/
def gvB (s : Nat → Nat) (m a : Nat) : Nat → Bool := anyB (fun k => m.testBit k && s k == a)
theorem ao_bit {s : Nat → Nat} {m a : Nat} : ∀ {k}, (aoN s m k).testBit a = gvB s m a k := by
  intro k
  unfold aoN gvB
  rw [orN_bit]
  refine anyB_congr (fun i _ => ?_)
  cases m.testBit i
  · simp
  · by_cases hx : s i = a <;> simp [hx]
theorem ao_lt {s : Nat → Nat} (hs : ∀ k, k < 4 → s k < 24) {m : Nat} : ∀ {k}, k ≤ 4 → aoN s m k < 16777216 := fun {k} hk => orN_lt (k := 24) (fun i hi => by
  split
  · exact Nat.pow_lt_pow_right (by decide) (hs i (by omega))
  · decide)
/-- the four kinds of a world: each answer is counted once -/
theorem k_cnt4_52 {h : aH} (hl : LAY h) {s : Nat → Nat} (hs : ∀ k, k < 4 → s k < 24) {m : Nat} (hm : m < 16) {B : Nat → Nat} (hB : ∀ a, a < 24 → h.2.1 60 a = nI (B a)) (hB2 : ∀ a, a < 24 → B a < 1000) (x1 x2 x3 : Int32) : ∃ h', f_X3_mostLeftBehind_l54 52 x1 x2 x3 (nI m) (nI (pk5 s)) (nI 0) (nI 0) h = some h' ∧ FR h h' [60] [] [] [] ∧ ∀ a, a < 24 → h'.2.1 60 a = nI (B a + (gvB s m a 4).toNat) := by
  have hp := pk5_lt (s := s) (fun k hk => by have := hs k hk; omega)
  refine forI (fun j (t : Int32 × Int32 × Int32 × aH) => ∃ g, t = (nI (pk5 s >>> (j * 5)), nI (aoN s m j), nI j, g) ∧ FR h g [60] [] [] [] ∧ ∀ a, a < 24 → g.2.1 60 a = nI (B a + (gvB s m a j).toNat)) _ 4 (by decide) ⟨h, rfl, FR.rf, fun a ha => hB a ha⟩ ?_ ?_
  · rintro j _ hj ⟨g, rfl, fg, i1⟩
    have lg := fg.lay hl
    have h1 := pk5_at (s := s) (fun k hk => by have := hs k hk; omega) hj
    have h2 := hs j hj
    have h3 := shr_lt (k := j * 5) hp
    have h4 : (pk5 s >>> (j * 5)) >>> 5 = pk5 s >>> ((j + 1) * 5) := by rw [← Nat.shiftRight_add, Nat.add_mul]
    have al := ao_lt (s := s) hs (m := m) (k := j) (by omega)
    have an := and_not (b := m.testBit j) (x := aoN s m j) (a := s j)
    rw [ao_bit] at an
    have ex := i1 (s j) h2
    have bl := hB2 (s j) h2
    have tl : (gvB s m (s j) j).toNat ≤ 1 := by cases gvB s m (s j) j <;> decide
    have ng : ∀ a, gvB s m a (j + 1) = (gvB s m a j || (m.testBit j && s j == a)) := fun a => rfl
    rcases (Bool.eq_false_or_eq_true (m.testBit j && !gvB s m (s j) j)).symm with hx | hx
    · rw [hx] at an
      have e5 : aoN s m (j + 1) = aoN s m j := by
        apply Nat.eq_of_testBit_eq
        intro a
        rw [ao_bit, ao_bit, ng]
        by_cases ha : s j = a
        · rw [← ha]
          cases hb : m.testBit j
          · simp
          · rw [hb] at hx
            simp only [Bool.true_and, Bool.not_eq_false'] at hx
            rw [hx]
            rfl
        · rw [beq_eq_false_iff_ne.mpr ha, Bool.and_false, Bool.or_false]
      refine ⟨_, by simp (disch := first | assumption | omega | decide | ((repeat first | apply lyI | apply lyJ | apply lywI | apply lywJ | apply csI | apply csJ | apply cswI | apply cswJ); assumption)) only [f_X3_mostLeftBehind_b54, f_X3_mostLeftBehind_j105, SH52, LI, ↓li_m1, nI_add, pk_mul, nn_sub, nn_m1, nn_div, nn_rem, nn_nz, nn_mod, nJ_l, lN_add, lN_mul, nn_tb1, nI_bt, nn_and, nn_or, nn_xor, nn_shr, nn_1shl, nn_31, il_p, il_n, it_p, it_n, ie_p, ie_n, ie_b, ie_b1, ie_m, ie_mm, it_m, it_m0, il_m0, bI_rZ, Option.bind_some, bd2_some, Nat.add_zero, Nat.zero_add, if_true, if_false, Bool.false_eq_true, eq_self, hI_R, hJ_R, h1, h4, an, bI_f]; try rfl, g, by rw [e5], fg, fun a ha => ?_⟩
      rw [i1 a ha, ng]
      by_cases hsa : s j = a
      · rw [← hsa]
        cases hb : m.testBit j
        · simp
        · rw [hb] at hx
          simp only [Bool.true_and, Bool.not_eq_false'] at hx
          rw [hx]
          rfl
      · rw [beq_eq_false_iff_ne.mpr hsa, Bool.and_false, Bool.or_false]
    · rw [hx] at an
      rw [Bool.and_eq_true, Bool.not_eq_true'] at hx
      have e5 : aoN s m (j + 1) = aoN s m j ||| 2 ^ s j := by
        show orN _ j ||| (if m.testBit j = true then 2 ^ s j else 0) = _
        rw [if_pos hx.1]
        rfl
      rw [hx.2] at ex
      refine ⟨(nI (pk5 s >>> ((j + 1) * 5)), nI (aoN s m (j + 1)), nI (j + 1), hI g 60 (s j) (nI (B (s j) + 1))), ?_, _, rfl, fg.tr (FR.hI (by decide) (by decide) (by decide)), fun a ha => ?_⟩
      · rw [e5]
        have ex' : g.2.1 60 (s j) = nI (B (s j)) := ex
        simp (disch := first | assumption | omega | decide | ((repeat first | apply lyI | apply lyJ | apply lywI | apply lywJ | apply csI | apply csJ | apply cswI | apply cswJ); assumption)) only [f_X3_mostLeftBehind_b54, f_X3_mostLeftBehind_j105, SH52, LI, ↓li_m1, nI_add, pk_mul, nn_sub, nn_m1, nn_div, nn_rem, nn_nz, nn_mod, nJ_l, lN_add, lN_mul, nn_tb1, nI_bt, nn_and, nn_or, nn_xor, nn_shr, nn_1shl, nn_31, il_p, il_n, it_p, it_n, ie_p, ie_n, ie_b, ie_b1, ie_m, ie_mm, it_m, it_m0, il_m0, bI_rZ, Option.bind_some, bd2_some, Nat.add_zero, Nat.zero_add, if_true, if_false, Bool.false_eq_true, eq_self, hI_R, hJ_R, h1, h4, an, bI_t, ex']
        try rfl
      · rw [rI_hI, ng]
        by_cases hsa : a = s j
        · rw [if_pos ⟨rfl, hsa⟩, hsa, hx.1, hx.2]
          simp
        · rw [if_neg (fun e => hsa e.2), i1 a ha, beq_eq_false_iff_ne.mpr (fun e => hsa e.symm), Bool.and_false, Bool.or_false]
  · rintro _ ⟨g, rfl, fg, i1⟩
    exact ⟨g, by simp (disch := first | assumption | omega | decide | ((repeat first | apply lyI | apply lyJ | apply lywI | apply lywJ | apply csI | apply csJ | apply cswI | apply cswJ); assumption)) only [f_X3_mostLeftBehind_b54, f_X3_mostLeftBehind_j105, SH52, LI, ↓li_m1, nI_add, pk_mul, nn_sub, nn_m1, nn_div, nn_rem, nn_nz, nn_mod, nJ_l, lN_add, lN_mul, nn_tb1, nI_bt, nn_and, nn_or, nn_xor, nn_shr, nn_1shl, nn_31, il_p, il_n, it_p, it_n, ie_p, ie_n, ie_b, ie_b1, ie_m, ie_mm, it_m, it_m0, il_m0, bI_rZ, Option.bind_some, bd2_some, Nat.add_zero, Nat.zero_add, if_true, if_false, Bool.false_eq_true, eq_self, hI_R, hJ_R], fg, i1⟩
/-- the four kinds of a world: each answer is counted once -/
theorem k_cnt4_68 {h : aH} (hl : LAY h) {s : Nat → Nat} (hs : ∀ k, k < 4 → s k < 24) {m : Nat} (hm : m < 16) {B : Nat → Nat} (hB : ∀ a, a < 24 → h.2.1 76 a = nI (B a)) (hB2 : ∀ a, a < 24 → B a < 1000) (x1 x2 x3 : Int32) : ∃ h', f_X3_mostLeftBehind_l54 68 x1 x2 x3 (nI m) (nI (pk5 s)) (nI 0) (nI 0) h = some h' ∧ FR h h' [76] [] [] [] ∧ ∀ a, a < 24 → h'.2.1 76 a = nI (B a + (gvB s m a 4).toNat) := by
  have hp := pk5_lt (s := s) (fun k hk => by have := hs k hk; omega)
  refine forI (fun j (t : Int32 × Int32 × Int32 × aH) => ∃ g, t = (nI (pk5 s >>> (j * 5)), nI (aoN s m j), nI j, g) ∧ FR h g [76] [] [] [] ∧ ∀ a, a < 24 → g.2.1 76 a = nI (B a + (gvB s m a j).toNat)) _ 4 (by decide) ⟨h, rfl, FR.rf, fun a ha => hB a ha⟩ ?_ ?_
  · rintro j _ hj ⟨g, rfl, fg, i1⟩
    have lg := fg.lay hl
    have h1 := pk5_at (s := s) (fun k hk => by have := hs k hk; omega) hj
    have h2 := hs j hj
    have h3 := shr_lt (k := j * 5) hp
    have h4 : (pk5 s >>> (j * 5)) >>> 5 = pk5 s >>> ((j + 1) * 5) := by rw [← Nat.shiftRight_add, Nat.add_mul]
    have al := ao_lt (s := s) hs (m := m) (k := j) (by omega)
    have an := and_not (b := m.testBit j) (x := aoN s m j) (a := s j)
    rw [ao_bit] at an
    have ex := i1 (s j) h2
    have bl := hB2 (s j) h2
    have tl : (gvB s m (s j) j).toNat ≤ 1 := by cases gvB s m (s j) j <;> decide
    have ng : ∀ a, gvB s m a (j + 1) = (gvB s m a j || (m.testBit j && s j == a)) := fun a => rfl
    rcases (Bool.eq_false_or_eq_true (m.testBit j && !gvB s m (s j) j)).symm with hx | hx
    · rw [hx] at an
      have e5 : aoN s m (j + 1) = aoN s m j := by
        apply Nat.eq_of_testBit_eq
        intro a
        rw [ao_bit, ao_bit, ng]
        by_cases ha : s j = a
        · rw [← ha]
          cases hb : m.testBit j
          · simp
          · rw [hb] at hx
            simp only [Bool.true_and, Bool.not_eq_false'] at hx
            rw [hx]
            rfl
        · rw [beq_eq_false_iff_ne.mpr ha, Bool.and_false, Bool.or_false]
      refine ⟨_, by simp (disch := first | assumption | omega | decide | ((repeat first | apply lyI | apply lyJ | apply lywI | apply lywJ | apply csI | apply csJ | apply cswI | apply cswJ); assumption)) only [f_X3_mostLeftBehind_b54, f_X3_mostLeftBehind_j105, SH68, LI, ↓li_m1, nI_add, pk_mul, nn_sub, nn_m1, nn_div, nn_rem, nn_nz, nn_mod, nJ_l, lN_add, lN_mul, nn_tb1, nI_bt, nn_and, nn_or, nn_xor, nn_shr, nn_1shl, nn_31, il_p, il_n, it_p, it_n, ie_p, ie_n, ie_b, ie_b1, ie_m, ie_mm, it_m, it_m0, il_m0, bI_rZ, Option.bind_some, bd2_some, Nat.add_zero, Nat.zero_add, if_true, if_false, Bool.false_eq_true, eq_self, hI_R, hJ_R, h1, h4, an, bI_f]; try rfl, g, by rw [e5], fg, fun a ha => ?_⟩
      rw [i1 a ha, ng]
      by_cases hsa : s j = a
      · rw [← hsa]
        cases hb : m.testBit j
        · simp
        · rw [hb] at hx
          simp only [Bool.true_and, Bool.not_eq_false'] at hx
          rw [hx]
          rfl
      · rw [beq_eq_false_iff_ne.mpr hsa, Bool.and_false, Bool.or_false]
    · rw [hx] at an
      rw [Bool.and_eq_true, Bool.not_eq_true'] at hx
      have e5 : aoN s m (j + 1) = aoN s m j ||| 2 ^ s j := by
        show orN _ j ||| (if m.testBit j = true then 2 ^ s j else 0) = _
        rw [if_pos hx.1]
        rfl
      rw [hx.2] at ex
      refine ⟨(nI (pk5 s >>> ((j + 1) * 5)), nI (aoN s m (j + 1)), nI (j + 1), hI g 76 (s j) (nI (B (s j) + 1))), ?_, _, rfl, fg.tr (FR.hI (by decide) (by decide) (by decide)), fun a ha => ?_⟩
      · rw [e5]
        have ex' : g.2.1 76 (s j) = nI (B (s j)) := ex
        simp (disch := first | assumption | omega | decide | ((repeat first | apply lyI | apply lyJ | apply lywI | apply lywJ | apply csI | apply csJ | apply cswI | apply cswJ); assumption)) only [f_X3_mostLeftBehind_b54, f_X3_mostLeftBehind_j105, SH68, LI, ↓li_m1, nI_add, pk_mul, nn_sub, nn_m1, nn_div, nn_rem, nn_nz, nn_mod, nJ_l, lN_add, lN_mul, nn_tb1, nI_bt, nn_and, nn_or, nn_xor, nn_shr, nn_1shl, nn_31, il_p, il_n, it_p, it_n, ie_p, ie_n, ie_b, ie_b1, ie_m, ie_mm, it_m, it_m0, il_m0, bI_rZ, Option.bind_some, bd2_some, Nat.add_zero, Nat.zero_add, if_true, if_false, Bool.false_eq_true, eq_self, hI_R, hJ_R, h1, h4, an, bI_t, ex']
        try rfl
      · rw [rI_hI, ng]
        by_cases hsa : a = s j
        · rw [if_pos ⟨rfl, hsa⟩, hsa, hx.1, hx.2]
          simp
        · rw [if_neg (fun e => hsa e.2), i1 a ha, beq_eq_false_iff_ne.mpr (fun e => hsa e.symm), Bool.and_false, Bool.or_false]
  · rintro _ ⟨g, rfl, fg, i1⟩
    exact ⟨g, by simp (disch := first | assumption | omega | decide | ((repeat first | apply lyI | apply lyJ | apply lywI | apply lywJ | apply csI | apply csJ | apply cswI | apply cswJ); assumption)) only [f_X3_mostLeftBehind_b54, f_X3_mostLeftBehind_j105, SH68, LI, ↓li_m1, nI_add, pk_mul, nn_sub, nn_m1, nn_div, nn_rem, nn_nz, nn_mod, nJ_l, lN_add, lN_mul, nn_tb1, nI_bt, nn_and, nn_or, nn_xor, nn_shr, nn_1shl, nn_31, il_p, il_n, it_p, it_n, ie_p, ie_n, ie_b, ie_b1, ie_m, ie_mm, it_m, it_m0, il_m0, bI_rZ, Option.bind_some, bd2_some, Nat.add_zero, Nat.zero_add, if_true, if_false, Bool.false_eq_true, eq_self, hI_R, hJ_R], fg, i1⟩
