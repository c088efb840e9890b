/-! ===== the reference: what is heard, what fits ===== -/
def MM (h : aH) (n d : Nat) (M : Nat → Nat → Nat) : Prop := h.2.1 114 5 = nI d ∧ h.2.1 114 6 = nI n ∧ ∀ k i, k < n → i < 4 → h.2.1 114 (100 + 4 * k + i) = nI (M k i)
def MW (A : Nat → Nat) (n d : Nat) (M : Nat → Nat → Nat) : Prop := n ≤ 12 ∧ d < 1000 ∧ (∀ k, k < n → M k 0 < A 4 ∧ M k 1 < A 3 ∧ M k 2 < 2 * A 3 ∧ M k 3 < 1000) ∧ ∀ i j, i < n → j < n → M i 1 = M j 1 → i = j
def SY (h : aH) (A : Nat → Nat) (P : Nat → Bool) (S : Nat → Nat → Nat → Nat → Nat) : Prop := ∀ v q w k, v < A 4 → q < A 3 → w < A 2 → P w = true → k < 4 → h.2.1 126 (4 * (256 * (12 * v + q) + w) + k) = nI (S v q w k) ∧ S v q w k < 2 * A 3
def kfN (S : Nat → Nat → Nat → Nat → Nat) (v q w a : Nat) : Nat := orN (fun k => if S v q w k = a then 2 ^ k else 0) 4
/-- the kinds that may be and that fit, by the answers of a set, the first k of them looked at -/
def fbN (A : Nat → Nat) (S : Nat → Nat → Nat → Nat → Nat) (M : Nat → Nat → Nat) (m v w : Nat) : Nat → Nat
  | 0 => mayN A v
  | k + 1 => if m.testBit k = true ∧ M k 0 = v then fbN A S M m v w k &&& kfN S v (M k 1) w (M k 2) else fbN A S M m v w k
theorem mayN_lt (A : Nat → Nat) (v : Nat) : mayN A v < 16 := orN_lt (k := 4) (fun i hi => by
  split
  · decide
  · exact Nat.pow_lt_pow_right (by decide) hi)
theorem kfI_lt (f : Nat → Int32) (a : Int32) : kfI f a < 16 := orN_lt (k := 4) (fun i hi => by
  split
  · exact Nat.pow_lt_pow_right (by decide) hi
  · decide)
theorem kfN_lt (S : Nat → Nat → Nat → Nat → Nat) (v q w a : Nat) : kfN S v q w a < 16 := orN_lt (k := 4) (fun i hi => by
  split
  · exact Nat.pow_lt_pow_right (by decide) hi
  · decide)
theorem fbN_lt (A : Nat → Nat) (S : Nat → Nat → Nat → Nat → Nat) (M : Nat → Nat → Nat) (m v w : Nat) : ∀ k, fbN A S M m v w k < 16
  | 0 => mayN_lt A v
  | k + 1 => by
    have := fbN_lt A S M m v w k
    unfold fbN
    split
    · exact Nat.lt_of_le_of_lt Nat.and_le_left this
    · exact this
theorem fbN_0 {A : Nat → Nat} {S : Nat → Nat → Nat → Nat → Nat} {M : Nat → Nat → Nat} {m v w i : Nat} (h0 : fbN A S M m v w i = 0) : ∀ j, fbN A S M m v w (i + j) = 0
  | 0 => h0
  | j + 1 => by
    show (if m.testBit (i + j) = true ∧ M (i + j) 0 = v then fbN A S M m v w (i + j) &&& kfN S v (M (i + j) 1) w (M (i + j) 2) else fbN A S M m v w (i + j)) = 0
    rw [fbN_0 h0 j, Nat.zero_and, ite_self]
theorem r_putToday {h : aH} (hl : LAY h) {A : Nat → Nat} {P : Nat → Bool} {Q : Nat → Nat → Bool} (hc : CM h A P Q) (hw : WF A) {n d : Nat} {M : Nat → Nat → Nat} (hm : MM h n d M) (mw : MW A n d M) : f_X12_putToday h 113 = some (nI (cntB (fun k => M k 3 == d) n)) := by
  obtain ⟨b0, b1, b2l, b2, b3, b4⟩ := wf_b hw
  obtain ⟨c0, c1, c2, c3, c4, cA⟩ := cm_e hc
  obtain ⟨m5, m6, mM⟩ := hm
  obtain ⟨mn, md, mk, mi⟩ := mw
  have e : f_X12_putToday_l4 h 113 (nI 0) (nI 0) = some (nI (cntB (fun k => M k 3 == d) n)) := by
    refine for0 (body := fun zz : Int32 × Int32 => f_X12_putToday_b4 h 113 zz.1 zz.2) (fun j => (nI (cntB (fun k => M k 3 == d) j), nI j)) (n) (e := nI (cntB (fun k => M k 3 == d) n)) (rfl) (by omega) (fun j hj => ?_) ?_
    · have r := r_ofHeard hl (k := j) (i := 3) (by omega) (by decide)
      rw [mM j 3 hj (by decide)] at r
      have q := mk j hj
      by_cases hx : M j 3 = d
      · simp (disch := first | assumption | omega | decide) only [f_X12_putToday_b4, f_X12_putToday_j36, SM, LI, ↓li_m1, nI_add, pk_mul, nn_sub, nn_m1, nn_div, nn_rem, nn_nz, nn_mod, nJ_l, lN_add, lN_mul, nn_tb1, nI_bt, nn_and, nn_or, nn_xor, nn_shr, nn_1shl, nn_31, il_p, il_n, it_p, it_n, ie_p, ie_n, ie_b, ie_b1, ie_m, ie_mm, it_m, it_m0, il_m0, bI_rZ, Option.bind_some, bd2_some, Nat.add_zero, Nat.zero_add, if_true, if_false, Bool.false_eq_true, eq_self, r, m6, m5]
        simp [cntB, hx]
      · simp (disch := first | assumption | omega | decide) only [f_X12_putToday_b4, f_X12_putToday_j36, SM, LI, ↓li_m1, nI_add, pk_mul, nn_sub, nn_m1, nn_div, nn_rem, nn_nz, nn_mod, nJ_l, lN_add, lN_mul, nn_tb1, nI_bt, nn_and, nn_or, nn_xor, nn_shr, nn_1shl, nn_31, il_p, il_n, it_p, it_n, ie_p, ie_n, ie_b, ie_b1, ie_m, ie_mm, it_m, it_m0, il_m0, bI_rZ, Option.bind_some, bd2_some, Nat.add_zero, Nat.zero_add, if_true, if_false, Bool.false_eq_true, eq_self, r, m6, m5]
        simp only [cntB, beq_eq_false_iff_ne.mpr hx]
        rfl
    · simp (disch := first | assumption | omega | decide) only [f_X12_putToday_b4, SM, LI, ↓li_m1, nI_add, pk_mul, nn_sub, nn_m1, nn_div, nn_rem, nn_nz, nn_mod, nJ_l, lN_add, lN_mul, nn_tb1, nI_bt, nn_and, nn_or, nn_xor, nn_shr, nn_1shl, nn_31, il_p, il_n, it_p, it_n, ie_p, ie_n, ie_b, ie_b1, ie_m, ie_mm, it_m, it_m0, il_m0, bI_rZ, Option.bind_some, bd2_some, Nat.add_zero, Nat.zero_add, if_true, if_false, Bool.false_eq_true, eq_self, m6]
  simp (disch := first | assumption | omega | decide) only [f_X12_putToday, SM, LI, ↓li_m1, nI_add, pk_mul, nn_sub, nn_m1, nn_div, nn_rem, nn_nz, nn_mod, nJ_l, lN_add, lN_mul, nn_tb1, nI_bt, nn_and, nn_or, nn_xor, nn_shr, nn_1shl, nn_31, il_p, il_n, it_p, it_n, ie_p, ie_n, ie_b, ie_b1, ie_m, ie_mm, it_m, it_m0, il_m0, bI_rZ, Option.bind_some, bd2_some, Nat.add_zero, Nat.zero_add, if_true, if_false, Bool.false_eq_true, eq_self, e]
theorem r_kfN {h : aH} (hl : LAY h) {A : Nat → Nat} {P : Nat → Bool} {Q : Nat → Nat → Bool} (hc : CM h A P Q) (hw : WF A) {S : Nat → Nat → Nat → Nat → Nat} (hs : SY h A P S) {v q w a : Nat} (hv : v < A 4) (hq : q < A 3) (h1 : w < A 2) (hp : P w = true) (ha : a < 100) : f_X12_kindsFor h 113 (nI v) (nI q) (nI w) (nI a) = some (nI (kfN S v q w a)) := by
  obtain ⟨b0, b1, b2l, b2, b3, b4⟩ := wf_b hw
  obtain ⟨c0, c1, c2, c3, c4, cA⟩ := cm_e hc
  rw [r_kindsFor hl (by omega) (by omega) (by omega)]
  refine congrArg (fun x => some (nI x)) (orN_congr (fun k hk => ?_))
  obtain ⟨e1, e2⟩ := hs v q w k hv hq h1 hp hk
  show (if h.2.1 126 (4 * (256 * (12 * v + q) + w) + k) = nI a then 2 ^ k else 0) = _
  rw [e1]
  by_cases hx : S v q w k = a
  · rw [if_pos (congrArg nI hx), if_pos hx]
  · rw [if_neg (fun e => hx ((nI_eq (by omega) (by omega)).mp e)), if_neg hx]
/-- the loop over what was heard -/
theorem r_fit1 {h : aH} (hl : LAY h) {A : Nat → Nat} {P : Nat → Bool} {Q : Nat → Nat → Bool} (hc : CM h A P Q) (hw : WF A) {n d : Nat} {M : Nat → Nat → Nat} (hm : MM h n d M) (mw : MW A n d M) {S : Nat → Nat → Nat → Nat → Nat} (hs : SY h A P S) {m v w : Nat} (hmm : m < 2147483648) (hv : v < A 4) (h1 : w < A 2) : f_X12_fitsBy_l46 h 113 (nI m) (nI v) (nI w) (nI (if P w = true then mayN A v else 0)) (nI 0) = some (nI (if P w = true then fbN A S M m v w n else 0)) := by
  obtain ⟨b0, b1, b2l, b2, b3, b4⟩ := wf_b hw
  obtain ⟨c0, c1, c2, c3, c4, cA⟩ := cm_e hc
  obtain ⟨m5, m6, mM⟩ := hm
  obtain ⟨mn, md, mk, mi⟩ := mw
  have e : ∃ e, f_X12_fitsBy_l46 h 113 (nI m) (nI v) (nI w) (nI (if P w = true then mayN A v else 0)) (nI 0) = some e ∧ e = nI (if P w = true then fbN A S M m v w n else 0) := by
    refine whl0 (fun i s => s = (nI (if P w = true then fbN A S M m v w i else 0), nI i)) _ n (by omega) rfl ?_
    rintro i s rfl hi
    have lt := fbN_lt A S M m v w i
    rcases Nat.lt_or_ge i n with q | q
    · have q0 := mk i q
      by_cases hz : (if P w = true then fbN A S M m v w i else 0) = 0
      · refine Or.inr ⟨nI 0, by simp (disch := first | assumption | omega | decide) only [f_X12_fitsBy_b46, f_X12_fitsBy_j115, f_X12_fitsBy_j109, f_X12_fitsBy_j41, SM, LI, ↓li_m1, nI_add, pk_mul, nn_sub, nn_m1, nn_div, nn_rem, nn_nz, nn_mod, nJ_l, lN_add, lN_mul, nn_tb1, nI_bt, nn_and, nn_or, nn_xor, nn_shr, nn_1shl, nn_31, il_p, il_n, it_p, it_n, ie_p, ie_n, ie_b, ie_b1, ie_m, ie_mm, it_m, it_m0, il_m0, bI_rZ, Option.bind_some, bd2_some, Nat.add_zero, Nat.zero_add, if_true, if_false, Bool.false_eq_true, eq_self, m6, hz], ?_⟩
        by_cases hp : P w = true
        · rw [if_pos hp] at hz
          have := fbN_0 hz (n - i)
          rw [show i + (n - i) = n by omega] at this
          rw [if_pos hp, this]
        · rw [if_neg hp]
      · by_cases hp : P w = true
        · rw [if_pos hp] at hz
          refine Or.inl ⟨_, ?_, q, rfl⟩
          have r0 := r_ofHeard hl (k := i) (i := 0) (by omega) (by decide)
          rw [mM i 0 q (by decide)] at r0
          have r1 := r_ofHeard hl (k := i) (i := 1) (by omega) (by decide)
          rw [mM i 1 q (by decide)] at r1
          have r2 := r_ofHeard hl (k := i) (i := 2) (by omega) (by decide)
          rw [mM i 2 q (by decide)] at r2
          have rk := r_kfN hl hc hw hs hv q0.2.1 h1 hp (a := M i 2) (by omega)
          rw [if_pos hp, if_pos hp]
          by_cases hb : m.testBit i = true
          · by_cases hx : M i 0 = v
            · simp (disch := first | assumption | omega | decide) only [f_X12_fitsBy_b46, f_X12_fitsBy_j115, f_X12_fitsBy_j109, f_X12_fitsBy_j41, SM, LI, ↓li_m1, nI_add, pk_mul, nn_sub, nn_m1, nn_div, nn_rem, nn_nz, nn_mod, nJ_l, lN_add, lN_mul, nn_tb1, nI_bt, nn_and, nn_or, nn_xor, nn_shr, nn_1shl, nn_31, il_p, il_n, it_p, it_n, ie_p, ie_n, ie_b, ie_b1, ie_m, ie_mm, it_m, it_m0, il_m0, bI_rZ, Option.bind_some, bd2_some, Nat.add_zero, Nat.zero_add, if_true, if_false, Bool.false_eq_true, eq_self, m6, r0, r1, r2, rk, hb, fbN, if_true, bI_t]
              simp only [hx, and_self, if_true]
            · simp (disch := first | assumption | omega | decide) only [f_X12_fitsBy_b46, f_X12_fitsBy_j115, f_X12_fitsBy_j109, f_X12_fitsBy_j41, SM, LI, ↓li_m1, nI_add, pk_mul, nn_sub, nn_m1, nn_div, nn_rem, nn_nz, nn_mod, nJ_l, lN_add, lN_mul, nn_tb1, nI_bt, nn_and, nn_or, nn_xor, nn_shr, nn_1shl, nn_31, il_p, il_n, it_p, it_n, ie_p, ie_n, ie_b, ie_b1, ie_m, ie_mm, it_m, it_m0, il_m0, bI_rZ, Option.bind_some, bd2_some, Nat.add_zero, Nat.zero_add, if_true, if_false, Bool.false_eq_true, eq_self, m6, r0, r1, r2, rk, hb, fbN, if_true, bI_t]
              simp only [hx, and_false, if_false]
          · rw [Bool.not_eq_true] at hb
            simp (disch := first | assumption | omega | decide) only [f_X12_fitsBy_b46, f_X12_fitsBy_j115, f_X12_fitsBy_j109, f_X12_fitsBy_j41, SM, LI, ↓li_m1, nI_add, pk_mul, nn_sub, nn_m1, nn_div, nn_rem, nn_nz, nn_mod, nJ_l, lN_add, lN_mul, nn_tb1, nI_bt, nn_and, nn_or, nn_xor, nn_shr, nn_1shl, nn_31, il_p, il_n, it_p, it_n, ie_p, ie_n, ie_b, ie_b1, ie_m, ie_mm, it_m, it_m0, il_m0, bI_rZ, Option.bind_some, bd2_some, Nat.add_zero, Nat.zero_add, if_true, if_false, Bool.false_eq_true, eq_self, m6, r0, r1, r2, rk, hb, fbN, if_true, bI_f]
            simp
        · exact absurd (if_neg hp) hz
    · obtain rfl : i = n := by omega
      exact Or.inr ⟨nI (if P w = true then fbN A S M m v w i else 0), by simp (disch := first | assumption | omega | decide) only [f_X12_fitsBy_b46, f_X12_fitsBy_j115, f_X12_fitsBy_j109, f_X12_fitsBy_j41, SM, LI, ↓li_m1, nI_add, pk_mul, nn_sub, nn_m1, nn_div, nn_rem, nn_nz, nn_mod, nJ_l, lN_add, lN_mul, nn_tb1, nI_bt, nn_and, nn_or, nn_xor, nn_shr, nn_1shl, nn_31, il_p, il_n, it_p, it_n, ie_p, ie_n, ie_b, ie_b1, ie_m, ie_mm, it_m, it_m0, il_m0, bI_rZ, Option.bind_some, bd2_some, Nat.add_zero, Nat.zero_add, if_true, if_false, Bool.false_eq_true, eq_self, m6], rfl⟩
  obtain ⟨_, e1, e2⟩ := e
  rw [e1, e2]
/-- what the rows hold behind fitsBy -/
def FB (h : aH) (A : Nat → Nat) (L : Nat) (F : Nat → Nat → Nat) : Prop := ∀ v w, v < A 4 → w < A 2 → h.2.1 129 (1024 * L + (256 * v + w)) = nI (F v w)
def PU (h : aH) (p : Nat → Bool) : Prop := ∀ q, q < 12 → h.2.1 130 q = bI (p q)
def ftN (A : Nat → Nat) (P : Nat → Bool) (S : Nat → Nat → Nat → Nat → Nat) (M : Nat → Nat → Nat) (m n v w : Nat) : Nat := if P w = true then fbN A S M m v w n else 0
def putN (M : Nat → Nat → Nat) (n q : Nat) : Bool := anyB (fun k => M k 1 == q) n
theorem r_fit2 {h : aH} (hl : LAY h) {A : Nat → Nat} {P : Nat → Bool} {Q : Nat → Nat → Bool} (hc : CM h A P Q) (hw : WF A) {n d : Nat} {M : Nat → Nat → Nat} (hm : MM h n d M) (mw : MW A n d M) {S : Nat → Nat → Nat → Nat → Nat} (hs : SY h A P S) {m v : Nat} (hmm : m < 2147483648) (hv : v < A 4) : f_X12_fitsBy_l14 113 (nI m) (nI v) (nI 0) h = some (wI h 129 (setF (h.2.1 129) (256 * v) (A 2) (fun w => nI (ftN A P S M m n v w)))) := by
  obtain ⟨b0, b1, b2l, b2, b3, b4⟩ := wf_b hw
  obtain ⟨c0, c1, c2, c3, c4, cA⟩ := cm_e hc
  refine for0 (body := fun zz : Int32 × aH => f_X12_fitsBy_b14 113 (nI m) (nI v) zz.1 zz.2) (fun j => (nI j, wI h 129 (setF (h.2.1 129) (256 * v) j (fun w => nI (ftN A P S M m n v w))))) (A 2) (e := wI h 129 (setF (h.2.1 129) (256 * v) (A 2) (fun w => nI (ftN A P S M m n v w)))) (by rw [setF_0, wI_self]) (by omega) (fun j hj => ?_) ?_
  · let g := wI h 129 (setF (h.2.1 129) (256 * v) j (fun w => nI (ftN A P S M m n v w)))
    have hg : LAY g := hl
    have cg : CM g A P Q := hc
    have mg : MM g n d M := hm
    have sg : SY g A P S := hs
    have r1 := r_poss hg cg (w := j) (by omega)
    have r2 := r_mayBe hg cg hw hv
    have r3 := r_fit1 hg cg hw mg mw sg hmm hv hj
    have g2 : g.2.1 114 2 = nI (A 2) := c2
    show f_X12_fitsBy_b14 113 (nI m) (nI v) (nI j) g = _
    cases hp : P j
    · rw [hp] at r1 r3
      simp only [Bool.false_eq_true, if_false] at r3
      simp (disch := first | assumption | omega | decide) only [f_X12_fitsBy_b14, f_X12_fitsBy_j115, f_X12_fitsBy_j109, f_X12_fitsBy_j41, SM, LI, ↓li_m1, nI_add, pk_mul, nn_sub, nn_m1, nn_div, nn_rem, nn_nz, nn_mod, nJ_l, lN_add, lN_mul, nn_tb1, nI_bt, nn_and, nn_or, nn_xor, nn_shr, nn_1shl, nn_31, il_p, il_n, it_p, it_n, ie_p, ie_n, ie_b, ie_b1, ie_m, ie_mm, it_m, it_m0, il_m0, bI_rZ, Option.bind_some, bd2_some, Nat.add_zero, Nat.zero_add, if_true, if_false, Bool.false_eq_true, eq_self, g2, r1, r2, r3, bI_f]
      rw [← setF_s, hI_set]
      simp only [ftN, hp, Bool.false_eq_true, if_false]
    · rw [hp] at r1 r3
      simp only [if_true] at r3
      simp (disch := first | assumption | omega | decide) only [f_X12_fitsBy_b14, f_X12_fitsBy_j115, f_X12_fitsBy_j109, f_X12_fitsBy_j41, SM, LI, ↓li_m1, nI_add, pk_mul, nn_sub, nn_m1, nn_div, nn_rem, nn_nz, nn_mod, nJ_l, lN_add, lN_mul, nn_tb1, nI_bt, nn_and, nn_or, nn_xor, nn_shr, nn_1shl, nn_31, il_p, il_n, it_p, it_n, ie_p, ie_n, ie_b, ie_b1, ie_m, ie_mm, it_m, it_m0, il_m0, bI_rZ, Option.bind_some, bd2_some, Nat.add_zero, Nat.zero_add, if_true, if_false, Bool.false_eq_true, eq_self, g2, r1, r2, r3, bI_t]
      rw [← setF_s, hI_set]
      simp only [ftN, hp, if_true]
  · have g2 : (wI h 129 (setF (h.2.1 129) (256 * v) (A 2) (fun w => nI (ftN A P S M m n v w)))).2.1 114 2 = nI (A 2) := c2
    have hg : LAY (wI h 129 (setF (h.2.1 129) (256 * v) (A 2) (fun w => nI (ftN A P S M m n v w)))) := hl
    simp (disch := first | assumption | omega | decide) only [f_X12_fitsBy_b14, SM, LI, ↓li_m1, nI_add, pk_mul, nn_sub, nn_m1, nn_div, nn_rem, nn_nz, nn_mod, nJ_l, lN_add, lN_mul, nn_tb1, nI_bt, nn_and, nn_or, nn_xor, nn_shr, nn_1shl, nn_31, il_p, il_n, it_p, it_n, ie_p, ie_n, ie_b, ie_b1, ie_m, ie_mm, it_m, it_m0, il_m0, bI_rZ, Option.bind_some, bd2_some, Nat.add_zero, Nat.zero_add, if_true, if_false, Bool.false_eq_true, eq_self, g2]
theorem cm_fr {h h' : aH} {A : Nat → Nat} {P : Nat → Bool} {Q : Nat → Nat → Bool} {cI cJ f0 f1 : List Nat} (hf : FR h h' cI cJ f0 f1) (h1 : 114 ∉ cI) (h2 : 115 ∉ cJ) (hc : CM h A P Q) : CM h' A P Q := by
  unfold CM CMo
  rw [hf.I 114 h1 (by decide) (by decide), hf.J 115 h2]
  exact hc
theorem mm_fr {h h' : aH} {n d : Nat} {M : Nat → Nat → Nat} {cI cJ f0 f1 : List Nat} (hf : FR h h' cI cJ f0 f1) (h1 : 114 ∉ cI) (hm : MM h n d M) : MM h' n d M := by
  unfold MM
  rw [hf.I 114 h1 (by decide) (by decide)]
  exact hm
theorem sy_fr {h h' : aH} {A : Nat → Nat} {P : Nat → Bool} {S : Nat → Nat → Nat → Nat → Nat} {cI cJ f0 f1 : List Nat} (hf : FR h h' cI cJ f0 f1) (h1 : 126 ∉ cI) (hs : SY h A P S) : SY h' A P S := by
  unfold SY
  rw [hf.I 126 h1 (by decide) (by decide)]
  exact hs
theorem r_fit3 {h : aH} (hl : LAY h) {A : Nat → Nat} {P : Nat → Bool} {Q : Nat → Nat → Bool} (hc : CM h A P Q) (hw : WF A) {n d : Nat} {M : Nat → Nat → Nat} (hm : MM h n d M) (mw : MW A n d M) {S : Nat → Nat → Nat → Nat → Nat} (hs : SY h A P S) {m : Nat} (hmm : m < 2147483648) : ∃ h', f_X12_fitsBy_l2 113 (nI m) (nI 0) h = some h' ∧ FR h h' [129] [] [] [] ∧ FB h' A 0 (fun v w => ftN A P S M m n v w) := by
  obtain ⟨b0, b1, b2l, b2, b3, b4⟩ := wf_b hw
  obtain ⟨c0, c1, c2, c3, c4, cA⟩ := cm_e hc
  refine forI (fun v (s : Int32 × aH) => ∃ g, s = (nI v, g) ∧ FR h g [129] [] [] [] ∧ ∀ u w, u < v → w < A 2 → g.2.1 129 (256 * u + w) = nI (ftN A P S M m n u w)) _ (A 4) (by omega) ⟨h, rfl, FR.rf, fun u w hu => absurd hu (by omega)⟩ ?_ ?_
  · rintro v _ hv ⟨g, rfl, fg, hg⟩
    have lg := fg.lay hl
    have cg := cm_fr fg (by decide) (by decide) hc
    have r := r_fit2 lg cg hw (mm_fr fg (by decide) hm) mw (sy_fr fg (by decide) hs) hmm hv
    obtain ⟨c0, c1, c2, c3, c4, cA⟩ := cm_e cg
    refine ⟨(nI (v + 1), wI g 129 (setF (g.2.1 129) (256 * v) (A 2) (fun w => nI (ftN A P S M m n v w)))), by simp (disch := first | assumption | omega | decide) only [f_X12_fitsBy_b2, f_X12_fitsBy_j115, f_X12_fitsBy_j109, f_X12_fitsBy_j41, SM, LI, ↓li_m1, nI_add, pk_mul, nn_sub, nn_m1, nn_div, nn_rem, nn_nz, nn_mod, nJ_l, lN_add, lN_mul, nn_tb1, nI_bt, nn_and, nn_or, nn_xor, nn_shr, nn_1shl, nn_31, il_p, il_n, it_p, it_n, ie_p, ie_n, ie_b, ie_b1, ie_m, ie_mm, it_m, it_m0, il_m0, bI_rZ, Option.bind_some, bd2_some, Nat.add_zero, Nat.zero_add, if_true, if_false, Bool.false_eq_true, eq_self, c4, r], _, rfl, fg.tr (FR.wI (by decide) (by decide) (by decide)), fun u w hu h1 => ?_⟩
    rw [wI_s]
    rcases Nat.lt_or_ge u v with q | q
    · rw [setF_out (by omega)]
      exact hg u w q h1
    · obtain rfl : u = v := by omega
      rw [setF_in h1]
  · rintro _ ⟨g, rfl, fg, hg⟩
    have lg := fg.lay hl
    obtain ⟨c0, c1, c2, c3, c4, cA⟩ := cm_e (cm_fr fg (by decide) (by decide) hc)
    exact ⟨g, by simp (disch := first | assumption | omega | decide) only [f_X12_fitsBy_b2, f_X12_fitsBy_j115, f_X12_fitsBy_j109, f_X12_fitsBy_j41, SM, LI, ↓li_m1, nI_add, pk_mul, nn_sub, nn_m1, nn_div, nn_rem, nn_nz, nn_mod, nJ_l, lN_add, lN_mul, nn_tb1, nI_bt, nn_and, nn_or, nn_xor, nn_shr, nn_1shl, nn_31, il_p, il_n, it_p, it_n, ie_p, ie_n, ie_b, ie_b1, ie_m, ie_mm, it_m, it_m0, il_m0, bI_rZ, Option.bind_some, bd2_some, Nat.add_zero, Nat.zero_add, if_true, if_false, Bool.false_eq_true, eq_self, c4], fg, fun v w hv h1 => by rw [Nat.mul_zero, Nat.zero_add]; exact hg v w hv h1⟩
theorem r_put1 {h : aH} (hl : LAY h) : f_X12_fitsBy_l143 113 (nI 0) h = some (wI h 130 (setF (h.2.1 130) 0 12 (fun _ => bI false))) := by
  refine for0 (body := fun zz : Int32 × aH => f_X12_fitsBy_b143 113 zz.1 zz.2) (fun j => (nI j, wI h 130 (setF (h.2.1 130) 0 j (fun _ => bI false)))) (12) (e := wI h 130 (setF (h.2.1 130) 0 12 (fun _ => bI false))) (by rw [setF_0, wI_self]) (by omega) (fun j hj => ?_) ?_
  · have hg : LAY (wI h 130 (setF (h.2.1 130) 0 j (fun _ => bI false))) := hl
    simp (disch := first | assumption | omega | decide) only [f_X12_fitsBy_b143, f_X12_fitsBy_j115, f_X12_fitsBy_j109, f_X12_fitsBy_j41, SM, LI, ↓li_m1, nI_add, pk_mul, nn_sub, nn_m1, nn_div, nn_rem, nn_nz, nn_mod, nJ_l, lN_add, lN_mul, nn_tb1, nI_bt, nn_and, nn_or, nn_xor, nn_shr, nn_1shl, nn_31, il_p, il_n, it_p, it_n, ie_p, ie_n, ie_b, ie_b1, ie_m, ie_mm, it_m, it_m0, il_m0, bI_rZ, Option.bind_some, bd2_some, Nat.add_zero, Nat.zero_add, if_true, if_false, Bool.false_eq_true, eq_self]
    rw [← setF_s0, hI_set]
  · simp (disch := first | assumption | omega | decide) only [f_X12_fitsBy_b143, f_X12_fitsBy_j115, f_X12_fitsBy_j109, f_X12_fitsBy_j41, SM, LI, ↓li_m1, nI_add, pk_mul, nn_sub, nn_m1, nn_div, nn_rem, nn_nz, nn_mod, nJ_l, lN_add, lN_mul, nn_tb1, nI_bt, nn_and, nn_or, nn_xor, nn_shr, nn_1shl, nn_31, il_p, il_n, it_p, it_n, ie_p, ie_n, ie_b, ie_b1, ie_m, ie_mm, it_m, it_m0, il_m0, bI_rZ, Option.bind_some, bd2_some, Nat.add_zero, Nat.zero_add, if_true, if_false, Bool.false_eq_true, eq_self]
theorem r_put2 {h : aH} (hl : LAY h) {A : Nat → Nat} {P : Nat → Bool} {Q : Nat → Nat → Bool} (hc : CM h A P Q) (hw : WF A) {n d : Nat} {M : Nat → Nat → Nat} (hm : MM h n d M) (mw : MW A n d M) : f_X12_fitsBy_l164 113 (nI 0) (wI h 130 (setF (h.2.1 130) 0 12 (fun _ => bI false))) = some (wI h 130 (setF (h.2.1 130) 0 12 (fun q => bI (putN M n q)))) := by
  obtain ⟨b0, b1, b2l, b2, b3, b4⟩ := wf_b hw
  obtain ⟨c0, c1, c2, c3, c4, cA⟩ := cm_e hc
  obtain ⟨m5, m6, mM⟩ := hm
  obtain ⟨mn, md, mk, mi⟩ := mw
  refine for0 (body := fun zz : Int32 × aH => f_X12_fitsBy_b164 113 zz.1 zz.2) (fun j => (nI j, wI h 130 (setF (h.2.1 130) 0 12 (fun q => bI (putN M j q))))) (n) (e := wI h 130 (setF (h.2.1 130) 0 12 (fun q => bI (putN M n q)))) (rfl) (by omega) (fun j hj => ?_) ?_
  · let g := wI h 130 (setF (h.2.1 130) 0 12 (fun q => bI (putN M j q)))
    have hg : LAY g := hl
    have g6 : g.2.1 114 6 = nI n := m6
    have q := mk j hj
    have r1 := r_ofHeard hg (k := j) (i := 1) (by omega) (by decide)
    rw [show g.2.1 114 (100 + 4 * j + 1) = nI (M j 1) from mM j 1 hj (by decide)] at r1
    show f_X12_fitsBy_b164 113 (nI j) g = _
    simp (disch := first | assumption | omega | decide) only [f_X12_fitsBy_b164, f_X12_fitsBy_j115, f_X12_fitsBy_j109, f_X12_fitsBy_j41, SM, LI, ↓li_m1, nI_add, pk_mul, nn_sub, nn_m1, nn_div, nn_rem, nn_nz, nn_mod, nJ_l, lN_add, lN_mul, nn_tb1, nI_bt, nn_and, nn_or, nn_xor, nn_shr, nn_1shl, nn_31, il_p, il_n, it_p, it_n, ie_p, ie_n, ie_b, ie_b1, ie_m, ie_mm, it_m, it_m0, il_m0, bI_rZ, Option.bind_some, bd2_some, Nat.add_zero, Nat.zero_add, if_true, if_false, Bool.false_eq_true, eq_self, g6, r1]
    show some (Sum.inl (nI (j + 1), hI (wI h 130 _) 130 (M j 1) (bI true))) = _
    rw [hI_set]
    refine congrArg (fun f => some (Sum.inl (nI (j + 1), wI h 130 f))) ?_
    funext x
    unfold va_up setF
    by_cases hx : x = M j 1
    · subst hx
      rw [if_pos rfl, if_pos (by omega), Nat.sub_zero]
      show bI true = bI (putN M (j + 1) (M j 1))
      rw [show putN M (j + 1) (M j 1) = true from by simp [putN, anyB]]
    · rw [if_neg hx]
      by_cases h2 : 0 ≤ x ∧ x < 0 + 12
      · rw [if_pos h2, if_pos h2, Nat.sub_zero]
        show bI (putN M j x) = bI (putN M (j + 1) x)
        rw [show putN M (j + 1) x = putN M j x from by simp [putN, anyB, Ne.symm hx]]
      · rw [if_neg h2, if_neg h2]
  · have hg : LAY (wI h 130 (setF (h.2.1 130) 0 12 (fun q => bI (putN M n q)))) := hl
    have g6 : (wI h 130 (setF (h.2.1 130) 0 12 (fun q => bI (putN M n q)))).2.1 114 6 = nI n := m6
    simp (disch := first | assumption | omega | decide) only [f_X12_fitsBy_b164, f_X12_fitsBy_j115, f_X12_fitsBy_j109, f_X12_fitsBy_j41, SM, LI, ↓li_m1, nI_add, pk_mul, nn_sub, nn_m1, nn_div, nn_rem, nn_nz, nn_mod, nJ_l, lN_add, lN_mul, nn_tb1, nI_bt, nn_and, nn_or, nn_xor, nn_shr, nn_1shl, nn_31, il_p, il_n, it_p, it_n, ie_p, ie_n, ie_b, ie_b1, ie_m, ie_mm, it_m, it_m0, il_m0, bI_rZ, Option.bind_some, bd2_some, Nat.add_zero, Nat.zero_add, if_true, if_false, Bool.false_eq_true, eq_self, g6]
theorem r_fitsBy {h : aH} (hl : LAY h) {A : Nat → Nat} {P : Nat → Bool} {Q : Nat → Nat → Bool} (hc : CM h A P Q) (hw : WF A) {n d : Nat} {M : Nat → Nat → Nat} (hm : MM h n d M) (mw : MW A n d M) {S : Nat → Nat → Nat → Nat → Nat} (hs : SY h A P S) {m : Nat} (hmm : m < 2147483648) : ∃ h', f_X12_fitsBy h 113 (nI m) = some h' ∧ FR h h' [129, 130] [] [] [] ∧ FB h' A 0 (fun v w => ftN A P S M m n v w) ∧ PU h' (putN M n) := by
  obtain ⟨h1, e1, f1, b1⟩ := r_fit3 hl hc hw hm mw hs hmm
  have l1 := f1.lay hl
  have e2 := r_put1 l1
  have e3 := r_put2 l1 (cm_fr f1 (by decide) (by decide) hc) hw (mm_fr f1 (by decide) hm) mw
  refine ⟨wI h1 130 (setF (h1.2.1 130) 0 12 (fun q => bI (putN M n q))), by simp (disch := first | assumption | omega | decide) only [f_X12_fitsBy, LI, ↓li_m1, nI_add, pk_mul, nn_sub, nn_m1, nn_div, nn_rem, nn_nz, nn_mod, nJ_l, lN_add, lN_mul, nn_tb1, nI_bt, nn_and, nn_or, nn_xor, nn_shr, nn_1shl, nn_31, il_p, il_n, it_p, it_n, ie_p, ie_n, ie_b, ie_b1, ie_m, ie_mm, it_m, it_m0, il_m0, bI_rZ, Option.bind_some, bd2_some, Nat.add_zero, Nat.zero_add, if_true, if_false, Bool.false_eq_true, eq_self, e1, e2, e3], ?_, b1, fun q hq => ?_⟩
  · exact (f1.mono (by decide) (by decide) (by decide) (by decide)).tr (FR.wI (by decide) (by decide) (by decide))
  · rw [wI_s, setF_in0 hq]
