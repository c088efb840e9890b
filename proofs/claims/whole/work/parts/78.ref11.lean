/-! ===== the least proof: the reference, on ===== -/
theorem cnt_hi {p : Nat → Bool} {n : Nat} (h : ∀ i, n ≤ i → p i = false) : ∀ {m}, n ≤ m → cntB p m = cntB p n
  | 0, hm => by rw [show n = 0 by omega]
  | m + 1, hm => by
    rcases Nat.lt_or_ge n (m + 1) with q | q
    · rw [cntB_f (h m (by omega))]
      exact cnt_hi h (by omega)
    · rw [show n = m + 1 by omega]
theorem cnt_full {p : Nat → Bool} : ∀ {n}, cntB p n = n → ∀ i, i < n → p i = true
  | 0, _, i, hi => absurd hi (by omega)
  | n + 1, h, i, hi => by
    have := cntB_le p n
    cases hp : p n
    · rw [cntB_f hp] at h
      omega
    · rw [cntB_t hp] at h
      rcases Nat.lt_or_ge i n with q | q
      · exact cnt_full (by omega) i q
      · rw [show i = n by omega, hp]
theorem bc_w {n m : Nat} (hn : n ≤ 12) (hm : m < 2 ^ n) : bcN m ≤ n ∧ (bcN m = n → m = 2 ^ n - 1) := by
  have e : bcN m = cntB (fun i => m.testBit i) n := cnt_hi (fun i hi => Nat.testBit_lt_two_pow (Nat.lt_of_lt_of_le hm (Nat.pow_le_pow_right (by decide) hi))) hn
  rw [e]
  refine ⟨cntB_le _ _, fun h => ?_⟩
  have h1 := cnt_full h
  apply Nat.eq_of_testBit_eq
  intro i
  rw [Nat.testBit_two_pow_sub_one]
  rcases Nat.lt_or_ge i n with q | q
  · rw [h1 i q, decide_eq_true q]
  · rw [Nat.testBit_lt_two_pow (Nat.lt_of_lt_of_le hm (Nat.pow_le_pow_right (by decide) q)), decide_eq_false (by omega)]
theorem bc_W : ∀ n, n ≤ 12 → bcN (2 ^ n - 1) = n := by decide +kernel
theorem r_kinds1 {h : aH} (hl : LAY h) {A : Nat → Nat} {P : Nat → Bool} {Q : Nat → Nat → Bool} (hc : CM h A P Q) (hw : WF A) {n d : Nat} {M : Nat → Nat → Nat} (hm : MM h n d M) (mw : MW A n d M) {S : Nat → Nat → Nat → Nat → Nat} (hs : SY h A P S) {k : Nat} (hk : k < n) (v1 v2 : Int32) : ∃ h', f_X12_because_l53 113 v1 v2 (nI k) (nI 0) h = some h' ∧ FR h h' [131] [] [] [] ∧ (∀ w, w < A 2 → P w = true → h'.2.1 131 (256 * k + w) = nI (kfN S (M k 0) (M k 1) w (M k 2))) ∧ ∀ x, x < 256 * k → h'.2.1 131 x = h.2.1 131 x := by
  obtain ⟨b0, b1, b2l, b2, b3, b4⟩ := wf_b hw
  obtain ⟨c0, c1, c2, c3, c4, cA⟩ := cm_e hc
  obtain ⟨m5, m6, mM⟩ := hm
  obtain ⟨mn, md, mk, mi⟩ := mw
  have mj := mk k hk
  refine forI (fun j (s : Int32 × aH) => ∃ g, s = (nI j, g) ∧ FR h g [131] [] [] [] ∧ (∀ w, w < j → P w = true → g.2.1 131 (256 * k + w) = nI (kfN S (M k 0) (M k 1) w (M k 2))) ∧ ∀ x, x < 256 * k → g.2.1 131 x = h.2.1 131 x) _ (A 2) (by omega) ⟨h, rfl, FR.rf, fun w hw => absurd hw (by omega), fun _ _ => rfl⟩ ?_ ?_
  · rintro j _ hj ⟨g, rfl, fg, i1, i2⟩
    have lg := fg.lay hl
    have cg := cm_fr fg (by decide) (by decide) hc
    have sg := sy_fr fg (by decide) hs
    have g114 := fg.I 114 (by decide) (by decide) (by decide)
    obtain ⟨c0, c1, c2, c3, c4, cA⟩ := cm_e cg
    have r0 := r_ofHeard lg (k := k) (i := 0) (by omega) (by decide)
    rw [g114, mM k 0 hk (by decide)] at r0
    have r1 := r_ofHeard lg (k := k) (i := 1) (by omega) (by decide)
    rw [g114, mM k 1 hk (by decide)] at r1
    have r2 := r_ofHeard lg (k := k) (i := 2) (by omega) (by decide)
    rw [g114, mM k 2 hk (by decide)] at r2
    obtain ⟨x, rk, hx⟩ : ∃ x, f_X12_kindsFor g 113 (nI (M k 0)) (nI (M k 1)) (nI j) (nI (M k 2)) = some (nI x) ∧ (P j = true → x = kfN S (M k 0) (M k 1) j (M k 2)) := by
      rcases (Bool.eq_false_or_eq_true (P j)).symm with hp | hp
      · exact ⟨_, r_kindsFor lg (by omega) (by omega) (by omega) _, fun e => by rw [hp] at e; cases e⟩
      · exact ⟨_, r_kfN lg cg hw sg mj.1 mj.2.1 hj hp (by omega), fun _ => rfl⟩
    refine ⟨(nI (j + 1), hI g 131 (256 * k + j) (nI x)), by simp (disch := first | assumption | omega | decide | ((repeat first | apply lyI | apply lyJ | apply lywI | apply lywJ | apply csI | apply csJ | apply cswI | apply cswJ); assumption)) only [f_X12_because_b53, f_X12_because_j168, f_X12_because_j213, SM, LI, ↓li_m1, nI_add, pk_mul, nn_sub, nn_m1, nn_div, nn_rem, nn_nz, nn_mod, nJ_l, lN_add, lN_mul, nn_tb1, nI_bt, nn_and, nn_or, nn_xor, nn_shr, nn_1shl, nn_31, il_p, il_n, it_p, it_n, ie_p, ie_n, ie_b, ie_b1, ie_m, ie_mm, it_m, it_m0, il_m0, bI_rZ, Option.bind_some, bd2_some, Nat.add_zero, Nat.zero_add, if_true, if_false, Bool.false_eq_true, eq_self, hI_R, hJ_R, c2, r0, r1, r2, rk], _, rfl, fg.tr (FR.hI (by decide) (by decide) (by decide)), fun w hw hp => ?_, fun y hy => ?_⟩
    · rw [rI_hI]
      by_cases hwj : w = j
      · subst hwj
        rw [if_pos ⟨rfl, rfl⟩, hx hp]
      · rw [if_neg (fun e => by omega)]
        exact i1 w (by omega) hp
    · rw [rI_hI, if_neg (fun e => by omega)]
      exact i2 y hy
  · rintro _ ⟨g, rfl, fg, i1, i2⟩
    have lg := fg.lay hl
    obtain ⟨c0, c1, c2, c3, c4, cA⟩ := cm_e (cm_fr fg (by decide) (by decide) hc)
    exact ⟨g, by simp (disch := first | assumption | omega | decide | ((repeat first | apply lyI | apply lyJ | apply lywI | apply lywJ | apply csI | apply csJ | apply cswI | apply cswJ); assumption)) only [f_X12_because_b53, f_X12_because_j168, f_X12_because_j213, SM, LI, ↓li_m1, nI_add, pk_mul, nn_sub, nn_m1, nn_div, nn_rem, nn_nz, nn_mod, nJ_l, lN_add, lN_mul, nn_tb1, nI_bt, nn_and, nn_or, nn_xor, nn_shr, nn_1shl, nn_31, il_p, il_n, it_p, it_n, ie_p, ie_n, ie_b, ie_b1, ie_m, ie_mm, it_m, it_m0, il_m0, bI_rZ, Option.bind_some, bd2_some, Nat.add_zero, Nat.zero_add, if_true, if_false, Bool.false_eq_true, eq_self, hI_R, hJ_R, c2], fg, i1, i2⟩
theorem r_kinds2 {h : aH} (hl : LAY h) {A : Nat → Nat} {P : Nat → Bool} {Q : Nat → Nat → Bool} (hc : CM h A P Q) (hw : WF A) {n d : Nat} {M : Nat → Nat → Nat} (hm : MM h n d M) (mw : MW A n d M) {S : Nat → Nat → Nat → Nat → Nat} (hs : SY h A P S) (v1 v2 : Int32) : ∃ h', f_X12_because_l39 113 v1 v2 (nI 0) h = some h' ∧ FR h h' [131] [] [] [] ∧ KB h' A P S M n := by
  obtain ⟨b0, b1, b2l, b2, b3, b4⟩ := wf_b hw
  obtain ⟨c0, c1, c2, c3, c4, cA⟩ := cm_e hc
  have m6 := hm.2.1
  have mn := mw.1
  refine forI (fun j (s : Int32 × aH) => ∃ g, s = (nI j, g) ∧ FR h g [131] [] [] [] ∧ KB g A P S M j) _ n (by omega) ⟨h, rfl, FR.rf, fun k w hk => absurd hk (by omega)⟩ ?_ ?_
  · rintro j _ hj ⟨g, rfl, fg, i1⟩
    have lg := fg.lay hl
    have g6 : g.2.1 114 6 = nI n := by rw [fg.I 114 (by decide) (by decide) (by decide)]; exact m6
    obtain ⟨g', e1, f1, j1, j2⟩ := r_kinds1 lg (cm_fr fg (by decide) (by decide) hc) hw (mm_fr fg (by decide) hm) mw (sy_fr fg (by decide) hs) hj v1 v2
    refine ⟨(nI (j + 1), g'), by simp (disch := first | assumption | omega | decide | ((repeat first | apply lyI | apply lyJ | apply lywI | apply lywJ | apply csI | apply csJ | apply cswI | apply cswJ); assumption)) only [f_X12_because_b39, f_X12_because_j168, f_X12_because_j213, SM, LI, ↓li_m1, nI_add, pk_mul, nn_sub, nn_m1, nn_div, nn_rem, nn_nz, nn_mod, nJ_l, lN_add, lN_mul, nn_tb1, nI_bt, nn_and, nn_or, nn_xor, nn_shr, nn_1shl, nn_31, il_p, il_n, it_p, it_n, ie_p, ie_n, ie_b, ie_b1, ie_m, ie_mm, it_m, it_m0, il_m0, bI_rZ, Option.bind_some, bd2_some, Nat.add_zero, Nat.zero_add, if_true, if_false, Bool.false_eq_true, eq_self, hI_R, hJ_R, g6, e1], g', rfl, fg.tr f1, fun k w hk hw' hp => ?_⟩
    rcases Nat.lt_or_ge k j with u | u
    · rw [j2 _ (by omega)]
      exact i1 k w u hw' hp
    · rw [show k = j by omega]
      exact j1 w hw' hp
  · rintro _ ⟨g, rfl, fg, i1⟩
    have lg := fg.lay hl
    have g6 : g.2.1 114 6 = nI n := by rw [fg.I 114 (by decide) (by decide) (by decide)]; exact m6
    exact ⟨g, by simp (disch := first | assumption | omega | decide | ((repeat first | apply lyI | apply lyJ | apply lywI | apply lywJ | apply csI | apply csJ | apply cswI | apply cswJ); assumption)) only [f_X12_because_b39, f_X12_because_j168, f_X12_because_j213, SM, LI, ↓li_m1, nI_add, pk_mul, nn_sub, nn_m1, nn_div, nn_rem, nn_nz, nn_mod, nJ_l, lN_add, lN_mul, nn_tb1, nI_bt, nn_and, nn_or, nn_xor, nn_shr, nn_1shl, nn_31, il_p, il_n, it_p, it_n, ie_p, ie_n, ie_b, ie_b1, ie_m, ie_mm, it_m, it_m0, il_m0, bI_rZ, Option.bind_some, bd2_some, Nat.add_zero, Nat.zero_add, if_true, if_false, Bool.false_eq_true, eq_self, hI_R, hJ_R, g6], fg, i1⟩
/-- the two loops of the reference, over any test -/
theorem lp_two {pr : Nat → Bool} {n b : Nat} (hn : n ≤ 12) (hb : b = 2 ^ n - 1 ∨ (b < 2 ^ n ∧ pr b = true ∧ bcN b < n)) (hmin : ∀ m, m < 2 ^ n → pr m = true → bcN b ≤ bcN m) : lpN pr n = (match firstB (fun m => bcN m == bcN b && pr m) b with | some m => m | none => b) := by
  have p0 : 0 < 2 ^ n := Nat.two_pow_pos n
  have bW := bc_W n hn
  rcases hb with rfl | ⟨h1, h2, h3⟩
  · have e1 : firstB (fun m => bcN m == bcN (2 ^ n - 1) && pr m) (2 ^ n - 1) = none := firstB_n.mpr (fun m hm => by
      rw [bW]
      by_cases hx : bcN m = n
      · have := (bc_w hn (show m < 2 ^ n by omega)).2 hx
        omega
      · rw [beq_eq_false_iff_ne.mpr hx]
        rfl)
    rw [e1]
    have e2 : lpO pr n = none := by
      unfold lpO
      rw [firstB_n.mpr (fun s hs => anyB_f.mpr (fun m hm => by
        by_cases hx : bcN m = s
        · cases hp : pr m
          · rw [Bool.and_false]
          · have := hmin m (by omega) hp
            omega
        · rw [beq_eq_false_iff_ne.mpr hx]
          rfl))]
    unfold lpN
    rw [e2]
  · have bl : b < 2 ^ n - 1 := by
      rcases Nat.lt_or_ge b (2 ^ n - 1) with q | q
      · exact q
      · rw [show b = 2 ^ n - 1 by omega, bW] at h3
        omega
    have e2 : lpO pr n = firstB (fun m => bcN m == bcN b && pr m) (2 ^ n - 1) := by
      unfold lpO
      rw [show firstB (fun s => anyB (fun m => bcN m == s && pr m) (2 ^ n - 1)) n = some (bcN b) from firstB_s.mpr ⟨h3, anyB_iff.mpr ⟨b, bl, by rw [h2]; simp⟩, fun s hs => anyB_f.mpr (fun m hm => by
        by_cases hx : bcN m = s
        · cases hp : pr m
          · rw [Bool.and_false]
          · have := hmin m (by omega) hp
            omega
        · rw [beq_eq_false_iff_ne.mpr hx]
          rfl)⟩]
    unfold lpN
    rw [e2]
    cases hx : firstB (fun m => bcN m == bcN b && pr m) b with
    | some m =>
      obtain ⟨x1, x2, x3⟩ := firstB_s.mp hx
      rw [show firstB (fun m => bcN m == bcN b && pr m) (2 ^ n - 1) = some m from firstB_s.mpr ⟨by omega, x2, x3⟩]
    | none =>
      rw [show firstB (fun m => bcN m == bcN b && pr m) (2 ^ n - 1) = some b from firstB_s.mpr ⟨bl, by rw [h2]; simp, firstB_n.mp hx⟩]
theorem r_lp1 {h : aH} (hl : LAY h) {A : Nat → Nat} {P : Nat → Bool} {Q : Nat → Nat → Bool} (hc : CM h A P Q) (hw : WF A) {n d : Nat} {M : Nat → Nat → Nat} (hm : MM h n d M) (mw : MW A n d M) {S : Nat → Nat → Nat → Nat → Nat} (kb : KB h A P S M n) {q : Nat} (hq : q < A 3) (how : Bool) : ∃ b, f_X12_because_l128 h 113 (nI q) (bI how) (nI (2 ^ n - 1)) (nI 0) = some (nI b) ∧ (b = 2 ^ n - 1 ∨ (b < 2 ^ n ∧ prB A P (Q q) how S M n b = true ∧ bcN b < n)) ∧ ∀ m, m < 2 ^ n → prB A P (Q q) how S M n m = true → bcN b ≤ bcN m := by
  obtain ⟨b0, b1, b2l, b2, b3, b4⟩ := wf_b hw
  have m6 := hm.2.1
  have mn := mw.1
  have p12 : 2 ^ n ≤ 2 ^ 12 := Nat.pow_le_pow_right (by decide) mn
  have p0 : 0 < 2 ^ n := Nat.two_pow_pos n
  have bW := bc_W n mn
  have e : ∃ e, f_X12_because_l128 h 113 (nI q) (bI how) (nI (2 ^ n - 1)) (nI 0) = some e ∧ ∃ b, e = nI b ∧ (b = 2 ^ n - 1 ∨ (b < 2 ^ n ∧ prB A P (Q q) how S M n b = true ∧ bcN b < n)) ∧ ∀ m, m < 2 ^ n → prB A P (Q q) how S M n m = true → bcN b ≤ bcN m := by
    refine forI (fun i (s : Int32 × Int32) => ∃ b, s = (nI b, nI i) ∧ (b = 2 ^ n - 1 ∨ (b < 2 ^ n ∧ prB A P (Q q) how S M n b = true ∧ bcN b < n)) ∧ ∀ m, m < i → prB A P (Q q) how S M n m = true → bcN b ≤ bcN m) _ (2 ^ n) (by omega) ⟨_, rfl, Or.inl rfl, fun m hm => absurd hm (by omega)⟩ ?_ ?_
    · rintro i _ hi ⟨b, rfl, hb, hmin⟩
      have bl : b < 2 ^ n := by
        rcases hb with rfl | hb
        · omega
        · exact hb.1
      have r1 := bc_r (h := h) (v := i) (by omega)
      have r2 := bc_r (h := h) (v := b) (by omega)
      have w1 := bc_w mn hi
      have w2 := bc_w mn bl
      by_cases hx : bcN b ≤ bcN i
      · refine ⟨(nI b, nI (i + 1)), by simp (disch := first | assumption | omega | decide | ((repeat first | apply lyI | apply lyJ | apply lywI | apply lywJ | apply csI | apply csJ | apply cswI | apply cswJ); assumption)) only [f_X12_because_b128, f_X12_because_j168, f_X12_because_j213, SM, LI, ↓li_m1, nI_add, pk_mul, nn_sub, nn_m1, nn_div, nn_rem, nn_nz, nn_mod, nJ_l, lN_add, lN_mul, nn_tb1, nI_bt, nn_and, nn_or, nn_xor, nn_shr, nn_1shl, nn_31, il_p, il_n, it_p, it_n, ie_p, ie_n, ie_b, ie_b1, ie_m, ie_mm, it_m, it_m0, il_m0, bI_rZ, Option.bind_some, bd2_some, Nat.add_zero, Nat.zero_add, if_true, if_false, Bool.false_eq_true, eq_self, hI_R, hJ_R, m6, r1, r2], b, rfl, hb, fun m hm hp => ?_⟩
        rcases Nat.lt_or_ge m i with u | u
        · exact hmin m u hp
        · rw [show m = i by omega]
          exact hx
      · have r3 := r_sureBy hl hc hw hm mw kb hq how (m := i) (by omega)
        rcases (Bool.eq_false_or_eq_true (prB A P (Q q) how S M n i)).symm with hp | hp
        · rw [hp] at r3
          refine ⟨(nI b, nI (i + 1)), by simp (disch := first | assumption | omega | decide | ((repeat first | apply lyI | apply lyJ | apply lywI | apply lywJ | apply csI | apply csJ | apply cswI | apply cswJ); assumption)) only [f_X12_because_b128, f_X12_because_j168, f_X12_because_j213, SM, LI, ↓li_m1, nI_add, pk_mul, nn_sub, nn_m1, nn_div, nn_rem, nn_nz, nn_mod, nJ_l, lN_add, lN_mul, nn_tb1, nI_bt, nn_and, nn_or, nn_xor, nn_shr, nn_1shl, nn_31, il_p, il_n, it_p, it_n, ie_p, ie_n, ie_b, ie_b1, ie_m, ie_mm, it_m, it_m0, il_m0, bI_rZ, Option.bind_some, bd2_some, Nat.add_zero, Nat.zero_add, if_true, if_false, Bool.false_eq_true, eq_self, hI_R, hJ_R, m6, r1, r2, r3, bI_f], b, rfl, hb, fun m hm hpm => ?_⟩
          rcases Nat.lt_or_ge m i with u | u
          · exact hmin m u hpm
          · rw [show m = i by omega, hp] at hpm
            cases hpm
        · rw [hp] at r3
          refine ⟨(nI i, nI (i + 1)), by simp (disch := first | assumption | omega | decide | ((repeat first | apply lyI | apply lyJ | apply lywI | apply lywJ | apply csI | apply csJ | apply cswI | apply cswJ); assumption)) only [f_X12_because_b128, f_X12_because_j168, f_X12_because_j213, SM, LI, ↓li_m1, nI_add, pk_mul, nn_sub, nn_m1, nn_div, nn_rem, nn_nz, nn_mod, nJ_l, lN_add, lN_mul, nn_tb1, nI_bt, nn_and, nn_or, nn_xor, nn_shr, nn_1shl, nn_31, il_p, il_n, it_p, it_n, ie_p, ie_n, ie_b, ie_b1, ie_m, ie_mm, it_m, it_m0, il_m0, bI_rZ, Option.bind_some, bd2_some, Nat.add_zero, Nat.zero_add, if_true, if_false, Bool.false_eq_true, eq_self, hI_R, hJ_R, m6, r1, r2, r3, bI_t], i, rfl, Or.inr ⟨hi, hp, by omega⟩, fun m hm hpm => ?_⟩
          rcases Nat.lt_or_ge m i with u | u
          · have := hmin m u hpm
            omega
          · rw [show m = i by omega]
            exact Nat.le_refl _
    · rintro _ ⟨b, rfl, hb, hmin⟩
      exact ⟨nI b, by simp (disch := first | assumption | omega | decide | ((repeat first | apply lyI | apply lyJ | apply lywI | apply lywJ | apply csI | apply csJ | apply cswI | apply cswJ); assumption)) only [f_X12_because_b128, f_X12_because_j168, f_X12_because_j213, SM, LI, ↓li_m1, nI_add, pk_mul, nn_sub, nn_m1, nn_div, nn_rem, nn_nz, nn_mod, nJ_l, lN_add, lN_mul, nn_tb1, nI_bt, nn_and, nn_or, nn_xor, nn_shr, nn_1shl, nn_31, il_p, il_n, it_p, it_n, ie_p, ie_n, ie_b, ie_b1, ie_m, ie_mm, it_m, it_m0, il_m0, bI_rZ, Option.bind_some, bd2_some, Nat.add_zero, Nat.zero_add, if_true, if_false, Bool.false_eq_true, eq_self, hI_R, hJ_R, m6], b, rfl, hb, hmin⟩
  obtain ⟨_, e1, b, rfl, hb, hmin⟩ := e
  exact ⟨b, e1, hb, hmin⟩
theorem r_lp2 {h : aH} (hl : LAY h) {A : Nat → Nat} {P : Nat → Bool} {Q : Nat → Nat → Bool} (hc : CM h A P Q) (hw : WF A) {n d : Nat} {M : Nat → Nat → Nat} (hm : MM h n d M) (mw : MW A n d M) {S : Nat → Nat → Nat → Nat → Nat} (kb : KB h A P S M n) {q b : Nat} (hq : q < A 3) (how : Bool) (hb : b < 2 ^ n) : f_X12_because_l177 h 113 (nI q) (bI how) (nI b) (nI 0) = some (match firstB (fun m => bcN m == bcN b && prB A P (Q q) how S M n m) b with | some m => .inl (nI m) | none => .inr ()) := by
  obtain ⟨b0, b1, b2l, b2, b3, b4⟩ := wf_b hw
  have mn := mw.1
  have p12 : 2 ^ n ≤ 2 ^ 12 := Nat.pow_le_pow_right (by decide) mn
  have r2 := bc_r (h := h) (v := b) (by omega)
  have w2 := bc_w mn hb
  have bd : ∀ j, j < b → f_X12_because_b177 h 113 (nI q) (bI how) (nI b) (nI j) = if (bcN j == bcN b && prB A P (Q q) how S M n j) = true then some (.inr (.inl (nI j))) else some (.inl (nI (j + 1))) := fun j hj => by
    have r1 := bc_r (h := h) (v := j) (by omega)
    have w1 := bc_w mn (show j < 2 ^ n by omega)
    by_cases hx : bcN j = bcN b
    · have r3 := r_sureBy hl hc hw hm mw kb hq how (m := j) (by omega)
      rcases (Bool.eq_false_or_eq_true (prB A P (Q q) how S M n j)).symm with hp | hp
      · rw [hp] at r3
        rw [hp, Bool.and_false, if_neg (by decide)]
        simp (disch := first | assumption | omega | decide | ((repeat first | apply lyI | apply lyJ | apply lywI | apply lywJ | apply csI | apply csJ | apply cswI | apply cswJ); assumption)) only [f_X12_because_b177, f_X12_because_j168, f_X12_because_j213, SM, LI, ↓li_m1, nI_add, pk_mul, nn_sub, nn_m1, nn_div, nn_rem, nn_nz, nn_mod, nJ_l, lN_add, lN_mul, nn_tb1, nI_bt, nn_and, nn_or, nn_xor, nn_shr, nn_1shl, nn_31, il_p, il_n, it_p, it_n, ie_p, ie_n, ie_b, ie_b1, ie_m, ie_mm, it_m, it_m0, il_m0, bI_rZ, Option.bind_some, bd2_some, Nat.add_zero, Nat.zero_add, if_true, if_false, Bool.false_eq_true, eq_self, hI_R, hJ_R, r1, r2, hx, r3, bI_f]
      · rw [hp] at r3
        rw [hp, if_pos (by rw [hx]; simp)]
        simp (disch := first | assumption | omega | decide | ((repeat first | apply lyI | apply lyJ | apply lywI | apply lywJ | apply csI | apply csJ | apply cswI | apply cswJ); assumption)) only [f_X12_because_b177, f_X12_because_j168, f_X12_because_j213, SM, LI, ↓li_m1, nI_add, pk_mul, nn_sub, nn_m1, nn_div, nn_rem, nn_nz, nn_mod, nJ_l, lN_add, lN_mul, nn_tb1, nI_bt, nn_and, nn_or, nn_xor, nn_shr, nn_1shl, nn_31, il_p, il_n, it_p, it_n, ie_p, ie_n, ie_b, ie_b1, ie_m, ie_mm, it_m, it_m0, il_m0, bI_rZ, Option.bind_some, bd2_some, Nat.add_zero, Nat.zero_add, if_true, if_false, Bool.false_eq_true, eq_self, hI_R, hJ_R, r1, r2, hx, r3, bI_t]
    · rw [if_neg (by rw [beq_eq_false_iff_ne.mpr hx]; simp)]
      simp (disch := first | assumption | omega | decide | ((repeat first | apply lyI | apply lyJ | apply lywI | apply lywJ | apply csI | apply csJ | apply cswI | apply cswJ); assumption)) only [f_X12_because_b177, f_X12_because_j168, f_X12_because_j213, SM, LI, ↓li_m1, nI_add, pk_mul, nn_sub, nn_m1, nn_div, nn_rem, nn_nz, nn_mod, nJ_l, lN_add, lN_mul, nn_tb1, nI_bt, nn_and, nn_or, nn_xor, nn_shr, nn_1shl, nn_31, il_p, il_n, it_p, it_n, ie_p, ie_n, ie_b, ie_b1, ie_m, ie_mm, it_m, it_m0, il_m0, bI_rZ, Option.bind_some, bd2_some, Nat.add_zero, Nat.zero_add, if_true, if_false, Bool.false_eq_true, eq_self, hI_R, hJ_R, r1, r2]
  refine srch (fun j => nI j) (fun m => bcN m == bcN b && prB A P (Q q) how S M n m) b (fun m => (Sum.inl (nI m) : Int32 ⊕ Unit)) (Sum.inr ()) rfl (by omega) (fun j hj hx => ?_) (fun j hj hx => ?_) ?_
  · show f_X12_because_b177 h 113 (nI q) (bI how) (nI b) (nI j) = _
    rw [bd j hj, if_neg (by rw [hx]; decide)]
  · show f_X12_because_b177 h 113 (nI q) (bI how) (nI b) (nI j) = _
    rw [bd j hj, if_pos hx]
  · simp (disch := first | assumption | omega | decide | ((repeat first | apply lyI | apply lyJ | apply lywI | apply lywJ | apply csI | apply csJ | apply cswI | apply cswJ); assumption)) only [f_X12_because_b177, f_X12_because_j168, f_X12_because_j213, SM, LI, ↓li_m1, nI_add, pk_mul, nn_sub, nn_m1, nn_div, nn_rem, nn_nz, nn_mod, nJ_l, lN_add, lN_mul, nn_tb1, nI_bt, nn_and, nn_or, nn_xor, nn_shr, nn_1shl, nn_31, il_p, il_n, it_p, it_n, ie_p, ie_n, ie_b, ie_b1, ie_m, ie_mm, it_m, it_m0, il_m0, bI_rZ, Option.bind_some, bd2_some, Nat.add_zero, Nat.zero_add, if_true, if_false, Bool.false_eq_true, eq_self, hI_R, hJ_R]
