/-! ===== a world's answers, packed ===== -/
theorem sh3 : ∀ q, q < 12 → nI 3 <<< nI (2 * q) = nI (3 * 2 ^ (2 * q)) := by decide +kernel
theorem sh3_bit : ∀ q, q < 12 → ∀ s, s < 24 → (3 * 2 ^ (2 * q)).testBit s = decide (s / 2 = q) := by decide +kernel
theorem sh5 : ∀ b, b < 32 → nI b <<< nI 5 = nI (b * 2 ^ 5) ∧ nI b <<< nI 10 = nI (b * 2 ^ 10) ∧ nI b <<< nI 15 = nI (b * 2 ^ 15) := by decide +kernel
theorem orp {x y k : Nat} (h : x < 2 ^ k) : x ||| y * 2 ^ k = 2 ^ k * y + x := by rw [Nat.mul_comm, Nat.or_comm, ← Nat.two_pow_add_eq_or_of_lt h]
theorem pk_or {s : Nat → Nat} (h0 : s 0 < 32) (h1 : s 1 < 32) (h2 : s 2 < 32) (h3 : s 3 < 32) : ((s 0 ||| s 1 * 2 ^ 5) ||| s 2 * 2 ^ 10) ||| s 3 * 2 ^ 15 = pk5 s := by
  rw [orp (show s 0 < 2 ^ 5 from h0), orp (show 2 ^ 5 * s 1 + s 0 < 2 ^ 10 by omega), orp (show 2 ^ 10 * s 2 + (2 ^ 5 * s 1 + s 0) < 2 ^ 15 by omega)]
  unfold pk5
  omega
def otX (A : Nat → Nat) (P : Nat → Bool) (Q : Nat → Nat → Bool) (q : Nat) : Nat := ((meN A P Q q (A 2) &&& leN A P Q q (A 2)) &&& neN A P Q (A 2)) &&& (3 * 2 ^ (2 * q) ^^^ F32)
def hoX (A : Nat → Nat) (P : Nat → Bool) (Q : Nat → Nat → Bool) (v i q : Nat) : Nat := if (haN A P Q v i (A 2)).testBit q = true then (leN A P Q q (A 2) ^^^ F32) &&& (2 ^ (2 * q) ^^^ F32) else if (hsN A P Q v i (A 2)).testBit q = true then 0 else meN A P Q q (A 2) ^^^ F32
theorem b_other {h : aH} (hl : LAY h) {A : Nat → Nat} {P : Nat → Bool} {Q : Nat → Nat → Bool} (rs : RS h A P Q (A 2)) {q : Nat} (hq : q < A 3) (h3 : A 3 ≤ 12) : f_X0_otherThan h 43 (nI q) = some (nI (otX A P Q q)) := by
  obtain ⟨r4, rq⟩ := rs
  obtain ⟨y1, y2⟩ := rq q hq
  have t1 : gR h 0 43 2 = some 46 := gR_L hl (by decide) (by decide) (by decide +kernel)
  have t2 : gR h 0 43 3 = some 47 := gR_L hl (by decide) (by decide) (by decide +kernel)
  have t3 : lI h 46 (nI q) = some (nI (meN A P Q q (A 2))) := (lI_L hl (by decide) (show q < 12 by omega)).trans (congrArg some y1)
  have t4 : lI h 47 (nI q) = some (nI (leN A P Q q (A 2))) := (lI_L hl (by decide) (show q < 12 by omega)).trans (congrArg some y2)
  have t5 : gI h 0 43 4 = some (nI (neN A P Q (A 2))) := (gI_L hl 4 (by decide) (by decide)).trans (congrArg some r4)
  have t6 : (2 : Int32) * nI q &&& (31 : Int32) = nI (2 * q) := by
    rw [show (2 : Int32) = nI 2 from rfl, show (31 : Int32) = nI 31 from rfl, pk_mul, nn_and, nn_31 (by omega)]
  unfold f_X0_otherThan
  rw [t1, Option.bind_some, t3, Option.bind_some, t2, Option.bind_some, t4, Option.bind_some, t5, Option.bind_some, t6, show (3 : Int32) = nI 3 from rfl, sh3 q (by omega), li_m1, m1_n, nn_xor, nn_and, nn_and, nn_and]
  rfl
theorem b_honest {h : aH} (hl : LAY h) {A : Nat → Nat} {P : Nat → Bool} {Q : Nat → Nat → Bool} (rs : RS h A P Q (A 2)) {v i q : Nat} (gk : GK h A P Q v (A 2)) (hi : i < 256) (hq : q < A 3) (h3 : A 3 ≤ 12) : f_X0_honestTo h 43 (nI q) (nI i) = some (nI (hoX A P Q v i q)) := by
  obtain ⟨r4, rq⟩ := rs
  obtain ⟨y1, y2⟩ := rq q hq
  obtain ⟨k1, k2⟩ := gk i hi
  have s1 : gR h 0 43 0 = some 44 := gR_L hl (by decide) (by decide) (by decide +kernel)
  have s2 : gR h 0 43 1 = some 45 := gR_L hl (by decide) (by decide) (by decide +kernel)
  have t1 : gR h 0 43 2 = some 46 := gR_L hl (by decide) (by decide) (by decide +kernel)
  have t2 : gR h 0 43 3 = some 47 := gR_L hl (by decide) (by decide) (by decide +kernel)
  have u1 : lI h 44 (nI i) = some (nI (haN A P Q v i (A 2))) := (lI_L hl (by decide) (show i < 256 from hi)).trans (congrArg some k1)
  have u2 : lI h 45 (nI i) = some (nI (hsN A P Q v i (A 2))) := (lI_L hl (by decide) (show i < 256 from hi)).trans (congrArg some k2)
  have t3 : lI h 46 (nI q) = some (nI (meN A P Q q (A 2))) := (lI_L hl (by decide) (show q < 12 by omega)).trans (congrArg some y1)
  have t4 : lI h 47 (nI q) = some (nI (leN A P Q q (A 2))) := (lI_L hl (by decide) (show q < 12 by omega)).trans (congrArg some y2)
  have t6 : (2 : Int32) * nI q &&& (31 : Int32) = nI (2 * q) := by
    rw [show (2 : Int32) = nI 2 from rfl, show (31 : Int32) = nI 31 from rfl, pk_mul, nn_and, nn_31 (by omega)]
  have t7 : nI q &&& (31 : Int32) = nI q := by
    rw [show (31 : Int32) = nI 31 from rfl, nn_and, nn_31 (by omega)]
  have z : ∀ n, ((nI n >>> nI q) &&& (1 : Int32)) = bI (n.testBit q) := fun n => sb1 (by omega)
  unfold f_X0_honestTo hoX
  rw [s1, Option.bind_some, u1, Option.bind_some, t7, z]
  cases (haN A P Q v i (A 2)).testBit q
  · rw [if_pos (by decide), if_neg (by decide), s2, Option.bind_some, u2, Option.bind_some, z]
    cases (hsN A P Q v i (A 2)).testBit q
    · rw [if_pos (by decide), if_neg (by decide), t1, Option.bind_some, t3, Option.bind_some, li_m1, m1_n, nn_xor]
    · rw [if_neg (by decide), if_pos rfl]
      rfl
  · rw [if_neg (by decide), if_pos rfl, t2, Option.bind_some, t4, Option.bind_some, t6, li_m1, m1_n, show (1 : Int32) = nI 1 from rfl, nn_1shl _ (by omega), nn_xor, nn_xor, nn_and]
theorem ot_ff {A : Nat → Nat} (hw : WF A) {P : Nat → Bool} {Q : Nat → Nat → Bool} (wp : WP A P Q) {v w q : Nat} (hq : q < A 3) : ffN (fun s => (sgN A P Q v (kiN A v w (A 0)) &&& otX A P Q q).testBit s) 24 (2 * q) = otN A P Q v w q := by
  obtain ⟨b0, b1, b2l, b2, b3, b4⟩ := wf_b hw
  refine ff_ext (m := 2 * A 3) (q := otT A P Q v w q) (by omega) (fun s hs => ?_) (fun s h1 h2 => ?_)
  · obtain ⟨x1, x2, x4⟩ := me_bit hw wp hs hq
    unfold otX otT
    rw [Nat.testBit_and, sg_bit hw wp hs, Nat.testBit_and, Nat.testBit_and, Nat.testBit_and, x1, x2, x4, xF (by omega), sh3_bit q (by omega) s (by omega)]
    by_cases hx : s / 2 = q
    · simp [hx]
    · rw [decide_eq_false hx, bne_iff_ne.mpr hx]
      simp
  · rw [Nat.testBit_and, sg_hi h1, Bool.false_and]
theorem hn_ff {A : Nat → Nat} (hw : WF A) {P : Nat → Bool} {Q : Nat → Nat → Bool} (wp : WP A P Q) {v w q : Nat} (hq : q < A 3) : ffN (fun s => (sgN A P Q v (kiN A v w (A 0)) &&& hoX A P Q v (kiN A v w (A 0)) q).testBit s) 24 (2 * q) = hnN A P Q v w q := by
  obtain ⟨b0, b1, b2l, b2, b3, b4⟩ := wf_b hw
  obtain ⟨w1, w2⟩ := wi_ha hw wp (v := v) (w := w) hq
  have mt2 : mtB A P Q v w (2 * q) = wiB A P Q v w q := by
    unfold mtB wiB mnB
    simp only [show 2 * q % 2 = 0 by omega, show 2 * q / 2 = q by omega, if_true]
  unfold hnN hoX
  rw [w1, w2]
  by_cases h1 : wiB A P Q v w q = true
  · rw [if_pos h1, if_neg (by rw [h1]; simp)]
    refine ff_ext (m := 2 * A 3) (q := hnT A P Q v w q) (by omega) (fun s hs => ?_) (fun s h1 h2 => ?_)
    · obtain ⟨x1, x2, x4⟩ := me_bit hw wp hs hq
      unfold hnT
      rw [if_pos h1, Nat.testBit_and, sg_bit hw wp hs, Nat.testBit_and, xF (by omega), xF (by omega), x2, Nat.testBit_two_pow]
      by_cases hx : s = 2 * q
      · simp [hx]
      · rw [decide_eq_false (fun e => hx e.symm), bne_iff_ne.mpr hx]
        simp
    · rw [Nat.testBit_and, sg_hi h1, Bool.false_and]
  · rw [if_neg h1]
    rw [Bool.not_eq_true] at h1
    by_cases h2 : woB A P Q v w q = true
    · rw [if_neg (by rw [h2]; decide), if_neg (by rw [h2]; simp)]
      refine ff_ext (m := 2 * A 3) (q := hnT A P Q v w q) (by omega) (fun s hs => ?_) (fun s h1 h2 => ?_)
      · obtain ⟨x1, x2, x4⟩ := me_bit hw wp hs hq
        unfold hnT
        rw [h1, if_neg (by decide), Nat.testBit_and, sg_bit hw wp hs, xF (by omega), x1]
        by_cases hx : s = 2 * q
        · rw [hx, mt2, h1]
          simp
        · rw [bne_iff_ne.mpr hx]
          simp
      · rw [Nat.testBit_and, sg_hi h1, Bool.false_and]
    · rw [Bool.not_eq_true] at h2
      rw [h2, h1, Bool.not_false, if_pos rfl, if_pos (by decide), Nat.and_zero]
      unfold ffN
      rw [firstB_n.mpr (fun i _ => Nat.zero_testBit i)]
theorem b_fill1 {h : aH} {c : Nat} (hs : CS h c) {A : Nat → Nat} {P : Nat → Bool} {Q : Nat → Nat → Bool} (hc : CB h c A P Q) (hw : WF A) (hl : LAY h) (wp : WP A P Q) (rs : RS h A P Q (A 2)) {v w : Nat} (gk : GK h A P Q v (A 2)) (hv : v < A 4) (h1 : w < A 2) {q : Nat} (hq : q < A 3) : f_X0_fillWorld_b43 43 c (nI v) (nI w) (nI (kiN A v w (A 0))) (nI (sgN A P Q v (kiN A v w (A 0)))) (nI q) h = some (.inl (nI (q + 1), hI h (c + 15) ((v * 12 + q) * 256 + w) (nI (pk5 (anS A P Q v q w))))) := by
  obtain ⟨b0, b1, b2l, b2, b3, b4⟩ := wf_b hw
  have e3 := hc.1.2.2.2.2.1
  have eh := (hc.2.2.2.2.2 v hv).2.2
  have hl12 := (hw.2.2.2.2.2 v hv).2.2.2
  have kl := ki_lt hw wp.1 (v := v) (w := w)
  have sgl := sg_lt (A := A) (P := P) (Q := Q) (v := v) (i := kiN A v w (A 0))
  have r1 := b_other hl rs hq b3
  have r2 := x_first (h := h) (x := sgN A P Q v (kiN A v w (A 0)) &&& otX A P Q q) (e := 2 * q) (Nat.lt_of_le_of_lt Nat.and_le_left sgl)
  rw [ot_ff hw wp hq] at r2
  have r3 := b_honest hl rs gk (i := kiN A v w (A 0)) (by omega) hq b3
  have r4 := x_first (h := h) (x := sgN A P Q v (kiN A v w (A 0)) &&& hoX A P Q v (kiN A v w (A 0)) q) (e := 2 * q) (Nat.lt_of_le_of_lt Nat.and_le_left sgl)
  rw [hn_ff hw wp hq] at r4
  have l1 := hn_lt (P := P) (Q := Q) (v := v) (w := w) hq
  have l2 := ot_lt (P := P) (Q := Q) (v := v) (w := w) hq
  have l3 := x1_lt l1
  have keep : ∀ a b, anS A P Q v q w 0 = a → anS A P Q v q w 1 = b → a < 32 → b < 32 → f_X0_fillWorld_j132 h 43 c (nI v) (nI w) (nI (kiN A v w (A 0))) (nI (sgN A P Q v (kiN A v w (A 0)))) (nI q) (nI (2 * q)) (nI (otN A P Q v w q)) (nI a) (nI b) = some (.inl (nI (q + 1), hI h (c + 15) ((v * 12 + q) * 256 + w) (nI (pk5 (anS A P Q v q w))))) := fun a b ha hb a32 b32 => by
    have p := pk_or (s := anS A P Q v q w) (by omega) (by omega) (show otN A P Q v w q < 32 by omega) (show 2 * q < 32 by omega)
    rw [ha, hb, show anS A P Q v q w 2 = otN A P Q v w q from rfl, show anS A P Q v q w 3 = 2 * q from rfl] at p
    have s1 := (sh5 b b32).1
    have s2 := (sh5 (otN A P Q v w q) (by omega)).2.1
    have s3 := (sh5 (2 * q) (by omega)).2.2
    have n5 : nI 5 &&& nI 31 = nI 5 := by decide
    have n10 : nI 10 &&& nI 31 = nI 10 := by decide
    have n15 : nI 15 &&& nI 31 = nI 15 := by decide
    have pp : ((nI a ||| nI (b * 2 ^ 5)) ||| nI (otN A P Q v w q * 2 ^ 10)) ||| nI (2 * q * 2 ^ 15) = nI (pk5 (anS A P Q v q w)) := by rw [nn_or, nn_or, nn_or, p]
    simp (disch := first | assumption | omega | decide | ((repeat first | apply lyI | apply lyJ | apply lywI | apply lywJ | apply csI | apply csJ | apply cswI | apply cswJ); assumption)) only [f_X0_fillWorld_j132, f_X1_keepAnswers, SC, LI, ↓li_m1, nI_add, pk_mul, nn_sub, nn_m1, nn_div, nn_rem, nn_nz, nn_mod, nJ_l, lN_add, lN_mul, nn_tb1, nI_bt, nn_xor, nn_shr, nn_1shl, nn_31, il_p, il_n, it_p, it_n, ie_p, ie_n, ie_b, ie_b1, ie_m, ie_mm, it_m, it_m0, il_m0, bI_rZ, Option.bind_some, bd2_some, Nat.add_zero, Nat.zero_add, if_true, if_false, Bool.false_eq_true, eq_self, hI_R, hJ_R, ng_t, ng_e, n5, n10, n15, s1, s2, s3, pp]
  rcases (Bool.eq_false_or_eq_true ((A (76 + 6 * v + 5)).testBit q)).symm with hb | hb
  · by_cases he : hnN A P Q v w q = 2 * q
    · have := keep (hnN A P Q v w q) (2 * q) (by unfold anS; simp [hb]) (by unfold anS; simp [hb, he]) (by omega) (by omega)
      rw [he] at this r4
      simp (disch := first | assumption | omega | decide | ((repeat first | apply lyI | apply lyJ | apply lywI | apply lywJ | apply csI | apply csJ | apply cswI | apply cswJ); assumption)) only [f_X0_fillWorld_b43, f_X0_fillWorld_j130, SR, SC, LI, ↓li_m1, nI_add, pk_mul, nn_sub, nn_m1, nn_div, nn_rem, nn_nz, nn_mod, nJ_l, lN_add, lN_mul, nn_tb1, nI_bt, nn_and, nn_or, nn_xor, nn_shr, nn_1shl, nn_31, il_p, il_n, it_p, it_n, ie_p, ie_n, ie_b, ie_b1, ie_m, ie_mm, it_m, it_m0, il_m0, bI_rZ, Option.bind_some, bd2_some, Nat.add_zero, Nat.zero_add, if_true, if_false, Bool.false_eq_true, eq_self, hI_R, hJ_R, ng_t, ng_e, e3, r1, r2, eh, hb, bI_f, r3, r4, this]
    · have := keep (hnN A P Q v w q) (hnN A P Q v w q ^^^ 1) (by unfold anS; simp [hb]) (by unfold anS; simp [hb, he]) (by omega) (by omega)
      simp (disch := first | assumption | omega | decide | ((repeat first | apply lyI | apply lyJ | apply lywI | apply lywJ | apply csI | apply csJ | apply cswI | apply cswJ); assumption)) only [f_X0_fillWorld_b43, f_X0_fillWorld_j130, SR, SC, LI, ↓li_m1, nI_add, pk_mul, nn_sub, nn_m1, nn_div, nn_rem, nn_nz, nn_mod, nJ_l, lN_add, lN_mul, nn_tb1, nI_bt, nn_and, nn_or, nn_xor, nn_shr, nn_1shl, nn_31, il_p, il_n, it_p, it_n, ie_p, ie_n, ie_b, ie_b1, ie_m, ie_mm, it_m, it_m0, il_m0, bI_rZ, Option.bind_some, bd2_some, Nat.add_zero, Nat.zero_add, if_true, if_false, Bool.false_eq_true, eq_self, hI_R, hJ_R, ng_t, ng_e, e3, r1, r2, eh, hb, bI_f, r3, r4, this]
  · have := keep (otN A P Q v w q) (otN A P Q v w q) (by unfold anS; simp [hb]) (by unfold anS; simp [hb]) (by omega) (by omega)
    simp (disch := first | assumption | omega | decide | ((repeat first | apply lyI | apply lyJ | apply lywI | apply lywJ | apply csI | apply csJ | apply cswI | apply cswJ); assumption)) only [f_X0_fillWorld_b43, f_X0_fillWorld_j130, SR, SC, LI, ↓li_m1, nI_add, pk_mul, nn_sub, nn_m1, nn_div, nn_rem, nn_nz, nn_mod, nJ_l, lN_add, lN_mul, nn_tb1, nI_bt, nn_and, nn_or, nn_xor, nn_shr, nn_1shl, nn_31, il_p, il_n, it_p, it_n, ie_p, ie_n, ie_b, ie_b1, ie_m, ie_mm, it_m, it_m0, il_m0, bI_rZ, Option.bind_some, bd2_some, Nat.add_zero, Nat.zero_add, if_true, if_false, Bool.false_eq_true, eq_self, hI_R, hJ_R, ng_t, ng_e, e3, r1, r2, eh, hb, bI_t, this]
