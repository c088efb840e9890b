/-! ===== chance, trust, shortest ===== -/
def FQ (h : aH) : Prop := h.2.2.1 0 18 = h.2.2.1 113 4 ∧ h.2.2.1 0 19 = h.2.2.1 113 5
def TO (h : aH) (f g : aH → Option (Int32 × aH)) : Prop := ∃ r h1 h2, f h = some (r, h1) ∧ g h1 = some (r, h2) ∧ FR h h2 SCR [0, 113] [17] [3] ∧ ST h2 ∧ FQ h2
theorem to_qo {h : aH} {f g : aH → Option (Int32 × aH)} (fq : FQ h) (q : QO h f g) : TO h f g := by
  obtain ⟨r, h1, h2, e1, e2, f1, st⟩ := q
  refine ⟨r, h1, h2, e1, e2, f1.mono (fun _ h => h) (fun _ h => absurd h List.not_mem_nil) (fun _ h => h) (fun _ h => h), st, ?_⟩
  unfold FQ
  rw [f1.J 0 List.not_mem_nil, f1.J 113 List.not_mem_nil]
  exact fq
theorem wb_le {A : Nat → Nat} (hw : WF A) {F : Nat → Nat → Nat} {sel : Nat → Nat → Bool} {w : Nat} : ∀ m, m ≤ A 4 → wbF A F sel w m ≤ 6561 * 64 ^ m
  | 0, _ => by
    have := (wtN_le hw (w := w)).2
    show wtN A w ≤ 6561 * 1
    omega
  | m + 1, hm => by
    have h1 := wb_le hw (F := F) (sel := sel) (w := w) m (by omega)
    have h2 := kwN_le hw (sel := sel) (x := F m w) (show m < A 4 by omega) 4 (by decide)
    show wbF A F sel w m * kwN A sel (F m w) m 4 ≤ 6561 * 64 ^ (m + 1)
    rw [Nat.pow_succ, ← Nat.mul_assoc]
    exact Nat.mul_le_mul h1 h2
theorem wa_lt {A : Nat → Nat} (hw : WF A) {P : Nat → Bool} {F : Nat → Nat → Nat} {sel : Nat → Nat → Bool} {qs : Nat → Bool} : waN A P F sel qs (A 2) < 2 ^ 63 := by
  obtain ⟨b0, b1, b2l, b2, b3, b4⟩ := wf_b hw
  have h1 : ∀ w, wbN A F sel w ≤ 6561 * 64 ^ 4 := fun w => Nat.le_trans (wb_le hw (A 4) (Nat.le_refl _)) (Nat.mul_le_mul_left _ (Nat.pow_le_pow_right (by decide) b4))
  have h2 : waN A P F sel qs (A 2) ≤ 6561 * 64 ^ 4 * A 2 := sumN_le (fun i _ => by
    split
    · exact h1 i
    · exact Nat.zero_le _)
  have h3 : 6561 * 64 ^ 4 * A 2 ≤ 6561 * 64 ^ 4 * 256 := Nat.mul_le_mul_left _ b2
  have h4 : 6561 * 64 ^ 4 * 256 < 2 ^ 63 := by decide
  omega
theorem wb_pos {A : Nat → Nat} (hw : WF A) {P : Nat → Bool} {S : Nat → Nat → Nat → Nat → Nat} {M : Nat → Nat → Nat} {n w : Nat} {x : Int32} (hl : lvB A P S M n w = true) : ∀ m, m ≤ A 4 → 0 < wbF A (FT A P S M n) (selB m1 x) w m
  | 0, _ => (wtN_le hw (w := w)).1
  | m + 1, hm => by
    have ih := wb_pos hw (x := x) hl m (by omega)
    have b4 := hw.2.2.1
    refine Nat.mul_pos ih ?_
    have hp := lv_P hl
    have hv : FT A P S M n m w ≠ 0 := by
      rw [ft_fc hp]
      unfold lvB at hl
      rw [Bool.and_eq_true, allB_iff] at hl
      have := hl.2 m (by omega)
      simpa using this
    have hlt := FT_lt (A := A) (P := P) (S := S) (M := M) (n := n) m w
    have hb := nz_bit hlt
    rw [bne_iff_ne.mpr hv] at hb
    obtain ⟨k, k1, k2⟩ := anyB_iff.mp hb.symm
    have km : (mayN A m).testBit k = true := by
      rw [ft_fc hp, Nat.testBit_and, Bool.and_eq_true] at k2
      exact k2.2
    have ka : A (76 + 6 * m + k) ≠ 0 := by
      unfold mayN at km
      rw [orN_bit, anyB_iff] at km
      obtain ⟨i, i1, i2⟩ := km
      by_cases hx : A (76 + 6 * m + i) = 0
      · rw [if_pos hx, Nat.zero_testBit] at i2
        cases i2
      · rw [if_neg hx, Nat.testBit_two_pow] at i2
        have : i = k := by simpa using i2
        rw [← this]
        exact hx
    have : ∀ j, k < j → 0 < kwN A (selB m1 x) (FT A P S M n m w) m j := fun j => by
      induction j with
      | zero => intro h; omega
      | succ j ih =>
        intro h
        show 0 < kwN A (selB m1 x) (FT A P S M n m w) m j + (if ((FT A P S M n m w).testBit j && selB m1 x m j) = true then A (76 + 6 * m + j) else 0)
        rcases Nat.lt_or_ge k j with u | u
        · have := ih u
          omega
        · obtain rfl : k = j := by omega
          rw [if_pos (by rw [k2, sel_m1 (by omega)]; rfl)]
          omega
    exact this 4 k1
theorem sum_pos {f : Nat → Nat} {n i : Nat} (hi : i < n) (hf : 0 < f i) : 0 < sumN f n := by
  induction n with
  | zero => omega
  | succ n ih =>
    show 0 < sumN f n + f n
    rcases Nat.lt_or_ge i n with u | u
    · have := ih u
      omega
    · rw [show n = i by omega]
      omega
theorem wa_0 {A : Nat → Nat} (hw : WF A) {P : Nat → Bool} {S : Nat → Nat → Nat → Nat → Nat} {M : Nat → Nat → Nat} {n : Nat} {x : Int32} : waN A P (FT A P S M n) (selB m1 x) (fun _ => true) (A 2) = 0 ↔ cntB (lvB A P S M n) (A 2) = 0 := by
  unfold waN
  rw [lf_lv]
  constructor
  · intro h
    refine cntB_0.mpr (fun w hw2 => ?_)
    cases hl : lvB A P S M n w
    · rfl
    · have := sum_pos (f := fun w => if (lvB A P S M n w && true) = true then wbN A (FT A P S M n) (selB m1 x) w else 0) hw2 (by
        rw [hl]
        exact wb_pos hw hl (A 4) (Nat.le_refl _))
      exact absurd h (Nat.ne_of_gt this)
  · intro h
    rw [sumN_congr (q := fun _ => 0) (fun w hw2 => by rw [cntB_0.mp h w hw2]; rfl)]
    have : ∀ n, sumN (fun _ => 0) n = 0 := fun n => by
      induction n with
      | zero => rfl
      | succ n ih =>
        show sumN (fun _ => 0) n + 0 = 0
        omega
    exact this _
/-- both tell the same fraction -/
theorem to_mk {h : aH} {A : Nat → Nat} {P : Nat → Bool} {Q : Nat → Nat → Bool} {S : Nat → Nat → Nat → Nat → Nat} {n d : Nat} {M : Nat → Nat → Nat} {f g : aH → Option (Int32 × aH)} {a b : Nat} (ro : RO h A P Q S n d M) (e1 : f h = some (nI 1, hI (hJ (hJ h 0 18 (lN (a / Nat.gcd a b))) 0 19 (lN (b / Nat.gcd a b))) 0 17 (nI 0))) (hr : ∀ k, LAY k → CM k A P Q → MM k n d M → SY k A P S → ∃ k1, g k = some (nI 1, hI (hJ (hJ k1 113 4 (lN (a / Nat.gcd a b))) 113 5 (lN (b / Nat.gcd a b))) 113 3 (nI 0)) ∧ FR k k1 SCR [] [] []) : TO h f g := by
  have fa : FR h (hI (hJ (hJ h 0 18 (lN (a / Nat.gcd a b))) 0 19 (lN (b / Nat.gcd a b))) 0 17 (nI 0)) SCR [0, 113] [17] [3] := ((FR.hJ (by decide)).tr (FR.hJ (by decide))).tr (fr_0 (by decide))
  have rf := ro_fr fa (by decide) (by decide) (by decide) ro
  obtain ⟨k1, e2, f2⟩ := hr _ rf.1 rf.2.1 rf.2.2.2.1 rf.2.2.2.2.2
  refine ⟨_, _, _, e1, e2, (fa.tr (f2.mono (fun _ h => h) (fun _ h => absurd h List.not_mem_nil) (fun _ h => absurd h List.not_mem_nil) (fun _ h => absurd h List.not_mem_nil))).tr (((FR.hJ (by decide)).tr (FR.hJ (by decide))).tr (fr_1 (by decide))), ?_, ?_, ?_⟩
  · show k1.2.1 0 17 = nI 0
    rw [f2.2.2.2.2.1 17 List.not_mem_nil]
    rfl
  · show k1.2.2.1 0 18 = lN (a / Nat.gcd a b)
    rw [f2.J 0 List.not_mem_nil]
    rfl
  · show k1.2.2.1 0 19 = lN (b / Nat.gcd a b)
    rw [f2.J 0 List.not_mem_nil]
    rfl
theorem o_chance {h : aH} {c : Nat} {A : Nat → Nat} {P : Nat → Bool} {Q : Nat → Nat → Bool} {S : Nat → Nat → Nat → Nat → Nat} {n d : Nat} {M : Nat → Nat → Nat} (ko : KO h c A P Q S n d M) (ro : RO h A P Q S n d M) (fq : FQ h) (x : Int32) : TO h (fun g => f_X11_chance g 0 x) (fun g => f_X12_chance g 113 x) := by
  obtain ⟨hs, hc, hw, hl, hf, hm, mw, hr, hn⟩ := id ko
  obtain ⟨b0, b1, b2l, b2, b3, b4⟩ := wf_b hw
  obtain ⟨mn, md, mk, mi⟩ := id mw
  obtain ⟨⟨e0, e1, e2, e15, e3, e4, em⟩, -⟩ := id hc
  have hm4 : h.2.1 53 4 = nI n := hm.1
  have hm5 : h.2.1 53 5 = nI d := hm.2.1
  have gd : (∃ q, q < A 3 ∧ x = nI q) → TO h (fun g => f_X11_chance g 0 x) (fun g => f_X12_chance g 113 x) := fun ⟨q, qb, hx⟩ => by
    subst hx
    have hv : h.2.1 52 5 = nI (cntB (lvB A P S M n) (A 2)) := hr.1
    have cle := cntB_le (lvB A P S M n) (A 2)
    have rall : ∀ k, LAY k → CM k A P Q → MM k n d M → SY k A P S → ∃ g, f_X12_fitsAll k 113 = some g ∧ FR k g [129, 130] [] [] [] ∧ LAY g ∧ f_X12_weightAll g 113 m1 (nI 0) m1 = some (lN (waN A P (FT A P S M n) (selB m1 m1) (fun _ => true) (A 2))) ∧ f_X12_weightAll g 113 m1 (nI 0) (nI q) = some (lN (waN A P (FT A P S M n) (selB m1 m1) (Q q) (A 2))) := fun k kl kc km ks => by
      obtain ⟨g, e, fg, lg, cg, mg, sg, fb, pu, rl, rs⟩ := r_all kl kc hw km mw ks
      have r1 := r_weightAll lg cg hw fb FT_lt m1 (nI 0) m1 (qs := fun _ => true) (Or.inl ⟨rfl, fun _ => rfl⟩)
      have r2 := r_weightAll lg cg hw fb FT_lt m1 (nI 0) (nI q) (qs := Q q) (Or.inr ⟨q, qb, rfl, fun _ => rfl⟩)
      rw [wa_m1 hw (y := m1)] at r1 r2
      exact ⟨g, e, fg, lg, r1, r2⟩
    by_cases hz : cntB (lvB A P S M n) (A 2) = 0
    · exact to_qo fq (qo_mk (r := nI 0) (w := nI 6) ro ⟨h, by simp (disch := first | assumption | omega | decide | ((repeat first | apply lyI | apply lyJ | apply lywI | apply lywJ | apply csI | apply csJ | apply cswI | apply cswJ); assumption)) only [f_X11_chance, f_X11_below, f_X11_deny, S0, SC, SH52, LI, ↓li_m1, nI_add, pk_mul, nn_sub, nn_m1, nn_div, nn_rem, nn_nz, nn_mod, nJ_l, lN_add, lN_mul, nn_tb1, nI_bt, nn_and, nn_or, nn_xor, nn_shr, nn_1shl, nn_31, il_p, il_n, it_p, it_n, ie_p, ie_n, ie_b, ie_b1, ie_m, ie_mm, it_m, it_m0, il_m0, bI_rZ, Option.bind_some, bd2_some, Nat.add_zero, Nat.zero_add, if_true, if_false, Bool.false_eq_true, eq_self, hI_R, hJ_R, ng_t, ng_e, hn, e3, hv, hz]; rfl, FR.rf⟩ (fun k kl kc km ks => by
        obtain ⟨c0, c1, c2, c3, c4, cA⟩ := cm_e kc
        obtain ⟨g, e, fg, lg, r1, r2⟩ := rall k kl kc km ks
        rw [wa_0 hw |>.mpr hz] at r1
        have z := (lz_e (b := 0) (by decide)).mpr rfl
        exact ⟨g, by simp (disch := first | assumption | omega | decide | ((repeat first | apply lyI | apply lyJ | apply lywI | apply lywJ | apply csI | apply csJ | apply cswI | apply cswJ); assumption)) only [f_X12_chance, f_X12_isQuestion, f_X12_is, SM, LI, ↓li_m1, nI_add, pk_mul, nn_sub, nn_m1, nn_div, nn_rem, nn_nz, nn_mod, nJ_l, lN_add, lN_mul, nn_tb1, nI_bt, nn_and, nn_or, nn_xor, nn_shr, nn_1shl, nn_31, il_p, il_n, it_p, it_n, ie_p, ie_n, ie_b, ie_b1, ie_m, ie_mm, it_m, it_m0, il_m0, bI_rZ, Option.bind_some, bd2_some, Nat.add_zero, Nat.zero_add, if_true, if_false, Bool.false_eq_true, eq_self, hI_R, hJ_R, ng_t, ng_e, c3, e, r1, LJ, z]; rfl, fg.mono (by decide) (by decide) (by decide) (by decide)⟩))
    · have r1 := k_weightIn52 hs hc hw hl hf hm mw hr qb
      have r2 := k_weightWith52 hs hc hw hl hf hm mw hr m1 m1
      have b1' := wa_lt hw (P := P) (F := FT A P S M n) (sel := selB m1 m1) (qs := Q q)
      have b2' := wa_lt hw (P := P) (F := FT A P S M n) (sel := selB m1 m1) (qs := fun _ => true)
      have p : waN A P (FT A P S M n) (selB m1 m1) (fun _ => true) (A 2) ≠ 0 := fun e => hz ((wa_0 hw).mp e)
      have t := k_tell hl b1' b2' (by omega)
      refine to_mk ro (a := waN A P (FT A P S M n) (selB m1 m1) (Q q) (A 2)) (b := waN A P (FT A P S M n) (selB m1 m1) (fun _ => true) (A 2)) (by simp (disch := first | assumption | omega | decide | ((repeat first | apply lyI | apply lyJ | apply lywI | apply lywJ | apply csI | apply csJ | apply cswI | apply cswJ); assumption)) only [f_X11_chance, f_X11_below, f_X11_grant, f_X3_weightOfAll, S0, SC, SH52, LI, ↓li_m1, nI_add, pk_mul, nn_sub, nn_m1, nn_div, nn_rem, nn_nz, nn_mod, nJ_l, lN_add, lN_mul, nn_tb1, nI_bt, nn_and, nn_or, nn_xor, nn_shr, nn_1shl, nn_31, il_p, il_n, it_p, it_n, ie_p, ie_n, ie_b, ie_b1, ie_m, ie_mm, it_m, it_m0, il_m0, bI_rZ, Option.bind_some, bd2_some, Nat.add_zero, Nat.zero_add, if_true, if_false, Bool.false_eq_true, eq_self, hI_R, hJ_R, ng_t, ng_e, hn, e3, hv, r1, r2, t]; rfl) (fun k kl kc km ks => by
        obtain ⟨c0, c1, c2, c3, c4, cA⟩ := cm_e kc
        obtain ⟨g, e, fg, lg, r3, r4⟩ := rall k kl kc km ks
        have z : ¬ lg_cmp (lN (waN A P (FT A P S M n) (selB m1 m1) (fun _ => true) (A 2))) (lN 0) = nI 0 := fun e => p ((lz_e b2').mp e)
        have t2 := r_tells lg b1' b2' (by omega)
        exact ⟨g, by simp (disch := first | assumption | omega | decide | ((repeat first | apply lyI | apply lyJ | apply lywI | apply lywJ | apply csI | apply csJ | apply cswI | apply cswJ); assumption)) only [f_X12_chance, f_X12_isQuestion, SM, LI, ↓li_m1, nI_add, pk_mul, nn_sub, nn_m1, nn_div, nn_rem, nn_nz, nn_mod, nJ_l, lN_add, lN_mul, nn_tb1, nI_bt, nn_and, nn_or, nn_xor, nn_shr, nn_1shl, nn_31, il_p, il_n, it_p, it_n, ie_p, ie_n, ie_b, ie_b1, ie_m, ie_mm, it_m, it_m0, il_m0, bI_rZ, Option.bind_some, bd2_some, Nat.add_zero, Nat.zero_add, if_true, if_false, Bool.false_eq_true, eq_self, hI_R, hJ_R, ng_t, ng_e, c3, e, r3, r4, LJ, if_neg z, t2]; rfl, fg.mono (by decide) (by decide) (by decide) (by decide)⟩)
  rcases neg_or x with hx | ⟨q, q1, hq⟩
  · exact to_qo fq (qo_mk (r := nI 0) (w := nI 1) ro ⟨h, by simp (disch := first | assumption | omega | decide | ((repeat first | apply lyI | apply lyJ | apply lywI | apply lywJ | apply csI | apply csJ | apply cswI | apply cswJ); assumption)) only [f_X11_chance, f_X11_below, f_X11_deny, S0, SC, SH52, LI, ↓li_m1, nI_add, pk_mul, nn_sub, nn_m1, nn_div, nn_rem, nn_nz, nn_mod, nJ_l, lN_add, lN_mul, nn_tb1, nI_bt, nn_and, nn_or, nn_xor, nn_shr, nn_1shl, nn_31, il_p, il_n, it_p, it_n, ie_p, ie_n, ie_b, ie_b1, ie_m, ie_mm, it_m, it_m0, il_m0, bI_rZ, Option.bind_some, bd2_some, Nat.add_zero, Nat.zero_add, if_true, if_false, Bool.false_eq_true, eq_self, hI_R, hJ_R, ng_t, ng_e, hn, e3]; rfl, FR.rf⟩ (fun k kl kc km ks => by
      obtain ⟨c0, c1, c2, c3, c4, cA⟩ := cm_e kc
      exact ⟨k, by simp (disch := first | assumption | omega | decide | ((repeat first | apply lyI | apply lyJ | apply lywI | apply lywJ | apply csI | apply csJ | apply cswI | apply cswJ); assumption)) only [f_X12_chance, f_X12_isQuestion, f_X12_is, SM, LI, ↓li_m1, nI_add, pk_mul, nn_sub, nn_m1, nn_div, nn_rem, nn_nz, nn_mod, nJ_l, lN_add, lN_mul, nn_tb1, nI_bt, nn_and, nn_or, nn_xor, nn_shr, nn_1shl, nn_31, il_p, il_n, it_p, it_n, ie_p, ie_n, ie_b, ie_b1, ie_m, ie_mm, it_m, it_m0, il_m0, bI_rZ, Option.bind_some, bd2_some, Nat.add_zero, Nat.zero_add, if_true, if_false, Bool.false_eq_true, eq_self, hI_R, hJ_R, ng_t, ng_e, c3]; rfl, FR.rf⟩))
  · rcases (Nat.lt_or_ge q (A 3)).symm with qb | qb
    · subst hq
      exact to_qo fq (qo_mk (r := nI 0) (w := nI 1) ro ⟨h, by simp (disch := first | assumption | omega | decide | ((repeat first | apply lyI | apply lyJ | apply lywI | apply lywJ | apply csI | apply csJ | apply cswI | apply cswJ); assumption)) only [f_X11_chance, f_X11_below, f_X11_deny, S0, SC, SH52, LI, ↓li_m1, nI_add, pk_mul, nn_sub, nn_m1, nn_div, nn_rem, nn_nz, nn_mod, nJ_l, lN_add, lN_mul, nn_tb1, nI_bt, nn_and, nn_or, nn_xor, nn_shr, nn_1shl, nn_31, il_p, il_n, it_p, it_n, ie_p, ie_n, ie_b, ie_b1, ie_m, ie_mm, it_m, it_m0, il_m0, bI_rZ, Option.bind_some, bd2_some, Nat.add_zero, Nat.zero_add, if_true, if_false, Bool.false_eq_true, eq_self, hI_R, hJ_R, ng_t, ng_e, hn, e3]; rfl, FR.rf⟩ (fun k kl kc km ks => by
        obtain ⟨c0, c1, c2, c3, c4, cA⟩ := cm_e kc
        exact ⟨k, by simp (disch := first | assumption | omega | decide | ((repeat first | apply lyI | apply lyJ | apply lywI | apply lywJ | apply csI | apply csJ | apply cswI | apply cswJ); assumption)) only [f_X12_chance, f_X12_isQuestion, f_X12_is, SM, LI, ↓li_m1, nI_add, pk_mul, nn_sub, nn_m1, nn_div, nn_rem, nn_nz, nn_mod, nJ_l, lN_add, lN_mul, nn_tb1, nI_bt, nn_and, nn_or, nn_xor, nn_shr, nn_1shl, nn_31, il_p, il_n, it_p, it_n, ie_p, ie_n, ie_b, ie_b1, ie_m, ie_mm, it_m, it_m0, il_m0, bI_rZ, Option.bind_some, bd2_some, Nat.add_zero, Nat.zero_add, if_true, if_false, Bool.false_eq_true, eq_self, hI_R, hJ_R, ng_t, ng_e, c3]; rfl, FR.rf⟩))
    · exact gd ⟨q, qb, hq⟩
theorem o_trust {h : aH} {c : Nat} {A : Nat → Nat} {P : Nat → Bool} {Q : Nat → Nat → Bool} {S : Nat → Nat → Nat → Nat → Nat} {n d : Nat} {M : Nat → Nat → Nat} (ko : KO h c A P Q S n d M) (ro : RO h A P Q S n d M) (fq : FQ h) (x y : Int32) : TO h (fun g => f_X11_trust g 0 x y) (fun g => f_X12_trust g 113 x y) := by
  obtain ⟨hs, hc, hw, hl, hf, hm, mw, hr, hn⟩ := id ko
  obtain ⟨b0, b1, b2l, b2, b3, b4⟩ := wf_b hw
  obtain ⟨mn, md, mk, mi⟩ := id mw
  obtain ⟨⟨e0, e1, e2, e15, e3, e4, em⟩, -⟩ := id hc
  have hm4 : h.2.1 53 4 = nI n := hm.1
  have hm5 : h.2.1 53 5 = nI d := hm.2.1
  have gd : (∃ v q, v < A 4 ∧ q < 4 ∧ x = nI v ∧ y = nI q) → TO h (fun g => f_X11_trust g 0 x y) (fun g => f_X12_trust g 113 x y) := fun ⟨v, q, vb, qb, hx, hy⟩ => by
    subst hx
    subst hy
    have hv : h.2.1 52 5 = nI (cntB (lvB A P S M n) (A 2)) := hr.1
    have cle := cntB_le (lvB A P S M n) (A 2)
    have rall : ∀ k, LAY k → CM k A P Q → MM k n d M → SY k A P S → ∃ g, f_X12_fitsAll k 113 = some g ∧ FR k g [129, 130] [] [] [] ∧ LAY g ∧ f_X12_weightAll g 113 m1 (nI 0) m1 = some (lN (waN A P (FT A P S M n) (selB m1 m1) (fun _ => true) (A 2))) ∧ f_X12_weightAll g 113 (nI v) (nI q) m1 = some (lN (waN A P (FT A P S M n) (selB (nI v) (nI q)) (fun _ => true) (A 2))) := fun k kl kc km ks => by
      obtain ⟨g, e, fg, lg, cg, mg, sg, fb, pu, rl, rs⟩ := r_all kl kc hw km mw ks
      have r1 := r_weightAll lg cg hw fb FT_lt m1 (nI 0) m1 (qs := fun _ => true) (Or.inl ⟨rfl, fun _ => rfl⟩)
      have r2 := r_weightAll lg cg hw fb FT_lt (nI v) (nI q) m1 (qs := fun _ => true) (Or.inl ⟨rfl, fun _ => rfl⟩)
      rw [wa_m1 hw (y := m1)] at r1
      exact ⟨g, e, fg, lg, r1, r2⟩
    by_cases hz : cntB (lvB A P S M n) (A 2) = 0
    · exact to_qo fq (qo_mk (r := nI 0) (w := nI 6) ro ⟨h, by simp (disch := first | assumption | omega | decide | ((repeat first | apply lyI | apply lyJ | apply lywI | apply lywJ | apply csI | apply csJ | apply cswI | apply cswJ); assumption)) only [f_X11_trust, f_X11_trust_j22, f_X11_below, f_X11_deny, S0, SC, SH52, LI, ↓li_m1, nI_add, pk_mul, nn_sub, nn_m1, nn_div, nn_rem, nn_nz, nn_mod, nJ_l, lN_add, lN_mul, nn_tb1, nI_bt, nn_and, nn_or, nn_xor, nn_shr, nn_1shl, nn_31, il_p, il_n, it_p, it_n, ie_p, ie_n, ie_b, ie_b1, ie_m, ie_mm, it_m, it_m0, il_m0, bI_rZ, Option.bind_some, bd2_some, Nat.add_zero, Nat.zero_add, if_true, if_false, Bool.false_eq_true, eq_self, hI_R, hJ_R, ng_t, ng_e, hn, e4, hv, hz]; rfl, FR.rf⟩ (fun k kl kc km ks => by
        obtain ⟨c0, c1, c2, c3, c4, cA⟩ := cm_e kc
        obtain ⟨g, e, fg, lg, r1, r2⟩ := rall k kl kc km ks
        rw [wa_0 hw |>.mpr hz] at r1
        have z := (lz_e (b := 0) (by decide)).mpr rfl
        exact ⟨g, by simp (disch := first | assumption | omega | decide | ((repeat first | apply lyI | apply lyJ | apply lywI | apply lywJ | apply csI | apply csJ | apply cswI | apply cswJ); assumption)) only [f_X12_trust, f_X12_trust_j15, f_X12_isWitness, f_X12_isKind, f_X12_is, SM, LI, ↓li_m1, nI_add, pk_mul, nn_sub, nn_m1, nn_div, nn_rem, nn_nz, nn_mod, nJ_l, lN_add, lN_mul, nn_tb1, nI_bt, nn_and, nn_or, nn_xor, nn_shr, nn_1shl, nn_31, il_p, il_n, it_p, it_n, ie_p, ie_n, ie_b, ie_b1, ie_m, ie_mm, it_m, it_m0, il_m0, bI_rZ, Option.bind_some, bd2_some, Nat.add_zero, Nat.zero_add, if_true, if_false, Bool.false_eq_true, eq_self, hI_R, hJ_R, ng_t, ng_e, c4, e, r1, LJ, z]; rfl, fg.mono (by decide) (by decide) (by decide) (by decide)⟩))
    · have r1 := k_weightWith52 hs hc hw hl hf hm mw hr (nI v) (nI q)
      have r2 := k_weightWith52 hs hc hw hl hf hm mw hr m1 m1
      have b1' := wa_lt hw (P := P) (F := FT A P S M n) (sel := selB (nI v) (nI q)) (qs := fun _ => true)
      have b2' := wa_lt hw (P := P) (F := FT A P S M n) (sel := selB m1 m1) (qs := fun _ => true)
      have p : waN A P (FT A P S M n) (selB m1 m1) (fun _ => true) (A 2) ≠ 0 := fun e => hz ((wa_0 hw).mp e)
      have t := k_tell hl b1' b2' (by omega)
      refine to_mk ro (a := waN A P (FT A P S M n) (selB (nI v) (nI q)) (fun _ => true) (A 2)) (b := waN A P (FT A P S M n) (selB m1 m1) (fun _ => true) (A 2)) (by simp (disch := first | assumption | omega | decide | ((repeat first | apply lyI | apply lyJ | apply lywI | apply lywJ | apply csI | apply csJ | apply cswI | apply cswJ); assumption)) only [f_X11_trust, f_X11_trust_j22, f_X11_below, f_X11_grant, f_X3_weightOfAll, S0, SC, SH52, LI, ↓li_m1, nI_add, pk_mul, nn_sub, nn_m1, nn_div, nn_rem, nn_nz, nn_mod, nJ_l, lN_add, lN_mul, nn_tb1, nI_bt, nn_and, nn_or, nn_xor, nn_shr, nn_1shl, nn_31, il_p, il_n, it_p, it_n, ie_p, ie_n, ie_b, ie_b1, ie_m, ie_mm, it_m, it_m0, il_m0, bI_rZ, Option.bind_some, bd2_some, Nat.add_zero, Nat.zero_add, if_true, if_false, Bool.false_eq_true, eq_self, hI_R, hJ_R, ng_t, ng_e, hn, e4, hv, r1, r2, t]; rfl) (fun k kl kc km ks => by
        obtain ⟨c0, c1, c2, c3, c4, cA⟩ := cm_e kc
        obtain ⟨g, e, fg, lg, r3, r4⟩ := rall k kl kc km ks
        have z : ¬ lg_cmp (lN (waN A P (FT A P S M n) (selB m1 m1) (fun _ => true) (A 2))) (lN 0) = nI 0 := fun e => p ((lz_e b2').mp e)
        have t2 := r_tells lg b1' b2' (by omega)
        exact ⟨g, by simp (disch := first | assumption | omega | decide | ((repeat first | apply lyI | apply lyJ | apply lywI | apply lywJ | apply csI | apply csJ | apply cswI | apply cswJ); assumption)) only [f_X12_trust, f_X12_trust_j15, f_X12_isWitness, f_X12_isKind, SM, LI, ↓li_m1, nI_add, pk_mul, nn_sub, nn_m1, nn_div, nn_rem, nn_nz, nn_mod, nJ_l, lN_add, lN_mul, nn_tb1, nI_bt, nn_and, nn_or, nn_xor, nn_shr, nn_1shl, nn_31, il_p, il_n, it_p, it_n, ie_p, ie_n, ie_b, ie_b1, ie_m, ie_mm, it_m, it_m0, il_m0, bI_rZ, Option.bind_some, bd2_some, Nat.add_zero, Nat.zero_add, if_true, if_false, Bool.false_eq_true, eq_self, hI_R, hJ_R, ng_t, ng_e, c4, e, r3, r4, LJ, if_neg z, t2]; rfl, fg.mono (by decide) (by decide) (by decide) (by decide)⟩)
  rcases neg_or x with hx | ⟨v, v1, rfl⟩
  · exact to_qo fq (qo_mk (r := nI 0) (w := nI 1) ro ⟨h, by simp (disch := first | assumption | omega | decide | ((repeat first | apply lyI | apply lyJ | apply lywI | apply lywJ | apply csI | apply csJ | apply cswI | apply cswJ); assumption)) only [f_X11_trust, f_X11_trust_j22, f_X11_below, f_X11_deny, S0, SC, SH52, LI, ↓li_m1, nI_add, pk_mul, nn_sub, nn_m1, nn_div, nn_rem, nn_nz, nn_mod, nJ_l, lN_add, lN_mul, nn_tb1, nI_bt, nn_and, nn_or, nn_xor, nn_shr, nn_1shl, nn_31, il_p, il_n, it_p, it_n, ie_p, ie_n, ie_b, ie_b1, ie_m, ie_mm, it_m, it_m0, il_m0, bI_rZ, Option.bind_some, bd2_some, Nat.add_zero, Nat.zero_add, if_true, if_false, Bool.false_eq_true, eq_self, hI_R, hJ_R, ng_t, ng_e, hn, e4]; rfl, FR.rf⟩ (fun k kl kc km ks => by
    obtain ⟨c0, c1, c2, c3, c4, cA⟩ := cm_e kc
    exact ⟨k, by simp (disch := first | assumption | omega | decide | ((repeat first | apply lyI | apply lyJ | apply lywI | apply lywJ | apply csI | apply csJ | apply cswI | apply cswJ); assumption)) only [f_X12_trust, f_X12_trust_j15, f_X12_isWitness, f_X12_isKind, f_X12_is, SM, LI, ↓li_m1, nI_add, pk_mul, nn_sub, nn_m1, nn_div, nn_rem, nn_nz, nn_mod, nJ_l, lN_add, lN_mul, nn_tb1, nI_bt, nn_and, nn_or, nn_xor, nn_shr, nn_1shl, nn_31, il_p, il_n, it_p, it_n, ie_p, ie_n, ie_b, ie_b1, ie_m, ie_mm, it_m, it_m0, il_m0, bI_rZ, Option.bind_some, bd2_some, Nat.add_zero, Nat.zero_add, if_true, if_false, Bool.false_eq_true, eq_self, hI_R, hJ_R, ng_t, ng_e, c4]; rfl, FR.rf⟩))
  rcases (Nat.lt_or_ge v (A 4)).symm with vb | vb
  · exact to_qo fq (qo_mk (r := nI 0) (w := nI 1) ro ⟨h, by simp (disch := first | assumption | omega | decide | ((repeat first | apply lyI | apply lyJ | apply lywI | apply lywJ | apply csI | apply csJ | apply cswI | apply cswJ); assumption)) only [f_X11_trust, f_X11_trust_j22, f_X11_below, f_X11_deny, S0, SC, SH52, LI, ↓li_m1, nI_add, pk_mul, nn_sub, nn_m1, nn_div, nn_rem, nn_nz, nn_mod, nJ_l, lN_add, lN_mul, nn_tb1, nI_bt, nn_and, nn_or, nn_xor, nn_shr, nn_1shl, nn_31, il_p, il_n, it_p, it_n, ie_p, ie_n, ie_b, ie_b1, ie_m, ie_mm, it_m, it_m0, il_m0, bI_rZ, Option.bind_some, bd2_some, Nat.add_zero, Nat.zero_add, if_true, if_false, Bool.false_eq_true, eq_self, hI_R, hJ_R, ng_t, ng_e, hn, e4]; rfl, FR.rf⟩ (fun k kl kc km ks => by
    obtain ⟨c0, c1, c2, c3, c4, cA⟩ := cm_e kc
    exact ⟨k, by simp (disch := first | assumption | omega | decide | ((repeat first | apply lyI | apply lyJ | apply lywI | apply lywJ | apply csI | apply csJ | apply cswI | apply cswJ); assumption)) only [f_X12_trust, f_X12_trust_j15, f_X12_isWitness, f_X12_isKind, f_X12_is, SM, LI, ↓li_m1, nI_add, pk_mul, nn_sub, nn_m1, nn_div, nn_rem, nn_nz, nn_mod, nJ_l, lN_add, lN_mul, nn_tb1, nI_bt, nn_and, nn_or, nn_xor, nn_shr, nn_1shl, nn_31, il_p, il_n, it_p, it_n, ie_p, ie_n, ie_b, ie_b1, ie_m, ie_mm, it_m, it_m0, il_m0, bI_rZ, Option.bind_some, bd2_some, Nat.add_zero, Nat.zero_add, if_true, if_false, Bool.false_eq_true, eq_self, hI_R, hJ_R, ng_t, ng_e, c4]; rfl, FR.rf⟩))
  rcases neg_or y with hy | ⟨q, q1, rfl⟩
  · exact to_qo fq (qo_mk (r := nI 0) (w := nI 1) ro ⟨h, by simp (disch := first | assumption | omega | decide | ((repeat first | apply lyI | apply lyJ | apply lywI | apply lywJ | apply csI | apply csJ | apply cswI | apply cswJ); assumption)) only [f_X11_trust, f_X11_trust_j22, f_X11_below, f_X11_deny, S0, SC, SH52, LI, ↓li_m1, nI_add, pk_mul, nn_sub, nn_m1, nn_div, nn_rem, nn_nz, nn_mod, nJ_l, lN_add, lN_mul, nn_tb1, nI_bt, nn_and, nn_or, nn_xor, nn_shr, nn_1shl, nn_31, il_p, il_n, it_p, it_n, ie_p, ie_n, ie_b, ie_b1, ie_m, ie_mm, it_m, it_m0, il_m0, bI_rZ, Option.bind_some, bd2_some, Nat.add_zero, Nat.zero_add, if_true, if_false, Bool.false_eq_true, eq_self, hI_R, hJ_R, ng_t, ng_e, hn, e4]; rfl, FR.rf⟩ (fun k kl kc km ks => by
    obtain ⟨c0, c1, c2, c3, c4, cA⟩ := cm_e kc
    exact ⟨k, by simp (disch := first | assumption | omega | decide | ((repeat first | apply lyI | apply lyJ | apply lywI | apply lywJ | apply csI | apply csJ | apply cswI | apply cswJ); assumption)) only [f_X12_trust, f_X12_trust_j15, f_X12_isWitness, f_X12_isKind, f_X12_is, SM, LI, ↓li_m1, nI_add, pk_mul, nn_sub, nn_m1, nn_div, nn_rem, nn_nz, nn_mod, nJ_l, lN_add, lN_mul, nn_tb1, nI_bt, nn_and, nn_or, nn_xor, nn_shr, nn_1shl, nn_31, il_p, il_n, it_p, it_n, ie_p, ie_n, ie_b, ie_b1, ie_m, ie_mm, it_m, it_m0, il_m0, bI_rZ, Option.bind_some, bd2_some, Nat.add_zero, Nat.zero_add, if_true, if_false, Bool.false_eq_true, eq_self, hI_R, hJ_R, ng_t, ng_e, c4]; rfl, FR.rf⟩))
  rcases (Nat.lt_or_ge q 4).symm with qb | qb
  · exact to_qo fq (qo_mk (r := nI 0) (w := nI 1) ro ⟨h, by simp (disch := first | assumption | omega | decide | ((repeat first | apply lyI | apply lyJ | apply lywI | apply lywJ | apply csI | apply csJ | apply cswI | apply cswJ); assumption)) only [f_X11_trust, f_X11_trust_j22, f_X11_below, f_X11_deny, S0, SC, SH52, LI, ↓li_m1, nI_add, pk_mul, nn_sub, nn_m1, nn_div, nn_rem, nn_nz, nn_mod, nJ_l, lN_add, lN_mul, nn_tb1, nI_bt, nn_and, nn_or, nn_xor, nn_shr, nn_1shl, nn_31, il_p, il_n, it_p, it_n, ie_p, ie_n, ie_b, ie_b1, ie_m, ie_mm, it_m, it_m0, il_m0, bI_rZ, Option.bind_some, bd2_some, Nat.add_zero, Nat.zero_add, if_true, if_false, Bool.false_eq_true, eq_self, hI_R, hJ_R, ng_t, ng_e, hn, e4]; rfl, FR.rf⟩ (fun k kl kc km ks => by
    obtain ⟨c0, c1, c2, c3, c4, cA⟩ := cm_e kc
    exact ⟨k, by simp (disch := first | assumption | omega | decide | ((repeat first | apply lyI | apply lyJ | apply lywI | apply lywJ | apply csI | apply csJ | apply cswI | apply cswJ); assumption)) only [f_X12_trust, f_X12_trust_j15, f_X12_isWitness, f_X12_isKind, f_X12_is, SM, LI, ↓li_m1, nI_add, pk_mul, nn_sub, nn_m1, nn_div, nn_rem, nn_nz, nn_mod, nJ_l, lN_add, lN_mul, nn_tb1, nI_bt, nn_and, nn_or, nn_xor, nn_shr, nn_1shl, nn_31, il_p, il_n, it_p, it_n, ie_p, ie_n, ie_b, ie_b1, ie_m, ie_mm, it_m, it_m0, il_m0, bI_rZ, Option.bind_some, bd2_some, Nat.add_zero, Nat.zero_add, if_true, if_false, Bool.false_eq_true, eq_self, hI_R, hJ_R, ng_t, ng_e, c4]; rfl, FR.rf⟩))
  exact gd ⟨v, q, vb, qb, rfl, rfl⟩
/-- which the first is, on both sides -/
def FP (h : aH) : Prop := (h.2.1 0 15 = m1 ∧ h.2.1 113 37 = m1) ∨ ∃ v q, v < 4 ∧ q < 12 ∧ h.2.1 0 15 = nI (v * 12 + q) ∧ h.2.1 113 37 = nI v ∧ h.2.1 113 38 = nI q
def SO (h : aH) (f g : aH → Option (Int32 × aH)) : Prop := ∃ r h1 h2, f h = some (r, h1) ∧ g h1 = some (r, h2) ∧ FR h h2 SCR [] [17, 15] [3, 37, 38] ∧ ST h2 ∧ FP h2
theorem so_qo {h : aH} {f g : aH → Option (Int32 × aH)} (fp : FP h) (q : QO h f g) : SO h f g := by
  obtain ⟨r, h1, h2, e1, e2, f1, st⟩ := q
  refine ⟨r, h1, h2, e1, e2, f1.mono (fun _ h => h) (fun _ h => h) (by decide) (by decide), st, ?_⟩
  unfold FP
  rw [f1.2.2.2.2.1 15 (by decide), f1.2.2.2.2.2 37 (by decide), f1.2.2.2.2.2 38 (by decide)]
  exact fp
theorem o_shortestFirst {h : aH} {c : Nat} {A : Nat → Nat} {P : Nat → Bool} {Q : Nat → Nat → Bool} {S : Nat → Nat → Nat → Nat → Nat} {n d : Nat} {M : Nat → Nat → Nat} (ko : KO h c A P Q S n d M) (ro : RO h A P Q S n d M) (fp : FP h) (x : Int32) : SO h (fun g => f_X11_shortestFirst g 0 x) (fun g => f_X12_shortestFirst g 113 x) := by
  refine so_qo fp ?_
  obtain ⟨hs, hc, hw, hl, hf, hm, mw, hr, hn⟩ := id ko
  obtain ⟨b0, b1, b2l, b2, b3, b4⟩ := wf_b hw
  obtain ⟨mn, md, mk, mi⟩ := id mw
  obtain ⟨⟨e0, e1, e2, e15, e3, e4, em⟩, -⟩ := id hc
  have hm4 : h.2.1 53 4 = nI n := hm.1
  have hm5 : h.2.1 53 5 = nI d := hm.2.1
  rcases neg_or x with hxx | ⟨v, v1, rfl⟩
  · exact qo_mk (r := m1) (w := nI 1) ro ⟨h, by simp (disch := first | assumption | omega | decide | ((repeat first | apply lyI | apply lyJ | apply lywI | apply lywJ | apply csI | apply csJ | apply cswI | apply cswJ); assumption)) only [f_X11_shortestFirst, f_X11_shortestFirst_j51, f_X11_below, f_X11_refuse, f_X11_deny, S0, SC, SH52, LI, ↓li_m1, nI_add, pk_mul, nn_sub, nn_m1, nn_div, nn_rem, nn_nz, nn_mod, nJ_l, lN_add, lN_mul, nn_tb1, nI_bt, nn_and, nn_or, nn_xor, nn_shr, nn_1shl, nn_31, il_p, il_n, it_p, it_n, ie_p, ie_n, ie_b, ie_b1, ie_m, ie_mm, it_m, it_m0, il_m0, bI_rZ, Option.bind_some, bd2_some, Nat.add_zero, Nat.zero_add, if_true, if_false, Bool.false_eq_true, eq_self, hI_R, hJ_R, ng_t, ng_e, hn, e0, e1, e2, e3, e4, hm4], FR.rf⟩ (fun k kl kc km ks => by
    obtain ⟨c0, c1, c2, c3, c4, cA⟩ := cm_e kc
    obtain ⟨m5, m6, mM⟩ := id km
    exact ⟨k, by simp (disch := first | assumption | omega | decide | ((repeat first | apply lyI | apply lyJ | apply lywI | apply lywJ | apply csI | apply csJ | apply cswI | apply cswJ); assumption)) only [f_X12_shortestFirst, f_X12_shortestFirst_j50, f_X12_shortestFirst_j9, f_X12_isWitness, f_X12_isWorld, f_X12_isQuestion, f_X12_isKind, f_X12_refuse, f_X12_is, SM, LI, ↓li_m1, nI_add, pk_mul, nn_sub, nn_m1, nn_div, nn_rem, nn_nz, nn_mod, nJ_l, lN_add, lN_mul, nn_tb1, nI_bt, nn_and, nn_or, nn_xor, nn_shr, nn_1shl, nn_31, il_p, il_n, it_p, it_n, ie_p, ie_n, ie_b, ie_b1, ie_m, ie_mm, it_m, it_m0, il_m0, bI_rZ, Option.bind_some, bd2_some, Nat.add_zero, Nat.zero_add, if_true, if_false, Bool.false_eq_true, eq_self, hI_R, hJ_R, ng_t, ng_e, c0, c1, c2, c3, c4, m5, m6], FR.rf⟩)
  rcases (Nat.lt_or_ge v (2)).symm with vb | vb
  · exact qo_mk (r := m1) (w := nI 1) ro ⟨h, by simp (disch := first | assumption | omega | decide | ((repeat first | apply lyI | apply lyJ | apply lywI | apply lywJ | apply csI | apply csJ | apply cswI | apply cswJ); assumption)) only [f_X11_shortestFirst, f_X11_shortestFirst_j51, f_X11_below, f_X11_refuse, f_X11_deny, S0, SC, SH52, LI, ↓li_m1, nI_add, pk_mul, nn_sub, nn_m1, nn_div, nn_rem, nn_nz, nn_mod, nJ_l, lN_add, lN_mul, nn_tb1, nI_bt, nn_and, nn_or, nn_xor, nn_shr, nn_1shl, nn_31, il_p, il_n, it_p, it_n, ie_p, ie_n, ie_b, ie_b1, ie_m, ie_mm, it_m, it_m0, il_m0, bI_rZ, Option.bind_some, bd2_some, Nat.add_zero, Nat.zero_add, if_true, if_false, Bool.false_eq_true, eq_self, hI_R, hJ_R, ng_t, ng_e, hn, e0, e1, e2, e3, e4, hm4], FR.rf⟩ (fun k kl kc km ks => by
    obtain ⟨c0, c1, c2, c3, c4, cA⟩ := cm_e kc
    obtain ⟨m5, m6, mM⟩ := id km
    exact ⟨k, by simp (disch := first | assumption | omega | decide | ((repeat first | apply lyI | apply lyJ | apply lywI | apply lywJ | apply csI | apply csJ | apply cswI | apply cswJ); assumption)) only [f_X12_shortestFirst, f_X12_shortestFirst_j50, f_X12_shortestFirst_j9, f_X12_isWitness, f_X12_isWorld, f_X12_isQuestion, f_X12_isKind, f_X12_refuse, f_X12_is, SM, LI, ↓li_m1, nI_add, pk_mul, nn_sub, nn_m1, nn_div, nn_rem, nn_nz, nn_mod, nJ_l, lN_add, lN_mul, nn_tb1, nI_bt, nn_and, nn_or, nn_xor, nn_shr, nn_1shl, nn_31, il_p, il_n, it_p, it_n, ie_p, ie_n, ie_b, ie_b1, ie_m, ie_mm, it_m, it_m0, il_m0, bI_rZ, Option.bind_some, bd2_some, Nat.add_zero, Nat.zero_add, if_true, if_false, Bool.false_eq_true, eq_self, hI_R, hJ_R, ng_t, ng_e, c0, c1, c2, c3, c4, m5, m6], FR.rf⟩)
  have kk : ∀ k, (∃ w, k = hI h 0 17 w) → k.2.1 113 37 = h.2.1 113 37 ∧ k.2.1 113 38 = h.2.1 113 38 := by
    rintro _ ⟨w, rfl⟩
    exact ⟨rfl, rfl⟩
  rcases fp with ⟨p1, p2⟩ | ⟨a, b, a4, b12, p1, p2, p3⟩
  · refine ⟨m1, hI h 0 17 (nI 6), hI (hI h 0 17 (nI 6)) 113 3 (nI 6), by simp (disch := first | assumption | omega | decide | ((repeat first | apply lyI | apply lyJ | apply lywI | apply lywJ | apply csI | apply csJ | apply cswI | apply cswJ); assumption)) only [f_X11_shortestFirst, f_X11_shortestFirst_j51, f_X11_below, f_X11_refuse, S0, LI, ↓li_m1, nI_add, pk_mul, nn_sub, nn_m1, nn_div, nn_rem, nn_nz, nn_mod, nJ_l, lN_add, lN_mul, nn_tb1, nI_bt, nn_and, nn_or, nn_xor, nn_shr, nn_1shl, nn_31, il_p, il_n, it_p, it_n, ie_p, ie_n, ie_b, ie_b1, ie_m, ie_mm, it_m, it_m0, il_m0, bI_rZ, Option.bind_some, bd2_some, Nat.add_zero, Nat.zero_add, if_true, if_false, Bool.false_eq_true, eq_self, hI_R, hJ_R, ng_t, ng_e, p1], ?_, (fr_0 (by decide)).tr (fr_1 (by decide)), rfl⟩
    have q2 : (hI h 0 17 (nI 6)).2.1 113 37 = m1 := p2
    simp (disch := first | assumption | omega | decide | ((repeat first | apply lyI | apply lyJ | apply lywI | apply lywJ | apply csI | apply csJ | apply cswI | apply cswJ); assumption)) only [f_X12_shortestFirst, f_X12_shortestFirst_j50, f_X12_shortestFirst_j9, f_X12_refuse, SM, LI, ↓li_m1, nI_add, pk_mul, nn_sub, nn_m1, nn_div, nn_rem, nn_nz, nn_mod, nJ_l, lN_add, lN_mul, nn_tb1, nI_bt, nn_and, nn_or, nn_xor, nn_shr, nn_1shl, nn_31, il_p, il_n, it_p, it_n, ie_p, ie_n, ie_b, ie_b1, ie_m, ie_mm, it_m, it_m0, il_m0, bI_rZ, Option.bind_some, bd2_some, Nat.add_zero, Nat.zero_add, if_true, if_false, Bool.false_eq_true, eq_self, hI_R, hJ_R, ng_t, ng_e, q2]
  · have d1 : (a * 12 + b) / 12 = a := by omega
    have d2 : (a * 12 + b) % 12 = b := by omega
    rcases (show v = 0 ∨ v = 1 by omega) with rfl | rfl
    · refine ⟨nI a, hI h 0 17 (nI 0), hI (hI h 0 17 (nI 0)) 113 3 (nI 0), by simp (disch := first | assumption | omega | decide | ((repeat first | apply lyI | apply lyJ | apply lywI | apply lywJ | apply csI | apply csJ | apply cswI | apply cswJ); assumption)) only [f_X11_shortestFirst, f_X11_shortestFirst_j51, f_X11_below, f_X11_give, S0, LI, ↓li_m1, nI_add, pk_mul, nn_sub, nn_m1, nn_div, nn_rem, nn_nz, nn_mod, nJ_l, lN_add, lN_mul, nn_tb1, nI_bt, nn_and, nn_or, nn_xor, nn_shr, nn_1shl, nn_31, il_p, il_n, it_p, it_n, ie_p, ie_n, ie_b, ie_b1, ie_m, ie_mm, it_m, it_m0, il_m0, bI_rZ, Option.bind_some, bd2_some, Nat.add_zero, Nat.zero_add, if_true, if_false, Bool.false_eq_true, eq_self, hI_R, hJ_R, ng_t, ng_e, p1, d1], ?_, (fr_0 (by decide)).tr (fr_1 (by decide)), rfl⟩
      have q2 : (hI h 0 17 (nI 0)).2.1 113 37 = nI a := p2
      simp (disch := first | assumption | omega | decide | ((repeat first | apply lyI | apply lyJ | apply lywI | apply lywJ | apply csI | apply csJ | apply cswI | apply cswJ); assumption)) only [f_X12_shortestFirst, f_X12_shortestFirst_j50, f_X12_shortestFirst_j9, f_X12_gives, SM, LI, ↓li_m1, nI_add, pk_mul, nn_sub, nn_m1, nn_div, nn_rem, nn_nz, nn_mod, nJ_l, lN_add, lN_mul, nn_tb1, nI_bt, nn_and, nn_or, nn_xor, nn_shr, nn_1shl, nn_31, il_p, il_n, it_p, it_n, ie_p, ie_n, ie_b, ie_b1, ie_m, ie_mm, it_m, it_m0, il_m0, bI_rZ, Option.bind_some, bd2_some, Nat.add_zero, Nat.zero_add, if_true, if_false, Bool.false_eq_true, eq_self, hI_R, hJ_R, ng_t, ng_e, q2]
    · refine ⟨nI b, hI h 0 17 (nI 0), hI (hI h 0 17 (nI 0)) 113 3 (nI 0), by simp (disch := first | assumption | omega | decide | ((repeat first | apply lyI | apply lyJ | apply lywI | apply lywJ | apply csI | apply csJ | apply cswI | apply cswJ); assumption)) only [f_X11_shortestFirst, f_X11_shortestFirst_j51, f_X11_below, f_X11_give, S0, LI, ↓li_m1, nI_add, pk_mul, nn_sub, nn_m1, nn_div, nn_rem, nn_nz, nn_mod, nJ_l, lN_add, lN_mul, nn_tb1, nI_bt, nn_and, nn_or, nn_xor, nn_shr, nn_1shl, nn_31, il_p, il_n, it_p, it_n, ie_p, ie_n, ie_b, ie_b1, ie_m, ie_mm, it_m, it_m0, il_m0, bI_rZ, Option.bind_some, bd2_some, Nat.add_zero, Nat.zero_add, if_true, if_false, Bool.false_eq_true, eq_self, hI_R, hJ_R, ng_t, ng_e, p1, d2]; try rfl, ?_, (fr_0 (by decide)).tr (fr_1 (by decide)), rfl⟩
      have q2 : (hI h 0 17 (nI 0)).2.1 113 37 = nI a := p2
      have q3 : (hI h 0 17 (nI 0)).2.1 113 38 = nI b := p3
      simp (disch := first | assumption | omega | decide | ((repeat first | apply lyI | apply lyJ | apply lywI | apply lywJ | apply csI | apply csJ | apply cswI | apply cswJ); assumption)) only [f_X12_shortestFirst, f_X12_shortestFirst_j50, f_X12_shortestFirst_j9, f_X12_gives, SM, LI, ↓li_m1, nI_add, pk_mul, nn_sub, nn_m1, nn_div, nn_rem, nn_nz, nn_mod, nJ_l, lN_add, lN_mul, nn_tb1, nI_bt, nn_and, nn_or, nn_xor, nn_shr, nn_1shl, nn_31, il_p, il_n, it_p, it_n, ie_p, ie_n, ie_b, ie_b1, ie_m, ie_mm, it_m, it_m0, il_m0, bI_rZ, Option.bind_some, bd2_some, Nat.add_zero, Nat.zero_add, if_true, if_false, Bool.false_eq_true, eq_self, hI_R, hJ_R, ng_t, ng_e, q2, q3]
